/-! KM: the reference: prove, its walks -/
set_option maxHeartbeats 4000000 in
theorem t_mpv0 {d : Nat} {Q : KO → Prop} {h : KH} (hw : WF h) {v : Int32} (q : inB v 0 4 = false) (hd : 8 ≤ d) (hQ : Q (some (.int (-1)), h)) : Cl d 259 [.ref 59, .int (v)] h Q := by
  refine Cl.of (ls := [some (.ref 59), some (.int (v)), none, none]) rfl rfl ?_
  refine Wp.seg 3 (pc1 := 3) (ls1 := [some (.ref 59), some (.int (v)), none, none]) (st1 := [.int (4), .int (0), .int (v)]) rfl ?_
  refine Wp.inv (d2 := 0) (as := [.int (v), .int (0), .int (4)]) (r := []) rfl rfl rfl rfl rfl rfl (by omega) (s_inB (x := 0) (y := 4) rfl rfl ?_)
  show Wp d 259 6 [some (.ref 59), some (.int (v)), none, none] [.int (b32 (inB v 0 4))] h Q
  refine Wp.ifnz rfl (fun c1 => absurd (c1.symm.trans (q)) (by decide)) (fun c1 => ?_)
  refine Wp.seg 1 (pc1 := 10) (ls1 := [some (.ref 59), some (.int (v)), none, none]) (st1 := [.int (-1)]) rfl ?_
  exact Wp.reti rfl rfl hQ
set_option maxHeartbeats 4000000 in
theorem t_mpv1 {d : Nat} {Q : KO → Prop} {h : KH} (hw : WF h) {A : Nat → Int32} {RL : List Rul} {n c dn en : Nat} (hk : refOK h A RL n c dn en) {m : Nat} (hm : m ≤ 4) (q : inB (Int32.ofNat m) 0 4 = true) (hd : 8 ≤ d) (hQ : ∀ k, Fr pF noP h k → k.2.2.1 60 = h.2.2.1 60 → keep59 h k → refB k (n + 1) (min m (en - dn)) (PL RL c n 0 (min m (en - dn)) A) → (Wp d 259 22 ([some (.ref 59), some (.int (Int32.ofNat m)), some (.int (Int32.ofNat (min m (en - dn)))), none]) [] k Q)) : Cl d 259 [.ref 59, .int (Int32.ofNat m)] h Q := by
  refine Cl.of (ls := [some (.ref 59), some (.int (Int32.ofNat m)), none, none]) rfl rfl ?_
  refine Wp.seg 3 (pc1 := 3) (ls1 := [some (.ref 59), some (.int (Int32.ofNat m)), none, none]) (st1 := [.int (4), .int (0), .int (Int32.ofNat m)]) rfl ?_
  refine Wp.inv (d2 := 0) (as := [.int (Int32.ofNat m), .int (0), .int (4)]) (r := []) rfl rfl rfl rfl rfl rfl (by omega) (s_inB (x := 0) (y := 4) rfl rfl ?_)
  show Wp d 259 6 [some (.ref 59), some (.int (Int32.ofNat m)), none, none] [.int (b32 (inB (Int32.ofNat m) 0 4))] h Q
  refine Wp.ifnz rfl (fun c1 => ?_) (fun c1 => absurd (c1.symm.trans (q)) (by decide))
  refine Wp.seg 2 (pc1 := 13) (ls1 := [some (.ref 59), some (.int (Int32.ofNat m)), none, none]) (st1 := [.int (Int32.ofNat m), .ref 59]) rfl ?_
  refine Wp.invV (d2 := 0) (as := [.ref 59, .int (Int32.ofNat m)]) (r := []) (t := (11, 0)) rfl rfl rfl rfl (WF.t hw 59 rfl) rfl rfl ⟨rfl, rfl⟩ (by omega) (r_months hw hk hm ?_)
  show Wp d 259 16 [some (.ref 59), some (.int (Int32.ofNat m)), none, none] [.int (Int32.ofNat (min m (en - dn)))] h Q
  refine Wp.seg 3 (pc1 := 19) (ls1 := [some (.ref 59), some (.int (Int32.ofNat m)), some (.int (Int32.ofNat (min m (en - dn)))), none]) (st1 := [.int (Int32.ofNat m), .ref 59]) rfl ?_
  refine Wp.invV (d2 := 7) (as := [.ref 59, .int (Int32.ofNat m)]) (r := []) (t := (11, 0)) rfl rfl rfl rfl (WF.t hw 59 rfl) rfl rfl ⟨rfl, rfl⟩ (by omega) (r_find (set := 0) hw hk hm (Nat.le_refl _) ?_)
  intro k f e1 e2 e3
  show Wp d 259 22 [some (.ref 59), some (.int (Int32.ofNat m)), some (.int (Int32.ofNat (min m (en - dn)))), none] [] k Q
  exact (hQ k f e1 e2 e3)
set_option maxHeartbeats 4000000 in
theorem t_mpv2 {d : Nat} {Q : KO → Prop} {h : KH} (hw : WF h) {A : Nat → Int32} {RL : List Rul} {n c dn en : Nat} (hk : refOK h A RL n c dn en) {v : Int32} {L : Nat} (hd : 2 ≤ d) (hQ : ∀ k, Fr (fun c => c = 62) noP h k → refTh k (h.2.2.1 60) A RL n c dn en → (Wp d 259 28 ([some (.ref 59), some (.int (v)), some (.int (Int32.ofNat L)), some (.int (0))]) [] k Q)) : Wp d 259 22 [some (.ref 59), some (.int (v)), some (.int (Int32.ofNat L)), none] [] h Q := by
  refine Wp.seg 1 (pc1 := 23) (ls1 := [some (.ref 59), some (.int (v)), some (.int (Int32.ofNat L)), none]) (st1 := [.ref 59]) rfl ?_
  refine Wp.invV (d2 := 1) (as := [.ref 59]) (r := []) (t := (11, 0)) rfl rfl rfl rfl (WF.t hw 59 rfl) rfl rfl ⟨rfl, rfl⟩ (by omega) (r_thinks hw hk (Nat.le_refl _) ?_)
  intro k f g
  show Wp d 259 26 [some (.ref 59), some (.int (v)), some (.int (Int32.ofNat L)), none] [] k Q
  refine Wp.seg 2 (pc1 := 28) (ls1 := [some (.ref 59), some (.int (v)), some (.int (Int32.ofNat L)), some (.int (0))]) (st1 := []) rfl ?_
  exact (hQ k f g)
theorem three0 (i : Nat) : (3 : Int32) * Int32.ofNat i = Int32.ofNat (3 * i) := by
  rw [show (3 : Int32) = Int32.ofNat 3 from rfl, ← Int32.ofNat_mul]
set_option maxHeartbeats 4000000 in
theorem t_mpv4 {d : Nat} {Q : KO → Prop} {h : KH} (hw : WF h) {S A : Nat → Int32} {RL : List Rul} {n c dn en : Nat} (hk : refTh h S A RL n c dn en) {v : Int32} {L i p : Nat} (ge : ¬ (Int32.ofNat L ≤ Int32.ofNat i)) (hiL : i < L) (hL : L ≤ 4) (hp : p < (n + 1) ^ L) (h15 : h.2.2.1 59 15 = Int32.ofNat p) (hS8 : S 8 = Int32.ofNat n) (hlt : dn < en) (ht : okT n (Int32.ofNat ((digsR (n + 1) L p).getD i 0) - 1)) (hd : 6 ≤ d) (hQ : ∀ k, Fr pM noP (kwi h 67 (3 * i) (Int32.ofNat ((digsR (n + 1) L p).getD i 0))) k → refOK k (goA RL A (Int32.ofNat ((digsR (n + 1) L p).getD i 0) - 1)) RL n c (dn + 1) en → keepS (k.2.2.1 60) (h.2.2.1 60) → (Wp d 259 28 ([some (.ref 59), some (.int (v)), some (.int (Int32.ofNat L)), some (.int ((Int32.ofNat i) + 1))]) [] (kwi (kwi k 67 ((3 * i + 1)) (wA RL A (Int32.ofNat ((digsR (n + 1) L p).getD i 0) - 1))) 67 ((3 * i + 2)) (shA c (goA RL A (Int32.ofNat ((digsR (n + 1) L p).getD i 0) - 1)))) Q)) : Wp d 259 28 [some (.ref 59), some (.int (v)), some (.int (Int32.ofNat L)), some (.int (Int32.ofNat i))] [] h Q := by
  refine Wp.seg 2 (pc1 := 30) (ls1 := [some (.ref 59), some (.int (v)), some (.int (Int32.ofNat L)), some (.int (Int32.ofNat i))]) (st1 := [.int (Int32.ofNat L), .int (Int32.ofNat i)]) rfl ?_
  refine Wp.if2 rfl (fun c1 => absurd c1 (ge)) (fun c1 => ?_)
  refine Wp.seg 1 (pc1 := 34) (ls1 := [some (.ref 59), some (.int (v)), some (.int (Int32.ofNat L)), some (.int (Int32.ofNat i))]) (st1 := [.ref 59]) rfl ?_
  refine Wp.gr (t := (11, 0)) (v := some (67)) rfl (WF.t hw 59 rfl) rfl (WF.r hw 59 21 65 rfl) ?_
  show Wp d 259 37 [some (.ref 59), some (.int (v)), some (.int (Int32.ofNat L)), some (.int (Int32.ofNat i))] [.ref 67] h Q
  refine Wp.seg 4 (pc1 := 41) (ls1 := [some (.ref 59), some (.int (v)), some (.int (Int32.ofNat L)), some (.int (Int32.ofNat i))]) (st1 := [.ref 59, .int ((3 : Int32) * (Int32.ofNat i)), .ref 67]) rfl ?_
  refine Wp.gi (t := (11, 0)) rfl (WF.t hw 59 rfl) (Or.inl rfl) ?_
  rw [show h.2.2.1 59 15 = Int32.ofNat p from h15]
  refine Wp.seg 1 (pc1 := 45) (ls1 := [some (.ref 59), some (.int (v)), some (.int (Int32.ofNat L)), some (.int (Int32.ofNat i))]) (st1 := [.ref 59, .int (Int32.ofNat p), .int ((3 : Int32) * (Int32.ofNat i)), .ref 67]) rfl ?_
  refine Wp.gr (t := (11, 0)) (v := some (62)) rfl (WF.t hw 59 rfl) rfl (WF.r hw 59 2 60 rfl) ?_
  show Wp d 259 48 [some (.ref 59), some (.int (v)), some (.int (Int32.ofNat L)), some (.int (Int32.ofNat i))] [.ref 62, .int (Int32.ofNat p), .int ((3 : Int32) * (Int32.ofNat i)), .ref 67] h Q
  refine Wp.seg 1 (pc1 := 50) (ls1 := [some (.ref 59), some (.int (v)), some (.int (Int32.ofNat L)), some (.int (Int32.ofNat i))]) (st1 := [.int (8), .ref 62, .int (Int32.ofNat p), .int ((3 : Int32) * (Int32.ofNat i)), .ref 67]) rfl ?_
  refine Wp.iald (j := 8) (k := 20) (n := 585) rfl (WF.t hw 62 rfl) rfl rfl (by decide) (by decide) ?_
  rw [show h.2.2.1 62 8 = Int32.ofNat n from (hk.2.1 8 (by decide)).trans hS8]
  refine Wp.seg 4 (pc1 := 55) (ls1 := [some (.ref 59), some (.int (v)), some (.int (Int32.ofNat L)), some (.int (Int32.ofNat i))]) (st1 := [.int (Int32.ofNat L), .int (Int32.ofNat i), .int ((Int32.ofNat n) + (1 : Int32)), .int (Int32.ofNat p), .int ((3 : Int32) * (Int32.ofNat i)), .ref 67]) rfl ?_
  refine Wp.inv (d2 := 0) (as := [.int (Int32.ofNat p), .int ((Int32.ofNat n) + (1 : Int32)), .int (Int32.ofNat i), .int (Int32.ofNat L)]) (r := [.int ((3 : Int32) * (Int32.ofNat i)), .ref 67]) rfl rfl rfl rfl rfl rfl (by omega) (r_dig (Int32.ofNat_add n 1).symm hk.1.2.1.1 hL hiL hp ?_)
  show Wp d 259 58 [some (.ref 59), some (.int (v)), some (.int (Int32.ofNat L)), some (.int (Int32.ofNat i))] [.int (Int32.ofNat ((digsR (n + 1) L p).getD i 0)), .int ((3 : Int32) * (Int32.ofNat i)), .ref 67] h Q
  refine Wp.iast (j := (3 * i)) (n := 12) rfl (WF.t hw 67 rfl) (three0 i) (by omega) (by decide) ?_
  refine Wp.seg 1 (pc1 := 60) (ls1 := [some (.ref 59), some (.int (v)), some (.int (Int32.ofNat L)), some (.int (Int32.ofNat i))]) (st1 := [.ref 59]) rfl ?_
  refine Wp.gr (t := (11, 0)) (v := some (67)) rfl (WF.t hw 59 rfl) rfl (WF.r hw 59 21 65 rfl) ?_
  show Wp d 259 63 [some (.ref 59), some (.int (v)), some (.int (Int32.ofNat L)), some (.int (Int32.ofNat i))] [.ref 67] (kwi h 67 ((3 * i)) (Int32.ofNat ((digsR (n + 1) L p).getD i 0))) Q
  refine Wp.seg 7 (pc1 := 70) (ls1 := [some (.ref 59), some (.int (v)), some (.int (Int32.ofNat L)), some (.int (Int32.ofNat i))]) (st1 := [.ref 59, .ref 59, .int (((3 : Int32) * (Int32.ofNat i)) + (1 : Int32)), .ref 67]) rfl ?_
  refine Wp.gr (t := (11, 0)) (v := some (67)) rfl (WF.t hw 59 rfl) rfl (WF.r hw 59 21 65 rfl) ?_
  show Wp d 259 73 [some (.ref 59), some (.int (v)), some (.int (Int32.ofNat L)), some (.int (Int32.ofNat i))] [.ref 67, .ref 59, .int (((3 : Int32) * (Int32.ofNat i)) + (1 : Int32)), .ref 67] (kwi h 67 ((3 * i)) (Int32.ofNat ((digsR (n + 1) L p).getD i 0))) Q
  refine Wp.seg 3 (pc1 := 76) (ls1 := [some (.ref 59), some (.int (v)), some (.int (Int32.ofNat L)), some (.int (Int32.ofNat i))]) (st1 := [.int ((3 : Int32) * (Int32.ofNat i)), .ref 67, .ref 59, .int (((3 : Int32) * (Int32.ofNat i)) + (1 : Int32)), .ref 67]) rfl ?_
  refine Wp.iald (j := (3 * i)) (k := 20) (n := 12) rfl (WF.t hw 67 rfl) rfl (three0 i) (by omega) (by decide) ?_
  rw [show (kwi h 67 ((3 * i)) (Int32.ofNat ((digsR (n + 1) L p).getD i 0))).2.2.1 67 ((3 * i)) = Int32.ofNat ((digsR (n + 1) L p).getD i 0) from kwi_s]
  refine Wp.seg 2 (pc1 := 79) (ls1 := [some (.ref 59), some (.int (v)), some (.int (Int32.ofNat L)), some (.int (Int32.ofNat i))]) (st1 := [.int ((Int32.ofNat ((digsR (n + 1) L p).getD i 0)) - (1 : Int32)), .ref 59, .int (((3 : Int32) * (Int32.ofNat i)) + (1 : Int32)), .ref 67]) rfl ?_
  refine Wp.invV (d2 := 5) (as := [.ref 59, .int ((Int32.ofNat ((digsR (n + 1) L p).getD i 0)) - (1 : Int32))]) (r := [.int (((3 : Int32) * (Int32.ofNat i)) + (1 : Int32)), .ref 67]) (t := (11, 0)) rfl rfl rfl rfl (WF.t hw 59 rfl) rfl rfl ⟨rfl, rfl⟩ (by omega) (s_goesF (h := kwi h 67 (3 * i) (Int32.ofNat ((digsR (n + 1) L p).getD i 0))) hw (refOK_eq hk.1 rfl) hlt ht (Nat.le_refl _) ?_)
  intro k f g e
  show Wp d 259 82 [some (.ref 59), some (.int (v)), some (.int (Int32.ofNat L)), some (.int (Int32.ofNat i))] [.int (wA RL A (Int32.ofNat ((digsR (n + 1) L p).getD i 0) - 1)), .int (((3 : Int32) * (Int32.ofNat i)) + (1 : Int32)), .ref 67] k Q
  refine Wp.iast (j := (3 * i + 1)) (n := 12) rfl (WF.t (f.wf hw (fun z => z)) 67 rfl) (three i 1) (by omega) (by decide) ?_
  refine Wp.seg 1 (pc1 := 84) (ls1 := [some (.ref 59), some (.int (v)), some (.int (Int32.ofNat L)), some (.int (Int32.ofNat i))]) (st1 := [.ref 59]) rfl ?_
  refine Wp.gr (t := (11, 0)) (v := some (67)) rfl (WF.t (f.wf hw (fun z => z)) 59 rfl) rfl (WF.r (f.wf hw (fun z => z)) 59 21 65 rfl) ?_
  show Wp d 259 87 [some (.ref 59), some (.int (v)), some (.int (Int32.ofNat L)), some (.int (Int32.ofNat i))] [.ref 67] (kwi k 67 ((3 * i + 1)) (wA RL A (Int32.ofNat ((digsR (n + 1) L p).getD i 0) - 1))) Q
  refine Wp.seg 6 (pc1 := 93) (ls1 := [some (.ref 59), some (.int (v)), some (.int (Int32.ofNat L)), some (.int (Int32.ofNat i))]) (st1 := [.ref 59, .int (((3 : Int32) * (Int32.ofNat i)) + (2 : Int32)), .ref 67]) rfl ?_
  refine Wp.invV (d2 := 3) (as := [.ref 59]) (r := [.int (((3 : Int32) * (Int32.ofNat i)) + (2 : Int32)), .ref 67]) (t := (11, 0)) rfl rfl rfl rfl (WF.t (f.wf hw (fun z => z)) 59 rfl) rfl rfl ⟨rfl, rfl⟩ (by omega) (r_shut (h := kwi k 67 (3 * i + 1) (wA RL A (Int32.ofNat ((digsR (n + 1) L p).getD i 0) - 1))) (WF_i (f.wf hw (fun z => z))) (refOK_eq g rfl) (Nat.le_refl _) ?_)
  show Wp d 259 96 [some (.ref 59), some (.int (v)), some (.int (Int32.ofNat L)), some (.int (Int32.ofNat i))] [.int (shA c (goA RL A (Int32.ofNat ((digsR (n + 1) L p).getD i 0) - 1))), .int (((3 : Int32) * (Int32.ofNat i)) + (2 : Int32)), .ref 67] (kwi k 67 ((3 * i + 1)) (wA RL A (Int32.ofNat ((digsR (n + 1) L p).getD i 0) - 1))) Q
  refine Wp.iast (j := (3 * i + 2)) (n := 12) rfl (WF.t (f.wf hw (fun z => z)) 67 rfl) (three i 2) (by omega) (by decide) ?_
  refine Wp.seg 2 (pc1 := 28) (ls1 := [some (.ref 59), some (.int (v)), some (.int (Int32.ofNat L)), some (.int ((Int32.ofNat i) + 1))]) (st1 := []) rfl ?_
  exact (hQ k f g e)
set_option maxHeartbeats 4000000 in
theorem t_mpv3 {d : Nat} {Q : KO → Prop} {h : KH} (hw : WF h) {S A : Nat → Int32} {RL : List Rul} {n c dn en : Nat} (hk : refTh h S A RL n c dn en) {v : Int32} {L i : Nat} (ge : Int32.ofNat L ≤ Int32.ofNat i) (hd : 6 ≤ d) (hQ : ∀ k, Fr (fun c => c = 60) noP h k → k.2.2.1 60 = S → (Q (some (.int (Int32.ofNat L)), kwi k 59 20 (Int32.ofNat L)))) : Wp d 259 28 [some (.ref 59), some (.int (v)), some (.int (Int32.ofNat L)), some (.int (Int32.ofNat i))] [] h Q := by
  refine Wp.seg 2 (pc1 := 30) (ls1 := [some (.ref 59), some (.int (v)), some (.int (Int32.ofNat L)), some (.int (Int32.ofNat i))]) (st1 := [.int (Int32.ofNat L), .int (Int32.ofNat i)]) rfl ?_
  refine Wp.if2 rfl (fun c1 => ?_) (fun c1 => absurd (ge) c1)
  refine Wp.seg 1 (pc1 := 104) (ls1 := [some (.ref 59), some (.int (v)), some (.int (Int32.ofNat L)), some (.int (Int32.ofNat i))]) (st1 := [.ref 59]) rfl ?_
  refine Wp.invV (d2 := 1) (as := [.ref 59]) (r := []) (t := (11, 0)) rfl rfl rfl rfl (WF.t hw 59 rfl) rfl rfl ⟨rfl, rfl⟩ (by omega) (r_back hw hk (Nat.le_refl _) ?_)
  intro k f e
  show Wp d 259 107 [some (.ref 59), some (.int (v)), some (.int (Int32.ofNat L)), some (.int (Int32.ofNat i))] [] k Q
  refine Wp.seg 2 (pc1 := 109) (ls1 := [some (.ref 59), some (.int (v)), some (.int (Int32.ofNat L)), some (.int (Int32.ofNat i))]) (st1 := [.int (Int32.ofNat L), .ref 59]) rfl ?_
  refine Wp.pi (t := (11, 0)) rfl (WF.t (f.wf hw (fun z => z)) 59 rfl) (Or.inl rfl) ?_
  refine Wp.seg 1 (pc1 := 113) (ls1 := [some (.ref 59), some (.int (v)), some (.int (Int32.ofNat L)), some (.int (Int32.ofNat i))]) (st1 := [.ref 59]) rfl ?_
  refine Wp.gi (t := (11, 0)) rfl (WF.t (f.wf hw (fun z => z)) 59 rfl) (Or.inl rfl) ?_
  rw [show (kwi k 59 20 (Int32.ofNat L)).2.2.1 59 20 = Int32.ofNat L from kwi_s]
  exact Wp.reti rfl rfl (hQ k f e)
