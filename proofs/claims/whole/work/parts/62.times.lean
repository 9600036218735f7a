/-! KM: both sides: times() -/
def tmL (RL : List Rul) (n dn en : Nat) (A : Nat → Int32) (v : Int32) : Nat → Int32 → Int32 → Int32
  | 0, _, e => e
  | k + 1, z, e => if (lotsA RL n en 16 dn (ku A 7 z) 0).1 < v then tmL RL n dn en A v k ((lotsA RL n en 16 dn (ku A 7 z) 0).2.1 7) e else tmL RL n dn en A v k ((lotsA RL n en 16 dn (ku A 7 z) 0).2.1 7) (e + 1)
def timesS (RL : List Rul) (n dn en : Nat) (A : Nat → Int32) (m v : Int32) : Int32 := if inB m 1 40 = true ∧ inB v 0 999 = true then tmL RL n dn en A v m.toNatClampNeg (A 7) 0 else -1
set_option maxHeartbeats 4000000 in
theorem t_ctmB {d : Nat} {Q : KO → Prop} {h : KH} (hw : WF h) {A : Nat → Int32} {RL : List Rul} {n c dn en : Nat} (hk : cityOK h 1 A RL n c dn en) {v zz e : Int32} {i N : Nat} (hi : i < N) (hN : N ≤ 40) (hd : 7 ≤ d) (hQ : ∀ k, Fr (pC 7) (fun c => c = 7) h k → nrm (cS k.2.2.1 7) = nrm (cS h.2.2.1 1) → k.2.1 7 10 = h.2.1 1 10 → k.2.1 7 11 = h.2.1 1 11 → (∀ k2, Fr (pC 7) noP (kwi k 7 9 zz) k2 → cityOK k2 7 (lotsA RL n en 16 dn (ku A 7 zz) 0).2.1 RL n c (lotsA RL n en 16 dn (ku A 7 zz) 0).2.2 en → ((((lotsA RL n en 16 dn (ku A 7 zz) 0).1) < v → Wp d 141 38 ([some (.ref 0), some (.int (Int32.ofNat N)), some (.int (v)), some (.int ((lotsA RL n en 16 dn (ku A 7 zz) 0).2.1 7)), some (.int (e)), some (.int ((Int32.ofNat i) + 1))]) [] k2 Q) ∧ (¬ (((lotsA RL n en 16 dn (ku A 7 zz) 0).1) < v) → Wp d 141 38 ([some (.ref 0), some (.int (Int32.ofNat N)), some (.int (v)), some (.int ((lotsA RL n en 16 dn (ku A 7 zz) 0).2.1 7)), some (.int (e + 1)), some (.int ((Int32.ofNat i) + 1))]) [] k2 Q)))) : Wp d 141 38 [some (.ref 0), some (.int (Int32.ofNat N)), some (.int (v)), some (.int (zz)), some (.int (e)), some (.int (Int32.ofNat i))] [] h Q := by
  refine Wp.seg 2 (pc1 := 41) (ls1 := [some (.ref 0), some (.int (Int32.ofNat N)), some (.int (v)), some (.int (zz)), some (.int (e)), some (.int (Int32.ofNat i))]) (st1 := [.int (Int32.ofNat N), .int (Int32.ofNat i)]) rfl ?_
  refine Wp.if2 rfl (fun c1 => absurd c1 (fun c => by have := (ole (by omega) (by omega)).mp c; omega)) (fun c1 => ?_)
  refine Wp.seg 1 (pc1 := 45) (ls1 := [some (.ref 0), some (.int (Int32.ofNat N)), some (.int (v)), some (.int (zz)), some (.int (e)), some (.int (Int32.ofNat i))]) (st1 := [.ref 0]) rfl ?_
  refine Wp.gr (t := (10, 0)) (v := some (7)) rfl (WF.t hw 0 rfl) rfl (WF.r hw 0 2 2 rfl) ?_
  show Wp d 141 48 [some (.ref 0), some (.int (Int32.ofNat N)), some (.int (v)), some (.int (zz)), some (.int (e)), some (.int (Int32.ofNat i))] [.ref 7] h Q
  refine Wp.seg 1 (pc1 := 49) (ls1 := [some (.ref 0), some (.int (Int32.ofNat N)), some (.int (v)), some (.int (zz)), some (.int (e)), some (.int (Int32.ofNat i))]) (st1 := [.ref 0, .ref 7]) rfl ?_
  refine Wp.gr (t := (10, 0)) (v := some (1)) rfl (WF.t hw 0 rfl) rfl (WF.r hw 0 0 0 rfl) ?_
  show Wp d 141 52 [some (.ref 0), some (.int (Int32.ofNat N)), some (.int (v)), some (.int (zz)), some (.int (e)), some (.int (Int32.ofNat i))] [.ref 1, .ref 7] h Q
  refine Wp.invV (d2 := 1) (as := [.ref 7, .ref 1]) (r := []) (t := (1, 0)) rfl rfl rfl rfl (WF.t hw 7 rfl) rfl rfl ⟨rfl, rfl⟩ (by omega) (s_copy (h := h) hw cA7 cA1 (by decide) (Nat.le_refl _) ?_)
  intro k f e1 e2 e3
  show Wp d 141 55 [some (.ref 0), some (.int (Int32.ofNat N)), some (.int (v)), some (.int (zz)), some (.int (e)), some (.int (Int32.ofNat i))] [] k Q
  refine Wp.seg 1 (pc1 := 56) (ls1 := [some (.ref 0), some (.int (Int32.ofNat N)), some (.int (v)), some (.int (zz)), some (.int (e)), some (.int (Int32.ofNat i))]) (st1 := [.ref 0]) rfl ?_
  refine Wp.gr (t := (10, 0)) (v := some (7)) rfl (WF.t (f.wf hw (fun z => absurd z (by decide))) 0 rfl) rfl (WF.r (f.wf hw (fun z => absurd z (by decide))) 0 2 2 rfl) ?_
  show Wp d 141 59 [some (.ref 0), some (.int (Int32.ofNat N)), some (.int (v)), some (.int (zz)), some (.int (e)), some (.int (Int32.ofNat i))] [.ref 7] k Q
  refine Wp.seg 1 (pc1 := 60) (ls1 := [some (.ref 0), some (.int (Int32.ofNat N)), some (.int (v)), some (.int (zz)), some (.int (e)), some (.int (Int32.ofNat i))]) (st1 := [.int (zz), .ref 7]) rfl ?_
  refine Wp.pi (t := (1, 0)) rfl (WF.t (f.wf hw (fun z => absurd z (by decide))) 7 rfl) (Or.inl rfl) ?_
  refine Wp.seg 1 (pc1 := 64) (ls1 := [some (.ref 0), some (.int (Int32.ofNat N)), some (.int (v)), some (.int (zz)), some (.int (e)), some (.int (Int32.ofNat i))]) (st1 := [.ref 0]) rfl ?_
  refine Wp.gr (t := (10, 0)) (v := some (7)) rfl (WF.t (f.wf hw (fun z => absurd z (by decide))) 0 rfl) rfl (WF.r (f.wf hw (fun z => absurd z (by decide))) 0 2 2 rfl) ?_
  show Wp d 141 67 [some (.ref 0), some (.int (Int32.ofNat N)), some (.int (v)), some (.int (zz)), some (.int (e)), some (.int (Int32.ofNat i))] [.ref 7] (kwi k 7 9 zz) Q
  refine Wp.invV (d2 := 6) (as := [.ref 7]) (r := []) (t := (1, 0)) rfl rfl rfl rfl (WF.t (f.wf hw (fun z => absurd z (by decide))) 7 rfl) rfl rfl ⟨rfl, rfl⟩ (by omega) (s_passLot (h := kwi k 7 9 zz) (f.wf hw (fun z => absurd z (by decide))) cA7 (city_kwi (m := 7) cA7 (copy_ok hk f e1 e2) (by decide)) (Nat.le_refl _) ?_)
  intro k2 f2 g2
  show Wp d 141 70 [some (.ref 0), some (.int (Int32.ofNat N)), some (.int (v)), some (.int (zz)), some (.int (e)), some (.int (Int32.ofNat i))] [.int ((lotsA RL n en 16 dn (ku A 7 zz) 0).1)] k2 Q
  refine Wp.seg 1 (pc1 := 71) (ls1 := [some (.ref 0), some (.int (Int32.ofNat N)), some (.int (v)), some (.int (zz)), some (.int (e)), some (.int (Int32.ofNat i))]) (st1 := [.int (v), .int ((lotsA RL n en 16 dn (ku A 7 zz) 0).1)]) rfl ?_
  refine Wp.if2 rfl (fun (c2 : ((lotsA RL n en 16 dn (ku A 7 zz) 0).1) < v) => ?_) (fun (c2 : ¬ (((lotsA RL n en 16 dn (ku A 7 zz) 0).1) < v)) => ?_)
  · refine Wp.seg 1 (pc1 := 78) (ls1 := [some (.ref 0), some (.int (Int32.ofNat N)), some (.int (v)), some (.int (zz)), some (.int (e)), some (.int (Int32.ofNat i))]) (st1 := [.ref 0]) rfl ?_
    refine Wp.gr (t := (10, 0)) (v := some (7)) rfl (WF.t (f2.wf (f.wf hw (fun z => absurd z (by decide))) (fun z => z)) 0 rfl) rfl (WF.r (f2.wf (f.wf hw (fun z => absurd z (by decide))) (fun z => z)) 0 2 2 rfl) ?_
    show Wp d 141 81 [some (.ref 0), some (.int (Int32.ofNat N)), some (.int (v)), some (.int (zz)), some (.int (e)), some (.int (Int32.ofNat i))] [.ref 7] k2 Q
    refine Wp.gi (t := (1, 0)) rfl (WF.t (f2.wf (f.wf hw (fun z => absurd z (by decide))) (fun z => z)) 7 rfl) (Or.inl rfl) ?_
    rw [show k2.2.2.1 7 9 = (lotsA RL n en 16 dn (ku A 7 zz) 0).2.1 7 from (congrFun g2.1 7)]
    refine Wp.seg 3 (pc1 := 38) (ls1 := [some (.ref 0), some (.int (Int32.ofNat N)), some (.int (v)), some (.int ((lotsA RL n en 16 dn (ku A 7 zz) 0).2.1 7)), some (.int (e)), some (.int ((Int32.ofNat i) + 1))]) (st1 := []) rfl ?_
    exact (((hQ k f e1 e2 e3) k2 f2 g2).1 c2)
  · refine Wp.seg 2 (pc1 := 78) (ls1 := [some (.ref 0), some (.int (Int32.ofNat N)), some (.int (v)), some (.int (zz)), some (.int (e + 1)), some (.int (Int32.ofNat i))]) (st1 := [.ref 0]) rfl ?_
    refine Wp.gr (t := (10, 0)) (v := some (7)) rfl (WF.t (f2.wf (f.wf hw (fun z => absurd z (by decide))) (fun z => z)) 0 rfl) rfl (WF.r (f2.wf (f.wf hw (fun z => absurd z (by decide))) (fun z => z)) 0 2 2 rfl) ?_
    show Wp d 141 81 [some (.ref 0), some (.int (Int32.ofNat N)), some (.int (v)), some (.int (zz)), some (.int (e + 1)), some (.int (Int32.ofNat i))] [.ref 7] k2 Q
    refine Wp.gi (t := (1, 0)) rfl (WF.t (f2.wf (f.wf hw (fun z => absurd z (by decide))) (fun z => z)) 7 rfl) (Or.inl rfl) ?_
    rw [show k2.2.2.1 7 9 = (lotsA RL n en 16 dn (ku A 7 zz) 0).2.1 7 from (congrFun g2.1 7)]
    refine Wp.seg 3 (pc1 := 38) (ls1 := [some (.ref 0), some (.int (Int32.ofNat N)), some (.int (v)), some (.int ((lotsA RL n en 16 dn (ku A 7 zz) 0).2.1 7)), some (.int (e + 1)), some (.int ((Int32.ofNat i) + 1))]) (st1 := []) rfl ?_
    exact (((hQ k f e1 e2 e3) k2 f2 g2).2 c2)
set_option maxHeartbeats 4000000 in
theorem t_ctmE {d : Nat} {Q : KO → Prop} {h : KH} {v zz e : Int32} {N : Nat} (hd : 0 ≤ d) (hQ : Q (some (.int (e)), h)) : Wp d 141 38 [some (.ref 0), some (.int (Int32.ofNat N)), some (.int (v)), some (.int (zz)), some (.int (e)), some (.int (Int32.ofNat N))] [] h Q := by
  refine Wp.seg 2 (pc1 := 41) (ls1 := [some (.ref 0), some (.int (Int32.ofNat N)), some (.int (v)), some (.int (zz)), some (.int (e)), some (.int (Int32.ofNat N))]) (st1 := [.int (Int32.ofNat N), .int (Int32.ofNat N)]) rfl ?_
  refine Wp.if2 rfl (fun c1 => ?_) (fun c1 => absurd (Int32.le_refl _) c1)
  refine Wp.seg 1 (pc1 := 93) (ls1 := [some (.ref 0), some (.int (Int32.ofNat N)), some (.int (v)), some (.int (zz)), some (.int (e)), some (.int (Int32.ofNat N))]) (st1 := [.int (e)]) rfl ?_
  exact Wp.reti rfl rfl hQ
set_option maxHeartbeats 4000000 in
theorem t_ctmS {d : Nat} {Q : KO → Prop} {h : KH} (hw : WF h) {A : Nat → Int32} {RL : List Rul} {n c dn en : Nat} (hk : cityOK h 1 A RL n c dn en) {m v : Int32} (hd : 7 ≤ d) (hQ : Wp d 141 38 ([some (.ref 0), some (.int (m)), some (.int (v)), some (.int (A 7)), some (.int (0)), some (.int (0))]) [] h Q) : Wp d 141 24 [some (.ref 0), some (.int (m)), some (.int (v)), none, none, none] [] h Q := by
  refine Wp.seg 1 (pc1 := 25) (ls1 := [some (.ref 0), some (.int (m)), some (.int (v)), none, none, none]) (st1 := [.ref 0]) rfl ?_
  refine Wp.gr (t := (10, 0)) (v := some (1)) rfl (WF.t hw 0 rfl) rfl (WF.r hw 0 0 0 rfl) ?_
  show Wp d 141 28 [some (.ref 0), some (.int (m)), some (.int (v)), none, none, none] [.ref 1] h Q
  refine Wp.gi (t := (1, 0)) rfl (WF.t hw 1 rfl) (Or.inl rfl) ?_
  rw [show h.2.2.1 1 9 = A 7 from (congrFun hk.1 7)]
  refine Wp.seg 5 (pc1 := 38) (ls1 := [some (.ref 0), some (.int (m)), some (.int (v)), some (.int (A 7)), some (.int (0)), some (.int (0))]) (st1 := []) rfl ?_
  exact hQ
set_option maxHeartbeats 4000000 in
theorem t_ctm {d : Nat} {Q : KO → Prop} {h : KH} {m v : Int32} (hd : 7 ≤ d) (hQ : (m < (1 : Int32) → Q (some (.int (-1)), h)) ∧ (¬ (m < (1 : Int32)) → ((40 : Int32) < m → Q (some (.int (-1)), h)) ∧ (¬ ((40 : Int32) < m) → (v < 0 → Q (some (.int (-1)), h)) ∧ (¬ (v < 0) → (v ≤ (999 : Int32) → Wp d 141 24 ([some (.ref 0), some (.int (m)), some (.int (v)), none, none, none]) [] h Q) ∧ (¬ (v ≤ (999 : Int32)) → Q (some (.int (-1)), h)))))) : Cl d 141 [.ref 0, .int (m), .int (v)] h Q := by
  refine Cl.of (ls := [some (.ref 0), some (.int (m)), some (.int (v)), none, none, none]) rfl rfl ?_
  refine Wp.seg 2 (pc1 := 2) (ls1 := [some (.ref 0), some (.int (m)), some (.int (v)), none, none, none]) (st1 := [.int (1), .int (m)]) rfl ?_
  refine Wp.if2 rfl (fun (c1 : m < (1 : Int32)) => ?_) (fun (c1 : ¬ (m < (1 : Int32))) => ?_)
  · refine Wp.seg 1 (pc1 := 23) (ls1 := [some (.ref 0), some (.int (m)), some (.int (v)), none, none, none]) (st1 := [.int (-1)]) rfl ?_
    exact Wp.reti rfl rfl (hQ.1 c1)
  · refine Wp.seg 2 (pc1 := 8) (ls1 := [some (.ref 0), some (.int (m)), some (.int (v)), none, none, none]) (st1 := [.int (40), .int (m)]) rfl ?_
    refine Wp.if2 rfl (fun (c2 : (40 : Int32) < m) => ?_) (fun (c2 : ¬ ((40 : Int32) < m)) => ?_)
    · refine Wp.seg 1 (pc1 := 23) (ls1 := [some (.ref 0), some (.int (m)), some (.int (v)), none, none, none]) (st1 := [.int (-1)]) rfl ?_
      exact Wp.reti rfl rfl ((hQ.2 c1).1 c2)
    · refine Wp.seg 1 (pc1 := 12) (ls1 := [some (.ref 0), some (.int (m)), some (.int (v)), none, none, none]) (st1 := [.int (v)]) rfl ?_
      refine Wp.if1 rfl (fun (c3 : v < 0) => ?_) (fun (c3 : ¬ (v < 0)) => ?_)
      · refine Wp.seg 1 (pc1 := 23) (ls1 := [some (.ref 0), some (.int (m)), some (.int (v)), none, none, none]) (st1 := [.int (-1)]) rfl ?_
        exact Wp.reti rfl rfl (((hQ.2 c1).2 c2).1 c3)
      · refine Wp.seg 2 (pc1 := 19) (ls1 := [some (.ref 0), some (.int (m)), some (.int (v)), none, none, none]) (st1 := [.int (999), .int (v)]) rfl ?_
        refine Wp.if2 rfl (fun (c4 : v ≤ (999 : Int32)) => ?_) (fun (c4 : ¬ (v ≤ (999 : Int32))) => ?_)
        · exact ((((hQ.2 c1).2 c2).2 c3).1 c4)
        · refine Wp.seg 1 (pc1 := 23) (ls1 := [some (.ref 0), some (.int (m)), some (.int (v)), none, none, none]) (st1 := [.int (-1)]) rfl ?_
          exact Wp.reti rfl rfl ((((hQ.2 c1).2 c2).2 c3).2 c4)
theorem c_tmL {d : Nat} {Q : KO → Prop} {A : Nat → Int32} {RL : List Rul} {n c dn en N : Nat} {v : Int32} (hN : N ≤ 40) (hd : 7 ≤ d) : ∀ (j i : Nat) (zz e : Int32) (h : KH), i + j = N → WF h → cityOK h 1 A RL n c dn en →
    (∀ k, Quiet h k → Q (some (.int (tmL RL n dn en A v j zz e)), k)) → Wp d 141 38 [some (.ref 0), some (.int (Int32.ofNat N)), some (.int v), some (.int zz), some (.int e), some (.int (Int32.ofNat i))] [] h Q
  | 0, i, zz, e, h, hij, hw, hk, hQ => by
    obtain rfl : i = N := hij
    exact t_ctmE (Nat.zero_le _) (hQ h (Quiet.refl h))
  | j + 1, i, zz, e, h, hij, hw, hk, hQ => by
    have ei : Int32.ofNat i + 1 = Int32.ofNat (i + 1) := ofadd i 1
    unfold tmL at hQ
    refine t_ctmB hw hk (by omega) hN hd (fun k f e1 e2 e3 k2 f2 g2 => ?_)
    have q2 : Quiet h k2 := (Q7r f).trans (Q7 (Fr.trans (fr_kwi (by unfold pC; omega) (by decide)) f2))
    rw [ei]
    refine ⟨fun c1 => ?_, fun c1 => ?_⟩
    · rw [if_pos c1] at hQ
      exact c_tmL hN hd j (i + 1) _ _ k2 (by omega) (q2.wf hw) (q2.c1 hk) (fun k3 q3 => hQ k3 (q2.trans q3))
    · rw [if_neg c1] at hQ
      exact c_tmL hN hd j (i + 1) _ _ k2 (by omega) (q2.wf hw) (q2.c1 hk) (fun k3 q3 => hQ k3 (q2.trans q3))
theorem c_times {d : Nat} {h : KH} (hw : WF h) {A : Nat → Int32} {RL : List Rul} {n c dn en : Nat} (hk : cityOK h 1 A RL n c dn en) (hd : 7 ≤ d) {m v : Int32} : Cl d 141 [.ref 0, .int m, .int v] h (qu (timesS RL n dn en A m v) h) := by
  unfold timesS
  have iB : ∀ {x : Int32} {a b : Int32} {y z : Int}, a.toInt = y → b.toInt = z → ¬ x < a → x ≤ b → inB x y z = true := fun ea eb h1 h2 => by
    have k1 := mt (zlt rfl ea).mpr h1
    have k2 := (zle rfl eb).mp h2
    exact inB_t ⟨by omega, k2⟩
  have oB : ∀ {x : Int32} {a : Int32} {y z : Int}, a.toInt = y → x < a → ¬ inB x y z = true := fun ea h1 => by
    have k1 := (zlt rfl ea).mp h1
    rw [inB_f (by omega)]
    decide
  have uB : ∀ {x : Int32} {b : Int32} {y z : Int}, b.toInt = z → ¬ x ≤ b → ¬ inB x y z = true := fun eb h1 => by
    have k1 := mt (zle rfl eb).mpr h1
    rw [inB_f (by omega)]
    decide
  have uB2 : ∀ {x : Int32} {b : Int32} {y z : Int}, b.toInt = z → b < x → ¬ inB x y z = true := fun eb h1 => by
    have k1 := (zlt eb rfl).mp h1
    rw [inB_f (by omega)]
    decide
  refine t_ctm hd ⟨fun c1 => ?_, fun c1 => ⟨fun c2 => ?_, fun c2 => ⟨fun c3 => ?_, fun c3 => ⟨fun c4 => ?_, fun c4 => ?_⟩⟩⟩⟩
  · rw [if_neg (fun z => oB (y := 1) (z := 40) rfl c1 z.1)]
    exact qu_i (Quiet.refl h)
  · rw [if_neg (fun z => uB2 (y := 1) (z := 40) rfl c2 z.1)]
    exact qu_i (Quiet.refl h)
  · rw [if_neg (fun z => oB (y := 0) (z := 999) rfl c3 z.2)]
    exact qu_i (Quiet.refl h)
  · have h1 := iB (x := m) (y := 1) (z := 40) rfl rfl c1 (Int32.not_lt.mp c2)
    rw [if_pos ⟨h1, iB (x := v) (y := 0) (z := 999) rfl rfl c3 c4⟩]
    obtain ⟨N, -, hN, rfl⟩ := inB_natL (a := 1) (b := 40) h1
    rw [clamp_ofNat (by omega)]
    exact t_ctmS hw hk hd (c_tmL hN hd N 0 (A 7) 0 h (by omega) hw hk (fun k q => qu_i q))
  · rw [if_neg (fun z => uB (y := 0) (z := 999) rfl c4 z.2)]
    exact qu_i (Quiet.refl h)
set_option maxHeartbeats 4000000 in
theorem t_mtmI {d : Nat} {Q : KO → Prop} {h : KH} (hw : WF h) {S A : Nat → Int32} {RL : List Rul} {n c dn en : Nat} (hk : refTh h S A RL n c dn en) {v e s : Int32} {i N : Nat} {z : Option Value} (hlt : dn < en) (hd : 8 ≤ d) (hQ : ∀ k, Fr pM noP h k → refOK k (lotA RL n A) RL n c (dn + 1) en → keepS (k.2.2.1 60) (h.2.2.1 60) → (Wp d 258 41 ([some (.ref 59), some (.int (Int32.ofNat N)), some (.int (v)), some (.int (e)), some (.int (Int32.ofNat i)), some (.int (s + (lotW RL n A))), z]) [] k Q)) : Wp d 258 41 [some (.ref 59), some (.int (Int32.ofNat N)), some (.int (v)), some (.int (e)), some (.int (Int32.ofNat i)), some (.int (s)), z] [] h Q := by
  refine Wp.seg 1 (pc1 := 42) (ls1 := [some (.ref 59), some (.int (Int32.ofNat N)), some (.int (v)), some (.int (e)), some (.int (Int32.ofNat i)), some (.int (s)), z]) (st1 := [.ref 59]) rfl ?_
  refine Wp.invV (d2 := 0) (as := [.ref 59]) (r := []) (t := (11, 0)) rfl rfl rfl rfl (WF.t hw 59 rfl) rfl rfl ⟨rfl, rfl⟩ (by omega) (r_over0 hw hk.1 hlt ?_)
  show Wp d 258 45 [some (.ref 59), some (.int (Int32.ofNat N)), some (.int (v)), some (.int (e)), some (.int (Int32.ofNat i)), some (.int (s)), z] [.int (0)] h Q
  refine Wp.if1 rfl (fun c1 => absurd c1 (show ¬ (¬ (0 : Int32) = 0) by decide)) (fun c1 => ?_)
  refine Wp.seg 2 (pc1 := 51) (ls1 := [some (.ref 59), some (.int (Int32.ofNat N)), some (.int (v)), some (.int (e)), some (.int (Int32.ofNat i)), some (.int (s)), z]) (st1 := [.ref 59, .int (s)]) rfl ?_
  refine Wp.invV (d2 := 6) (as := [.ref 59]) (r := [.int (s)]) (t := (11, 0)) rfl rfl rfl rfl (WF.t hw 59 rfl) rfl rfl ⟨rfl, rfl⟩ (by omega) (r_byLot hw hk.1 hlt (Nat.le_refl _) ?_)
  intro k f g e0
  show Wp d 258 54 [some (.ref 59), some (.int (Int32.ofNat N)), some (.int (v)), some (.int (e)), some (.int (Int32.ofNat i)), some (.int (s)), z] [.int (lotW RL n A), .int (s)] k Q
  refine Wp.seg 3 (pc1 := 41) (ls1 := [some (.ref 59), some (.int (Int32.ofNat N)), some (.int (v)), some (.int (e)), some (.int (Int32.ofNat i)), some (.int (s + (lotW RL n A))), z]) (st1 := []) rfl ?_
  exact (hQ k f g e0)
set_option maxHeartbeats 4000000 in
theorem t_mtmO {d : Nat} {Q : KO → Prop} {h : KH} (hw : WF h) {S A : Nat → Int32} {RL : List Rul} {n c dn en : Nat} (hk : refTh h S A RL n c dn en) {v e s : Int32} {i N : Nat} {z : Option Value} (hlt : ¬ dn < en) (hd : 8 ≤ d) (hQ : Wp d 258 60 ([some (.ref 59), some (.int (Int32.ofNat N)), some (.int (v)), some (.int (e)), some (.int (Int32.ofNat i)), some (.int (s)), z]) [] h Q) : Wp d 258 41 [some (.ref 59), some (.int (Int32.ofNat N)), some (.int (v)), some (.int (e)), some (.int (Int32.ofNat i)), some (.int (s)), z] [] h Q := by
  refine Wp.seg 1 (pc1 := 42) (ls1 := [some (.ref 59), some (.int (Int32.ofNat N)), some (.int (v)), some (.int (e)), some (.int (Int32.ofNat i)), some (.int (s)), z]) (st1 := [.ref 59]) rfl ?_
  refine Wp.invV (d2 := 0) (as := [.ref 59]) (r := []) (t := (11, 0)) rfl rfl rfl rfl (WF.t hw 59 rfl) rfl rfl ⟨rfl, rfl⟩ (by omega) (r_over1 hw hk.1 hlt ?_)
  show Wp d 258 45 [some (.ref 59), some (.int (Int32.ofNat N)), some (.int (v)), some (.int (e)), some (.int (Int32.ofNat i)), some (.int (s)), z] [.int (1)] h Q
  refine Wp.if1 rfl (fun c1 => ?_) (fun c1 => absurd (show ¬ (1 : Int32) = 0 by decide) c1)
  exact hQ
set_option maxHeartbeats 4000000 in
theorem t_mtmC {d : Nat} {Q : KO → Prop} {h : KH} (hw : WF h) {S A : Nat → Int32} {RL : List Rul} {n c dn en : Nat} (hk : refTh h S A RL n c dn en) {v e s : Int32} {i N : Nat} {z : Option Value} (hd : 8 ≤ d) (hQ : ∀ k, Fr (fun c => c = 60) noP h k → k.2.2.1 60 = S → ((s < v → Wp d 258 32 ([some (.ref 59), some (.int (Int32.ofNat N)), some (.int (v)), some (.int (e + (0 : Int32))), some (.int ((Int32.ofNat i) + 1)), some (.int (s)), some (.int (A 7))]) [] (kwi k 60 7 (A 7)) Q) ∧ (¬ (s < v) → Wp d 258 32 ([some (.ref 59), some (.int (Int32.ofNat N)), some (.int (v)), some (.int (e + (1 : Int32))), some (.int ((Int32.ofNat i) + 1)), some (.int (s)), some (.int (A 7))]) [] (kwi k 60 7 (A 7)) Q))) : Wp d 258 60 [some (.ref 59), some (.int (Int32.ofNat N)), some (.int (v)), some (.int (e)), some (.int (Int32.ofNat i)), some (.int (s)), z] [] h Q := by
  refine Wp.seg 1 (pc1 := 61) (ls1 := [some (.ref 59), some (.int (Int32.ofNat N)), some (.int (v)), some (.int (e)), some (.int (Int32.ofNat i)), some (.int (s)), z]) (st1 := [.ref 59]) rfl ?_
  refine Wp.gr (t := (11, 0)) (v := some (60)) rfl (WF.t hw 59 rfl) rfl (WF.r hw 59 0 58 rfl) ?_
  show Wp d 258 64 [some (.ref 59), some (.int (Int32.ofNat N)), some (.int (v)), some (.int (e)), some (.int (Int32.ofNat i)), some (.int (s)), z] [.ref 60] h Q
  refine Wp.seg 1 (pc1 := 66) (ls1 := [some (.ref 59), some (.int (Int32.ofNat N)), some (.int (v)), some (.int (e)), some (.int (Int32.ofNat i)), some (.int (s)), z]) (st1 := [.int (7), .ref 60]) rfl ?_
  refine Wp.iald (j := 7) (k := 20) (n := 585) rfl (WF.t hw 60 rfl) rfl rfl (by decide) (by decide) ?_
  rw [show h.2.2.1 60 7 = A 7 from (congrFun hk.1.1 7)]
  refine Wp.seg 2 (pc1 := 70) (ls1 := [some (.ref 59), some (.int (Int32.ofNat N)), some (.int (v)), some (.int (e)), some (.int (Int32.ofNat i)), some (.int (s)), some (.int (A 7))]) (st1 := [.ref 59]) rfl ?_
  refine Wp.invV (d2 := 1) (as := [.ref 59]) (r := []) (t := (11, 0)) rfl rfl rfl rfl (WF.t hw 59 rfl) rfl rfl ⟨rfl, rfl⟩ (by omega) (r_back hw hk (Nat.le_refl _) ?_)
  intro k f e0
  show Wp d 258 73 [some (.ref 59), some (.int (Int32.ofNat N)), some (.int (v)), some (.int (e)), some (.int (Int32.ofNat i)), some (.int (s)), some (.int (A 7))] [] k Q
  refine Wp.seg 1 (pc1 := 74) (ls1 := [some (.ref 59), some (.int (Int32.ofNat N)), some (.int (v)), some (.int (e)), some (.int (Int32.ofNat i)), some (.int (s)), some (.int (A 7))]) (st1 := [.ref 59]) rfl ?_
  refine Wp.gr (t := (11, 0)) (v := some (60)) rfl (WF.t (f.wf hw (fun z => z)) 59 rfl) rfl (WF.r (f.wf hw (fun z => z)) 59 0 58 rfl) ?_
  show Wp d 258 77 [some (.ref 59), some (.int (Int32.ofNat N)), some (.int (v)), some (.int (e)), some (.int (Int32.ofNat i)), some (.int (s)), some (.int (A 7))] [.ref 60] k Q
  refine Wp.seg 2 (pc1 := 81) (ls1 := [some (.ref 59), some (.int (Int32.ofNat N)), some (.int (v)), some (.int (e)), some (.int (Int32.ofNat i)), some (.int (s)), some (.int (A 7))]) (st1 := [.int (A 7), .int (7), .ref 60]) rfl ?_
  refine Wp.iast (j := 7) (n := 585) rfl (WF.t (f.wf hw (fun z => z)) 60 rfl) rfl (by decide) (by decide) ?_
  refine Wp.seg 3 (pc1 := 86) (ls1 := [some (.ref 59), some (.int (Int32.ofNat N)), some (.int (v)), some (.int (e)), some (.int (Int32.ofNat i)), some (.int (s)), some (.int (A 7))]) (st1 := [.int (v), .int (s), .int (e)]) rfl ?_
  refine Wp.if2 rfl (fun (c1 : s < v) => ?_) (fun (c1 : ¬ (s < v)) => ?_)
  · refine Wp.seg 5 (pc1 := 32) (ls1 := [some (.ref 59), some (.int (Int32.ofNat N)), some (.int (v)), some (.int (e + (0 : Int32))), some (.int ((Int32.ofNat i) + 1)), some (.int (s)), some (.int (A 7))]) (st1 := []) rfl ?_
    exact ((hQ k f e0).1 c1)
  · refine Wp.seg 6 (pc1 := 32) (ls1 := [some (.ref 59), some (.int (Int32.ofNat N)), some (.int (v)), some (.int (e + (1 : Int32))), some (.int ((Int32.ofNat i) + 1)), some (.int (s)), some (.int (A 7))]) (st1 := []) rfl ?_
    exact ((hQ k f e0).2 c1)
set_option maxHeartbeats 4000000 in
theorem t_mtmB {d : Nat} {Q : KO → Prop} {h : KH} {v e : Int32} {i N : Nat} {y z : Option Value} (hi : i < N) (hN : N ≤ 40) (hd : 8 ≤ d) (hQ : Wp d 258 41 ([some (.ref 59), some (.int (Int32.ofNat N)), some (.int (v)), some (.int (e)), some (.int (Int32.ofNat i)), some (.int (0)), z]) [] h Q) : Wp d 258 32 [some (.ref 59), some (.int (Int32.ofNat N)), some (.int (v)), some (.int (e)), some (.int (Int32.ofNat i)), y, z] [] h Q := by
  refine Wp.seg 2 (pc1 := 35) (ls1 := [some (.ref 59), some (.int (Int32.ofNat N)), some (.int (v)), some (.int (e)), some (.int (Int32.ofNat i)), y, z]) (st1 := [.int (Int32.ofNat N), .int (Int32.ofNat i)]) rfl ?_
  refine Wp.if2 rfl (fun c1 => absurd c1 (fun c => by have := (ole (by omega) (by omega)).mp c; omega)) (fun c1 => ?_)
  refine Wp.seg 2 (pc1 := 41) (ls1 := [some (.ref 59), some (.int (Int32.ofNat N)), some (.int (v)), some (.int (e)), some (.int (Int32.ofNat i)), some (.int (0)), z]) (st1 := []) rfl ?_
  exact hQ
set_option maxHeartbeats 4000000 in
theorem t_mtmE {d : Nat} {Q : KO → Prop} {h : KH} (hw : WF h) {S A : Nat → Int32} {RL : List Rul} {n c dn en : Nat} (hk : refTh h S A RL n c dn en) {v e : Int32} {N : Nat} {y z : Option Value} (hd : 2 ≤ d) (hQ : ∀ k, Fr (fun c => c = 60) noP h k → k.2.2.1 60 = S → (Q (some (.int (e)), k))) : Wp d 258 32 [some (.ref 59), some (.int (Int32.ofNat N)), some (.int (v)), some (.int (e)), some (.int (Int32.ofNat N)), y, z] [] h Q := by
  refine Wp.seg 2 (pc1 := 35) (ls1 := [some (.ref 59), some (.int (Int32.ofNat N)), some (.int (v)), some (.int (e)), some (.int (Int32.ofNat N)), y, z]) (st1 := [.int (Int32.ofNat N), .int (Int32.ofNat N)]) rfl ?_
  refine Wp.if2 rfl (fun c1 => ?_) (fun c1 => absurd (Int32.le_refl _) c1)
  refine Wp.seg 1 (pc1 := 103) (ls1 := [some (.ref 59), some (.int (Int32.ofNat N)), some (.int (v)), some (.int (e)), some (.int (Int32.ofNat N)), y, z]) (st1 := [.ref 59]) rfl ?_
  refine Wp.invV (d2 := 1) (as := [.ref 59]) (r := []) (t := (11, 0)) rfl rfl rfl rfl (WF.t hw 59 rfl) rfl rfl ⟨rfl, rfl⟩ (by omega) (r_back hw hk (Nat.le_refl _) ?_)
  intro k f e0
  show Wp d 258 106 [some (.ref 59), some (.int (Int32.ofNat N)), some (.int (v)), some (.int (e)), some (.int (Int32.ofNat N)), y, z] [] k Q
  refine Wp.seg 1 (pc1 := 107) (ls1 := [some (.ref 59), some (.int (Int32.ofNat N)), some (.int (v)), some (.int (e)), some (.int (Int32.ofNat N)), y, z]) (st1 := [.int (e)]) rfl ?_
  exact Wp.reti rfl rfl (hQ k f e0)
set_option maxHeartbeats 4000000 in
theorem t_mtmS {d : Nat} {Q : KO → Prop} {h : KH} (hw : WF h) {A : Nat → Int32} {RL : List Rul} {n c dn en : Nat} (hk : refOK h A RL n c dn en) {m v : Int32} (hd : 8 ≤ d) (hQ : ∀ k, Fr (fun c => c = 62) noP h k → refTh k (h.2.2.1 60) A RL n c dn en → (Wp d 258 32 ([some (.ref 59), some (.int (m)), some (.int (v)), some (.int (0)), some (.int (0)), none, none]) [] k Q)) : Wp d 258 23 [some (.ref 59), some (.int (m)), some (.int (v)), none, none, none, none] [] h Q := by
  refine Wp.seg 1 (pc1 := 24) (ls1 := [some (.ref 59), some (.int (m)), some (.int (v)), none, none, none, none]) (st1 := [.ref 59]) rfl ?_
  refine Wp.invV (d2 := 1) (as := [.ref 59]) (r := []) (t := (11, 0)) rfl rfl rfl rfl (WF.t hw 59 rfl) rfl rfl ⟨rfl, rfl⟩ (by omega) (r_thinks hw hk (Nat.le_refl _) ?_)
  intro k f g
  show Wp d 258 27 [some (.ref 59), some (.int (m)), some (.int (v)), none, none, none, none] [] k Q
  refine Wp.seg 4 (pc1 := 32) (ls1 := [some (.ref 59), some (.int (m)), some (.int (v)), some (.int (0)), some (.int (0)), none, none]) (st1 := []) rfl ?_
  exact (hQ k f g)
set_option maxHeartbeats 4000000 in
theorem t_mtm {d : Nat} {Q : KO → Prop} {h : KH} {m v : Int32} (hd : 8 ≤ d) (hQ : ((inB m 1 40) = false → Q (some (.int (-1)), h)) ∧ ((inB m 1 40) = true → ((inB v 0 999) = true → Wp d 258 23 ([some (.ref 59), some (.int (m)), some (.int (v)), none, none, none, none]) [] h Q) ∧ ((inB v 0 999) = false → Q (some (.int (-1)), h)))) : Cl d 258 [.ref 59, .int (m), .int (v)] h Q := by
  refine Cl.of (ls := [some (.ref 59), some (.int (m)), some (.int (v)), none, none, none, none]) rfl rfl ?_
  refine Wp.seg 3 (pc1 := 4) (ls1 := [some (.ref 59), some (.int (m)), some (.int (v)), none, none, none, none]) (st1 := [.int (40), .int (1), .int (m)]) rfl ?_
  refine Wp.inv (d2 := 0) (as := [.int (m), .int (1), .int (40)]) (r := []) rfl rfl rfl rfl rfl rfl (by omega) (s_inB (x := 1) (y := 40) rfl rfl ?_)
  show Wp d 258 7 [some (.ref 59), some (.int (m)), some (.int (v)), none, none, none, none] [.int (b32 (inB m 1 40))] h Q
  refine Wp.ifz rfl (fun (c1 : (inB m 1 40) = false) => ?_) (fun (c1 : (inB m 1 40) = true) => ?_)
  · refine Wp.seg 1 (pc1 := 22) (ls1 := [some (.ref 59), some (.int (m)), some (.int (v)), none, none, none, none]) (st1 := [.int (-1)]) rfl ?_
    exact Wp.reti rfl rfl (hQ.1 c1)
  · refine Wp.seg 3 (pc1 := 15) (ls1 := [some (.ref 59), some (.int (m)), some (.int (v)), none, none, none, none]) (st1 := [.int (999), .int (0), .int (v)]) rfl ?_
    refine Wp.inv (d2 := 0) (as := [.int (v), .int (0), .int (999)]) (r := []) rfl rfl rfl rfl rfl rfl (by omega) (s_inB (x := 0) (y := 999) rfl rfl ?_)
    show Wp d 258 18 [some (.ref 59), some (.int (m)), some (.int (v)), none, none, none, none] [.int (b32 (inB v 0 999))] h Q
    refine Wp.ifnz rfl (fun (c2 : (inB v 0 999) = true) => ?_) (fun (c2 : (inB v 0 999) = false) => ?_)
    · exact ((hQ.2 c1).1 c2)
    · refine Wp.seg 1 (pc1 := 22) (ls1 := [some (.ref 59), some (.int (m)), some (.int (v)), none, none, none, none]) (st1 := [.int (-1)]) rfl ?_
      exact Wp.reti rfl rfl ((hQ.2 c1).2 c2)
theorem m_lotsL {d : Nat} {Q : KO → Prop} {S : Nat → Int32} {n c en : Nat} {RL : List Rul} {v e : Int32} {i N : Nat} (hd : 8 ≤ d) : ∀ (j dn : Nat) (A : Nat → Int32) (s : Int32) (h : KH) (z : Option Value), en ≤ dn + j → WF h → refTh h S A RL n c dn en →
    (∀ k z, Fr pM noP h k → refTh k S (lotsA RL n en j dn A s).2.1 RL n c (lotsA RL n en j dn A s).2.2 en → Wp d 258 60 [some (.ref 59), some (.int (Int32.ofNat N)), some (.int v), some (.int e), some (.int (Int32.ofNat i)), some (.int (lotsA RL n en j dn A s).1), z] [] k Q) →
    Wp d 258 41 [some (.ref 59), some (.int (Int32.ofNat N)), some (.int v), some (.int e), some (.int (Int32.ofNat i)), some (.int s), z] [] h Q
  | 0, dn, A, s, h, z, hij, hw, hk, hQ => t_mtmO hw hk (by omega) hd (hQ h z (Fr.refl h) hk)
  | j + 1, dn, A, s, h, z, hij, hw, hk, hQ => by
    unfold lotsA at hQ
    by_cases q : dn < en
    · simp only [if_pos q] at hQ
      exact t_mtmI hw hk q hd (fun k f g e0 => m_lotsL hd j (dn + 1) _ _ k _ (by omega) (f.wf hw (fun z => z)) (hk.next f pM62 g e0) (fun k2 z2 f2 g2 => hQ k2 z2 (f.trans f2) g2))
    · simp only [if_neg q] at hQ
      exact t_mtmO hw hk q hd (hQ h z (Fr.refl h) hk)
theorem i32_add0 (e : Int32) : e + 0 = e := Int32.add_zero e
theorem m_tmL {d : Nat} {Q : KO → Prop} {S A : Nat → Int32} {RL : List Rul} {n c dn en N : Nat} {v : Int32} (hN : N ≤ 40) (hd : 8 ≤ d) (hS : nrm S = A) (hok : okS S n c dn en) (hR : rulesS S RL) : ∀ (j i : Nat) (zz e : Int32) (h : KH) (y z : Option Value), i + j = N → WF h → refTh h S (ku A 7 zz) RL n c dn en →
    (∀ k, Fr pM noP h k → k.2.2.1 60 = S → Q (some (.int (tmL RL n dn en A v j zz e)), k)) → Wp d 258 32 [some (.ref 59), some (.int (Int32.ofNat N)), some (.int v), some (.int e), some (.int (Int32.ofNat i)), y, z] [] h Q
  | 0, i, zz, e, h, y, z, hij, hw, hk, hQ => by
    obtain rfl : i = N := hij
    exact t_mtmE hw hk (by omega) (fun k f e0 => hQ k (Fr60 f) e0)
  | j + 1, i, zz, e, h, y, z, hij, hw, hk, hQ => by
    have ei : Int32.ofNat i + 1 = Int32.ofNat (i + 1) := ofadd i 1
    have hen := hok.2.2.2.2.2.2.2.2.1
    unfold tmL at hQ
    refine t_mtmB (by omega) hN hd (m_lotsL hd 16 dn (ku A 7 zz) 0 h z (by omega) hw hk (fun k z2 f g => ?_))
    refine t_mtmC (f.wf hw (fun z => z)) g hd (fun k2 f2 e2 => ?_)
    have hr : refOK k2 A RL n c dn en := by
      unfold refOK
      rw [e2]
      exact ⟨hS, hok, hR⟩
    have t2 : refTh k2 S A RL n c dn en := refTh_back g hr f2 (by decide) e2
    have fw := f2.wf (f.wf hw (fun z => z)) (fun z => z)
    have t3 : ∀ x, refTh (kwi k2 60 7 x) S (ku A 7 x) RL n c dn en := fun x => ⟨ref_kwi (m := 7) hr (by decide), fun i hi => by rw [show (kwi k2 60 7 x).2.2.1 62 = k2.2.2.1 62 from kwi_r (by decide)]; exact t2.2.1 i hi, fun m hm => (kwi_o (by omega)).trans (t2.2.2 m hm)⟩
    have f3 : ∀ x, Fr pM noP h (kwi k2 60 7 x) := fun x => (f.trans (Fr60 f2)).trans (fr_kwi (Or.inl rfl) (by decide))
    rw [ei]
    refine ⟨fun c1 => ?_, fun c1 => ?_⟩
    · rw [if_pos c1] at hQ
      rw [i32_add0]
      exact m_tmL hN hd hS hok hR j (i + 1) _ _ _ _ _ (by omega) fw (t3 _) (fun k3 f4 e4 => hQ k3 ((f3 _).trans f4) e4)
    · rw [if_neg c1] at hQ
      exact m_tmL hN hd hS hok hR j (i + 1) _ _ _ _ _ (by omega) fw (t3 _) (fun k3 f4 e4 => hQ k3 ((f3 _).trans f4) e4)
theorem m_times {d : Nat} {h : KH} (hw : WF h) {A : Nat → Int32} {RL : List Rul} {n c dn en : Nat} (hk : refOK h A RL n c dn en) (hd : 8 ≤ d) {m v : Int32} : Cl d 258 [.ref 59, .int m, .int v] h (qu (timesS RL n dn en A m v) h) := by
  unfold timesS
  refine t_mtm hd ⟨fun c1 => ?_, fun c1 => ⟨fun c2 => ?_, fun c2 => ?_⟩⟩
  · rw [if_neg (fun z => by rw [c1] at z; cases z.1)]
    exact qu_i (Quiet.refl h)
  · rw [if_pos ⟨c1, c2⟩]
    obtain ⟨N, -, hN, rfl⟩ := inB_natL (a := 1) (b := 40) c1
    rw [clamp_ofNat (by omega)]
    refine t_mtmS hw hk hd (fun k f g => ?_)
    have e60 : k.2.2.1 60 = h.2.2.1 60 := f.2.2.1 60 (Or.inl (by decide))
    refine m_tmL hN hd hk.1 hk.2.1 hk.2.2 N 0 (A 7) 0 k _ _ (by omega) (f.wf hw (fun z => z)) (by rw [ku_self]; exact g) (fun k2 f2 e2 => qu_i (quiet_m ((Fr62 f).trans (FrM f2)) e2))
  · rw [if_neg (fun z => by rw [c2] at z; cases z.2)]
    exact qu_i (Quiet.refl h)
