/-! KM: the reference: best(), ways(), ith(), siege(), bars() -/
set_option maxHeartbeats 4000000 in
theorem t_mbestB {d : Nat} {Q : KO → Prop} {h : KH} (hw : WF h) {A : Nat → Int32} {RL : List Rul} {n c dn en : Nat} (hk : refOK h A RL n c dn en) {m : Nat} (hm : m ≤ 4) (hd : 8 ≤ d) (hQ : ∀ k, Fr pF noP h k → k.2.2.1 60 = h.2.2.1 60 → keep59 h k → refB k (n + 1) (min m (en - dn)) (PL RL c n 0 (min m (en - dn)) A) → (Q (some (.int (k.2.2.1 59 16)), k))) : Wp d 240 11 [some (.ref 59), some (.int (Int32.ofNat m))] [] h Q := by
  refine Wp.seg 2 (pc1 := 13) (ls1 := [some (.ref 59), some (.int (Int32.ofNat m))]) (st1 := [.int (Int32.ofNat m), .ref 59]) rfl ?_
  refine Wp.invV (d2 := 7) (as := [.ref 59, .int (Int32.ofNat m)]) (r := []) (t := (11, 0)) rfl rfl rfl rfl (WF.t hw 59 rfl) rfl rfl ⟨rfl, rfl⟩ (by omega) (r_find (set := 0) hw hk hm (Nat.le_refl _) ?_)
  intro k f e1 e2 e3
  show Wp d 240 16 [some (.ref 59), some (.int (Int32.ofNat m))] [] k Q
  refine Wp.seg 1 (pc1 := 17) (ls1 := [some (.ref 59), some (.int (Int32.ofNat m))]) (st1 := [.ref 59]) rfl ?_
  refine Wp.gi (t := (11, 0)) rfl (WF.t (f.wf hw (fun z => z)) 59 rfl) (Or.inl rfl) ?_
  exact Wp.reti rfl rfl (hQ k f e1 e2 e3)
set_option maxHeartbeats 4000000 in
theorem t_mbest {d : Nat} {Q : KO → Prop} {h : KH} {v : Int32} (hd : 8 ≤ d) (hQ : ((inB v 0 4) = true → Wp d 240 11 ([some (.ref 59), some (.int (v))]) [] h Q) ∧ ((inB v 0 4) = false → Q (some (.int (-1)), h))) : Cl d 240 [.ref 59, .int (v)] h Q := by
  refine Cl.of (ls := [some (.ref 59), some (.int (v))]) rfl rfl ?_
  refine Wp.seg 3 (pc1 := 3) (ls1 := [some (.ref 59), some (.int (v))]) (st1 := [.int (4), .int (0), .int (v)]) rfl ?_
  refine Wp.inv (d2 := 0) (as := [.int (v), .int (0), .int (4)]) (r := []) rfl rfl rfl rfl rfl rfl (by omega) (s_inB (x := 0) (y := 4) rfl rfl ?_)
  show Wp d 240 6 [some (.ref 59), some (.int (v))] [.int (b32 (inB v 0 4))] h Q
  refine Wp.ifnz rfl (fun (c1 : (inB v 0 4) = true) => ?_) (fun (c1 : (inB v 0 4) = false) => ?_)
  · exact (hQ.1 c1)
  · refine Wp.seg 1 (pc1 := 10) (ls1 := [some (.ref 59), some (.int (v))]) (st1 := [.int (-1)]) rfl ?_
    exact Wp.reti rfl rfl (hQ.2 c1)
theorem m_best {d : Nat} {h : KH} (hw : WF h) {A : Nat → Int32} {RL : List Rul} {n c dn en : Nat} (hk : refOK h A RL n c dn en) (hd : 8 ≤ d) {v : Int32} : Cl d 240 [.ref 59, .int v] h (qu (bestS RL n c dn en A v) h) := by
  have o := hk.2.1.2.2.2.2.2.2.1
  unfold bestS plN
  refine t_mbest hd ⟨fun q => ?_, fun q => ?_⟩
  · rw [if_pos q]
    obtain ⟨m, hm, rfl⟩ := inB_nat (b := 4) q
    rw [clamp_ofNat (by omega)]
    refine t_mbestB hw hk hm hd (fun k f e1 e2 e3 => ?_)
    obtain ⟨b1, b2⟩ := e3
    obtain ⟨b3, -⟩ := PL_best RL c n 0 (L := min m (en - dn)) (by omega) A
    have b4 := b2.resolve_left (fun z => by rw [z] at b3; exact absurd b3 (by decide))
    rw [b1]
    exact qu_i (quiet_f f e1 e2)
  · rw [if_neg (by rw [q]; decide)]
    exact qu_i (Quiet.refl h)
set_option maxHeartbeats 4000000 in
theorem t_mwaysB {d : Nat} {Q : KO → Prop} {h : KH} (hw : WF h) {A : Nat → Int32} {RL : List Rul} {n c dn en : Nat} (hk : refOK h A RL n c dn en) {m : Nat} (hm : m ≤ 4) (hd : 8 ≤ d) (hQ : ∀ k, Fr pF noP h k → k.2.2.1 60 = h.2.2.1 60 → keep59 h k → refB k (n + 1) (min m (en - dn)) (PL RL c n 0 (min m (en - dn)) A) → (Q (some (.int (k.2.2.1 59 17)), k))) : Wp d 242 11 [some (.ref 59), some (.int (Int32.ofNat m))] [] h Q := by
  refine Wp.seg 2 (pc1 := 13) (ls1 := [some (.ref 59), some (.int (Int32.ofNat m))]) (st1 := [.int (Int32.ofNat m), .ref 59]) rfl ?_
  refine Wp.invV (d2 := 7) (as := [.ref 59, .int (Int32.ofNat m)]) (r := []) (t := (11, 0)) rfl rfl rfl rfl (WF.t hw 59 rfl) rfl rfl ⟨rfl, rfl⟩ (by omega) (r_find (set := 0) hw hk hm (Nat.le_refl _) ?_)
  intro k f e1 e2 e3
  show Wp d 242 16 [some (.ref 59), some (.int (Int32.ofNat m))] [] k Q
  refine Wp.seg 1 (pc1 := 17) (ls1 := [some (.ref 59), some (.int (Int32.ofNat m))]) (st1 := [.ref 59]) rfl ?_
  refine Wp.gi (t := (11, 0)) rfl (WF.t (f.wf hw (fun z => z)) 59 rfl) (Or.inl rfl) ?_
  exact Wp.reti rfl rfl (hQ k f e1 e2 e3)
set_option maxHeartbeats 4000000 in
theorem t_mways {d : Nat} {Q : KO → Prop} {h : KH} {v : Int32} (hd : 8 ≤ d) (hQ : ((inB v 0 4) = true → Wp d 242 11 ([some (.ref 59), some (.int (v))]) [] h Q) ∧ ((inB v 0 4) = false → Q (some (.int (-1)), h))) : Cl d 242 [.ref 59, .int (v)] h Q := by
  refine Cl.of (ls := [some (.ref 59), some (.int (v))]) rfl rfl ?_
  refine Wp.seg 3 (pc1 := 3) (ls1 := [some (.ref 59), some (.int (v))]) (st1 := [.int (4), .int (0), .int (v)]) rfl ?_
  refine Wp.inv (d2 := 0) (as := [.int (v), .int (0), .int (4)]) (r := []) rfl rfl rfl rfl rfl rfl (by omega) (s_inB (x := 0) (y := 4) rfl rfl ?_)
  show Wp d 242 6 [some (.ref 59), some (.int (v))] [.int (b32 (inB v 0 4))] h Q
  refine Wp.ifnz rfl (fun (c1 : (inB v 0 4) = true) => ?_) (fun (c1 : (inB v 0 4) = false) => ?_)
  · exact (hQ.1 c1)
  · refine Wp.seg 1 (pc1 := 10) (ls1 := [some (.ref 59), some (.int (v))]) (st1 := [.int (-1)]) rfl ?_
    exact Wp.reti rfl rfl (hQ.2 c1)
theorem m_ways {d : Nat} {h : KH} (hw : WF h) {A : Nat → Int32} {RL : List Rul} {n c dn en : Nat} (hk : refOK h A RL n c dn en) (hd : 8 ≤ d) {v : Int32} : Cl d 242 [.ref 59, .int v] h (qu (waysS RL n c dn en A v) h) := by
  have o := hk.2.1.2.2.2.2.2.2.1
  unfold waysS plN
  refine t_mways hd ⟨fun q => ?_, fun q => ?_⟩
  · rw [if_pos q]
    obtain ⟨m, hm, rfl⟩ := inB_nat (b := 4) q
    rw [clamp_ofNat (by omega)]
    refine t_mwaysB hw hk hm hd (fun k f e1 e2 e3 => ?_)
    obtain ⟨b1, b2⟩ := e3
    obtain ⟨b3, -⟩ := PL_best RL c n 0 (L := min m (en - dn)) (by omega) A
    have b4 := b2.resolve_left (fun z => by rw [z] at b3; exact absurd b3 (by decide))
    rw [b4.2.1]
    exact qu_i (quiet_f f e1 e2)
  · rw [if_neg (by rw [q]; decide)]
    exact qu_i (Quiet.refl h)
set_option maxHeartbeats 4000000 in
theorem t_mithB {d : Nat} {Q : KO → Prop} {h : KH} (hw : WF h) {A : Nat → Int32} {RL : List Rul} {n c dn en : Nat} (hk : refOK h A RL n c dn en) {m i : Nat} (hm : m ≤ 4) (hi3 : i ≤ 3) (hiL : i < min m (en - dn)) (hdg : ∀ (Q : KO → Prop) (k : KH), Fr pF noP h k → k.2.2.1 60 = h.2.2.1 60 → keep59 h k → refB k (n + 1) (min m (en - dn)) (PL RL c n 0 (min m (en - dn)) A) → Q (some (.int (Int32.ofNat ((PL RL c n 0 (min m (en - dn)) A).2.2.2.2.getD i 0))), k) → Cl 0 237 [.int (k.2.2.1 59 15), .int (Int32.ofNat n + 1), .int (Int32.ofNat i), .int (Int32.ofNat (min m (en - dn)))] k Q) (hd : 8 ≤ d) (hQ : ∀ k, Fr pF noP h k → k.2.2.1 60 = h.2.2.1 60 → keep59 h k → refB k (n + 1) (min m (en - dn)) (PL RL c n 0 (min m (en - dn)) A) → (Q (some (.int (Int32.ofNat ((PL RL c n 0 (min m (en - dn)) A).2.2.2.2.getD i 0))), k))) : Wp d 241 20 [some (.ref 59), some (.int (Int32.ofNat m)), some (.int (Int32.ofNat i)), none] [] h Q := by
  refine Wp.seg 2 (pc1 := 22) (ls1 := [some (.ref 59), some (.int (Int32.ofNat m)), some (.int (Int32.ofNat i)), none]) (st1 := [.int (Int32.ofNat m), .ref 59]) rfl ?_
  refine Wp.invV (d2 := 0) (as := [.ref 59, .int (Int32.ofNat m)]) (r := []) (t := (11, 0)) rfl rfl rfl rfl (WF.t hw 59 rfl) rfl rfl ⟨rfl, rfl⟩ (by omega) (r_months hw hk hm ?_)
  show Wp d 241 25 [some (.ref 59), some (.int (Int32.ofNat m)), some (.int (Int32.ofNat i)), none] [.int (Int32.ofNat (min m (en - dn)))] h Q
  refine Wp.seg 3 (pc1 := 28) (ls1 := [some (.ref 59), some (.int (Int32.ofNat m)), some (.int (Int32.ofNat i)), some (.int (Int32.ofNat (min m (en - dn))))]) (st1 := [.int (Int32.ofNat (min m (en - dn))), .int (Int32.ofNat i)]) rfl ?_
  refine Wp.if2 rfl (fun c1 => ?_) (fun c1 => absurd ((olt (by omega) (by omega)).mpr hiL) c1)
  refine Wp.seg 2 (pc1 := 36) (ls1 := [some (.ref 59), some (.int (Int32.ofNat m)), some (.int (Int32.ofNat i)), some (.int (Int32.ofNat (min m (en - dn))))]) (st1 := [.int (Int32.ofNat m), .ref 59]) rfl ?_
  refine Wp.invV (d2 := 7) (as := [.ref 59, .int (Int32.ofNat m)]) (r := []) (t := (11, 0)) rfl rfl rfl rfl (WF.t hw 59 rfl) rfl rfl ⟨rfl, rfl⟩ (by omega) (r_find (set := 0) hw hk hm (Nat.le_refl _) ?_)
  intro k f e1 e2 e3
  show Wp d 241 39 [some (.ref 59), some (.int (Int32.ofNat m)), some (.int (Int32.ofNat i)), some (.int (Int32.ofNat (min m (en - dn))))] [] k Q
  refine Wp.seg 1 (pc1 := 40) (ls1 := [some (.ref 59), some (.int (Int32.ofNat m)), some (.int (Int32.ofNat i)), some (.int (Int32.ofNat (min m (en - dn))))]) (st1 := [.ref 59]) rfl ?_
  refine Wp.gi (t := (11, 0)) rfl (WF.t (f.wf hw (fun z => z)) 59 rfl) (Or.inl rfl) ?_
  refine Wp.seg 1 (pc1 := 44) (ls1 := [some (.ref 59), some (.int (Int32.ofNat m)), some (.int (Int32.ofNat i)), some (.int (Int32.ofNat (min m (en - dn))))]) (st1 := [.ref 59, .int (k.2.2.1 59 15)]) rfl ?_
  refine Wp.gr (t := (11, 0)) (v := some (60)) rfl (WF.t (f.wf hw (fun z => z)) 59 rfl) rfl (WF.r (f.wf hw (fun z => z)) 59 0 58 rfl) ?_
  show Wp d 241 47 [some (.ref 59), some (.int (Int32.ofNat m)), some (.int (Int32.ofNat i)), some (.int (Int32.ofNat (min m (en - dn))))] [.ref 60, .int (k.2.2.1 59 15)] k Q
  refine Wp.seg 1 (pc1 := 49) (ls1 := [some (.ref 59), some (.int (Int32.ofNat m)), some (.int (Int32.ofNat i)), some (.int (Int32.ofNat (min m (en - dn))))]) (st1 := [.int (8), .ref 60, .int (k.2.2.1 59 15)]) rfl ?_
  refine Wp.iald (j := 8) (k := 20) (n := 585) rfl (WF.t (f.wf hw (fun z => z)) 60 rfl) rfl rfl (by decide) (by decide) ?_
  rw [show k.2.2.1 60 8 = Int32.ofNat n from (congrFun e1 8).trans hk.2.1.2.1]
  refine Wp.seg 4 (pc1 := 54) (ls1 := [some (.ref 59), some (.int (Int32.ofNat m)), some (.int (Int32.ofNat i)), some (.int (Int32.ofNat (min m (en - dn))))]) (st1 := [.int (Int32.ofNat (min m (en - dn))), .int (Int32.ofNat i), .int ((Int32.ofNat n) + (1 : Int32)), .int (k.2.2.1 59 15)]) rfl ?_
  refine Wp.inv (d2 := 0) (as := [.int (k.2.2.1 59 15), .int ((Int32.ofNat n) + (1 : Int32)), .int (Int32.ofNat i), .int (Int32.ofNat (min m (en - dn)))]) (r := []) rfl rfl rfl rfl rfl rfl (by omega) (hdg _ k f e1 e2 e3 ?_)
  show Wp d 241 57 [some (.ref 59), some (.int (Int32.ofNat m)), some (.int (Int32.ofNat i)), some (.int (Int32.ofNat (min m (en - dn))))] [.int (Int32.ofNat ((PL RL c n 0 (min m (en - dn)) A).2.2.2.2.getD i 0))] k Q
  exact Wp.reti rfl rfl (hQ k f e1 e2 e3)
set_option maxHeartbeats 4000000 in
theorem t_mithN {d : Nat} {Q : KO → Prop} {h : KH} (hw : WF h) {A : Nat → Int32} {RL : List Rul} {n c dn en : Nat} (hk : refOK h A RL n c dn en) {m i : Nat} (hm : m ≤ 4) (hi3 : i ≤ 3) (hiL : ¬ i < min m (en - dn)) (hd : 1 ≤ d) (hQ : Q (some (.int (-3)), h)) : Wp d 241 20 [some (.ref 59), some (.int (Int32.ofNat m)), some (.int (Int32.ofNat i)), none] [] h Q := by
  refine Wp.seg 2 (pc1 := 22) (ls1 := [some (.ref 59), some (.int (Int32.ofNat m)), some (.int (Int32.ofNat i)), none]) (st1 := [.int (Int32.ofNat m), .ref 59]) rfl ?_
  refine Wp.invV (d2 := 0) (as := [.ref 59, .int (Int32.ofNat m)]) (r := []) (t := (11, 0)) rfl rfl rfl rfl (WF.t hw 59 rfl) rfl rfl ⟨rfl, rfl⟩ (by omega) (r_months hw hk hm ?_)
  show Wp d 241 25 [some (.ref 59), some (.int (Int32.ofNat m)), some (.int (Int32.ofNat i)), none] [.int (Int32.ofNat (min m (en - dn)))] h Q
  refine Wp.seg 3 (pc1 := 28) (ls1 := [some (.ref 59), some (.int (Int32.ofNat m)), some (.int (Int32.ofNat i)), some (.int (Int32.ofNat (min m (en - dn))))]) (st1 := [.int (Int32.ofNat (min m (en - dn))), .int (Int32.ofNat i)]) rfl ?_
  refine Wp.if2 rfl (fun c1 => absurd c1 (fun c => hiL ((olt (by omega) (by omega)).mp c))) (fun c1 => ?_)
  refine Wp.seg 1 (pc1 := 33) (ls1 := [some (.ref 59), some (.int (Int32.ofNat m)), some (.int (Int32.ofNat i)), some (.int (Int32.ofNat (min m (en - dn))))]) (st1 := [.int (-3)]) rfl ?_
  exact Wp.reti rfl rfl hQ
set_option maxHeartbeats 4000000 in
theorem t_mith {d : Nat} {Q : KO → Prop} {h : KH} {v i : Int32} (hd : 8 ≤ d) (hQ : ((inB v 0 4) = false → Q (some (.int (-1)), h)) ∧ ((inB v 0 4) = true → ((inB i 0 3) = true → Wp d 241 20 ([some (.ref 59), some (.int (v)), some (.int (i)), none]) [] h Q) ∧ ((inB i 0 3) = false → Q (some (.int (-1)), h)))) : Cl d 241 [.ref 59, .int (v), .int (i)] h Q := by
  refine Cl.of (ls := [some (.ref 59), some (.int (v)), some (.int (i)), none]) rfl rfl ?_
  refine Wp.seg 3 (pc1 := 3) (ls1 := [some (.ref 59), some (.int (v)), some (.int (i)), none]) (st1 := [.int (4), .int (0), .int (v)]) rfl ?_
  refine Wp.inv (d2 := 0) (as := [.int (v), .int (0), .int (4)]) (r := []) rfl rfl rfl rfl rfl rfl (by omega) (s_inB (x := 0) (y := 4) rfl rfl ?_)
  show Wp d 241 6 [some (.ref 59), some (.int (v)), some (.int (i)), none] [.int (b32 (inB v 0 4))] h Q
  refine Wp.ifz rfl (fun (c1 : (inB v 0 4) = false) => ?_) (fun (c1 : (inB v 0 4) = true) => ?_)
  · refine Wp.seg 1 (pc1 := 19) (ls1 := [some (.ref 59), some (.int (v)), some (.int (i)), none]) (st1 := [.int (-1)]) rfl ?_
    exact Wp.reti rfl rfl (hQ.1 c1)
  · refine Wp.seg 3 (pc1 := 12) (ls1 := [some (.ref 59), some (.int (v)), some (.int (i)), none]) (st1 := [.int (3), .int (0), .int (i)]) rfl ?_
    refine Wp.inv (d2 := 0) (as := [.int (i), .int (0), .int (3)]) (r := []) rfl rfl rfl rfl rfl rfl (by omega) (s_inB (x := 0) (y := 3) rfl rfl ?_)
    show Wp d 241 15 [some (.ref 59), some (.int (v)), some (.int (i)), none] [.int (b32 (inB i 0 3))] h Q
    refine Wp.ifnz rfl (fun (c2 : (inB i 0 3) = true) => ?_) (fun (c2 : (inB i 0 3) = false) => ?_)
    · exact ((hQ.2 c1).1 c2)
    · refine Wp.seg 1 (pc1 := 19) (ls1 := [some (.ref 59), some (.int (v)), some (.int (i)), none]) (st1 := [.int (-1)]) rfl ?_
      exact Wp.reti rfl rfl ((hQ.2 c1).2 c2)
theorem m_ith {d : Nat} {h : KH} (hw : WF h) {A : Nat → Int32} {RL : List Rul} {n c dn en : Nat} (hk : refOK h A RL n c dn en) (hd : 8 ≤ d) {v i : Int32} : Cl d 241 [.ref 59, .int v, .int i] h (qu (ithS RL n c dn en A v i) h) := by
  have o := hk.2.1.2.2.2.2.2.2.1
  have hn := hk.2.1.1
  unfold ithS plN
  refine t_mith hd ⟨fun q => ?_, fun q => ⟨fun q2 => ?_, fun q2 => ?_⟩⟩
  · rw [if_neg (fun z => by rw [q] at z; cases z.1)]
    exact qu_i (Quiet.refl h)
  · rw [if_pos ⟨q, q2⟩]
    obtain ⟨m, hm, rfl⟩ := inB_nat (b := 4) q
    obtain ⟨j, hj, rfl⟩ := inB_nat (b := 3) q2
    rw [clamp_ofNat (by omega), clamp_ofNat (by omega)]
    by_cases hL : j < min m (en - dn)
    · rw [if_pos hL]
      refine t_mithB hw hk hm hj hL (fun Q k f e1 e2 e3 hQ => ?_) hd (fun k f e1 e2 e3 => qu_i (quiet_f f e1 e2))
      obtain ⟨b1, b2⟩ := e3
      obtain ⟨b3, -⟩ := PL_best RL c n 0 (L := min m (en - dn)) (by omega) A
      obtain ⟨b5, b6, p, b7, b8, b9⟩ := b2.resolve_left (fun z => by rw [z] at b3; exact absurd b3 (by decide))
      rw [b8]
      rw [b9] at hQ
      exact r_dig (ofadd n 1) hn (by omega) hL b7 hQ
    · rw [if_neg hL]
      exact t_mithN hw hk hm hj hL (by omega) (qu_i (Quiet.refl h))
  · rw [if_neg (fun z => by rw [q2] at z; cases z.2)]
    exact qu_i (Quiet.refl h)
set_option maxHeartbeats 4000000 in
theorem t_aiB {d : Nat} {Q : KO → Prop} {h : KH} (hw : WF h) {p L i n : Nat} {t : Int32} (h8 : h.2.2.1 60 8 = Int32.ofNat n) (hn : n ≤ 6) (hL : L ≤ 4) (hi : i < L) (hp : p < (n + 1) ^ L) (hd : 1 ≤ d) (hQ : ((Int32.ofNat ((digsR (n + 1) L p).getD i 0)) ≤ 0 → Wp d 243 5 ([some (.ref 59), some (.int (Int32.ofNat p)), some (.int (Int32.ofNat L)), some (.int (t + (0 : Int32))), some (.int ((Int32.ofNat i) + 1))]) [] h Q) ∧ (¬ ((Int32.ofNat ((digsR (n + 1) L p).getD i 0)) ≤ 0) → Wp d 243 5 ([some (.ref 59), some (.int (Int32.ofNat p)), some (.int (Int32.ofNat L)), some (.int (t + (1 : Int32))), some (.int ((Int32.ofNat i) + 1))]) [] h Q)) : Wp d 243 5 [some (.ref 59), some (.int (Int32.ofNat p)), some (.int (Int32.ofNat L)), some (.int (t)), some (.int (Int32.ofNat i))] [] h Q := by
  refine Wp.seg 2 (pc1 := 8) (ls1 := [some (.ref 59), some (.int (Int32.ofNat p)), some (.int (Int32.ofNat L)), some (.int (t)), some (.int (Int32.ofNat i))]) (st1 := [.int (Int32.ofNat L), .int (Int32.ofNat i)]) rfl ?_
  refine Wp.if2 rfl (fun c1 => absurd c1 (fun c => by have := (ole (by omega) (by omega)).mp c; omega)) (fun c1 => ?_)
  refine Wp.seg 3 (pc1 := 14) (ls1 := [some (.ref 59), some (.int (Int32.ofNat p)), some (.int (Int32.ofNat L)), some (.int (t)), some (.int (Int32.ofNat i))]) (st1 := [.ref 59, .int (Int32.ofNat p), .int (t)]) rfl ?_
  refine Wp.gr (t := (11, 0)) (v := some (60)) rfl (WF.t hw 59 rfl) rfl (WF.r hw 59 0 58 rfl) ?_
  show Wp d 243 17 [some (.ref 59), some (.int (Int32.ofNat p)), some (.int (Int32.ofNat L)), some (.int (t)), some (.int (Int32.ofNat i))] [.ref 60, .int (Int32.ofNat p), .int (t)] h Q
  refine Wp.seg 1 (pc1 := 19) (ls1 := [some (.ref 59), some (.int (Int32.ofNat p)), some (.int (Int32.ofNat L)), some (.int (t)), some (.int (Int32.ofNat i))]) (st1 := [.int (8), .ref 60, .int (Int32.ofNat p), .int (t)]) rfl ?_
  refine Wp.iald (j := 8) (k := 20) (n := 585) rfl (WF.t hw 60 rfl) rfl rfl (by decide) (by decide) ?_
  rw [show h.2.2.1 60 8 = Int32.ofNat n from h8]
  refine Wp.seg 4 (pc1 := 25) (ls1 := [some (.ref 59), some (.int (Int32.ofNat p)), some (.int (Int32.ofNat L)), some (.int (t)), some (.int (Int32.ofNat i))]) (st1 := [.int (Int32.ofNat L), .int (Int32.ofNat i), .int ((Int32.ofNat n) + (1 : Int32)), .int (Int32.ofNat p), .int (t)]) rfl ?_
  refine Wp.inv (d2 := 0) (as := [.int (Int32.ofNat p), .int ((Int32.ofNat n) + (1 : Int32)), .int (Int32.ofNat i), .int (Int32.ofNat L)]) (r := [.int (t)]) rfl rfl rfl rfl rfl rfl (by omega) (r_dig (n := n) (ofadd n 1) hn hL hi hp ?_)
  show Wp d 243 28 [some (.ref 59), some (.int (Int32.ofNat p)), some (.int (Int32.ofNat L)), some (.int (t)), some (.int (Int32.ofNat i))] [.int (Int32.ofNat ((digsR (n + 1) L p).getD i 0)), .int (t)] h Q
  refine Wp.if1 rfl (fun (c2 : (Int32.ofNat ((digsR (n + 1) L p).getD i 0)) ≤ 0) => ?_) (fun (c2 : ¬ ((Int32.ofNat ((digsR (n + 1) L p).getD i 0)) ≤ 0)) => ?_)
  · refine Wp.seg 5 (pc1 := 5) (ls1 := [some (.ref 59), some (.int (Int32.ofNat p)), some (.int (Int32.ofNat L)), some (.int (t + (0 : Int32))), some (.int ((Int32.ofNat i) + 1))]) (st1 := []) rfl ?_
    exact (hQ.1 c2)
  · refine Wp.seg 6 (pc1 := 5) (ls1 := [some (.ref 59), some (.int (Int32.ofNat p)), some (.int (Int32.ofNat L)), some (.int (t + (1 : Int32))), some (.int ((Int32.ofNat i) + 1))]) (st1 := []) rfl ?_
    exact (hQ.2 c2)
set_option maxHeartbeats 4000000 in
theorem t_aiE {d : Nat} {Q : KO → Prop} {h : KH} {p t : Int32} {L : Nat} (hd : 0 ≤ d) (hQ : Q (some (.int (t)), h)) : Wp d 243 5 [some (.ref 59), some (.int (p)), some (.int (Int32.ofNat L)), some (.int (t)), some (.int (Int32.ofNat L))] [] h Q := by
  refine Wp.seg 2 (pc1 := 8) (ls1 := [some (.ref 59), some (.int (p)), some (.int (Int32.ofNat L)), some (.int (t)), some (.int (Int32.ofNat L))]) (st1 := [.int (Int32.ofNat L), .int (Int32.ofNat L)]) rfl ?_
  refine Wp.if2 rfl (fun c1 => ?_) (fun c1 => absurd (Int32.le_refl _) c1)
  refine Wp.seg 1 (pc1 := 45) (ls1 := [some (.ref 59), some (.int (p)), some (.int (Int32.ofNat L)), some (.int (t)), some (.int (Int32.ofNat L))]) (st1 := [.int (t)]) rfl ?_
  exact Wp.reti rfl rfl hQ
set_option maxHeartbeats 4000000 in
theorem t_ai {d : Nat} {Q : KO → Prop} {h : KH} {p L : Int32} (hd : 1 ≤ d) (hQ : Wp d 243 5 ([some (.ref 59), some (.int (p)), some (.int (L)), some (.int (0)), some (.int (0))]) [] h Q) : Cl d 243 [.ref 59, .int (p), .int (L)] h Q := by
  refine Cl.of (ls := [some (.ref 59), some (.int (p)), some (.int (L)), none, none]) rfl rfl ?_
  refine Wp.seg 4 (pc1 := 5) (ls1 := [some (.ref 59), some (.int (p)), some (.int (L)), some (.int (0)), some (.int (0))]) (st1 := []) rfl ?_
  exact hQ
theorem r_actsL {d : Nat} {Q : KO → Prop} {RL : List Rul} {n c p L : Nat} {h : KH} (hw : WF h) (h8 : h.2.2.1 60 8 = Int32.ofNat n) (hn : n ≤ 6) (hL : L ≤ 4) (hp : p < (n + 1) ^ L) (hd : 1 ≤ d) : ∀ (j i : Nat) (A : Nat → Int32) (s t sh : Int32), i + j = L →
    Q (some (.int (outc RL c ((digsR (n + 1) L p).drop i) A s t sh).2.1), h) → Wp d 243 5 [some (.ref 59), some (.int (Int32.ofNat p)), some (.int (Int32.ofNat L)), some (.int t), some (.int (Int32.ofNat i))] [] h Q := by
  intro j
  induction j with
  | zero =>
    intro i A s t sh hij hQ
    have hiL : i = L := hij
    subst hiL
    rw [List.drop_of_length_le (by rw [digsR_len]; exact Nat.le_refl _), outc_nil] at hQ
    exact t_aiE (Nat.zero_le _) hQ
  | succ j ih =>
    intro i A s t sh hij hQ
    have hlen : i < (digsR (n + 1) L p).length := by rw [digsR_len]; omega
    have hgl : (digsR (n + 1) L p).getD i 0 ≤ n := by
      have e : (digsR (n + 1) L p).getD i 0 = (digsR (n + 1) L p)[i] := by simp [hlen]
      have := digsR_lt (Nat.succ_pos n) L p hp _ (List.getElem_mem hlen)
      omega
    rw [drop_get hlen, outc_cons] at hQ
    refine t_aiB hw h8 hn hL (by omega) hp hd ⟨fun c1 => ?_, fun c1 => ?_⟩
    · have c2 := (zle (znat (n := (digsR (n + 1) L p).getD i 0) (by omega)) (n := 0) rfl).mp c1
      rw [if_pos (by omega)] at hQ
      rw [i32_add0, show Int32.ofNat i + 1 = Int32.ofNat (i + 1) from ofadd i 1]
      exact ih (i + 1) _ _ _ _ (by omega) hQ
    · have c2 := mt (zle (znat (n := (digsR (n + 1) L p).getD i 0) (by omega)) (n := 0) rfl).mpr c1
      rw [if_neg (by omega)] at hQ
      rw [show Int32.ofNat i + 1 = Int32.ofNat (i + 1) from ofadd i 1]
      exact ih (i + 1) _ _ _ _ (by omega) hQ
theorem r_acts {d : Nat} {Q : KO → Prop} {RL : List Rul} {n c p L : Nat} {h : KH} {A : Nat → Int32} {s sh : Int32} (hw : WF h) (h8 : h.2.2.1 60 8 = Int32.ofNat n) (hn : n ≤ 6) (hL : L ≤ 4) (hp : p < (n + 1) ^ L) (hd : 1 ≤ d) (hQ : Q (some (.int (outc RL c (digsR (n + 1) L p) A s 0 sh).2.1), h)) : Cl d 243 [.ref 59, .int (Int32.ofNat p), .int (Int32.ofNat L)] h Q :=
  t_ai hd (r_actsL hw h8 hn hL hp hd L 0 A s 0 sh (by omega) hQ)
set_option maxHeartbeats 4000000 in
theorem t_sgB {d : Nat} {Q : KO → Prop} {h : KH} (hw : WF h) {S A : Nat → Int32} {RL : List Rul} {n c dn en : Nat} (hk : refTh h S A RL n c dn en) {p L N : Nat} (hL : L ≤ 4) (hn : n ≤ 6) (hp : p < (n + 1) ^ L) (hdn : dn + L ≤ en) (hN : p < N) (hN2 : N ≤ 2401) (hS8 : S 8 = Int32.ofNat n) {m set lst : Int32} {y z : Option Value} (hd : 7 ≤ d) (hQ : ∀ k, Fr pN noP h k → k.2.2.1 60 = S → k.2.2.1 59 14 = (outc RL c (digsR (n + 1) L p) A 0 0 (shA c A)).2.2 → (∀ x, x ≠ 14 → k.2.2.1 59 x = h.2.2.1 59 x) → ((¬ (set &&& (((outc RL c (digsR (n + 1) L p) A 0 0 (shA c A)).2.2) ^^^ (-1 : Int32))) = 0 → Wp d 244 46 ([some (.ref 59), some (.int (m)), some (.int (set)), some (.int (Int32.ofNat L)), some (.int (Int32.ofNat N)), some (.int (lst)), some (.int ((Int32.ofNat p) + 1)), some (.int ((outc RL c (digsR (n + 1) L p) A 0 0 (shA c A)).2.1)), some (.int (0))]) [] k Q) ∧ (¬ (¬ (set &&& (((outc RL c (digsR (n + 1) L p) A 0 0 (shA c A)).2.2) ^^^ (-1 : Int32))) = 0) → (lst < 0 → Wp d 244 46 ([some (.ref 59), some (.int (m)), some (.int (set)), some (.int (Int32.ofNat L)), some (.int (Int32.ofNat N)), some (.int ((outc RL c (digsR (n + 1) L p) A 0 0 (shA c A)).2.1)), some (.int ((Int32.ofNat p) + 1)), some (.int ((outc RL c (digsR (n + 1) L p) A 0 0 (shA c A)).2.1)), some (.int (1))]) [] k Q) ∧ (¬ (lst < 0) → (lst ≤ ((outc RL c (digsR (n + 1) L p) A 0 0 (shA c A)).2.1) → Wp d 244 46 ([some (.ref 59), some (.int (m)), some (.int (set)), some (.int (Int32.ofNat L)), some (.int (Int32.ofNat N)), some (.int (lst)), some (.int ((Int32.ofNat p) + 1)), some (.int ((outc RL c (digsR (n + 1) L p) A 0 0 (shA c A)).2.1)), some (.int (0))]) [] k Q) ∧ (¬ (lst ≤ ((outc RL c (digsR (n + 1) L p) A 0 0 (shA c A)).2.1)) → Wp d 244 46 ([some (.ref 59), some (.int (m)), some (.int (set)), some (.int (Int32.ofNat L)), some (.int (Int32.ofNat N)), some (.int ((outc RL c (digsR (n + 1) L p) A 0 0 (shA c A)).2.1)), some (.int ((Int32.ofNat p) + 1)), some (.int ((outc RL c (digsR (n + 1) L p) A 0 0 (shA c A)).2.1)), some (.int (1))]) [] k Q))))) : Wp d 244 46 [some (.ref 59), some (.int (m)), some (.int (set)), some (.int (Int32.ofNat L)), some (.int (Int32.ofNat N)), some (.int (lst)), some (.int (Int32.ofNat p)), y, z] [] h Q := by
  refine Wp.seg 2 (pc1 := 50) (ls1 := [some (.ref 59), some (.int (m)), some (.int (set)), some (.int (Int32.ofNat L)), some (.int (Int32.ofNat N)), some (.int (lst)), some (.int (Int32.ofNat p)), y, z]) (st1 := [.int (Int32.ofNat N), .int (Int32.ofNat p)]) rfl ?_
  refine Wp.if2 rfl (fun c1 => absurd c1 (fun c => by have := (ole (by omega) (by omega)).mp c; omega)) (fun c1 => ?_)
  refine Wp.seg 3 (pc1 := 57) (ls1 := [some (.ref 59), some (.int (m)), some (.int (set)), some (.int (Int32.ofNat L)), some (.int (Int32.ofNat N)), some (.int (lst)), some (.int (Int32.ofNat p)), y, z]) (st1 := [.int (Int32.ofNat L), .int (Int32.ofNat p), .ref 59]) rfl ?_
  refine Wp.invV (d2 := 6) (as := [.ref 59, .int (Int32.ofNat p), .int (Int32.ofNat L)]) (r := []) (t := (11, 0)) rfl rfl rfl rfl (WF.t hw 59 rfl) rfl rfl ⟨rfl, rfl⟩ (by omega) (r_worth hw hk hL hp hdn (Nat.le_refl _) ?_)
  intro k f e1 e2 e3
  show Wp d 244 60 [some (.ref 59), some (.int (m)), some (.int (set)), some (.int (Int32.ofNat L)), some (.int (Int32.ofNat N)), some (.int (lst)), some (.int (Int32.ofNat p)), y, z] [.int ((outc RL c (digsR (n + 1) L p) A 0 0 (shA c A)).1)] k Q
  refine Wp.seg 4 (pc1 := 65) (ls1 := [some (.ref 59), some (.int (m)), some (.int (set)), some (.int (Int32.ofNat L)), some (.int (Int32.ofNat N)), some (.int (lst)), some (.int (Int32.ofNat p)), y, z]) (st1 := [.int (Int32.ofNat L), .int (Int32.ofNat p), .ref 59]) rfl ?_
  refine Wp.invV (d2 := 1) (as := [.ref 59, .int (Int32.ofNat p), .int (Int32.ofNat L)]) (r := []) (t := (11, 0)) rfl rfl rfl rfl (WF.t (f.wf hw (fun z => z)) 59 rfl) rfl rfl ⟨rfl, rfl⟩ (by omega) (r_acts (RL := RL) (c := c) (A := A) (s := 0) (sh := shA c A) (f.wf hw (fun z => z)) ((congrFun e1 8).trans hS8) hn hL hp (Nat.le_refl _) ?_)
  show Wp d 244 68 [some (.ref 59), some (.int (m)), some (.int (set)), some (.int (Int32.ofNat L)), some (.int (Int32.ofNat N)), some (.int (lst)), some (.int (Int32.ofNat p)), y, z] [.int ((outc RL c (digsR (n + 1) L p) A 0 0 (shA c A)).2.1)] k Q
  refine Wp.seg 3 (pc1 := 72) (ls1 := [some (.ref 59), some (.int (m)), some (.int (set)), some (.int (Int32.ofNat L)), some (.int (Int32.ofNat N)), some (.int (lst)), some (.int (Int32.ofNat p)), some (.int ((outc RL c (digsR (n + 1) L p) A 0 0 (shA c A)).2.1)), z]) (st1 := [.ref 59, .int (set)]) rfl ?_
  refine Wp.gi (t := (11, 0)) rfl (WF.t (f.wf hw (fun z => z)) 59 rfl) (Or.inl rfl) ?_
  rw [show k.2.2.1 59 14 = (outc RL c (digsR (n + 1) L p) A 0 0 (shA c A)).2.2 from e2]
  refine Wp.seg 3 (pc1 := 78) (ls1 := [some (.ref 59), some (.int (m)), some (.int (set)), some (.int (Int32.ofNat L)), some (.int (Int32.ofNat N)), some (.int (lst)), some (.int (Int32.ofNat p)), some (.int ((outc RL c (digsR (n + 1) L p) A 0 0 (shA c A)).2.1)), z]) (st1 := [.int (set &&& (((outc RL c (digsR (n + 1) L p) A 0 0 (shA c A)).2.2) ^^^ (-1 : Int32)))]) rfl ?_
  refine Wp.if1 rfl (fun (c2 : ¬ (set &&& (((outc RL c (digsR (n + 1) L p) A 0 0 (shA c A)).2.2) ^^^ (-1 : Int32))) = 0) => ?_) (fun (c2 : ¬ (¬ (set &&& (((outc RL c (digsR (n + 1) L p) A 0 0 (shA c A)).2.2) ^^^ (-1 : Int32))) = 0)) => ?_)
  · refine Wp.seg 3 (pc1 := 102) (ls1 := [some (.ref 59), some (.int (m)), some (.int (set)), some (.int (Int32.ofNat L)), some (.int (Int32.ofNat N)), some (.int (lst)), some (.int (Int32.ofNat p)), some (.int ((outc RL c (digsR (n + 1) L p) A 0 0 (shA c A)).2.1)), some (.int (0))]) (st1 := [.int (0)]) rfl ?_
    refine Wp.if1 rfl (fun c3 => ?_) (fun c3 => absurd (show (0 : Int32) = 0 by decide) c3)
    refine Wp.seg 4 (pc1 := 46) (ls1 := [some (.ref 59), some (.int (m)), some (.int (set)), some (.int (Int32.ofNat L)), some (.int (Int32.ofNat N)), some (.int (lst)), some (.int ((Int32.ofNat p) + 1)), some (.int ((outc RL c (digsR (n + 1) L p) A 0 0 (shA c A)).2.1)), some (.int (0))]) (st1 := []) rfl ?_
    exact ((hQ k f e1 e2 e3).1 c2)
  · refine Wp.seg 1 (pc1 := 83) (ls1 := [some (.ref 59), some (.int (m)), some (.int (set)), some (.int (Int32.ofNat L)), some (.int (Int32.ofNat N)), some (.int (lst)), some (.int (Int32.ofNat p)), some (.int ((outc RL c (digsR (n + 1) L p) A 0 0 (shA c A)).2.1)), z]) (st1 := [.int (lst)]) rfl ?_
    refine Wp.if1 rfl (fun (c4 : lst < 0) => ?_) (fun (c4 : ¬ (lst < 0)) => ?_)
    · refine Wp.seg 4 (pc1 := 102) (ls1 := [some (.ref 59), some (.int (m)), some (.int (set)), some (.int (Int32.ofNat L)), some (.int (Int32.ofNat N)), some (.int (lst)), some (.int (Int32.ofNat p)), some (.int ((outc RL c (digsR (n + 1) L p) A 0 0 (shA c A)).2.1)), some (.int (1))]) (st1 := [.int (1)]) rfl ?_
      refine Wp.if1 rfl (fun c5 => absurd c5 (show ¬ ((1 : Int32) = 0) by decide)) (fun c5 => ?_)
      refine Wp.seg 5 (pc1 := 46) (ls1 := [some (.ref 59), some (.int (m)), some (.int (set)), some (.int (Int32.ofNat L)), some (.int (Int32.ofNat N)), some (.int ((outc RL c (digsR (n + 1) L p) A 0 0 (shA c A)).2.1)), some (.int ((Int32.ofNat p) + 1)), some (.int ((outc RL c (digsR (n + 1) L p) A 0 0 (shA c A)).2.1)), some (.int (1))]) (st1 := []) rfl ?_
      exact (((hQ k f e1 e2 e3).2 c2).1 c4)
    · refine Wp.seg 2 (pc1 := 90) (ls1 := [some (.ref 59), some (.int (m)), some (.int (set)), some (.int (Int32.ofNat L)), some (.int (Int32.ofNat N)), some (.int (lst)), some (.int (Int32.ofNat p)), some (.int ((outc RL c (digsR (n + 1) L p) A 0 0 (shA c A)).2.1)), z]) (st1 := [.int (lst), .int ((outc RL c (digsR (n + 1) L p) A 0 0 (shA c A)).2.1)]) rfl ?_
      refine Wp.if2 rfl (fun (c6 : lst ≤ ((outc RL c (digsR (n + 1) L p) A 0 0 (shA c A)).2.1)) => ?_) (fun (c6 : ¬ (lst ≤ ((outc RL c (digsR (n + 1) L p) A 0 0 (shA c A)).2.1))) => ?_)
      · refine Wp.seg 3 (pc1 := 102) (ls1 := [some (.ref 59), some (.int (m)), some (.int (set)), some (.int (Int32.ofNat L)), some (.int (Int32.ofNat N)), some (.int (lst)), some (.int (Int32.ofNat p)), some (.int ((outc RL c (digsR (n + 1) L p) A 0 0 (shA c A)).2.1)), some (.int (0))]) (st1 := [.int (0)]) rfl ?_
        refine Wp.if1 rfl (fun c7 => ?_) (fun c7 => absurd (show (0 : Int32) = 0 by decide) c7)
        refine Wp.seg 4 (pc1 := 46) (ls1 := [some (.ref 59), some (.int (m)), some (.int (set)), some (.int (Int32.ofNat L)), some (.int (Int32.ofNat N)), some (.int (lst)), some (.int ((Int32.ofNat p) + 1)), some (.int ((outc RL c (digsR (n + 1) L p) A 0 0 (shA c A)).2.1)), some (.int (0))]) (st1 := []) rfl ?_
        exact ((((hQ k f e1 e2 e3).2 c2).2 c4).1 c6)
      · refine Wp.seg 4 (pc1 := 102) (ls1 := [some (.ref 59), some (.int (m)), some (.int (set)), some (.int (Int32.ofNat L)), some (.int (Int32.ofNat N)), some (.int (lst)), some (.int (Int32.ofNat p)), some (.int ((outc RL c (digsR (n + 1) L p) A 0 0 (shA c A)).2.1)), some (.int (1))]) (st1 := [.int (1)]) rfl ?_
        refine Wp.if1 rfl (fun c8 => absurd c8 (show ¬ ((1 : Int32) = 0) by decide)) (fun c8 => ?_)
        refine Wp.seg 5 (pc1 := 46) (ls1 := [some (.ref 59), some (.int (m)), some (.int (set)), some (.int (Int32.ofNat L)), some (.int (Int32.ofNat N)), some (.int ((outc RL c (digsR (n + 1) L p) A 0 0 (shA c A)).2.1)), some (.int ((Int32.ofNat p) + 1)), some (.int ((outc RL c (digsR (n + 1) L p) A 0 0 (shA c A)).2.1)), some (.int (1))]) (st1 := []) rfl ?_
        exact ((((hQ k f e1 e2 e3).2 c2).2 c4).2 c6)
set_option maxHeartbeats 4000000 in
theorem t_sgE {d : Nat} {Q : KO → Prop} {h : KH} {m set L lst : Int32} {N : Nat} {y z : Option Value} (hd : 0 ≤ d) (hQ : Q (some (.int (lst)), h)) : Wp d 244 46 [some (.ref 59), some (.int (m)), some (.int (set)), some (.int (L)), some (.int (Int32.ofNat N)), some (.int (lst)), some (.int (Int32.ofNat N)), y, z] [] h Q := by
  refine Wp.seg 2 (pc1 := 50) (ls1 := [some (.ref 59), some (.int (m)), some (.int (set)), some (.int (L)), some (.int (Int32.ofNat N)), some (.int (lst)), some (.int (Int32.ofNat N)), y, z]) (st1 := [.int (Int32.ofNat N), .int (Int32.ofNat N)]) rfl ?_
  refine Wp.if2 rfl (fun c1 => ?_) (fun c1 => absurd (Int32.le_refl _) c1)
  refine Wp.seg 1 (pc1 := 122) (ls1 := [some (.ref 59), some (.int (m)), some (.int (set)), some (.int (L)), some (.int (Int32.ofNat N)), some (.int (lst)), some (.int (Int32.ofNat N)), y, z]) (st1 := [.int (lst)]) rfl ?_
  exact Wp.reti rfl rfl hQ
set_option maxHeartbeats 4000000 in
theorem t_siegeS {d : Nat} {Q : KO → Prop} {h : KH} (hw : WF h) {A : Nat → Int32} {RL : List Rul} {n c dn en : Nat} (hk : refOK h A RL n c dn en) {m : Nat} {set : Int32} (hm : m ≤ 4) (hd : 7 ≤ d) (hQ : ∀ k, Fr (fun c => c = 62) noP h k → refTh k (h.2.2.1 60) A RL n c dn en → (Wp d 244 46 ([some (.ref 59), some (.int (Int32.ofNat m)), some (.int (set)), some (.int (Int32.ofNat (min m (en - dn)))), some (.int (Int32.ofNat ((n + 1) ^ (min m (en - dn))))), some (.int (-3)), some (.int (0)), none, none]) [] k Q)) : Wp d 244 22 [some (.ref 59), some (.int (Int32.ofNat m)), some (.int (set)), none, none, none, none, none, none] [] h Q := by
  refine Wp.seg 2 (pc1 := 24) (ls1 := [some (.ref 59), some (.int (Int32.ofNat m)), some (.int (set)), none, none, none, none, none, none]) (st1 := [.int (Int32.ofNat m), .ref 59]) rfl ?_
  refine Wp.invV (d2 := 0) (as := [.ref 59, .int (Int32.ofNat m)]) (r := []) (t := (11, 0)) rfl rfl rfl rfl (WF.t hw 59 rfl) rfl rfl ⟨rfl, rfl⟩ (by omega) (r_months hw hk hm ?_)
  show Wp d 244 27 [some (.ref 59), some (.int (Int32.ofNat m)), some (.int (set)), none, none, none, none, none, none] [.int (Int32.ofNat (min m (en - dn)))] h Q
  refine Wp.seg 3 (pc1 := 30) (ls1 := [some (.ref 59), some (.int (Int32.ofNat m)), some (.int (set)), some (.int (Int32.ofNat (min m (en - dn)))), none, none, none, none, none]) (st1 := [.int (Int32.ofNat m), .ref 59]) rfl ?_
  refine Wp.invV (d2 := 1) (as := [.ref 59, .int (Int32.ofNat m)]) (r := []) (t := (11, 0)) rfl rfl rfl rfl (WF.t hw 59 rfl) rfl rfl ⟨rfl, rfl⟩ (by omega) (r_plans hw hk hm (Nat.le_refl _) ?_)
  show Wp d 244 33 [some (.ref 59), some (.int (Int32.ofNat m)), some (.int (set)), some (.int (Int32.ofNat (min m (en - dn)))), none, none, none, none, none] [.int (Int32.ofNat ((n + 1) ^ (min m (en - dn))))] h Q
  refine Wp.seg 2 (pc1 := 36) (ls1 := [some (.ref 59), some (.int (Int32.ofNat m)), some (.int (set)), some (.int (Int32.ofNat (min m (en - dn)))), some (.int (Int32.ofNat ((n + 1) ^ (min m (en - dn))))), none, none, none, none]) (st1 := [.ref 59]) rfl ?_
  refine Wp.invV (d2 := 1) (as := [.ref 59]) (r := []) (t := (11, 0)) rfl rfl rfl rfl (WF.t hw 59 rfl) rfl rfl ⟨rfl, rfl⟩ (by omega) (r_thinks hw hk (Nat.le_refl _) ?_)
  intro k f g
  show Wp d 244 39 [some (.ref 59), some (.int (Int32.ofNat m)), some (.int (set)), some (.int (Int32.ofNat (min m (en - dn)))), some (.int (Int32.ofNat ((n + 1) ^ (min m (en - dn))))), none, none, none, none] [] k Q
  refine Wp.seg 4 (pc1 := 46) (ls1 := [some (.ref 59), some (.int (Int32.ofNat m)), some (.int (set)), some (.int (Int32.ofNat (min m (en - dn)))), some (.int (Int32.ofNat ((n + 1) ^ (min m (en - dn))))), some (.int (-3)), some (.int (0)), none, none]) (st1 := []) rfl ?_
  exact (hQ k f g)
set_option maxHeartbeats 4000000 in
theorem t_msiege {d : Nat} {Q : KO → Prop} {h : KH} {v set : Int32} (hd : 7 ≤ d) (hQ : ((inB v 0 4) = false → Q (some (.int (-1)), h)) ∧ ((inB v 0 4) = true → ((inB set 0 4095) = true → Wp d 244 22 ([some (.ref 59), some (.int (v)), some (.int (set)), none, none, none, none, none, none]) [] h Q) ∧ ((inB set 0 4095) = false → Q (some (.int (-1)), h)))) : Cl d 244 [.ref 59, .int (v), .int (set)] h Q := by
  refine Cl.of (ls := [some (.ref 59), some (.int (v)), some (.int (set)), none, none, none, none, none, none]) rfl rfl ?_
  refine Wp.seg 3 (pc1 := 3) (ls1 := [some (.ref 59), some (.int (v)), some (.int (set)), none, none, none, none, none, none]) (st1 := [.int (4), .int (0), .int (v)]) rfl ?_
  refine Wp.inv (d2 := 0) (as := [.int (v), .int (0), .int (4)]) (r := []) rfl rfl rfl rfl rfl rfl (by omega) (s_inB (x := 0) (y := 4) rfl rfl ?_)
  show Wp d 244 6 [some (.ref 59), some (.int (v)), some (.int (set)), none, none, none, none, none, none] [.int (b32 (inB v 0 4))] h Q
  refine Wp.ifz rfl (fun (c1 : (inB v 0 4) = false) => ?_) (fun (c1 : (inB v 0 4) = true) => ?_)
  · refine Wp.seg 1 (pc1 := 21) (ls1 := [some (.ref 59), some (.int (v)), some (.int (set)), none, none, none, none, none, none]) (st1 := [.int (-1)]) rfl ?_
    exact Wp.reti rfl rfl (hQ.1 c1)
  · refine Wp.seg 3 (pc1 := 14) (ls1 := [some (.ref 59), some (.int (v)), some (.int (set)), none, none, none, none, none, none]) (st1 := [.int (4095), .int (0), .int (set)]) rfl ?_
    refine Wp.inv (d2 := 0) (as := [.int (set), .int (0), .int (4095)]) (r := []) rfl rfl rfl rfl rfl rfl (by omega) (s_inB (x := 0) (y := 4095) rfl rfl ?_)
    show Wp d 244 17 [some (.ref 59), some (.int (v)), some (.int (set)), none, none, none, none, none, none] [.int (b32 (inB set 0 4095))] h Q
    refine Wp.ifnz rfl (fun (c2 : (inB set 0 4095) = true) => ?_) (fun (c2 : (inB set 0 4095) = false) => ?_)
    · exact ((hQ.2 c1).1 c2)
    · refine Wp.seg 1 (pc1 := 21) (ls1 := [some (.ref 59), some (.int (v)), some (.int (set)), none, none, none, none, none, none]) (st1 := [.int (-1)]) rfl ?_
      exact Wp.reti rfl rfl ((hQ.2 c1).2 c2)
set_option maxHeartbeats 4000000 in
theorem t_barsS {d : Nat} {Q : KO → Prop} {h : KH} (hw : WF h) {A : Nat → Int32} {RL : List Rul} {n c dn en : Nat} (hk : refOK h A RL n c dn en) {m : Nat} {set : Int32} (hm : m ≤ 4) (hd : 7 ≤ d) (hQ : ∀ k, Fr (fun c => c = 62) noP h k → refTh k (h.2.2.1 60) A RL n c dn en → (Wp d 245 45 ([some (.ref 59), some (.int (Int32.ofNat m)), some (.int (set)), some (.int (Int32.ofNat (min m (en - dn)))), some (.int (Int32.ofNat ((n + 1) ^ (min m (en - dn))))), some (.int (0)), some (.int (0)), none]) [] k Q)) : Wp d 245 22 [some (.ref 59), some (.int (Int32.ofNat m)), some (.int (set)), none, none, none, none, none] [] h Q := by
  refine Wp.seg 2 (pc1 := 24) (ls1 := [some (.ref 59), some (.int (Int32.ofNat m)), some (.int (set)), none, none, none, none, none]) (st1 := [.int (Int32.ofNat m), .ref 59]) rfl ?_
  refine Wp.invV (d2 := 0) (as := [.ref 59, .int (Int32.ofNat m)]) (r := []) (t := (11, 0)) rfl rfl rfl rfl (WF.t hw 59 rfl) rfl rfl ⟨rfl, rfl⟩ (by omega) (r_months hw hk hm ?_)
  show Wp d 245 27 [some (.ref 59), some (.int (Int32.ofNat m)), some (.int (set)), none, none, none, none, none] [.int (Int32.ofNat (min m (en - dn)))] h Q
  refine Wp.seg 3 (pc1 := 30) (ls1 := [some (.ref 59), some (.int (Int32.ofNat m)), some (.int (set)), some (.int (Int32.ofNat (min m (en - dn)))), none, none, none, none]) (st1 := [.int (Int32.ofNat m), .ref 59]) rfl ?_
  refine Wp.invV (d2 := 1) (as := [.ref 59, .int (Int32.ofNat m)]) (r := []) (t := (11, 0)) rfl rfl rfl rfl (WF.t hw 59 rfl) rfl rfl ⟨rfl, rfl⟩ (by omega) (r_plans hw hk hm (Nat.le_refl _) ?_)
  show Wp d 245 33 [some (.ref 59), some (.int (Int32.ofNat m)), some (.int (set)), some (.int (Int32.ofNat (min m (en - dn)))), none, none, none, none] [.int (Int32.ofNat ((n + 1) ^ (min m (en - dn))))] h Q
  refine Wp.seg 2 (pc1 := 36) (ls1 := [some (.ref 59), some (.int (Int32.ofNat m)), some (.int (set)), some (.int (Int32.ofNat (min m (en - dn)))), some (.int (Int32.ofNat ((n + 1) ^ (min m (en - dn))))), none, none, none]) (st1 := [.ref 59]) rfl ?_
  refine Wp.invV (d2 := 1) (as := [.ref 59]) (r := []) (t := (11, 0)) rfl rfl rfl rfl (WF.t hw 59 rfl) rfl rfl ⟨rfl, rfl⟩ (by omega) (r_thinks hw hk (Nat.le_refl _) ?_)
  intro k f g
  show Wp d 245 39 [some (.ref 59), some (.int (Int32.ofNat m)), some (.int (set)), some (.int (Int32.ofNat (min m (en - dn)))), some (.int (Int32.ofNat ((n + 1) ^ (min m (en - dn))))), none, none, none] [] k Q
  refine Wp.seg 4 (pc1 := 45) (ls1 := [some (.ref 59), some (.int (Int32.ofNat m)), some (.int (set)), some (.int (Int32.ofNat (min m (en - dn)))), some (.int (Int32.ofNat ((n + 1) ^ (min m (en - dn))))), some (.int (0)), some (.int (0)), none]) (st1 := []) rfl ?_
  exact (hQ k f g)
set_option maxHeartbeats 4000000 in
theorem t_mbars {d : Nat} {Q : KO → Prop} {h : KH} {v set : Int32} (hd : 7 ≤ d) (hQ : ((inB v 0 4) = false → Q (some (.int (-1)), h)) ∧ ((inB v 0 4) = true → ((inB set 0 4095) = true → Wp d 245 22 ([some (.ref 59), some (.int (v)), some (.int (set)), none, none, none, none, none]) [] h Q) ∧ ((inB set 0 4095) = false → Q (some (.int (-1)), h)))) : Cl d 245 [.ref 59, .int (v), .int (set)] h Q := by
  refine Cl.of (ls := [some (.ref 59), some (.int (v)), some (.int (set)), none, none, none, none, none]) rfl rfl ?_
  refine Wp.seg 3 (pc1 := 3) (ls1 := [some (.ref 59), some (.int (v)), some (.int (set)), none, none, none, none, none]) (st1 := [.int (4), .int (0), .int (v)]) rfl ?_
  refine Wp.inv (d2 := 0) (as := [.int (v), .int (0), .int (4)]) (r := []) rfl rfl rfl rfl rfl rfl (by omega) (s_inB (x := 0) (y := 4) rfl rfl ?_)
  show Wp d 245 6 [some (.ref 59), some (.int (v)), some (.int (set)), none, none, none, none, none] [.int (b32 (inB v 0 4))] h Q
  refine Wp.ifz rfl (fun (c1 : (inB v 0 4) = false) => ?_) (fun (c1 : (inB v 0 4) = true) => ?_)
  · refine Wp.seg 1 (pc1 := 21) (ls1 := [some (.ref 59), some (.int (v)), some (.int (set)), none, none, none, none, none]) (st1 := [.int (-1)]) rfl ?_
    exact Wp.reti rfl rfl (hQ.1 c1)
  · refine Wp.seg 3 (pc1 := 14) (ls1 := [some (.ref 59), some (.int (v)), some (.int (set)), none, none, none, none, none]) (st1 := [.int (4095), .int (0), .int (set)]) rfl ?_
    refine Wp.inv (d2 := 0) (as := [.int (set), .int (0), .int (4095)]) (r := []) rfl rfl rfl rfl rfl rfl (by omega) (s_inB (x := 0) (y := 4095) rfl rfl ?_)
    show Wp d 245 17 [some (.ref 59), some (.int (v)), some (.int (set)), none, none, none, none, none] [.int (b32 (inB set 0 4095))] h Q
    refine Wp.ifnz rfl (fun (c2 : (inB set 0 4095) = true) => ?_) (fun (c2 : (inB set 0 4095) = false) => ?_)
    · exact ((hQ.2 c1).1 c2)
    · refine Wp.seg 1 (pc1 := 21) (ls1 := [some (.ref 59), some (.int (v)), some (.int (set)), none, none, none, none, none]) (st1 := [.int (-1)]) rfl ?_
      exact Wp.reti rfl rfl ((hQ.2 c1).2 c2)
set_option maxHeartbeats 4000000 in
theorem t_bsB {d : Nat} {Q : KO → Prop} {h : KH} (hw : WF h) {S A : Nat → Int32} {RL : List Rul} {n c dn en : Nat} (hk : refTh h S A RL n c dn en) {p L N : Nat} (hL : L ≤ 4) (hn : n ≤ 6) (hp : p < (n + 1) ^ L) (hdn : dn + L ≤ en) (hN : p < N) (hN2 : N ≤ 2401) (hS8 : S 8 = Int32.ofNat n) {m set ev : Int32} {z : Option Value} (hd : 7 ≤ d) (hQ : ∀ k, Fr pN noP h k → k.2.2.1 60 = S → k.2.2.1 59 14 = (outc RL c (digsR (n + 1) L p) A 0 0 (shA c A)).2.2 → (∀ x, x ≠ 14 → k.2.2.1 59 x = h.2.2.1 59 x) → (Wp d 245 45 ([some (.ref 59), some (.int (m)), some (.int (set)), some (.int (Int32.ofNat L)), some (.int (Int32.ofNat N)), some (.int (ev ||| ((outc RL c (digsR (n + 1) L p) A 0 0 (shA c A)).2.2))), some (.int ((Int32.ofNat p) + 1)), z]) [] k Q)) : Wp d 245 45 [some (.ref 59), some (.int (m)), some (.int (set)), some (.int (Int32.ofNat L)), some (.int (Int32.ofNat N)), some (.int (ev)), some (.int (Int32.ofNat p)), z] [] h Q := by
  refine Wp.seg 2 (pc1 := 49) (ls1 := [some (.ref 59), some (.int (m)), some (.int (set)), some (.int (Int32.ofNat L)), some (.int (Int32.ofNat N)), some (.int (ev)), some (.int (Int32.ofNat p)), z]) (st1 := [.int (Int32.ofNat N), .int (Int32.ofNat p)]) rfl ?_
  refine Wp.if2 rfl (fun c1 => absurd c1 (fun c => by have := (ole (by omega) (by omega)).mp c; omega)) (fun c1 => ?_)
  refine Wp.seg 3 (pc1 := 56) (ls1 := [some (.ref 59), some (.int (m)), some (.int (set)), some (.int (Int32.ofNat L)), some (.int (Int32.ofNat N)), some (.int (ev)), some (.int (Int32.ofNat p)), z]) (st1 := [.int (Int32.ofNat L), .int (Int32.ofNat p), .ref 59]) rfl ?_
  refine Wp.invV (d2 := 6) (as := [.ref 59, .int (Int32.ofNat p), .int (Int32.ofNat L)]) (r := []) (t := (11, 0)) rfl rfl rfl rfl (WF.t hw 59 rfl) rfl rfl ⟨rfl, rfl⟩ (by omega) (r_worth hw hk hL hp hdn (Nat.le_refl _) ?_)
  intro k f e1 e2 e3
  show Wp d 245 59 [some (.ref 59), some (.int (m)), some (.int (set)), some (.int (Int32.ofNat L)), some (.int (Int32.ofNat N)), some (.int (ev)), some (.int (Int32.ofNat p)), z] [.int ((outc RL c (digsR (n + 1) L p) A 0 0 (shA c A)).1)] k Q
  refine Wp.seg 3 (pc1 := 63) (ls1 := [some (.ref 59), some (.int (m)), some (.int (set)), some (.int (Int32.ofNat L)), some (.int (Int32.ofNat N)), some (.int (ev)), some (.int (Int32.ofNat p)), z]) (st1 := [.ref 59, .int (ev)]) rfl ?_
  refine Wp.gi (t := (11, 0)) rfl (WF.t (f.wf hw (fun z => z)) 59 rfl) (Or.inl rfl) ?_
  rw [show k.2.2.1 59 14 = (outc RL c (digsR (n + 1) L p) A 0 0 (shA c A)).2.2 from e2]
  refine Wp.seg 4 (pc1 := 45) (ls1 := [some (.ref 59), some (.int (m)), some (.int (set)), some (.int (Int32.ofNat L)), some (.int (Int32.ofNat N)), some (.int (ev ||| ((outc RL c (digsR (n + 1) L p) A 0 0 (shA c A)).2.2))), some (.int ((Int32.ofNat p) + 1)), z]) (st1 := []) rfl ?_
  exact (hQ k f e1 e2 e3)
set_option maxHeartbeats 4000000 in
theorem t_bsE {d : Nat} {Q : KO → Prop} {h : KH} {m set L ev : Int32} {N : Nat} {z : Option Value} (hd : 0 ≤ d) (hQ : Wp d 245 86 ([some (.ref 59), some (.int (m)), some (.int (set)), some (.int (L)), some (.int (Int32.ofNat N)), some (.int (ev)), some (.int (set &&& (ev ^^^ (-1 : Int32)))), some (.int (0))]) [] h Q) : Wp d 245 45 [some (.ref 59), some (.int (m)), some (.int (set)), some (.int (L)), some (.int (Int32.ofNat N)), some (.int (ev)), some (.int (Int32.ofNat N)), z] [] h Q := by
  refine Wp.seg 2 (pc1 := 49) (ls1 := [some (.ref 59), some (.int (m)), some (.int (set)), some (.int (L)), some (.int (Int32.ofNat N)), some (.int (ev)), some (.int (Int32.ofNat N)), z]) (st1 := [.int (Int32.ofNat N), .int (Int32.ofNat N)]) rfl ?_
  refine Wp.if2 rfl (fun c1 => ?_) (fun c1 => absurd (Int32.le_refl _) c1)
  refine Wp.seg 8 (pc1 := 86) (ls1 := [some (.ref 59), some (.int (m)), some (.int (set)), some (.int (L)), some (.int (Int32.ofNat N)), some (.int (ev)), some (.int (set &&& (ev ^^^ (-1 : Int32)))), some (.int (0))]) (st1 := []) rfl ?_
  exact hQ
set_option maxHeartbeats 4000000 in
theorem t_blB {d : Nat} {Q : KO → Prop} {h : KH} {m set L N ev x : Int32} {i : Nat} (hi : i < 12) (hd : 0 ≤ d) (hQ : (¬ ((x >>> ((Int32.ofNat i) &&& 31)) &&& (1 : Int32)) = (1 : Int32) → Wp d 245 86 ([some (.ref 59), some (.int (m)), some (.int (set)), some (.int (L)), some (.int (N)), some (.int (ev)), some (.int (x)), some (.int ((Int32.ofNat i) + 1))]) [] h Q) ∧ (¬ (¬ ((x >>> ((Int32.ofNat i) &&& 31)) &&& (1 : Int32)) = (1 : Int32)) → Q (some (.int (Int32.ofNat i)), h))) : Wp d 245 86 [some (.ref 59), some (.int (m)), some (.int (set)), some (.int (L)), some (.int (N)), some (.int (ev)), some (.int (x)), some (.int (Int32.ofNat i))] [] h Q := by
  refine Wp.seg 2 (pc1 := 90) (ls1 := [some (.ref 59), some (.int (m)), some (.int (set)), some (.int (L)), some (.int (N)), some (.int (ev)), some (.int (x)), some (.int (Int32.ofNat i))]) (st1 := [.int (12), .int (Int32.ofNat i)]) rfl ?_
  refine Wp.if2 rfl (fun c1 => absurd c1 (fun c => by have := (zle (m := 12) rfl (znat (n := i) (by omega))).mp c; omega)) (fun c1 => ?_)
  refine Wp.seg 6 (pc1 := 101) (ls1 := [some (.ref 59), some (.int (m)), some (.int (set)), some (.int (L)), some (.int (N)), some (.int (ev)), some (.int (x)), some (.int (Int32.ofNat i))]) (st1 := [.int (1), .int ((x >>> ((Int32.ofNat i) &&& 31)) &&& (1 : Int32))]) rfl ?_
  refine Wp.if2 rfl (fun (c2 : ¬ ((x >>> ((Int32.ofNat i) &&& 31)) &&& (1 : Int32)) = (1 : Int32)) => ?_) (fun (c2 : ¬ (¬ ((x >>> ((Int32.ofNat i) &&& 31)) &&& (1 : Int32)) = (1 : Int32))) => ?_)
  · refine Wp.seg 2 (pc1 := 86) (ls1 := [some (.ref 59), some (.int (m)), some (.int (set)), some (.int (L)), some (.int (N)), some (.int (ev)), some (.int (x)), some (.int ((Int32.ofNat i) + 1))]) (st1 := []) rfl ?_
    exact (hQ.1 c2)
  · refine Wp.seg 1 (pc1 := 106) (ls1 := [some (.ref 59), some (.int (m)), some (.int (set)), some (.int (L)), some (.int (N)), some (.int (ev)), some (.int (x)), some (.int (Int32.ofNat i))]) (st1 := [.int (Int32.ofNat i)]) rfl ?_
    exact Wp.reti rfl rfl (hQ.2 c2)
set_option maxHeartbeats 4000000 in
theorem t_blE {d : Nat} {Q : KO → Prop} {h : KH} {m set L N ev x : Int32} (hd : 0 ≤ d) (hQ : Q (some (.int (-3)), h)) : Wp d 245 86 [some (.ref 59), some (.int (m)), some (.int (set)), some (.int (L)), some (.int (N)), some (.int (ev)), some (.int (x)), some (.int (12))] [] h Q := by
  refine Wp.seg 2 (pc1 := 90) (ls1 := [some (.ref 59), some (.int (m)), some (.int (set)), some (.int (L)), some (.int (N)), some (.int (ev)), some (.int (x)), some (.int (12))]) (st1 := [.int (12), .int (12)]) rfl ?_
  refine Wp.if2 rfl (fun c1 => ?_) (fun c1 => absurd (show (12 : Int32) ≤ (12 : Int32) by decide) c1)
  refine Wp.seg 1 (pc1 := 115) (ls1 := [some (.ref 59), some (.int (m)), some (.int (set)), some (.int (L)), some (.int (N)), some (.int (ev)), some (.int (x)), some (.int (12))]) (st1 := [.int (-3)]) rfl ?_
  exact Wp.reti rfl rfl hQ
theorem set_sub (set sh : Int32) : set &&& (sh ^^^ (-1)) = 0 ↔ sh &&& set = set := by
  constructor
  · intro h
    refine bt_ext fun i hi => ?_
    have h1 := congrArg (fun z => bt z i) h
    simp only [bt_and, bt_not _ hi, bt_0] at h1
    rw [bt_and]
    cases e : bt set i with
    | false => simp
    | true => rw [e] at h1; simpa using h1
  · intro h
    refine bt_ext fun i hi => ?_
    have h1 := congrArg (fun z => bt z i) h
    simp only [bt_and] at h1
    rw [bt_and, bt_not _ hi, bt_0]
    cases e : bt set i with
    | false => simp
    | true => rw [e] at h1; simpa using h1
theorem weigh_2 (set : Int32) (st : WSt) (o : Int32 × Int32 × Int32) (plan : List Nat) : (weighS set st o plan).2.2.1 = (if o.2.2 &&& set = set ∧ o.2.1 < st.2.2.1 then o.2.1 else st.2.2.1) ∧ (weighS set st o plan).2.2.2.1 = st.2.2.2.1 ||| o.2.2 := ⟨rfl, rfl⟩
/-- the fewest, as the reference keeps it -/
def fewR (fw lst : Int32) : Prop := (fw = 5 ∧ lst = -3) ∨ ∃ j : Nat, j ≤ 4 ∧ fw = Int32.ofNat j ∧ lst = Int32.ofNat j
theorem r_sgL {d : Nat} {Q : KO → Prop} {S A : Nat → Int32} {RL : List Rul} {n c dn en L : Nat} {m set : Int32} (hL : L ≤ 4) (hdn : dn + L ≤ en) (hd : 7 ≤ d) (hS8 : S 8 = Int32.ofNat n) :
    ∀ (j p : Nat) (st : WSt) (lst : Int32) (h : KH) (y z : Option Value), p + j = (n + 1) ^ L → WF h → refTh h S A RL n c dn en → h.2.2.1 60 = S → fewR st.2.2.1 lst →
    (∀ k l2, Fr pN noP h k → k.2.2.1 60 = S → keep59 h k → fewR (foldN (fun st p => weighS set st (outc RL c (digsR (n + 1) L p) A 0 0 (shA c A)) (digsR (n + 1) L p)) j p st).2.2.1 l2 → Q (some (.int l2), k)) →
    Wp d 244 46 [some (.ref 59), some (.int m), some (.int set), some (.int (Int32.ofNat L)), some (.int (Int32.ofNat ((n + 1) ^ L))), some (.int lst), some (.int (Int32.ofNat p)), y, z] [] h Q := by
  intro j
  induction j with
  | zero =>
    intro p st lst h y z hpj hw hk e0 hB hQ
    have hp : p = (n + 1) ^ L := hpj
    rw [hp]
    exact t_sgE (Nat.zero_le _) (hQ h lst (Fr.refl h) e0 (fun _ _ => rfl) hB)
  | succ j ih =>
    intro p st lst h y z hpj hw hk e0 hB hQ
    have h24 := pow_le (n := n) (L := L) hk.1.2.1.1 hL
    obtain ⟨i, hi4, hti⟩ := outc_told RL c (digsR (n + 1) L p) A 0 (shA c A) 0 (by rw [digsR_len]; omega)
    have hti2 : (outc RL c (digsR (n + 1) L p) A 0 0 (shA c A)).2.1 = Int32.ofNat i := hti
    refine t_sgB hw hk hL hk.1.2.1.1 (by omega) hdn (by omega) h24 hS8 hd (fun k f e1 e2 e3 => ?_)
    generalize hw1 : (outc RL c (digsR (n + 1) L p) A 0 0 (shA c A)) = o at hti2 ⊢
    have fr := f
    have next : ∀ (l2 : Int32) (yy zz : Option Value), fewR (weighS set st o (digsR (n + 1) L p)).2.2.1 l2 → Wp d 244 46 [some (.ref 59), some (.int m), some (.int set), some (.int (Int32.ofNat L)), some (.int (Int32.ofNat ((n + 1) ^ L))), some (.int l2), some (.int (Int32.ofNat p + 1)), yy, zz] [] k Q := by
      intro l2 yy zz hb
      rw [show Int32.ofNat p + 1 = Int32.ofNat (p + 1) from ofadd p 1]
      refine ih (p + 1) _ l2 k yy zz (by omega) (fr.wf hw (fun z => z)) (refTh_back hk (refOK_eq hk.1 (e1.trans e0.symm)) fr (by unfold pN; decide) e1) e1 hb (fun k2 l3 f2 q1 q2 q3 => hQ k2 l3 (fr.trans f2) q1 (fun i hi => (q2 i hi).trans (e3 i (by omega))) ?_)
      show fewR (foldN _ j (p + 1) (weighS set st (outc RL c (digsR (n + 1) L p) A 0 0 (shA c A)) (digsR (n + 1) L p))).2.2.1 l3
      rw [hw1]
      exact q3
    have yes : o.2.2 &&& set = set → (lst < 0 ∨ o.2.1 < lst) → fewR (weighS set st o (digsR (n + 1) L p)).2.2.1 o.2.1 := by
      intro a1 a2
      rw [(weigh_2 set st o (digsR (n + 1) L p)).1, if_pos]
      · exact Or.inr ⟨i, hi4, hti2, hti2⟩
      · refine ⟨a1, ?_⟩
        rcases hB with ⟨b1, b2⟩ | ⟨j2, b1, b2, b3⟩
        · rw [b1, hti2]
          exact (zlt (n := 5) (znat (n := i) (by omega)) rfl).mpr (by omega)
        · rcases a2 with a2 | a2
          · rw [b3] at a2
            have := (zlt (n := 0) (znat (n := j2) (by omega)) rfl).mp a2
            omega
          · rw [b2, ← b3]
            exact a2
    have no : ¬ (o.2.2 &&& set = set ∧ (lst < 0 ∨ o.2.1 < lst)) → fewR (weighS set st o (digsR (n + 1) L p)).2.2.1 lst := by
      intro a1
      rw [(weigh_2 set st o (digsR (n + 1) L p)).1, if_neg]
      · exact hB
      · rintro ⟨a2, a3⟩
        apply a1
        refine ⟨a2, ?_⟩
        rcases hB with ⟨b1, b2⟩ | ⟨j2, b1, b2, b3⟩
        · rw [b2]
          exact Or.inl (by decide)
        · rw [b3, ← b2]
          exact Or.inr a3
    refine ⟨fun c1 => ?_, fun c1 => ?_⟩
    · exact next _ _ _ (no (fun z => c1 ((set_sub _ _).mpr z.1)))
    · have c1' := (set_sub _ _).mp (Decidable.not_not.mp c1)
      refine ⟨fun c2 => next _ _ _ (yes c1' (Or.inl c2)), fun c2 => ⟨fun c3 => next _ _ _ (no (fun z => z.2.elim c2 (fun y => Int32.not_lt.mpr c3 y))), fun c3 => next _ _ _ (yes c1' (Or.inr (Int32.not_le.mp c3)))⟩⟩
theorem m_siege {d : Nat} {h : KH} (hw : WF h) {A : Nat → Int32} {RL : List Rul} {n c dn en : Nat} (hk : refOK h A RL n c dn en) (hd : 7 ≤ d) {v s : Int32} : Cl d 244 [.ref 59, .int v, .int s] h (qu (siegeS RL n c dn en A v s) h) := by
  have o := hk.2.1.2.2.2.2.2.2.1
  unfold siegeS plN
  refine t_msiege hd ⟨fun q => ?_, fun q => ⟨fun q2 => ?_, fun q2 => ?_⟩⟩
  · rw [if_neg (fun z => by rw [q] at z; cases z.1)]
    exact qu_i (Quiet.refl h)
  · rw [if_pos ⟨q, q2⟩]
    obtain ⟨m, hm, rfl⟩ := inB_nat (b := 4) q
    rw [clamp_ofNat (by omega)]
    refine t_siegeS hw hk hm hd (fun k f g => ?_)
    have e60 : k.2.2.1 60 = h.2.2.1 60 := f.2.2.1 60 (Or.inl (by decide))
    refine r_sgL (S := h.2.2.1 60) (L := min m (en - dn)) (by omega) (by omega) hd hk.2.1.2.1 ((n + 1) ^ (min m (en - dn))) 0 (-1, 0, 5, 0, []) (-3) k _ _ (by omega) (f.wf hw (fun z => z)) g e60 (Or.inl ⟨rfl, rfl⟩) (fun k2 l2 f2 q1 q3 q4 => ?_)
    rw [← PL_num] at q4
    have e59 : keep59 h k2 := fun i hi => (q3 i hi).trans (by rw [f.2.2.1 59 (Or.inl (by decide))])
    have fq : Quiet h k2 := quiet_f ((f.mono (fun c z => Or.inr (Or.inr (Or.inl z))) (fun _ z => z)).trans (f2.mono (fun c z => by unfold pN at z; show c = 59 ∨ c = 60 ∨ c = 62 ∨ c = 64; omega) (fun _ z => z))) q1 e59
    rcases q4 with ⟨b1, b2⟩ | ⟨j, b1, b2, b3⟩
    · rw [b1, b2, if_neg (by decide)]
      exact qu_i fq
    · rw [b2, b3, if_pos ((zle (n := 4) (znat (n := j) (by omega)) rfl).mpr (by omega))]
      exact qu_i fq
  · rw [if_neg (fun z => by rw [q2] at z; cases z.2)]
    exact qu_i (Quiet.refl h)
theorem r_bsL {d : Nat} {Q : KO → Prop} {S A : Nat → Int32} {RL : List Rul} {n c dn en L : Nat} {m set : Int32} (hL : L ≤ 4) (hdn : dn + L ≤ en) (hd : 7 ≤ d) (hS8 : S 8 = Int32.ofNat n) :
    ∀ (j p : Nat) (st : WSt) (h : KH) (z : Option Value), p + j = (n + 1) ^ L → WF h → refTh h S A RL n c dn en → h.2.2.1 60 = S →
    (∀ k ev2, Fr pN noP h k → k.2.2.1 60 = S → keep59 h k → Wp d 245 86 [some (.ref 59), some (.int m), some (.int set), some (.int (Int32.ofNat L)), some (.int (Int32.ofNat ((n + 1) ^ L))), some (.int ev2), some (.int (set &&& ((foldN (fun st p => weighS set st (outc RL c (digsR (n + 1) L p) A 0 0 (shA c A)) (digsR (n + 1) L p)) j p st).2.2.2.1 ^^^ (-1)))), some (.int (Int32.ofNat 0))] [] k Q) →
    Wp d 245 45 [some (.ref 59), some (.int m), some (.int set), some (.int (Int32.ofNat L)), some (.int (Int32.ofNat ((n + 1) ^ L))), some (.int st.2.2.2.1), some (.int (Int32.ofNat p)), z] [] h Q := by
  intro j
  induction j with
  | zero =>
    intro p st h z hpj hw hk e0 hQ
    have hp : p = (n + 1) ^ L := hpj
    rw [hp]
    exact t_bsE (Nat.zero_le _) (hQ h st.2.2.2.1 (Fr.refl h) e0 (fun _ _ => rfl))
  | succ j ih =>
    intro p st h z hpj hw hk e0 hQ
    have h24 := pow_le (n := n) (L := L) hk.1.2.1.1 hL
    refine t_bsB hw hk hL hk.1.2.1.1 (by omega) hdn (by omega) h24 hS8 hd (fun k f e1 e2 e3 => ?_)
    rw [show Int32.ofNat p + 1 = Int32.ofNat (p + 1) from ofadd p 1, ← (weigh_2 set st (outc RL c (digsR (n + 1) L p) A 0 0 (shA c A)) (digsR (n + 1) L p)).2]
    refine ih (p + 1) _ k z (by omega) (f.wf hw (fun z => z)) (refTh_back hk (refOK_eq hk.1 (e1.trans e0.symm)) f (by unfold pN; decide) e1) e1 (fun k2 ev2 f2 q1 q2 => ?_)
    exact hQ k2 ev2 (f.trans f2) q1 (fun i hi => (q2 i hi).trans (e3 i (by omega)))
theorem r_blL {d : Nat} {Q : KO → Prop} {h : KH} {m set L N ev x : Int32} : ∀ (k i : Nat), i + k = 12 → Q (some (.int (lstL x k i)), h) → Wp d 245 86 [some (.ref 59), some (.int m), some (.int set), some (.int L), some (.int N), some (.int ev), some (.int x), some (.int (Int32.ofNat i))] [] h Q
  | 0, i, hik, hQ => by
    obtain rfl : i = 12 := hik
    exact t_blE (Nat.zero_le _) hQ
  | k + 1, i, hik, hQ => by
    unfold lstL at hQ
    have hb := bt_low (x := x) (k := i) (by omega)
    refine t_blB (by omega) (Nat.zero_le _) ⟨fun c1 => ?_, fun c1 => ?_⟩
    · rw [if_neg (fun z => c1 (hb.mpr z))] at hQ
      rw [show Int32.ofNat i + 1 = Int32.ofNat (i + 1) from ofadd i 1]
      exact r_blL k (i + 1) (by omega) hQ
    · rw [if_pos (hb.mp (Decidable.not_not.mp c1))] at hQ
      exact hQ
theorem m_bars {d : Nat} {h : KH} (hw : WF h) {A : Nat → Int32} {RL : List Rul} {n c dn en : Nat} (hk : refOK h A RL n c dn en) (hd : 7 ≤ d) {v s : Int32} : Cl d 245 [.ref 59, .int v, .int s] h (qu (barsS RL n c dn en A v s) h) := by
  have o := hk.2.1.2.2.2.2.2.2.1
  unfold barsS plN
  refine t_mbars hd ⟨fun q => ?_, fun q => ⟨fun q2 => ?_, fun q2 => ?_⟩⟩
  · rw [if_neg (fun z => by rw [q] at z; cases z.1)]
    exact qu_i (Quiet.refl h)
  · rw [if_pos ⟨q, q2⟩]
    obtain ⟨m, hm, rfl⟩ := inB_nat (b := 4) q
    rw [clamp_ofNat (by omega)]
    refine t_barsS hw hk hm hd (fun k f g => ?_)
    have e60 : k.2.2.1 60 = h.2.2.1 60 := f.2.2.1 60 (Or.inl (by decide))
    refine r_bsL (S := h.2.2.1 60) (L := min m (en - dn)) (by omega) (by omega) hd hk.2.1.2.1 ((n + 1) ^ (min m (en - dn))) 0 (-1, 0, 5, 0, []) k _ (by omega) (f.wf hw (fun z => z)) g e60 (fun k2 ev2 f2 q1 q3 => ?_)
    rw [← PL_num]
    have e59 : keep59 h k2 := fun i hi => (q3 i hi).trans (by rw [f.2.2.1 59 (Or.inl (by decide))])
    have fq : Quiet h k2 := quiet_f ((f.mono (fun c z => Or.inr (Or.inr (Or.inl z))) (fun _ z => z)).trans (f2.mono (fun c z => by unfold pN at z; show c = 59 ∨ c = 60 ∨ c = 62 ∨ c = 64; omega) (fun _ z => z))) q1 e59
    exact r_blL 12 0 rfl (qu_i fq)
  · rw [if_neg (fun z => by rw [q2] at z; cases z.2)]
    exact qu_i (Quiet.refl h)
