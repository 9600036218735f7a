/-! KM: the reference: a game -/
theorem gix (l j : Nat) : (585 : Int32) * (Int32.ofNat (l + 1) - 1) + Int32.ofNat j = Int32.ofNat (585 * l + j) := by
  rw [ofdec2, show (585 : Int32) = Int32.ofNat 585 from rfl, ← Int32.ofNat_mul, ← Int32.ofNat_add]
theorem i1n (l : Nat) (hl : l < 4) : ¬ Int32.ofNat (l + 1) = 0 := fun z => by
  have := (oeq (b := 0) (by omega) (by decide)).mp z
  omega
set_option maxHeartbeats 4000000 in
theorem t_goZ {d : Nat} {Q : KO → Prop} {h : KH} {b : Int32} (hd : 0 ≤ d) (hQ : Q (some (.int (0)), h)) : Cl d 246 [.ref 59, .int (0), .int (b)] h Q := by
  refine Cl.of (ls := [some (.ref 59), some (.int (0)), some (.int (b)), none, none, none, none, none]) rfl rfl ?_
  refine Wp.seg 1 (pc1 := 1) (ls1 := [some (.ref 59), some (.int (0)), some (.int (b)), none, none, none, none, none]) (st1 := [.int (0)]) rfl ?_
  refine Wp.if1 rfl (fun c1 => ?_) (fun c1 => absurd (show (0 : Int32) = 0 by decide) c1)
  refine Wp.seg 1 (pc1 := 12) (ls1 := [some (.ref 59), some (.int (0)), some (.int (b)), none, none, none, none, none]) (st1 := [.int (0)]) rfl ?_
  exact Wp.reti rfl rfl hQ
set_option maxHeartbeats 4000000 in
theorem t_goV {d : Nat} {Q : KO → Prop} {h : KH} (hw : WF h) {A : Nat → Int32} {RL : List Rul} {n c dn en : Nat} (hk : refOK h A RL n c dn en) {l : Nat} {b : Int32} (hl : l < 4) (hlt : ¬ dn < en) (hd : 1 ≤ d) (hQ : Q (some (.int (0)), h)) : Cl d 246 [.ref 59, .int (Int32.ofNat (l + 1)), .int (b)] h Q := by
  refine Cl.of (ls := [some (.ref 59), some (.int (Int32.ofNat (l + 1))), some (.int (b)), none, none, none, none, none]) rfl rfl ?_
  refine Wp.seg 1 (pc1 := 1) (ls1 := [some (.ref 59), some (.int (Int32.ofNat (l + 1))), some (.int (b)), none, none, none, none, none]) (st1 := [.int (Int32.ofNat (l + 1))]) rfl ?_
  refine Wp.if1 rfl (fun c1 => absurd c1 (i1n l hl)) (fun c1 => ?_)
  refine Wp.seg 1 (pc1 := 5) (ls1 := [some (.ref 59), some (.int (Int32.ofNat (l + 1))), some (.int (b)), none, none, none, none, none]) (st1 := [.ref 59]) rfl ?_
  refine Wp.invV (d2 := 0) (as := [.ref 59]) (r := []) (t := (11, 0)) rfl rfl rfl rfl (WF.t hw 59 rfl) rfl rfl ⟨rfl, rfl⟩ (by omega) (r_over1 hw hk hlt ?_)
  show Wp d 246 8 [some (.ref 59), some (.int (Int32.ofNat (l + 1))), some (.int (b)), none, none, none, none, none] [.int (1)] h Q
  refine Wp.if1 rfl (fun c2 => absurd c2 (show ¬ ((1 : Int32) = 0) by decide)) (fun c2 => ?_)
  refine Wp.seg 1 (pc1 := 12) (ls1 := [some (.ref 59), some (.int (Int32.ofNat (l + 1))), some (.int (b)), none, none, none, none, none]) (st1 := [.int (0)]) rfl ?_
  exact Wp.reti rfl rfl hQ
set_option maxHeartbeats 4000000 in
theorem t_goS {d : Nat} {Q : KO → Prop} {h : KH} (hw : WF h) {A : Nat → Int32} {RL : List Rul} {n c dn en : Nat} (hk : refOK h A RL n c dn en) {l : Nat} {b : Int32} (hl : l < 4) (hlt : dn < en) (hd : 1 ≤ d) (hQ : Wp d 246 15 ([some (.ref 59), some (.int (Int32.ofNat (l + 1))), some (.int (b)), some (.int (0)), none, none, none, none]) [] h Q) : Cl d 246 [.ref 59, .int (Int32.ofNat (l + 1)), .int (b)] h Q := by
  refine Cl.of (ls := [some (.ref 59), some (.int (Int32.ofNat (l + 1))), some (.int (b)), none, none, none, none, none]) rfl rfl ?_
  refine Wp.seg 1 (pc1 := 1) (ls1 := [some (.ref 59), some (.int (Int32.ofNat (l + 1))), some (.int (b)), none, none, none, none, none]) (st1 := [.int (Int32.ofNat (l + 1))]) rfl ?_
  refine Wp.if1 rfl (fun c1 => absurd c1 (i1n l hl)) (fun c1 => ?_)
  refine Wp.seg 1 (pc1 := 5) (ls1 := [some (.ref 59), some (.int (Int32.ofNat (l + 1))), some (.int (b)), none, none, none, none, none]) (st1 := [.ref 59]) rfl ?_
  refine Wp.invV (d2 := 0) (as := [.ref 59]) (r := []) (t := (11, 0)) rfl rfl rfl rfl (WF.t hw 59 rfl) rfl rfl ⟨rfl, rfl⟩ (by omega) (r_over0 hw hk hlt ?_)
  show Wp d 246 8 [some (.ref 59), some (.int (Int32.ofNat (l + 1))), some (.int (b)), none, none, none, none, none] [.int (0)] h Q
  refine Wp.if1 rfl (fun c2 => ?_) (fun c2 => absurd (show (0 : Int32) = 0 by decide) c2)
  refine Wp.seg 2 (pc1 := 15) (ls1 := [some (.ref 59), some (.int (Int32.ofNat (l + 1))), some (.int (b)), some (.int (0)), none, none, none, none]) (st1 := []) rfl ?_
  exact hQ
set_option maxHeartbeats 4000000 in
theorem t_gcB {d : Nat} {Q : KO → Prop} {h : KH} (hw : WF h) {l j : Nat} {b : Int32} (hl : l < 4) (hj : j < 585) (hd : 0 ≤ d) (hQ : Wp d 246 15 ([some (.ref 59), some (.int (Int32.ofNat (l + 1))), some (.int (b)), some (.int ((Int32.ofNat j) + 1)), none, none, none, none]) [] (kwi h 65 ((585 * l + j)) (h.2.2.1 60 j)) Q) : Wp d 246 15 [some (.ref 59), some (.int (Int32.ofNat (l + 1))), some (.int (b)), some (.int (Int32.ofNat j)), none, none, none, none] [] h Q := by
  refine Wp.seg 2 (pc1 := 19) (ls1 := [some (.ref 59), some (.int (Int32.ofNat (l + 1))), some (.int (b)), some (.int (Int32.ofNat j)), none, none, none, none]) (st1 := [.int (585), .int (Int32.ofNat j)]) rfl ?_
  refine Wp.if2 rfl (fun c1 => absurd c1 (fun c => by have := (zle (m := 585) rfl (znat (n := j) (by omega))).mp c; omega)) (fun c1 => ?_)
  refine Wp.seg 1 (pc1 := 23) (ls1 := [some (.ref 59), some (.int (Int32.ofNat (l + 1))), some (.int (b)), some (.int (Int32.ofNat j)), none, none, none, none]) (st1 := [.ref 59]) rfl ?_
  refine Wp.gr (t := (11, 0)) (v := some (65)) rfl (WF.t hw 59 rfl) rfl (WF.r hw 59 18 63 rfl) ?_
  show Wp d 246 26 [some (.ref 59), some (.int (Int32.ofNat (l + 1))), some (.int (b)), some (.int (Int32.ofNat j)), none, none, none, none] [.ref 65] h Q
  refine Wp.seg 8 (pc1 := 36) (ls1 := [some (.ref 59), some (.int (Int32.ofNat (l + 1))), some (.int (b)), some (.int (Int32.ofNat j)), none, none, none, none]) (st1 := [.ref 59, .int (((585 : Int32) * ((Int32.ofNat (l + 1)) - (1 : Int32))) + (Int32.ofNat j)), .ref 65]) rfl ?_
  refine Wp.gr (t := (11, 0)) (v := some (60)) rfl (WF.t hw 59 rfl) rfl (WF.r hw 59 0 58 rfl) ?_
  show Wp d 246 39 [some (.ref 59), some (.int (Int32.ofNat (l + 1))), some (.int (b)), some (.int (Int32.ofNat j)), none, none, none, none] [.ref 60, .int (((585 : Int32) * ((Int32.ofNat (l + 1)) - (1 : Int32))) + (Int32.ofNat j)), .ref 65] h Q
  refine Wp.seg 1 (pc1 := 40) (ls1 := [some (.ref 59), some (.int (Int32.ofNat (l + 1))), some (.int (b)), some (.int (Int32.ofNat j)), none, none, none, none]) (st1 := [.int (Int32.ofNat j), .ref 60, .int (((585 : Int32) * ((Int32.ofNat (l + 1)) - (1 : Int32))) + (Int32.ofNat j)), .ref 65]) rfl ?_
  refine Wp.iald (j := j) (k := 20) (n := 585) rfl (WF.t hw 60 rfl) rfl rfl (by omega) (by decide) ?_
  refine Wp.iast (j := (585 * l + j)) (n := 2340) rfl (WF.t hw 65 rfl) (gix l j) (by omega) (by decide) ?_
  refine Wp.seg 2 (pc1 := 15) (ls1 := [some (.ref 59), some (.int (Int32.ofNat (l + 1))), some (.int (b)), some (.int ((Int32.ofNat j) + 1)), none, none, none, none]) (st1 := []) rfl ?_
  exact hQ
set_option maxHeartbeats 4000000 in
theorem t_gcE {d : Nat} {Q : KO → Prop} {h : KH} (hw : WF h) {left b : Int32} {n : Nat} (h8 : h.2.2.1 60 8 = Int32.ofNat n) (hd : 0 ≤ d) (hQ : Wp d 246 62 ([some (.ref 59), some (.int (left)), some (.int (b)), some (.int (0)), some (.int (Int32.ofNat n)), some (.int (0)), none, none]) [] h Q) : Wp d 246 15 [some (.ref 59), some (.int (left)), some (.int (b)), some (.int (585)), none, none, none, none] [] h Q := by
  refine Wp.seg 2 (pc1 := 19) (ls1 := [some (.ref 59), some (.int (left)), some (.int (b)), some (.int (585)), none, none, none, none]) (st1 := [.int (585), .int (585)]) rfl ?_
  refine Wp.if2 rfl (fun c1 => ?_) (fun c1 => absurd (show (585 : Int32) ≤ (585 : Int32) by decide) c1)
  refine Wp.seg 3 (pc1 := 51) (ls1 := [some (.ref 59), some (.int (left)), some (.int (b)), some (.int (0)), none, none, none, none]) (st1 := [.ref 59]) rfl ?_
  refine Wp.gr (t := (11, 0)) (v := some (60)) rfl (WF.t hw 59 rfl) rfl (WF.r hw 59 0 58 rfl) ?_
  show Wp d 246 54 [some (.ref 59), some (.int (left)), some (.int (b)), some (.int (0)), none, none, none, none] [.ref 60] h Q
  refine Wp.seg 1 (pc1 := 56) (ls1 := [some (.ref 59), some (.int (left)), some (.int (b)), some (.int (0)), none, none, none, none]) (st1 := [.int (8), .ref 60]) rfl ?_
  refine Wp.iald (j := 8) (k := 20) (n := 585) rfl (WF.t hw 60 rfl) rfl rfl (by decide) (by decide) ?_
  rw [show h.2.2.1 60 8 = Int32.ofNat n from h8]
  refine Wp.seg 3 (pc1 := 62) (ls1 := [some (.ref 59), some (.int (left)), some (.int (b)), some (.int (0)), some (.int (Int32.ofNat n)), some (.int (0)), none, none]) (st1 := []) rfl ?_
  exact hQ
set_option maxHeartbeats 4000000 in
theorem t_goB {d : Nat} {Q : KO → Prop} {h : KH} (hw : WF h) {A : Nat → Int32} {RL : List Rul} {n c dn en : Nat} (hk : refOK h A RL n c dn en) {l a : Nat} {b : Bool} {v : Int32} {y z : Option Value} (hn : n ≤ 6) (hlt : dn < en) (han : a ≤ n) (hd : 6 ≤ d) (hQ : ∀ k, Fr pM noP h k → refOK k (goA RL A (actT a)) RL n c (dn + 1) en → keepS (k.2.2.1 60) (h.2.2.1 60) → ((b = true → Wp d 246 94 ([some (.ref 59), some (.int (Int32.ofNat (l + 1))), some (.int (b32 b)), some (.int (v)), some (.int (Int32.ofNat n)), some (.int (Int32.ofNat a)), some (.int (wA RL A (actT a))), z]) [.int (0), .int ((Int32.ofNat (l + 1)) - (1 : Int32)), .ref 59, .int (wA RL A (actT a))] k Q) ∧ (b = false → Wp d 246 94 ([some (.ref 59), some (.int (Int32.ofNat (l + 1))), some (.int (b32 b)), some (.int (v)), some (.int (Int32.ofNat n)), some (.int (Int32.ofNat a)), some (.int (wA RL A (actT a))), z]) [.int (1), .int ((Int32.ofNat (l + 1)) - (1 : Int32)), .ref 59, .int (wA RL A (actT a))] k Q))) : Wp d 246 62 [some (.ref 59), some (.int (Int32.ofNat (l + 1))), some (.int (b32 b)), some (.int (v)), some (.int (Int32.ofNat n)), some (.int (Int32.ofNat a)), y, z] [] h Q := by
  refine Wp.seg 2 (pc1 := 66) (ls1 := [some (.ref 59), some (.int (Int32.ofNat (l + 1))), some (.int (b32 b)), some (.int (v)), some (.int (Int32.ofNat n)), some (.int (Int32.ofNat a)), y, z]) (st1 := [.int (Int32.ofNat n), .int (Int32.ofNat a)]) rfl ?_
  refine Wp.if2 rfl (fun c1 => absurd c1 (fun c => by have := (zlt (znat (n := n) (by omega)) (znat (n := a) (by omega))).mp c; omega)) (fun c1 => ?_)
  refine Wp.seg 4 (pc1 := 74) (ls1 := [some (.ref 59), some (.int (Int32.ofNat (l + 1))), some (.int (b32 b)), some (.int (v)), some (.int (Int32.ofNat n)), some (.int (Int32.ofNat a)), y, z]) (st1 := [.int ((Int32.ofNat a) - (1 : Int32)), .ref 59]) rfl ?_
  refine Wp.invV (d2 := 5) (as := [.ref 59, .int ((Int32.ofNat a) - (1 : Int32))]) (r := []) (t := (11, 0)) rfl rfl rfl rfl (WF.t hw 59 rfl) rfl rfl ⟨rfl, rfl⟩ (by omega) (s_goesF (t := actT a) hw hk hlt (actT_ok han hn) (Nat.le_refl _) ?_)
  intro k f g e0
  show Wp d 246 77 [some (.ref 59), some (.int (Int32.ofNat (l + 1))), some (.int (b32 b)), some (.int (v)), some (.int (Int32.ofNat n)), some (.int (Int32.ofNat a)), y, z] [.int (wA RL A (actT a))] k Q
  refine Wp.seg 7 (pc1 := 86) (ls1 := [some (.ref 59), some (.int (Int32.ofNat (l + 1))), some (.int (b32 b)), some (.int (v)), some (.int (Int32.ofNat n)), some (.int (Int32.ofNat a)), some (.int (wA RL A (actT a))), z]) (st1 := [.int (b32 b), .int ((Int32.ofNat (l + 1)) - (1 : Int32)), .ref 59, .int (wA RL A (actT a))]) rfl ?_
  refine Wp.ifnz rfl (fun (c2 : b = true) => ?_) (fun (c2 : b = false) => ?_)
  · refine Wp.seg 1 (pc1 := 94) (ls1 := [some (.ref 59), some (.int (Int32.ofNat (l + 1))), some (.int (b32 b)), some (.int (v)), some (.int (Int32.ofNat n)), some (.int (Int32.ofNat a)), some (.int (wA RL A (actT a))), z]) (st1 := [.int (0), .int ((Int32.ofNat (l + 1)) - (1 : Int32)), .ref 59, .int (wA RL A (actT a))]) rfl ?_
    exact ((hQ k f g e0).1 c2)
  · refine Wp.seg 2 (pc1 := 94) (ls1 := [some (.ref 59), some (.int (Int32.ofNat (l + 1))), some (.int (b32 b)), some (.int (v)), some (.int (Int32.ofNat n)), some (.int (Int32.ofNat a)), some (.int (wA RL A (actT a))), z]) (st1 := [.int (1), .int ((Int32.ofNat (l + 1)) - (1 : Int32)), .ref 59, .int (wA RL A (actT a))]) rfl ?_
    exact ((hQ k f g e0).2 c2)
set_option maxHeartbeats 4000000 in
theorem t_goM {d : Nat} {Q : KO → Prop} {h : KH} {left b v n a u bc w0 : Int32} {z : Option Value} (hd : 0 ≤ d) (hQ : Wp d 246 103 ([some (.ref 59), some (.int (left)), some (.int (b)), some (.int (v)), some (.int (n)), some (.int (a)), some (.int (bc + u)), some (.int (0))]) [] h Q) : Wp d 246 97 [some (.ref 59), some (.int (left)), some (.int (b)), some (.int (v)), some (.int (n)), some (.int (a)), some (.int (w0)), z] [.int (u), .int (bc)] h Q := by
  refine Wp.seg 4 (pc1 := 103) (ls1 := [some (.ref 59), some (.int (left)), some (.int (b)), some (.int (v)), some (.int (n)), some (.int (a)), some (.int (bc + u)), some (.int (0))]) (st1 := []) rfl ?_
  exact hQ
set_option maxHeartbeats 4000000 in
theorem t_grB {d : Nat} {Q : KO → Prop} {h : KH} (hw : WF h) {l j : Nat} {b v n a w : Int32} (hl : l < 4) (hj : j < 585) (hd : 0 ≤ d) (hQ : Wp d 246 103 ([some (.ref 59), some (.int (Int32.ofNat (l + 1))), some (.int (b)), some (.int (v)), some (.int (n)), some (.int (a)), some (.int (w)), some (.int ((Int32.ofNat j) + 1))]) [] (kwi h 60 j (h.2.2.1 65 ((585 * l + j)))) Q) : Wp d 246 103 [some (.ref 59), some (.int (Int32.ofNat (l + 1))), some (.int (b)), some (.int (v)), some (.int (n)), some (.int (a)), some (.int (w)), some (.int (Int32.ofNat j))] [] h Q := by
  refine Wp.seg 2 (pc1 := 108) (ls1 := [some (.ref 59), some (.int (Int32.ofNat (l + 1))), some (.int (b)), some (.int (v)), some (.int (n)), some (.int (a)), some (.int (w)), some (.int (Int32.ofNat j))]) (st1 := [.int (585), .int (Int32.ofNat j)]) rfl ?_
  refine Wp.if2 rfl (fun c1 => absurd c1 (fun c => by have := (zle (m := 585) rfl (znat (n := j) (by omega))).mp c; omega)) (fun c1 => ?_)
  refine Wp.seg 1 (pc1 := 112) (ls1 := [some (.ref 59), some (.int (Int32.ofNat (l + 1))), some (.int (b)), some (.int (v)), some (.int (n)), some (.int (a)), some (.int (w)), some (.int (Int32.ofNat j))]) (st1 := [.ref 59]) rfl ?_
  refine Wp.gr (t := (11, 0)) (v := some (60)) rfl (WF.t hw 59 rfl) rfl (WF.r hw 59 0 58 rfl) ?_
  show Wp d 246 115 [some (.ref 59), some (.int (Int32.ofNat (l + 1))), some (.int (b)), some (.int (v)), some (.int (n)), some (.int (a)), some (.int (w)), some (.int (Int32.ofNat j))] [.ref 60] h Q
  refine Wp.seg 2 (pc1 := 118) (ls1 := [some (.ref 59), some (.int (Int32.ofNat (l + 1))), some (.int (b)), some (.int (v)), some (.int (n)), some (.int (a)), some (.int (w)), some (.int (Int32.ofNat j))]) (st1 := [.ref 59, .int (Int32.ofNat j), .ref 60]) rfl ?_
  refine Wp.gr (t := (11, 0)) (v := some (65)) rfl (WF.t hw 59 rfl) rfl (WF.r hw 59 18 63 rfl) ?_
  show Wp d 246 121 [some (.ref 59), some (.int (Int32.ofNat (l + 1))), some (.int (b)), some (.int (v)), some (.int (n)), some (.int (a)), some (.int (w)), some (.int (Int32.ofNat j))] [.ref 65, .int (Int32.ofNat j), .ref 60] h Q
  refine Wp.seg 7 (pc1 := 131) (ls1 := [some (.ref 59), some (.int (Int32.ofNat (l + 1))), some (.int (b)), some (.int (v)), some (.int (n)), some (.int (a)), some (.int (w)), some (.int (Int32.ofNat j))]) (st1 := [.int (((585 : Int32) * ((Int32.ofNat (l + 1)) - (1 : Int32))) + (Int32.ofNat j)), .ref 65, .int (Int32.ofNat j), .ref 60]) rfl ?_
  refine Wp.iald (j := (585 * l + j)) (k := 20) (n := 2340) rfl (WF.t hw 65 rfl) rfl (gix l j) (by omega) (by decide) ?_
  refine Wp.iast (j := j) (n := 585) rfl (WF.t hw 60 rfl) rfl (by omega) (by decide) ?_
  refine Wp.seg 2 (pc1 := 103) (ls1 := [some (.ref 59), some (.int (Int32.ofNat (l + 1))), some (.int (b)), some (.int (v)), some (.int (n)), some (.int (a)), some (.int (w)), some (.int ((Int32.ofNat j) + 1))]) (st1 := []) rfl ?_
  exact hQ
set_option maxHeartbeats 4000000 in
theorem t_grE {d : Nat} {Q : KO → Prop} {h : KH} {a : Nat} {b : Bool} {left v n w : Int32} (hd : 0 ≤ d) (hQ : ((Int32.ofNat a) = 0 → Wp d 246 182 ([some (.ref 59), some (.int (left)), some (.int (b32 b)), some (.int (w)), some (.int (n)), some (.int (Int32.ofNat a)), some (.int (w)), some (.int (1))]) [] h Q) ∧ (¬ ((Int32.ofNat a) = 0) → (b = false → (v ≤ w → Wp d 246 182 ([some (.ref 59), some (.int (left)), some (.int (b32 b)), some (.int (v)), some (.int (n)), some (.int (Int32.ofNat a)), some (.int (w)), some (.int (0))]) [] h Q) ∧ (¬ (v ≤ w) → Wp d 246 182 ([some (.ref 59), some (.int (left)), some (.int (b32 b)), some (.int (w)), some (.int (n)), some (.int (Int32.ofNat a)), some (.int (w)), some (.int (1))]) [] h Q)) ∧ (b = true → (w ≤ v → Wp d 246 182 ([some (.ref 59), some (.int (left)), some (.int (b32 b)), some (.int (v)), some (.int (n)), some (.int (Int32.ofNat a)), some (.int (w)), some (.int (0))]) [] h Q) ∧ (¬ (w ≤ v) → Wp d 246 182 ([some (.ref 59), some (.int (left)), some (.int (b32 b)), some (.int (w)), some (.int (n)), some (.int (Int32.ofNat a)), some (.int (w)), some (.int (1))]) [] h Q)))) : Wp d 246 103 [some (.ref 59), some (.int (left)), some (.int (b32 b)), some (.int (v)), some (.int (n)), some (.int (Int32.ofNat a)), some (.int (w)), some (.int (585))] [] h Q := by
  refine Wp.seg 2 (pc1 := 108) (ls1 := [some (.ref 59), some (.int (left)), some (.int (b32 b)), some (.int (v)), some (.int (n)), some (.int (Int32.ofNat a)), some (.int (w)), some (.int (585))]) (st1 := [.int (585), .int (585)]) rfl ?_
  refine Wp.if2 rfl (fun c1 => ?_) (fun c1 => absurd (show (585 : Int32) ≤ (585 : Int32) by decide) c1)
  refine Wp.seg 1 (pc1 := 141) (ls1 := [some (.ref 59), some (.int (left)), some (.int (b32 b)), some (.int (v)), some (.int (n)), some (.int (Int32.ofNat a)), some (.int (w)), some (.int (585))]) (st1 := [.int (Int32.ofNat a)]) rfl ?_
  refine Wp.if1 rfl (fun (c2 : (Int32.ofNat a) = 0) => ?_) (fun (c2 : ¬ ((Int32.ofNat a) = 0)) => ?_)
  · refine Wp.seg 4 (pc1 := 172) (ls1 := [some (.ref 59), some (.int (left)), some (.int (b32 b)), some (.int (v)), some (.int (n)), some (.int (Int32.ofNat a)), some (.int (w)), some (.int (1))]) (st1 := [.int (1)]) rfl ?_
    refine Wp.if1 rfl (fun c3 => absurd c3 (show ¬ ((1 : Int32) = 0) by decide)) (fun c3 => ?_)
    refine Wp.seg 3 (pc1 := 182) (ls1 := [some (.ref 59), some (.int (left)), some (.int (b32 b)), some (.int (w)), some (.int (n)), some (.int (Int32.ofNat a)), some (.int (w)), some (.int (1))]) (st1 := []) rfl ?_
    exact (hQ.1 c2)
  · refine Wp.seg 1 (pc1 := 145) (ls1 := [some (.ref 59), some (.int (left)), some (.int (b32 b)), some (.int (v)), some (.int (n)), some (.int (Int32.ofNat a)), some (.int (w)), some (.int (585))]) (st1 := [.int (b32 b)]) rfl ?_
    refine Wp.ifz rfl (fun (c4 : b = false) => ?_) (fun (c4 : b = true) => ?_)
    · refine Wp.seg 2 (pc1 := 160) (ls1 := [some (.ref 59), some (.int (left)), some (.int (b32 b)), some (.int (v)), some (.int (n)), some (.int (Int32.ofNat a)), some (.int (w)), some (.int (585))]) (st1 := [.int (v), .int (w)]) rfl ?_
      refine Wp.if2 rfl (fun (c5 : v ≤ w) => ?_) (fun (c5 : ¬ (v ≤ w)) => ?_)
      · refine Wp.seg 3 (pc1 := 172) (ls1 := [some (.ref 59), some (.int (left)), some (.int (b32 b)), some (.int (v)), some (.int (n)), some (.int (Int32.ofNat a)), some (.int (w)), some (.int (0))]) (st1 := [.int (0)]) rfl ?_
        refine Wp.if1 rfl (fun c6 => ?_) (fun c6 => absurd (show (0 : Int32) = 0 by decide) c6)
        refine Wp.seg 2 (pc1 := 182) (ls1 := [some (.ref 59), some (.int (left)), some (.int (b32 b)), some (.int (v)), some (.int (n)), some (.int (Int32.ofNat a)), some (.int (w)), some (.int (0))]) (st1 := []) rfl ?_
        exact (((hQ.2 c2).1 c4).1 c5)
      · refine Wp.seg 4 (pc1 := 172) (ls1 := [some (.ref 59), some (.int (left)), some (.int (b32 b)), some (.int (v)), some (.int (n)), some (.int (Int32.ofNat a)), some (.int (w)), some (.int (1))]) (st1 := [.int (1)]) rfl ?_
        refine Wp.if1 rfl (fun c7 => absurd c7 (show ¬ ((1 : Int32) = 0) by decide)) (fun c7 => ?_)
        refine Wp.seg 3 (pc1 := 182) (ls1 := [some (.ref 59), some (.int (left)), some (.int (b32 b)), some (.int (w)), some (.int (n)), some (.int (Int32.ofNat a)), some (.int (w)), some (.int (1))]) (st1 := []) rfl ?_
        exact (((hQ.2 c2).1 c4).2 c5)
    · refine Wp.seg 2 (pc1 := 151) (ls1 := [some (.ref 59), some (.int (left)), some (.int (b32 b)), some (.int (v)), some (.int (n)), some (.int (Int32.ofNat a)), some (.int (w)), some (.int (585))]) (st1 := [.int (v), .int (w)]) rfl ?_
      refine Wp.if2 rfl (fun (c8 : w ≤ v) => ?_) (fun (c8 : ¬ (w ≤ v)) => ?_)
      · refine Wp.seg 3 (pc1 := 172) (ls1 := [some (.ref 59), some (.int (left)), some (.int (b32 b)), some (.int (v)), some (.int (n)), some (.int (Int32.ofNat a)), some (.int (w)), some (.int (0))]) (st1 := [.int (0)]) rfl ?_
        refine Wp.if1 rfl (fun c9 => ?_) (fun c9 => absurd (show (0 : Int32) = 0 by decide) c9)
        refine Wp.seg 2 (pc1 := 182) (ls1 := [some (.ref 59), some (.int (left)), some (.int (b32 b)), some (.int (v)), some (.int (n)), some (.int (Int32.ofNat a)), some (.int (w)), some (.int (0))]) (st1 := []) rfl ?_
        exact (((hQ.2 c2).2 c4).1 c8)
      · refine Wp.seg 5 (pc1 := 172) (ls1 := [some (.ref 59), some (.int (left)), some (.int (b32 b)), some (.int (v)), some (.int (n)), some (.int (Int32.ofNat a)), some (.int (w)), some (.int (1))]) (st1 := [.int (1)]) rfl ?_
        refine Wp.if1 rfl (fun c10 => absurd c10 (show ¬ ((1 : Int32) = 0) by decide)) (fun c10 => ?_)
        refine Wp.seg 3 (pc1 := 182) (ls1 := [some (.ref 59), some (.int (left)), some (.int (b32 b)), some (.int (w)), some (.int (n)), some (.int (Int32.ofNat a)), some (.int (w)), some (.int (1))]) (st1 := []) rfl ?_
        exact (((hQ.2 c2).2 c4).2 c8)
set_option maxHeartbeats 4000000 in
theorem t_goN {d : Nat} {Q : KO → Prop} {h : KH} {a : Nat} {b left v n y z : Int32} (hd : 0 ≤ d) (hQ : Wp d 246 62 ([some (.ref 59), some (.int (left)), some (.int (b)), some (.int (v)), some (.int (n)), some (.int ((Int32.ofNat a) + 1)), some (.int (y)), some (.int (z))]) [] h Q) : Wp d 246 182 [some (.ref 59), some (.int (left)), some (.int (b)), some (.int (v)), some (.int (n)), some (.int (Int32.ofNat a)), some (.int (y)), some (.int (z))] [] h Q := by
  refine Wp.seg 2 (pc1 := 62) (ls1 := [some (.ref 59), some (.int (left)), some (.int (b)), some (.int (v)), some (.int (n)), some (.int ((Int32.ofNat a) + 1)), some (.int (y)), some (.int (z))]) (st1 := []) rfl ?_
  exact hQ
set_option maxHeartbeats 4000000 in
theorem t_goE {d : Nat} {Q : KO → Prop} {h : KH} {n : Nat} {b left v : Int32} {y z : Option Value} (hn : n ≤ 6) (hd : 0 ≤ d) (hQ : Q (some (.int (v)), h)) : Wp d 246 62 [some (.ref 59), some (.int (left)), some (.int (b)), some (.int (v)), some (.int (Int32.ofNat n)), some (.int (Int32.ofNat (n + 1))), y, z] [] h Q := by
  refine Wp.seg 2 (pc1 := 66) (ls1 := [some (.ref 59), some (.int (left)), some (.int (b)), some (.int (v)), some (.int (Int32.ofNat n)), some (.int (Int32.ofNat (n + 1))), y, z]) (st1 := [.int (Int32.ofNat n), .int (Int32.ofNat (n + 1))]) rfl ?_
  refine Wp.if2 rfl (fun c1 => ?_) (fun c1 => absurd ((zlt (znat (n := n) (by omega)) (znat (n := n + 1) (by omega))).mpr (by omega)) c1)
  refine Wp.seg 1 (pc1 := 189) (ls1 := [some (.ref 59), some (.int (left)), some (.int (b)), some (.int (v)), some (.int (Int32.ofNat n)), some (.int (Int32.ofNat (n + 1))), y, z]) (st1 := [.int (v)]) rfl ?_
  exact Wp.reti rfl rfl hQ
def pG : Nat → Prop := fun c => c = 60 ∨ c = 64 ∨ c = 65
theorem r_save {d : Nat} {Q : KO → Prop} {l : Nat} {b : Int32} (hl : l < 4) : ∀ (i j : Nat) (h : KH), j + i = 585 → WF h →
    (∀ k, Fr (fun c => c = 65) noP h k → (∀ m, j ≤ m → m < 585 → k.2.2.1 65 (585 * l + m) = h.2.2.1 60 m) → (∀ m, (m < 585 * l + j ∨ 585 * (l + 1) ≤ m) → k.2.2.1 65 m = h.2.2.1 65 m) → Wp d 246 15 [some (.ref 59), some (.int (Int32.ofNat (l + 1))), some (.int b), some (.int (Int32.ofNat 585)), none, none, none, none] [] k Q) →
    Wp d 246 15 [some (.ref 59), some (.int (Int32.ofNat (l + 1))), some (.int b), some (.int (Int32.ofNat j)), none, none, none, none] [] h Q
  | 0, j, h, hij, hw, hQ => by
    obtain rfl : j = 585 := hij
    exact hQ h (Fr.refl h) (fun m h1 h2 => by omega) (fun m _ => rfl)
  | i + 1, j, h, hij, hw, hQ => by
    refine t_gcB hw hl (by omega) (Nat.zero_le _) ?_
    rw [show Int32.ofNat j + 1 = Int32.ofNat (j + 1) from ofadd j 1]
    have e60 : (kwi h 65 (585 * l + j) (h.2.2.1 60 j)).2.2.1 60 = h.2.2.1 60 := kwi_r (by decide)
    refine r_save hl i (j + 1) (kwi h 65 (585 * l + j) (h.2.2.1 60 j)) (by omega) hw (fun k f q1 q2 => hQ k (Fr.trans (fr_kwi rfl (by decide)) f) (fun m h1 h2 => ?_) (fun m hm => ?_))
    · by_cases e : m = j
      · subst e
        rw [q2 _ (by omega)]
        exact kwi_s
      · rw [q1 m (by omega) h2, e60]
    · rw [q2 m (by omega)]
      exact kwi_o (by omega)
theorem r_restore {d : Nat} {Q : KO → Prop} {l : Nat} {b v n a w : Int32} (hl : l < 4) : ∀ (i j : Nat) (h : KH), j + i = 585 → WF h →
    (∀ k, Fr (fun c => c = 60) noP h k → (∀ m, j ≤ m → m < 585 → k.2.2.1 60 m = h.2.2.1 65 (585 * l + m)) → (∀ m, (m < j ∨ 585 ≤ m) → k.2.2.1 60 m = h.2.2.1 60 m) → Wp d 246 103 [some (.ref 59), some (.int (Int32.ofNat (l + 1))), some (.int b), some (.int v), some (.int n), some (.int a), some (.int w), some (.int (Int32.ofNat 585))] [] k Q) →
    Wp d 246 103 [some (.ref 59), some (.int (Int32.ofNat (l + 1))), some (.int b), some (.int v), some (.int n), some (.int a), some (.int w), some (.int (Int32.ofNat j))] [] h Q
  | 0, j, h, hij, hw, hQ => by
    obtain rfl : j = 585 := hij
    exact hQ h (Fr.refl h) (fun m h1 h2 => by omega) (fun m _ => rfl)
  | i + 1, j, h, hij, hw, hQ => by
    refine t_grB hw hl (by omega) (Nat.zero_le _) ?_
    rw [show Int32.ofNat j + 1 = Int32.ofNat (j + 1) from ofadd j 1]
    have e65 : (kwi h 60 j (h.2.2.1 65 (585 * l + j))).2.2.1 65 = h.2.2.1 65 := kwi_r (by decide)
    refine r_restore hl i (j + 1) (kwi h 60 j (h.2.2.1 65 (585 * l + j))) (by omega) hw (fun k f q1 q2 => hQ k (Fr.trans (fr_kwi rfl (by decide)) f) (fun m h1 h2 => ?_) (fun m hm => ?_))
    · by_cases e : m = j
      · subst e
        rw [q2 _ (by omega)]
        exact kwi_s
      · rw [q1 m (by omega) h2, e65]
    · rw [q2 m (by omega)]
      exact kwi_o (by omega)
set_option maxHeartbeats 2000000 in
theorem r_game {RL : List Rul} {n c en : Nat} : ∀ (left : Nat) (d : Nat) (h : KH) (A : Nat → Int32) (dn : Nat) (b : Bool) (Q : KO → Prop), left ≤ 4 → left + 7 ≤ d → WF h → refOK h A RL n c dn en →
    (∀ k, Fr pG noP h k → k.2.2.1 60 = h.2.2.1 60 → (∀ i, 585 * left ≤ i → k.2.2.1 65 i = h.2.2.1 65 i) → Q (some (.int (gameV RL n (min left (en - dn)) b A)), k)) → Cl d 246 [.ref 59, .int (Int32.ofNat left), .int (b32 b)] h Q := by
  intro left
  induction left with
  | zero =>
    intro d h A dn b Q h4 hd hw hk hQ
    have := hQ h (Fr.refl h) rfl (fun _ _ => rfl)
    rw [Nat.zero_min] at this
    exact t_goZ (Nat.zero_le _) this
  | succ l ih =>
    intro d h A dn b Q h4 hd hw hk hQ
    have hn := hk.2.1.1
    by_cases hlt : dn < en
    · have hm : min (l + 1) (en - dn) = min l (en - (dn + 1)) + 1 := by omega
      rw [hm] at hQ
      generalize hKK : min l (en - (dn + 1)) = K at hQ
      refine t_goS hw hk (by omega) hlt (by omega) (r_save (by omega) 585 0 h (by omega) hw (fun k f q1 q2 => ?_))
      have e60 : k.2.2.1 60 = h.2.2.1 60 := f.2.2.1 60 (Or.inl (by decide))
      have hk2 := refOK_eq hk e60
      refine t_gcE (f.wf hw (fun z => z)) (n := n) hk2.2.1.2.1 (Nat.zero_le _) ?_
      have loop : ∀ (j a : Nat) (x : KH) (st : Int32 × Int32) (y z : Option Value), a + j = n + 1 → WF x → x.2.2.1 60 = h.2.2.1 60 → (∀ m, m < 585 → x.2.2.1 65 (585 * l + m) = h.2.2.1 60 m) →
          (∀ k, Fr pG noP x k → k.2.2.1 60 = h.2.2.1 60 → (∀ i, 585 * (l + 1) ≤ i → k.2.2.1 65 i = x.2.2.1 65 i) → Q (some (.int (foldN (gmF (gmW RL (gameV RL n K (!b)) A) b) j a st).1), k)) →
          Wp d 246 62 [some (.ref 59), some (.int (Int32.ofNat (l + 1))), some (.int (b32 b)), some (.int st.1), some (.int (Int32.ofNat n)), some (.int (Int32.ofNat a)), y, z] [] x Q := by
        intro j
        induction j with
        | zero =>
          intro a x st y z ha hwx x60 x65 hQx
          have ha2 : a = n + 1 := ha
          subst ha2
          exact t_goE hn (Nat.zero_le _) (hQx x (Fr.refl x) x60 (fun _ _ => rfl))
        | succ j ihj =>
          intro a x st y z ha hwx x60 x65 hQx
          have han : a ≤ n := by omega
          have hkx := refOK_eq hk x60
          have cont : ∀ (k1 : KH) (sb : Int32), sb = b32 (!b) → Fr pM noP x k1 → refOK k1 (goA RL A (actT a)) RL n c (dn + 1) en → keepS (k1.2.2.1 60) (x.2.2.1 60) → ∀ zz, Wp d 246 94 [some (.ref 59), some (.int (Int32.ofNat (l + 1))), some (.int (b32 b)), some (.int st.1), some (.int (Int32.ofNat n)), some (.int (Int32.ofNat a)), some (.int (wA RL A (actT a))), zz] [.int sb, .int (Int32.ofNat (l + 1) - 1), .ref 59, .int (wA RL A (actT a))] k1 Q := by
            intro k1 sb hsb f1 g1 e1 zz
            subst hsb
            rw [ofdec2]
            have w1 : WF k1 := f1.wf hwx (fun z => z)
            refine Wp.invV (d2 := d - 1) (as := [.ref 59, .int (Int32.ofNat l), .int (b32 (!b))]) (r := [.int (wA RL A (actT a))]) (t := (11, 0)) rfl rfl rfl rfl (WF.t w1 59 rfl) rfl rfl ⟨rfl, rfl⟩ (by omega) ?_
            refine ih (d - 1) k1 _ (dn + 1) (!b) _ (by omega) (by omega) w1 g1 (fun k2 f2 p1 p2 => ?_)
            rw [hKK]
            show Wp d 246 97 [some (.ref 59), some (.int (Int32.ofNat (l + 1))), some (.int (b32 b)), some (.int st.1), some (.int (Int32.ofNat n)), some (.int (Int32.ofNat a)), some (.int (wA RL A (actT a))), zz] [.int (gameV RL n K (!b) (goA RL A (actT a))), .int (wA RL A (actT a))] k2 Q
            refine t_goM (Nat.zero_le _) (r_restore (by omega) 585 0 k2 (by omega) (f2.wf w1 (fun z => z)) (fun k3 f3 p3 p4 => ?_))
            have x65' : k1.2.2.1 65 = x.2.2.1 65 := f1.2.2.1 65 (Or.inl (by unfold pM; decide))
            have e3 : k3.2.2.1 60 = h.2.2.1 60 := by
              funext m
              by_cases q : m < 585
              · rw [p3 m (Nat.zero_le _) q, p2 _ (by omega), x65', x65 m q]
              · rw [p4 m (by omega), p1, e1 m (by omega), x60]
            have fA : Fr pG noP x k3 := (f1.mono (fun c z => by unfold pM at z; unfold pG; omega) (fun _ z => z)).trans (f2.trans (f3.mono (fun c z => Or.inl z) (fun _ z => z)))
            have i65 : ∀ i, 585 * l ≤ i → k3.2.2.1 65 i = x.2.2.1 65 i := fun i hi => by
              rw [f3.2.2.1 65 (Or.inl (by decide)), p2 i hi, x65']
            have next : ∀ (st2 : Int32 × Int32) (yy zz : Int32), st2 = gmF (gmW RL (gameV RL n K (!b)) A) b st a → Wp d 246 182 [some (.ref 59), some (.int (Int32.ofNat (l + 1))), some (.int (b32 b)), some (.int st2.1), some (.int (Int32.ofNat n)), some (.int (Int32.ofNat a)), some (.int yy), some (.int zz)] [] k3 Q := by
              intro st2 yy zz hst
              refine t_goN (Nat.zero_le _) ?_
              rw [show Int32.ofNat a + 1 = Int32.ofNat (a + 1) from ofadd a 1]
              refine ihj (a + 1) k3 st2 _ _ (by omega) (fA.wf hwx (fun z => z)) e3 (fun m hm => (i65 _ (by omega)).trans (x65 m hm)) (fun k4 f4 r1 r2 => ?_)
              have := hQx k4 (fA.trans f4) r1 (fun i hi => (r2 i hi).trans (i65 i (by omega)))
              rw [hst]
              exact this
            have hwv : wA RL A (actT a) + gameV RL n K (!b) (goA RL A (actT a)) = gmW RL (gameV RL n K (!b)) A a := rfl
            rw [hwv]
            have take : (a = 0 ∨ (if b = true then st.1 < gmW RL (gameV RL n K (!b)) A a else gmW RL (gameV RL n K (!b)) A a < st.1)) → ∀ zz : Int32, Wp d 246 182 [some (.ref 59), some (.int (Int32.ofNat (l + 1))), some (.int (b32 b)), some (.int (gmW RL (gameV RL n K (!b)) A a)), some (.int (Int32.ofNat n)), some (.int (Int32.ofNat a)), some (.int (gmW RL (gameV RL n K (!b)) A a)), some (.int zz)] [] k3 Q := by
              intro hc zz
              have est : gmF (gmW RL (gameV RL n K (!b)) A) b st a = (gmW RL (gameV RL n K (!b)) A a, Int32.ofNat a) := if_pos hc
              exact next (gmW RL (gameV RL n K (!b)) A a, Int32.ofNat a) _ _ est.symm
            have skip : ¬ (a = 0 ∨ (if b = true then st.1 < gmW RL (gameV RL n K (!b)) A a else gmW RL (gameV RL n K (!b)) A a < st.1)) → ∀ zz : Int32, Wp d 246 182 [some (.ref 59), some (.int (Int32.ofNat (l + 1))), some (.int (b32 b)), some (.int st.1), some (.int (Int32.ofNat n)), some (.int (Int32.ofNat a)), some (.int (gmW RL (gameV RL n K (!b)) A a)), some (.int zz)] [] k3 Q := by
              intro hc zz
              have est : gmF (gmW RL (gameV RL n K (!b)) A) b st a = st := if_neg hc
              exact next st _ _ est.symm
            have a0 : Int32.ofNat a = 0 → a = 0 := fun z => (oeq (b := 0) (by omega) (by decide)).mp z
            refine t_grE (Nat.zero_le _) ⟨fun c1 => take (Or.inl (a0 c1)) _, fun c1 => ?_⟩
            have na : ¬ a = 0 := fun z => c1 (by rw [z]; rfl)
            refine ⟨fun hb0 => ?_, fun hb0 => ?_⟩
            · refine ⟨fun c2 => skip (fun z => z.elim na (fun y => ?_)) _, fun c2 => take (Or.inr ?_) _⟩
              · rw [if_neg (by rw [hb0]; decide)] at y
                exact Int32.not_lt.mpr c2 y
              · rw [if_neg (by rw [hb0]; decide)]
                exact Int32.not_le.mp c2
            · refine ⟨fun c2 => skip (fun z => z.elim na (fun y => ?_)) _, fun c2 => take (Or.inr ?_) _⟩
              · rw [if_pos hb0] at y
                exact Int32.not_lt.mpr c2 y
              · rw [if_pos hb0]
                exact Int32.not_le.mp c2
          refine t_goB hwx hkx hn hlt han (by omega) (fun k1 f1 g1 e1 => ⟨fun hb => ?_, fun hb => ?_⟩)
          · exact cont k1 0 (by rw [hb]; rfl) f1 g1 e1 _
          · exact cont k1 1 (by rw [hb]; rfl) f1 g1 e1 _
      refine loop (n + 1) 0 k (0, 0) none none (by omega) (f.wf hw (fun z => z)) e60 (fun m hm => q1 m (Nat.zero_le _) hm) (fun k2 f2 p1 p2 => hQ k2 ((f.mono (fun c z => Or.inr (Or.inr z)) (fun _ z => z)).trans f2) p1 (fun i hi => (p2 i hi).trans (q2 i (Or.inr hi))))
    · have := hQ h (Fr.refl h) rfl (fun _ _ => rfl)
      rw [show min (l + 1) (en - dn) = 0 by omega] at this
      exact t_goV hw hk (by omega) hlt (by omega) this
