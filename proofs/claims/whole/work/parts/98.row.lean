/-! KM: both sides: row, alterRow -/
def rwB (R : Nat) (i w : Int32) : Bool := inB i 0 ((R : Int) - 1) && inB w 0 2
theorem row_r {h : KH} (hw : WF h) {k : Nat} (hk : k < 4) : h.2.1 33 k = some (34 + k) := by
  have h4 : k = 0 ∨ k = 1 ∨ k = 2 ∨ k = 3 := by omega
  rcases h4 with rfl | rfl | rfl | rfl
  · exact WF.r hw 33 0 40 rfl
  · exact WF.r hw 33 1 41 rfl
  · exact WF.r hw 33 2 42 rfl
  · exact WF.r hw 33 3 43 rfl
theorem row_t {h : KH} (hw : WF h) {k : Nat} (hk : k < 4) : h.1 (34 + k) = (20, 3) := by
  have h4 : k = 0 ∨ k = 1 ∨ k = 2 ∨ k = 3 := by omega
  rcases h4 with rfl | rfl | rfl | rfl <;> exact WF.t hw _ rfl
theorem three (k q : Nat) : (3 : Int32) * Int32.ofNat k + Int32.ofNat q = Int32.ofNat (3 * k + q) := by
  rw [show (3 : Int32) = Int32.ofNat 3 from rfl, ← Int32.ofNat_mul, ← Int32.ofNat_add]
set_option maxHeartbeats 4000000 in
theorem t_inRow {d : Nat} {Q : KO → Prop} {h : KH} (hw : WF h) {R : Nat} {i w : Int32} (h7 : h.2.2.1 0 7 = Int32.ofNat R) (hd : 0 ≤ d) (hQ : (i < 0 → Q (some (.int (0)), h)) ∧ (¬ (i < 0) → ((Int32.ofNat R) ≤ i → Q (some (.int (0)), h)) ∧ (¬ ((Int32.ofNat R) ≤ i) → ((Int32.ofNat 4) ≤ i → Q (some (.int (0)), h)) ∧ (¬ ((Int32.ofNat 4) ≤ i) → (w < 0 → Q (some (.int (0)), h)) ∧ (¬ (w < 0) → ((3 : Int32) ≤ w → Q (some (.int (0)), h)) ∧ (¬ ((3 : Int32) ≤ w) → Q (some (.int (1)), h))))))) : Cl d 145 [.ref 0, .int (i), .int (w)] h Q := by
  refine Cl.of (ls := [some (.ref 0), some (.int (i)), some (.int (w))]) rfl rfl ?_
  refine Wp.seg 1 (pc1 := 1) (ls1 := [some (.ref 0), some (.int (i)), some (.int (w))]) (st1 := [.int (i)]) rfl ?_
  refine Wp.if1 rfl (fun (c1 : i < 0) => ?_) (fun (c1 : ¬ (i < 0)) => ?_)
  · refine Wp.seg 1 (pc1 := 35) (ls1 := [some (.ref 0), some (.int (i)), some (.int (w))]) (st1 := [.int (0)]) rfl ?_
    exact Wp.reti rfl rfl (hQ.1 c1)
  · refine Wp.seg 2 (pc1 := 6) (ls1 := [some (.ref 0), some (.int (i)), some (.int (w))]) (st1 := [.ref 0, .int (i)]) rfl ?_
    refine Wp.gi (t := (10, 0)) rfl (WF.t hw 0 rfl) (Or.inl rfl) ?_
    rw [show h.2.2.1 0 7 = Int32.ofNat R from h7]
    refine Wp.if2 rfl (fun (c2 : (Int32.ofNat R) ≤ i) => ?_) (fun (c2 : ¬ ((Int32.ofNat R) ≤ i)) => ?_)
    · refine Wp.seg 1 (pc1 := 35) (ls1 := [some (.ref 0), some (.int (i)), some (.int (w))]) (st1 := [.int (0)]) rfl ?_
      exact Wp.reti rfl rfl ((hQ.2 c1).1 c2)
    · refine Wp.seg 2 (pc1 := 14) (ls1 := [some (.ref 0), some (.int (i)), some (.int (w))]) (st1 := [.ref 0, .int (i)]) rfl ?_
      refine Wp.gr (t := (10, 0)) (v := some (33)) rfl (WF.t hw 0 rfl) rfl (WF.r hw 0 6 5 rfl) ?_
      show Wp d 145 17 [some (.ref 0), some (.int (i)), some (.int (w))] [.ref 33, .int (i)] h Q
      refine Wp.alen (n := 4) (k := 26) rfl (WF.t hw 33 rfl) rfl ?_
      refine Wp.if2 rfl (fun (c3 : (Int32.ofNat 4) ≤ i) => ?_) (fun (c3 : ¬ ((Int32.ofNat 4) ≤ i)) => ?_)
      · refine Wp.seg 1 (pc1 := 35) (ls1 := [some (.ref 0), some (.int (i)), some (.int (w))]) (st1 := [.int (0)]) rfl ?_
        exact Wp.reti rfl rfl (((hQ.2 c1).2 c2).1 c3)
      · refine Wp.seg 1 (pc1 := 22) (ls1 := [some (.ref 0), some (.int (i)), some (.int (w))]) (st1 := [.int (w)]) rfl ?_
        refine Wp.if1 rfl (fun (c4 : w < 0) => ?_) (fun (c4 : ¬ (w < 0)) => ?_)
        · refine Wp.seg 1 (pc1 := 35) (ls1 := [some (.ref 0), some (.int (i)), some (.int (w))]) (st1 := [.int (0)]) rfl ?_
          exact Wp.reti rfl rfl ((((hQ.2 c1).2 c2).2 c3).1 c4)
        · refine Wp.seg 2 (pc1 := 27) (ls1 := [some (.ref 0), some (.int (i)), some (.int (w))]) (st1 := [.int (3), .int (w)]) rfl ?_
          refine Wp.if2 rfl (fun (c5 : (3 : Int32) ≤ w) => ?_) (fun (c5 : ¬ ((3 : Int32) ≤ w)) => ?_)
          · refine Wp.seg 1 (pc1 := 35) (ls1 := [some (.ref 0), some (.int (i)), some (.int (w))]) (st1 := [.int (0)]) rfl ?_
            exact Wp.reti rfl rfl (((((hQ.2 c1).2 c2).2 c3).2 c4).1 c5)
          · refine Wp.seg 2 (pc1 := 35) (ls1 := [some (.ref 0), some (.int (i)), some (.int (w))]) (st1 := [.int (1)]) rfl ?_
            exact Wp.reti rfl rfl (((((hQ.2 c1).2 c2).2 c3).2 c4).2 c5)
theorem s_inRow {d : Nat} {Q : KO → Prop} {h : KH} (hw : WF h) {R : Nat} {i w : Int32} (hR : R ≤ 4) (h7 : h.2.2.1 0 7 = Int32.ofNat R) (hQ : Q (some (.int (b32 (rwB R i w))), h)) : Cl d 145 [.ref 0, .int i, .int w] h Q := by
  have T : rwB R i w = true → Q (some (.int 1), h) := fun e => by rw [e] at hQ; exact hQ
  have F : rwB R i w = false → Q (some (.int 0), h) := fun e => by rw [e] at hQ; exact hQ
  have f1 : inB i 0 ((R : Int) - 1) = false → rwB R i w = false := fun e => by unfold rwB; rw [e]; rfl
  have f2 : inB w 0 2 = false → rwB R i w = false := fun e => by unfold rwB; rw [e, Bool.and_false]
  refine t_inRow hw h7 (Nat.zero_le _) ⟨fun c1 => F (f1 ?_), fun c1 => ⟨fun c2 => F (f1 ?_), fun c2 => ⟨fun c3 => F (f1 ?_), fun c3 => ⟨fun c4 => F (f2 ?_), fun c4 => ⟨fun c5 => F (f2 ?_), fun c5 => T ?_⟩⟩⟩⟩⟩
  · have := i32T (rfl : i.toInt = i.toInt) (show (0 : Int32).toInt = 0 from rfl) c1
    exact inB_f (by omega)
  · have := i32L (znat (n := R) (by omega)) (rfl : i.toInt = i.toInt) c2
    exact inB_f (by omega)
  · have := i32L (znat (n := 4) (by omega)) (rfl : i.toInt = i.toInt) c3
    exact inB_f (by omega)
  · have := i32T (rfl : w.toInt = w.toInt) (show (0 : Int32).toInt = 0 from rfl) c4
    exact inB_f (by omega)
  · have := i32L (show (3 : Int32).toInt = 3 from rfl) (rfl : w.toInt = w.toInt) c5
    exact inB_f (by omega)
  · have k1 := i32F (rfl : i.toInt = i.toInt) (show (0 : Int32).toInt = 0 from rfl) c1
    have k2 := i32G (znat (n := R) (by omega)) (rfl : i.toInt = i.toInt) c2
    have k4 := i32F (rfl : w.toInt = w.toInt) (show (0 : Int32).toInt = 0 from rfl) c4
    have k5 := i32G (show (3 : Int32).toInt = 3 from rfl) (rfl : w.toInt = w.toInt) c5
    unfold rwB
    rw [inB_t (by omega), inB_t (by omega)]
    rfl
set_option maxHeartbeats 4000000 in
theorem t_isRow {d : Nat} {Q : KO → Prop} {h : KH} (hw : WF h) {R : Nat} {i w : Int32} (hR : R ≤ 4) (h20 : h.2.2.1 59 20 = Int32.ofNat R) (hd : 1 ≤ d) (hQ : ((inB i 0 ((R : Int) - 1)) = false → Q (some (.int (0)), h)) ∧ ((inB i 0 ((R : Int) - 1)) = true → ((inB w 0 2) = false → Q (some (.int (0)), h)) ∧ ((inB w 0 2) = true → Q (some (.int (1)), h)))) : Cl d 260 [.ref 59, .int (i), .int (w)] h Q := by
  refine Cl.of (ls := [some (.ref 59), some (.int (i)), some (.int (w))]) rfl rfl ?_
  refine Wp.seg 3 (pc1 := 3) (ls1 := [some (.ref 59), some (.int (i)), some (.int (w))]) (st1 := [.ref 59, .int (0), .int (i)]) rfl ?_
  refine Wp.gi (t := (11, 0)) rfl (WF.t hw 59 rfl) (Or.inl rfl) ?_
  rw [show h.2.2.1 59 20 = Int32.ofNat R from h20]
  refine Wp.seg 2 (pc1 := 8) (ls1 := [some (.ref 59), some (.int (i)), some (.int (w))]) (st1 := [.int ((Int32.ofNat R) - (1 : Int32)), .int (0), .int (i)]) rfl ?_
  refine Wp.inv (d2 := 0) (as := [.int (i), .int (0), .int ((Int32.ofNat R) - (1 : Int32))]) (r := []) rfl rfl rfl rfl rfl rfl (by omega) (s_inB (x := 0) (y := (R : Int) - 1) rfl (zs (znat (n := R) (by omega)) (n := 1) rfl (by omega)) ?_)
  show Wp d 260 11 [some (.ref 59), some (.int (i)), some (.int (w))] [.int (b32 (inB i 0 ((R : Int) - 1)))] h Q
  refine Wp.ifz rfl (fun (c1 : (inB i 0 ((R : Int) - 1)) = false) => ?_) (fun (c1 : (inB i 0 ((R : Int) - 1)) = true) => ?_)
  · refine Wp.seg 1 (pc1 := 28) (ls1 := [some (.ref 59), some (.int (i)), some (.int (w))]) (st1 := [.int (0)]) rfl ?_
    exact Wp.reti rfl rfl (hQ.1 c1)
  · refine Wp.seg 3 (pc1 := 17) (ls1 := [some (.ref 59), some (.int (i)), some (.int (w))]) (st1 := [.int (2), .int (0), .int (w)]) rfl ?_
    refine Wp.inv (d2 := 0) (as := [.int (w), .int (0), .int (2)]) (r := []) rfl rfl rfl rfl rfl rfl (by omega) (s_inB (x := 0) (y := 2) rfl rfl ?_)
    show Wp d 260 20 [some (.ref 59), some (.int (i)), some (.int (w))] [.int (b32 (inB w 0 2))] h Q
    refine Wp.ifz rfl (fun (c2 : (inB w 0 2) = false) => ?_) (fun (c2 : (inB w 0 2) = true) => ?_)
    · refine Wp.seg 1 (pc1 := 28) (ls1 := [some (.ref 59), some (.int (i)), some (.int (w))]) (st1 := [.int (0)]) rfl ?_
      exact Wp.reti rfl rfl ((hQ.2 c1).1 c2)
    · refine Wp.seg 2 (pc1 := 28) (ls1 := [some (.ref 59), some (.int (i)), some (.int (w))]) (st1 := [.int (1)]) rfl ?_
      exact Wp.reti rfl rfl ((hQ.2 c1).2 c2)
theorem s_isRow {d : Nat} {Q : KO → Prop} {h : KH} (hw : WF h) {R : Nat} {i w : Int32} (hR : R ≤ 4) (h20 : h.2.2.1 59 20 = Int32.ofNat R) (hd : 1 ≤ d) (hQ : Q (some (.int (b32 (rwB R i w))), h)) : Cl d 260 [.ref 59, .int i, .int w] h Q := by
  refine t_isRow hw hR h20 hd ⟨fun c1 => ?_, fun c1 => ⟨fun c2 => ?_, fun c2 => ?_⟩⟩
  · unfold rwB at hQ
    rw [c1] at hQ
    exact hQ
  · unfold rwB at hQ
    rw [c1, c2] at hQ
    exact hQ
  · unfold rwB at hQ
    rw [c1, c2] at hQ
    exact hQ
set_option maxHeartbeats 4000000 in
theorem t_crow0 {d : Nat} {Q : KO → Prop} {h : KH} (hw : WF h) {R : Nat} {i w : Int32} (hR : R ≤ 4) (h7 : h.2.2.1 0 7 = Int32.ofNat R) (qq : rwB R i w = false) (hd : 1 ≤ d) (hQ : Q (some (.int (-9)), h)) : Cl d 143 [.ref 0, .int (i), .int (w)] h Q := by
  refine Cl.of (ls := [some (.ref 0), some (.int (i)), some (.int (w))]) rfl rfl ?_
  refine Wp.seg 3 (pc1 := 3) (ls1 := [some (.ref 0), some (.int (i)), some (.int (w))]) (st1 := [.int (w), .int (i), .ref 0]) rfl ?_
  refine Wp.invV (d2 := 0) (as := [.ref 0, .int (i), .int (w)]) (r := []) (t := (10, 0)) rfl rfl rfl rfl (WF.t hw 0 rfl) rfl rfl ⟨rfl, rfl⟩ (by omega) (s_inRow hw hR h7 ?_)
  show Wp d 143 6 [some (.ref 0), some (.int (i)), some (.int (w))] [.int (b32 (rwB R i w))] h Q
  refine Wp.ifz rfl (fun c1 => ?_) (fun c1 => absurd (c1.symm.trans (qq)) (by decide))
  refine Wp.seg 1 (pc1 := 22) (ls1 := [some (.ref 0), some (.int (i)), some (.int (w))]) (st1 := [.int (-9)]) rfl ?_
  exact Wp.reti rfl rfl hQ
set_option maxHeartbeats 4000000 in
theorem t_mrow0 {d : Nat} {Q : KO → Prop} {h : KH} (hw : WF h) {R : Nat} {i w : Int32} (hR : R ≤ 4) (h20 : h.2.2.1 59 20 = Int32.ofNat R) (qq : rwB R i w = false) (hd : 2 ≤ d) (hQ : Q (some (.int (-9)), h)) : Cl d 261 [.ref 59, .int (i), .int (w)] h Q := by
  refine Cl.of (ls := [some (.ref 59), some (.int (i)), some (.int (w))]) rfl rfl ?_
  refine Wp.seg 3 (pc1 := 3) (ls1 := [some (.ref 59), some (.int (i)), some (.int (w))]) (st1 := [.int (w), .int (i), .ref 59]) rfl ?_
  refine Wp.invV (d2 := 1) (as := [.ref 59, .int (i), .int (w)]) (r := []) (t := (11, 0)) rfl rfl rfl rfl (WF.t hw 59 rfl) rfl rfl ⟨rfl, rfl⟩ (by omega) (s_isRow hw hR h20 (Nat.le_refl _) ?_)
  show Wp d 261 6 [some (.ref 59), some (.int (i)), some (.int (w))] [.int (b32 (rwB R i w))] h Q
  refine Wp.ifz rfl (fun c1 => ?_) (fun c1 => absurd (c1.symm.trans (qq)) (by decide))
  refine Wp.seg 1 (pc1 := 24) (ls1 := [some (.ref 59), some (.int (i)), some (.int (w))]) (st1 := [.int (-9)]) rfl ?_
  exact Wp.reti rfl rfl hQ
set_option maxHeartbeats 4000000 in
theorem t_crow1 {d : Nat} {Q : KO → Prop} {h : KH} (hw : WF h) {R k q : Nat} (hR : R ≤ 4) (hk : k < 4) (hq : q < 3) (h7 : h.2.2.1 0 7 = Int32.ofNat R) (qq : rwB R (Int32.ofNat k) (Int32.ofNat q) = true) (hd : 1 ≤ d) (hQ : Q (some (.int (h.2.2.1 (34 + k) q)), h)) : Cl d 143 [.ref 0, .int (Int32.ofNat k), .int (Int32.ofNat q)] h Q := by
  refine Cl.of (ls := [some (.ref 0), some (.int (Int32.ofNat k)), some (.int (Int32.ofNat q))]) rfl rfl ?_
  refine Wp.seg 3 (pc1 := 3) (ls1 := [some (.ref 0), some (.int (Int32.ofNat k)), some (.int (Int32.ofNat q))]) (st1 := [.int (Int32.ofNat q), .int (Int32.ofNat k), .ref 0]) rfl ?_
  refine Wp.invV (d2 := 0) (as := [.ref 0, .int (Int32.ofNat k), .int (Int32.ofNat q)]) (r := []) (t := (10, 0)) rfl rfl rfl rfl (WF.t hw 0 rfl) rfl rfl ⟨rfl, rfl⟩ (by omega) (s_inRow hw hR h7 ?_)
  show Wp d 143 6 [some (.ref 0), some (.int (Int32.ofNat k)), some (.int (Int32.ofNat q))] [.int (b32 (rwB R (Int32.ofNat k) (Int32.ofNat q)))] h Q
  refine Wp.ifz rfl (fun c1 => absurd (c1.symm.trans (qq)) (by decide)) (fun c1 => ?_)
  refine Wp.seg 1 (pc1 := 10) (ls1 := [some (.ref 0), some (.int (Int32.ofNat k)), some (.int (Int32.ofNat q))]) (st1 := [.ref 0]) rfl ?_
  refine Wp.gr (t := (10, 0)) (v := some (33)) rfl (WF.t hw 0 rfl) rfl (WF.r hw 0 6 5 rfl) ?_
  show Wp d 143 13 [some (.ref 0), some (.int (Int32.ofNat k)), some (.int (Int32.ofNat q))] [.ref 33] h Q
  refine Wp.seg 1 (pc1 := 14) (ls1 := [some (.ref 0), some (.int (Int32.ofNat k)), some (.int (Int32.ofNat q))]) (st1 := [.int (Int32.ofNat k), .ref 33]) rfl ?_
  refine Wp.aald (j := k) (k := 26) (n := 4) (v := some (34 + k)) rfl (WF.t hw 33 rfl) rfl rfl hk (by decide) (row_r hw hk) ?_
  show Wp d 143 15 [some (.ref 0), some (.int (Int32.ofNat k)), some (.int (Int32.ofNat q))] [.ref (34 + k)] h Q
  refine Wp.seg 1 (pc1 := 16) (ls1 := [some (.ref 0), some (.int (Int32.ofNat k)), some (.int (Int32.ofNat q))]) (st1 := [.int (Int32.ofNat q), .ref (34 + k)]) rfl ?_
  refine Wp.iald (j := q) (k := 20) (n := 3) rfl (row_t hw hk) rfl rfl hq (by decide) ?_
  refine Wp.seg 1 (pc1 := 22) (ls1 := [some (.ref 0), some (.int (Int32.ofNat k)), some (.int (Int32.ofNat q))]) (st1 := [.int (h.2.2.1 (34 + k) q)]) rfl ?_
  exact Wp.reti rfl rfl hQ
set_option maxHeartbeats 4000000 in
theorem t_mrow1 {d : Nat} {Q : KO → Prop} {h : KH} (hw : WF h) {R k q : Nat} (hR : R ≤ 4) (hk : k < 4) (hq : q < 3) (h20 : h.2.2.1 59 20 = Int32.ofNat R) (qq : rwB R (Int32.ofNat k) (Int32.ofNat q) = true) (hd : 2 ≤ d) (hQ : Q (some (.int (h.2.2.1 67 ((3 * k + q)))), h)) : Cl d 261 [.ref 59, .int (Int32.ofNat k), .int (Int32.ofNat q)] h Q := by
  refine Cl.of (ls := [some (.ref 59), some (.int (Int32.ofNat k)), some (.int (Int32.ofNat q))]) rfl rfl ?_
  refine Wp.seg 3 (pc1 := 3) (ls1 := [some (.ref 59), some (.int (Int32.ofNat k)), some (.int (Int32.ofNat q))]) (st1 := [.int (Int32.ofNat q), .int (Int32.ofNat k), .ref 59]) rfl ?_
  refine Wp.invV (d2 := 1) (as := [.ref 59, .int (Int32.ofNat k), .int (Int32.ofNat q)]) (r := []) (t := (11, 0)) rfl rfl rfl rfl (WF.t hw 59 rfl) rfl rfl ⟨rfl, rfl⟩ (by omega) (s_isRow hw hR h20 (Nat.le_refl _) ?_)
  show Wp d 261 6 [some (.ref 59), some (.int (Int32.ofNat k)), some (.int (Int32.ofNat q))] [.int (b32 (rwB R (Int32.ofNat k) (Int32.ofNat q)))] h Q
  refine Wp.ifz rfl (fun c1 => absurd (c1.symm.trans (qq)) (by decide)) (fun c1 => ?_)
  refine Wp.seg 1 (pc1 := 10) (ls1 := [some (.ref 59), some (.int (Int32.ofNat k)), some (.int (Int32.ofNat q))]) (st1 := [.ref 59]) rfl ?_
  refine Wp.gr (t := (11, 0)) (v := some (67)) rfl (WF.t hw 59 rfl) rfl (WF.r hw 59 21 65 rfl) ?_
  show Wp d 261 13 [some (.ref 59), some (.int (Int32.ofNat k)), some (.int (Int32.ofNat q))] [.ref 67] h Q
  refine Wp.seg 5 (pc1 := 18) (ls1 := [some (.ref 59), some (.int (Int32.ofNat k)), some (.int (Int32.ofNat q))]) (st1 := [.int (((3 : Int32) * (Int32.ofNat k)) + (Int32.ofNat q)), .ref 67]) rfl ?_
  refine Wp.iald (j := (3 * k + q)) (k := 20) (n := 12) rfl (WF.t hw 67 rfl) rfl (three k q) (by omega) (by decide) ?_
  refine Wp.seg 1 (pc1 := 24) (ls1 := [some (.ref 59), some (.int (Int32.ofNat k)), some (.int (Int32.ofNat q))]) (st1 := [.int (h.2.2.1 67 ((3 * k + q)))]) rfl ?_
  exact Wp.reti rfl rfl hQ
set_option maxHeartbeats 4000000 in
theorem t_calt0 {d : Nat} {Q : KO → Prop} {h : KH} (hw : WF h) {R : Nat} {i w : Int32} {x : Int32} (hR : R ≤ 4) (h7 : h.2.2.1 0 7 = Int32.ofNat R) (qq : rwB R i w = false) (hd : 1 ≤ d) (hQ : Q (some (.int (-9)), h)) : Cl d 144 [.ref 0, .int (i), .int (w), .int (x)] h Q := by
  refine Cl.of (ls := [some (.ref 0), some (.int (i)), some (.int (w)), some (.int (x)), none]) rfl rfl ?_
  refine Wp.seg 3 (pc1 := 3) (ls1 := [some (.ref 0), some (.int (i)), some (.int (w)), some (.int (x)), none]) (st1 := [.int (w), .int (i), .ref 0]) rfl ?_
  refine Wp.invV (d2 := 0) (as := [.ref 0, .int (i), .int (w)]) (r := []) (t := (10, 0)) rfl rfl rfl rfl (WF.t hw 0 rfl) rfl rfl ⟨rfl, rfl⟩ (by omega) (s_inRow hw hR h7 ?_)
  show Wp d 144 6 [some (.ref 0), some (.int (i)), some (.int (w)), some (.int (x)), none] [.int (b32 (rwB R i w))] h Q
  refine Wp.ifnz rfl (fun c1 => absurd (c1.symm.trans (qq)) (by decide)) (fun c1 => ?_)
  refine Wp.seg 1 (pc1 := 11) (ls1 := [some (.ref 0), some (.int (i)), some (.int (w)), some (.int (x)), none]) (st1 := [.int (-9)]) rfl ?_
  exact Wp.reti rfl rfl hQ
set_option maxHeartbeats 4000000 in
theorem t_malt0 {d : Nat} {Q : KO → Prop} {h : KH} (hw : WF h) {R : Nat} {i w : Int32} {x : Int32} (hR : R ≤ 4) (h20 : h.2.2.1 59 20 = Int32.ofNat R) (qq : rwB R i w = false) (hd : 2 ≤ d) (hQ : Q (some (.int (-9)), h)) : Cl d 262 [.ref 59, .int (i), .int (w), .int (x)] h Q := by
  refine Cl.of (ls := [some (.ref 59), some (.int (i)), some (.int (w)), some (.int (x)), none]) rfl rfl ?_
  refine Wp.seg 3 (pc1 := 3) (ls1 := [some (.ref 59), some (.int (i)), some (.int (w)), some (.int (x)), none]) (st1 := [.int (w), .int (i), .ref 59]) rfl ?_
  refine Wp.invV (d2 := 1) (as := [.ref 59, .int (i), .int (w)]) (r := []) (t := (11, 0)) rfl rfl rfl rfl (WF.t hw 59 rfl) rfl rfl ⟨rfl, rfl⟩ (by omega) (s_isRow hw hR h20 (Nat.le_refl _) ?_)
  show Wp d 262 6 [some (.ref 59), some (.int (i)), some (.int (w)), some (.int (x)), none] [.int (b32 (rwB R i w))] h Q
  refine Wp.ifnz rfl (fun c1 => absurd (c1.symm.trans (qq)) (by decide)) (fun c1 => ?_)
  refine Wp.seg 1 (pc1 := 11) (ls1 := [some (.ref 59), some (.int (i)), some (.int (w)), some (.int (x)), none]) (st1 := [.int (-9)]) rfl ?_
  exact Wp.reti rfl rfl hQ
set_option maxHeartbeats 4000000 in
theorem t_calt1 {d : Nat} {Q : KO → Prop} {h : KH} (hw : WF h) {R k q : Nat} (hR : R ≤ 4) (hk : k < 4) (hq : q < 3) {x : Int32} (h7 : h.2.2.1 0 7 = Int32.ofNat R) (qq : rwB R (Int32.ofNat k) (Int32.ofNat q) = true) (hd : 1 ≤ d) (hQ : Q (some (.int (h.2.2.1 (34 + k) q)), kwi h (34 + k) q x)) : Cl d 144 [.ref 0, .int (Int32.ofNat k), .int (Int32.ofNat q), .int (x)] h Q := by
  refine Cl.of (ls := [some (.ref 0), some (.int (Int32.ofNat k)), some (.int (Int32.ofNat q)), some (.int (x)), none]) rfl rfl ?_
  refine Wp.seg 3 (pc1 := 3) (ls1 := [some (.ref 0), some (.int (Int32.ofNat k)), some (.int (Int32.ofNat q)), some (.int (x)), none]) (st1 := [.int (Int32.ofNat q), .int (Int32.ofNat k), .ref 0]) rfl ?_
  refine Wp.invV (d2 := 0) (as := [.ref 0, .int (Int32.ofNat k), .int (Int32.ofNat q)]) (r := []) (t := (10, 0)) rfl rfl rfl rfl (WF.t hw 0 rfl) rfl rfl ⟨rfl, rfl⟩ (by omega) (s_inRow hw hR h7 ?_)
  show Wp d 144 6 [some (.ref 0), some (.int (Int32.ofNat k)), some (.int (Int32.ofNat q)), some (.int (x)), none] [.int (b32 (rwB R (Int32.ofNat k) (Int32.ofNat q)))] h Q
  refine Wp.ifnz rfl (fun c1 => ?_) (fun c1 => absurd (c1.symm.trans (qq)) (by decide))
  refine Wp.seg 1 (pc1 := 13) (ls1 := [some (.ref 0), some (.int (Int32.ofNat k)), some (.int (Int32.ofNat q)), some (.int (x)), none]) (st1 := [.ref 0]) rfl ?_
  refine Wp.gr (t := (10, 0)) (v := some (33)) rfl (WF.t hw 0 rfl) rfl (WF.r hw 0 6 5 rfl) ?_
  show Wp d 144 16 [some (.ref 0), some (.int (Int32.ofNat k)), some (.int (Int32.ofNat q)), some (.int (x)), none] [.ref 33] h Q
  refine Wp.seg 1 (pc1 := 17) (ls1 := [some (.ref 0), some (.int (Int32.ofNat k)), some (.int (Int32.ofNat q)), some (.int (x)), none]) (st1 := [.int (Int32.ofNat k), .ref 33]) rfl ?_
  refine Wp.aald (j := k) (k := 26) (n := 4) (v := some (34 + k)) rfl (WF.t hw 33 rfl) rfl rfl hk (by decide) (row_r hw hk) ?_
  show Wp d 144 18 [some (.ref 0), some (.int (Int32.ofNat k)), some (.int (Int32.ofNat q)), some (.int (x)), none] [.ref (34 + k)] h Q
  refine Wp.seg 1 (pc1 := 19) (ls1 := [some (.ref 0), some (.int (Int32.ofNat k)), some (.int (Int32.ofNat q)), some (.int (x)), none]) (st1 := [.int (Int32.ofNat q), .ref (34 + k)]) rfl ?_
  refine Wp.iald (j := q) (k := 20) (n := 3) rfl (row_t hw hk) rfl rfl hq (by decide) ?_
  refine Wp.seg 2 (pc1 := 23) (ls1 := [some (.ref 0), some (.int (Int32.ofNat k)), some (.int (Int32.ofNat q)), some (.int (x)), some (.int (h.2.2.1 (34 + k) q))]) (st1 := [.ref 0]) rfl ?_
  refine Wp.gr (t := (10, 0)) (v := some (33)) rfl (WF.t hw 0 rfl) rfl (WF.r hw 0 6 5 rfl) ?_
  show Wp d 144 26 [some (.ref 0), some (.int (Int32.ofNat k)), some (.int (Int32.ofNat q)), some (.int (x)), some (.int (h.2.2.1 (34 + k) q))] [.ref 33] h Q
  refine Wp.seg 1 (pc1 := 27) (ls1 := [some (.ref 0), some (.int (Int32.ofNat k)), some (.int (Int32.ofNat q)), some (.int (x)), some (.int (h.2.2.1 (34 + k) q))]) (st1 := [.int (Int32.ofNat k), .ref 33]) rfl ?_
  refine Wp.aald (j := k) (k := 26) (n := 4) (v := some (34 + k)) rfl (WF.t hw 33 rfl) rfl rfl hk (by decide) (row_r hw hk) ?_
  show Wp d 144 28 [some (.ref 0), some (.int (Int32.ofNat k)), some (.int (Int32.ofNat q)), some (.int (x)), some (.int (h.2.2.1 (34 + k) q))] [.ref (34 + k)] h Q
  refine Wp.seg 2 (pc1 := 30) (ls1 := [some (.ref 0), some (.int (Int32.ofNat k)), some (.int (Int32.ofNat q)), some (.int (x)), some (.int (h.2.2.1 (34 + k) q))]) (st1 := [.int (x), .int (Int32.ofNat q), .ref (34 + k)]) rfl ?_
  refine Wp.iast (j := q) (n := 3) rfl (row_t hw hk) rfl hq (by decide) ?_
  refine Wp.seg 1 (pc1 := 33) (ls1 := [some (.ref 0), some (.int (Int32.ofNat k)), some (.int (Int32.ofNat q)), some (.int (x)), some (.int (h.2.2.1 (34 + k) q))]) (st1 := [.int (h.2.2.1 (34 + k) q)]) rfl ?_
  exact Wp.reti rfl rfl hQ
set_option maxHeartbeats 4000000 in
theorem t_malt1 {d : Nat} {Q : KO → Prop} {h : KH} (hw : WF h) {R k q : Nat} (hR : R ≤ 4) (hk : k < 4) (hq : q < 3) {x : Int32} (h20 : h.2.2.1 59 20 = Int32.ofNat R) (qq : rwB R (Int32.ofNat k) (Int32.ofNat q) = true) (hd : 2 ≤ d) (hQ : Q (some (.int (h.2.2.1 67 ((3 * k + q)))), kwi h 67 ((3 * k + q)) x)) : Cl d 262 [.ref 59, .int (Int32.ofNat k), .int (Int32.ofNat q), .int (x)] h Q := by
  refine Cl.of (ls := [some (.ref 59), some (.int (Int32.ofNat k)), some (.int (Int32.ofNat q)), some (.int (x)), none]) rfl rfl ?_
  refine Wp.seg 3 (pc1 := 3) (ls1 := [some (.ref 59), some (.int (Int32.ofNat k)), some (.int (Int32.ofNat q)), some (.int (x)), none]) (st1 := [.int (Int32.ofNat q), .int (Int32.ofNat k), .ref 59]) rfl ?_
  refine Wp.invV (d2 := 1) (as := [.ref 59, .int (Int32.ofNat k), .int (Int32.ofNat q)]) (r := []) (t := (11, 0)) rfl rfl rfl rfl (WF.t hw 59 rfl) rfl rfl ⟨rfl, rfl⟩ (by omega) (s_isRow hw hR h20 (Nat.le_refl _) ?_)
  show Wp d 262 6 [some (.ref 59), some (.int (Int32.ofNat k)), some (.int (Int32.ofNat q)), some (.int (x)), none] [.int (b32 (rwB R (Int32.ofNat k) (Int32.ofNat q)))] h Q
  refine Wp.ifnz rfl (fun c1 => ?_) (fun c1 => absurd (c1.symm.trans (qq)) (by decide))
  refine Wp.seg 1 (pc1 := 13) (ls1 := [some (.ref 59), some (.int (Int32.ofNat k)), some (.int (Int32.ofNat q)), some (.int (x)), none]) (st1 := [.ref 59]) rfl ?_
  refine Wp.gr (t := (11, 0)) (v := some (67)) rfl (WF.t hw 59 rfl) rfl (WF.r hw 59 21 65 rfl) ?_
  show Wp d 262 16 [some (.ref 59), some (.int (Int32.ofNat k)), some (.int (Int32.ofNat q)), some (.int (x)), none] [.ref 67] h Q
  refine Wp.seg 5 (pc1 := 21) (ls1 := [some (.ref 59), some (.int (Int32.ofNat k)), some (.int (Int32.ofNat q)), some (.int (x)), none]) (st1 := [.int (((3 : Int32) * (Int32.ofNat k)) + (Int32.ofNat q)), .ref 67]) rfl ?_
  refine Wp.iald (j := (3 * k + q)) (k := 20) (n := 12) rfl (WF.t hw 67 rfl) rfl (three k q) (by omega) (by decide) ?_
  refine Wp.seg 2 (pc1 := 25) (ls1 := [some (.ref 59), some (.int (Int32.ofNat k)), some (.int (Int32.ofNat q)), some (.int (x)), some (.int (h.2.2.1 67 ((3 * k + q))))]) (st1 := [.ref 59]) rfl ?_
  refine Wp.gr (t := (11, 0)) (v := some (67)) rfl (WF.t hw 59 rfl) rfl (WF.r hw 59 21 65 rfl) ?_
  show Wp d 262 28 [some (.ref 59), some (.int (Int32.ofNat k)), some (.int (Int32.ofNat q)), some (.int (x)), some (.int (h.2.2.1 67 ((3 * k + q))))] [.ref 67] h Q
  refine Wp.seg 6 (pc1 := 34) (ls1 := [some (.ref 59), some (.int (Int32.ofNat k)), some (.int (Int32.ofNat q)), some (.int (x)), some (.int (h.2.2.1 67 ((3 * k + q))))]) (st1 := [.int (x), .int (((3 : Int32) * (Int32.ofNat k)) + (Int32.ofNat q)), .ref 67]) rfl ?_
  refine Wp.iast (j := (3 * k + q)) (n := 12) rfl (WF.t hw 67 rfl) (three k q) (by omega) (by decide) ?_
  refine Wp.seg 1 (pc1 := 37) (ls1 := [some (.ref 59), some (.int (Int32.ofNat k)), some (.int (Int32.ofNat q)), some (.int (x)), some (.int (h.2.2.1 67 ((3 * k + q))))]) (st1 := [.int (h.2.2.1 67 ((3 * k + q)))]) rfl ?_
  exact Wp.reti rfl rfl hQ
theorem rwB_lt {R : Nat} {i w : Int32} (hR : R ≤ 4) (h : rwB R i w = true) : ∃ k q, k < 4 ∧ q < 3 ∧ i = Int32.ofNat k ∧ w = Int32.ofNat q := by
  unfold rwB at h
  rw [Bool.and_eq_true] at h
  obtain ⟨k, hk, rfl⟩ := inB_lt h.1
  obtain ⟨q, hq, rfl⟩ := inB_nat (b := 2) h.2
  exact ⟨k, q, by omega, by omega, rfl, rfl⟩
theorem J_row {h : KH} (hi : Inv h) (i w : Int32) : JI h 143 [.ref 0, .int i, .int w] 261 [.ref 59, .int i, .int w] := by
  have hw := hi.1
  obtain ⟨R, hR, h7, h20, hr⟩ := hi.2.2.1.2.2.1
  rcases hq : rwB R i w with _ | _
  · exact JI_same (dc := 1) (dm := 2) hi (t_crow0 hw hR h7 hq (Nat.le_refl _) rfl) (t_mrow0 hw hR h20 hq (Nat.le_refl _) rfl)
  obtain ⟨k, q, hk, hq3, rfl, rfl⟩ := rwB_lt hR hq
  refine JI_same (v := h.2.2.1 (34 + k) q) (dc := 1) (dm := 2) hi (t_crow1 hw hR hk hq3 h7 hq (Nat.le_refl _) rfl) (t_mrow1 hw hR hk hq3 h20 hq (Nat.le_refl _) ?_)
  rw [hr k q hk hq3]
theorem J_alter {h : KH} (hi : Inv h) (i w x : Int32) : JI h 144 [.ref 0, .int i, .int w, .int x] 262 [.ref 59, .int i, .int w, .int x] := by
  have hw := hi.1
  obtain ⟨R, hR, h7, h20, hr⟩ := hi.2.2.1.2.2.1
  rcases hq : rwB R i w with _ | _
  · exact JI_same (dc := 1) (dm := 2) hi (t_calt0 hw hR h7 hq (Nat.le_refl _) rfl) (t_malt0 hw hR h20 hq (Nat.le_refl _) rfl)
  obtain ⟨k, q, hk, hq3, rfl, rfl⟩ := rwB_lt hR hq
  have f1 : Fr (fun c => c = 34 + k ∨ c = 67) noP h (kwi h (34 + k) q x) := fr_kwi (Or.inl rfl) (by omega)
  have f2 : Fr (fun c => c = 34 + k ∨ c = 67) noP (kwi h (34 + k) q x) (kwi (kwi h (34 + k) q x) 67 (3 * k + q) x) := fr_kwi (Or.inr rfl) (by decide)
  have ff := f1.trans f2
  refine ⟨h.2.2.1 (34 + k) q, t_calt1 hw hR hk hq3 h7 hq (by decide) ⟨_, rfl, t_malt1 (f1.wf hw (fun z => z)) hR hk hq3 (by rw [kwi_r (by omega)]; exact h20) hq (by decide) ⟨kwi (kwi h (34 + k) q x) 67 (3 * k + q) x, ?_, ?_, ?_, ?_, far_fr ff⟩⟩⟩
  · rw [kwi_r (by omega : (67 : Nat) ≠ 34 + k), ← hr k q hk hq3]
  · have ho := hi.2.2.1
    have e0 : (kwi (kwi h (34 + k) q x) 67 (3 * k + q) x).2.2.1 0 = h.2.2.1 0 := ff.2.2.1 0 (Or.inl (by omega))
    have e59 : (kwi (kwi h (34 + k) q x) 67 (3 * k + q) x).2.2.1 59 = h.2.2.1 59 := ff.2.2.1 59 (Or.inl (by omega))
    refine inv_of (J := h.2.2.2.1) hi ff (by omega) (by rw [e0]) (by rw [e59]) ?_ ⟨R, hR, by rw [e0]; exact h7, by rw [e59]; exact h20, fun k2 w2 hk2 hw2 => ?_⟩ (fun t ht => ?_) (fun t ht => ?_) ?_
    · obtain ⟨T, hT⟩ := ho.2.1
      exact ⟨T, tape_fr hT ff (by omega) (by rw [e59])⟩
    · by_cases e : k2 = k
      · subst e
        rw [kwi_r (by omega)]
        by_cases e2 : w2 = q
        · subst e2
          rw [kwi_s, kwi_s]
        · rw [kwi_o e2, kwi_o (by omega), kwi_r (by omega)]
          exact hr k2 w2 hk2 hw2
      · rw [kwi_r (by omega), kwi_r (by omega), kwi_o (by omega), kwi_r (by omega)]
        exact hr k2 w2 hk2 hw2
    · exact sheet_fr ht (ho.2.2.2.1 t ht) ff (by omega)
    · exact shelf_fr (ho.2.2.2.2.1 t ht) ff (by omega)
    · exact trace_fr ho.2.2.2.2.2 ff (by omega) (by rw [e59])
  · exact Nat.le_add_right _ _
  · exact Nat.le_add_right _ _
