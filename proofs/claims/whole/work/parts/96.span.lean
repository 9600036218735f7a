/-! KM: both sides: span, liar -/
theorem i_w0 (RP : List (Nat × Nat × Nat)) (hl : RP.length ≤ 6) (s : Nat) : bits6 (wrT s 16 RP) = 0 ↔ fitM RP (-1) s = true := by
  unfold fitM
  rw [bits6_z, scanG_iff]
  refine ⟨fun h j _ hj => ?_, fun h j hj => ?_⟩
  · unfold okW
    rw [h j (by omega)]
    exact Bool.or_true _
  · by_cases e : j < RP.length
    · have := h j (Nat.zero_le _) (by omega)
      unfold okW at this
      rw [decide_eq_false (fun z => by
        have := congrArg Int32.toInt z
        rw [znat (n := j) (by omega)] at this
        have : (j : Int) = -1 := this
        omega), Bool.false_or] at this
      cases h2 : wrT s 16 RP j with
      | false => rfl
      | true => rw [h2] at this; cases this
    · unfold wrT
      rw [rget_ge RP (by omega)]
def iw : Nat → Int32
  | 0 => -1
  | i + 1 => Int32.ofNat i
theorem iw_eq : ∀ i, i < 241 → Int32.ofNat i + (-1) = iw i := by decide +kernel
theorem nlt {s : Nat} (h : s < 240) : ¬ (Int32.ofNat s < 0) := fun c => by
  have := i32T (znat (n := s) (by omega)) (show (0 : Int32).toInt = 0 from rfl) c
  omega
set_option maxHeartbeats 4000000 in
theorem t_csp1 {d : Nat} {Q : KO → Prop} {h : KH} (hw : WF h) {v : Int32} (hd : 2 ≤ d) (hQ : (v < 0 → Q (some (.int (-1)), h)) ∧ (¬ (v < 0) → (v ≤ (3 : Int32) → Wp d 133 11 ([some (.ref 0), some (.int (v)), none, none, none]) [] h Q) ∧ (¬ (v ≤ (3 : Int32)) → Q (some (.int (-1)), h)))) : Cl d 133 [.ref 0, .int (v)] h Q := by
  refine Cl.of (ls := [some (.ref 0), some (.int (v)), none, none, none]) rfl rfl ?_
  refine Wp.seg 1 (pc1 := 1) (ls1 := [some (.ref 0), some (.int (v)), none, none, none]) (st1 := [.int (v)]) rfl ?_
  refine Wp.if1 rfl (fun (c1 : v < 0) => ?_) (fun (c1 : ¬ (v < 0)) => ?_)
  · refine Wp.seg 1 (pc1 := 10) (ls1 := [some (.ref 0), some (.int (v)), none, none, none]) (st1 := [.int (-1)]) rfl ?_
    exact Wp.reti rfl rfl (hQ.1 c1)
  · refine Wp.seg 2 (pc1 := 6) (ls1 := [some (.ref 0), some (.int (v)), none, none, none]) (st1 := [.int (3), .int (v)]) rfl ?_
    refine Wp.if2 rfl (fun (c2 : v ≤ (3 : Int32)) => ?_) (fun (c2 : ¬ (v ≤ (3 : Int32))) => ?_)
    · exact ((hQ.2 c1).1 c2)
    · refine Wp.seg 1 (pc1 := 10) (ls1 := [some (.ref 0), some (.int (v)), none, none, none]) (st1 := [.int (-1)]) rfl ?_
      exact Wp.reti rfl rfl ((hQ.2 c1).2 c2)
set_option maxHeartbeats 4000000 in
theorem t_csa0 {d : Nat} {Q : KO → Prop} {h : KH} (hw : WF h) (hd : 2 ≤ d) (hQ : Wp d 133 20 ([some (.ref 0), some (.int (0)), some (.int (0)), some (.int (0)), some (.int (239))]) [] h Q) : Cl d 133 [.ref 0, .int (0)] h Q := by
  refine Cl.of (ls := [some (.ref 0), some (.int (0)), none, none, none]) rfl rfl ?_
  refine Wp.seg 1 (pc1 := 1) (ls1 := [some (.ref 0), some (.int (0)), none, none, none]) (st1 := [.int (0)]) rfl ?_
  refine Wp.if1 rfl (fun c1 => absurd c1 (show ¬ ((0 : Int32) < 0) by decide)) (fun c1 => ?_)
  refine Wp.seg 2 (pc1 := 6) (ls1 := [some (.ref 0), some (.int (0)), none, none, none]) (st1 := [.int (3), .int (0)]) rfl ?_
  refine Wp.if2 rfl (fun c2 => ?_) (fun c2 => absurd (show (0 : Int32) ≤ (3 : Int32) by decide) c2)
  refine Wp.seg 6 (pc1 := 20) (ls1 := [some (.ref 0), some (.int (0)), some (.int (0)), some (.int (0)), some (.int (239))]) (st1 := []) rfl ?_
  exact hQ
set_option maxHeartbeats 4000000 in
theorem t_csz0 {d : Nat} {Q : KO → Prop} {h : KH} (hw : WF h) {x : Int32} {s : Nat} (hs : s < 240) (hd : 2 ≤ d) (hQ : Q (some (.int (x)), h)) : Wp d 133 20 [some (.ref 0), some (.int (0)), some (.int (x)), some (.int (Int32.ofNat s)), some (.int (-1))] [] h Q := by
  refine Wp.seg 1 (pc1 := 22) (ls1 := [some (.ref 0), some (.int (0)), some (.int (x)), some (.int (Int32.ofNat s)), some (.int (-1))]) (st1 := [.int (-1)]) rfl ?_
  refine Wp.if1 rfl (fun c1 => ?_) (fun c1 => absurd (show (-1 : Int32) < 0 by decide) c1)
  refine Wp.seg 1 (pc1 := 47) (ls1 := [some (.ref 0), some (.int (0)), some (.int (x)), some (.int (Int32.ofNat s)), some (.int (-1))]) (st1 := [.int (0)]) rfl ?_
  refine Wp.if1 rfl (fun c2 => absurd c2 (show ¬ (¬ (0 : Int32) = 0) by decide)) (fun c2 => ?_)
  refine Wp.seg 1 (pc1 := 51) (ls1 := [some (.ref 0), some (.int (0)), some (.int (x)), some (.int (Int32.ofNat s)), some (.int (-1))]) (st1 := [.int (x)]) rfl ?_
  exact Wp.reti rfl rfl hQ
set_option maxHeartbeats 4000000 in
theorem t_csa1 {d : Nat} {Q : KO → Prop} {h : KH} (hw : WF h) (hd : 2 ≤ d) (hQ : Wp d 133 20 ([some (.ref 0), some (.int (1)), some (.int (0)), some (.int (0)), some (.int (239))]) [] h Q) : Cl d 133 [.ref 0, .int (1)] h Q := by
  refine Cl.of (ls := [some (.ref 0), some (.int (1)), none, none, none]) rfl rfl ?_
  refine Wp.seg 1 (pc1 := 1) (ls1 := [some (.ref 0), some (.int (1)), none, none, none]) (st1 := [.int (1)]) rfl ?_
  refine Wp.if1 rfl (fun c1 => absurd c1 (show ¬ ((1 : Int32) < 0) by decide)) (fun c1 => ?_)
  refine Wp.seg 2 (pc1 := 6) (ls1 := [some (.ref 0), some (.int (1)), none, none, none]) (st1 := [.int (3), .int (1)]) rfl ?_
  refine Wp.if2 rfl (fun c2 => ?_) (fun c2 => absurd (show (1 : Int32) ≤ (3 : Int32) by decide) c2)
  refine Wp.seg 6 (pc1 := 20) (ls1 := [some (.ref 0), some (.int (1)), some (.int (0)), some (.int (0)), some (.int (239))]) (st1 := []) rfl ?_
  exact hQ
set_option maxHeartbeats 4000000 in
theorem t_csz1 {d : Nat} {Q : KO → Prop} {h : KH} (hw : WF h) {x : Int32} {s : Nat} (hs : s < 240) (hd : 2 ≤ d) (hQ : (¬ x = 0 → Q (some (.int (Int32.ofNat (1 + s / 48))), h)) ∧ (¬ (¬ x = 0) → Q (some (.int (-3)), h))) : Wp d 133 20 [some (.ref 0), some (.int (1)), some (.int (x)), some (.int (Int32.ofNat s)), some (.int (-1))] [] h Q := by
  refine Wp.seg 1 (pc1 := 22) (ls1 := [some (.ref 0), some (.int (1)), some (.int (x)), some (.int (Int32.ofNat s)), some (.int (-1))]) (st1 := [.int (-1)]) rfl ?_
  refine Wp.if1 rfl (fun c1 => ?_) (fun c1 => absurd (show (-1 : Int32) < 0 by decide) c1)
  refine Wp.seg 1 (pc1 := 47) (ls1 := [some (.ref 0), some (.int (1)), some (.int (x)), some (.int (Int32.ofNat s)), some (.int (-1))]) (st1 := [.int (1)]) rfl ?_
  refine Wp.if1 rfl (fun c2 => ?_) (fun c2 => absurd (show ¬ (1 : Int32) = 0 by decide) c2)
  refine Wp.seg 1 (pc1 := 53) (ls1 := [some (.ref 0), some (.int (1)), some (.int (x)), some (.int (Int32.ofNat s)), some (.int (-1))]) (st1 := [.int (x)]) rfl ?_
  refine Wp.if1 rfl (fun (c3 : ¬ x = 0) => ?_) (fun (c3 : ¬ (¬ x = 0)) => ?_)
  · refine Wp.seg 2 (pc1 := 61) (ls1 := [some (.ref 0), some (.int (1)), some (.int (x)), some (.int (Int32.ofNat s)), some (.int (-1))]) (st1 := [.int (1), .int (1)]) rfl ?_
    refine Wp.if2 rfl (fun c4 => absurd c4 (show ¬ (¬ (1 : Int32) = (1 : Int32)) by decide)) (fun c4 => ?_)
    refine Wp.seg 1 (pc1 := 65) (ls1 := [some (.ref 0), some (.int (1)), some (.int (x)), some (.int (Int32.ofNat s)), some (.int (-1))]) (st1 := [.int (Int32.ofNat s)]) rfl ?_
    refine Wp.inv (d2 := 0) (as := [.int (Int32.ofNat s)]) (r := []) rfl rfl rfl rfl rfl rfl (by omega) (s_sK1 hs ?_)
    show Wp d 133 68 [some (.ref 0), some (.int (1)), some (.int (x)), some (.int (Int32.ofNat s)), some (.int (-1))] [.int (Int32.ofNat (1 + s / 48))] h Q
    refine Wp.seg 1 (pc1 := 87) (ls1 := [some (.ref 0), some (.int (1)), some (.int (x)), some (.int (Int32.ofNat s)), some (.int (-1))]) (st1 := [.int (Int32.ofNat (1 + s / 48))]) rfl ?_
    exact Wp.reti rfl rfl (hQ.1 c3)
  · refine Wp.seg 1 (pc1 := 58) (ls1 := [some (.ref 0), some (.int (1)), some (.int (x)), some (.int (Int32.ofNat s)), some (.int (-1))]) (st1 := [.int (-3)]) rfl ?_
    exact Wp.reti rfl rfl (hQ.2 c3)
set_option maxHeartbeats 4000000 in
theorem t_csa2 {d : Nat} {Q : KO → Prop} {h : KH} (hw : WF h) (hd : 2 ≤ d) (hQ : Wp d 133 20 ([some (.ref 0), some (.int (2)), some (.int (0)), some (.int (0)), some (.int (239))]) [] h Q) : Cl d 133 [.ref 0, .int (2)] h Q := by
  refine Cl.of (ls := [some (.ref 0), some (.int (2)), none, none, none]) rfl rfl ?_
  refine Wp.seg 1 (pc1 := 1) (ls1 := [some (.ref 0), some (.int (2)), none, none, none]) (st1 := [.int (2)]) rfl ?_
  refine Wp.if1 rfl (fun c1 => absurd c1 (show ¬ ((2 : Int32) < 0) by decide)) (fun c1 => ?_)
  refine Wp.seg 2 (pc1 := 6) (ls1 := [some (.ref 0), some (.int (2)), none, none, none]) (st1 := [.int (3), .int (2)]) rfl ?_
  refine Wp.if2 rfl (fun c2 => ?_) (fun c2 => absurd (show (2 : Int32) ≤ (3 : Int32) by decide) c2)
  refine Wp.seg 6 (pc1 := 20) (ls1 := [some (.ref 0), some (.int (2)), some (.int (0)), some (.int (0)), some (.int (239))]) (st1 := []) rfl ?_
  exact hQ
set_option maxHeartbeats 4000000 in
theorem t_csz2 {d : Nat} {Q : KO → Prop} {h : KH} (hw : WF h) {x : Int32} {s : Nat} (hs : s < 240) (hd : 2 ≤ d) (hQ : (¬ x = 0 → Q (some (.int (Int32.ofNat (s / 4 % 12))), h)) ∧ (¬ (¬ x = 0) → Q (some (.int (-3)), h))) : Wp d 133 20 [some (.ref 0), some (.int (2)), some (.int (x)), some (.int (Int32.ofNat s)), some (.int (-1))] [] h Q := by
  refine Wp.seg 1 (pc1 := 22) (ls1 := [some (.ref 0), some (.int (2)), some (.int (x)), some (.int (Int32.ofNat s)), some (.int (-1))]) (st1 := [.int (-1)]) rfl ?_
  refine Wp.if1 rfl (fun c1 => ?_) (fun c1 => absurd (show (-1 : Int32) < 0 by decide) c1)
  refine Wp.seg 1 (pc1 := 47) (ls1 := [some (.ref 0), some (.int (2)), some (.int (x)), some (.int (Int32.ofNat s)), some (.int (-1))]) (st1 := [.int (2)]) rfl ?_
  refine Wp.if1 rfl (fun c2 => ?_) (fun c2 => absurd (show ¬ (2 : Int32) = 0 by decide) c2)
  refine Wp.seg 1 (pc1 := 53) (ls1 := [some (.ref 0), some (.int (2)), some (.int (x)), some (.int (Int32.ofNat s)), some (.int (-1))]) (st1 := [.int (x)]) rfl ?_
  refine Wp.if1 rfl (fun (c3 : ¬ x = 0) => ?_) (fun (c3 : ¬ (¬ x = 0)) => ?_)
  · refine Wp.seg 2 (pc1 := 61) (ls1 := [some (.ref 0), some (.int (2)), some (.int (x)), some (.int (Int32.ofNat s)), some (.int (-1))]) (st1 := [.int (1), .int (2)]) rfl ?_
    refine Wp.if2 rfl (fun c4 => ?_) (fun c4 => absurd (show ¬ (2 : Int32) = (1 : Int32) by decide) c4)
    refine Wp.seg 2 (pc1 := 73) (ls1 := [some (.ref 0), some (.int (2)), some (.int (x)), some (.int (Int32.ofNat s)), some (.int (-1))]) (st1 := [.int (2), .int (2)]) rfl ?_
    refine Wp.if2 rfl (fun c5 => absurd c5 (show ¬ (¬ (2 : Int32) = (2 : Int32)) by decide)) (fun c5 => ?_)
    refine Wp.seg 1 (pc1 := 77) (ls1 := [some (.ref 0), some (.int (2)), some (.int (x)), some (.int (Int32.ofNat s)), some (.int (-1))]) (st1 := [.int (Int32.ofNat s)]) rfl ?_
    refine Wp.inv (d2 := 0) (as := [.int (Int32.ofNat s)]) (r := []) rfl rfl rfl rfl rfl rfl (by omega) (s_sK2 hs ?_)
    show Wp d 133 80 [some (.ref 0), some (.int (2)), some (.int (x)), some (.int (Int32.ofNat s)), some (.int (-1))] [.int (Int32.ofNat (s / 4 % 12))] h Q
    refine Wp.seg 1 (pc1 := 87) (ls1 := [some (.ref 0), some (.int (2)), some (.int (x)), some (.int (Int32.ofNat s)), some (.int (-1))]) (st1 := [.int (Int32.ofNat (s / 4 % 12))]) rfl ?_
    exact Wp.reti rfl rfl (hQ.1 c3)
  · refine Wp.seg 1 (pc1 := 58) (ls1 := [some (.ref 0), some (.int (2)), some (.int (x)), some (.int (Int32.ofNat s)), some (.int (-1))]) (st1 := [.int (-3)]) rfl ?_
    exact Wp.reti rfl rfl (hQ.2 c3)
set_option maxHeartbeats 4000000 in
theorem t_csa3 {d : Nat} {Q : KO → Prop} {h : KH} (hw : WF h) (hd : 2 ≤ d) (hQ : Wp d 133 20 ([some (.ref 0), some (.int (3)), some (.int (0)), some (.int (0)), some (.int (239))]) [] h Q) : Cl d 133 [.ref 0, .int (3)] h Q := by
  refine Cl.of (ls := [some (.ref 0), some (.int (3)), none, none, none]) rfl rfl ?_
  refine Wp.seg 1 (pc1 := 1) (ls1 := [some (.ref 0), some (.int (3)), none, none, none]) (st1 := [.int (3)]) rfl ?_
  refine Wp.if1 rfl (fun c1 => absurd c1 (show ¬ ((3 : Int32) < 0) by decide)) (fun c1 => ?_)
  refine Wp.seg 2 (pc1 := 6) (ls1 := [some (.ref 0), some (.int (3)), none, none, none]) (st1 := [.int (3), .int (3)]) rfl ?_
  refine Wp.if2 rfl (fun c2 => ?_) (fun c2 => absurd (show (3 : Int32) ≤ (3 : Int32) by decide) c2)
  refine Wp.seg 6 (pc1 := 20) (ls1 := [some (.ref 0), some (.int (3)), some (.int (0)), some (.int (0)), some (.int (239))]) (st1 := []) rfl ?_
  exact hQ
set_option maxHeartbeats 4000000 in
theorem t_csz3 {d : Nat} {Q : KO → Prop} {h : KH} (hw : WF h) {x : Int32} {s : Nat} (hs : s < 240) (hd : 2 ≤ d) (hQ : (¬ x = 0 → Q (some (.int (Int32.ofNat (s % 4))), h)) ∧ (¬ (¬ x = 0) → Q (some (.int (-3)), h))) : Wp d 133 20 [some (.ref 0), some (.int (3)), some (.int (x)), some (.int (Int32.ofNat s)), some (.int (-1))] [] h Q := by
  refine Wp.seg 1 (pc1 := 22) (ls1 := [some (.ref 0), some (.int (3)), some (.int (x)), some (.int (Int32.ofNat s)), some (.int (-1))]) (st1 := [.int (-1)]) rfl ?_
  refine Wp.if1 rfl (fun c1 => ?_) (fun c1 => absurd (show (-1 : Int32) < 0 by decide) c1)
  refine Wp.seg 1 (pc1 := 47) (ls1 := [some (.ref 0), some (.int (3)), some (.int (x)), some (.int (Int32.ofNat s)), some (.int (-1))]) (st1 := [.int (3)]) rfl ?_
  refine Wp.if1 rfl (fun c2 => ?_) (fun c2 => absurd (show ¬ (3 : Int32) = 0 by decide) c2)
  refine Wp.seg 1 (pc1 := 53) (ls1 := [some (.ref 0), some (.int (3)), some (.int (x)), some (.int (Int32.ofNat s)), some (.int (-1))]) (st1 := [.int (x)]) rfl ?_
  refine Wp.if1 rfl (fun (c3 : ¬ x = 0) => ?_) (fun (c3 : ¬ (¬ x = 0)) => ?_)
  · refine Wp.seg 2 (pc1 := 61) (ls1 := [some (.ref 0), some (.int (3)), some (.int (x)), some (.int (Int32.ofNat s)), some (.int (-1))]) (st1 := [.int (1), .int (3)]) rfl ?_
    refine Wp.if2 rfl (fun c4 => ?_) (fun c4 => absurd (show ¬ (3 : Int32) = (1 : Int32) by decide) c4)
    refine Wp.seg 2 (pc1 := 73) (ls1 := [some (.ref 0), some (.int (3)), some (.int (x)), some (.int (Int32.ofNat s)), some (.int (-1))]) (st1 := [.int (2), .int (3)]) rfl ?_
    refine Wp.if2 rfl (fun c5 => ?_) (fun c5 => absurd (show ¬ (3 : Int32) = (2 : Int32) by decide) c5)
    refine Wp.seg 1 (pc1 := 84) (ls1 := [some (.ref 0), some (.int (3)), some (.int (x)), some (.int (Int32.ofNat s)), some (.int (-1))]) (st1 := [.int (Int32.ofNat s)]) rfl ?_
    refine Wp.inv (d2 := 0) (as := [.int (Int32.ofNat s)]) (r := []) rfl rfl rfl rfl rfl rfl (by omega) (s_sK3 hs ?_)
    show Wp d 133 87 [some (.ref 0), some (.int (3)), some (.int (x)), some (.int (Int32.ofNat s)), some (.int (-1))] [.int (Int32.ofNat (s % 4))] h Q
    exact Wp.reti rfl rfl (hQ.1 c3)
  · refine Wp.seg 1 (pc1 := 58) (ls1 := [some (.ref 0), some (.int (3)), some (.int (x)), some (.int (Int32.ofNat s)), some (.int (-1))]) (st1 := [.int (-3)]) rfl ?_
    exact Wp.reti rfl rfl (hQ.2 c3)
set_option maxHeartbeats 4000000 in
theorem t_csp2 {d : Nat} {Q : KO → Prop} {h : KH} (hw : WF h) {RP : List (Nat × Nat × Nat)} (hc : crep h RP (h.2.1 1 11)) (hl : RP.length ≤ 6) (hx : ∀ x ∈ RP, x.1 < 16 ∧ x.2.1 < 12 ∧ x.2.2 < 12) {v x y : Int32} {s : Nat} (hs : s < 240) (hd : 2 ≤ d) (hQ : (¬ (bits6 (wrT s 16 RP)) = 0 → Wp d 133 20 ([some (.ref 0), some (.int (v)), some (.int (x)), some (.int (y)), some (.int ((Int32.ofNat s) + (-1)))]) [] h Q) ∧ (¬ (¬ (bits6 (wrT s 16 RP)) = 0) → Wp d 133 20 ([some (.ref 0), some (.int (v)), some (.int (x + 1)), some (.int (Int32.ofNat s)), some (.int ((Int32.ofNat s) + (-1)))]) [] h Q)) : Wp d 133 20 [some (.ref 0), some (.int (v)), some (.int (x)), some (.int (y)), some (.int (Int32.ofNat s))] [] h Q := by
  refine Wp.seg 1 (pc1 := 22) (ls1 := [some (.ref 0), some (.int (v)), some (.int (x)), some (.int (y)), some (.int (Int32.ofNat s))]) (st1 := [.int (Int32.ofNat s)]) rfl ?_
  refine Wp.if1 rfl (fun c1 => absurd c1 (nlt hs)) (fun c1 => ?_)
  refine Wp.seg 2 (pc1 := 28) (ls1 := [some (.ref 0), some (.int (v)), some (.int (x)), some (.int (y)), some (.int (Int32.ofNat s))]) (st1 := [.int (Int32.ofNat s), .ref 0]) rfl ?_
  refine Wp.invV (d2 := 1) (as := [.ref 0, .int (Int32.ofNat s)]) (r := []) (t := (10, 0)) rfl rfl rfl rfl (WF.t hw 0 rfl) rfl rfl ⟨rfl, rfl⟩ (by omega) (s_wrongs hw hs (Nat.le_refl _) hc hl hx ?_)
  show Wp d 133 31 [some (.ref 0), some (.int (v)), some (.int (x)), some (.int (y)), some (.int (Int32.ofNat s))] [.int (bits6 (wrT s 16 RP))] h Q
  refine Wp.if1 rfl (fun (c2 : ¬ (bits6 (wrT s 16 RP)) = 0) => ?_) (fun (c2 : ¬ (¬ (bits6 (wrT s 16 RP)) = 0)) => ?_)
  · refine Wp.seg 2 (pc1 := 20) (ls1 := [some (.ref 0), some (.int (v)), some (.int (x)), some (.int (y)), some (.int ((Int32.ofNat s) + (-1)))]) (st1 := []) rfl ?_
    exact (hQ.1 c2)
  · refine Wp.seg 5 (pc1 := 20) (ls1 := [some (.ref 0), some (.int (v)), some (.int (x + 1)), some (.int (Int32.ofNat s)), some (.int ((Int32.ofNat s) + (-1)))]) (st1 := []) rfl ?_
    exact (hQ.2 c2)
theorem s_cspL {d : Nat} {Q : KO → Prop} {h : KH} (hw : WF h) {RP : List (Nat × Nat × Nat)} (hc : crep h RP (h.2.1 1 11)) (hl : RP.length ≤ 6) (hx : ∀ x ∈ RP, x.1 < 16 ∧ x.2.1 < 12 ∧ x.2.2 < 12) {v : Int32} (hd : 2 ≤ d) (hQ : Wp d 133 20 [some (.ref 0), some (.int v), some (.int (Int32.ofNat (cntF (fitM RP (-1)) 240 0))), some (.int (Int32.ofNat (lstN (fitM RP (-1)) 240 0))), some (.int (-1))] [] h Q) : ∀ i n, i + n = 240 → Wp d 133 20 [some (.ref 0), some (.int v), some (.int (Int32.ofNat (cntF (fitM RP (-1)) n i))), some (.int (Int32.ofNat (lstN (fitM RP (-1)) n i))), some (.int (iw i))] [] h Q := by
  intro i
  induction i with
  | zero =>
    intro n e
    have : n = 240 := by omega
    subst this
    exact hQ
  | succ i ih =>
    intro n e
    have r := ih (n + 1) (by omega)
    unfold cntF lstN at r
    rw [← iw_eq i (by omega)] at r
    refine t_csp2 hw hc hl hx (by omega) hd ⟨fun c => ?_, fun c => ?_⟩
    · have f : ¬ fitM RP (-1) i = true := fun z => c ((i_w0 RP hl i).mpr z)
      rw [if_neg f, if_neg f, Nat.zero_add] at r
      exact r
    · have f : fitM RP (-1) i = true := (i_w0 RP hl i).mp (Classical.not_not.mp c)
      rw [if_pos f, if_pos f] at r
      rw [show Int32.ofNat (cntF (fitM RP (-1)) n (i + 1)) + (1 : Int32) = Int32.ofNat (1 + cntF (fitM RP (-1)) n (i + 1)) by rw [Nat.add_comm 1 (cntF (fitM RP (-1)) n (i + 1))]; exact (Int32.ofNat_add _ 1).symm]
      exact r
theorem J_span {h : KH} (hi : Inv h) (v : Int32) : JI h 133 [.ref 0, .int v] 253 [.ref 59, .int v] := by
  have hw := hi.1
  rcases hq : inB v 0 3 with _ | _
  · refine JI_same (v := -1) (dc := 2) (dm := 3) hi (t_csp1 hw (Nat.le_refl _) ⟨fun _ => rfl, fun c1 => ⟨fun c2 => ?_, fun _ => rfl⟩⟩) (t_msp1 hw hq (Nat.le_refl _) rfl)
    have a1 := i32F (rfl : v.toInt = v.toInt) (show (0 : Int32).toInt = 0 from rfl) c1
    have a2 := i32L (rfl : v.toInt = v.toInt) (show (3 : Int32).toInt = 3 from rfl) c2
    rw [inB_t (by omega)] at hq
    cases hq
  obtain ⟨q, hq3, rfl⟩ := inB_nat (b := 3) hq
  obtain ⟨_, ⟨A, RL, n, c, dn, en, RP, hb, hc, h9, hl, hm⟩, ho, hf⟩ := id hi
  have hx := mrep_rng hm
  have nL := lstN_lt (fitM RP (-1)) 240 0 (by decide)
  have z0 : cntF (fitM RP (-1)) 240 0 ≤ 240 := cntF_le _ _ _
  have cz : Int32.ofNat (cntF (fitM RP (-1)) 240 0) = 0 ↔ cntF (fitM RP (-1)) 240 0 = 0 := by
    refine ⟨fun z => ?_, fun z => by rw [z]; rfl⟩
    have := congrArg Int32.toInt z
    rw [znat (n := cntF (fitM RP (-1)) 240 0) (by omega)] at this
    have : (cntF (fitM RP (-1)) 240 0 : Int) = 0 := this
    omega
  have k := sK_m _ nL
  have lp : ∀ {v : Int32} {Q : KO → Prop}, Wp 2 133 20 [some (.ref 0), some (.int v), some (.int (Int32.ofNat (cntF (fitM RP (-1)) 240 0))), some (.int (Int32.ofNat (lstN (fitM RP (-1)) 240 0))), some (.int (-1))] [] h Q → Wp 2 133 20 [some (.ref 0), some (.int v), some (.int 0), some (.int 0), some (.int 239)] [] h Q := fun {v Q} z => s_cspL hw hc hl hx (Nat.le_refl _) z 240 0 rfl
  have hq4 : q = 0 ∨ q = 1 ∨ q = 2 ∨ q = 3 := by omega
  by_cases e : cntF (fitM RP (-1)) 240 0 = 0
  · have ey : lstF (fitM RP (-1)) 240 0 = -1 := by rw [lstF_eq, if_pos e]
    rcases hq4 with rfl | rfl | rfl | rfl
    · refine JI_same (v := 0) (dc := 2) (dm := 3) hi (t_csa0 hw (Nat.le_refl _) (lp (t_csz0 hw nL (Nat.le_refl _) ?_))) (t_msp2 hw (Nat.le_refl _) (s_mspL hw hl h9 hm (by decide) 240 0 0 rfl ?_))
      · rw [e]; rfl
      · rw [e]; rfl
    · exact JI_same (v := -3) (dc := 2) (dm := 3) hi (t_csa1 hw (Nat.le_refl _) (lp (t_csz1 hw nL (Nat.le_refl _) ⟨fun z => absurd (cz.mpr e) z, fun _ => rfl⟩))) (t_msn1 hw hl h9 hm ey (Nat.le_refl _) rfl)
    · exact JI_same (v := -3) (dc := 2) (dm := 3) hi (t_csa2 hw (Nat.le_refl _) (lp (t_csz2 hw nL (Nat.le_refl _) ⟨fun z => absurd (cz.mpr e) z, fun _ => rfl⟩))) (t_msn2 hw hl h9 hm ey (Nat.le_refl _) rfl)
    · exact JI_same (v := -3) (dc := 2) (dm := 3) hi (t_csa3 hw (Nat.le_refl _) (lp (t_csz3 hw nL (Nat.le_refl _) ⟨fun z => absurd (cz.mpr e) z, fun _ => rfl⟩))) (t_msn3 hw hl h9 hm ey (Nat.le_refl _) rfl)
  · have ey : lstF (fitM RP (-1)) 240 0 = Int32.ofNat (lstN (fitM RP (-1)) 240 0) := by rw [lstF_eq, if_neg e]
    rcases hq4 with rfl | rfl | rfl | rfl
    · refine JI_same (v := Int32.ofNat (cntF (fitM RP (-1)) 240 0)) (dc := 2) (dm := 3) hi (t_csa0 hw (Nat.le_refl _) (lp (t_csz0 hw nL (Nat.le_refl _) rfl))) (t_msp2 hw (Nat.le_refl _) (s_mspL hw hl h9 hm (by decide) 240 0 0 rfl ?_))
      rw [Nat.zero_add]
    · refine JI_same (dc := 2) (dm := 3) hi (t_csa1 hw (Nat.le_refl _) (lp (t_csz1 hw nL (Nat.le_refl _) ⟨fun _ => rfl, fun z => absurd (fun y => e (cz.mp y)) z⟩))) (t_mss1 hw hl h9 hm nL ey (Nat.le_refl _) ?_)
      rw [k.1]
    · refine JI_same (dc := 2) (dm := 3) hi (t_csa2 hw (Nat.le_refl _) (lp (t_csz2 hw nL (Nat.le_refl _) ⟨fun _ => rfl, fun z => absurd (fun y => e (cz.mp y)) z⟩))) (t_mss2 hw hl h9 hm nL ey (Nat.le_refl _) ?_)
      rw [k.2.1]
    · refine JI_same (dc := 2) (dm := 3) hi (t_csa3 hw (Nat.le_refl _) (lp (t_csz3 hw nL (Nat.le_refl _) ⟨fun _ => rfl, fun z => absurd (fun y => e (cz.mp y)) z⟩))) (t_mss3 hw hl h9 hm nL ey (Nat.le_refl _) ?_)
      rw [k.2.2]
