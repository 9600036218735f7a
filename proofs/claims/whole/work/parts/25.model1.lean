/-! KM: the reference, its small readers -/
set_option maxHeartbeats 4000000 in
theorem t_in {d : Nat} {Q : KO → Prop} {h : KH} {v a b : Int32} (hd : 0 ≤ d) (hQ : (v < a → Q (some (.int (0)), h)) ∧ (¬ (v < a) → (b < v → Q (some (.int (0)), h)) ∧ (¬ (b < v) → Q (some (.int (1)), h)))) : Cl d 170 [.int (v), .int (a), .int (b)] h Q := by
  refine Cl.of (ls := [some (.int (v)), some (.int (a)), some (.int (b))]) rfl rfl ?_
  refine Wp.seg 2 (pc1 := 2) (ls1 := [some (.int (v)), some (.int (a)), some (.int (b))]) (st1 := [.int (a), .int (v)]) rfl ?_
  refine Wp.if2 rfl (fun (c1 : v < a) => ?_) (fun (c1 : ¬ (v < a)) => ?_)
  · refine Wp.seg 1 (pc1 := 15) (ls1 := [some (.int (v)), some (.int (a)), some (.int (b))]) (st1 := [.int (0)]) rfl ?_
    exact Wp.reti rfl rfl (hQ.1 c1)
  · refine Wp.seg 2 (pc1 := 7) (ls1 := [some (.int (v)), some (.int (a)), some (.int (b))]) (st1 := [.int (b), .int (v)]) rfl ?_
    refine Wp.if2 rfl (fun (c2 : b < v) => ?_) (fun (c2 : ¬ (b < v)) => ?_)
    · refine Wp.seg 1 (pc1 := 15) (ls1 := [some (.int (v)), some (.int (a)), some (.int (b))]) (st1 := [.int (0)]) rfl ?_
      exact Wp.reti rfl rfl ((hQ.2 c1).1 c2)
    · refine Wp.seg 2 (pc1 := 15) (ls1 := [some (.int (v)), some (.int (a)), some (.int (b))]) (st1 := [.int (1)]) rfl ?_
      exact Wp.reti rfl rfl ((hQ.2 c1).2 c2)
set_option maxHeartbeats 4000000 in
theorem t_isOver {d : Nat} {Q : KO → Prop} {h : KH} (hw : WF h) (hd : 0 ≤ d) (hQ : ((h.2.2.1 60 1) < (h.2.2.1 60 0) → Q (some (.int (0)), h)) ∧ (¬ ((h.2.2.1 60 1) < (h.2.2.1 60 0)) → Q (some (.int (1)), h))) : Cl d 180 [.ref 59] h Q := by
  refine Cl.of (ls := [some (.ref 59)]) rfl rfl ?_
  refine Wp.seg 1 (pc1 := 1) (ls1 := [some (.ref 59)]) (st1 := [.ref 59]) rfl ?_
  refine Wp.gr (t := (11, 0)) (v := some (60)) rfl (WF.t hw 59 rfl) rfl (WF.r hw 59 0 58 rfl) ?_
  show Wp d 180 4 [some (.ref 59)] [.ref 60] h Q
  refine Wp.seg 1 (pc1 := 5) (ls1 := [some (.ref 59)]) (st1 := [.int (1), .ref 60]) rfl ?_
  refine Wp.iald (j := 1) (k := 20) (n := 585) rfl (WF.t hw 60 rfl) rfl rfl (by decide) (by decide) ?_
  refine Wp.seg 1 (pc1 := 7) (ls1 := [some (.ref 59)]) (st1 := [.ref 59, .int (h.2.2.1 60 1)]) rfl ?_
  refine Wp.gr (t := (11, 0)) (v := some (60)) rfl (WF.t hw 59 rfl) rfl (WF.r hw 59 0 58 rfl) ?_
  show Wp d 180 10 [some (.ref 59)] [.ref 60, .int (h.2.2.1 60 1)] h Q
  refine Wp.seg 1 (pc1 := 11) (ls1 := [some (.ref 59)]) (st1 := [.int (0), .ref 60, .int (h.2.2.1 60 1)]) rfl ?_
  refine Wp.iald (j := 0) (k := 20) (n := 585) rfl (WF.t hw 60 rfl) rfl rfl (by decide) (by decide) ?_
  refine Wp.if2 rfl (fun (c1 : (h.2.2.1 60 1) < (h.2.2.1 60 0)) => ?_) (fun (c1 : ¬ ((h.2.2.1 60 1) < (h.2.2.1 60 0))) => ?_)
  · refine Wp.seg 1 (pc1 := 20) (ls1 := [some (.ref 59)]) (st1 := [.int (0)]) rfl ?_
    exact Wp.reti rfl rfl (hQ.1 c1)
  · refine Wp.seg 2 (pc1 := 20) (ls1 := [some (.ref 59)]) (st1 := [.int (1)]) rfl ?_
    exact Wp.reti rfl rfl (hQ.2 c1)
set_option maxHeartbeats 4000000 in
theorem t_of {d : Nat} {Q : KO → Prop} {h : KH} (hw : WF h) {v k : Int32} {j : Nat} (hi : 11 + 4 * v + k = Int32.ofNat j) (hj : j < 585) (hd : 0 ≤ d) (hQ : Q (some (.int (h.2.2.1 60 j)), h)) : Cl d 178 [.ref 59, .int (v), .int (k)] h Q := by
  refine Cl.of (ls := [some (.ref 59), some (.int (v)), some (.int (k))]) rfl rfl ?_
  refine Wp.seg 1 (pc1 := 1) (ls1 := [some (.ref 59), some (.int (v)), some (.int (k))]) (st1 := [.ref 59]) rfl ?_
  refine Wp.gr (t := (11, 0)) (v := some (60)) rfl (WF.t hw 59 rfl) rfl (WF.r hw 59 0 58 rfl) ?_
  show Wp d 178 4 [some (.ref 59), some (.int (v)), some (.int (k))] [.ref 60] h Q
  refine Wp.seg 7 (pc1 := 12) (ls1 := [some (.ref 59), some (.int (v)), some (.int (k))]) (st1 := [.int (((11 : Int32) + ((4 : Int32) * v)) + k), .ref 60]) rfl ?_
  refine Wp.iald (j := j) (k := 20) (n := 585) rfl (WF.t hw 60 rfl) rfl hi hj (by decide) ?_
  exact Wp.reti rfl rfl hQ
set_option maxHeartbeats 4000000 in
theorem t_put {d : Nat} {Q : KO → Prop} {h : KH} (hw : WF h) {v k x : Int32} {j : Nat} (hi : 11 + 4 * v + k = Int32.ofNat j) (hj : j < 585) (hd : 0 ≤ d) (hQ : Q (none, kwi h 60 j x)) : Cl d 179 [.ref 59, .int (v), .int (k), .int (x)] h Q := by
  refine Cl.of (ls := [some (.ref 59), some (.int (v)), some (.int (k)), some (.int (x))]) rfl rfl ?_
  refine Wp.seg 1 (pc1 := 1) (ls1 := [some (.ref 59), some (.int (v)), some (.int (k)), some (.int (x))]) (st1 := [.ref 59]) rfl ?_
  refine Wp.gr (t := (11, 0)) (v := some (60)) rfl (WF.t hw 59 rfl) rfl (WF.r hw 59 0 58 rfl) ?_
  show Wp d 179 4 [some (.ref 59), some (.int (v)), some (.int (k)), some (.int (x))] [.ref 60] h Q
  refine Wp.seg 8 (pc1 := 13) (ls1 := [some (.ref 59), some (.int (v)), some (.int (k)), some (.int (x))]) (st1 := [.int (x), .int (((11 : Int32) + ((4 : Int32) * v)) + k), .ref 60]) rfl ?_
  refine Wp.iast (j := j) (n := 585) rfl (WF.t hw 60 rfl) hi hj (by decide) ?_
  exact Wp.retv rfl rfl hQ
set_option maxHeartbeats 4000000 in
theorem t_edgeOf {d : Nat} {Q : KO → Prop} {h : KH} {v f : Int32} (hd : 0 ≤ d) (hQ : (f = 0 → ((3 : Int32) ≤ (v - v / (4 : Int32) * (4 : Int32)) → Q (some (.int (-1)), h)) ∧ (¬ ((3 : Int32) ≤ (v - v / (4 : Int32) * (4 : Int32))) → Q (some (.int (((3 : Int32) * (v / (4 : Int32))) + (v - v / (4 : Int32) * (4 : Int32)))), h))) ∧ (¬ (f = 0) → (f = 1 → ((2 : Int32) ≤ (v / (4 : Int32)) → Q (some (.int (-1)), h)) ∧ (¬ ((2 : Int32) ≤ (v / (4 : Int32))) → Q (some (.int ((9 : Int32) + v)), h))) ∧ (¬ (f = 1) → (f = 2 → ((v - v / (4 : Int32) * (4 : Int32)) ≤ 0 → Q (some (.int (-1)), h)) ∧ (¬ ((v - v / (4 : Int32) * (4 : Int32)) ≤ 0) → Q (some (.int ((((3 : Int32) * (v / (4 : Int32))) + (v - v / (4 : Int32) * (4 : Int32))) - (1 : Int32))), h))) ∧ (¬ (f = 2) → ((v / (4 : Int32)) ≤ 0 → Q (some (.int (-1)), h)) ∧ (¬ ((v / (4 : Int32)) ≤ 0) → Q (some (.int ((5 : Int32) + v)), h)))))) : Cl d 182 [.int (v), .int (f)] h Q := by
  refine Cl.of (ls := [some (.int (v)), some (.int (f)), none, none]) rfl rfl ?_
  refine Wp.seg 2 (pc1 := 2) (ls1 := [some (.int (v)), some (.int (f)), none, none]) (st1 := [.int (4), .int (v)]) rfl ?_
  refine Wp.div rfl (by decide) ?_
  refine Wp.seg 3 (pc1 := 6) (ls1 := [some (.int (v)), some (.int (f)), some (.int (v / (4 : Int32))), none]) (st1 := [.int (4), .int (v)]) rfl ?_
  refine Wp.rem rfl (by decide) ?_
  refine Wp.seg 2 (pc1 := 9) (ls1 := [some (.int (v)), some (.int (f)), some (.int (v / (4 : Int32))), some (.int (v - v / (4 : Int32) * (4 : Int32)))]) (st1 := [.int (f)]) rfl ?_
  refine Wp.tsw rfl ?_
  refine ⟨fun c1 => ?_, fun c1 => ?_⟩
  · have c1 : f = 0 := c1
    show Wp d 182 36 [some (.int (v)), some (.int (f)), some (.int (v / (4 : Int32))), some (.int (v - v / (4 : Int32) * (4 : Int32)))] [] h Q
    refine Wp.seg 2 (pc1 := 38) (ls1 := [some (.int (v)), some (.int (f)), some (.int (v / (4 : Int32))), some (.int (v - v / (4 : Int32) * (4 : Int32)))]) (st1 := [.int (3), .int (v - v / (4 : Int32) * (4 : Int32))]) rfl ?_
    refine Wp.if2 rfl (fun (c2 : (3 : Int32) ≤ (v - v / (4 : Int32) * (4 : Int32))) => ?_) (fun (c2 : ¬ ((3 : Int32) ≤ (v - v / (4 : Int32) * (4 : Int32)))) => ?_)
    · refine Wp.seg 1 (pc1 := 50) (ls1 := [some (.int (v)), some (.int (f)), some (.int (v / (4 : Int32))), some (.int (v - v / (4 : Int32) * (4 : Int32)))]) (st1 := [.int (-1)]) rfl ?_
      exact Wp.reti rfl rfl ((hQ.1 c1).1 c2)
    · refine Wp.seg 6 (pc1 := 50) (ls1 := [some (.int (v)), some (.int (f)), some (.int (v / (4 : Int32))), some (.int (v - v / (4 : Int32) * (4 : Int32)))]) (st1 := [.int (((3 : Int32) * (v / (4 : Int32))) + (v - v / (4 : Int32) * (4 : Int32)))]) rfl ?_
      exact Wp.reti rfl rfl ((hQ.1 c1).2 c2)
  have c1 : ¬ f = 0 := c1
  refine ⟨fun c3 => ?_, fun c3 => ?_⟩
  · have c3 : f = 1 := c3
    show Wp d 182 51 [some (.int (v)), some (.int (f)), some (.int (v / (4 : Int32))), some (.int (v - v / (4 : Int32) * (4 : Int32)))] [] h Q
    refine Wp.seg 2 (pc1 := 53) (ls1 := [some (.int (v)), some (.int (f)), some (.int (v / (4 : Int32))), some (.int (v - v / (4 : Int32) * (4 : Int32)))]) (st1 := [.int (2), .int (v / (4 : Int32))]) rfl ?_
    refine Wp.if2 rfl (fun (c4 : (2 : Int32) ≤ (v / (4 : Int32))) => ?_) (fun (c4 : ¬ ((2 : Int32) ≤ (v / (4 : Int32)))) => ?_)
    · refine Wp.seg 1 (pc1 := 64) (ls1 := [some (.int (v)), some (.int (f)), some (.int (v / (4 : Int32))), some (.int (v - v / (4 : Int32) * (4 : Int32)))]) (st1 := [.int (-1)]) rfl ?_
      exact Wp.reti rfl rfl (((hQ.2 c1).1 c3).1 c4)
    · refine Wp.seg 4 (pc1 := 64) (ls1 := [some (.int (v)), some (.int (f)), some (.int (v / (4 : Int32))), some (.int (v - v / (4 : Int32) * (4 : Int32)))]) (st1 := [.int ((9 : Int32) + v)]) rfl ?_
      exact Wp.reti rfl rfl (((hQ.2 c1).1 c3).2 c4)
  have c3 : ¬ f = 1 := c3
  refine ⟨fun c5 => ?_, fun c5 => ?_⟩
  · have c5 : f = 2 := c5
    show Wp d 182 65 [some (.int (v)), some (.int (f)), some (.int (v / (4 : Int32))), some (.int (v - v / (4 : Int32) * (4 : Int32)))] [] h Q
    refine Wp.seg 1 (pc1 := 66) (ls1 := [some (.int (v)), some (.int (f)), some (.int (v / (4 : Int32))), some (.int (v - v / (4 : Int32) * (4 : Int32)))]) (st1 := [.int (v - v / (4 : Int32) * (4 : Int32))]) rfl ?_
    refine Wp.if1 rfl (fun (c6 : (v - v / (4 : Int32) * (4 : Int32)) ≤ 0) => ?_) (fun (c6 : ¬ ((v - v / (4 : Int32) * (4 : Int32)) ≤ 0)) => ?_)
    · refine Wp.seg 1 (pc1 := 80) (ls1 := [some (.int (v)), some (.int (f)), some (.int (v / (4 : Int32))), some (.int (v - v / (4 : Int32) * (4 : Int32)))]) (st1 := [.int (-1)]) rfl ?_
      exact Wp.reti rfl rfl ((((hQ.2 c1).2 c3).1 c5).1 c6)
    · refine Wp.seg 8 (pc1 := 80) (ls1 := [some (.int (v)), some (.int (f)), some (.int (v / (4 : Int32))), some (.int (v - v / (4 : Int32) * (4 : Int32)))]) (st1 := [.int ((((3 : Int32) * (v / (4 : Int32))) + (v - v / (4 : Int32) * (4 : Int32))) - (1 : Int32))]) rfl ?_
      exact Wp.reti rfl rfl ((((hQ.2 c1).2 c3).1 c5).2 c6)
  have c5 : ¬ f = 2 := c5
  show Wp d 182 81 [some (.int (v)), some (.int (f)), some (.int (v / (4 : Int32))), some (.int (v - v / (4 : Int32) * (4 : Int32)))] [] h Q
  refine Wp.seg 1 (pc1 := 82) (ls1 := [some (.int (v)), some (.int (f)), some (.int (v / (4 : Int32))), some (.int (v - v / (4 : Int32) * (4 : Int32)))]) (st1 := [.int (v / (4 : Int32))]) rfl ?_
  refine Wp.if1 rfl (fun (c7 : (v / (4 : Int32)) ≤ 0) => ?_) (fun (c7 : ¬ ((v / (4 : Int32)) ≤ 0)) => ?_)
  · refine Wp.seg 1 (pc1 := 92) (ls1 := [some (.int (v)), some (.int (f)), some (.int (v / (4 : Int32))), some (.int (v - v / (4 : Int32) * (4 : Int32)))]) (st1 := [.int (-1)]) rfl ?_
    exact Wp.reti rfl rfl ((((hQ.2 c1).2 c3).2 c5).1 c7)
  · refine Wp.seg 4 (pc1 := 92) (ls1 := [some (.int (v)), some (.int (f)), some (.int (v / (4 : Int32))), some (.int (v - v / (4 : Int32) * (4 : Int32)))]) (st1 := [.int ((5 : Int32) + v)]) rfl ?_
    exact Wp.reti rfl rfl ((((hQ.2 c1).2 c3).2 c5).2 c7)
set_option maxHeartbeats 4000000 in
theorem t_becomes {d : Nat} {Q : KO → Prop} {h : KH} (hw : WF h) {v x : Int32} {j : Nat} (hi : v = Int32.ofNat j) (hj : j < 585) (hd : 0 ≤ d) (hQ : Q (some (.int (h.2.2.1 60 j)), kwi h 60 j x)) : Cl d 174 [.ref 59, .int (v), .int (x)] h Q := by
  refine Cl.of (ls := [some (.ref 59), some (.int (v)), some (.int (x)), none]) rfl rfl ?_
  refine Wp.seg 1 (pc1 := 1) (ls1 := [some (.ref 59), some (.int (v)), some (.int (x)), none]) (st1 := [.ref 59]) rfl ?_
  refine Wp.gr (t := (11, 0)) (v := some (60)) rfl (WF.t hw 59 rfl) rfl (WF.r hw 59 0 58 rfl) ?_
  show Wp d 174 4 [some (.ref 59), some (.int (v)), some (.int (x)), none] [.ref 60] h Q
  refine Wp.seg 1 (pc1 := 5) (ls1 := [some (.ref 59), some (.int (v)), some (.int (x)), none]) (st1 := [.int (v), .ref 60]) rfl ?_
  refine Wp.iald (j := j) (k := 20) (n := 585) rfl (WF.t hw 60 rfl) rfl hi hj (by decide) ?_
  refine Wp.seg 2 (pc1 := 8) (ls1 := [some (.ref 59), some (.int (v)), some (.int (x)), some (.int (h.2.2.1 60 j))]) (st1 := [.ref 59]) rfl ?_
  refine Wp.gr (t := (11, 0)) (v := some (60)) rfl (WF.t hw 59 rfl) rfl (WF.r hw 59 0 58 rfl) ?_
  show Wp d 174 11 [some (.ref 59), some (.int (v)), some (.int (x)), some (.int (h.2.2.1 60 j))] [.ref 60] h Q
  refine Wp.seg 2 (pc1 := 13) (ls1 := [some (.ref 59), some (.int (v)), some (.int (x)), some (.int (h.2.2.1 60 j))]) (st1 := [.int (x), .int (v), .ref 60]) rfl ?_
  refine Wp.iast (j := j) (n := 585) rfl (WF.t hw 60 rfl) hi hj (by decide) ?_
  refine Wp.seg 1 (pc1 := 15) (ls1 := [some (.ref 59), some (.int (v)), some (.int (x)), some (.int (h.2.2.1 60 j))]) (st1 := [.int (h.2.2.1 60 j)]) rfl ?_
  exact Wp.reti rfl rfl hQ
