/-! KM: both sides: trace, many -/
set_option maxHeartbeats 4000000 in
theorem t_tln {d : Nat} {Q : KO → Prop} {h : KH} (hw : WF h) (hv : h.2.1 0 15 = none) (hd : 0 ≤ d) (hQ : Q (some (.int (0)), h)) : Cl d 166 [.ref 0] h Q := by
  refine Cl.of (ls := [some (.ref 0)]) rfl rfl ?_
  refine Wp.seg 1 (pc1 := 1) (ls1 := [some (.ref 0)]) (st1 := [.ref 0]) rfl ?_
  refine Wp.gr (t := (10, 0)) (v := none) rfl (WF.t hw 0 rfl) rfl hv ?_
  show Wp d 166 4 [some (.ref 0)] [.null] h Q
  refine Wp.br rfl rfl ?_
  show Wp d 166 7 [some (.ref 0)] [] h Q
  refine Wp.seg 2 (pc1 := 18) (ls1 := [some (.ref 0)]) (st1 := [.int (0)]) rfl ?_
  exact Wp.reti rfl rfl hQ
set_option maxHeartbeats 4000000 in
theorem t_tl49 {d : Nat} {Q : KO → Prop} {h : KH} (hw : WF h) {g : Nat} (hv : h.2.1 0 15 = some 49) (hg : h.2.2.1 49 1 = Int32.ofNat g) (hd : 0 ≤ d) (hQ : Q (some (.int (Int32.ofNat g)), h)) : Cl d 166 [.ref 0] h Q := by
  refine Cl.of (ls := [some (.ref 0)]) rfl rfl ?_
  refine Wp.seg 1 (pc1 := 1) (ls1 := [some (.ref 0)]) (st1 := [.ref 0]) rfl ?_
  refine Wp.gr (t := (10, 0)) (v := some (49)) rfl (WF.t hw 0 rfl) rfl hv ?_
  show Wp d 166 4 [some (.ref 0)] [.ref 49] h Q
  refine Wp.br rfl rfl ?_
  show Wp d 166 11 [some (.ref 0)] [] h Q
  refine Wp.seg 1 (pc1 := 12) (ls1 := [some (.ref 0)]) (st1 := [.ref 0]) rfl ?_
  refine Wp.gr (t := (10, 0)) (v := some (49)) rfl (WF.t hw 0 rfl) rfl hv ?_
  show Wp d 166 15 [some (.ref 0)] [.ref 49] h Q
  refine Wp.gi (t := (0, 0)) rfl (WF.t hw 49 rfl) (Or.inl rfl) ?_
  rw [show h.2.2.1 49 1 = Int32.ofNat g from hg]
  exact Wp.reti rfl rfl hQ
set_option maxHeartbeats 4000000 in
theorem t_tl51 {d : Nat} {Q : KO → Prop} {h : KH} (hw : WF h) {g : Nat} (hv : h.2.1 0 15 = some 51) (hg : h.2.2.1 51 1 = Int32.ofNat g) (hd : 0 ≤ d) (hQ : Q (some (.int (Int32.ofNat g)), h)) : Cl d 166 [.ref 0] h Q := by
  refine Cl.of (ls := [some (.ref 0)]) rfl rfl ?_
  refine Wp.seg 1 (pc1 := 1) (ls1 := [some (.ref 0)]) (st1 := [.ref 0]) rfl ?_
  refine Wp.gr (t := (10, 0)) (v := some (51)) rfl (WF.t hw 0 rfl) rfl hv ?_
  show Wp d 166 4 [some (.ref 0)] [.ref 51] h Q
  refine Wp.br rfl rfl ?_
  show Wp d 166 11 [some (.ref 0)] [] h Q
  refine Wp.seg 1 (pc1 := 12) (ls1 := [some (.ref 0)]) (st1 := [.ref 0]) rfl ?_
  refine Wp.gr (t := (10, 0)) (v := some (51)) rfl (WF.t hw 0 rfl) rfl hv ?_
  show Wp d 166 15 [some (.ref 0)] [.ref 51] h Q
  refine Wp.gi (t := (3, 0)) rfl (WF.t hw 51 rfl) (Or.inl rfl) ?_
  rw [show h.2.2.1 51 1 = Int32.ofNat g from hg]
  exact Wp.reti rfl rfl hQ
set_option maxHeartbeats 4000000 in
theorem t_tl53 {d : Nat} {Q : KO → Prop} {h : KH} (hw : WF h) {g : Nat} (hv : h.2.1 0 15 = some 53) (hg : h.2.2.1 53 1 = Int32.ofNat g) (hd : 0 ≤ d) (hQ : Q (some (.int (Int32.ofNat g)), h)) : Cl d 166 [.ref 0] h Q := by
  refine Cl.of (ls := [some (.ref 0)]) rfl rfl ?_
  refine Wp.seg 1 (pc1 := 1) (ls1 := [some (.ref 0)]) (st1 := [.ref 0]) rfl ?_
  refine Wp.gr (t := (10, 0)) (v := some (53)) rfl (WF.t hw 0 rfl) rfl hv ?_
  show Wp d 166 4 [some (.ref 0)] [.ref 53] h Q
  refine Wp.br rfl rfl ?_
  show Wp d 166 11 [some (.ref 0)] [] h Q
  refine Wp.seg 1 (pc1 := 12) (ls1 := [some (.ref 0)]) (st1 := [.ref 0]) rfl ?_
  refine Wp.gr (t := (10, 0)) (v := some (53)) rfl (WF.t hw 0 rfl) rfl hv ?_
  show Wp d 166 15 [some (.ref 0)] [.ref 53] h Q
  refine Wp.gi (t := (4, 0)) rfl (WF.t hw 53 rfl) (Or.inl rfl) ?_
  rw [show h.2.2.1 53 1 = Int32.ofNat g from hg]
  exact Wp.reti rfl rfl hQ
set_option maxHeartbeats 4000000 in
theorem t_tl55 {d : Nat} {Q : KO → Prop} {h : KH} (hw : WF h) {g : Nat} (hv : h.2.1 0 15 = some 55) (hg : h.2.2.1 55 1 = Int32.ofNat g) (hd : 0 ≤ d) (hQ : Q (some (.int (Int32.ofNat g)), h)) : Cl d 166 [.ref 0] h Q := by
  refine Cl.of (ls := [some (.ref 0)]) rfl rfl ?_
  refine Wp.seg 1 (pc1 := 1) (ls1 := [some (.ref 0)]) (st1 := [.ref 0]) rfl ?_
  refine Wp.gr (t := (10, 0)) (v := some (55)) rfl (WF.t hw 0 rfl) rfl hv ?_
  show Wp d 166 4 [some (.ref 0)] [.ref 55] h Q
  refine Wp.br rfl rfl ?_
  show Wp d 166 11 [some (.ref 0)] [] h Q
  refine Wp.seg 1 (pc1 := 12) (ls1 := [some (.ref 0)]) (st1 := [.ref 0]) rfl ?_
  refine Wp.gr (t := (10, 0)) (v := some (55)) rfl (WF.t hw 0 rfl) rfl hv ?_
  show Wp d 166 15 [some (.ref 0)] [.ref 55] h Q
  refine Wp.gi (t := (8, 0)) rfl (WF.t hw 55 rfl) (Or.inl rfl) ?_
  rw [show h.2.2.1 55 1 = Int32.ofNat g from hg]
  exact Wp.reti rfl rfl hQ
set_option maxHeartbeats 4000000 in
theorem t_tl57 {d : Nat} {Q : KO → Prop} {h : KH} (hw : WF h) {g : Nat} (hv : h.2.1 0 15 = some 57) (hg : h.2.2.1 57 1 = Int32.ofNat g) (hd : 0 ≤ d) (hQ : Q (some (.int (Int32.ofNat g)), h)) : Cl d 166 [.ref 0] h Q := by
  refine Cl.of (ls := [some (.ref 0)]) rfl rfl ?_
  refine Wp.seg 1 (pc1 := 1) (ls1 := [some (.ref 0)]) (st1 := [.ref 0]) rfl ?_
  refine Wp.gr (t := (10, 0)) (v := some (57)) rfl (WF.t hw 0 rfl) rfl hv ?_
  show Wp d 166 4 [some (.ref 0)] [.ref 57] h Q
  refine Wp.br rfl rfl ?_
  show Wp d 166 11 [some (.ref 0)] [] h Q
  refine Wp.seg 1 (pc1 := 12) (ls1 := [some (.ref 0)]) (st1 := [.ref 0]) rfl ?_
  refine Wp.gr (t := (10, 0)) (v := some (57)) rfl (WF.t hw 0 rfl) rfl hv ?_
  show Wp d 166 15 [some (.ref 0)] [.ref 57] h Q
  refine Wp.gi (t := (2, 0)) rfl (WF.t hw 57 rfl) (Or.inl rfl) ?_
  rw [show h.2.2.1 57 1 = Int32.ofNat g from hg]
  exact Wp.reti rfl rfl hQ
set_option maxHeartbeats 4000000 in
theorem t_ctrN {d : Nat} {Q : KO → Prop} {h : KH} (hw : WF h) {v : Int32} (hv : h.2.1 0 15 = none) (hd : 1 ≤ d) (hQ : (v < 0 → Q (some (.int (-3)), h)) ∧ (¬ (v < 0) → ((0 : Int32) ≤ v → Q (some (.int (-3)), h)) ∧ (¬ ((0 : Int32) ≤ v) → ((30 : Int32) ≤ v → Q (some (.int (-3)), h)) ∧ (¬ ((30 : Int32) ≤ v) → Q (some (.int (-3)), h))))) : Cl d 162 [.ref 0, .int (v)] h Q := by
  refine Cl.of (ls := [some (.ref 0), some (.int (v))]) rfl rfl ?_
  refine Wp.seg 1 (pc1 := 1) (ls1 := [some (.ref 0), some (.int (v))]) (st1 := [.int (v)]) rfl ?_
  refine Wp.if1 rfl (fun (c1 : v < 0) => ?_) (fun (c1 : ¬ (v < 0)) => ?_)
  · refine Wp.seg 1 (pc1 := 27) (ls1 := [some (.ref 0), some (.int (v))]) (st1 := [.int (-3)]) rfl ?_
    exact Wp.reti rfl rfl (hQ.1 c1)
  · refine Wp.seg 2 (pc1 := 6) (ls1 := [some (.ref 0), some (.int (v))]) (st1 := [.ref 0, .int (v)]) rfl ?_
    refine Wp.invV (d2 := 0) (as := [.ref 0]) (r := [.int (v)]) (t := (10, 0)) rfl rfl rfl rfl (WF.t hw 0 rfl) rfl rfl ⟨rfl, rfl⟩ (by omega) (t_tln hw hv (Nat.zero_le _) ?_)
    show Wp d 162 9 [some (.ref 0), some (.int (v))] [.int (0), .int (v)] h Q
    refine Wp.if2 rfl (fun (c2 : (0 : Int32) ≤ v) => ?_) (fun (c2 : ¬ ((0 : Int32) ≤ v)) => ?_)
    · refine Wp.seg 1 (pc1 := 27) (ls1 := [some (.ref 0), some (.int (v))]) (st1 := [.int (-3)]) rfl ?_
      exact Wp.reti rfl rfl ((hQ.2 c1).1 c2)
    · refine Wp.seg 2 (pc1 := 15) (ls1 := [some (.ref 0), some (.int (v))]) (st1 := [.int (30), .int (v)]) rfl ?_
      refine Wp.if2 rfl (fun (c3 : (30 : Int32) ≤ v) => ?_) (fun (c3 : ¬ ((30 : Int32) ≤ v)) => ?_)
      · refine Wp.seg 1 (pc1 := 27) (ls1 := [some (.ref 0), some (.int (v))]) (st1 := [.int (-3)]) rfl ?_
        exact Wp.reti rfl rfl (((hQ.2 c1).2 c2).1 c3)
      · refine Wp.seg 1 (pc1 := 19) (ls1 := [some (.ref 0), some (.int (v))]) (st1 := [.ref 0]) rfl ?_
        refine Wp.gr (t := (10, 0)) (v := none) rfl (WF.t hw 0 rfl) rfl hv ?_
        show Wp d 162 22 [some (.ref 0), some (.int (v))] [.null] h Q
        refine Wp.br rfl rfl ?_
        show Wp d 162 25 [some (.ref 0), some (.int (v))] [] h Q
        refine Wp.seg 1 (pc1 := 27) (ls1 := [some (.ref 0), some (.int (v))]) (st1 := [.int (-3)]) rfl ?_
        exact Wp.reti rfl rfl (((hQ.2 c1).2 c2).2 c3)
set_option maxHeartbeats 4000000 in
theorem t_ctb49 {d : Nat} {Q : KO → Prop} {h : KH} (hw : WF h) {v : Int32} {g : Nat} (hv : h.2.1 0 15 = some 49) (hg : h.2.2.1 49 1 = Int32.ofNat g) (hd : 1 ≤ d) (hQ : (v < 0 → Q (some (.int (-3)), h)) ∧ (¬ (v < 0) → ((Int32.ofNat g) ≤ v → Q (some (.int (-3)), h)) ∧ (¬ ((Int32.ofNat g) ≤ v) → ((30 : Int32) ≤ v → Q (some (.int (-3)), h)) ∧ (¬ ((30 : Int32) ≤ v) → Wp d 162 18 ([some (.ref 0), some (.int (v))]) [] h Q)))) : Cl d 162 [.ref 0, .int (v)] h Q := by
  refine Cl.of (ls := [some (.ref 0), some (.int (v))]) rfl rfl ?_
  refine Wp.seg 1 (pc1 := 1) (ls1 := [some (.ref 0), some (.int (v))]) (st1 := [.int (v)]) rfl ?_
  refine Wp.if1 rfl (fun (c1 : v < 0) => ?_) (fun (c1 : ¬ (v < 0)) => ?_)
  · refine Wp.seg 1 (pc1 := 27) (ls1 := [some (.ref 0), some (.int (v))]) (st1 := [.int (-3)]) rfl ?_
    exact Wp.reti rfl rfl (hQ.1 c1)
  · refine Wp.seg 2 (pc1 := 6) (ls1 := [some (.ref 0), some (.int (v))]) (st1 := [.ref 0, .int (v)]) rfl ?_
    refine Wp.invV (d2 := 0) (as := [.ref 0]) (r := [.int (v)]) (t := (10, 0)) rfl rfl rfl rfl (WF.t hw 0 rfl) rfl rfl ⟨rfl, rfl⟩ (by omega) (t_tl49 hw hv hg (Nat.zero_le _) ?_)
    show Wp d 162 9 [some (.ref 0), some (.int (v))] [.int (Int32.ofNat g), .int (v)] h Q
    refine Wp.if2 rfl (fun (c2 : (Int32.ofNat g) ≤ v) => ?_) (fun (c2 : ¬ ((Int32.ofNat g) ≤ v)) => ?_)
    · refine Wp.seg 1 (pc1 := 27) (ls1 := [some (.ref 0), some (.int (v))]) (st1 := [.int (-3)]) rfl ?_
      exact Wp.reti rfl rfl ((hQ.2 c1).1 c2)
    · refine Wp.seg 2 (pc1 := 15) (ls1 := [some (.ref 0), some (.int (v))]) (st1 := [.int (30), .int (v)]) rfl ?_
      refine Wp.if2 rfl (fun (c3 : (30 : Int32) ≤ v) => ?_) (fun (c3 : ¬ ((30 : Int32) ≤ v)) => ?_)
      · refine Wp.seg 1 (pc1 := 27) (ls1 := [some (.ref 0), some (.int (v))]) (st1 := [.int (-3)]) rfl ?_
        exact Wp.reti rfl rfl (((hQ.2 c1).2 c2).1 c3)
      · exact (((hQ.2 c1).2 c2).2 c3)
set_option maxHeartbeats 4000000 in
theorem t_ctr49 {d : Nat} {Q : KO → Prop} {h : KH} (hw : WF h) {g i : Nat} (hi : i < g) (hg30 : g ≤ 30) (n0 : ¬ (Int32.ofNat i < 0)) (n1 : ¬ (Int32.ofNat g ≤ Int32.ofNat i)) (n2 : ¬ ((30 : Int32) ≤ Int32.ofNat i)) (hv : h.2.1 0 15 = some 49) (hg : h.2.2.1 49 1 = Int32.ofNat g) (hd : 1 ≤ d) (hQ : Q (some (.int (h.2.2.1 50 i)), h)) : Cl d 162 [.ref 0, .int (Int32.ofNat i)] h Q := by
  refine Cl.of (ls := [some (.ref 0), some (.int (Int32.ofNat i))]) rfl rfl ?_
  refine Wp.seg 1 (pc1 := 1) (ls1 := [some (.ref 0), some (.int (Int32.ofNat i))]) (st1 := [.int (Int32.ofNat i)]) rfl ?_
  refine Wp.if1 rfl (fun c1 => absurd c1 (n0)) (fun c1 => ?_)
  refine Wp.seg 2 (pc1 := 6) (ls1 := [some (.ref 0), some (.int (Int32.ofNat i))]) (st1 := [.ref 0, .int (Int32.ofNat i)]) rfl ?_
  refine Wp.invV (d2 := 0) (as := [.ref 0]) (r := [.int (Int32.ofNat i)]) (t := (10, 0)) rfl rfl rfl rfl (WF.t hw 0 rfl) rfl rfl ⟨rfl, rfl⟩ (by omega) (t_tl49 hw hv hg (Nat.zero_le _) ?_)
  show Wp d 162 9 [some (.ref 0), some (.int (Int32.ofNat i))] [.int (Int32.ofNat g), .int (Int32.ofNat i)] h Q
  refine Wp.if2 rfl (fun c2 => absurd c2 (n1)) (fun c2 => ?_)
  refine Wp.seg 2 (pc1 := 15) (ls1 := [some (.ref 0), some (.int (Int32.ofNat i))]) (st1 := [.int (30), .int (Int32.ofNat i)]) rfl ?_
  refine Wp.if2 rfl (fun c3 => absurd c3 (n2)) (fun c3 => ?_)
  refine Wp.seg 1 (pc1 := 19) (ls1 := [some (.ref 0), some (.int (Int32.ofNat i))]) (st1 := [.ref 0]) rfl ?_
  refine Wp.gr (t := (10, 0)) (v := some (49)) rfl (WF.t hw 0 rfl) rfl hv ?_
  show Wp d 162 22 [some (.ref 0), some (.int (Int32.ofNat i))] [.ref 49] h Q
  refine Wp.br rfl rfl ?_
  show Wp d 162 28 [some (.ref 0), some (.int (Int32.ofNat i))] [] h Q
  refine Wp.seg 1 (pc1 := 29) (ls1 := [some (.ref 0), some (.int (Int32.ofNat i))]) (st1 := [.ref 0]) rfl ?_
  refine Wp.gr (t := (10, 0)) (v := some (49)) rfl (WF.t hw 0 rfl) rfl hv ?_
  show Wp d 162 32 [some (.ref 0), some (.int (Int32.ofNat i))] [.ref 49] h Q
  refine Wp.gr (t := (0, 0)) (v := some (50)) rfl (WF.t hw 49 rfl) rfl (WF.r hw 49 0 53 rfl) ?_
  show Wp d 162 35 [some (.ref 0), some (.int (Int32.ofNat i))] [.ref 50] h Q
  refine Wp.seg 1 (pc1 := 36) (ls1 := [some (.ref 0), some (.int (Int32.ofNat i))]) (st1 := [.int (Int32.ofNat i), .ref 50]) rfl ?_
  refine Wp.iald (j := i) (k := 20) (n := 30) rfl (WF.t hw 50 rfl) rfl rfl ((by omega)) (by decide) ?_
  exact Wp.reti rfl rfl hQ
set_option maxHeartbeats 4000000 in
theorem t_ctb51 {d : Nat} {Q : KO → Prop} {h : KH} (hw : WF h) {v : Int32} {g : Nat} (hv : h.2.1 0 15 = some 51) (hg : h.2.2.1 51 1 = Int32.ofNat g) (hd : 1 ≤ d) (hQ : (v < 0 → Q (some (.int (-3)), h)) ∧ (¬ (v < 0) → ((Int32.ofNat g) ≤ v → Q (some (.int (-3)), h)) ∧ (¬ ((Int32.ofNat g) ≤ v) → ((30 : Int32) ≤ v → Q (some (.int (-3)), h)) ∧ (¬ ((30 : Int32) ≤ v) → Wp d 162 18 ([some (.ref 0), some (.int (v))]) [] h Q)))) : Cl d 162 [.ref 0, .int (v)] h Q := by
  refine Cl.of (ls := [some (.ref 0), some (.int (v))]) rfl rfl ?_
  refine Wp.seg 1 (pc1 := 1) (ls1 := [some (.ref 0), some (.int (v))]) (st1 := [.int (v)]) rfl ?_
  refine Wp.if1 rfl (fun (c1 : v < 0) => ?_) (fun (c1 : ¬ (v < 0)) => ?_)
  · refine Wp.seg 1 (pc1 := 27) (ls1 := [some (.ref 0), some (.int (v))]) (st1 := [.int (-3)]) rfl ?_
    exact Wp.reti rfl rfl (hQ.1 c1)
  · refine Wp.seg 2 (pc1 := 6) (ls1 := [some (.ref 0), some (.int (v))]) (st1 := [.ref 0, .int (v)]) rfl ?_
    refine Wp.invV (d2 := 0) (as := [.ref 0]) (r := [.int (v)]) (t := (10, 0)) rfl rfl rfl rfl (WF.t hw 0 rfl) rfl rfl ⟨rfl, rfl⟩ (by omega) (t_tl51 hw hv hg (Nat.zero_le _) ?_)
    show Wp d 162 9 [some (.ref 0), some (.int (v))] [.int (Int32.ofNat g), .int (v)] h Q
    refine Wp.if2 rfl (fun (c2 : (Int32.ofNat g) ≤ v) => ?_) (fun (c2 : ¬ ((Int32.ofNat g) ≤ v)) => ?_)
    · refine Wp.seg 1 (pc1 := 27) (ls1 := [some (.ref 0), some (.int (v))]) (st1 := [.int (-3)]) rfl ?_
      exact Wp.reti rfl rfl ((hQ.2 c1).1 c2)
    · refine Wp.seg 2 (pc1 := 15) (ls1 := [some (.ref 0), some (.int (v))]) (st1 := [.int (30), .int (v)]) rfl ?_
      refine Wp.if2 rfl (fun (c3 : (30 : Int32) ≤ v) => ?_) (fun (c3 : ¬ ((30 : Int32) ≤ v)) => ?_)
      · refine Wp.seg 1 (pc1 := 27) (ls1 := [some (.ref 0), some (.int (v))]) (st1 := [.int (-3)]) rfl ?_
        exact Wp.reti rfl rfl (((hQ.2 c1).2 c2).1 c3)
      · exact (((hQ.2 c1).2 c2).2 c3)
set_option maxHeartbeats 4000000 in
theorem t_ctr51 {d : Nat} {Q : KO → Prop} {h : KH} (hw : WF h) {g i : Nat} (hi : i < g) (hg30 : g ≤ 30) (n0 : ¬ (Int32.ofNat i < 0)) (n1 : ¬ (Int32.ofNat g ≤ Int32.ofNat i)) (n2 : ¬ ((30 : Int32) ≤ Int32.ofNat i)) (hv : h.2.1 0 15 = some 51) (hg : h.2.2.1 51 1 = Int32.ofNat g) (hd : 1 ≤ d) (hQ : Q (some (.int (h.2.2.1 52 i)), h)) : Cl d 162 [.ref 0, .int (Int32.ofNat i)] h Q := by
  refine Cl.of (ls := [some (.ref 0), some (.int (Int32.ofNat i))]) rfl rfl ?_
  refine Wp.seg 1 (pc1 := 1) (ls1 := [some (.ref 0), some (.int (Int32.ofNat i))]) (st1 := [.int (Int32.ofNat i)]) rfl ?_
  refine Wp.if1 rfl (fun c1 => absurd c1 (n0)) (fun c1 => ?_)
  refine Wp.seg 2 (pc1 := 6) (ls1 := [some (.ref 0), some (.int (Int32.ofNat i))]) (st1 := [.ref 0, .int (Int32.ofNat i)]) rfl ?_
  refine Wp.invV (d2 := 0) (as := [.ref 0]) (r := [.int (Int32.ofNat i)]) (t := (10, 0)) rfl rfl rfl rfl (WF.t hw 0 rfl) rfl rfl ⟨rfl, rfl⟩ (by omega) (t_tl51 hw hv hg (Nat.zero_le _) ?_)
  show Wp d 162 9 [some (.ref 0), some (.int (Int32.ofNat i))] [.int (Int32.ofNat g), .int (Int32.ofNat i)] h Q
  refine Wp.if2 rfl (fun c2 => absurd c2 (n1)) (fun c2 => ?_)
  refine Wp.seg 2 (pc1 := 15) (ls1 := [some (.ref 0), some (.int (Int32.ofNat i))]) (st1 := [.int (30), .int (Int32.ofNat i)]) rfl ?_
  refine Wp.if2 rfl (fun c3 => absurd c3 (n2)) (fun c3 => ?_)
  refine Wp.seg 1 (pc1 := 19) (ls1 := [some (.ref 0), some (.int (Int32.ofNat i))]) (st1 := [.ref 0]) rfl ?_
  refine Wp.gr (t := (10, 0)) (v := some (51)) rfl (WF.t hw 0 rfl) rfl hv ?_
  show Wp d 162 22 [some (.ref 0), some (.int (Int32.ofNat i))] [.ref 51] h Q
  refine Wp.br rfl rfl ?_
  show Wp d 162 28 [some (.ref 0), some (.int (Int32.ofNat i))] [] h Q
  refine Wp.seg 1 (pc1 := 29) (ls1 := [some (.ref 0), some (.int (Int32.ofNat i))]) (st1 := [.ref 0]) rfl ?_
  refine Wp.gr (t := (10, 0)) (v := some (51)) rfl (WF.t hw 0 rfl) rfl hv ?_
  show Wp d 162 32 [some (.ref 0), some (.int (Int32.ofNat i))] [.ref 51] h Q
  refine Wp.gr (t := (3, 0)) (v := some (52)) rfl (WF.t hw 51 rfl) rfl (WF.r hw 51 0 54 rfl) ?_
  show Wp d 162 35 [some (.ref 0), some (.int (Int32.ofNat i))] [.ref 52] h Q
  refine Wp.seg 1 (pc1 := 36) (ls1 := [some (.ref 0), some (.int (Int32.ofNat i))]) (st1 := [.int (Int32.ofNat i), .ref 52]) rfl ?_
  refine Wp.iald (j := i) (k := 20) (n := 30) rfl (WF.t hw 52 rfl) rfl rfl ((by omega)) (by decide) ?_
  exact Wp.reti rfl rfl hQ
set_option maxHeartbeats 4000000 in
theorem t_ctb53 {d : Nat} {Q : KO → Prop} {h : KH} (hw : WF h) {v : Int32} {g : Nat} (hv : h.2.1 0 15 = some 53) (hg : h.2.2.1 53 1 = Int32.ofNat g) (hd : 1 ≤ d) (hQ : (v < 0 → Q (some (.int (-3)), h)) ∧ (¬ (v < 0) → ((Int32.ofNat g) ≤ v → Q (some (.int (-3)), h)) ∧ (¬ ((Int32.ofNat g) ≤ v) → ((30 : Int32) ≤ v → Q (some (.int (-3)), h)) ∧ (¬ ((30 : Int32) ≤ v) → Wp d 162 18 ([some (.ref 0), some (.int (v))]) [] h Q)))) : Cl d 162 [.ref 0, .int (v)] h Q := by
  refine Cl.of (ls := [some (.ref 0), some (.int (v))]) rfl rfl ?_
  refine Wp.seg 1 (pc1 := 1) (ls1 := [some (.ref 0), some (.int (v))]) (st1 := [.int (v)]) rfl ?_
  refine Wp.if1 rfl (fun (c1 : v < 0) => ?_) (fun (c1 : ¬ (v < 0)) => ?_)
  · refine Wp.seg 1 (pc1 := 27) (ls1 := [some (.ref 0), some (.int (v))]) (st1 := [.int (-3)]) rfl ?_
    exact Wp.reti rfl rfl (hQ.1 c1)
  · refine Wp.seg 2 (pc1 := 6) (ls1 := [some (.ref 0), some (.int (v))]) (st1 := [.ref 0, .int (v)]) rfl ?_
    refine Wp.invV (d2 := 0) (as := [.ref 0]) (r := [.int (v)]) (t := (10, 0)) rfl rfl rfl rfl (WF.t hw 0 rfl) rfl rfl ⟨rfl, rfl⟩ (by omega) (t_tl53 hw hv hg (Nat.zero_le _) ?_)
    show Wp d 162 9 [some (.ref 0), some (.int (v))] [.int (Int32.ofNat g), .int (v)] h Q
    refine Wp.if2 rfl (fun (c2 : (Int32.ofNat g) ≤ v) => ?_) (fun (c2 : ¬ ((Int32.ofNat g) ≤ v)) => ?_)
    · refine Wp.seg 1 (pc1 := 27) (ls1 := [some (.ref 0), some (.int (v))]) (st1 := [.int (-3)]) rfl ?_
      exact Wp.reti rfl rfl ((hQ.2 c1).1 c2)
    · refine Wp.seg 2 (pc1 := 15) (ls1 := [some (.ref 0), some (.int (v))]) (st1 := [.int (30), .int (v)]) rfl ?_
      refine Wp.if2 rfl (fun (c3 : (30 : Int32) ≤ v) => ?_) (fun (c3 : ¬ ((30 : Int32) ≤ v)) => ?_)
      · refine Wp.seg 1 (pc1 := 27) (ls1 := [some (.ref 0), some (.int (v))]) (st1 := [.int (-3)]) rfl ?_
        exact Wp.reti rfl rfl (((hQ.2 c1).2 c2).1 c3)
      · exact (((hQ.2 c1).2 c2).2 c3)
set_option maxHeartbeats 4000000 in
theorem t_ctr53 {d : Nat} {Q : KO → Prop} {h : KH} (hw : WF h) {g i : Nat} (hi : i < g) (hg30 : g ≤ 30) (n0 : ¬ (Int32.ofNat i < 0)) (n1 : ¬ (Int32.ofNat g ≤ Int32.ofNat i)) (n2 : ¬ ((30 : Int32) ≤ Int32.ofNat i)) (hv : h.2.1 0 15 = some 53) (hg : h.2.2.1 53 1 = Int32.ofNat g) (hd : 1 ≤ d) (hQ : Q (some (.int (h.2.2.1 54 i)), h)) : Cl d 162 [.ref 0, .int (Int32.ofNat i)] h Q := by
  refine Cl.of (ls := [some (.ref 0), some (.int (Int32.ofNat i))]) rfl rfl ?_
  refine Wp.seg 1 (pc1 := 1) (ls1 := [some (.ref 0), some (.int (Int32.ofNat i))]) (st1 := [.int (Int32.ofNat i)]) rfl ?_
  refine Wp.if1 rfl (fun c1 => absurd c1 (n0)) (fun c1 => ?_)
  refine Wp.seg 2 (pc1 := 6) (ls1 := [some (.ref 0), some (.int (Int32.ofNat i))]) (st1 := [.ref 0, .int (Int32.ofNat i)]) rfl ?_
  refine Wp.invV (d2 := 0) (as := [.ref 0]) (r := [.int (Int32.ofNat i)]) (t := (10, 0)) rfl rfl rfl rfl (WF.t hw 0 rfl) rfl rfl ⟨rfl, rfl⟩ (by omega) (t_tl53 hw hv hg (Nat.zero_le _) ?_)
  show Wp d 162 9 [some (.ref 0), some (.int (Int32.ofNat i))] [.int (Int32.ofNat g), .int (Int32.ofNat i)] h Q
  refine Wp.if2 rfl (fun c2 => absurd c2 (n1)) (fun c2 => ?_)
  refine Wp.seg 2 (pc1 := 15) (ls1 := [some (.ref 0), some (.int (Int32.ofNat i))]) (st1 := [.int (30), .int (Int32.ofNat i)]) rfl ?_
  refine Wp.if2 rfl (fun c3 => absurd c3 (n2)) (fun c3 => ?_)
  refine Wp.seg 1 (pc1 := 19) (ls1 := [some (.ref 0), some (.int (Int32.ofNat i))]) (st1 := [.ref 0]) rfl ?_
  refine Wp.gr (t := (10, 0)) (v := some (53)) rfl (WF.t hw 0 rfl) rfl hv ?_
  show Wp d 162 22 [some (.ref 0), some (.int (Int32.ofNat i))] [.ref 53] h Q
  refine Wp.br rfl rfl ?_
  show Wp d 162 28 [some (.ref 0), some (.int (Int32.ofNat i))] [] h Q
  refine Wp.seg 1 (pc1 := 29) (ls1 := [some (.ref 0), some (.int (Int32.ofNat i))]) (st1 := [.ref 0]) rfl ?_
  refine Wp.gr (t := (10, 0)) (v := some (53)) rfl (WF.t hw 0 rfl) rfl hv ?_
  show Wp d 162 32 [some (.ref 0), some (.int (Int32.ofNat i))] [.ref 53] h Q
  refine Wp.gr (t := (4, 0)) (v := some (54)) rfl (WF.t hw 53 rfl) rfl (WF.r hw 53 0 55 rfl) ?_
  show Wp d 162 35 [some (.ref 0), some (.int (Int32.ofNat i))] [.ref 54] h Q
  refine Wp.seg 1 (pc1 := 36) (ls1 := [some (.ref 0), some (.int (Int32.ofNat i))]) (st1 := [.int (Int32.ofNat i), .ref 54]) rfl ?_
  refine Wp.iald (j := i) (k := 20) (n := 30) rfl (WF.t hw 54 rfl) rfl rfl ((by omega)) (by decide) ?_
  exact Wp.reti rfl rfl hQ
set_option maxHeartbeats 4000000 in
theorem t_ctb55 {d : Nat} {Q : KO → Prop} {h : KH} (hw : WF h) {v : Int32} {g : Nat} (hv : h.2.1 0 15 = some 55) (hg : h.2.2.1 55 1 = Int32.ofNat g) (hd : 1 ≤ d) (hQ : (v < 0 → Q (some (.int (-3)), h)) ∧ (¬ (v < 0) → ((Int32.ofNat g) ≤ v → Q (some (.int (-3)), h)) ∧ (¬ ((Int32.ofNat g) ≤ v) → ((30 : Int32) ≤ v → Q (some (.int (-3)), h)) ∧ (¬ ((30 : Int32) ≤ v) → Wp d 162 18 ([some (.ref 0), some (.int (v))]) [] h Q)))) : Cl d 162 [.ref 0, .int (v)] h Q := by
  refine Cl.of (ls := [some (.ref 0), some (.int (v))]) rfl rfl ?_
  refine Wp.seg 1 (pc1 := 1) (ls1 := [some (.ref 0), some (.int (v))]) (st1 := [.int (v)]) rfl ?_
  refine Wp.if1 rfl (fun (c1 : v < 0) => ?_) (fun (c1 : ¬ (v < 0)) => ?_)
  · refine Wp.seg 1 (pc1 := 27) (ls1 := [some (.ref 0), some (.int (v))]) (st1 := [.int (-3)]) rfl ?_
    exact Wp.reti rfl rfl (hQ.1 c1)
  · refine Wp.seg 2 (pc1 := 6) (ls1 := [some (.ref 0), some (.int (v))]) (st1 := [.ref 0, .int (v)]) rfl ?_
    refine Wp.invV (d2 := 0) (as := [.ref 0]) (r := [.int (v)]) (t := (10, 0)) rfl rfl rfl rfl (WF.t hw 0 rfl) rfl rfl ⟨rfl, rfl⟩ (by omega) (t_tl55 hw hv hg (Nat.zero_le _) ?_)
    show Wp d 162 9 [some (.ref 0), some (.int (v))] [.int (Int32.ofNat g), .int (v)] h Q
    refine Wp.if2 rfl (fun (c2 : (Int32.ofNat g) ≤ v) => ?_) (fun (c2 : ¬ ((Int32.ofNat g) ≤ v)) => ?_)
    · refine Wp.seg 1 (pc1 := 27) (ls1 := [some (.ref 0), some (.int (v))]) (st1 := [.int (-3)]) rfl ?_
      exact Wp.reti rfl rfl ((hQ.2 c1).1 c2)
    · refine Wp.seg 2 (pc1 := 15) (ls1 := [some (.ref 0), some (.int (v))]) (st1 := [.int (30), .int (v)]) rfl ?_
      refine Wp.if2 rfl (fun (c3 : (30 : Int32) ≤ v) => ?_) (fun (c3 : ¬ ((30 : Int32) ≤ v)) => ?_)
      · refine Wp.seg 1 (pc1 := 27) (ls1 := [some (.ref 0), some (.int (v))]) (st1 := [.int (-3)]) rfl ?_
        exact Wp.reti rfl rfl (((hQ.2 c1).2 c2).1 c3)
      · exact (((hQ.2 c1).2 c2).2 c3)
set_option maxHeartbeats 4000000 in
theorem t_ctr55 {d : Nat} {Q : KO → Prop} {h : KH} (hw : WF h) {g i : Nat} (hi : i < g) (hg30 : g ≤ 30) (n0 : ¬ (Int32.ofNat i < 0)) (n1 : ¬ (Int32.ofNat g ≤ Int32.ofNat i)) (n2 : ¬ ((30 : Int32) ≤ Int32.ofNat i)) (hv : h.2.1 0 15 = some 55) (hg : h.2.2.1 55 1 = Int32.ofNat g) (hd : 1 ≤ d) (hQ : Q (some (.int (h.2.2.1 56 i)), h)) : Cl d 162 [.ref 0, .int (Int32.ofNat i)] h Q := by
  refine Cl.of (ls := [some (.ref 0), some (.int (Int32.ofNat i))]) rfl rfl ?_
  refine Wp.seg 1 (pc1 := 1) (ls1 := [some (.ref 0), some (.int (Int32.ofNat i))]) (st1 := [.int (Int32.ofNat i)]) rfl ?_
  refine Wp.if1 rfl (fun c1 => absurd c1 (n0)) (fun c1 => ?_)
  refine Wp.seg 2 (pc1 := 6) (ls1 := [some (.ref 0), some (.int (Int32.ofNat i))]) (st1 := [.ref 0, .int (Int32.ofNat i)]) rfl ?_
  refine Wp.invV (d2 := 0) (as := [.ref 0]) (r := [.int (Int32.ofNat i)]) (t := (10, 0)) rfl rfl rfl rfl (WF.t hw 0 rfl) rfl rfl ⟨rfl, rfl⟩ (by omega) (t_tl55 hw hv hg (Nat.zero_le _) ?_)
  show Wp d 162 9 [some (.ref 0), some (.int (Int32.ofNat i))] [.int (Int32.ofNat g), .int (Int32.ofNat i)] h Q
  refine Wp.if2 rfl (fun c2 => absurd c2 (n1)) (fun c2 => ?_)
  refine Wp.seg 2 (pc1 := 15) (ls1 := [some (.ref 0), some (.int (Int32.ofNat i))]) (st1 := [.int (30), .int (Int32.ofNat i)]) rfl ?_
  refine Wp.if2 rfl (fun c3 => absurd c3 (n2)) (fun c3 => ?_)
  refine Wp.seg 1 (pc1 := 19) (ls1 := [some (.ref 0), some (.int (Int32.ofNat i))]) (st1 := [.ref 0]) rfl ?_
  refine Wp.gr (t := (10, 0)) (v := some (55)) rfl (WF.t hw 0 rfl) rfl hv ?_
  show Wp d 162 22 [some (.ref 0), some (.int (Int32.ofNat i))] [.ref 55] h Q
  refine Wp.br rfl rfl ?_
  show Wp d 162 28 [some (.ref 0), some (.int (Int32.ofNat i))] [] h Q
  refine Wp.seg 1 (pc1 := 29) (ls1 := [some (.ref 0), some (.int (Int32.ofNat i))]) (st1 := [.ref 0]) rfl ?_
  refine Wp.gr (t := (10, 0)) (v := some (55)) rfl (WF.t hw 0 rfl) rfl hv ?_
  show Wp d 162 32 [some (.ref 0), some (.int (Int32.ofNat i))] [.ref 55] h Q
  refine Wp.gr (t := (8, 0)) (v := some (56)) rfl (WF.t hw 55 rfl) rfl (WF.r hw 55 0 56 rfl) ?_
  show Wp d 162 35 [some (.ref 0), some (.int (Int32.ofNat i))] [.ref 56] h Q
  refine Wp.seg 1 (pc1 := 36) (ls1 := [some (.ref 0), some (.int (Int32.ofNat i))]) (st1 := [.int (Int32.ofNat i), .ref 56]) rfl ?_
  refine Wp.iald (j := i) (k := 20) (n := 30) rfl (WF.t hw 56 rfl) rfl rfl ((by omega)) (by decide) ?_
  exact Wp.reti rfl rfl hQ
set_option maxHeartbeats 4000000 in
theorem t_ctb57 {d : Nat} {Q : KO → Prop} {h : KH} (hw : WF h) {v : Int32} {g : Nat} (hv : h.2.1 0 15 = some 57) (hg : h.2.2.1 57 1 = Int32.ofNat g) (hd : 1 ≤ d) (hQ : (v < 0 → Q (some (.int (-3)), h)) ∧ (¬ (v < 0) → ((Int32.ofNat g) ≤ v → Q (some (.int (-3)), h)) ∧ (¬ ((Int32.ofNat g) ≤ v) → ((30 : Int32) ≤ v → Q (some (.int (-3)), h)) ∧ (¬ ((30 : Int32) ≤ v) → Wp d 162 18 ([some (.ref 0), some (.int (v))]) [] h Q)))) : Cl d 162 [.ref 0, .int (v)] h Q := by
  refine Cl.of (ls := [some (.ref 0), some (.int (v))]) rfl rfl ?_
  refine Wp.seg 1 (pc1 := 1) (ls1 := [some (.ref 0), some (.int (v))]) (st1 := [.int (v)]) rfl ?_
  refine Wp.if1 rfl (fun (c1 : v < 0) => ?_) (fun (c1 : ¬ (v < 0)) => ?_)
  · refine Wp.seg 1 (pc1 := 27) (ls1 := [some (.ref 0), some (.int (v))]) (st1 := [.int (-3)]) rfl ?_
    exact Wp.reti rfl rfl (hQ.1 c1)
  · refine Wp.seg 2 (pc1 := 6) (ls1 := [some (.ref 0), some (.int (v))]) (st1 := [.ref 0, .int (v)]) rfl ?_
    refine Wp.invV (d2 := 0) (as := [.ref 0]) (r := [.int (v)]) (t := (10, 0)) rfl rfl rfl rfl (WF.t hw 0 rfl) rfl rfl ⟨rfl, rfl⟩ (by omega) (t_tl57 hw hv hg (Nat.zero_le _) ?_)
    show Wp d 162 9 [some (.ref 0), some (.int (v))] [.int (Int32.ofNat g), .int (v)] h Q
    refine Wp.if2 rfl (fun (c2 : (Int32.ofNat g) ≤ v) => ?_) (fun (c2 : ¬ ((Int32.ofNat g) ≤ v)) => ?_)
    · refine Wp.seg 1 (pc1 := 27) (ls1 := [some (.ref 0), some (.int (v))]) (st1 := [.int (-3)]) rfl ?_
      exact Wp.reti rfl rfl ((hQ.2 c1).1 c2)
    · refine Wp.seg 2 (pc1 := 15) (ls1 := [some (.ref 0), some (.int (v))]) (st1 := [.int (30), .int (v)]) rfl ?_
      refine Wp.if2 rfl (fun (c3 : (30 : Int32) ≤ v) => ?_) (fun (c3 : ¬ ((30 : Int32) ≤ v)) => ?_)
      · refine Wp.seg 1 (pc1 := 27) (ls1 := [some (.ref 0), some (.int (v))]) (st1 := [.int (-3)]) rfl ?_
        exact Wp.reti rfl rfl (((hQ.2 c1).2 c2).1 c3)
      · exact (((hQ.2 c1).2 c2).2 c3)
set_option maxHeartbeats 4000000 in
theorem t_ctr57 {d : Nat} {Q : KO → Prop} {h : KH} (hw : WF h) {g i : Nat} (hi : i < g) (hg30 : g ≤ 30) (n0 : ¬ (Int32.ofNat i < 0)) (n1 : ¬ (Int32.ofNat g ≤ Int32.ofNat i)) (n2 : ¬ ((30 : Int32) ≤ Int32.ofNat i)) (hv : h.2.1 0 15 = some 57) (hg : h.2.2.1 57 1 = Int32.ofNat g) (hd : 1 ≤ d) (hQ : Q (some (.int (h.2.2.1 58 i)), h)) : Cl d 162 [.ref 0, .int (Int32.ofNat i)] h Q := by
  refine Cl.of (ls := [some (.ref 0), some (.int (Int32.ofNat i))]) rfl rfl ?_
  refine Wp.seg 1 (pc1 := 1) (ls1 := [some (.ref 0), some (.int (Int32.ofNat i))]) (st1 := [.int (Int32.ofNat i)]) rfl ?_
  refine Wp.if1 rfl (fun c1 => absurd c1 (n0)) (fun c1 => ?_)
  refine Wp.seg 2 (pc1 := 6) (ls1 := [some (.ref 0), some (.int (Int32.ofNat i))]) (st1 := [.ref 0, .int (Int32.ofNat i)]) rfl ?_
  refine Wp.invV (d2 := 0) (as := [.ref 0]) (r := [.int (Int32.ofNat i)]) (t := (10, 0)) rfl rfl rfl rfl (WF.t hw 0 rfl) rfl rfl ⟨rfl, rfl⟩ (by omega) (t_tl57 hw hv hg (Nat.zero_le _) ?_)
  show Wp d 162 9 [some (.ref 0), some (.int (Int32.ofNat i))] [.int (Int32.ofNat g), .int (Int32.ofNat i)] h Q
  refine Wp.if2 rfl (fun c2 => absurd c2 (n1)) (fun c2 => ?_)
  refine Wp.seg 2 (pc1 := 15) (ls1 := [some (.ref 0), some (.int (Int32.ofNat i))]) (st1 := [.int (30), .int (Int32.ofNat i)]) rfl ?_
  refine Wp.if2 rfl (fun c3 => absurd c3 (n2)) (fun c3 => ?_)
  refine Wp.seg 1 (pc1 := 19) (ls1 := [some (.ref 0), some (.int (Int32.ofNat i))]) (st1 := [.ref 0]) rfl ?_
  refine Wp.gr (t := (10, 0)) (v := some (57)) rfl (WF.t hw 0 rfl) rfl hv ?_
  show Wp d 162 22 [some (.ref 0), some (.int (Int32.ofNat i))] [.ref 57] h Q
  refine Wp.br rfl rfl ?_
  show Wp d 162 28 [some (.ref 0), some (.int (Int32.ofNat i))] [] h Q
  refine Wp.seg 1 (pc1 := 29) (ls1 := [some (.ref 0), some (.int (Int32.ofNat i))]) (st1 := [.ref 0]) rfl ?_
  refine Wp.gr (t := (10, 0)) (v := some (57)) rfl (WF.t hw 0 rfl) rfl hv ?_
  show Wp d 162 32 [some (.ref 0), some (.int (Int32.ofNat i))] [.ref 57] h Q
  refine Wp.gr (t := (2, 0)) (v := some (58)) rfl (WF.t hw 57 rfl) rfl (WF.r hw 57 0 57 rfl) ?_
  show Wp d 162 35 [some (.ref 0), some (.int (Int32.ofNat i))] [.ref 58] h Q
  refine Wp.seg 1 (pc1 := 36) (ls1 := [some (.ref 0), some (.int (Int32.ofNat i))]) (st1 := [.int (Int32.ofNat i), .ref 58]) rfl ?_
  refine Wp.iald (j := i) (k := 20) (n := 30) rfl (WF.t hw 58 rfl) rfl rfl ((by omega)) (by decide) ?_
  exact Wp.reti rfl rfl hQ
set_option maxHeartbeats 4000000 in
theorem t_mtb {d : Nat} {Q : KO → Prop} {h : KH} (hw : WF h) {v : Int32} {g : Nat} (hg30 : g ≤ 30) (h29 : h.2.2.1 59 29 = Int32.ofNat g) (q : inB v 0 ((g : Int) - 1) = false) (hd : 1 ≤ d) (hQ : Q (some (.int (-3)), h)) : Cl d 285 [.ref 59, .int (v)] h Q := by
  refine Cl.of (ls := [some (.ref 59), some (.int (v))]) rfl rfl ?_
  refine Wp.seg 3 (pc1 := 3) (ls1 := [some (.ref 59), some (.int (v))]) (st1 := [.ref 59, .int (0), .int (v)]) rfl ?_
  refine Wp.gi (t := (11, 0)) rfl (WF.t hw 59 rfl) (Or.inl rfl) ?_
  rw [show h.2.2.1 59 29 = Int32.ofNat g from h29]
  refine Wp.seg 2 (pc1 := 8) (ls1 := [some (.ref 59), some (.int (v))]) (st1 := [.int ((Int32.ofNat g) - (1 : Int32)), .int (0), .int (v)]) rfl ?_
  refine Wp.inv (d2 := 0) (as := [.int (v), .int (0), .int ((Int32.ofNat g) - (1 : Int32))]) (r := []) rfl rfl rfl rfl rfl rfl (by omega) (s_inB (x := 0) (y := (g : Int) - 1) rfl (zs (znat (n := g) (by omega)) (n := 1) rfl (by omega)) ?_)
  show Wp d 285 11 [some (.ref 59), some (.int (v))] [.int (b32 (inB v 0 ((g : Int) - 1)))] h Q
  refine Wp.ifz rfl (fun c1 => ?_) (fun c1 => absurd (c1.symm.trans (q)) (by decide))
  refine Wp.seg 1 (pc1 := 25) (ls1 := [some (.ref 59), some (.int (v))]) (st1 := [.int (-3)]) rfl ?_
  exact Wp.reti rfl rfl hQ
set_option maxHeartbeats 4000000 in
theorem t_mtr {d : Nat} {Q : KO → Prop} {h : KH} (hw : WF h) {i : Nat} {g : Nat} (hg30 : g ≤ 30) (h29 : h.2.2.1 59 29 = Int32.ofNat g) (hi : i < g) (q : inB (Int32.ofNat i) 0 ((g : Int) - 1) = true) (hd : 1 ≤ d) (hQ : Q (some (.int (h.2.2.1 74 i)), h)) : Cl d 285 [.ref 59, .int (Int32.ofNat i)] h Q := by
  refine Cl.of (ls := [some (.ref 59), some (.int (Int32.ofNat i))]) rfl rfl ?_
  refine Wp.seg 3 (pc1 := 3) (ls1 := [some (.ref 59), some (.int (Int32.ofNat i))]) (st1 := [.ref 59, .int (0), .int (Int32.ofNat i)]) rfl ?_
  refine Wp.gi (t := (11, 0)) rfl (WF.t hw 59 rfl) (Or.inl rfl) ?_
  rw [show h.2.2.1 59 29 = Int32.ofNat g from h29]
  refine Wp.seg 2 (pc1 := 8) (ls1 := [some (.ref 59), some (.int (Int32.ofNat i))]) (st1 := [.int ((Int32.ofNat g) - (1 : Int32)), .int (0), .int (Int32.ofNat i)]) rfl ?_
  refine Wp.inv (d2 := 0) (as := [.int (Int32.ofNat i), .int (0), .int ((Int32.ofNat g) - (1 : Int32))]) (r := []) rfl rfl rfl rfl rfl rfl (by omega) (s_inB (x := 0) (y := (g : Int) - 1) rfl (zs (znat (n := g) (by omega)) (n := 1) rfl (by omega)) ?_)
  show Wp d 285 11 [some (.ref 59), some (.int (Int32.ofNat i))] [.int (b32 (inB (Int32.ofNat i) 0 ((g : Int) - 1)))] h Q
  refine Wp.ifz rfl (fun c1 => absurd (c1.symm.trans (q)) (by decide)) (fun c1 => ?_)
  refine Wp.seg 1 (pc1 := 15) (ls1 := [some (.ref 59), some (.int (Int32.ofNat i))]) (st1 := [.ref 59]) rfl ?_
  refine Wp.gr (t := (11, 0)) (v := some (74)) rfl (WF.t hw 59 rfl) rfl (WF.r hw 59 28 72 rfl) ?_
  show Wp d 285 18 [some (.ref 59), some (.int (Int32.ofNat i))] [.ref 74] h Q
  refine Wp.seg 1 (pc1 := 19) (ls1 := [some (.ref 59), some (.int (Int32.ofNat i))]) (st1 := [.int (Int32.ofNat i), .ref 74]) rfl ?_
  refine Wp.iald (j := i) (k := 20) (n := 30) rfl (WF.t hw 74 rfl) rfl rfl ((by omega)) (by decide) ?_
  refine Wp.seg 1 (pc1 := 25) (ls1 := [some (.ref 59), some (.int (Int32.ofNat i))]) (st1 := [.int (h.2.2.1 74 i)]) rfl ?_
  exact Wp.reti rfl rfl hQ
theorem trace_get {h : KH} (ho : traceOK h) : ∃ g, g ≤ 30 ∧ h.2.2.1 59 29 = Int32.ofNat g := by
  rcases ho with ⟨_, e⟩ | ⟨t, g, _, _, b3, _, b5, _⟩
  · exact ⟨0, by decide, e⟩
  · exact ⟨g, b3, b5⟩
theorem J_trace {h : KH} (hi : Inv h) (v : Int32) : JI h 162 [.ref 0, .int v] 285 [.ref 59, .int v] := by
  have hw := hi.1
  rcases hi.2.2.1.2.2.2.2.2 with ⟨e1, e2⟩ | ⟨t, g, b1, b2, b3, b4, b5, b6⟩
  · refine JI_same (v := -3) (dc := 1) (dm := 1) hi (t_ctrN hw e1 (Nat.le_refl _) (by simp)) (t_mtb hw (g := 0) (by decide) e2 (inB_f (fun z => by omega)) (Nat.le_refl _) rfl)
  rcases hq : inB v 0 ((g : Int) - 1) with _ | _
  · have nq : ¬ (0 ≤ v.toInt ∧ v.toInt ≤ (g : Int) - 1) := of_decide_eq_false hq
    refine JI_same (v := -3) (dc := 1) (dm := 1) hi ?_ (t_mtb hw b3 b5 hq (Nat.le_refl _) rfl)
    have fin : ∀ {P : Prop}, ¬ (v < 0) → ¬ ((Int32.ofNat g) ≤ v) → P := fun c1 c2 => by
      have a1 := i32F (rfl : v.toInt = v.toInt) (show (0 : Int32).toInt = 0 from rfl) c1
      have a2 := i32G (znat (n := g) (by omega)) (rfl : v.toInt = v.toInt) c2
      exact absurd ⟨a1, by omega⟩ nq
    simp only [thingA, List.mem_cons, List.not_mem_nil, or_false] at b1
    rcases b1 with rfl | rfl | rfl | rfl | rfl
    · exact t_ctb49 hw b2 b4 (Nat.le_refl _) ⟨fun _ => rfl, fun c1 => ⟨fun _ => rfl, fun c2 => fin c1 c2⟩⟩
    · exact t_ctb51 hw b2 b4 (Nat.le_refl _) ⟨fun _ => rfl, fun c1 => ⟨fun _ => rfl, fun c2 => fin c1 c2⟩⟩
    · exact t_ctb53 hw b2 b4 (Nat.le_refl _) ⟨fun _ => rfl, fun c1 => ⟨fun _ => rfl, fun c2 => fin c1 c2⟩⟩
    · exact t_ctb55 hw b2 b4 (Nat.le_refl _) ⟨fun _ => rfl, fun c1 => ⟨fun _ => rfl, fun c2 => fin c1 c2⟩⟩
    · exact t_ctb57 hw b2 b4 (Nat.le_refl _) ⟨fun _ => rfl, fun c1 => ⟨fun _ => rfl, fun c2 => fin c1 c2⟩⟩
  · obtain ⟨i, hi', rfl⟩ := inB_lt hq
    have n0 := nlt (s := i) (by omega)
    have n1 : ¬ (Int32.ofNat g ≤ Int32.ofNat i) := fun c => by have := (nle (by omega) (by omega)).mp c; omega
    have n2 : ¬ ((30 : Int32) ≤ Int32.ofNat i) := fun c => by have := (nle (a := 30) (by omega) (by omega)).mp c; omega
    have e := b6 i hi'
    simp only [thingA, List.mem_cons, List.not_mem_nil, or_false] at b1
    rcases b1 with rfl | rfl | rfl | rfl | rfl
    · exact JI_same (dc := 1) (dm := 1) hi (t_ctr49 hw hi' b3 n0 n1 n2 b2 b4 (Nat.le_refl _) rfl) (t_mtr hw b3 b5 hi' hq (Nat.le_refl _) (by rw [← e]))
    · exact JI_same (dc := 1) (dm := 1) hi (t_ctr51 hw hi' b3 n0 n1 n2 b2 b4 (Nat.le_refl _) rfl) (t_mtr hw b3 b5 hi' hq (Nat.le_refl _) (by rw [← e]))
    · exact JI_same (dc := 1) (dm := 1) hi (t_ctr53 hw hi' b3 n0 n1 n2 b2 b4 (Nat.le_refl _) rfl) (t_mtr hw b3 b5 hi' hq (Nat.le_refl _) (by rw [← e]))
    · exact JI_same (dc := 1) (dm := 1) hi (t_ctr55 hw hi' b3 n0 n1 n2 b2 b4 (Nat.le_refl _) rfl) (t_mtr hw b3 b5 hi' hq (Nat.le_refl _) (by rw [← e]))
    · exact JI_same (dc := 1) (dm := 1) hi (t_ctr57 hw hi' b3 n0 n1 n2 b2 b4 (Nat.le_refl _) rfl) (t_mtr hw b3 b5 hi' hq (Nat.le_refl _) (by rw [← e]))
set_option maxHeartbeats 4000000 in
theorem t_cmn0 {d : Nat} {Q : KO → Prop} {h : KH} (hw : WF h) {A : Nat → Int32} {RL : List Rul} {n c dn en : Nat} (hk : cityOK h 1 A RL n c dn en) (hd : 3 ≤ d) (hQ : Q (some (.int (Int32.ofNat n)), h)) : Cl d 163 [.ref 0, .int (0)] h Q := by
  refine Cl.of (ls := [some (.ref 0), some (.int (0))]) rfl rfl ?_
  refine Wp.seg 1 (pc1 := 1) (ls1 := [some (.ref 0), some (.int (0))]) (st1 := [.int (0)]) rfl ?_
  refine Wp.br (pc1 := 44) (st1 := []) rfl rfl ?_
  refine Wp.seg 1 (pc1 := 45) (ls1 := [some (.ref 0), some (.int (0))]) (st1 := [.ref 0]) rfl ?_
  refine Wp.gr (t := (10, 0)) (v := some (1)) rfl (WF.t hw 0 rfl) rfl (WF.r hw 0 0 0 rfl) ?_
  show Wp d 163 48 [some (.ref 0), some (.int (0))] [.ref 1] h Q
  refine Wp.gi (t := (1, 0)) rfl (WF.t hw 1 rfl) (Or.inl rfl) ?_
  rw [show h.2.2.1 1 1 = Int32.ofNat n from hk.2.1.2.1]
  exact Wp.reti rfl rfl hQ
set_option maxHeartbeats 4000000 in
theorem t_mmn0 {d : Nat} {Q : KO → Prop} {h : KH} (hw : WF h) {A : Nat → Int32} {RL : List Rul} {n c dn en : Nat} (hk : refOK h A RL n c dn en) (hd : 4 ≤ d) (hQ : Q (some (.int (Int32.ofNat n)), h)) : Cl d 286 [.ref 59, .int (0)] h Q := by
  refine Cl.of (ls := [some (.ref 59), some (.int (0))]) rfl rfl ?_
  refine Wp.seg 1 (pc1 := 1) (ls1 := [some (.ref 59), some (.int (0))]) (st1 := [.int (0)]) rfl ?_
  refine Wp.br (pc1 := 44) (st1 := []) rfl rfl ?_
  refine Wp.seg 1 (pc1 := 45) (ls1 := [some (.ref 59), some (.int (0))]) (st1 := [.ref 59]) rfl ?_
  refine Wp.gr (t := (11, 0)) (v := some (60)) rfl (WF.t hw 59 rfl) rfl (WF.r hw 59 0 58 rfl) ?_
  show Wp d 286 48 [some (.ref 59), some (.int (0))] [.ref 60] h Q
  refine Wp.seg 1 (pc1 := 50) (ls1 := [some (.ref 59), some (.int (0))]) (st1 := [.int (8), .ref 60]) rfl ?_
  refine Wp.iald (j := 8) (k := 20) (n := 585) rfl (WF.t hw 60 rfl) rfl rfl (by decide) (by decide) ?_
  rw [show h.2.2.1 60 8 = Int32.ofNat n from hk.2.1.2.1]
  exact Wp.reti rfl rfl hQ
set_option maxHeartbeats 4000000 in
theorem t_cmn1 {d : Nat} {Q : KO → Prop} {h : KH} (hw : WF h) (hv : h.2.1 1 10 = none) (hd : 3 ≤ d) (hQ : Q (some (.int (0)), h)) : Cl d 163 [.ref 0, .int (1)] h Q := by
  refine Cl.of (ls := [some (.ref 0), some (.int (1))]) rfl rfl ?_
  refine Wp.seg 1 (pc1 := 1) (ls1 := [some (.ref 0), some (.int (1))]) (st1 := [.int (1)]) rfl ?_
  refine Wp.br (pc1 := 52) (st1 := []) rfl rfl ?_
  refine Wp.seg 1 (pc1 := 53) (ls1 := [some (.ref 0), some (.int (1))]) (st1 := [.ref 0]) rfl ?_
  refine Wp.gr (t := (10, 0)) (v := some (1)) rfl (WF.t hw 0 rfl) rfl (WF.r hw 0 0 0 rfl) ?_
  show Wp d 163 56 [some (.ref 0), some (.int (1))] [.ref 1] h Q
  refine Wp.gr (t := (1, 0)) (v := none) rfl (WF.t hw 1 rfl) rfl hv ?_
  show Wp d 163 59 [some (.ref 0), some (.int (1))] [.null] h Q
  refine Wp.br rfl rfl ?_
  show Wp d 163 62 [some (.ref 0), some (.int (1))] [] h Q
  refine Wp.seg 2 (pc1 := 76) (ls1 := [some (.ref 0), some (.int (1))]) (st1 := [.int (0)]) rfl ?_
  exact Wp.reti rfl rfl hQ
set_option maxHeartbeats 4000000 in
theorem t_cmn1o {d : Nat} {Q : KO → Prop} {h : KH} (hw : WF h) {o L : Nat} (hv : h.2.1 1 10 = some o) (ho : h.1 o = (9, 0)) (hL : h.2.2.1 o 4 = Int32.ofNat L) (hd : 3 ≤ d) (hQ : Q (some (.int (Int32.ofNat L)), h)) : Cl d 163 [.ref 0, .int (1)] h Q := by
  refine Cl.of (ls := [some (.ref 0), some (.int (1))]) rfl rfl ?_
  refine Wp.seg 1 (pc1 := 1) (ls1 := [some (.ref 0), some (.int (1))]) (st1 := [.int (1)]) rfl ?_
  refine Wp.br (pc1 := 52) (st1 := []) rfl rfl ?_
  refine Wp.seg 1 (pc1 := 53) (ls1 := [some (.ref 0), some (.int (1))]) (st1 := [.ref 0]) rfl ?_
  refine Wp.gr (t := (10, 0)) (v := some (1)) rfl (WF.t hw 0 rfl) rfl (WF.r hw 0 0 0 rfl) ?_
  show Wp d 163 56 [some (.ref 0), some (.int (1))] [.ref 1] h Q
  refine Wp.gr (t := (1, 0)) (v := some (o)) rfl (WF.t hw 1 rfl) rfl hv ?_
  show Wp d 163 59 [some (.ref 0), some (.int (1))] [.ref o] h Q
  refine Wp.br rfl rfl ?_
  show Wp d 163 66 [some (.ref 0), some (.int (1))] [] h Q
  refine Wp.seg 1 (pc1 := 67) (ls1 := [some (.ref 0), some (.int (1))]) (st1 := [.ref 0]) rfl ?_
  refine Wp.gr (t := (10, 0)) (v := some (1)) rfl (WF.t hw 0 rfl) rfl (WF.r hw 0 0 0 rfl) ?_
  show Wp d 163 70 [some (.ref 0), some (.int (1))] [.ref 1] h Q
  refine Wp.gr (t := (1, 0)) (v := some (o)) rfl (WF.t hw 1 rfl) rfl hv ?_
  show Wp d 163 73 [some (.ref 0), some (.int (1))] [.ref o] h Q
  refine Wp.gi (t := (9, 0)) rfl ho (Or.inl rfl) ?_
  rw [show h.2.2.1 o 4 = Int32.ofNat L from hL]
  exact Wp.reti rfl rfl hQ
set_option maxHeartbeats 4000000 in
theorem t_mmn1 {d : Nat} {Q : KO → Prop} {h : KH} (hw : WF h) {A : Nat → Int32} {RL : List Rul} {n c dn en : Nat} (hk : refOK h A RL n c dn en) (hd : 4 ≤ d) (hQ : Q (some (.int (Int32.ofNat RL.length)), h)) : Cl d 286 [.ref 59, .int (1)] h Q := by
  refine Cl.of (ls := [some (.ref 59), some (.int (1))]) rfl rfl ?_
  refine Wp.seg 1 (pc1 := 1) (ls1 := [some (.ref 59), some (.int (1))]) (st1 := [.int (1)]) rfl ?_
  refine Wp.br (pc1 := 52) (st1 := []) rfl rfl ?_
  refine Wp.seg 1 (pc1 := 53) (ls1 := [some (.ref 59), some (.int (1))]) (st1 := [.ref 59]) rfl ?_
  refine Wp.gr (t := (11, 0)) (v := some (60)) rfl (WF.t hw 59 rfl) rfl (WF.r hw 59 0 58 rfl) ?_
  show Wp d 286 56 [some (.ref 59), some (.int (1))] [.ref 60] h Q
  refine Wp.seg 1 (pc1 := 58) (ls1 := [some (.ref 59), some (.int (1))]) (st1 := [.int (10), .ref 60]) rfl ?_
  refine Wp.iald (j := 10) (k := 20) (n := 585) rfl (WF.t hw 60 rfl) rfl rfl (by decide) (by decide) ?_
  rw [show h.2.2.1 60 10 = Int32.ofNat RL.length from hk.2.2.1]
  exact Wp.reti rfl rfl hQ
set_option maxHeartbeats 4000000 in
theorem t_cmn2 {d : Nat} {Q : KO → Prop} {h : KH} (hw : WF h) {A : Nat → Int32} {RL : List Rul} {n c dn en : Nat} (hk : cityOK h 1 A RL n c dn en) (hd : 3 ≤ d) (hQ : Q (some (.int (f_bitCount (shA c A))), h)) : Cl d 163 [.ref 0, .int (2)] h Q := by
  refine Cl.of (ls := [some (.ref 0), some (.int (2))]) rfl rfl ?_
  refine Wp.seg 1 (pc1 := 1) (ls1 := [some (.ref 0), some (.int (2))]) (st1 := [.int (2)]) rfl ?_
  refine Wp.br (pc1 := 77) (st1 := []) rfl rfl ?_
  refine Wp.seg 1 (pc1 := 78) (ls1 := [some (.ref 0), some (.int (2))]) (st1 := [.ref 0]) rfl ?_
  refine Wp.gr (t := (10, 0)) (v := some (1)) rfl (WF.t hw 0 rfl) rfl (WF.r hw 0 0 0 rfl) ?_
  show Wp d 163 81 [some (.ref 0), some (.int (2))] [.ref 1] h Q
  refine Wp.invV (d2 := 2) (as := [.ref 1]) (r := []) (t := (1, 0)) rfl rfl rfl rfl (WF.t hw 1 rfl) rfl rfl ⟨rfl, rfl⟩ (by omega) (s_shutC hw cA1 hk (Nat.le_refl _) ?_)
  show Wp d 163 84 [some (.ref 0), some (.int (2))] [.int (shA c A)] h Q
  refine Wp.inv (d2 := 0) (as := [.int (shA c A)]) (r := []) rfl rfl rfl rfl rfl rfl (by omega) (s_bitCount (Nat.zero_le _) ?_)
  show Wp d 163 87 [some (.ref 0), some (.int (2))] [.int (f_bitCount (shA c A))] h Q
  exact Wp.reti rfl rfl hQ
set_option maxHeartbeats 4000000 in
theorem t_mmn2 {d : Nat} {Q : KO → Prop} {h : KH} (hw : WF h) {A : Nat → Int32} {RL : List Rul} {n c dn en : Nat} (hk : refOK h A RL n c dn en) (hz : clrR 17 (shA c A) = 0) (hd : 4 ≤ d) (hQ : Q (some (.int (popS (shA c A))), h)) : Cl d 286 [.ref 59, .int (2)] h Q := by
  refine Cl.of (ls := [some (.ref 59), some (.int (2))]) rfl rfl ?_
  refine Wp.seg 1 (pc1 := 1) (ls1 := [some (.ref 59), some (.int (2))]) (st1 := [.int (2)]) rfl ?_
  refine Wp.br (pc1 := 60) (st1 := []) rfl rfl ?_
  refine Wp.seg 1 (pc1 := 61) (ls1 := [some (.ref 59), some (.int (2))]) (st1 := [.ref 59]) rfl ?_
  refine Wp.invV (d2 := 3) (as := [.ref 59]) (r := []) (t := (11, 0)) rfl rfl rfl rfl (WF.t hw 59 rfl) rfl rfl ⟨rfl, rfl⟩ (by omega) (r_shut hw hk (Nat.le_refl _) ?_)
  show Wp d 286 64 [some (.ref 59), some (.int (2))] [.int (shA c A)] h Q
  refine Wp.inv (d2 := 0) (as := [.int (shA c A)]) (r := []) rfl rfl rfl rfl rfl rfl (by omega) (s_bits hz ?_)
  show Wp d 286 67 [some (.ref 59), some (.int (2))] [.int (popS (shA c A))] h Q
  exact Wp.reti rfl rfl hQ
set_option maxHeartbeats 4000000 in
theorem t_cmn3 {d : Nat} {Q : KO → Prop} {h : KH} (hw : WF h) {RP : List (Nat × Nat × Nat)} (hc : crep h RP (h.2.1 1 11)) (hd : 3 ≤ d) (hQ : Q (some (.int (Int32.ofNat RP.length)), h)) : Cl d 163 [.ref 0, .int (3)] h Q := by
  refine Cl.of (ls := [some (.ref 0), some (.int (3))]) rfl rfl ?_
  refine Wp.seg 1 (pc1 := 1) (ls1 := [some (.ref 0), some (.int (3))]) (st1 := [.int (3)]) rfl ?_
  refine Wp.br (pc1 := 88) (st1 := []) rfl rfl ?_
  refine Wp.seg 1 (pc1 := 89) (ls1 := [some (.ref 0), some (.int (3))]) (st1 := [.ref 0]) rfl ?_
  refine Wp.gr (t := (10, 0)) (v := some (1)) rfl (WF.t hw 0 rfl) rfl (WF.r hw 0 0 0 rfl) ?_
  show Wp d 163 92 [some (.ref 0), some (.int (3))] [.ref 1] h Q
  refine Wp.invV (d2 := 0) (as := [.ref 1]) (r := []) (t := (1, 0)) rfl rfl rfl rfl (WF.t hw 1 rfl) rfl rfl ⟨rfl, rfl⟩ (by omega) (s_rcount hw hc ?_)
  show Wp d 163 95 [some (.ref 0), some (.int (3))] [.int (Int32.ofNat RP.length)] h Q
  exact Wp.reti rfl rfl hQ
set_option maxHeartbeats 4000000 in
theorem t_mmn3 {d : Nat} {Q : KO → Prop} {h : KH} (hw : WF h) {RP : List (Nat × Nat × Nat)} (h9 : h.2.2.1 60 9 = Int32.ofNat RP.length) (hd : 4 ≤ d) (hQ : Q (some (.int (Int32.ofNat RP.length)), h)) : Cl d 286 [.ref 59, .int (3)] h Q := by
  refine Cl.of (ls := [some (.ref 59), some (.int (3))]) rfl rfl ?_
  refine Wp.seg 1 (pc1 := 1) (ls1 := [some (.ref 59), some (.int (3))]) (st1 := [.int (3)]) rfl ?_
  refine Wp.br (pc1 := 68) (st1 := []) rfl rfl ?_
  refine Wp.seg 1 (pc1 := 69) (ls1 := [some (.ref 59), some (.int (3))]) (st1 := [.ref 59]) rfl ?_
  refine Wp.gr (t := (11, 0)) (v := some (60)) rfl (WF.t hw 59 rfl) rfl (WF.r hw 59 0 58 rfl) ?_
  show Wp d 286 72 [some (.ref 59), some (.int (3))] [.ref 60] h Q
  refine Wp.seg 1 (pc1 := 74) (ls1 := [some (.ref 59), some (.int (3))]) (st1 := [.int (9), .ref 60]) rfl ?_
  refine Wp.iald (j := 9) (k := 20) (n := 585) rfl (WF.t hw 60 rfl) rfl rfl (by decide) (by decide) ?_
  rw [show h.2.2.1 60 9 = Int32.ofNat RP.length from h9]
  exact Wp.reti rfl rfl hQ
set_option maxHeartbeats 4000000 in
theorem t_cmn4 {d : Nat} {Q : KO → Prop} {h : KH} (hw : WF h) {R : Nat} (h7 : h.2.2.1 0 7 = Int32.ofNat R) (hd : 3 ≤ d) (hQ : Q (some (.int (Int32.ofNat R)), h)) : Cl d 163 [.ref 0, .int (4)] h Q := by
  refine Cl.of (ls := [some (.ref 0), some (.int (4))]) rfl rfl ?_
  refine Wp.seg 1 (pc1 := 1) (ls1 := [some (.ref 0), some (.int (4))]) (st1 := [.int (4)]) rfl ?_
  refine Wp.br (pc1 := 96) (st1 := []) rfl rfl ?_
  refine Wp.seg 1 (pc1 := 97) (ls1 := [some (.ref 0), some (.int (4))]) (st1 := [.ref 0]) rfl ?_
  refine Wp.gi (t := (10, 0)) rfl (WF.t hw 0 rfl) (Or.inl rfl) ?_
  rw [show h.2.2.1 0 7 = Int32.ofNat R from h7]
  exact Wp.reti rfl rfl hQ
set_option maxHeartbeats 4000000 in
theorem t_mmn4 {d : Nat} {Q : KO → Prop} {h : KH} (hw : WF h) {R : Nat} (h20 : h.2.2.1 59 20 = Int32.ofNat R) (hd : 4 ≤ d) (hQ : Q (some (.int (Int32.ofNat R)), h)) : Cl d 286 [.ref 59, .int (4)] h Q := by
  refine Cl.of (ls := [some (.ref 59), some (.int (4))]) rfl rfl ?_
  refine Wp.seg 1 (pc1 := 1) (ls1 := [some (.ref 59), some (.int (4))]) (st1 := [.int (4)]) rfl ?_
  refine Wp.br (pc1 := 76) (st1 := []) rfl rfl ?_
  refine Wp.seg 1 (pc1 := 77) (ls1 := [some (.ref 59), some (.int (4))]) (st1 := [.ref 59]) rfl ?_
  refine Wp.gi (t := (11, 0)) rfl (WF.t hw 59 rfl) (Or.inl rfl) ?_
  rw [show h.2.2.1 59 20 = Int32.ofNat R from h20]
  exact Wp.reti rfl rfl hQ
set_option maxHeartbeats 4000000 in
theorem t_cmn5 {d : Nat} {Q : KO → Prop} {h : KH} (hw : WF h) {T : Nat} (hT : h.2.2.1 29 1 = Int32.ofNat T) (hd : 3 ≤ d) (hQ : Q (some (.int (Int32.ofNat T)), h)) : Cl d 163 [.ref 0, .int (5)] h Q := by
  refine Cl.of (ls := [some (.ref 0), some (.int (5))]) rfl rfl ?_
  refine Wp.seg 1 (pc1 := 1) (ls1 := [some (.ref 0), some (.int (5))]) (st1 := [.int (5)]) rfl ?_
  refine Wp.br (pc1 := 101) (st1 := []) rfl rfl ?_
  refine Wp.seg 1 (pc1 := 102) (ls1 := [some (.ref 0), some (.int (5))]) (st1 := [.ref 0]) rfl ?_
  refine Wp.gr (t := (10, 0)) (v := some (29)) rfl (WF.t hw 0 rfl) rfl (WF.r hw 0 5 4 rfl) ?_
  show Wp d 163 105 [some (.ref 0), some (.int (5))] [.ref 29] h Q
  refine Wp.gi (t := (6, 0)) rfl (WF.t hw 29 rfl) (Or.inl rfl) ?_
  rw [show h.2.2.1 29 1 = Int32.ofNat T from hT]
  exact Wp.reti rfl rfl hQ
set_option maxHeartbeats 4000000 in
theorem t_mmn5 {d : Nat} {Q : KO → Prop} {h : KH} (hw : WF h) {T : Nat} (hT : h.2.2.1 59 5 = Int32.ofNat T) (hd : 4 ≤ d) (hQ : Q (some (.int (Int32.ofNat T)), h)) : Cl d 286 [.ref 59, .int (5)] h Q := by
  refine Cl.of (ls := [some (.ref 59), some (.int (5))]) rfl rfl ?_
  refine Wp.seg 1 (pc1 := 1) (ls1 := [some (.ref 59), some (.int (5))]) (st1 := [.int (5)]) rfl ?_
  refine Wp.br (pc1 := 81) (st1 := []) rfl rfl ?_
  refine Wp.seg 1 (pc1 := 82) (ls1 := [some (.ref 59), some (.int (5))]) (st1 := [.ref 59]) rfl ?_
  refine Wp.gi (t := (11, 0)) rfl (WF.t hw 59 rfl) (Or.inl rfl) ?_
  rw [show h.2.2.1 59 5 = Int32.ofNat T from hT]
  exact Wp.reti rfl rfl hQ
set_option maxHeartbeats 4000000 in
theorem t_cmn6n {d : Nat} {Q : KO → Prop} {h : KH} (hw : WF h) (hv : h.2.1 0 15 = none) (hd : 3 ≤ d) (hQ : Q (some (.int (0)), h)) : Cl d 163 [.ref 0, .int (6)] h Q := by
  refine Cl.of (ls := [some (.ref 0), some (.int (6))]) rfl rfl ?_
  refine Wp.seg 1 (pc1 := 1) (ls1 := [some (.ref 0), some (.int (6))]) (st1 := [.int (6)]) rfl ?_
  refine Wp.br (pc1 := 109) (st1 := []) rfl rfl ?_
  refine Wp.seg 1 (pc1 := 110) (ls1 := [some (.ref 0), some (.int (6))]) (st1 := [.ref 0]) rfl ?_
  refine Wp.invV (d2 := 0) (as := [.ref 0]) (r := []) (t := (10, 0)) rfl rfl rfl rfl (WF.t hw 0 rfl) rfl rfl ⟨rfl, rfl⟩ (by omega) (t_tln hw hv (Nat.zero_le _) ?_)
  show Wp d 163 113 [some (.ref 0), some (.int (6))] [.int (0)] h Q
  exact Wp.reti rfl rfl hQ
set_option maxHeartbeats 4000000 in
theorem t_cmn649 {d : Nat} {Q : KO → Prop} {h : KH} (hw : WF h) {g : Nat} (hv : h.2.1 0 15 = some 49) (hg : h.2.2.1 49 1 = Int32.ofNat g) (hd : 3 ≤ d) (hQ : Q (some (.int (Int32.ofNat g)), h)) : Cl d 163 [.ref 0, .int (6)] h Q := by
  refine Cl.of (ls := [some (.ref 0), some (.int (6))]) rfl rfl ?_
  refine Wp.seg 1 (pc1 := 1) (ls1 := [some (.ref 0), some (.int (6))]) (st1 := [.int (6)]) rfl ?_
  refine Wp.br (pc1 := 109) (st1 := []) rfl rfl ?_
  refine Wp.seg 1 (pc1 := 110) (ls1 := [some (.ref 0), some (.int (6))]) (st1 := [.ref 0]) rfl ?_
  refine Wp.invV (d2 := 0) (as := [.ref 0]) (r := []) (t := (10, 0)) rfl rfl rfl rfl (WF.t hw 0 rfl) rfl rfl ⟨rfl, rfl⟩ (by omega) (t_tl49 hw hv hg (Nat.zero_le _) ?_)
  show Wp d 163 113 [some (.ref 0), some (.int (6))] [.int (Int32.ofNat g)] h Q
  exact Wp.reti rfl rfl hQ
set_option maxHeartbeats 4000000 in
theorem t_cmn651 {d : Nat} {Q : KO → Prop} {h : KH} (hw : WF h) {g : Nat} (hv : h.2.1 0 15 = some 51) (hg : h.2.2.1 51 1 = Int32.ofNat g) (hd : 3 ≤ d) (hQ : Q (some (.int (Int32.ofNat g)), h)) : Cl d 163 [.ref 0, .int (6)] h Q := by
  refine Cl.of (ls := [some (.ref 0), some (.int (6))]) rfl rfl ?_
  refine Wp.seg 1 (pc1 := 1) (ls1 := [some (.ref 0), some (.int (6))]) (st1 := [.int (6)]) rfl ?_
  refine Wp.br (pc1 := 109) (st1 := []) rfl rfl ?_
  refine Wp.seg 1 (pc1 := 110) (ls1 := [some (.ref 0), some (.int (6))]) (st1 := [.ref 0]) rfl ?_
  refine Wp.invV (d2 := 0) (as := [.ref 0]) (r := []) (t := (10, 0)) rfl rfl rfl rfl (WF.t hw 0 rfl) rfl rfl ⟨rfl, rfl⟩ (by omega) (t_tl51 hw hv hg (Nat.zero_le _) ?_)
  show Wp d 163 113 [some (.ref 0), some (.int (6))] [.int (Int32.ofNat g)] h Q
  exact Wp.reti rfl rfl hQ
set_option maxHeartbeats 4000000 in
theorem t_cmn653 {d : Nat} {Q : KO → Prop} {h : KH} (hw : WF h) {g : Nat} (hv : h.2.1 0 15 = some 53) (hg : h.2.2.1 53 1 = Int32.ofNat g) (hd : 3 ≤ d) (hQ : Q (some (.int (Int32.ofNat g)), h)) : Cl d 163 [.ref 0, .int (6)] h Q := by
  refine Cl.of (ls := [some (.ref 0), some (.int (6))]) rfl rfl ?_
  refine Wp.seg 1 (pc1 := 1) (ls1 := [some (.ref 0), some (.int (6))]) (st1 := [.int (6)]) rfl ?_
  refine Wp.br (pc1 := 109) (st1 := []) rfl rfl ?_
  refine Wp.seg 1 (pc1 := 110) (ls1 := [some (.ref 0), some (.int (6))]) (st1 := [.ref 0]) rfl ?_
  refine Wp.invV (d2 := 0) (as := [.ref 0]) (r := []) (t := (10, 0)) rfl rfl rfl rfl (WF.t hw 0 rfl) rfl rfl ⟨rfl, rfl⟩ (by omega) (t_tl53 hw hv hg (Nat.zero_le _) ?_)
  show Wp d 163 113 [some (.ref 0), some (.int (6))] [.int (Int32.ofNat g)] h Q
  exact Wp.reti rfl rfl hQ
set_option maxHeartbeats 4000000 in
theorem t_cmn655 {d : Nat} {Q : KO → Prop} {h : KH} (hw : WF h) {g : Nat} (hv : h.2.1 0 15 = some 55) (hg : h.2.2.1 55 1 = Int32.ofNat g) (hd : 3 ≤ d) (hQ : Q (some (.int (Int32.ofNat g)), h)) : Cl d 163 [.ref 0, .int (6)] h Q := by
  refine Cl.of (ls := [some (.ref 0), some (.int (6))]) rfl rfl ?_
  refine Wp.seg 1 (pc1 := 1) (ls1 := [some (.ref 0), some (.int (6))]) (st1 := [.int (6)]) rfl ?_
  refine Wp.br (pc1 := 109) (st1 := []) rfl rfl ?_
  refine Wp.seg 1 (pc1 := 110) (ls1 := [some (.ref 0), some (.int (6))]) (st1 := [.ref 0]) rfl ?_
  refine Wp.invV (d2 := 0) (as := [.ref 0]) (r := []) (t := (10, 0)) rfl rfl rfl rfl (WF.t hw 0 rfl) rfl rfl ⟨rfl, rfl⟩ (by omega) (t_tl55 hw hv hg (Nat.zero_le _) ?_)
  show Wp d 163 113 [some (.ref 0), some (.int (6))] [.int (Int32.ofNat g)] h Q
  exact Wp.reti rfl rfl hQ
set_option maxHeartbeats 4000000 in
theorem t_cmn657 {d : Nat} {Q : KO → Prop} {h : KH} (hw : WF h) {g : Nat} (hv : h.2.1 0 15 = some 57) (hg : h.2.2.1 57 1 = Int32.ofNat g) (hd : 3 ≤ d) (hQ : Q (some (.int (Int32.ofNat g)), h)) : Cl d 163 [.ref 0, .int (6)] h Q := by
  refine Cl.of (ls := [some (.ref 0), some (.int (6))]) rfl rfl ?_
  refine Wp.seg 1 (pc1 := 1) (ls1 := [some (.ref 0), some (.int (6))]) (st1 := [.int (6)]) rfl ?_
  refine Wp.br (pc1 := 109) (st1 := []) rfl rfl ?_
  refine Wp.seg 1 (pc1 := 110) (ls1 := [some (.ref 0), some (.int (6))]) (st1 := [.ref 0]) rfl ?_
  refine Wp.invV (d2 := 0) (as := [.ref 0]) (r := []) (t := (10, 0)) rfl rfl rfl rfl (WF.t hw 0 rfl) rfl rfl ⟨rfl, rfl⟩ (by omega) (t_tl57 hw hv hg (Nat.zero_le _) ?_)
  show Wp d 163 113 [some (.ref 0), some (.int (6))] [.int (Int32.ofNat g)] h Q
  exact Wp.reti rfl rfl hQ
set_option maxHeartbeats 4000000 in
theorem t_mmn6 {d : Nat} {Q : KO → Prop} {h : KH} (hw : WF h) {g : Nat} (h29 : h.2.2.1 59 29 = Int32.ofNat g) (hd : 4 ≤ d) (hQ : Q (some (.int (Int32.ofNat g)), h)) : Cl d 286 [.ref 59, .int (6)] h Q := by
  refine Cl.of (ls := [some (.ref 59), some (.int (6))]) rfl rfl ?_
  refine Wp.seg 1 (pc1 := 1) (ls1 := [some (.ref 59), some (.int (6))]) (st1 := [.int (6)]) rfl ?_
  refine Wp.br (pc1 := 86) (st1 := []) rfl rfl ?_
  refine Wp.seg 1 (pc1 := 87) (ls1 := [some (.ref 59), some (.int (6))]) (st1 := [.ref 59]) rfl ?_
  refine Wp.gi (t := (11, 0)) rfl (WF.t hw 59 rfl) (Or.inl rfl) ?_
  rw [show h.2.2.1 59 29 = Int32.ofNat g from h29]
  exact Wp.reti rfl rfl hQ
set_option maxHeartbeats 4000000 in
theorem t_cmnx {d : Nat} {Q : KO → Prop} {h : KH} (hw : WF h) {v : Int32} (n0 : ¬ (v = 0)) (n1 : ¬ (v = 1)) (n2 : ¬ (v = 2)) (n3 : ¬ (v = 3)) (n4 : ¬ (v = 4)) (n5 : ¬ (v = 5)) (n6 : ¬ (v = 6)) (hd : 4 ≤ d) (hQ : Q (some (.int (-1)), h)) : Cl d 163 [.ref 0, .int (v)] h Q := by
  refine Cl.of (ls := [some (.ref 0), some (.int (v))]) rfl rfl ?_
  refine Wp.seg 1 (pc1 := 1) (ls1 := [some (.ref 0), some (.int (v))]) (st1 := [.int (v)]) rfl ?_
  refine Wp.tsw rfl ?_
  refine ⟨fun c1 => absurd c1 (n0), fun c1 => ?_⟩
  refine ⟨fun c2 => absurd c2 (n1), fun c2 => ?_⟩
  refine ⟨fun c3 => absurd c3 (n2), fun c3 => ?_⟩
  refine ⟨fun c4 => absurd c4 (n3), fun c4 => ?_⟩
  refine ⟨fun c5 => absurd c5 (n4), fun c5 => ?_⟩
  refine ⟨fun c6 => absurd c6 (n5), fun c6 => ?_⟩
  refine ⟨fun c7 => absurd c7 (n6), fun c7 => ?_⟩
  show Wp d 163 114 [some (.ref 0), some (.int (v))] [] h Q
  refine Wp.seg 1 (pc1 := 115) (ls1 := [some (.ref 0), some (.int (v))]) (st1 := [.int (-1)]) rfl ?_
  exact Wp.reti rfl rfl hQ
set_option maxHeartbeats 4000000 in
theorem t_mmnx {d : Nat} {Q : KO → Prop} {h : KH} (hw : WF h) {v : Int32} (n0 : ¬ (v = 0)) (n1 : ¬ (v = 1)) (n2 : ¬ (v = 2)) (n3 : ¬ (v = 3)) (n4 : ¬ (v = 4)) (n5 : ¬ (v = 5)) (n6 : ¬ (v = 6)) (hd : 4 ≤ d) (hQ : Q (some (.int (-1)), h)) : Cl d 286 [.ref 59, .int (v)] h Q := by
  refine Cl.of (ls := [some (.ref 59), some (.int (v))]) rfl rfl ?_
  refine Wp.seg 1 (pc1 := 1) (ls1 := [some (.ref 59), some (.int (v))]) (st1 := [.int (v)]) rfl ?_
  refine Wp.tsw rfl ?_
  refine ⟨fun c1 => absurd c1 (n0), fun c1 => ?_⟩
  refine ⟨fun c2 => absurd c2 (n1), fun c2 => ?_⟩
  refine ⟨fun c3 => absurd c3 (n2), fun c3 => ?_⟩
  refine ⟨fun c4 => absurd c4 (n3), fun c4 => ?_⟩
  refine ⟨fun c5 => absurd c5 (n4), fun c5 => ?_⟩
  refine ⟨fun c6 => absurd c6 (n5), fun c6 => ?_⟩
  refine ⟨fun c7 => absurd c7 (n6), fun c7 => ?_⟩
  show Wp d 286 91 [some (.ref 59), some (.int (v))] [] h Q
  refine Wp.seg 1 (pc1 := 92) (ls1 := [some (.ref 59), some (.int (v))]) (st1 := [.int (-1)]) rfl ?_
  exact Wp.reti rfl rfl hQ
theorem J_many {h : KH} (hi : Inv h) (v : Int32) : JI h 163 [.ref 0, .int v] 286 [.ref 59, .int v] := by
  have hw := hi.1
  obtain ⟨_, ⟨A, RL, n, c, dn, en, RP, hb, hc, h9, hl, hm9⟩, ho, hf⟩ := id hi
  have hk := hb.1
  have hm := hb.2
  by_cases n0 : v = 0
  · subst n0
    exact JI_same (dc := 3) (dm := 4) hi (t_cmn0 hw hk (Nat.le_refl _) rfl) (t_mmn0 hw hm (Nat.le_refl _) rfl)
  by_cases n1 : v = 1
  · subst n1
    obtain ⟨_, _, RLc, hR, heq⟩ := hk
    rcases hR with ⟨e1, e2⟩ | ⟨o, e1, L, e2, e3, e4⟩
    · refine JI_same (v := 0) (dc := 3) (dm := 4) hi (t_cmn1 hw e1 (Nat.le_refl _) rfl) (t_mmn1 hw hm (Nat.le_refl _) ?_)
      rw [← heq.2, e2]
      rfl
    · refine JI_same (v := Int32.ofNat RLc.length) (dc := 3) (dm := 4) hi (t_cmn1o hw e1 e2.1 e3 (Nat.le_refl _) rfl) (t_mmn1 hw hm (Nat.le_refl _) ?_)
      rw [heq.2]
  by_cases n2 : v = 2
  · subst n2
    refine JI_same (v := popS (shA c A)) (dc := 3) (dm := 4) hi (t_cmn2 hw hk (Nat.le_refl _) ?_) (t_mmn2 hw hm (clr_shut _ _) (Nat.le_refl _) rfl)
    rw [show f_bitCount (shA c A) = popS (shA c A) from pop_shut _ _]
  by_cases n3 : v = 3
  · subst n3
    exact JI_same (dc := 3) (dm := 4) hi (t_cmn3 hw hc (Nat.le_refl _) rfl) (t_mmn3 hw h9 (Nat.le_refl _) rfl)
  by_cases n4 : v = 4
  · subst n4
    obtain ⟨R, hR, h7, h20, hr⟩ := ho.2.2.1
    exact JI_same (dc := 3) (dm := 4) hi (t_cmn4 hw h7 (Nat.le_refl _) rfl) (t_mmn4 hw h20 (Nat.le_refl _) rfl)
  by_cases n5 : v = 5
  · subst n5
    obtain ⟨T, hT, _, t1, t2, _⟩ := ho.2.1
    exact JI_same (dc := 3) (dm := 4) hi (t_cmn5 hw t1 (Nat.le_refl _) rfl) (t_mmn5 hw t2 (Nat.le_refl _) rfl)
  by_cases n6 : v = 6
  · subst n6
    rcases ho.2.2.2.2.2 with ⟨e1, e2⟩ | ⟨t, g, b1, b2, b3, b4, b5, b6⟩
    · exact JI_same (v := 0) (dc := 3) (dm := 4) hi (t_cmn6n hw e1 (Nat.le_refl _) rfl) (t_mmn6 (g := 0) hw e2 (Nat.le_refl _) rfl)
    · simp only [thingA, List.mem_cons, List.not_mem_nil, or_false] at b1
      rcases b1 with rfl | rfl | rfl | rfl | rfl
      · exact JI_same (dc := 3) (dm := 4) hi (t_cmn649 hw b2 b4 (Nat.le_refl _) rfl) (t_mmn6 hw b5 (Nat.le_refl _) rfl)
      · exact JI_same (dc := 3) (dm := 4) hi (t_cmn651 hw b2 b4 (Nat.le_refl _) rfl) (t_mmn6 hw b5 (Nat.le_refl _) rfl)
      · exact JI_same (dc := 3) (dm := 4) hi (t_cmn653 hw b2 b4 (Nat.le_refl _) rfl) (t_mmn6 hw b5 (Nat.le_refl _) rfl)
      · exact JI_same (dc := 3) (dm := 4) hi (t_cmn655 hw b2 b4 (Nat.le_refl _) rfl) (t_mmn6 hw b5 (Nat.le_refl _) rfl)
      · exact JI_same (dc := 3) (dm := 4) hi (t_cmn657 hw b2 b4 (Nat.le_refl _) rfl) (t_mmn6 hw b5 (Nat.le_refl _) rfl)
  · exact JI_same (v := -1) (dc := 4) (dm := 4) hi (t_cmnx hw n0 n1 n2 n3 n4 n5 n6 (Nat.le_refl _) rfl) (t_mmnx hw n0 n1 n2 n3 n4 n5 n6 (Nat.le_refl _) rfl)
