/-! KM: both sides: item, write -/
set_option maxHeartbeats 4000000 in
theorem t_rfs {d : Nat} {Q : KO → Prop} {h : KH} (hw : WF h) {s : Nat} {so : Int32} (hs : s < 4) (h38 : h.2.2.1 38 s = so) {w : Int32} (hd : 0 ≤ d) (hQ : (¬ so = (-1 : Int32) → (¬ so = w → Q (some (.int (-13)), h)) ∧ (¬ (¬ so = w) → Q (some (.int (0)), h))) ∧ (¬ (¬ so = (-1 : Int32)) → Q (some (.int (-11)), h))) : Cl d 156 [.ref 0, .int (Int32.ofNat s), .int (w)] h Q := by
  refine Cl.of (ls := [some (.ref 0), some (.int (Int32.ofNat s)), some (.int (w))]) rfl rfl ?_
  refine Wp.seg 1 (pc1 := 1) (ls1 := [some (.ref 0), some (.int (Int32.ofNat s)), some (.int (w))]) (st1 := [.ref 0]) rfl ?_
  refine Wp.gr (t := (10, 0)) (v := some (38)) rfl (WF.t hw 0 rfl) rfl (WF.r hw 0 8 6 rfl) ?_
  show Wp d 156 4 [some (.ref 0), some (.int (Int32.ofNat s)), some (.int (w))] [.ref 38] h Q
  refine Wp.seg 1 (pc1 := 5) (ls1 := [some (.ref 0), some (.int (Int32.ofNat s)), some (.int (w))]) (st1 := [.int (Int32.ofNat s), .ref 38]) rfl ?_
  refine Wp.iald (j := s) (k := 20) (n := 4) rfl (WF.t hw 38 rfl) rfl rfl hs (by decide) ?_
  rw [show h.2.2.1 38 s = so from h38]
  refine Wp.seg 1 (pc1 := 7) (ls1 := [some (.ref 0), some (.int (Int32.ofNat s)), some (.int (w))]) (st1 := [.int (-1), .int (so)]) rfl ?_
  refine Wp.if2 rfl (fun (c1 : ¬ so = (-1 : Int32)) => ?_) (fun (c1 : ¬ (¬ so = (-1 : Int32))) => ?_)
  · refine Wp.seg 1 (pc1 := 14) (ls1 := [some (.ref 0), some (.int (Int32.ofNat s)), some (.int (w))]) (st1 := [.ref 0]) rfl ?_
    refine Wp.gr (t := (10, 0)) (v := some (38)) rfl (WF.t hw 0 rfl) rfl (WF.r hw 0 8 6 rfl) ?_
    show Wp d 156 17 [some (.ref 0), some (.int (Int32.ofNat s)), some (.int (w))] [.ref 38] h Q
    refine Wp.seg 1 (pc1 := 18) (ls1 := [some (.ref 0), some (.int (Int32.ofNat s)), some (.int (w))]) (st1 := [.int (Int32.ofNat s), .ref 38]) rfl ?_
    refine Wp.iald (j := s) (k := 20) (n := 4) rfl (WF.t hw 38 rfl) rfl rfl hs (by decide) ?_
    rw [show h.2.2.1 38 s = so from h38]
    refine Wp.seg 1 (pc1 := 20) (ls1 := [some (.ref 0), some (.int (Int32.ofNat s)), some (.int (w))]) (st1 := [.int (w), .int (so)]) rfl ?_
    refine Wp.if2 rfl (fun (c2 : ¬ so = w) => ?_) (fun (c2 : ¬ (¬ so = w)) => ?_)
    · refine Wp.seg 1 (pc1 := 29) (ls1 := [some (.ref 0), some (.int (Int32.ofNat s)), some (.int (w))]) (st1 := [.int (-13)]) rfl ?_
      exact Wp.reti rfl rfl ((hQ.1 c1).1 c2)
    · refine Wp.seg 2 (pc1 := 29) (ls1 := [some (.ref 0), some (.int (Int32.ofNat s)), some (.int (w))]) (st1 := [.int (0)]) rfl ?_
      exact Wp.reti rfl rfl ((hQ.1 c1).2 c2)
  · refine Wp.seg 1 (pc1 := 12) (ls1 := [some (.ref 0), some (.int (Int32.ofNat s)), some (.int (w))]) (st1 := [.int (-11)]) rfl ?_
    exact Wp.reti rfl rfl (hQ.2 c1)
set_option maxHeartbeats 4000000 in
theorem t_cit2 {d : Nat} {Q : KO → Prop} {h : KH} (hw : WF h) {s : Nat} {so : Int32} (hs : s < 4) (qs : inB (Int32.ofNat s) 0 3 = true) {w i : Int32} (hd : 2 ≤ d) (hQ : (w < 0 → Q (some (.int (-1)), h)) ∧ (¬ (w < 0) → (w < (5 : Int32) → Wp d 151 18 ([some (.ref 0), some (.int (Int32.ofNat s)), some (.int (w)), some (.int (i)), none]) [] h Q) ∧ (¬ (w < (5 : Int32)) → Q (some (.int (-1)), h)))) : Cl d 151 [.ref 0, .int (Int32.ofNat s), .int (w), .int (i)] h Q := by
  refine Cl.of (ls := [some (.ref 0), some (.int (Int32.ofNat s)), some (.int (w)), some (.int (i)), none]) rfl rfl ?_
  refine Wp.seg 1 (pc1 := 1) (ls1 := [some (.ref 0), some (.int (Int32.ofNat s)), some (.int (w)), some (.int (i)), none]) (st1 := [.int (Int32.ofNat s)]) rfl ?_
  refine Wp.inv (d2 := 0) (as := [.int (Int32.ofNat s)]) (r := []) rfl rfl rfl rfl rfl rfl (by omega) (s_b154 ?_)
  show Wp d 151 4 [some (.ref 0), some (.int (Int32.ofNat s)), some (.int (w)), some (.int (i)), none] [.int (b32 (inB (Int32.ofNat s) 0 3))] h Q
  refine Wp.ifz rfl (fun c1 => absurd (c1.symm.trans (qs)) (by decide)) (fun c1 => ?_)
  refine Wp.seg 1 (pc1 := 8) (ls1 := [some (.ref 0), some (.int (Int32.ofNat s)), some (.int (w)), some (.int (i)), none]) (st1 := [.int (w)]) rfl ?_
  refine Wp.if1 rfl (fun (c2 : w < 0) => ?_) (fun (c2 : ¬ (w < 0)) => ?_)
  · refine Wp.seg 1 (pc1 := 17) (ls1 := [some (.ref 0), some (.int (Int32.ofNat s)), some (.int (w)), some (.int (i)), none]) (st1 := [.int (-1)]) rfl ?_
    exact Wp.reti rfl rfl (hQ.1 c2)
  · refine Wp.seg 2 (pc1 := 13) (ls1 := [some (.ref 0), some (.int (Int32.ofNat s)), some (.int (w)), some (.int (i)), none]) (st1 := [.int (5), .int (w)]) rfl ?_
    refine Wp.if2 rfl (fun (c3 : w < (5 : Int32)) => ?_) (fun (c3 : ¬ (w < (5 : Int32))) => ?_)
    · exact ((hQ.2 c2).1 c3)
    · refine Wp.seg 1 (pc1 := 17) (ls1 := [some (.ref 0), some (.int (Int32.ofNat s)), some (.int (w)), some (.int (i)), none]) (st1 := [.int (-1)]) rfl ?_
      exact Wp.reti rfl rfl ((hQ.2 c2).2 c3)
set_option maxHeartbeats 4000000 in
theorem t_mit2 {d : Nat} {Q : KO → Prop} {h : KH} (hw : WF h) {s : Nat} {so : Int32} (hs : s < 4) (qs : inB (Int32.ofNat s) 0 3 = true) {w i : Int32} (qw : inB w 0 4 = false) (hd : 2 ≤ d) (hQ : Q (some (.int (-1)), h)) : Cl d 266 [.ref 59, .int (Int32.ofNat s), .int (w), .int (i)] h Q := by
  refine Cl.of (ls := [some (.ref 59), some (.int (Int32.ofNat s)), some (.int (w)), some (.int (i))]) rfl rfl ?_
  refine Wp.seg 1 (pc1 := 1) (ls1 := [some (.ref 59), some (.int (Int32.ofNat s)), some (.int (w)), some (.int (i))]) (st1 := [.int (Int32.ofNat s)]) rfl ?_
  refine Wp.inv (d2 := 1) (as := [.int (Int32.ofNat s)]) (r := []) rfl rfl rfl rfl rfl rfl (by omega) (s_b177 (Nat.le_refl _) ?_)
  show Wp d 266 4 [some (.ref 59), some (.int (Int32.ofNat s)), some (.int (w)), some (.int (i))] [.int (b32 (inB (Int32.ofNat s) 0 3))] h Q
  refine Wp.ifz rfl (fun c1 => absurd (c1.symm.trans (qs)) (by decide)) (fun c1 => ?_)
  refine Wp.seg 3 (pc1 := 10) (ls1 := [some (.ref 59), some (.int (Int32.ofNat s)), some (.int (w)), some (.int (i))]) (st1 := [.int (4), .int (0), .int (w)]) rfl ?_
  refine Wp.inv (d2 := 0) (as := [.int (w), .int (0), .int (4)]) (r := []) rfl rfl rfl rfl rfl rfl (by omega) (s_inB (x := 0) (y := 4) rfl rfl ?_)
  show Wp d 266 13 [some (.ref 59), some (.int (Int32.ofNat s)), some (.int (w)), some (.int (i))] [.int (b32 (inB w 0 4))] h Q
  refine Wp.ifnz rfl (fun c2 => absurd (c2.symm.trans (qw)) (by decide)) (fun c2 => ?_)
  refine Wp.seg 1 (pc1 := 17) (ls1 := [some (.ref 59), some (.int (Int32.ofNat s)), some (.int (w)), some (.int (i))]) (st1 := [.int (-1)]) rfl ?_
  exact Wp.reti rfl rfl hQ
set_option maxHeartbeats 4000000 in
theorem t_cit3 {d : Nat} {Q : KO → Prop} {h : KH} (hw : WF h) {s : Nat} {so : Int32} (hs : s < 4) (h38 : h.2.2.1 38 s = so) (qs : inB (Int32.ofNat s) 0 3 = true) {w i : Int32} (w0 : ¬ (w < 0)) (w5 : w < 5) (e1 : so = -1) (hd : 2 ≤ d) (hQ : Q (some (.int (-11)), h)) : Cl d 151 [.ref 0, .int (Int32.ofNat s), .int (w), .int (i)] h Q := by
  refine Cl.of (ls := [some (.ref 0), some (.int (Int32.ofNat s)), some (.int (w)), some (.int (i)), none]) rfl rfl ?_
  refine Wp.seg 1 (pc1 := 1) (ls1 := [some (.ref 0), some (.int (Int32.ofNat s)), some (.int (w)), some (.int (i)), none]) (st1 := [.int (Int32.ofNat s)]) rfl ?_
  refine Wp.inv (d2 := 0) (as := [.int (Int32.ofNat s)]) (r := []) rfl rfl rfl rfl rfl rfl (by omega) (s_b154 ?_)
  show Wp d 151 4 [some (.ref 0), some (.int (Int32.ofNat s)), some (.int (w)), some (.int (i)), none] [.int (b32 (inB (Int32.ofNat s) 0 3))] h Q
  refine Wp.ifz rfl (fun c1 => absurd (c1.symm.trans (qs)) (by decide)) (fun c1 => ?_)
  refine Wp.seg 1 (pc1 := 8) (ls1 := [some (.ref 0), some (.int (Int32.ofNat s)), some (.int (w)), some (.int (i)), none]) (st1 := [.int (w)]) rfl ?_
  refine Wp.if1 rfl (fun c2 => absurd c2 (w0)) (fun c2 => ?_)
  refine Wp.seg 2 (pc1 := 13) (ls1 := [some (.ref 0), some (.int (Int32.ofNat s)), some (.int (w)), some (.int (i)), none]) (st1 := [.int (5), .int (w)]) rfl ?_
  refine Wp.if2 rfl (fun c3 => ?_) (fun c3 => absurd (w5) c3)
  refine Wp.seg 3 (pc1 := 21) (ls1 := [some (.ref 0), some (.int (Int32.ofNat s)), some (.int (w)), some (.int (i)), none]) (st1 := [.int (w), .int (Int32.ofNat s), .ref 0]) rfl ?_
  refine Wp.invV (d2 := 0) (as := [.ref 0, .int (Int32.ofNat s), .int (w)]) (r := []) (t := (10, 0)) rfl rfl rfl rfl (WF.t hw 0 rfl) rfl rfl ⟨rfl, rfl⟩ (by omega) (t_rfs hw hs h38 (by decide) ⟨fun c => absurd e1 c, fun _ => ?_⟩)
  show Wp d 151 24 [some (.ref 0), some (.int (Int32.ofNat s)), some (.int (w)), some (.int (i)), none] [.int (-11)] h Q
  refine Wp.seg 2 (pc1 := 28) (ls1 := [some (.ref 0), some (.int (Int32.ofNat s)), some (.int (w)), some (.int (i)), some (.int (-11))]) (st1 := [.int (-11)]) rfl ?_
  refine Wp.if1 rfl (fun c4 => absurd c4 (show ¬ ((-11 : Int32) = 0) by decide)) (fun c4 => ?_)
  refine Wp.seg 1 (pc1 := 33) (ls1 := [some (.ref 0), some (.int (Int32.ofNat s)), some (.int (w)), some (.int (i)), some (.int (-11))]) (st1 := [.int (-11)]) rfl ?_
  exact Wp.reti rfl rfl hQ
set_option maxHeartbeats 4000000 in
theorem t_mit3 {d : Nat} {Q : KO → Prop} {h : KH} (hw : WF h) {s : Nat} {so : Int32} (hs : s < 4) (h68 : h.2.2.1 68 s = so) (qs : inB (Int32.ofNat s) 0 3 = true) {w i : Int32} (qw : inB w 0 4 = true) (g : ¬ (0 ≤ so)) (hd : 2 ≤ d) (hQ : Q (some (.int (-11)), h)) : Cl d 266 [.ref 59, .int (Int32.ofNat s), .int (w), .int (i)] h Q := by
  refine Cl.of (ls := [some (.ref 59), some (.int (Int32.ofNat s)), some (.int (w)), some (.int (i))]) rfl rfl ?_
  refine Wp.seg 1 (pc1 := 1) (ls1 := [some (.ref 59), some (.int (Int32.ofNat s)), some (.int (w)), some (.int (i))]) (st1 := [.int (Int32.ofNat s)]) rfl ?_
  refine Wp.inv (d2 := 1) (as := [.int (Int32.ofNat s)]) (r := []) rfl rfl rfl rfl rfl rfl (by omega) (s_b177 (Nat.le_refl _) ?_)
  show Wp d 266 4 [some (.ref 59), some (.int (Int32.ofNat s)), some (.int (w)), some (.int (i))] [.int (b32 (inB (Int32.ofNat s) 0 3))] h Q
  refine Wp.ifz rfl (fun c1 => absurd (c1.symm.trans (qs)) (by decide)) (fun c1 => ?_)
  refine Wp.seg 3 (pc1 := 10) (ls1 := [some (.ref 59), some (.int (Int32.ofNat s)), some (.int (w)), some (.int (i))]) (st1 := [.int (4), .int (0), .int (w)]) rfl ?_
  refine Wp.inv (d2 := 0) (as := [.int (w), .int (0), .int (4)]) (r := []) rfl rfl rfl rfl rfl rfl (by omega) (s_inB (x := 0) (y := 4) rfl rfl ?_)
  show Wp d 266 13 [some (.ref 59), some (.int (Int32.ofNat s)), some (.int (w)), some (.int (i))] [.int (b32 (inB w 0 4))] h Q
  refine Wp.ifnz rfl (fun c2 => ?_) (fun c2 => absurd (c2.symm.trans (qw)) (by decide))
  refine Wp.seg 1 (pc1 := 19) (ls1 := [some (.ref 59), some (.int (Int32.ofNat s)), some (.int (w)), some (.int (i))]) (st1 := [.ref 59]) rfl ?_
  refine Wp.gr (t := (11, 0)) (v := some (68)) rfl (WF.t hw 59 rfl) rfl (WF.r hw 59 22 66 rfl) ?_
  show Wp d 266 22 [some (.ref 59), some (.int (Int32.ofNat s)), some (.int (w)), some (.int (i))] [.ref 68] h Q
  refine Wp.seg 1 (pc1 := 23) (ls1 := [some (.ref 59), some (.int (Int32.ofNat s)), some (.int (w)), some (.int (i))]) (st1 := [.int (Int32.ofNat s), .ref 68]) rfl ?_
  refine Wp.iald (j := s) (k := 20) (n := 4) rfl (WF.t hw 68 rfl) rfl rfl hs (by decide) ?_
  rw [show h.2.2.1 68 s = so from h68]
  refine Wp.if1 rfl (fun c3 => absurd c3 (g)) (fun c3 => ?_)
  refine Wp.seg 1 (pc1 := 29) (ls1 := [some (.ref 59), some (.int (Int32.ofNat s)), some (.int (w)), some (.int (i))]) (st1 := [.int (-11)]) rfl ?_
  exact Wp.reti rfl rfl hQ
set_option maxHeartbeats 4000000 in
theorem t_cit4 {d : Nat} {Q : KO → Prop} {h : KH} (hw : WF h) {s : Nat} {so : Int32} (hs : s < 4) (h38 : h.2.2.1 38 s = so) (qs : inB (Int32.ofNat s) 0 3 = true) {w i : Int32} (w0 : ¬ (w < 0)) (w5 : w < 5) (e1 : ¬ (so = -1)) (e2 : ¬ (so = w)) (hd : 2 ≤ d) (hQ : Q (some (.int (-13)), h)) : Cl d 151 [.ref 0, .int (Int32.ofNat s), .int (w), .int (i)] h Q := by
  refine Cl.of (ls := [some (.ref 0), some (.int (Int32.ofNat s)), some (.int (w)), some (.int (i)), none]) rfl rfl ?_
  refine Wp.seg 1 (pc1 := 1) (ls1 := [some (.ref 0), some (.int (Int32.ofNat s)), some (.int (w)), some (.int (i)), none]) (st1 := [.int (Int32.ofNat s)]) rfl ?_
  refine Wp.inv (d2 := 0) (as := [.int (Int32.ofNat s)]) (r := []) rfl rfl rfl rfl rfl rfl (by omega) (s_b154 ?_)
  show Wp d 151 4 [some (.ref 0), some (.int (Int32.ofNat s)), some (.int (w)), some (.int (i)), none] [.int (b32 (inB (Int32.ofNat s) 0 3))] h Q
  refine Wp.ifz rfl (fun c1 => absurd (c1.symm.trans (qs)) (by decide)) (fun c1 => ?_)
  refine Wp.seg 1 (pc1 := 8) (ls1 := [some (.ref 0), some (.int (Int32.ofNat s)), some (.int (w)), some (.int (i)), none]) (st1 := [.int (w)]) rfl ?_
  refine Wp.if1 rfl (fun c2 => absurd c2 (w0)) (fun c2 => ?_)
  refine Wp.seg 2 (pc1 := 13) (ls1 := [some (.ref 0), some (.int (Int32.ofNat s)), some (.int (w)), some (.int (i)), none]) (st1 := [.int (5), .int (w)]) rfl ?_
  refine Wp.if2 rfl (fun c3 => ?_) (fun c3 => absurd (w5) c3)
  refine Wp.seg 3 (pc1 := 21) (ls1 := [some (.ref 0), some (.int (Int32.ofNat s)), some (.int (w)), some (.int (i)), none]) (st1 := [.int (w), .int (Int32.ofNat s), .ref 0]) rfl ?_
  refine Wp.invV (d2 := 0) (as := [.ref 0, .int (Int32.ofNat s), .int (w)]) (r := []) (t := (10, 0)) rfl rfl rfl rfl (WF.t hw 0 rfl) rfl rfl ⟨rfl, rfl⟩ (by omega) (t_rfs hw hs h38 (by decide) ⟨fun _ => ⟨fun _ => ?_, fun c => absurd e2 c⟩, fun c => absurd e1 c⟩)
  show Wp d 151 24 [some (.ref 0), some (.int (Int32.ofNat s)), some (.int (w)), some (.int (i)), none] [.int (-13)] h Q
  refine Wp.seg 2 (pc1 := 28) (ls1 := [some (.ref 0), some (.int (Int32.ofNat s)), some (.int (w)), some (.int (i)), some (.int (-13))]) (st1 := [.int (-13)]) rfl ?_
  refine Wp.if1 rfl (fun c4 => absurd c4 (show ¬ ((-13 : Int32) = 0) by decide)) (fun c4 => ?_)
  refine Wp.seg 1 (pc1 := 33) (ls1 := [some (.ref 0), some (.int (Int32.ofNat s)), some (.int (w)), some (.int (i)), some (.int (-13))]) (st1 := [.int (-13)]) rfl ?_
  exact Wp.reti rfl rfl hQ
set_option maxHeartbeats 4000000 in
theorem t_mit4 {d : Nat} {Q : KO → Prop} {h : KH} (hw : WF h) {s : Nat} {so : Int32} (hs : s < 4) (h68 : h.2.2.1 68 s = so) (qs : inB (Int32.ofNat s) 0 3 = true) {w i : Int32} (qw : inB w 0 4 = true) (g : 0 ≤ so) (e2 : ¬ (so = w)) (hd : 2 ≤ d) (hQ : Q (some (.int (-13)), h)) : Cl d 266 [.ref 59, .int (Int32.ofNat s), .int (w), .int (i)] h Q := by
  refine Cl.of (ls := [some (.ref 59), some (.int (Int32.ofNat s)), some (.int (w)), some (.int (i))]) rfl rfl ?_
  refine Wp.seg 1 (pc1 := 1) (ls1 := [some (.ref 59), some (.int (Int32.ofNat s)), some (.int (w)), some (.int (i))]) (st1 := [.int (Int32.ofNat s)]) rfl ?_
  refine Wp.inv (d2 := 1) (as := [.int (Int32.ofNat s)]) (r := []) rfl rfl rfl rfl rfl rfl (by omega) (s_b177 (Nat.le_refl _) ?_)
  show Wp d 266 4 [some (.ref 59), some (.int (Int32.ofNat s)), some (.int (w)), some (.int (i))] [.int (b32 (inB (Int32.ofNat s) 0 3))] h Q
  refine Wp.ifz rfl (fun c1 => absurd (c1.symm.trans (qs)) (by decide)) (fun c1 => ?_)
  refine Wp.seg 3 (pc1 := 10) (ls1 := [some (.ref 59), some (.int (Int32.ofNat s)), some (.int (w)), some (.int (i))]) (st1 := [.int (4), .int (0), .int (w)]) rfl ?_
  refine Wp.inv (d2 := 0) (as := [.int (w), .int (0), .int (4)]) (r := []) rfl rfl rfl rfl rfl rfl (by omega) (s_inB (x := 0) (y := 4) rfl rfl ?_)
  show Wp d 266 13 [some (.ref 59), some (.int (Int32.ofNat s)), some (.int (w)), some (.int (i))] [.int (b32 (inB w 0 4))] h Q
  refine Wp.ifnz rfl (fun c2 => ?_) (fun c2 => absurd (c2.symm.trans (qw)) (by decide))
  refine Wp.seg 1 (pc1 := 19) (ls1 := [some (.ref 59), some (.int (Int32.ofNat s)), some (.int (w)), some (.int (i))]) (st1 := [.ref 59]) rfl ?_
  refine Wp.gr (t := (11, 0)) (v := some (68)) rfl (WF.t hw 59 rfl) rfl (WF.r hw 59 22 66 rfl) ?_
  show Wp d 266 22 [some (.ref 59), some (.int (Int32.ofNat s)), some (.int (w)), some (.int (i))] [.ref 68] h Q
  refine Wp.seg 1 (pc1 := 23) (ls1 := [some (.ref 59), some (.int (Int32.ofNat s)), some (.int (w)), some (.int (i))]) (st1 := [.int (Int32.ofNat s), .ref 68]) rfl ?_
  refine Wp.iald (j := s) (k := 20) (n := 4) rfl (WF.t hw 68 rfl) rfl rfl hs (by decide) ?_
  rw [show h.2.2.1 68 s = so from h68]
  refine Wp.if1 rfl (fun c3 => ?_) (fun c3 => absurd (g) c3)
  refine Wp.seg 1 (pc1 := 31) (ls1 := [some (.ref 59), some (.int (Int32.ofNat s)), some (.int (w)), some (.int (i))]) (st1 := [.ref 59]) rfl ?_
  refine Wp.gr (t := (11, 0)) (v := some (68)) rfl (WF.t hw 59 rfl) rfl (WF.r hw 59 22 66 rfl) ?_
  show Wp d 266 34 [some (.ref 59), some (.int (Int32.ofNat s)), some (.int (w)), some (.int (i))] [.ref 68] h Q
  refine Wp.seg 1 (pc1 := 35) (ls1 := [some (.ref 59), some (.int (Int32.ofNat s)), some (.int (w)), some (.int (i))]) (st1 := [.int (Int32.ofNat s), .ref 68]) rfl ?_
  refine Wp.iald (j := s) (k := 20) (n := 4) rfl (WF.t hw 68 rfl) rfl rfl hs (by decide) ?_
  rw [show h.2.2.1 68 s = so from h68]
  refine Wp.seg 1 (pc1 := 37) (ls1 := [some (.ref 59), some (.int (Int32.ofNat s)), some (.int (w)), some (.int (i))]) (st1 := [.int (w), .int (so)]) rfl ?_
  refine Wp.if2 rfl (fun c4 => absurd c4 (e2)) (fun c4 => ?_)
  refine Wp.seg 1 (pc1 := 42) (ls1 := [some (.ref 59), some (.int (Int32.ofNat s)), some (.int (w)), some (.int (i))]) (st1 := [.int (-13)]) rfl ?_
  exact Wp.reti rfl rfl hQ
set_option maxHeartbeats 4000000 in
theorem t_cit5 {d : Nat} {Q : KO → Prop} {h : KH} (hw : WF h) {s : Nat} {so : Int32} (hs : s < 4) (h38 : h.2.2.1 38 s = so) {z : Nat} (hz : z ≤ 40) (h39 : h.2.2.1 39 s = Int32.ofNat z) (qs : inB (Int32.ofNat s) 0 3 = true) {w i : Int32} (w0 : ¬ (w < 0)) (w5 : w < 5) (e1 : ¬ (so = -1)) (e2 : so = w) (qi : plB z i = false) (hd : 2 ≤ d) (hQ : Q (some (.int (-12)), h)) : Cl d 151 [.ref 0, .int (Int32.ofNat s), .int (w), .int (i)] h Q := by
  refine Cl.of (ls := [some (.ref 0), some (.int (Int32.ofNat s)), some (.int (w)), some (.int (i)), none]) rfl rfl ?_
  refine Wp.seg 1 (pc1 := 1) (ls1 := [some (.ref 0), some (.int (Int32.ofNat s)), some (.int (w)), some (.int (i)), none]) (st1 := [.int (Int32.ofNat s)]) rfl ?_
  refine Wp.inv (d2 := 0) (as := [.int (Int32.ofNat s)]) (r := []) rfl rfl rfl rfl rfl rfl (by omega) (s_b154 ?_)
  show Wp d 151 4 [some (.ref 0), some (.int (Int32.ofNat s)), some (.int (w)), some (.int (i)), none] [.int (b32 (inB (Int32.ofNat s) 0 3))] h Q
  refine Wp.ifz rfl (fun c1 => absurd (c1.symm.trans (qs)) (by decide)) (fun c1 => ?_)
  refine Wp.seg 1 (pc1 := 8) (ls1 := [some (.ref 0), some (.int (Int32.ofNat s)), some (.int (w)), some (.int (i)), none]) (st1 := [.int (w)]) rfl ?_
  refine Wp.if1 rfl (fun c2 => absurd c2 (w0)) (fun c2 => ?_)
  refine Wp.seg 2 (pc1 := 13) (ls1 := [some (.ref 0), some (.int (Int32.ofNat s)), some (.int (w)), some (.int (i)), none]) (st1 := [.int (5), .int (w)]) rfl ?_
  refine Wp.if2 rfl (fun c3 => ?_) (fun c3 => absurd (w5) c3)
  refine Wp.seg 3 (pc1 := 21) (ls1 := [some (.ref 0), some (.int (Int32.ofNat s)), some (.int (w)), some (.int (i)), none]) (st1 := [.int (w), .int (Int32.ofNat s), .ref 0]) rfl ?_
  refine Wp.invV (d2 := 0) (as := [.ref 0, .int (Int32.ofNat s), .int (w)]) (r := []) (t := (10, 0)) rfl rfl rfl rfl (WF.t hw 0 rfl) rfl rfl ⟨rfl, rfl⟩ (by omega) (t_rfs hw hs h38 (by decide) ⟨fun _ => ⟨fun c => absurd e2 c, fun _ => ?_⟩, fun c => absurd e1 c⟩)
  show Wp d 151 24 [some (.ref 0), some (.int (Int32.ofNat s)), some (.int (w)), some (.int (i)), none] [.int (0)] h Q
  refine Wp.seg 2 (pc1 := 28) (ls1 := [some (.ref 0), some (.int (Int32.ofNat s)), some (.int (w)), some (.int (i)), some (.int (0))]) (st1 := [.int (0)]) rfl ?_
  refine Wp.if1 rfl (fun c4 => ?_) (fun c4 => absurd (show (0 : Int32) = 0 by decide) c4)
  refine Wp.seg 3 (pc1 := 37) (ls1 := [some (.ref 0), some (.int (Int32.ofNat s)), some (.int (w)), some (.int (i)), some (.int (0))]) (st1 := [.int (i), .int (Int32.ofNat s), .ref 0]) rfl ?_
  refine Wp.invV (d2 := 0) (as := [.ref 0, .int (Int32.ofNat s), .int (i)]) (r := []) (t := (10, 0)) rfl rfl rfl rfl (WF.t hw 0 rfl) rfl rfl ⟨rfl, rfl⟩ (by omega) (s_item hw hs hz h39 ?_)
  show Wp d 151 40 [some (.ref 0), some (.int (Int32.ofNat s)), some (.int (w)), some (.int (i)), some (.int (0))] [.int (b32 (plB z i))] h Q
  refine Wp.ifz rfl (fun c5 => ?_) (fun c5 => absurd (c5.symm.trans (qi)) (by decide))
  refine Wp.seg 1 (pc1 := 56) (ls1 := [some (.ref 0), some (.int (Int32.ofNat s)), some (.int (w)), some (.int (i)), some (.int (0))]) (st1 := [.int (-12)]) rfl ?_
  exact Wp.reti rfl rfl hQ
set_option maxHeartbeats 4000000 in
theorem t_mit5 {d : Nat} {Q : KO → Prop} {h : KH} (hw : WF h) {s : Nat} {so : Int32} (hs : s < 4) (h68 : h.2.2.1 68 s = so) {z : Nat} (hz : z ≤ 40) (h69 : h.2.2.1 69 s = Int32.ofNat z) (qs : inB (Int32.ofNat s) 0 3 = true) {w i : Int32} (qw : inB w 0 4 = true) (g : 0 ≤ so) (e2 : so = w) (qi : plB z i = false) (hd : 2 ≤ d) (hQ : Q (some (.int (-12)), h)) : Cl d 266 [.ref 59, .int (Int32.ofNat s), .int (w), .int (i)] h Q := by
  refine Cl.of (ls := [some (.ref 59), some (.int (Int32.ofNat s)), some (.int (w)), some (.int (i))]) rfl rfl ?_
  refine Wp.seg 1 (pc1 := 1) (ls1 := [some (.ref 59), some (.int (Int32.ofNat s)), some (.int (w)), some (.int (i))]) (st1 := [.int (Int32.ofNat s)]) rfl ?_
  refine Wp.inv (d2 := 1) (as := [.int (Int32.ofNat s)]) (r := []) rfl rfl rfl rfl rfl rfl (by omega) (s_b177 (Nat.le_refl _) ?_)
  show Wp d 266 4 [some (.ref 59), some (.int (Int32.ofNat s)), some (.int (w)), some (.int (i))] [.int (b32 (inB (Int32.ofNat s) 0 3))] h Q
  refine Wp.ifz rfl (fun c1 => absurd (c1.symm.trans (qs)) (by decide)) (fun c1 => ?_)
  refine Wp.seg 3 (pc1 := 10) (ls1 := [some (.ref 59), some (.int (Int32.ofNat s)), some (.int (w)), some (.int (i))]) (st1 := [.int (4), .int (0), .int (w)]) rfl ?_
  refine Wp.inv (d2 := 0) (as := [.int (w), .int (0), .int (4)]) (r := []) rfl rfl rfl rfl rfl rfl (by omega) (s_inB (x := 0) (y := 4) rfl rfl ?_)
  show Wp d 266 13 [some (.ref 59), some (.int (Int32.ofNat s)), some (.int (w)), some (.int (i))] [.int (b32 (inB w 0 4))] h Q
  refine Wp.ifnz rfl (fun c2 => ?_) (fun c2 => absurd (c2.symm.trans (qw)) (by decide))
  refine Wp.seg 1 (pc1 := 19) (ls1 := [some (.ref 59), some (.int (Int32.ofNat s)), some (.int (w)), some (.int (i))]) (st1 := [.ref 59]) rfl ?_
  refine Wp.gr (t := (11, 0)) (v := some (68)) rfl (WF.t hw 59 rfl) rfl (WF.r hw 59 22 66 rfl) ?_
  show Wp d 266 22 [some (.ref 59), some (.int (Int32.ofNat s)), some (.int (w)), some (.int (i))] [.ref 68] h Q
  refine Wp.seg 1 (pc1 := 23) (ls1 := [some (.ref 59), some (.int (Int32.ofNat s)), some (.int (w)), some (.int (i))]) (st1 := [.int (Int32.ofNat s), .ref 68]) rfl ?_
  refine Wp.iald (j := s) (k := 20) (n := 4) rfl (WF.t hw 68 rfl) rfl rfl hs (by decide) ?_
  rw [show h.2.2.1 68 s = so from h68]
  refine Wp.if1 rfl (fun c3 => ?_) (fun c3 => absurd (g) c3)
  refine Wp.seg 1 (pc1 := 31) (ls1 := [some (.ref 59), some (.int (Int32.ofNat s)), some (.int (w)), some (.int (i))]) (st1 := [.ref 59]) rfl ?_
  refine Wp.gr (t := (11, 0)) (v := some (68)) rfl (WF.t hw 59 rfl) rfl (WF.r hw 59 22 66 rfl) ?_
  show Wp d 266 34 [some (.ref 59), some (.int (Int32.ofNat s)), some (.int (w)), some (.int (i))] [.ref 68] h Q
  refine Wp.seg 1 (pc1 := 35) (ls1 := [some (.ref 59), some (.int (Int32.ofNat s)), some (.int (w)), some (.int (i))]) (st1 := [.int (Int32.ofNat s), .ref 68]) rfl ?_
  refine Wp.iald (j := s) (k := 20) (n := 4) rfl (WF.t hw 68 rfl) rfl rfl hs (by decide) ?_
  rw [show h.2.2.1 68 s = so from h68]
  refine Wp.seg 1 (pc1 := 37) (ls1 := [some (.ref 59), some (.int (Int32.ofNat s)), some (.int (w)), some (.int (i))]) (st1 := [.int (w), .int (so)]) rfl ?_
  refine Wp.if2 rfl (fun c4 => ?_) (fun c4 => absurd (e2) c4)
  refine Wp.seg 3 (pc1 := 46) (ls1 := [some (.ref 59), some (.int (Int32.ofNat s)), some (.int (w)), some (.int (i))]) (st1 := [.ref 59, .int (0), .int (i)]) rfl ?_
  refine Wp.gr (t := (11, 0)) (v := some (69)) rfl (WF.t hw 59 rfl) rfl (WF.r hw 59 23 67 rfl) ?_
  show Wp d 266 49 [some (.ref 59), some (.int (Int32.ofNat s)), some (.int (w)), some (.int (i))] [.ref 69, .int (0), .int (i)] h Q
  refine Wp.seg 1 (pc1 := 50) (ls1 := [some (.ref 59), some (.int (Int32.ofNat s)), some (.int (w)), some (.int (i))]) (st1 := [.int (Int32.ofNat s), .ref 69, .int (0), .int (i)]) rfl ?_
  refine Wp.iald (j := s) (k := 20) (n := 4) rfl (WF.t hw 69 rfl) rfl rfl hs (by decide) ?_
  rw [show h.2.2.1 69 s = Int32.ofNat z from h69]
  refine Wp.seg 2 (pc1 := 53) (ls1 := [some (.ref 59), some (.int (Int32.ofNat s)), some (.int (w)), some (.int (i))]) (st1 := [.int ((Int32.ofNat z) - (1 : Int32)), .int (0), .int (i)]) rfl ?_
  refine Wp.inv (d2 := 0) (as := [.int (i), .int (0), .int ((Int32.ofNat z) - (1 : Int32))]) (r := []) rfl rfl rfl rfl rfl rfl (by omega) (s_plB hz rfl ?_)
  show Wp d 266 56 [some (.ref 59), some (.int (Int32.ofNat s)), some (.int (w)), some (.int (i))] [.int (b32 (plB z i))] h Q
  refine Wp.ifz rfl (fun c5 => ?_) (fun c5 => absurd (c5.symm.trans (qi)) (by decide))
  refine Wp.seg 1 (pc1 := 76) (ls1 := [some (.ref 59), some (.int (Int32.ofNat s)), some (.int (w)), some (.int (i))]) (st1 := [.int (-12)]) rfl ?_
  exact Wp.reti rfl rfl hQ
set_option maxHeartbeats 4000000 in
theorem t_cit6 {d : Nat} {Q : KO → Prop} {h : KH} (hw : WF h) {s : Nat} {so : Int32} (hs : s < 4) (h38 : h.2.2.1 38 s = so) {z : Nat} (hz : z ≤ 40) (h39 : h.2.2.1 39 s = Int32.ofNat z) (qs : inB (Int32.ofNat s) 0 3 = true) {w : Int32} (w0 : ¬ (w < 0)) (w5 : w < 5) (e1 : ¬ (so = -1)) (e2 : so = w) {j : Nat} (hj : j < z) (qi : plB z (Int32.ofNat j) = true) (hd : 2 ≤ d) (hQ : Q (some (.int (h.2.2.1 (41 + s) j)), h)) : Cl d 151 [.ref 0, .int (Int32.ofNat s), .int (w), .int (Int32.ofNat j)] h Q := by
  refine Cl.of (ls := [some (.ref 0), some (.int (Int32.ofNat s)), some (.int (w)), some (.int (Int32.ofNat j)), none]) rfl rfl ?_
  refine Wp.seg 1 (pc1 := 1) (ls1 := [some (.ref 0), some (.int (Int32.ofNat s)), some (.int (w)), some (.int (Int32.ofNat j)), none]) (st1 := [.int (Int32.ofNat s)]) rfl ?_
  refine Wp.inv (d2 := 0) (as := [.int (Int32.ofNat s)]) (r := []) rfl rfl rfl rfl rfl rfl (by omega) (s_b154 ?_)
  show Wp d 151 4 [some (.ref 0), some (.int (Int32.ofNat s)), some (.int (w)), some (.int (Int32.ofNat j)), none] [.int (b32 (inB (Int32.ofNat s) 0 3))] h Q
  refine Wp.ifz rfl (fun c1 => absurd (c1.symm.trans (qs)) (by decide)) (fun c1 => ?_)
  refine Wp.seg 1 (pc1 := 8) (ls1 := [some (.ref 0), some (.int (Int32.ofNat s)), some (.int (w)), some (.int (Int32.ofNat j)), none]) (st1 := [.int (w)]) rfl ?_
  refine Wp.if1 rfl (fun c2 => absurd c2 (w0)) (fun c2 => ?_)
  refine Wp.seg 2 (pc1 := 13) (ls1 := [some (.ref 0), some (.int (Int32.ofNat s)), some (.int (w)), some (.int (Int32.ofNat j)), none]) (st1 := [.int (5), .int (w)]) rfl ?_
  refine Wp.if2 rfl (fun c3 => ?_) (fun c3 => absurd (w5) c3)
  refine Wp.seg 3 (pc1 := 21) (ls1 := [some (.ref 0), some (.int (Int32.ofNat s)), some (.int (w)), some (.int (Int32.ofNat j)), none]) (st1 := [.int (w), .int (Int32.ofNat s), .ref 0]) rfl ?_
  refine Wp.invV (d2 := 0) (as := [.ref 0, .int (Int32.ofNat s), .int (w)]) (r := []) (t := (10, 0)) rfl rfl rfl rfl (WF.t hw 0 rfl) rfl rfl ⟨rfl, rfl⟩ (by omega) (t_rfs hw hs h38 (by decide) ⟨fun _ => ⟨fun c => absurd e2 c, fun _ => ?_⟩, fun c => absurd e1 c⟩)
  show Wp d 151 24 [some (.ref 0), some (.int (Int32.ofNat s)), some (.int (w)), some (.int (Int32.ofNat j)), none] [.int (0)] h Q
  refine Wp.seg 2 (pc1 := 28) (ls1 := [some (.ref 0), some (.int (Int32.ofNat s)), some (.int (w)), some (.int (Int32.ofNat j)), some (.int (0))]) (st1 := [.int (0)]) rfl ?_
  refine Wp.if1 rfl (fun c4 => ?_) (fun c4 => absurd (show (0 : Int32) = 0 by decide) c4)
  refine Wp.seg 3 (pc1 := 37) (ls1 := [some (.ref 0), some (.int (Int32.ofNat s)), some (.int (w)), some (.int (Int32.ofNat j)), some (.int (0))]) (st1 := [.int (Int32.ofNat j), .int (Int32.ofNat s), .ref 0]) rfl ?_
  refine Wp.invV (d2 := 0) (as := [.ref 0, .int (Int32.ofNat s), .int (Int32.ofNat j)]) (r := []) (t := (10, 0)) rfl rfl rfl rfl (WF.t hw 0 rfl) rfl rfl ⟨rfl, rfl⟩ (by omega) (s_item hw hs hz h39 ?_)
  show Wp d 151 40 [some (.ref 0), some (.int (Int32.ofNat s)), some (.int (w)), some (.int (Int32.ofNat j)), some (.int (0))] [.int (b32 (plB z (Int32.ofNat j)))] h Q
  refine Wp.ifz rfl (fun c5 => absurd (c5.symm.trans (qi)) (by decide)) (fun c5 => ?_)
  refine Wp.seg 1 (pc1 := 44) (ls1 := [some (.ref 0), some (.int (Int32.ofNat s)), some (.int (w)), some (.int (Int32.ofNat j)), some (.int (0))]) (st1 := [.ref 0]) rfl ?_
  refine Wp.gr (t := (10, 0)) (v := some (40)) rfl (WF.t hw 0 rfl) rfl (WF.r hw 0 10 8 rfl) ?_
  show Wp d 151 47 [some (.ref 0), some (.int (Int32.ofNat s)), some (.int (w)), some (.int (Int32.ofNat j)), some (.int (0))] [.ref 40] h Q
  refine Wp.seg 1 (pc1 := 48) (ls1 := [some (.ref 0), some (.int (Int32.ofNat s)), some (.int (w)), some (.int (Int32.ofNat j)), some (.int (0))]) (st1 := [.int (Int32.ofNat s), .ref 40]) rfl ?_
  refine Wp.aald (j := s) (k := 26) (n := 4) (v := some (41 + s)) rfl (WF.t hw 40 rfl) rfl rfl hs (by decide) (it_r hw hs) ?_
  show Wp d 151 49 [some (.ref 0), some (.int (Int32.ofNat s)), some (.int (w)), some (.int (Int32.ofNat j)), some (.int (0))] [.ref (41 + s)] h Q
  refine Wp.seg 1 (pc1 := 50) (ls1 := [some (.ref 0), some (.int (Int32.ofNat s)), some (.int (w)), some (.int (Int32.ofNat j)), some (.int (0))]) (st1 := [.int (Int32.ofNat j), .ref (41 + s)]) rfl ?_
  refine Wp.iald (j := j) (k := 20) (n := 40) rfl (it_t hw hs) rfl rfl (by omega) (by decide) ?_
  refine Wp.seg 1 (pc1 := 56) (ls1 := [some (.ref 0), some (.int (Int32.ofNat s)), some (.int (w)), some (.int (Int32.ofNat j)), some (.int (0))]) (st1 := [.int (h.2.2.1 (41 + s) j)]) rfl ?_
  exact Wp.reti rfl rfl hQ
set_option maxHeartbeats 4000000 in
theorem t_mit6 {d : Nat} {Q : KO → Prop} {h : KH} (hw : WF h) {s : Nat} {so : Int32} (hs : s < 4) (h68 : h.2.2.1 68 s = so) {z : Nat} (hz : z ≤ 40) (h69 : h.2.2.1 69 s = Int32.ofNat z) (qs : inB (Int32.ofNat s) 0 3 = true) {w : Int32} (qw : inB w 0 4 = true) (g : 0 ≤ so) (e2 : so = w) {j : Nat} (hj : j < z) (qi : plB z (Int32.ofNat j) = true) (hd : 2 ≤ d) (hQ : Q (some (.int ((h.2.2.2.1 70 ((40 * s + j))).toInt32)), h)) : Cl d 266 [.ref 59, .int (Int32.ofNat s), .int (w), .int (Int32.ofNat j)] h Q := by
  refine Cl.of (ls := [some (.ref 59), some (.int (Int32.ofNat s)), some (.int (w)), some (.int (Int32.ofNat j))]) rfl rfl ?_
  refine Wp.seg 1 (pc1 := 1) (ls1 := [some (.ref 59), some (.int (Int32.ofNat s)), some (.int (w)), some (.int (Int32.ofNat j))]) (st1 := [.int (Int32.ofNat s)]) rfl ?_
  refine Wp.inv (d2 := 1) (as := [.int (Int32.ofNat s)]) (r := []) rfl rfl rfl rfl rfl rfl (by omega) (s_b177 (Nat.le_refl _) ?_)
  show Wp d 266 4 [some (.ref 59), some (.int (Int32.ofNat s)), some (.int (w)), some (.int (Int32.ofNat j))] [.int (b32 (inB (Int32.ofNat s) 0 3))] h Q
  refine Wp.ifz rfl (fun c1 => absurd (c1.symm.trans (qs)) (by decide)) (fun c1 => ?_)
  refine Wp.seg 3 (pc1 := 10) (ls1 := [some (.ref 59), some (.int (Int32.ofNat s)), some (.int (w)), some (.int (Int32.ofNat j))]) (st1 := [.int (4), .int (0), .int (w)]) rfl ?_
  refine Wp.inv (d2 := 0) (as := [.int (w), .int (0), .int (4)]) (r := []) rfl rfl rfl rfl rfl rfl (by omega) (s_inB (x := 0) (y := 4) rfl rfl ?_)
  show Wp d 266 13 [some (.ref 59), some (.int (Int32.ofNat s)), some (.int (w)), some (.int (Int32.ofNat j))] [.int (b32 (inB w 0 4))] h Q
  refine Wp.ifnz rfl (fun c2 => ?_) (fun c2 => absurd (c2.symm.trans (qw)) (by decide))
  refine Wp.seg 1 (pc1 := 19) (ls1 := [some (.ref 59), some (.int (Int32.ofNat s)), some (.int (w)), some (.int (Int32.ofNat j))]) (st1 := [.ref 59]) rfl ?_
  refine Wp.gr (t := (11, 0)) (v := some (68)) rfl (WF.t hw 59 rfl) rfl (WF.r hw 59 22 66 rfl) ?_
  show Wp d 266 22 [some (.ref 59), some (.int (Int32.ofNat s)), some (.int (w)), some (.int (Int32.ofNat j))] [.ref 68] h Q
  refine Wp.seg 1 (pc1 := 23) (ls1 := [some (.ref 59), some (.int (Int32.ofNat s)), some (.int (w)), some (.int (Int32.ofNat j))]) (st1 := [.int (Int32.ofNat s), .ref 68]) rfl ?_
  refine Wp.iald (j := s) (k := 20) (n := 4) rfl (WF.t hw 68 rfl) rfl rfl hs (by decide) ?_
  rw [show h.2.2.1 68 s = so from h68]
  refine Wp.if1 rfl (fun c3 => ?_) (fun c3 => absurd (g) c3)
  refine Wp.seg 1 (pc1 := 31) (ls1 := [some (.ref 59), some (.int (Int32.ofNat s)), some (.int (w)), some (.int (Int32.ofNat j))]) (st1 := [.ref 59]) rfl ?_
  refine Wp.gr (t := (11, 0)) (v := some (68)) rfl (WF.t hw 59 rfl) rfl (WF.r hw 59 22 66 rfl) ?_
  show Wp d 266 34 [some (.ref 59), some (.int (Int32.ofNat s)), some (.int (w)), some (.int (Int32.ofNat j))] [.ref 68] h Q
  refine Wp.seg 1 (pc1 := 35) (ls1 := [some (.ref 59), some (.int (Int32.ofNat s)), some (.int (w)), some (.int (Int32.ofNat j))]) (st1 := [.int (Int32.ofNat s), .ref 68]) rfl ?_
  refine Wp.iald (j := s) (k := 20) (n := 4) rfl (WF.t hw 68 rfl) rfl rfl hs (by decide) ?_
  rw [show h.2.2.1 68 s = so from h68]
  refine Wp.seg 1 (pc1 := 37) (ls1 := [some (.ref 59), some (.int (Int32.ofNat s)), some (.int (w)), some (.int (Int32.ofNat j))]) (st1 := [.int (w), .int (so)]) rfl ?_
  refine Wp.if2 rfl (fun c4 => ?_) (fun c4 => absurd (e2) c4)
  refine Wp.seg 3 (pc1 := 46) (ls1 := [some (.ref 59), some (.int (Int32.ofNat s)), some (.int (w)), some (.int (Int32.ofNat j))]) (st1 := [.ref 59, .int (0), .int (Int32.ofNat j)]) rfl ?_
  refine Wp.gr (t := (11, 0)) (v := some (69)) rfl (WF.t hw 59 rfl) rfl (WF.r hw 59 23 67 rfl) ?_
  show Wp d 266 49 [some (.ref 59), some (.int (Int32.ofNat s)), some (.int (w)), some (.int (Int32.ofNat j))] [.ref 69, .int (0), .int (Int32.ofNat j)] h Q
  refine Wp.seg 1 (pc1 := 50) (ls1 := [some (.ref 59), some (.int (Int32.ofNat s)), some (.int (w)), some (.int (Int32.ofNat j))]) (st1 := [.int (Int32.ofNat s), .ref 69, .int (0), .int (Int32.ofNat j)]) rfl ?_
  refine Wp.iald (j := s) (k := 20) (n := 4) rfl (WF.t hw 69 rfl) rfl rfl hs (by decide) ?_
  rw [show h.2.2.1 69 s = Int32.ofNat z from h69]
  refine Wp.seg 2 (pc1 := 53) (ls1 := [some (.ref 59), some (.int (Int32.ofNat s)), some (.int (w)), some (.int (Int32.ofNat j))]) (st1 := [.int ((Int32.ofNat z) - (1 : Int32)), .int (0), .int (Int32.ofNat j)]) rfl ?_
  refine Wp.inv (d2 := 0) (as := [.int (Int32.ofNat j), .int (0), .int ((Int32.ofNat z) - (1 : Int32))]) (r := []) rfl rfl rfl rfl rfl rfl (by omega) (s_plB hz rfl ?_)
  show Wp d 266 56 [some (.ref 59), some (.int (Int32.ofNat s)), some (.int (w)), some (.int (Int32.ofNat j))] [.int (b32 (plB z (Int32.ofNat j)))] h Q
  refine Wp.ifz rfl (fun c5 => absurd (c5.symm.trans (qi)) (by decide)) (fun c5 => ?_)
  refine Wp.seg 1 (pc1 := 60) (ls1 := [some (.ref 59), some (.int (Int32.ofNat s)), some (.int (w)), some (.int (Int32.ofNat j))]) (st1 := [.ref 59]) rfl ?_
  refine Wp.gr (t := (11, 0)) (v := some (70)) rfl (WF.t hw 59 rfl) rfl (WF.r hw 59 24 68 rfl) ?_
  show Wp d 266 63 [some (.ref 59), some (.int (Int32.ofNat s)), some (.int (w)), some (.int (Int32.ofNat j))] [.ref 70] h Q
  refine Wp.seg 5 (pc1 := 69) (ls1 := [some (.ref 59), some (.int (Int32.ofNat s)), some (.int (w)), some (.int (Int32.ofNat j))]) (st1 := [.int (((40 : Int32) * (Int32.ofNat s)) + (Int32.ofNat j)), .ref 70]) rfl ?_
  refine Wp.lald (j := (40 * s + j)) (n := 160) rfl (WF.t hw 70 rfl) (six s j) (by omega) (by decide) ?_
  refine Wp.seg 2 (pc1 := 76) (ls1 := [some (.ref 59), some (.int (Int32.ofNat s)), some (.int (w)), some (.int (Int32.ofNat j))]) (st1 := [.int ((h.2.2.2.1 70 ((40 * s + j))).toInt32)]) rfl ?_
  exact Wp.reti rfl rfl hQ
theorem JI_same {h : KH} {Mc Mm dc dm : Nat} {ca ma : List Value} {v : Int32} (hi : Inv h) (h1 : Cl dc Mc ca h (fun o => o = (some (.int v), h))) (h2 : Cl dm Mm ma h (fun o => o = (some (.int v), h))) (hdc : dc ≤ 15 := by decide) (hdm : dm ≤ 15 := by decide) : JI h Mc ca Mm ma := by
  refine ⟨v, (h1.depth hdc).post ?_⟩
  rintro o rfl
  refine ⟨h, rfl, (h2.depth hdm).post ?_⟩
  rintro o2 rfl
  exact ⟨h, rfl, hi, by omega, by omega, fun _ _ => ⟨rfl, rfl⟩⟩
theorem so_rng {so : Int32} (h : inB so (-1) 4 = true) : -1 ≤ so.toInt ∧ so.toInt ≤ 4 := of_decide_eq_true h
theorem eqm1 {so : Int32} (h : so.toInt = -1) : so = -1 := Int32.toInt_inj.mp (h.trans rfl)
theorem J_item {h : KH} (hi : Inv h) (v w i : Int32) : JI h 151 [.ref 0, .int v, .int w, .int i] 266 [.ref 59, .int v, .int w, .int i] := by
  have hw := hi.1
  rcases hq : inB v 0 3 with _ | _
  · exact JI_same (dc := 2) (dm := 2) hi (t_cit1 hw hq (Nat.le_refl _) rfl) (t_mit1 hw hq (Nat.le_refl _) rfl)
  obtain ⟨s, hs0, rfl⟩ := inB_nat (b := 3) hq
  have hs : s < 4 := by omega
  obtain ⟨s1, s2, s3, z, hz, s4, s5⟩ := hi.2.2.1.2.2.2.1 s hs
  have h38 : h.2.2.1 38 s = h.2.2.1 38 s := rfl
  have h68 := s1.symm
  have h69 := s2.symm.trans s4
  obtain ⟨so, eso⟩ : ∃ so, h.2.2.1 38 s = so := ⟨_, rfl⟩
  rw [eso] at h68 s3
  have sr := so_rng s3
  rcases hw4 : inB w 0 4 with _ | _
  · have nw : ¬ (0 ≤ w.toInt ∧ w.toInt ≤ 4) := of_decide_eq_false hw4
    refine JI_same (dc := 2) (dm := 2) hi (t_cit2 (so := 0) hw hs hq (Nat.le_refl _) ⟨fun _ => rfl, fun c1 => ⟨fun c2 => absurd ?_ nw, fun _ => rfl⟩⟩) (t_mit2 (so := 0) hw hs hq hw4 (Nat.le_refl _) rfl)
    have k1 := i32F (rfl : w.toInt = w.toInt) (show (0 : Int32).toInt = 0 from rfl) c1
    have k2 := i32T (rfl : w.toInt = w.toInt) (show (5 : Int32).toInt = 5 from rfl) c2
    omega
  have yw : 0 ≤ w.toInt ∧ w.toInt ≤ 4 := of_decide_eq_true hw4
  have w0 : ¬ (w < 0) := fun c => by
    have := i32T (rfl : w.toInt = w.toInt) (show (0 : Int32).toInt = 0 from rfl) c
    omega
  have w5 : w < 5 := (Int32.lt_iff_toInt_lt).mpr (show w.toInt < 5 by omega)
  by_cases e1 : so = -1
  · have g : ¬ (0 ≤ so) := by rw [e1]; decide
    exact JI_same (dc := 2) (dm := 2) hi (t_cit3 hw hs eso hq w0 w5 e1 (Nat.le_refl _) rfl) (t_mit3 hw hs h68 hq hw4 g (Nat.le_refl _) rfl)
  have g : 0 ≤ so := (Int32.le_iff_toInt_le).mpr (show 0 ≤ so.toInt by have : so.toInt ≠ -1 := fun z => e1 (eqm1 z); omega)
  by_cases e2 : so = w
  · rcases hp : plB z i with _ | _
    · exact JI_same (dc := 2) (dm := 2) hi (t_cit5 hw hs eso hz s4 hq w0 w5 e1 e2 hp (Nat.le_refl _) rfl) (t_mit5 hw hs h68 hz h69 hq hw4 g e2 hp (Nat.le_refl _) rfl)
    obtain ⟨j, hj, rfl⟩ := plB_lt hp
    refine JI_same (v := h.2.2.1 (41 + s) j) (dc := 2) (dm := 2) hi (t_cit6 hw hs eso hz s4 hq w0 w5 e1 e2 hj hp (Nat.le_refl _) rfl) (t_mit6 hw hs h68 hz h69 hq hw4 g e2 hj hp (Nat.le_refl _) ?_)
    rw [s5 j hj]
  · exact JI_same (dc := 2) (dm := 2) hi (t_cit4 hw hs eso hq w0 w5 e1 e2 (Nat.le_refl _) rfl) (t_mit4 hw hs h68 hq hw4 g e2 (Nat.le_refl _) rfl)
set_option maxHeartbeats 4000000 in
theorem t_cwr1 {d : Nat} {Q : KO → Prop} {h : KH} (hw : WF h) {v i x : Int32} (q : inB v 0 3 = false) (hd : 2 ≤ d) (hQ : Q (some (.int (-1)), h)) : Cl d 149 [.ref 0, .int (v), .int (i), .int (x)] h Q := by
  refine Cl.of (ls := [some (.ref 0), some (.int (v)), some (.int (i)), some (.int (x))]) rfl rfl ?_
  refine Wp.seg 1 (pc1 := 1) (ls1 := [some (.ref 0), some (.int (v)), some (.int (i)), some (.int (x))]) (st1 := [.int (v)]) rfl ?_
  refine Wp.inv (d2 := 0) (as := [.int (v)]) (r := []) rfl rfl rfl rfl rfl rfl (by omega) (s_b154 ?_)
  show Wp d 149 4 [some (.ref 0), some (.int (v)), some (.int (i)), some (.int (x))] [.int (b32 (inB v 0 3))] h Q
  refine Wp.ifnz rfl (fun c1 => absurd (c1.symm.trans (q)) (by decide)) (fun c1 => ?_)
  refine Wp.seg 1 (pc1 := 8) (ls1 := [some (.ref 0), some (.int (v)), some (.int (i)), some (.int (x))]) (st1 := [.int (-1)]) rfl ?_
  exact Wp.reti rfl rfl hQ
set_option maxHeartbeats 4000000 in
theorem t_mwr1 {d : Nat} {Q : KO → Prop} {h : KH} (hw : WF h) {v i x : Int32} (q : inB v 0 3 = false) (hd : 2 ≤ d) (hQ : Q (some (.int (-1)), h)) : Cl d 265 [.ref 59, .int (v), .int (i), .int (x)] h Q := by
  refine Cl.of (ls := [some (.ref 59), some (.int (v)), some (.int (i)), some (.int (x)), none]) rfl rfl ?_
  refine Wp.seg 1 (pc1 := 1) (ls1 := [some (.ref 59), some (.int (v)), some (.int (i)), some (.int (x)), none]) (st1 := [.int (v)]) rfl ?_
  refine Wp.inv (d2 := 1) (as := [.int (v)]) (r := []) rfl rfl rfl rfl rfl rfl (by omega) (s_b177 (Nat.le_refl _) ?_)
  show Wp d 265 4 [some (.ref 59), some (.int (v)), some (.int (i)), some (.int (x)), none] [.int (b32 (inB v 0 3))] h Q
  refine Wp.ifnz rfl (fun c1 => absurd (c1.symm.trans (q)) (by decide)) (fun c1 => ?_)
  refine Wp.seg 1 (pc1 := 8) (ls1 := [some (.ref 59), some (.int (v)), some (.int (i)), some (.int (x)), none]) (st1 := [.int (-1)]) rfl ?_
  exact Wp.reti rfl rfl hQ
set_option maxHeartbeats 4000000 in
theorem t_cwr2 {d : Nat} {Q : KO → Prop} {h : KH} (hw : WF h) {s : Nat} {so : Int32} (hs : s < 4) (h38 : h.2.2.1 38 s = so) (qs : inB (Int32.ofNat s) 0 3 = true) {i x : Int32} (e1 : so = -1) (hd : 2 ≤ d) (hQ : Q (some (.int (-11)), h)) : Cl d 149 [.ref 0, .int (Int32.ofNat s), .int (i), .int (x)] h Q := by
  refine Cl.of (ls := [some (.ref 0), some (.int (Int32.ofNat s)), some (.int (i)), some (.int (x))]) rfl rfl ?_
  refine Wp.seg 1 (pc1 := 1) (ls1 := [some (.ref 0), some (.int (Int32.ofNat s)), some (.int (i)), some (.int (x))]) (st1 := [.int (Int32.ofNat s)]) rfl ?_
  refine Wp.inv (d2 := 0) (as := [.int (Int32.ofNat s)]) (r := []) rfl rfl rfl rfl rfl rfl (by omega) (s_b154 ?_)
  show Wp d 149 4 [some (.ref 0), some (.int (Int32.ofNat s)), some (.int (i)), some (.int (x))] [.int (b32 (inB (Int32.ofNat s) 0 3))] h Q
  refine Wp.ifnz rfl (fun c1 => ?_) (fun c1 => absurd (c1.symm.trans (qs)) (by decide))
  refine Wp.seg 1 (pc1 := 10) (ls1 := [some (.ref 0), some (.int (Int32.ofNat s)), some (.int (i)), some (.int (x))]) (st1 := [.ref 0]) rfl ?_
  refine Wp.gr (t := (10, 0)) (v := some (38)) rfl (WF.t hw 0 rfl) rfl (WF.r hw 0 8 6 rfl) ?_
  show Wp d 149 13 [some (.ref 0), some (.int (Int32.ofNat s)), some (.int (i)), some (.int (x))] [.ref 38] h Q
  refine Wp.seg 1 (pc1 := 14) (ls1 := [some (.ref 0), some (.int (Int32.ofNat s)), some (.int (i)), some (.int (x))]) (st1 := [.int (Int32.ofNat s), .ref 38]) rfl ?_
  refine Wp.iald (j := s) (k := 20) (n := 4) rfl (WF.t hw 38 rfl) rfl rfl hs (by decide) ?_
  rw [show h.2.2.1 38 s = so from h38]
  refine Wp.seg 1 (pc1 := 16) (ls1 := [some (.ref 0), some (.int (Int32.ofNat s)), some (.int (i)), some (.int (x))]) (st1 := [.int (-1), .int (so)]) rfl ?_
  refine Wp.if2 rfl (fun c2 => absurd c2 (fun c => c e1)) (fun c2 => ?_)
  refine Wp.seg 1 (pc1 := 21) (ls1 := [some (.ref 0), some (.int (Int32.ofNat s)), some (.int (i)), some (.int (x))]) (st1 := [.int (-11)]) rfl ?_
  exact Wp.reti rfl rfl hQ
set_option maxHeartbeats 4000000 in
theorem t_mwr2 {d : Nat} {Q : KO → Prop} {h : KH} (hw : WF h) {s : Nat} {so : Int32} (hs : s < 4) (h68 : h.2.2.1 68 s = so) (qs : inB (Int32.ofNat s) 0 3 = true) {i x : Int32} (g : ¬ (0 ≤ so)) (hd : 2 ≤ d) (hQ : Q (some (.int (-11)), h)) : Cl d 265 [.ref 59, .int (Int32.ofNat s), .int (i), .int (x)] h Q := by
  refine Cl.of (ls := [some (.ref 59), some (.int (Int32.ofNat s)), some (.int (i)), some (.int (x)), none]) rfl rfl ?_
  refine Wp.seg 1 (pc1 := 1) (ls1 := [some (.ref 59), some (.int (Int32.ofNat s)), some (.int (i)), some (.int (x)), none]) (st1 := [.int (Int32.ofNat s)]) rfl ?_
  refine Wp.inv (d2 := 1) (as := [.int (Int32.ofNat s)]) (r := []) rfl rfl rfl rfl rfl rfl (by omega) (s_b177 (Nat.le_refl _) ?_)
  show Wp d 265 4 [some (.ref 59), some (.int (Int32.ofNat s)), some (.int (i)), some (.int (x)), none] [.int (b32 (inB (Int32.ofNat s) 0 3))] h Q
  refine Wp.ifnz rfl (fun c1 => ?_) (fun c1 => absurd (c1.symm.trans (qs)) (by decide))
  refine Wp.seg 1 (pc1 := 10) (ls1 := [some (.ref 59), some (.int (Int32.ofNat s)), some (.int (i)), some (.int (x)), none]) (st1 := [.ref 59]) rfl ?_
  refine Wp.gr (t := (11, 0)) (v := some (68)) rfl (WF.t hw 59 rfl) rfl (WF.r hw 59 22 66 rfl) ?_
  show Wp d 265 13 [some (.ref 59), some (.int (Int32.ofNat s)), some (.int (i)), some (.int (x)), none] [.ref 68] h Q
  refine Wp.seg 1 (pc1 := 14) (ls1 := [some (.ref 59), some (.int (Int32.ofNat s)), some (.int (i)), some (.int (x)), none]) (st1 := [.int (Int32.ofNat s), .ref 68]) rfl ?_
  refine Wp.iald (j := s) (k := 20) (n := 4) rfl (WF.t hw 68 rfl) rfl rfl hs (by decide) ?_
  rw [show h.2.2.1 68 s = so from h68]
  refine Wp.if1 rfl (fun c2 => absurd c2 (g)) (fun c2 => ?_)
  refine Wp.seg 1 (pc1 := 20) (ls1 := [some (.ref 59), some (.int (Int32.ofNat s)), some (.int (i)), some (.int (x)), none]) (st1 := [.int (-11)]) rfl ?_
  exact Wp.reti rfl rfl hQ
set_option maxHeartbeats 4000000 in
theorem t_cwr3 {d : Nat} {Q : KO → Prop} {h : KH} (hw : WF h) {s : Nat} {so : Int32} (hs : s < 4) (h38 : h.2.2.1 38 s = so) {z : Nat} (hz : z ≤ 40) (h39 : h.2.2.1 39 s = Int32.ofNat z) (qs : inB (Int32.ofNat s) 0 3 = true) {i x : Int32} (e1 : ¬ (so = -1)) (qi : plB z i = false) (hd : 2 ≤ d) (hQ : Q (some (.int (-12)), h)) : Cl d 149 [.ref 0, .int (Int32.ofNat s), .int (i), .int (x)] h Q := by
  refine Cl.of (ls := [some (.ref 0), some (.int (Int32.ofNat s)), some (.int (i)), some (.int (x))]) rfl rfl ?_
  refine Wp.seg 1 (pc1 := 1) (ls1 := [some (.ref 0), some (.int (Int32.ofNat s)), some (.int (i)), some (.int (x))]) (st1 := [.int (Int32.ofNat s)]) rfl ?_
  refine Wp.inv (d2 := 0) (as := [.int (Int32.ofNat s)]) (r := []) rfl rfl rfl rfl rfl rfl (by omega) (s_b154 ?_)
  show Wp d 149 4 [some (.ref 0), some (.int (Int32.ofNat s)), some (.int (i)), some (.int (x))] [.int (b32 (inB (Int32.ofNat s) 0 3))] h Q
  refine Wp.ifnz rfl (fun c1 => ?_) (fun c1 => absurd (c1.symm.trans (qs)) (by decide))
  refine Wp.seg 1 (pc1 := 10) (ls1 := [some (.ref 0), some (.int (Int32.ofNat s)), some (.int (i)), some (.int (x))]) (st1 := [.ref 0]) rfl ?_
  refine Wp.gr (t := (10, 0)) (v := some (38)) rfl (WF.t hw 0 rfl) rfl (WF.r hw 0 8 6 rfl) ?_
  show Wp d 149 13 [some (.ref 0), some (.int (Int32.ofNat s)), some (.int (i)), some (.int (x))] [.ref 38] h Q
  refine Wp.seg 1 (pc1 := 14) (ls1 := [some (.ref 0), some (.int (Int32.ofNat s)), some (.int (i)), some (.int (x))]) (st1 := [.int (Int32.ofNat s), .ref 38]) rfl ?_
  refine Wp.iald (j := s) (k := 20) (n := 4) rfl (WF.t hw 38 rfl) rfl rfl hs (by decide) ?_
  rw [show h.2.2.1 38 s = so from h38]
  refine Wp.seg 1 (pc1 := 16) (ls1 := [some (.ref 0), some (.int (Int32.ofNat s)), some (.int (i)), some (.int (x))]) (st1 := [.int (-1), .int (so)]) rfl ?_
  refine Wp.if2 rfl (fun c2 => ?_) (fun c2 => absurd (e1) c2)
  refine Wp.seg 3 (pc1 := 25) (ls1 := [some (.ref 0), some (.int (Int32.ofNat s)), some (.int (i)), some (.int (x))]) (st1 := [.int (i), .int (Int32.ofNat s), .ref 0]) rfl ?_
  refine Wp.invV (d2 := 0) (as := [.ref 0, .int (Int32.ofNat s), .int (i)]) (r := []) (t := (10, 0)) rfl rfl rfl rfl (WF.t hw 0 rfl) rfl rfl ⟨rfl, rfl⟩ (by omega) (s_item hw hs hz h39 ?_)
  show Wp d 149 28 [some (.ref 0), some (.int (Int32.ofNat s)), some (.int (i)), some (.int (x))] [.int (b32 (plB z i))] h Q
  refine Wp.ifnz rfl (fun c3 => absurd (c3.symm.trans (qi)) (by decide)) (fun c3 => ?_)
  refine Wp.seg 1 (pc1 := 33) (ls1 := [some (.ref 0), some (.int (Int32.ofNat s)), some (.int (i)), some (.int (x))]) (st1 := [.int (-12)]) rfl ?_
  exact Wp.reti rfl rfl hQ
set_option maxHeartbeats 4000000 in
theorem t_mwr3 {d : Nat} {Q : KO → Prop} {h : KH} (hw : WF h) {s : Nat} {so : Int32} (hs : s < 4) (h68 : h.2.2.1 68 s = so) {z : Nat} (hz : z ≤ 40) (h69 : h.2.2.1 69 s = Int32.ofNat z) (qs : inB (Int32.ofNat s) 0 3 = true) {i x : Int32} (g : 0 ≤ so) (qi : plB z i = false) (hd : 2 ≤ d) (hQ : Q (some (.int (-12)), h)) : Cl d 265 [.ref 59, .int (Int32.ofNat s), .int (i), .int (x)] h Q := by
  refine Cl.of (ls := [some (.ref 59), some (.int (Int32.ofNat s)), some (.int (i)), some (.int (x)), none]) rfl rfl ?_
  refine Wp.seg 1 (pc1 := 1) (ls1 := [some (.ref 59), some (.int (Int32.ofNat s)), some (.int (i)), some (.int (x)), none]) (st1 := [.int (Int32.ofNat s)]) rfl ?_
  refine Wp.inv (d2 := 1) (as := [.int (Int32.ofNat s)]) (r := []) rfl rfl rfl rfl rfl rfl (by omega) (s_b177 (Nat.le_refl _) ?_)
  show Wp d 265 4 [some (.ref 59), some (.int (Int32.ofNat s)), some (.int (i)), some (.int (x)), none] [.int (b32 (inB (Int32.ofNat s) 0 3))] h Q
  refine Wp.ifnz rfl (fun c1 => ?_) (fun c1 => absurd (c1.symm.trans (qs)) (by decide))
  refine Wp.seg 1 (pc1 := 10) (ls1 := [some (.ref 59), some (.int (Int32.ofNat s)), some (.int (i)), some (.int (x)), none]) (st1 := [.ref 59]) rfl ?_
  refine Wp.gr (t := (11, 0)) (v := some (68)) rfl (WF.t hw 59 rfl) rfl (WF.r hw 59 22 66 rfl) ?_
  show Wp d 265 13 [some (.ref 59), some (.int (Int32.ofNat s)), some (.int (i)), some (.int (x)), none] [.ref 68] h Q
  refine Wp.seg 1 (pc1 := 14) (ls1 := [some (.ref 59), some (.int (Int32.ofNat s)), some (.int (i)), some (.int (x)), none]) (st1 := [.int (Int32.ofNat s), .ref 68]) rfl ?_
  refine Wp.iald (j := s) (k := 20) (n := 4) rfl (WF.t hw 68 rfl) rfl rfl hs (by decide) ?_
  rw [show h.2.2.1 68 s = so from h68]
  refine Wp.if1 rfl (fun c2 => ?_) (fun c2 => absurd (g) c2)
  refine Wp.seg 3 (pc1 := 24) (ls1 := [some (.ref 59), some (.int (Int32.ofNat s)), some (.int (i)), some (.int (x)), none]) (st1 := [.ref 59, .int (0), .int (i)]) rfl ?_
  refine Wp.gr (t := (11, 0)) (v := some (69)) rfl (WF.t hw 59 rfl) rfl (WF.r hw 59 23 67 rfl) ?_
  show Wp d 265 27 [some (.ref 59), some (.int (Int32.ofNat s)), some (.int (i)), some (.int (x)), none] [.ref 69, .int (0), .int (i)] h Q
  refine Wp.seg 1 (pc1 := 28) (ls1 := [some (.ref 59), some (.int (Int32.ofNat s)), some (.int (i)), some (.int (x)), none]) (st1 := [.int (Int32.ofNat s), .ref 69, .int (0), .int (i)]) rfl ?_
  refine Wp.iald (j := s) (k := 20) (n := 4) rfl (WF.t hw 69 rfl) rfl rfl hs (by decide) ?_
  rw [show h.2.2.1 69 s = Int32.ofNat z from h69]
  refine Wp.seg 2 (pc1 := 31) (ls1 := [some (.ref 59), some (.int (Int32.ofNat s)), some (.int (i)), some (.int (x)), none]) (st1 := [.int ((Int32.ofNat z) - (1 : Int32)), .int (0), .int (i)]) rfl ?_
  refine Wp.inv (d2 := 0) (as := [.int (i), .int (0), .int ((Int32.ofNat z) - (1 : Int32))]) (r := []) rfl rfl rfl rfl rfl rfl (by omega) (s_plB hz rfl ?_)
  show Wp d 265 34 [some (.ref 59), some (.int (Int32.ofNat s)), some (.int (i)), some (.int (x)), none] [.int (b32 (plB z i))] h Q
  refine Wp.ifnz rfl (fun c3 => absurd (c3.symm.trans (qi)) (by decide)) (fun c3 => ?_)
  refine Wp.seg 1 (pc1 := 39) (ls1 := [some (.ref 59), some (.int (Int32.ofNat s)), some (.int (i)), some (.int (x)), none]) (st1 := [.int (-12)]) rfl ?_
  exact Wp.reti rfl rfl hQ
set_option maxHeartbeats 4000000 in
theorem t_cwr4 {d : Nat} {Q : KO → Prop} {h : KH} (hw : WF h) {s : Nat} {so : Int32} (hs : s < 4) (h38 : h.2.2.1 38 s = so) {z : Nat} (hz : z ≤ 40) (h39 : h.2.2.1 39 s = Int32.ofNat z) (qs : inB (Int32.ofNat s) 0 3 = true) {x : Int32} (e1 : ¬ (so = -1)) {j : Nat} (hj : j < z) (qi : plB z (Int32.ofNat j) = true) (hd : 2 ≤ d) (hQ : Q (some (.int (1)), kwi h (41 + s) j (narS so x))) : Cl d 149 [.ref 0, .int (Int32.ofNat s), .int (Int32.ofNat j), .int (x)] h Q := by
  refine Cl.of (ls := [some (.ref 0), some (.int (Int32.ofNat s)), some (.int (Int32.ofNat j)), some (.int (x))]) rfl rfl ?_
  refine Wp.seg 1 (pc1 := 1) (ls1 := [some (.ref 0), some (.int (Int32.ofNat s)), some (.int (Int32.ofNat j)), some (.int (x))]) (st1 := [.int (Int32.ofNat s)]) rfl ?_
  refine Wp.inv (d2 := 0) (as := [.int (Int32.ofNat s)]) (r := []) rfl rfl rfl rfl rfl rfl (by omega) (s_b154 ?_)
  show Wp d 149 4 [some (.ref 0), some (.int (Int32.ofNat s)), some (.int (Int32.ofNat j)), some (.int (x))] [.int (b32 (inB (Int32.ofNat s) 0 3))] h Q
  refine Wp.ifnz rfl (fun c1 => ?_) (fun c1 => absurd (c1.symm.trans (qs)) (by decide))
  refine Wp.seg 1 (pc1 := 10) (ls1 := [some (.ref 0), some (.int (Int32.ofNat s)), some (.int (Int32.ofNat j)), some (.int (x))]) (st1 := [.ref 0]) rfl ?_
  refine Wp.gr (t := (10, 0)) (v := some (38)) rfl (WF.t hw 0 rfl) rfl (WF.r hw 0 8 6 rfl) ?_
  show Wp d 149 13 [some (.ref 0), some (.int (Int32.ofNat s)), some (.int (Int32.ofNat j)), some (.int (x))] [.ref 38] h Q
  refine Wp.seg 1 (pc1 := 14) (ls1 := [some (.ref 0), some (.int (Int32.ofNat s)), some (.int (Int32.ofNat j)), some (.int (x))]) (st1 := [.int (Int32.ofNat s), .ref 38]) rfl ?_
  refine Wp.iald (j := s) (k := 20) (n := 4) rfl (WF.t hw 38 rfl) rfl rfl hs (by decide) ?_
  rw [show h.2.2.1 38 s = so from h38]
  refine Wp.seg 1 (pc1 := 16) (ls1 := [some (.ref 0), some (.int (Int32.ofNat s)), some (.int (Int32.ofNat j)), some (.int (x))]) (st1 := [.int (-1), .int (so)]) rfl ?_
  refine Wp.if2 rfl (fun c2 => ?_) (fun c2 => absurd (e1) c2)
  refine Wp.seg 3 (pc1 := 25) (ls1 := [some (.ref 0), some (.int (Int32.ofNat s)), some (.int (Int32.ofNat j)), some (.int (x))]) (st1 := [.int (Int32.ofNat j), .int (Int32.ofNat s), .ref 0]) rfl ?_
  refine Wp.invV (d2 := 0) (as := [.ref 0, .int (Int32.ofNat s), .int (Int32.ofNat j)]) (r := []) (t := (10, 0)) rfl rfl rfl rfl (WF.t hw 0 rfl) rfl rfl ⟨rfl, rfl⟩ (by omega) (s_item hw hs hz h39 ?_)
  show Wp d 149 28 [some (.ref 0), some (.int (Int32.ofNat s)), some (.int (Int32.ofNat j)), some (.int (x))] [.int (b32 (plB z (Int32.ofNat j)))] h Q
  refine Wp.ifnz rfl (fun c3 => ?_) (fun c3 => absurd (c3.symm.trans (qi)) (by decide))
  refine Wp.seg 1 (pc1 := 35) (ls1 := [some (.ref 0), some (.int (Int32.ofNat s)), some (.int (Int32.ofNat j)), some (.int (x))]) (st1 := [.ref 0]) rfl ?_
  refine Wp.gr (t := (10, 0)) (v := some (40)) rfl (WF.t hw 0 rfl) rfl (WF.r hw 0 10 8 rfl) ?_
  show Wp d 149 38 [some (.ref 0), some (.int (Int32.ofNat s)), some (.int (Int32.ofNat j)), some (.int (x))] [.ref 40] h Q
  refine Wp.seg 1 (pc1 := 39) (ls1 := [some (.ref 0), some (.int (Int32.ofNat s)), some (.int (Int32.ofNat j)), some (.int (x))]) (st1 := [.int (Int32.ofNat s), .ref 40]) rfl ?_
  refine Wp.aald (j := s) (k := 26) (n := 4) (v := some (41 + s)) rfl (WF.t hw 40 rfl) rfl rfl hs (by decide) (it_r hw hs) ?_
  show Wp d 149 40 [some (.ref 0), some (.int (Int32.ofNat s)), some (.int (Int32.ofNat j)), some (.int (x))] [.ref (41 + s)] h Q
  refine Wp.seg 2 (pc1 := 42) (ls1 := [some (.ref 0), some (.int (Int32.ofNat s)), some (.int (Int32.ofNat j)), some (.int (x))]) (st1 := [.ref 0, .int (Int32.ofNat j), .ref (41 + s)]) rfl ?_
  refine Wp.gr (t := (10, 0)) (v := some (38)) rfl (WF.t hw 0 rfl) rfl (WF.r hw 0 8 6 rfl) ?_
  show Wp d 149 45 [some (.ref 0), some (.int (Int32.ofNat s)), some (.int (Int32.ofNat j)), some (.int (x))] [.ref 38, .int (Int32.ofNat j), .ref (41 + s)] h Q
  refine Wp.seg 1 (pc1 := 46) (ls1 := [some (.ref 0), some (.int (Int32.ofNat s)), some (.int (Int32.ofNat j)), some (.int (x))]) (st1 := [.int (Int32.ofNat s), .ref 38, .int (Int32.ofNat j), .ref (41 + s)]) rfl ?_
  refine Wp.iald (j := s) (k := 20) (n := 4) rfl (WF.t hw 38 rfl) rfl rfl hs (by decide) ?_
  rw [show h.2.2.1 38 s = so from h38]
  refine Wp.seg 1 (pc1 := 48) (ls1 := [some (.ref 0), some (.int (Int32.ofNat s)), some (.int (Int32.ofNat j)), some (.int (x))]) (st1 := [.int (x), .int (so), .int (Int32.ofNat j), .ref (41 + s)]) rfl ?_
  refine Wp.inv (d2 := 0) (as := [.int (so), .int (x)]) (r := [.int (Int32.ofNat j), .ref (41 + s)]) rfl rfl rfl rfl rfl rfl (by omega) (s_nar ?_)
  show Wp d 149 51 [some (.ref 0), some (.int (Int32.ofNat s)), some (.int (Int32.ofNat j)), some (.int (x))] [.int (narS so x), .int (Int32.ofNat j), .ref (41 + s)] h Q
  refine Wp.iast (j := j) (n := 40) rfl (it_t hw hs) rfl (by omega) (by decide) ?_
  refine Wp.seg 1 (pc1 := 53) (ls1 := [some (.ref 0), some (.int (Int32.ofNat s)), some (.int (Int32.ofNat j)), some (.int (x))]) (st1 := [.int (1)]) rfl ?_
  exact Wp.reti rfl rfl hQ
set_option maxHeartbeats 4000000 in
theorem t_mwr4 {d : Nat} {Q : KO → Prop} {h : KH} (hw : WF h) {s : Nat} {so : Int32} (hs : s < 4) (h68 : h.2.2.1 68 s = so) {z : Nat} (hz : z ≤ 40) (h69 : h.2.2.1 69 s = Int32.ofNat z) (qs : inB (Int32.ofNat s) 0 3 = true) {x : Int32} (g : 0 ≤ so) {j : Nat} (hj : j < z) (qi : plB z (Int32.ofNat j) = true) (hd : 2 ≤ d) (hQ : (¬ so = 0 → (¬ so = (1 : Int32) → (¬ so = (4 : Int32) → Q (some (.int (1)), kwl h 70 ((40 * s + j)) x.toInt64)) ∧ (¬ (¬ so = (4 : Int32)) → (x = 0 → Q (some (.int (1)), kwl h 70 ((40 * s + j)) (0 : Int64))) ∧ (¬ (x = 0) → Q (some (.int (1)), kwl h 70 ((40 * s + j)) (1 : Int64))))) ∧ (¬ (¬ so = (1 : Int32)) → Q (some (.int (1)), kwl h 70 ((40 * s + j)) x.toInt16.toInt32.toInt64))) ∧ (¬ (¬ so = 0) → Q (some (.int (1)), kwl h 70 ((40 * s + j)) x.toInt8.toInt32.toInt64))) : Cl d 265 [.ref 59, .int (Int32.ofNat s), .int (Int32.ofNat j), .int (x)] h Q := by
  refine Cl.of (ls := [some (.ref 59), some (.int (Int32.ofNat s)), some (.int (Int32.ofNat j)), some (.int (x)), none]) rfl rfl ?_
  refine Wp.seg 1 (pc1 := 1) (ls1 := [some (.ref 59), some (.int (Int32.ofNat s)), some (.int (Int32.ofNat j)), some (.int (x)), none]) (st1 := [.int (Int32.ofNat s)]) rfl ?_
  refine Wp.inv (d2 := 1) (as := [.int (Int32.ofNat s)]) (r := []) rfl rfl rfl rfl rfl rfl (by omega) (s_b177 (Nat.le_refl _) ?_)
  show Wp d 265 4 [some (.ref 59), some (.int (Int32.ofNat s)), some (.int (Int32.ofNat j)), some (.int (x)), none] [.int (b32 (inB (Int32.ofNat s) 0 3))] h Q
  refine Wp.ifnz rfl (fun c1 => ?_) (fun c1 => absurd (c1.symm.trans (qs)) (by decide))
  refine Wp.seg 1 (pc1 := 10) (ls1 := [some (.ref 59), some (.int (Int32.ofNat s)), some (.int (Int32.ofNat j)), some (.int (x)), none]) (st1 := [.ref 59]) rfl ?_
  refine Wp.gr (t := (11, 0)) (v := some (68)) rfl (WF.t hw 59 rfl) rfl (WF.r hw 59 22 66 rfl) ?_
  show Wp d 265 13 [some (.ref 59), some (.int (Int32.ofNat s)), some (.int (Int32.ofNat j)), some (.int (x)), none] [.ref 68] h Q
  refine Wp.seg 1 (pc1 := 14) (ls1 := [some (.ref 59), some (.int (Int32.ofNat s)), some (.int (Int32.ofNat j)), some (.int (x)), none]) (st1 := [.int (Int32.ofNat s), .ref 68]) rfl ?_
  refine Wp.iald (j := s) (k := 20) (n := 4) rfl (WF.t hw 68 rfl) rfl rfl hs (by decide) ?_
  rw [show h.2.2.1 68 s = so from h68]
  refine Wp.if1 rfl (fun c2 => ?_) (fun c2 => absurd (g) c2)
  refine Wp.seg 3 (pc1 := 24) (ls1 := [some (.ref 59), some (.int (Int32.ofNat s)), some (.int (Int32.ofNat j)), some (.int (x)), none]) (st1 := [.ref 59, .int (0), .int (Int32.ofNat j)]) rfl ?_
  refine Wp.gr (t := (11, 0)) (v := some (69)) rfl (WF.t hw 59 rfl) rfl (WF.r hw 59 23 67 rfl) ?_
  show Wp d 265 27 [some (.ref 59), some (.int (Int32.ofNat s)), some (.int (Int32.ofNat j)), some (.int (x)), none] [.ref 69, .int (0), .int (Int32.ofNat j)] h Q
  refine Wp.seg 1 (pc1 := 28) (ls1 := [some (.ref 59), some (.int (Int32.ofNat s)), some (.int (Int32.ofNat j)), some (.int (x)), none]) (st1 := [.int (Int32.ofNat s), .ref 69, .int (0), .int (Int32.ofNat j)]) rfl ?_
  refine Wp.iald (j := s) (k := 20) (n := 4) rfl (WF.t hw 69 rfl) rfl rfl hs (by decide) ?_
  rw [show h.2.2.1 69 s = Int32.ofNat z from h69]
  refine Wp.seg 2 (pc1 := 31) (ls1 := [some (.ref 59), some (.int (Int32.ofNat s)), some (.int (Int32.ofNat j)), some (.int (x)), none]) (st1 := [.int ((Int32.ofNat z) - (1 : Int32)), .int (0), .int (Int32.ofNat j)]) rfl ?_
  refine Wp.inv (d2 := 0) (as := [.int (Int32.ofNat j), .int (0), .int ((Int32.ofNat z) - (1 : Int32))]) (r := []) rfl rfl rfl rfl rfl rfl (by omega) (s_plB hz rfl ?_)
  show Wp d 265 34 [some (.ref 59), some (.int (Int32.ofNat s)), some (.int (Int32.ofNat j)), some (.int (x)), none] [.int (b32 (plB z (Int32.ofNat j)))] h Q
  refine Wp.ifnz rfl (fun c3 => ?_) (fun c3 => absurd (c3.symm.trans (qi)) (by decide))
  refine Wp.seg 1 (pc1 := 41) (ls1 := [some (.ref 59), some (.int (Int32.ofNat s)), some (.int (Int32.ofNat j)), some (.int (x)), none]) (st1 := [.ref 59]) rfl ?_
  refine Wp.gr (t := (11, 0)) (v := some (68)) rfl (WF.t hw 59 rfl) rfl (WF.r hw 59 22 66 rfl) ?_
  show Wp d 265 44 [some (.ref 59), some (.int (Int32.ofNat s)), some (.int (Int32.ofNat j)), some (.int (x)), none] [.ref 68] h Q
  refine Wp.seg 1 (pc1 := 45) (ls1 := [some (.ref 59), some (.int (Int32.ofNat s)), some (.int (Int32.ofNat j)), some (.int (x)), none]) (st1 := [.int (Int32.ofNat s), .ref 68]) rfl ?_
  refine Wp.iald (j := s) (k := 20) (n := 4) rfl (WF.t hw 68 rfl) rfl rfl hs (by decide) ?_
  rw [show h.2.2.1 68 s = so from h68]
  refine Wp.seg 2 (pc1 := 49) (ls1 := [some (.ref 59), some (.int (Int32.ofNat s)), some (.int (Int32.ofNat j)), some (.int (x)), some (.int (so))]) (st1 := [.ref 59]) rfl ?_
  refine Wp.gr (t := (11, 0)) (v := some (70)) rfl (WF.t hw 59 rfl) rfl (WF.r hw 59 24 68 rfl) ?_
  show Wp d 265 52 [some (.ref 59), some (.int (Int32.ofNat s)), some (.int (Int32.ofNat j)), some (.int (x)), some (.int (so))] [.ref 70] h Q
  refine Wp.seg 6 (pc1 := 60) (ls1 := [some (.ref 59), some (.int (Int32.ofNat s)), some (.int (Int32.ofNat j)), some (.int (x)), some (.int (so))]) (st1 := [.int (so), .int (((40 : Int32) * (Int32.ofNat s)) + (Int32.ofNat j)), .ref 70]) rfl ?_
  refine Wp.if1 rfl (fun (c4 : ¬ so = 0) => ?_) (fun (c4 : ¬ (¬ so = 0)) => ?_)
  · refine Wp.seg 2 (pc1 := 72) (ls1 := [some (.ref 59), some (.int (Int32.ofNat s)), some (.int (Int32.ofNat j)), some (.int (x)), some (.int (so))]) (st1 := [.int (1), .int (so), .int (((40 : Int32) * (Int32.ofNat s)) + (Int32.ofNat j)), .ref 70]) rfl ?_
    refine Wp.if2 rfl (fun (c5 : ¬ so = (1 : Int32)) => ?_) (fun (c5 : ¬ (¬ so = (1 : Int32))) => ?_)
    · refine Wp.seg 2 (pc1 := 84) (ls1 := [some (.ref 59), some (.int (Int32.ofNat s)), some (.int (Int32.ofNat j)), some (.int (x)), some (.int (so))]) (st1 := [.int (4), .int (so), .int (((40 : Int32) * (Int32.ofNat s)) + (Int32.ofNat j)), .ref 70]) rfl ?_
      refine Wp.if2 rfl (fun (c6 : ¬ so = (4 : Int32)) => ?_) (fun (c6 : ¬ (¬ so = (4 : Int32))) => ?_)
      · refine Wp.seg 2 (pc1 := 101) (ls1 := [some (.ref 59), some (.int (Int32.ofNat s)), some (.int (Int32.ofNat j)), some (.int (x)), some (.int (so))]) (st1 := [.long (x.toInt64), .int (((40 : Int32) * (Int32.ofNat s)) + (Int32.ofNat j)), .ref 70]) rfl ?_
        refine Wp.last (j := (40 * s + j)) (n := 160) rfl (WF.t hw 70 rfl) (six s j) (by omega) (by decide) ?_
        refine Wp.seg 1 (pc1 := 103) (ls1 := [some (.ref 59), some (.int (Int32.ofNat s)), some (.int (Int32.ofNat j)), some (.int (x)), some (.int (so))]) (st1 := [.int (1)]) rfl ?_
        exact Wp.reti rfl rfl (((hQ.1 c4).1 c5).1 c6)
      · refine Wp.seg 1 (pc1 := 88) (ls1 := [some (.ref 59), some (.int (Int32.ofNat s)), some (.int (Int32.ofNat j)), some (.int (x)), some (.int (so))]) (st1 := [.int (x), .int (((40 : Int32) * (Int32.ofNat s)) + (Int32.ofNat j)), .ref 70]) rfl ?_
        refine Wp.if1 rfl (fun (c7 : x = 0) => ?_) (fun (c7 : ¬ (x = 0)) => ?_)
        · refine Wp.seg 2 (pc1 := 101) (ls1 := [some (.ref 59), some (.int (Int32.ofNat s)), some (.int (Int32.ofNat j)), some (.int (x)), some (.int (so))]) (st1 := [.long (0), .int (((40 : Int32) * (Int32.ofNat s)) + (Int32.ofNat j)), .ref 70]) rfl ?_
          refine Wp.last (j := (40 * s + j)) (n := 160) rfl (WF.t hw 70 rfl) (six s j) (by omega) (by decide) ?_
          refine Wp.seg 1 (pc1 := 103) (ls1 := [some (.ref 59), some (.int (Int32.ofNat s)), some (.int (Int32.ofNat j)), some (.int (x)), some (.int (so))]) (st1 := [.int (1)]) rfl ?_
          exact Wp.reti rfl rfl ((((hQ.1 c4).1 c5).2 c6).1 c7)
        · refine Wp.seg 2 (pc1 := 101) (ls1 := [some (.ref 59), some (.int (Int32.ofNat s)), some (.int (Int32.ofNat j)), some (.int (x)), some (.int (so))]) (st1 := [.long (1), .int (((40 : Int32) * (Int32.ofNat s)) + (Int32.ofNat j)), .ref 70]) rfl ?_
          refine Wp.last (j := (40 * s + j)) (n := 160) rfl (WF.t hw 70 rfl) (six s j) (by omega) (by decide) ?_
          refine Wp.seg 1 (pc1 := 103) (ls1 := [some (.ref 59), some (.int (Int32.ofNat s)), some (.int (Int32.ofNat j)), some (.int (x)), some (.int (so))]) (st1 := [.int (1)]) rfl ?_
          exact Wp.reti rfl rfl ((((hQ.1 c4).1 c5).2 c6).2 c7)
    · refine Wp.seg 4 (pc1 := 101) (ls1 := [some (.ref 59), some (.int (Int32.ofNat s)), some (.int (Int32.ofNat j)), some (.int (x)), some (.int (so))]) (st1 := [.long (x.toInt16.toInt32.toInt64), .int (((40 : Int32) * (Int32.ofNat s)) + (Int32.ofNat j)), .ref 70]) rfl ?_
      refine Wp.last (j := (40 * s + j)) (n := 160) rfl (WF.t hw 70 rfl) (six s j) (by omega) (by decide) ?_
      refine Wp.seg 1 (pc1 := 103) (ls1 := [some (.ref 59), some (.int (Int32.ofNat s)), some (.int (Int32.ofNat j)), some (.int (x)), some (.int (so))]) (st1 := [.int (1)]) rfl ?_
      exact Wp.reti rfl rfl ((hQ.1 c4).2 c5)
  · refine Wp.seg 4 (pc1 := 101) (ls1 := [some (.ref 59), some (.int (Int32.ofNat s)), some (.int (Int32.ofNat j)), some (.int (x)), some (.int (so))]) (st1 := [.long (x.toInt8.toInt32.toInt64), .int (((40 : Int32) * (Int32.ofNat s)) + (Int32.ofNat j)), .ref 70]) rfl ?_
    refine Wp.last (j := (40 * s + j)) (n := 160) rfl (WF.t hw 70 rfl) (six s j) (by omega) (by decide) ?_
    refine Wp.seg 1 (pc1 := 103) (ls1 := [some (.ref 59), some (.int (Int32.ofNat s)), some (.int (Int32.ofNat j)), some (.int (x)), some (.int (so))]) (st1 := [.int (1)]) rfl ?_
    exact Wp.reti rfl rfl (hQ.2 c4)
theorem hL_self (h : KH) : hL h h.2.2.2.1 = h := rfl
/-- a cell is written on both sides -/
theorem wr_inv {h : KH} (hi : Inv h) {s j z : Nat} {x : Int32} {y : Int64} (hs : s < 4) (hz : z ≤ 40) (s4 : h.2.2.1 39 s = Int32.ofNat z) (hj : j < z) (hy : y.toInt32 = x) : Inv (kwl (kwi h (41 + s) j x) 70 (40 * s + j) y) := by
  have f : Fr (fun c => c = 41 + s) noP h (kwi h (41 + s) j x) := fr_kwi rfl (by omega)
  have ho := hi.2.2.1
  refine inv_of (J := ku h.2.2.2.1 70 (ku (h.2.2.2.1 70) (40 * s + j) y)) hi f (by omega) (by rw [f.2.2.1 0 (Or.inl (by omega))]) (by rw [f.2.2.1 59 (Or.inl (by omega))]) ?_ ?_ (fun t ht => ?_) (fun t ht => ?_) ?_
  · obtain ⟨T, hT⟩ := ho.2.1
    exact ⟨T, tape_fr hT f (by omega) (by rw [f.2.2.1 59 (Or.inl (by omega))])⟩
  · obtain ⟨T, hT⟩ := ho.2.2.1
    exact ⟨T, rows_fr hT f (by omega) (by rw [f.2.2.1 0 (Or.inl (by omega))]) (by rw [f.2.2.1 59 (Or.inl (by omega))])⟩
  · obtain ⟨t1, t2, t3, zt, t4, t5, t6⟩ := ho.2.2.2.1 t ht
    refine ⟨?_, ?_, ?_, zt, t4, ?_, fun i hi => ?_⟩
    · show (kwi h (41 + s) j x).2.2.1 38 t = (kwi h (41 + s) j x).2.2.1 68 t
      rw [f.2.2.1 38 (Or.inl (by omega)), f.2.2.1 68 (Or.inl (by omega))]
      exact t1
    · show (kwi h (41 + s) j x).2.2.1 39 t = (kwi h (41 + s) j x).2.2.1 69 t
      rw [f.2.2.1 39 (Or.inl (by omega)), f.2.2.1 69 (Or.inl (by omega))]
      exact t2
    · show inB ((kwi h (41 + s) j x).2.2.1 38 t) (-1) 4 = true
      rw [f.2.2.1 38 (Or.inl (by omega))]
      exact t3
    · show (kwi h (41 + s) j x).2.2.1 39 t = _
      rw [f.2.2.1 39 (Or.inl (by omega))]
      exact t5
    · show (ku h.2.2.2.1 70 (ku (h.2.2.2.1 70) (40 * s + j) y) 70 (40 * t + i)).toInt32 = (kwi h (41 + s) j x).2.2.1 (41 + t) i
      rw [ku_s]
      by_cases e : t = s
      · subst e
        by_cases e2 : i = j
        · subst e2
          rw [ku_s, kwi_s]
          exact hy
        · rw [ku_n _ _ (by omega), kwi_o e2]
          exact t6 i hi
      · rw [ku_n _ _ (by omega), kwi_r (by omega)]
        exact t6 i hi
  · exact shelf_fr (ho.2.2.2.2.1 t ht) f (by omega)
  · exact trace_fr ho.2.2.2.2.2 f (by omega) (by rw [f.2.2.1 59 (Or.inl (by omega))])
theorem J_write {h : KH} (hi : Inv h) (v i x : Int32) : JI h 149 [.ref 0, .int v, .int i, .int x] 265 [.ref 59, .int v, .int i, .int x] := by
  have hw := hi.1
  rcases hq : inB v 0 3 with _ | _
  · exact JI_same (dc := 2) (dm := 2) hi (t_cwr1 hw hq (Nat.le_refl _) rfl) (t_mwr1 hw hq (Nat.le_refl _) rfl)
  obtain ⟨s, hs0, rfl⟩ := inB_nat (b := 3) hq
  have hs : s < 4 := by omega
  obtain ⟨s1, s2, s3, z, hz, s4, s5⟩ := hi.2.2.1.2.2.2.1 s hs
  have h68 := s1.symm
  have h69 := s2.symm.trans s4
  obtain ⟨so, eso⟩ : ∃ so, h.2.2.1 38 s = so := ⟨_, rfl⟩
  rw [eso] at h68 s3
  have sr := so_rng s3
  by_cases e1 : so = -1
  · have g : ¬ (0 ≤ so) := by rw [e1]; decide
    exact JI_same (dc := 2) (dm := 2) hi (t_cwr2 hw hs eso hq e1 (Nat.le_refl _) rfl) (t_mwr2 hw hs h68 hq g (Nat.le_refl _) rfl)
  have g : 0 ≤ so := (Int32.le_iff_toInt_le).mpr (show 0 ≤ so.toInt by have : so.toInt ≠ -1 := fun z => e1 (eqm1 z); omega)
  rcases hp : plB z i with _ | _
  · exact JI_same (dc := 2) (dm := 2) hi (t_cwr3 hw hs eso hz s4 hq e1 hp (Nat.le_refl _) rfl) (t_mwr3 hw hs h68 hz h69 hq g hp (Nat.le_refl _) rfl)
  obtain ⟨j, hj, rfl⟩ := plB_lt hp
  have kw : WF (kwi h (41 + s) j (narS so x)) := (fr_kwi (P := fun c => c = 41 + s) (R := noP) rfl (by omega) : Fr _ _ h _).wf hw (fun z => z)
  have k68 : (kwi h (41 + s) j (narS so x)).2.2.1 68 s = so := by rw [kwi_r (by omega)]; exact h68
  have k69 : (kwi h (41 + s) j (narS so x)).2.2.1 69 s = Int32.ofNat z := by rw [kwi_r (by omega)]; exact h69
  refine ⟨1, (t_cwr4 (d := 15) hw hs eso hz s4 hq e1 hj hp (by decide) ⟨_, rfl, ?_⟩)⟩
  have fin : ∀ y : Int64, y.toInt32 = narS so x → ∃ k2, ((some (Value.int 1), kwl (kwi h (41 + s) j (narS so x)) 70 (40 * s + j) y) : KO) = (some (.int 1), k2) ∧ Inv k2 ∧ k2.2.2.2.2.1 ≤ h.2.2.2.2.1 + 5 ∧ k2.2.2.2.2.2 ≤ h.2.2.2.2.2 + 240 ∧ far h k2 := fun y hy => ⟨_, rfl, wr_inv hi hs hz s4 hj hy, Nat.le_add_right _ _, Nat.le_add_right _ _, fun c hc => ⟨rfl, kwi_r (by omega)⟩⟩
  refine t_mwr4 kw hs k68 hz k69 hq g hj hp (by decide) ?_
  unfold narS at fin
  refine ⟨fun n0 => ⟨fun n1 => ⟨fun n4 => ?_, fun n4 => ⟨fun x0 => ?_, fun x0 => ?_⟩⟩, fun n1 => ?_⟩, fun n0 => ?_⟩
  · refine fin _ ?_
    rw [if_neg n0, if_neg n1, if_neg n4]
    exact Int32.toInt32_toInt64 x
  · refine fin _ ?_
    rw [if_neg n0, if_neg n1, if_pos (Classical.not_not.mp n4), if_pos x0]
    rfl
  · refine fin _ ?_
    rw [if_neg n0, if_neg n1, if_pos (Classical.not_not.mp n4), if_neg x0]
    rfl
  · refine fin _ ?_
    rw [if_neg n0, if_pos (Classical.not_not.mp n1)]
    exact Int32.toInt32_toInt64 _
  · refine fin _ ?_
    rw [if_pos (Classical.not_not.mp n0)]
    exact Int32.toInt32_toInt64 _
