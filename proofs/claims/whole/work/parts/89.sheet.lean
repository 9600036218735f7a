/-! KM: both sides: sheet -/
set_option maxHeartbeats 4000000 in
theorem t_csh1 {d : Nat} {Q : KO → Prop} {h : KH} (hw : WF h) {v w n : Int32} (q : inB v 0 3 = false) (hd : 2 ≤ d) (hQ : Q (some (.int (-1)), h)) : Cl d 148 [.ref 0, .int (v), .int (w), .int (n)] h Q := by
  refine Cl.of (ls := [some (.ref 0), some (.int (v)), some (.int (w)), some (.int (n)), none]) rfl rfl ?_
  refine Wp.seg 1 (pc1 := 1) (ls1 := [some (.ref 0), some (.int (v)), some (.int (w)), some (.int (n)), none]) (st1 := [.int (v)]) rfl ?_
  refine Wp.inv (d2 := 0) (as := [.int (v)]) (r := []) rfl rfl rfl rfl rfl rfl (by omega) (s_b154 ?_)
  show Wp d 148 4 [some (.ref 0), some (.int (v)), some (.int (w)), some (.int (n)), none] [.int (b32 (inB v 0 3))] h Q
  refine Wp.ifz rfl (fun c1 => ?_) (fun c1 => absurd (c1.symm.trans (q)) (by decide))
  refine Wp.seg 1 (pc1 := 29) (ls1 := [some (.ref 0), some (.int (v)), some (.int (w)), some (.int (n)), none]) (st1 := [.int (-1)]) rfl ?_
  exact Wp.reti rfl rfl hQ
set_option maxHeartbeats 4000000 in
theorem t_msh1 {d : Nat} {Q : KO → Prop} {h : KH} (hw : WF h) {v w n : Int32} (q : inB v 0 3 = false) (hd : 2 ≤ d) (hQ : Q (some (.int (-1)), h)) : Cl d 264 [.ref 59, .int (v), .int (w), .int (n)] h Q := by
  refine Cl.of (ls := [some (.ref 59), some (.int (v)), some (.int (w)), some (.int (n)), none]) rfl rfl ?_
  refine Wp.seg 1 (pc1 := 1) (ls1 := [some (.ref 59), some (.int (v)), some (.int (w)), some (.int (n)), none]) (st1 := [.int (v)]) rfl ?_
  refine Wp.inv (d2 := 1) (as := [.int (v)]) (r := []) rfl rfl rfl rfl rfl rfl (by omega) (s_b177 (Nat.le_refl _) ?_)
  show Wp d 264 4 [some (.ref 59), some (.int (v)), some (.int (w)), some (.int (n)), none] [.int (b32 (inB v 0 3))] h Q
  refine Wp.ifz rfl (fun c1 => ?_) (fun c1 => absurd (c1.symm.trans (q)) (by decide))
  refine Wp.seg 1 (pc1 := 27) (ls1 := [some (.ref 59), some (.int (v)), some (.int (w)), some (.int (n)), none]) (st1 := [.int (-1)]) rfl ?_
  exact Wp.reti rfl rfl hQ
set_option maxHeartbeats 4000000 in
theorem t_csh2 {d : Nat} {Q : KO → Prop} {h : KH} (hw : WF h) {v w n : Int32} (q : inB v 0 3 = true) (hd : 2 ≤ d) (hQ : (w < (-1 : Int32) → Q (some (.int (-1)), h)) ∧ (¬ (w < (-1 : Int32)) → ((5 : Int32) ≤ w → Q (some (.int (-1)), h)) ∧ (¬ ((5 : Int32) ≤ w) → Wp d 148 17 ([some (.ref 0), some (.int (v)), some (.int (w)), some (.int (n)), none]) [] h Q))) : Cl d 148 [.ref 0, .int (v), .int (w), .int (n)] h Q := by
  refine Cl.of (ls := [some (.ref 0), some (.int (v)), some (.int (w)), some (.int (n)), none]) rfl rfl ?_
  refine Wp.seg 1 (pc1 := 1) (ls1 := [some (.ref 0), some (.int (v)), some (.int (w)), some (.int (n)), none]) (st1 := [.int (v)]) rfl ?_
  refine Wp.inv (d2 := 0) (as := [.int (v)]) (r := []) rfl rfl rfl rfl rfl rfl (by omega) (s_b154 ?_)
  show Wp d 148 4 [some (.ref 0), some (.int (v)), some (.int (w)), some (.int (n)), none] [.int (b32 (inB v 0 3))] h Q
  refine Wp.ifz rfl (fun c1 => absurd (c1.symm.trans (q)) (by decide)) (fun c1 => ?_)
  refine Wp.seg 2 (pc1 := 9) (ls1 := [some (.ref 0), some (.int (v)), some (.int (w)), some (.int (n)), none]) (st1 := [.int (-1), .int (w)]) rfl ?_
  refine Wp.if2 rfl (fun (c2 : w < (-1 : Int32)) => ?_) (fun (c2 : ¬ (w < (-1 : Int32))) => ?_)
  · refine Wp.seg 1 (pc1 := 29) (ls1 := [some (.ref 0), some (.int (v)), some (.int (w)), some (.int (n)), none]) (st1 := [.int (-1)]) rfl ?_
    exact Wp.reti rfl rfl (hQ.1 c2)
  · refine Wp.seg 2 (pc1 := 14) (ls1 := [some (.ref 0), some (.int (v)), some (.int (w)), some (.int (n)), none]) (st1 := [.int (5), .int (w)]) rfl ?_
    refine Wp.if2 rfl (fun (c3 : (5 : Int32) ≤ w) => ?_) (fun (c3 : ¬ ((5 : Int32) ≤ w)) => ?_)
    · refine Wp.seg 1 (pc1 := 29) (ls1 := [some (.ref 0), some (.int (v)), some (.int (w)), some (.int (n)), none]) (st1 := [.int (-1)]) rfl ?_
      exact Wp.reti rfl rfl ((hQ.2 c2).1 c3)
    · exact ((hQ.2 c2).2 c3)
set_option maxHeartbeats 4000000 in
theorem t_msh2 {d : Nat} {Q : KO → Prop} {h : KH} (hw : WF h) {v w n : Int32} (q : inB v 0 3 = true) (qw : inB w (-1) 4 = false) (hd : 2 ≤ d) (hQ : Q (some (.int (-1)), h)) : Cl d 264 [.ref 59, .int (v), .int (w), .int (n)] h Q := by
  refine Cl.of (ls := [some (.ref 59), some (.int (v)), some (.int (w)), some (.int (n)), none]) rfl rfl ?_
  refine Wp.seg 1 (pc1 := 1) (ls1 := [some (.ref 59), some (.int (v)), some (.int (w)), some (.int (n)), none]) (st1 := [.int (v)]) rfl ?_
  refine Wp.inv (d2 := 1) (as := [.int (v)]) (r := []) rfl rfl rfl rfl rfl rfl (by omega) (s_b177 (Nat.le_refl _) ?_)
  show Wp d 264 4 [some (.ref 59), some (.int (v)), some (.int (w)), some (.int (n)), none] [.int (b32 (inB v 0 3))] h Q
  refine Wp.ifz rfl (fun c1 => absurd (c1.symm.trans (q)) (by decide)) (fun c1 => ?_)
  refine Wp.seg 3 (pc1 := 10) (ls1 := [some (.ref 59), some (.int (v)), some (.int (w)), some (.int (n)), none]) (st1 := [.int (4), .int (-1), .int (w)]) rfl ?_
  refine Wp.inv (d2 := 0) (as := [.int (w), .int (-1), .int (4)]) (r := []) rfl rfl rfl rfl rfl rfl (by omega) (s_inB (x := -1) (y := 4) rfl rfl ?_)
  show Wp d 264 13 [some (.ref 59), some (.int (v)), some (.int (w)), some (.int (n)), none] [.int (b32 (inB w (-1) 4))] h Q
  refine Wp.ifz rfl (fun c2 => ?_) (fun c2 => absurd (c2.symm.trans (qw)) (by decide))
  refine Wp.seg 1 (pc1 := 27) (ls1 := [some (.ref 59), some (.int (v)), some (.int (w)), some (.int (n)), none]) (st1 := [.int (-1)]) rfl ?_
  exact Wp.reti rfl rfl hQ
set_option maxHeartbeats 4000000 in
theorem t_csh3 {d : Nat} {Q : KO → Prop} {h : KH} (hw : WF h) {v w n : Int32} (q : inB v 0 3 = true) (w0 : ¬ (w < -1)) (w5 : ¬ ((5 : Int32) ≤ w)) (e1 : ¬ (w = -1)) (u : ¬ (n ≤ 40)) (hd : 2 ≤ d) (hQ : Q (some (.int (-1)), h)) : Cl d 148 [.ref 0, .int (v), .int (w), .int (n)] h Q := by
  refine Cl.of (ls := [some (.ref 0), some (.int (v)), some (.int (w)), some (.int (n)), none]) rfl rfl ?_
  refine Wp.seg 1 (pc1 := 1) (ls1 := [some (.ref 0), some (.int (v)), some (.int (w)), some (.int (n)), none]) (st1 := [.int (v)]) rfl ?_
  refine Wp.inv (d2 := 0) (as := [.int (v)]) (r := []) rfl rfl rfl rfl rfl rfl (by omega) (s_b154 ?_)
  show Wp d 148 4 [some (.ref 0), some (.int (v)), some (.int (w)), some (.int (n)), none] [.int (b32 (inB v 0 3))] h Q
  refine Wp.ifz rfl (fun c1 => absurd (c1.symm.trans (q)) (by decide)) (fun c1 => ?_)
  refine Wp.seg 2 (pc1 := 9) (ls1 := [some (.ref 0), some (.int (v)), some (.int (w)), some (.int (n)), none]) (st1 := [.int (-1), .int (w)]) rfl ?_
  refine Wp.if2 rfl (fun c2 => absurd c2 (w0)) (fun c2 => ?_)
  refine Wp.seg 2 (pc1 := 14) (ls1 := [some (.ref 0), some (.int (v)), some (.int (w)), some (.int (n)), none]) (st1 := [.int (5), .int (w)]) rfl ?_
  refine Wp.if2 rfl (fun c3 => absurd c3 (w5)) (fun c3 => ?_)
  refine Wp.seg 2 (pc1 := 19) (ls1 := [some (.ref 0), some (.int (v)), some (.int (w)), some (.int (n)), none]) (st1 := [.int (-1), .int (w)]) rfl ?_
  refine Wp.if2 rfl (fun c4 => absurd c4 (e1)) (fun c4 => ?_)
  refine Wp.seg 2 (pc1 := 25) (ls1 := [some (.ref 0), some (.int (v)), some (.int (w)), some (.int (n)), none]) (st1 := [.int (40), .int (n)]) rfl ?_
  refine Wp.if2 rfl (fun c5 => absurd c5 (u)) (fun c5 => ?_)
  refine Wp.seg 1 (pc1 := 29) (ls1 := [some (.ref 0), some (.int (v)), some (.int (w)), some (.int (n)), none]) (st1 := [.int (-1)]) rfl ?_
  exact Wp.reti rfl rfl hQ
set_option maxHeartbeats 4000000 in
theorem t_msh3 {d : Nat} {Q : KO → Prop} {h : KH} (hw : WF h) {v w n : Int32} (q : inB v 0 3 = true) (qw : inB w (-1) 4 = true) (g : ¬ (w < 0)) (g2 : 0 ≤ w) (u : ¬ (n ≤ 40)) (hd : 2 ≤ d) (hQ : Q (some (.int (-1)), h)) : Cl d 264 [.ref 59, .int (v), .int (w), .int (n)] h Q := by
  refine Cl.of (ls := [some (.ref 59), some (.int (v)), some (.int (w)), some (.int (n)), none]) rfl rfl ?_
  refine Wp.seg 1 (pc1 := 1) (ls1 := [some (.ref 59), some (.int (v)), some (.int (w)), some (.int (n)), none]) (st1 := [.int (v)]) rfl ?_
  refine Wp.inv (d2 := 1) (as := [.int (v)]) (r := []) rfl rfl rfl rfl rfl rfl (by omega) (s_b177 (Nat.le_refl _) ?_)
  show Wp d 264 4 [some (.ref 59), some (.int (v)), some (.int (w)), some (.int (n)), none] [.int (b32 (inB v 0 3))] h Q
  refine Wp.ifz rfl (fun c1 => absurd (c1.symm.trans (q)) (by decide)) (fun c1 => ?_)
  refine Wp.seg 3 (pc1 := 10) (ls1 := [some (.ref 59), some (.int (v)), some (.int (w)), some (.int (n)), none]) (st1 := [.int (4), .int (-1), .int (w)]) rfl ?_
  refine Wp.inv (d2 := 0) (as := [.int (w), .int (-1), .int (4)]) (r := []) rfl rfl rfl rfl rfl rfl (by omega) (s_inB (x := -1) (y := 4) rfl rfl ?_)
  show Wp d 264 13 [some (.ref 59), some (.int (v)), some (.int (w)), some (.int (n)), none] [.int (b32 (inB w (-1) 4))] h Q
  refine Wp.ifz rfl (fun c2 => absurd (c2.symm.trans (qw)) (by decide)) (fun c2 => ?_)
  refine Wp.seg 1 (pc1 := 17) (ls1 := [some (.ref 59), some (.int (v)), some (.int (w)), some (.int (n)), none]) (st1 := [.int (w)]) rfl ?_
  refine Wp.if1 rfl (fun c3 => absurd c3 (g)) (fun c3 => ?_)
  refine Wp.seg 2 (pc1 := 23) (ls1 := [some (.ref 59), some (.int (v)), some (.int (w)), some (.int (n)), none]) (st1 := [.int (40), .int (n)]) rfl ?_
  refine Wp.if2 rfl (fun c4 => absurd c4 (u)) (fun c4 => ?_)
  refine Wp.seg 1 (pc1 := 27) (ls1 := [some (.ref 59), some (.int (v)), some (.int (w)), some (.int (n)), none]) (st1 := [.int (-1)]) rfl ?_
  exact Wp.reti rfl rfl hQ
set_option maxHeartbeats 4000000 in
theorem t_csh4 {d : Nat} {Q : KO → Prop} {h : KH} (hw : WF h) {v w n : Int32} (q : inB v 0 3 = true) (w0 : ¬ (w < -1)) (w5 : ¬ ((5 : Int32) ≤ w)) (e1 : ¬ (w = -1)) (u : n ≤ 40) (p : ¬ (0 ≤ n)) (hd : 2 ≤ d) (hQ : Q (some (.int (-14)), h)) : Cl d 148 [.ref 0, .int (v), .int (w), .int (n)] h Q := by
  refine Cl.of (ls := [some (.ref 0), some (.int (v)), some (.int (w)), some (.int (n)), none]) rfl rfl ?_
  refine Wp.seg 1 (pc1 := 1) (ls1 := [some (.ref 0), some (.int (v)), some (.int (w)), some (.int (n)), none]) (st1 := [.int (v)]) rfl ?_
  refine Wp.inv (d2 := 0) (as := [.int (v)]) (r := []) rfl rfl rfl rfl rfl rfl (by omega) (s_b154 ?_)
  show Wp d 148 4 [some (.ref 0), some (.int (v)), some (.int (w)), some (.int (n)), none] [.int (b32 (inB v 0 3))] h Q
  refine Wp.ifz rfl (fun c1 => absurd (c1.symm.trans (q)) (by decide)) (fun c1 => ?_)
  refine Wp.seg 2 (pc1 := 9) (ls1 := [some (.ref 0), some (.int (v)), some (.int (w)), some (.int (n)), none]) (st1 := [.int (-1), .int (w)]) rfl ?_
  refine Wp.if2 rfl (fun c2 => absurd c2 (w0)) (fun c2 => ?_)
  refine Wp.seg 2 (pc1 := 14) (ls1 := [some (.ref 0), some (.int (v)), some (.int (w)), some (.int (n)), none]) (st1 := [.int (5), .int (w)]) rfl ?_
  refine Wp.if2 rfl (fun c3 => absurd c3 (w5)) (fun c3 => ?_)
  refine Wp.seg 2 (pc1 := 19) (ls1 := [some (.ref 0), some (.int (v)), some (.int (w)), some (.int (n)), none]) (st1 := [.int (-1), .int (w)]) rfl ?_
  refine Wp.if2 rfl (fun c4 => absurd c4 (e1)) (fun c4 => ?_)
  refine Wp.seg 2 (pc1 := 25) (ls1 := [some (.ref 0), some (.int (v)), some (.int (w)), some (.int (n)), none]) (st1 := [.int (40), .int (n)]) rfl ?_
  refine Wp.if2 rfl (fun c5 => ?_) (fun c5 => absurd (u) c5)
  refine Wp.seg 2 (pc1 := 32) (ls1 := [some (.ref 0), some (.int (v)), some (.int (w)), some (.int (n)), none]) (st1 := [.int (-1), .int (w)]) rfl ?_
  refine Wp.if2 rfl (fun c6 => absurd c6 (e1)) (fun c6 => ?_)
  refine Wp.seg 1 (pc1 := 36) (ls1 := [some (.ref 0), some (.int (v)), some (.int (w)), some (.int (n)), none]) (st1 := [.int (n)]) rfl ?_
  refine Wp.if1 rfl (fun c7 => absurd c7 (p)) (fun c7 => ?_)
  refine Wp.seg 1 (pc1 := 41) (ls1 := [some (.ref 0), some (.int (v)), some (.int (w)), some (.int (n)), none]) (st1 := [.int (-14)]) rfl ?_
  exact Wp.reti rfl rfl hQ
set_option maxHeartbeats 4000000 in
theorem t_msh4 {d : Nat} {Q : KO → Prop} {h : KH} (hw : WF h) {v w n : Int32} (q : inB v 0 3 = true) (qw : inB w (-1) 4 = true) (g : ¬ (w < 0)) (g2 : 0 ≤ w) (u : n ≤ 40) (p : ¬ (0 ≤ n)) (hd : 2 ≤ d) (hQ : Q (some (.int (-14)), h)) : Cl d 264 [.ref 59, .int (v), .int (w), .int (n)] h Q := by
  refine Cl.of (ls := [some (.ref 59), some (.int (v)), some (.int (w)), some (.int (n)), none]) rfl rfl ?_
  refine Wp.seg 1 (pc1 := 1) (ls1 := [some (.ref 59), some (.int (v)), some (.int (w)), some (.int (n)), none]) (st1 := [.int (v)]) rfl ?_
  refine Wp.inv (d2 := 1) (as := [.int (v)]) (r := []) rfl rfl rfl rfl rfl rfl (by omega) (s_b177 (Nat.le_refl _) ?_)
  show Wp d 264 4 [some (.ref 59), some (.int (v)), some (.int (w)), some (.int (n)), none] [.int (b32 (inB v 0 3))] h Q
  refine Wp.ifz rfl (fun c1 => absurd (c1.symm.trans (q)) (by decide)) (fun c1 => ?_)
  refine Wp.seg 3 (pc1 := 10) (ls1 := [some (.ref 59), some (.int (v)), some (.int (w)), some (.int (n)), none]) (st1 := [.int (4), .int (-1), .int (w)]) rfl ?_
  refine Wp.inv (d2 := 0) (as := [.int (w), .int (-1), .int (4)]) (r := []) rfl rfl rfl rfl rfl rfl (by omega) (s_inB (x := -1) (y := 4) rfl rfl ?_)
  show Wp d 264 13 [some (.ref 59), some (.int (v)), some (.int (w)), some (.int (n)), none] [.int (b32 (inB w (-1) 4))] h Q
  refine Wp.ifz rfl (fun c2 => absurd (c2.symm.trans (qw)) (by decide)) (fun c2 => ?_)
  refine Wp.seg 1 (pc1 := 17) (ls1 := [some (.ref 59), some (.int (v)), some (.int (w)), some (.int (n)), none]) (st1 := [.int (w)]) rfl ?_
  refine Wp.if1 rfl (fun c3 => absurd c3 (g)) (fun c3 => ?_)
  refine Wp.seg 2 (pc1 := 23) (ls1 := [some (.ref 59), some (.int (v)), some (.int (w)), some (.int (n)), none]) (st1 := [.int (40), .int (n)]) rfl ?_
  refine Wp.if2 rfl (fun c4 => ?_) (fun c4 => absurd (u) c4)
  refine Wp.seg 1 (pc1 := 29) (ls1 := [some (.ref 59), some (.int (v)), some (.int (w)), some (.int (n)), none]) (st1 := [.int (w)]) rfl ?_
  refine Wp.if1 rfl (fun c5 => absurd c5 (g)) (fun c5 => ?_)
  refine Wp.seg 1 (pc1 := 33) (ls1 := [some (.ref 59), some (.int (v)), some (.int (w)), some (.int (n)), none]) (st1 := [.int (n)]) rfl ?_
  refine Wp.if1 rfl (fun c6 => absurd c6 (p)) (fun c6 => ?_)
  refine Wp.seg 1 (pc1 := 38) (ls1 := [some (.ref 59), some (.int (v)), some (.int (w)), some (.int (n)), none]) (st1 := [.int (-14)]) rfl ?_
  exact Wp.reti rfl rfl hQ
set_option maxHeartbeats 4000000 in
theorem t_csh5 {d : Nat} {Q : KO → Prop} {h : KH} (hw : WF h) {s : Nat} {w n : Int32} (hs : s < 4) (qs : inB (Int32.ofNat s) 0 3 = true) (w0 : ¬ (w < -1)) (w5 : ¬ ((5 : Int32) ≤ w)) (e1 : ¬ (w = -1)) (u : n ≤ 40) (p : 0 ≤ n) (hd : 2 ≤ d) (hQ : Wp d 148 68 ([some (.ref 0), some (.int (Int32.ofNat s)), some (.int (w)), some (.int (n)), some (.int (0))]) [] (kwi (kwi h 38 s w) 39 s n) Q) : Cl d 148 [.ref 0, .int (Int32.ofNat s), .int (w), .int (n)] h Q := by
  refine Cl.of (ls := [some (.ref 0), some (.int (Int32.ofNat s)), some (.int (w)), some (.int (n)), none]) rfl rfl ?_
  refine Wp.seg 1 (pc1 := 1) (ls1 := [some (.ref 0), some (.int (Int32.ofNat s)), some (.int (w)), some (.int (n)), none]) (st1 := [.int (Int32.ofNat s)]) rfl ?_
  refine Wp.inv (d2 := 0) (as := [.int (Int32.ofNat s)]) (r := []) rfl rfl rfl rfl rfl rfl (by omega) (s_b154 ?_)
  show Wp d 148 4 [some (.ref 0), some (.int (Int32.ofNat s)), some (.int (w)), some (.int (n)), none] [.int (b32 (inB (Int32.ofNat s) 0 3))] h Q
  refine Wp.ifz rfl (fun c1 => absurd (c1.symm.trans (qs)) (by decide)) (fun c1 => ?_)
  refine Wp.seg 2 (pc1 := 9) (ls1 := [some (.ref 0), some (.int (Int32.ofNat s)), some (.int (w)), some (.int (n)), none]) (st1 := [.int (-1), .int (w)]) rfl ?_
  refine Wp.if2 rfl (fun c2 => absurd c2 (w0)) (fun c2 => ?_)
  refine Wp.seg 2 (pc1 := 14) (ls1 := [some (.ref 0), some (.int (Int32.ofNat s)), some (.int (w)), some (.int (n)), none]) (st1 := [.int (5), .int (w)]) rfl ?_
  refine Wp.if2 rfl (fun c3 => absurd c3 (w5)) (fun c3 => ?_)
  refine Wp.seg 2 (pc1 := 19) (ls1 := [some (.ref 0), some (.int (Int32.ofNat s)), some (.int (w)), some (.int (n)), none]) (st1 := [.int (-1), .int (w)]) rfl ?_
  refine Wp.if2 rfl (fun c4 => absurd c4 (e1)) (fun c4 => ?_)
  refine Wp.seg 2 (pc1 := 25) (ls1 := [some (.ref 0), some (.int (Int32.ofNat s)), some (.int (w)), some (.int (n)), none]) (st1 := [.int (40), .int (n)]) rfl ?_
  refine Wp.if2 rfl (fun c5 => ?_) (fun c5 => absurd (u) c5)
  refine Wp.seg 2 (pc1 := 32) (ls1 := [some (.ref 0), some (.int (Int32.ofNat s)), some (.int (w)), some (.int (n)), none]) (st1 := [.int (-1), .int (w)]) rfl ?_
  refine Wp.if2 rfl (fun c6 => absurd c6 (e1)) (fun c6 => ?_)
  refine Wp.seg 1 (pc1 := 36) (ls1 := [some (.ref 0), some (.int (Int32.ofNat s)), some (.int (w)), some (.int (n)), none]) (st1 := [.int (n)]) rfl ?_
  refine Wp.if1 rfl (fun c7 => ?_) (fun c7 => absurd (p) c7)
  refine Wp.seg 1 (pc1 := 43) (ls1 := [some (.ref 0), some (.int (Int32.ofNat s)), some (.int (w)), some (.int (n)), none]) (st1 := [.ref 0]) rfl ?_
  refine Wp.gr (t := (10, 0)) (v := some (38)) rfl (WF.t hw 0 rfl) rfl (WF.r hw 0 8 6 rfl) ?_
  show Wp d 148 46 [some (.ref 0), some (.int (Int32.ofNat s)), some (.int (w)), some (.int (n)), none] [.ref 38] h Q
  refine Wp.seg 2 (pc1 := 48) (ls1 := [some (.ref 0), some (.int (Int32.ofNat s)), some (.int (w)), some (.int (n)), none]) (st1 := [.int (w), .int (Int32.ofNat s), .ref 38]) rfl ?_
  refine Wp.iast (j := s) (n := 4) rfl (WF.t hw 38 rfl) rfl hs (by decide) ?_
  refine Wp.seg 1 (pc1 := 50) (ls1 := [some (.ref 0), some (.int (Int32.ofNat s)), some (.int (w)), some (.int (n)), none]) (st1 := [.ref 0]) rfl ?_
  refine Wp.gr (t := (10, 0)) (v := some (39)) rfl (WF.t hw 0 rfl) rfl (WF.r hw 0 9 7 rfl) ?_
  show Wp d 148 53 [some (.ref 0), some (.int (Int32.ofNat s)), some (.int (w)), some (.int (n)), none] [.ref 39] (kwi h 38 s w) Q
  refine Wp.seg 3 (pc1 := 56) (ls1 := [some (.ref 0), some (.int (Int32.ofNat s)), some (.int (w)), some (.int (n)), none]) (st1 := [.int (-1), .int (w), .int (Int32.ofNat s), .ref 39]) rfl ?_
  refine Wp.if2 rfl (fun c8 => ?_) (fun c8 => absurd (e1) c8)
  refine Wp.seg 1 (pc1 := 64) (ls1 := [some (.ref 0), some (.int (Int32.ofNat s)), some (.int (w)), some (.int (n)), none]) (st1 := [.int (n), .int (Int32.ofNat s), .ref 39]) rfl ?_
  refine Wp.iast (j := s) (n := 4) rfl (WF.t hw 39 rfl) rfl hs (by decide) ?_
  refine Wp.seg 2 (pc1 := 68) (ls1 := [some (.ref 0), some (.int (Int32.ofNat s)), some (.int (w)), some (.int (n)), some (.int (0))]) (st1 := []) rfl ?_
  exact hQ
set_option maxHeartbeats 4000000 in
theorem t_msh5 {d : Nat} {Q : KO → Prop} {h : KH} (hw : WF h) {s : Nat} {w n : Int32} (hs : s < 4) (qs : inB (Int32.ofNat s) 0 3 = true) (qw : inB w (-1) 4 = true) (g : ¬ (w < 0)) (g2 : 0 ≤ w) (u : n ≤ 40) (p : 0 ≤ n) (hd : 2 ≤ d) (hQ : Wp d 264 64 ([some (.ref 59), some (.int (Int32.ofNat s)), some (.int (w)), some (.int (n)), some (.int (0))]) [] (kwi (kwi h 68 s w) 69 s n) Q) : Cl d 264 [.ref 59, .int (Int32.ofNat s), .int (w), .int (n)] h Q := by
  refine Cl.of (ls := [some (.ref 59), some (.int (Int32.ofNat s)), some (.int (w)), some (.int (n)), none]) rfl rfl ?_
  refine Wp.seg 1 (pc1 := 1) (ls1 := [some (.ref 59), some (.int (Int32.ofNat s)), some (.int (w)), some (.int (n)), none]) (st1 := [.int (Int32.ofNat s)]) rfl ?_
  refine Wp.inv (d2 := 1) (as := [.int (Int32.ofNat s)]) (r := []) rfl rfl rfl rfl rfl rfl (by omega) (s_b177 (Nat.le_refl _) ?_)
  show Wp d 264 4 [some (.ref 59), some (.int (Int32.ofNat s)), some (.int (w)), some (.int (n)), none] [.int (b32 (inB (Int32.ofNat s) 0 3))] h Q
  refine Wp.ifz rfl (fun c1 => absurd (c1.symm.trans (qs)) (by decide)) (fun c1 => ?_)
  refine Wp.seg 3 (pc1 := 10) (ls1 := [some (.ref 59), some (.int (Int32.ofNat s)), some (.int (w)), some (.int (n)), none]) (st1 := [.int (4), .int (-1), .int (w)]) rfl ?_
  refine Wp.inv (d2 := 0) (as := [.int (w), .int (-1), .int (4)]) (r := []) rfl rfl rfl rfl rfl rfl (by omega) (s_inB (x := -1) (y := 4) rfl rfl ?_)
  show Wp d 264 13 [some (.ref 59), some (.int (Int32.ofNat s)), some (.int (w)), some (.int (n)), none] [.int (b32 (inB w (-1) 4))] h Q
  refine Wp.ifz rfl (fun c2 => absurd (c2.symm.trans (qw)) (by decide)) (fun c2 => ?_)
  refine Wp.seg 1 (pc1 := 17) (ls1 := [some (.ref 59), some (.int (Int32.ofNat s)), some (.int (w)), some (.int (n)), none]) (st1 := [.int (w)]) rfl ?_
  refine Wp.if1 rfl (fun c3 => absurd c3 (g)) (fun c3 => ?_)
  refine Wp.seg 2 (pc1 := 23) (ls1 := [some (.ref 59), some (.int (Int32.ofNat s)), some (.int (w)), some (.int (n)), none]) (st1 := [.int (40), .int (n)]) rfl ?_
  refine Wp.if2 rfl (fun c4 => ?_) (fun c4 => absurd (u) c4)
  refine Wp.seg 1 (pc1 := 29) (ls1 := [some (.ref 59), some (.int (Int32.ofNat s)), some (.int (w)), some (.int (n)), none]) (st1 := [.int (w)]) rfl ?_
  refine Wp.if1 rfl (fun c5 => absurd c5 (g)) (fun c5 => ?_)
  refine Wp.seg 1 (pc1 := 33) (ls1 := [some (.ref 59), some (.int (Int32.ofNat s)), some (.int (w)), some (.int (n)), none]) (st1 := [.int (n)]) rfl ?_
  refine Wp.if1 rfl (fun c6 => ?_) (fun c6 => absurd (p) c6)
  refine Wp.seg 1 (pc1 := 40) (ls1 := [some (.ref 59), some (.int (Int32.ofNat s)), some (.int (w)), some (.int (n)), none]) (st1 := [.ref 59]) rfl ?_
  refine Wp.gr (t := (11, 0)) (v := some (68)) rfl (WF.t hw 59 rfl) rfl (WF.r hw 59 22 66 rfl) ?_
  show Wp d 264 43 [some (.ref 59), some (.int (Int32.ofNat s)), some (.int (w)), some (.int (n)), none] [.ref 68] h Q
  refine Wp.seg 2 (pc1 := 45) (ls1 := [some (.ref 59), some (.int (Int32.ofNat s)), some (.int (w)), some (.int (n)), none]) (st1 := [.int (w), .int (Int32.ofNat s), .ref 68]) rfl ?_
  refine Wp.iast (j := s) (n := 4) rfl (WF.t hw 68 rfl) rfl hs (by decide) ?_
  refine Wp.seg 1 (pc1 := 47) (ls1 := [some (.ref 59), some (.int (Int32.ofNat s)), some (.int (w)), some (.int (n)), none]) (st1 := [.ref 59]) rfl ?_
  refine Wp.gr (t := (11, 0)) (v := some (69)) rfl (WF.t hw 59 rfl) rfl (WF.r hw 59 23 67 rfl) ?_
  show Wp d 264 50 [some (.ref 59), some (.int (Int32.ofNat s)), some (.int (w)), some (.int (n)), none] [.ref 69] (kwi h 68 s w) Q
  refine Wp.seg 2 (pc1 := 52) (ls1 := [some (.ref 59), some (.int (Int32.ofNat s)), some (.int (w)), some (.int (n)), none]) (st1 := [.int (w), .int (Int32.ofNat s), .ref 69]) rfl ?_
  refine Wp.if1 rfl (fun c7 => ?_) (fun c7 => absurd (g2) c7)
  refine Wp.seg 1 (pc1 := 60) (ls1 := [some (.ref 59), some (.int (Int32.ofNat s)), some (.int (w)), some (.int (n)), none]) (st1 := [.int (n), .int (Int32.ofNat s), .ref 69]) rfl ?_
  refine Wp.iast (j := s) (n := 4) rfl (WF.t hw 69 rfl) rfl hs (by decide) ?_
  refine Wp.seg 2 (pc1 := 64) (ls1 := [some (.ref 59), some (.int (Int32.ofNat s)), some (.int (w)), some (.int (n)), some (.int (0))]) (st1 := []) rfl ?_
  exact hQ
set_option maxHeartbeats 4000000 in
theorem t_csh6 {d : Nat} {Q : KO → Prop} {h : KH} (hw : WF h) {s : Nat} {w n : Int32} (hs : s < 4) (qs : inB (Int32.ofNat s) 0 3 = true) (w0 : ¬ (w < -1)) (w5 : ¬ ((5 : Int32) ≤ w)) (e1 : w = -1) (hd : 2 ≤ d) (hQ : Wp d 148 68 ([some (.ref 0), some (.int (Int32.ofNat s)), some (.int (w)), some (.int (n)), some (.int (0))]) [] (kwi (kwi h 38 s w) 39 s (0 : Int32)) Q) : Cl d 148 [.ref 0, .int (Int32.ofNat s), .int (w), .int (n)] h Q := by
  refine Cl.of (ls := [some (.ref 0), some (.int (Int32.ofNat s)), some (.int (w)), some (.int (n)), none]) rfl rfl ?_
  refine Wp.seg 1 (pc1 := 1) (ls1 := [some (.ref 0), some (.int (Int32.ofNat s)), some (.int (w)), some (.int (n)), none]) (st1 := [.int (Int32.ofNat s)]) rfl ?_
  refine Wp.inv (d2 := 0) (as := [.int (Int32.ofNat s)]) (r := []) rfl rfl rfl rfl rfl rfl (by omega) (s_b154 ?_)
  show Wp d 148 4 [some (.ref 0), some (.int (Int32.ofNat s)), some (.int (w)), some (.int (n)), none] [.int (b32 (inB (Int32.ofNat s) 0 3))] h Q
  refine Wp.ifz rfl (fun c1 => absurd (c1.symm.trans (qs)) (by decide)) (fun c1 => ?_)
  refine Wp.seg 2 (pc1 := 9) (ls1 := [some (.ref 0), some (.int (Int32.ofNat s)), some (.int (w)), some (.int (n)), none]) (st1 := [.int (-1), .int (w)]) rfl ?_
  refine Wp.if2 rfl (fun c2 => absurd c2 (w0)) (fun c2 => ?_)
  refine Wp.seg 2 (pc1 := 14) (ls1 := [some (.ref 0), some (.int (Int32.ofNat s)), some (.int (w)), some (.int (n)), none]) (st1 := [.int (5), .int (w)]) rfl ?_
  refine Wp.if2 rfl (fun c3 => absurd c3 (w5)) (fun c3 => ?_)
  refine Wp.seg 2 (pc1 := 19) (ls1 := [some (.ref 0), some (.int (Int32.ofNat s)), some (.int (w)), some (.int (n)), none]) (st1 := [.int (-1), .int (w)]) rfl ?_
  refine Wp.if2 rfl (fun c4 => ?_) (fun c4 => absurd (e1) c4)
  refine Wp.seg 2 (pc1 := 32) (ls1 := [some (.ref 0), some (.int (Int32.ofNat s)), some (.int (w)), some (.int (n)), none]) (st1 := [.int (-1), .int (w)]) rfl ?_
  refine Wp.if2 rfl (fun c5 => ?_) (fun c5 => absurd (e1) c5)
  refine Wp.seg 1 (pc1 := 43) (ls1 := [some (.ref 0), some (.int (Int32.ofNat s)), some (.int (w)), some (.int (n)), none]) (st1 := [.ref 0]) rfl ?_
  refine Wp.gr (t := (10, 0)) (v := some (38)) rfl (WF.t hw 0 rfl) rfl (WF.r hw 0 8 6 rfl) ?_
  show Wp d 148 46 [some (.ref 0), some (.int (Int32.ofNat s)), some (.int (w)), some (.int (n)), none] [.ref 38] h Q
  refine Wp.seg 2 (pc1 := 48) (ls1 := [some (.ref 0), some (.int (Int32.ofNat s)), some (.int (w)), some (.int (n)), none]) (st1 := [.int (w), .int (Int32.ofNat s), .ref 38]) rfl ?_
  refine Wp.iast (j := s) (n := 4) rfl (WF.t hw 38 rfl) rfl hs (by decide) ?_
  refine Wp.seg 1 (pc1 := 50) (ls1 := [some (.ref 0), some (.int (Int32.ofNat s)), some (.int (w)), some (.int (n)), none]) (st1 := [.ref 0]) rfl ?_
  refine Wp.gr (t := (10, 0)) (v := some (39)) rfl (WF.t hw 0 rfl) rfl (WF.r hw 0 9 7 rfl) ?_
  show Wp d 148 53 [some (.ref 0), some (.int (Int32.ofNat s)), some (.int (w)), some (.int (n)), none] [.ref 39] (kwi h 38 s w) Q
  refine Wp.seg 3 (pc1 := 56) (ls1 := [some (.ref 0), some (.int (Int32.ofNat s)), some (.int (w)), some (.int (n)), none]) (st1 := [.int (-1), .int (w), .int (Int32.ofNat s), .ref 39]) rfl ?_
  refine Wp.if2 rfl (fun c6 => absurd c6 (fun c => c e1)) (fun c6 => ?_)
  refine Wp.seg 2 (pc1 := 64) (ls1 := [some (.ref 0), some (.int (Int32.ofNat s)), some (.int (w)), some (.int (n)), none]) (st1 := [.int (0), .int (Int32.ofNat s), .ref 39]) rfl ?_
  refine Wp.iast (j := s) (n := 4) rfl (WF.t hw 39 rfl) rfl hs (by decide) ?_
  refine Wp.seg 2 (pc1 := 68) (ls1 := [some (.ref 0), some (.int (Int32.ofNat s)), some (.int (w)), some (.int (n)), some (.int (0))]) (st1 := []) rfl ?_
  exact hQ
set_option maxHeartbeats 4000000 in
theorem t_msh6 {d : Nat} {Q : KO → Prop} {h : KH} (hw : WF h) {s : Nat} {w n : Int32} (hs : s < 4) (qs : inB (Int32.ofNat s) 0 3 = true) (qw : inB w (-1) 4 = true) (g : w < 0) (g2 : ¬ (0 ≤ w)) (hd : 2 ≤ d) (hQ : Wp d 264 64 ([some (.ref 59), some (.int (Int32.ofNat s)), some (.int (w)), some (.int (n)), some (.int (0))]) [] (kwi (kwi h 68 s w) 69 s (0 : Int32)) Q) : Cl d 264 [.ref 59, .int (Int32.ofNat s), .int (w), .int (n)] h Q := by
  refine Cl.of (ls := [some (.ref 59), some (.int (Int32.ofNat s)), some (.int (w)), some (.int (n)), none]) rfl rfl ?_
  refine Wp.seg 1 (pc1 := 1) (ls1 := [some (.ref 59), some (.int (Int32.ofNat s)), some (.int (w)), some (.int (n)), none]) (st1 := [.int (Int32.ofNat s)]) rfl ?_
  refine Wp.inv (d2 := 1) (as := [.int (Int32.ofNat s)]) (r := []) rfl rfl rfl rfl rfl rfl (by omega) (s_b177 (Nat.le_refl _) ?_)
  show Wp d 264 4 [some (.ref 59), some (.int (Int32.ofNat s)), some (.int (w)), some (.int (n)), none] [.int (b32 (inB (Int32.ofNat s) 0 3))] h Q
  refine Wp.ifz rfl (fun c1 => absurd (c1.symm.trans (qs)) (by decide)) (fun c1 => ?_)
  refine Wp.seg 3 (pc1 := 10) (ls1 := [some (.ref 59), some (.int (Int32.ofNat s)), some (.int (w)), some (.int (n)), none]) (st1 := [.int (4), .int (-1), .int (w)]) rfl ?_
  refine Wp.inv (d2 := 0) (as := [.int (w), .int (-1), .int (4)]) (r := []) rfl rfl rfl rfl rfl rfl (by omega) (s_inB (x := -1) (y := 4) rfl rfl ?_)
  show Wp d 264 13 [some (.ref 59), some (.int (Int32.ofNat s)), some (.int (w)), some (.int (n)), none] [.int (b32 (inB w (-1) 4))] h Q
  refine Wp.ifz rfl (fun c2 => absurd (c2.symm.trans (qw)) (by decide)) (fun c2 => ?_)
  refine Wp.seg 1 (pc1 := 17) (ls1 := [some (.ref 59), some (.int (Int32.ofNat s)), some (.int (w)), some (.int (n)), none]) (st1 := [.int (w)]) rfl ?_
  refine Wp.if1 rfl (fun c3 => ?_) (fun c3 => absurd (g) c3)
  refine Wp.seg 1 (pc1 := 29) (ls1 := [some (.ref 59), some (.int (Int32.ofNat s)), some (.int (w)), some (.int (n)), none]) (st1 := [.int (w)]) rfl ?_
  refine Wp.if1 rfl (fun c4 => ?_) (fun c4 => absurd (g) c4)
  refine Wp.seg 1 (pc1 := 40) (ls1 := [some (.ref 59), some (.int (Int32.ofNat s)), some (.int (w)), some (.int (n)), none]) (st1 := [.ref 59]) rfl ?_
  refine Wp.gr (t := (11, 0)) (v := some (68)) rfl (WF.t hw 59 rfl) rfl (WF.r hw 59 22 66 rfl) ?_
  show Wp d 264 43 [some (.ref 59), some (.int (Int32.ofNat s)), some (.int (w)), some (.int (n)), none] [.ref 68] h Q
  refine Wp.seg 2 (pc1 := 45) (ls1 := [some (.ref 59), some (.int (Int32.ofNat s)), some (.int (w)), some (.int (n)), none]) (st1 := [.int (w), .int (Int32.ofNat s), .ref 68]) rfl ?_
  refine Wp.iast (j := s) (n := 4) rfl (WF.t hw 68 rfl) rfl hs (by decide) ?_
  refine Wp.seg 1 (pc1 := 47) (ls1 := [some (.ref 59), some (.int (Int32.ofNat s)), some (.int (w)), some (.int (n)), none]) (st1 := [.ref 59]) rfl ?_
  refine Wp.gr (t := (11, 0)) (v := some (69)) rfl (WF.t hw 59 rfl) rfl (WF.r hw 59 23 67 rfl) ?_
  show Wp d 264 50 [some (.ref 59), some (.int (Int32.ofNat s)), some (.int (w)), some (.int (n)), none] [.ref 69] (kwi h 68 s w) Q
  refine Wp.seg 2 (pc1 := 52) (ls1 := [some (.ref 59), some (.int (Int32.ofNat s)), some (.int (w)), some (.int (n)), none]) (st1 := [.int (w), .int (Int32.ofNat s), .ref 69]) rfl ?_
  refine Wp.if1 rfl (fun c5 => absurd c5 (g2)) (fun c5 => ?_)
  refine Wp.seg 2 (pc1 := 60) (ls1 := [some (.ref 59), some (.int (Int32.ofNat s)), some (.int (w)), some (.int (n)), none]) (st1 := [.int (0), .int (Int32.ofNat s), .ref 69]) rfl ?_
  refine Wp.iast (j := s) (n := 4) rfl (WF.t hw 69 rfl) rfl hs (by decide) ?_
  refine Wp.seg 2 (pc1 := 64) (ls1 := [some (.ref 59), some (.int (Int32.ofNat s)), some (.int (w)), some (.int (n)), some (.int (0))]) (st1 := []) rfl ?_
  exact hQ
set_option maxHeartbeats 4000000 in
theorem t_csL {d : Nat} {Q : KO → Prop} {h : KH} (hw : WF h) {s z j : Nat} {w n : Int32} (hs : s < 4) (h39 : h.2.2.1 39 s = Int32.ofNat z) (jb : ¬ (Int32.ofNat z ≤ Int32.ofNat j) → j < 40) (hd : 0 ≤ d) (hQ : ((Int32.ofNat z) ≤ (Int32.ofNat j) → Q (some (.int (1)), h)) ∧ (¬ ((Int32.ofNat z) ≤ (Int32.ofNat j)) → Wp d 148 68 ([some (.ref 0), some (.int (Int32.ofNat s)), some (.int (w)), some (.int (n)), some (.int ((Int32.ofNat j) + 1))]) [] (kwi h (41 + s) j (0 : Int32)) Q)) : Wp d 148 68 [some (.ref 0), some (.int (Int32.ofNat s)), some (.int (w)), some (.int (n)), some (.int (Int32.ofNat j))] [] h Q := by
  refine Wp.seg 2 (pc1 := 71) (ls1 := [some (.ref 0), some (.int (Int32.ofNat s)), some (.int (w)), some (.int (n)), some (.int (Int32.ofNat j))]) (st1 := [.ref 0, .int (Int32.ofNat j)]) rfl ?_
  refine Wp.gr (t := (10, 0)) (v := some (39)) rfl (WF.t hw 0 rfl) rfl (WF.r hw 0 9 7 rfl) ?_
  show Wp d 148 74 [some (.ref 0), some (.int (Int32.ofNat s)), some (.int (w)), some (.int (n)), some (.int (Int32.ofNat j))] [.ref 39, .int (Int32.ofNat j)] h Q
  refine Wp.seg 1 (pc1 := 75) (ls1 := [some (.ref 0), some (.int (Int32.ofNat s)), some (.int (w)), some (.int (n)), some (.int (Int32.ofNat j))]) (st1 := [.int (Int32.ofNat s), .ref 39, .int (Int32.ofNat j)]) rfl ?_
  refine Wp.iald (j := s) (k := 20) (n := 4) rfl (WF.t hw 39 rfl) rfl rfl hs (by decide) ?_
  rw [show h.2.2.1 39 s = Int32.ofNat z from h39]
  refine Wp.if2 rfl (fun (c1 : (Int32.ofNat z) ≤ (Int32.ofNat j)) => ?_) (fun (c1 : ¬ ((Int32.ofNat z) ≤ (Int32.ofNat j))) => ?_)
  · refine Wp.seg 1 (pc1 := 96) (ls1 := [some (.ref 0), some (.int (Int32.ofNat s)), some (.int (w)), some (.int (n)), some (.int (Int32.ofNat j))]) (st1 := [.int (1)]) rfl ?_
    exact Wp.reti rfl rfl (hQ.1 c1)
  · refine Wp.seg 1 (pc1 := 80) (ls1 := [some (.ref 0), some (.int (Int32.ofNat s)), some (.int (w)), some (.int (n)), some (.int (Int32.ofNat j))]) (st1 := [.ref 0]) rfl ?_
    refine Wp.gr (t := (10, 0)) (v := some (40)) rfl (WF.t hw 0 rfl) rfl (WF.r hw 0 10 8 rfl) ?_
    show Wp d 148 83 [some (.ref 0), some (.int (Int32.ofNat s)), some (.int (w)), some (.int (n)), some (.int (Int32.ofNat j))] [.ref 40] h Q
    refine Wp.seg 1 (pc1 := 84) (ls1 := [some (.ref 0), some (.int (Int32.ofNat s)), some (.int (w)), some (.int (n)), some (.int (Int32.ofNat j))]) (st1 := [.int (Int32.ofNat s), .ref 40]) rfl ?_
    refine Wp.aald (j := s) (k := 26) (n := 4) (v := some (41 + s)) rfl (WF.t hw 40 rfl) rfl rfl hs (by decide) (it_r hw hs) ?_
    show Wp d 148 85 [some (.ref 0), some (.int (Int32.ofNat s)), some (.int (w)), some (.int (n)), some (.int (Int32.ofNat j))] [.ref (41 + s)] h Q
    refine Wp.seg 2 (pc1 := 88) (ls1 := [some (.ref 0), some (.int (Int32.ofNat s)), some (.int (w)), some (.int (n)), some (.int (Int32.ofNat j))]) (st1 := [.int (0), .int (Int32.ofNat j), .ref (41 + s)]) rfl ?_
    refine Wp.iast (j := j) (n := 40) rfl (it_t hw hs) rfl ((jb ‹_›)) (by decide) ?_
    refine Wp.seg 2 (pc1 := 68) (ls1 := [some (.ref 0), some (.int (Int32.ofNat s)), some (.int (w)), some (.int (n)), some (.int ((Int32.ofNat j) + 1))]) (st1 := []) rfl ?_
    exact (hQ.2 c1)
set_option maxHeartbeats 4000000 in
theorem t_msL {d : Nat} {Q : KO → Prop} {h : KH} (hw : WF h) {s j : Nat} {w n : Int32} (hs : s < 4) (jb : ¬ ((40 : Int32) ≤ Int32.ofNat j) → 40 * s + j < 160) (hd : 0 ≤ d) (hQ : ((40 : Int32) ≤ (Int32.ofNat j) → Q (some (.int (1)), h)) ∧ (¬ ((40 : Int32) ≤ (Int32.ofNat j)) → Wp d 264 64 ([some (.ref 59), some (.int (Int32.ofNat s)), some (.int (w)), some (.int (n)), some (.int ((Int32.ofNat j) + 1))]) [] (kwl h 70 ((40 * s + j)) (0 : Int64)) Q)) : Wp d 264 64 [some (.ref 59), some (.int (Int32.ofNat s)), some (.int (w)), some (.int (n)), some (.int (Int32.ofNat j))] [] h Q := by
  refine Wp.seg 2 (pc1 := 68) (ls1 := [some (.ref 59), some (.int (Int32.ofNat s)), some (.int (w)), some (.int (n)), some (.int (Int32.ofNat j))]) (st1 := [.int (40), .int (Int32.ofNat j)]) rfl ?_
  refine Wp.if2 rfl (fun (c1 : (40 : Int32) ≤ (Int32.ofNat j)) => ?_) (fun (c1 : ¬ ((40 : Int32) ≤ (Int32.ofNat j))) => ?_)
  · refine Wp.seg 1 (pc1 := 91) (ls1 := [some (.ref 59), some (.int (Int32.ofNat s)), some (.int (w)), some (.int (n)), some (.int (Int32.ofNat j))]) (st1 := [.int (1)]) rfl ?_
    exact Wp.reti rfl rfl (hQ.1 c1)
  · refine Wp.seg 1 (pc1 := 72) (ls1 := [some (.ref 59), some (.int (Int32.ofNat s)), some (.int (w)), some (.int (n)), some (.int (Int32.ofNat j))]) (st1 := [.ref 59]) rfl ?_
    refine Wp.gr (t := (11, 0)) (v := some (70)) rfl (WF.t hw 59 rfl) rfl (WF.r hw 59 24 68 rfl) ?_
    show Wp d 264 75 [some (.ref 59), some (.int (Int32.ofNat s)), some (.int (w)), some (.int (n)), some (.int (Int32.ofNat j))] [.ref 70] h Q
    refine Wp.seg 6 (pc1 := 83) (ls1 := [some (.ref 59), some (.int (Int32.ofNat s)), some (.int (w)), some (.int (n)), some (.int (Int32.ofNat j))]) (st1 := [.long (0), .int (((40 : Int32) * (Int32.ofNat s)) + (Int32.ofNat j)), .ref 70]) rfl ?_
    refine Wp.last (j := (40 * s + j)) (n := 160) rfl (WF.t hw 70 rfl) (six s j) ((jb ‹_›)) (by decide) ?_
    refine Wp.seg 2 (pc1 := 64) (ls1 := [some (.ref 59), some (.int (Int32.ofNat s)), some (.int (w)), some (.int (n)), some (.int ((Int32.ofNat j) + 1))]) (st1 := []) rfl ?_
    exact (hQ.2 c1)
theorem nle {a b : Nat} (ha : a ≤ 100) (hb : b ≤ 100) : (Int32.ofNat a ≤ Int32.ofNat b) ↔ a ≤ b := by
  rw [Int32.le_iff_toInt_le, znat (n := a) (by omega), znat (n := b) (by omega)]
  omega
theorem s_shcL {d s z : Nat} {w n : Int32} {Q : KO → Prop} (hs : s < 4) (hz : z ≤ 40) : ∀ (r j : Nat) {h : KH}, WF h → j + r = z → h.2.2.1 39 s = Int32.ofNat z → (∀ i, i < j → h.2.2.1 (41 + s) i = 0) → (∀ k, Fr (fun c => c = 41 + s) noP h k → (∀ i, i < z → k.2.2.1 (41 + s) i = 0) → Q (some (.int 1), k)) → Wp d 148 68 [some (.ref 0), some (.int (Int32.ofNat s)), some (.int w), some (.int n), some (.int (Int32.ofNat j))] [] h Q := by
  intro r
  induction r with
  | zero =>
    intro j h hw hj h39 hd hQ
    refine t_csL hw hs h39 (fun c => absurd ((nle (by omega) (by omega)).mpr (by omega)) c) (Nat.zero_le _) ⟨fun _ => hQ h (Fr.refl h) (fun i hi => hd i (by omega)), fun c => absurd ((nle (by omega) (by omega)).mpr (by omega)) c⟩
  | succ r ih =>
    intro j h hw hj h39 hd hQ
    refine t_csL hw hs h39 (fun _ => by omega) (Nat.zero_le _) ⟨fun c => absurd ((nle (by omega) (by omega)).mp c) (by omega), fun c => ?_⟩
    have f : Fr (fun c => c = 41 + s) noP h (kwi h (41 + s) j 0) := fr_kwi rfl (by omega)
    rw [show Int32.ofNat j + (1 : Int32) = Int32.ofNat (j + 1) from (Int32.ofNat_add j 1).symm]
    refine ih (j + 1) (f.wf hw (fun z => z)) (by omega) (by rw [f.2.2.1 39 (Or.inl (by omega))]; exact h39) (fun i hi => ?_) (fun k fk hk => hQ k (f.trans fk) hk)
    by_cases e : i = j
    · subst e
      exact kwi_s
    · rw [kwi_o e]
      exact hd i (by omega)
theorem s_shmL {d s : Nat} {w n : Int32} {Q : KO → Prop} (hs : s < 4) : ∀ (r j : Nat) {h : KH}, WF h → j + r = 40 → (∀ i, i < j → h.2.2.2.1 70 (40 * s + i) = 0) → (∀ J : Nat → Nat → Int64, (∀ i, i < 40 → J 70 (40 * s + i) = 0) → (∀ m, (m < 40 * s ∨ 40 * s + 40 ≤ m) → J 70 m = h.2.2.2.1 70 m) → Q (some (.int 1), hL h J)) → Wp d 264 64 [some (.ref 59), some (.int (Int32.ofNat s)), some (.int w), some (.int n), some (.int (Int32.ofNat j))] [] h Q := by
  intro r
  induction r with
  | zero =>
    intro j h hw hj hd hQ
    refine t_msL hw hs (fun c => absurd ((nle (a := 40) (by omega) (by omega)).mpr (by omega)) c) (Nat.zero_le _) ⟨fun _ => hQ h.2.2.2.1 (fun i hi => hd i (by omega)) (fun _ _ => rfl), fun c => absurd ((nle (a := 40) (by omega) (by omega)).mpr (by omega)) c⟩
  | succ r ih =>
    intro j h hw hj hd hQ
    refine t_msL hw hs (fun _ => by omega) (Nat.zero_le _) ⟨fun c => absurd ((nle (a := 40) (by omega) (by omega)).mp c) (by omega), fun c => ?_⟩
    rw [show Int32.ofNat j + (1 : Int32) = Int32.ofNat (j + 1) from (Int32.ofNat_add j 1).symm]
    refine ih (j + 1) (h := kwl h 70 (40 * s + j) 0) hw (by omega) (fun i hi => ?_) (fun J j1 j2 => hQ J j1 (fun m hm => (j2 m hm).trans ?_))
    · show ku h.2.2.2.1 70 (ku (h.2.2.2.1 70) (40 * s + j) 0) 70 (40 * s + i) = 0
      rw [ku_s]
      by_cases e : i = j
      · subst e
        exact ku_s _ _ _
      · rw [ku_n _ _ (by omega)]
        exact hd i (by omega)
    · show ku h.2.2.2.1 70 (ku (h.2.2.2.1 70) (40 * s + j) 0) 70 m = _
      rw [ku_s, ku_n _ _ (by omega)]
/-- a sheet is laid anew on both sides -/
theorem sh_inv {h k : KH} {J : Nat → Nat → Int64} (hi : Inv h) {s z : Nat} {w : Int32} (hs : s < 4) (hz : z ≤ 40) (f : Fr (fun c => c = 38 ∨ c = 39 ∨ c = 41 + s ∨ c = 68 ∨ c = 69) noP h k) (e38 : ∀ t, k.2.2.1 38 t = if t = s then w else h.2.2.1 38 t) (e68 : ∀ t, k.2.2.1 68 t = if t = s then w else h.2.2.1 68 t) (e39 : ∀ t, k.2.2.1 39 t = if t = s then Int32.ofNat z else h.2.2.1 39 t) (e69 : ∀ t, k.2.2.1 69 t = if t = s then Int32.ofNat z else h.2.2.1 69 t) (hq : inB w (-1) 4 = true) (i0 : ∀ i, i < z → k.2.2.1 (41 + s) i = 0) (j0 : ∀ i, i < 40 → J 70 (40 * s + i) = 0) (j1 : ∀ m, (m < 40 * s ∨ 40 * s + 40 ≤ m) → J 70 m = h.2.2.2.1 70 m) : Inv (hL k J) := by
  have ho := hi.2.2.1
  refine inv_of hi f (by omega) (by rw [f.2.2.1 0 (Or.inl (by omega))]) (by rw [f.2.2.1 59 (Or.inl (by omega))]) ?_ ?_ (fun t ht => ?_) (fun t ht => ?_) ?_
  · obtain ⟨T, hT⟩ := ho.2.1
    exact ⟨T, tape_fr hT f (by omega) (by rw [f.2.2.1 59 (Or.inl (by omega))])⟩
  · obtain ⟨T, hT⟩ := ho.2.2.1
    exact ⟨T, rows_fr hT f (by omega) (by rw [f.2.2.1 0 (Or.inl (by omega))]) (by rw [f.2.2.1 59 (Or.inl (by omega))])⟩
  · obtain ⟨t1, t2, t3, zt, t4, t5, t6⟩ := ho.2.2.2.1 t ht
    show k.2.2.1 38 t = k.2.2.1 68 t ∧ k.2.2.1 39 t = k.2.2.1 69 t ∧ inB (k.2.2.1 38 t) (-1) 4 = true ∧ ∃ z : Nat, z ≤ 40 ∧ k.2.2.1 39 t = Int32.ofNat z ∧ ∀ i, i < z → (J 70 (40 * t + i)).toInt32 = k.2.2.1 (41 + t) i
    rw [e38, e39, e68, e69]
    by_cases e : t = s
    · subst e
      rw [if_pos rfl, if_pos rfl, if_pos rfl, if_pos rfl]
      refine ⟨rfl, rfl, hq, z, hz, rfl, fun i hi => ?_⟩
      rw [j0 i (by omega), i0 i hi]
      rfl
    · rw [if_neg e, if_neg e, if_neg e, if_neg e]
      refine ⟨t1, t2, t3, zt, t4, t5, fun i hi => ?_⟩
      rw [j1 _ (by omega), f.2.2.1 (41 + t) (Or.inl (by omega))]
      exact t6 i hi
  · exact shelf_fr (ho.2.2.2.2.1 t ht) f (by omega)
  · exact trace_fr ho.2.2.2.2.2 f (by omega) (by rw [f.2.2.1 59 (Or.inl (by omega))])
/-- the stores and the loops of both sides -/
theorem sh_both {h : KH} (hi : Inv h) {s z : Nat} {w n zz : Int32} (hs : s < 4) (hz : z ≤ 40) (hzz : zz = Int32.ofNat z) (hq : inB w (-1) 4 = true) {ma : List Value} (hm : ∀ {k : KH} {Q : KO → Prop}, WF k → Wp 15 264 64 [some (.ref 59), some (.int (Int32.ofNat s)), some (.int w), some (.int n), some (.int 0)] [] (kwi (kwi k 68 s w) 69 s zz) Q → Cl 15 264 ma k Q) : Wp 15 148 68 [some (.ref 0), some (.int (Int32.ofNat s)), some (.int w), some (.int n), some (.int 0)] [] (kwi (kwi h 38 s w) 39 s zz) (fun o => ∃ k, o = (some (.int (1 : Int32)), k) ∧ Cl 15 264 ma k (fun o2 => ∃ k2, o2 = (some (.int (1 : Int32)), k2) ∧ Inv k2 ∧ k2.2.2.2.2.1 ≤ h.2.2.2.2.1 + 5 ∧ k2.2.2.2.2.2 ≤ h.2.2.2.2.2 + 240 ∧ far h k2)) := by
  subst hzz
  have hw := hi.1
  have f0 : Fr (fun c => c = 38 ∨ c = 39 ∨ c = 41 + s ∨ c = 68 ∨ c = 69) noP h (kwi (kwi h 38 s w) 39 s (Int32.ofNat z)) := (fr_kwi (Or.inl rfl) (by decide)).trans (fr_kwi (Or.inr (Or.inl rfl)) (by decide))
  refine s_shcL hs hz z 0 (f0.wf hw (fun z => z)) (Nat.zero_add z) kwi_s (fun i hi => absurd hi (Nat.not_lt_zero i)) (fun k fk i0 => ⟨k, rfl, ?_⟩)
  have fk2 : Fr (fun c => c = 38 ∨ c = 39 ∨ c = 41 + s ∨ c = 68 ∨ c = 69) noP h k := f0.trans (fk.mono (fun c z => Or.inr (Or.inr (Or.inl z))) (fun _ z => z))
  have f3 : Fr (fun c => c = 38 ∨ c = 39 ∨ c = 41 + s ∨ c = 68 ∨ c = 69) noP h (kwi (kwi k 68 s w) 69 s (Int32.ofNat z)) := fk2.trans ((fr_kwi (Or.inr (Or.inr (Or.inr (Or.inl rfl)))) (by decide)).trans (fr_kwi (Or.inr (Or.inr (Or.inr (Or.inr rfl)))) (by decide)))
  refine hm (fk2.wf hw (fun z => z)) (s_shmL hs 40 0 (f3.wf hw (fun z => z)) rfl (fun i hi => absurd hi (Nat.not_lt_zero i)) (fun J j0 j1 => ⟨_, rfl, sh_inv hi hs hz f3 (fun t => ?_) (fun t => ?_) (fun t => ?_) (fun t => ?_) hq (fun i hi => ?_) j0 (fun m hm => ?_), ?_, ?_, fun c hc => far_fr f3 c hc⟩))
  · rw [kwi_r (by decide), kwi_r (by decide), fk.2.2.1 38 (Or.inl (by omega)), kwi_r (by decide)]
    show ku h.2.2.1 38 (ku (h.2.2.1 38) s w) 38 t = _
    rw [ku_s]
    rfl
  · rw [kwi_r (by decide)]
    show ku k.2.2.1 68 (ku (k.2.2.1 68) s w) 68 t = _
    rw [ku_s, fk.2.2.1 68 (Or.inl (by omega)), kwi_r (by decide), kwi_r (by decide)]
    rfl
  · rw [kwi_r (by decide), kwi_r (by decide), fk.2.2.1 39 (Or.inl (by omega))]
    show ku (kwi h 38 s w).2.2.1 39 (ku ((kwi h 38 s w).2.2.1 39) s _) 39 t = _
    rw [ku_s, kwi_r (by decide)]
    rfl
  · show ku (kwi k 68 s w).2.2.1 69 (ku ((kwi k 68 s w).2.2.1 69) s _) 69 t = _
    rw [ku_s, kwi_r (by decide), fk.2.2.1 69 (Or.inl (by omega)), kwi_r (by decide), kwi_r (by decide)]
    rfl
  · rw [kwi_r (by omega), kwi_r (by omega)]
    exact i0 i hi
  · rw [j1 m hm]
    show k.2.2.2.1 70 m = _
    rw [fk2.2.1]
  · show k.2.2.2.2.1 ≤ _
    rw [fk2.2.1]
    omega
  · show k.2.2.2.2.2 ≤ _
    rw [fk2.2.1]
    omega
theorem J_sheet {h : KH} (hi : Inv h) (v w n : Int32) : JI h 148 [.ref 0, .int v, .int w, .int n] 264 [.ref 59, .int v, .int w, .int n] := by
  have hw := hi.1
  rcases hq : inB v 0 3 with _ | _
  · exact JI_same (dc := 2) (dm := 2) hi (t_csh1 hw hq (Nat.le_refl _) rfl) (t_msh1 hw hq (Nat.le_refl _) rfl)
  rcases hw4 : inB w (-1) 4 with _ | _
  · have nw : ¬ (-1 ≤ w.toInt ∧ w.toInt ≤ 4) := of_decide_eq_false hw4
    refine JI_same (dc := 2) (dm := 2) hi (t_csh2 hw hq (Nat.le_refl _) ⟨fun _ => rfl, fun c1 => ⟨fun _ => rfl, fun c2 => absurd ?_ nw⟩⟩) (t_msh2 hw hq hw4 (Nat.le_refl _) rfl)
    have k1 := i32F (rfl : w.toInt = w.toInt) (show (-1 : Int32).toInt = -1 from rfl) c1
    have k2 := i32G (show (5 : Int32).toInt = 5 from rfl) (rfl : w.toInt = w.toInt) c2
    omega
  have yw := so_rng hw4
  have w0 : ¬ (w < -1) := fun c => by
    have := i32T (rfl : w.toInt = w.toInt) (show (-1 : Int32).toInt = -1 from rfl) c
    omega
  have w5 : ¬ ((5 : Int32) ≤ w) := fun c => by
    have := i32L (show (5 : Int32).toInt = 5 from rfl) (rfl : w.toInt = w.toInt) c
    omega
  obtain ⟨s, hs0, rfl⟩ := inB_nat (b := 3) hq
  have hs : s < 4 := by omega
  by_cases e1 : w = -1
  · have g : w < 0 := by rw [e1]; decide
    have g2 : ¬ (0 ≤ w) := by rw [e1]; decide
    refine ⟨1, t_csh6 hw hs hq w0 w5 e1 (by decide) (sh_both (z := 0) hi hs (by omega) rfl hw4 (fun {k Q} kw z => t_msh6 kw hs hq hw4 g g2 (by decide) z))⟩
  have : w.toInt ≠ -1 := fun z => e1 (eqm1 z)
  have g : ¬ (w < 0) := fun c => by
    have := i32T (rfl : w.toInt = w.toInt) (show (0 : Int32).toInt = 0 from rfl) c
    omega
  have g2 : 0 ≤ w := (Int32.le_iff_toInt_le).mpr (show 0 ≤ w.toInt by omega)
  by_cases u : n ≤ 40
  · by_cases p : 0 ≤ n
    · have u2 := i32L (rfl : n.toInt = n.toInt) (show (40 : Int32).toInt = 40 from rfl) u
      have p2 := i32L (show (0 : Int32).toInt = 0 from rfl) (rfl : n.toInt = n.toInt) p
      obtain ⟨z, hz, rfl⟩ := inB_nat (b := 40) (inB_t (v := n) ⟨p2, u2⟩)
      refine ⟨1, t_csh5 hw hs hq w0 w5 e1 u p (by decide) (sh_both (z := z) hi hs hz rfl hw4 (fun {k Q} kw z => t_msh5 kw hs hq hw4 g g2 u p (by decide) z))⟩
    · exact JI_same (dc := 2) (dm := 2) hi (t_csh4 hw hq w0 w5 e1 u p (Nat.le_refl _) rfl) (t_msh4 hw hq hw4 g g2 u p (Nat.le_refl _) rfl)
  · exact JI_same (dc := 2) (dm := 2) hi (t_csh3 hw hq w0 w5 e1 u (Nat.le_refl _) rfl) (t_msh3 hw hq hw4 g g2 u (Nat.le_refl _) rfl)
