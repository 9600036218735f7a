/-! KM: both sides: taken -/
set_option maxHeartbeats 4000000 in
theorem t_ctk0k {d : Nat} {Q : KO → Prop} {h : KH} (hw : WF h) {v k : Int32} (q : inB v 0 3 = false) (n0 : ¬ (k < 0)) (n1 : ¬ ((5 : Int32) < k)) (n2 : k < 10) (hd : 3 ≤ d) (hQ : Q (some (.int (-1)), h)) : Cl d 160 [.ref 0, .int (v), .int (k)] h Q := by
  refine Cl.of (ls := [some (.ref 0), some (.int (v)), some (.int (k)), none, none, none]) rfl rfl ?_
  refine Wp.seg 1 (pc1 := 1) (ls1 := [some (.ref 0), some (.int (v)), some (.int (k)), none, none, none]) (st1 := [.int (k)]) rfl ?_
  refine Wp.if1 rfl (fun c1 => absurd c1 (n0)) (fun c1 => ?_)
  refine Wp.seg 2 (pc1 := 6) (ls1 := [some (.ref 0), some (.int (v)), some (.int (k)), none, none, none]) (st1 := [.int (5), .int (k)]) rfl ?_
  refine Wp.if2 rfl (fun c2 => absurd c2 (n1)) (fun c2 => ?_)
  refine Wp.seg 5 (pc1 := 18) (ls1 := [some (.ref 0), some (.int (v)), some (.int (k)), some (.int (1)), none, none]) (st1 := [.int (10), .int (k)]) rfl ?_
  refine Wp.if2 rfl (fun c3 => ?_) (fun c3 => absurd (n2) c3)
  refine Wp.seg 3 (pc1 := 35) (ls1 := [some (.ref 0), some (.int (v)), some (.int (k)), some (.int (1)), some (.int (0)), none]) (st1 := [.int (v)]) rfl ?_
  refine Wp.inv (d2 := 0) (as := [.int (v)]) (r := []) rfl rfl rfl rfl rfl rfl (by omega) (s_b164 ?_)
  show Wp d 160 38 [some (.ref 0), some (.int (v)), some (.int (k)), some (.int (1)), some (.int (0)), none] [.int (b32 (inB v 0 3))] h Q
  refine Wp.ifz rfl (fun c4 => ?_) (fun c4 => absurd (c4.symm.trans (q)) (by decide))
  refine Wp.seg 1 (pc1 := 51) (ls1 := [some (.ref 0), some (.int (v)), some (.int (k)), some (.int (1)), some (.int (0)), none]) (st1 := [.int (-1)]) rfl ?_
  exact Wp.reti rfl rfl hQ
set_option maxHeartbeats 4000000 in
theorem t_mtk0k {d : Nat} {Q : KO → Prop} {h : KH} (hw : WF h) {v k : Int32} (q : inB v 0 3 = false) (m0 : inB k 0 5 = true) (m1 : k < 6) (m2 : ¬ ((6 : Int32) ≤ k)) (hd : 3 ≤ d) (hQ : Q (some (.int (-1)), h)) : Cl d 273 [.ref 59, .int (v), .int (k)] h Q := by
  refine Cl.of (ls := [some (.ref 59), some (.int (v)), some (.int (k))]) rfl rfl ?_
  refine Wp.seg 1 (pc1 := 1) (ls1 := [some (.ref 59), some (.int (v)), some (.int (k))]) (st1 := [.int (v)]) rfl ?_
  refine Wp.inv (d2 := 1) (as := [.int (v)]) (r := []) rfl rfl rfl rfl rfl rfl (by omega) (s_b177 (Nat.le_refl _) ?_)
  show Wp d 273 4 [some (.ref 59), some (.int (v)), some (.int (k))] [.int (b32 (inB v 0 3))] h Q
  refine Wp.ifz rfl (fun c1 => ?_) (fun c1 => absurd (c1.symm.trans (q)) (by decide))
  refine Wp.seg 1 (pc1 := 28) (ls1 := [some (.ref 59), some (.int (v)), some (.int (k))]) (st1 := [.int (-1)]) rfl ?_
  exact Wp.reti rfl rfl hQ
set_option maxHeartbeats 4000000 in
theorem t_ctk0r {d : Nat} {Q : KO → Prop} {h : KH} (hw : WF h) {v k : Int32} (q : inB v 0 3 = false) (n0 : ¬ (k < 0)) (n1 : (5 : Int32) < k) (n2 : ¬ (k < 10)) (n3 : ¬ ((15 : Int32) ≤ k)) (hd : 3 ≤ d) (hQ : Q (some (.int (-1)), h)) : Cl d 160 [.ref 0, .int (v), .int (k)] h Q := by
  refine Cl.of (ls := [some (.ref 0), some (.int (v)), some (.int (k)), none, none, none]) rfl rfl ?_
  refine Wp.seg 1 (pc1 := 1) (ls1 := [some (.ref 0), some (.int (v)), some (.int (k)), none, none, none]) (st1 := [.int (k)]) rfl ?_
  refine Wp.if1 rfl (fun c1 => absurd c1 (n0)) (fun c1 => ?_)
  refine Wp.seg 2 (pc1 := 6) (ls1 := [some (.ref 0), some (.int (v)), some (.int (k)), none, none, none]) (st1 := [.int (5), .int (k)]) rfl ?_
  refine Wp.if2 rfl (fun c2 => ?_) (fun c2 => absurd (n1) c2)
  refine Wp.seg 4 (pc1 := 18) (ls1 := [some (.ref 0), some (.int (v)), some (.int (k)), some (.int (0)), none, none]) (st1 := [.int (10), .int (k)]) rfl ?_
  refine Wp.if2 rfl (fun c3 => absurd c3 (n2)) (fun c3 => ?_)
  refine Wp.seg 2 (pc1 := 24) (ls1 := [some (.ref 0), some (.int (v)), some (.int (k)), some (.int (0)), none, none]) (st1 := [.int (15), .int (k)]) rfl ?_
  refine Wp.if2 rfl (fun c4 => absurd c4 (n3)) (fun c4 => ?_)
  refine Wp.seg 4 (pc1 := 35) (ls1 := [some (.ref 0), some (.int (v)), some (.int (k)), some (.int (0)), some (.int (1)), none]) (st1 := [.int (v)]) rfl ?_
  refine Wp.inv (d2 := 0) (as := [.int (v)]) (r := []) rfl rfl rfl rfl rfl rfl (by omega) (s_b164 ?_)
  show Wp d 160 38 [some (.ref 0), some (.int (v)), some (.int (k)), some (.int (0)), some (.int (1)), none] [.int (b32 (inB v 0 3))] h Q
  refine Wp.ifz rfl (fun c5 => ?_) (fun c5 => absurd (c5.symm.trans (q)) (by decide))
  refine Wp.seg 1 (pc1 := 51) (ls1 := [some (.ref 0), some (.int (v)), some (.int (k)), some (.int (0)), some (.int (1)), none]) (st1 := [.int (-1)]) rfl ?_
  exact Wp.reti rfl rfl hQ
set_option maxHeartbeats 4000000 in
theorem t_mtk0r {d : Nat} {Q : KO → Prop} {h : KH} (hw : WF h) {v k : Int32} (q : inB v 0 3 = false) (m0 : inB k 0 5 = false) (m1 : inB k 10 14 = true) (m2 : (6 : Int32) ≤ k) (hd : 3 ≤ d) (hQ : Q (some (.int (-1)), h)) : Cl d 273 [.ref 59, .int (v), .int (k)] h Q := by
  refine Cl.of (ls := [some (.ref 59), some (.int (v)), some (.int (k))]) rfl rfl ?_
  refine Wp.seg 1 (pc1 := 1) (ls1 := [some (.ref 59), some (.int (v)), some (.int (k))]) (st1 := [.int (v)]) rfl ?_
  refine Wp.inv (d2 := 1) (as := [.int (v)]) (r := []) rfl rfl rfl rfl rfl rfl (by omega) (s_b177 (Nat.le_refl _) ?_)
  show Wp d 273 4 [some (.ref 59), some (.int (v)), some (.int (k))] [.int (b32 (inB v 0 3))] h Q
  refine Wp.ifz rfl (fun c1 => ?_) (fun c1 => absurd (c1.symm.trans (q)) (by decide))
  refine Wp.seg 1 (pc1 := 28) (ls1 := [some (.ref 59), some (.int (v)), some (.int (k))]) (st1 := [.int (-1)]) rfl ?_
  exact Wp.reti rfl rfl hQ
set_option maxHeartbeats 4000000 in
theorem t_ctk0a {d : Nat} {Q : KO → Prop} {h : KH} (hw : WF h) {v k : Int32} (q : inB v 0 3 = false) (n0 : k < 0) (n1 : k < 10) (hd : 3 ≤ d) (hQ : Q (some (.int (-1)), h)) : Cl d 160 [.ref 0, .int (v), .int (k)] h Q := by
  refine Cl.of (ls := [some (.ref 0), some (.int (v)), some (.int (k)), none, none, none]) rfl rfl ?_
  refine Wp.seg 1 (pc1 := 1) (ls1 := [some (.ref 0), some (.int (v)), some (.int (k)), none, none, none]) (st1 := [.int (k)]) rfl ?_
  refine Wp.if1 rfl (fun c1 => ?_) (fun c1 => absurd (n0) c1)
  refine Wp.seg 4 (pc1 := 18) (ls1 := [some (.ref 0), some (.int (v)), some (.int (k)), some (.int (0)), none, none]) (st1 := [.int (10), .int (k)]) rfl ?_
  refine Wp.if2 rfl (fun c2 => ?_) (fun c2 => absurd (n1) c2)
  refine Wp.seg 3 (pc1 := 35) (ls1 := [some (.ref 0), some (.int (v)), some (.int (k)), some (.int (0)), some (.int (0)), none]) (st1 := [.int (v)]) rfl ?_
  refine Wp.inv (d2 := 0) (as := [.int (v)]) (r := []) rfl rfl rfl rfl rfl rfl (by omega) (s_b164 ?_)
  show Wp d 160 38 [some (.ref 0), some (.int (v)), some (.int (k)), some (.int (0)), some (.int (0)), none] [.int (b32 (inB v 0 3))] h Q
  refine Wp.ifz rfl (fun c3 => ?_) (fun c3 => absurd (c3.symm.trans (q)) (by decide))
  refine Wp.seg 1 (pc1 := 51) (ls1 := [some (.ref 0), some (.int (v)), some (.int (k)), some (.int (0)), some (.int (0)), none]) (st1 := [.int (-1)]) rfl ?_
  exact Wp.reti rfl rfl hQ
set_option maxHeartbeats 4000000 in
theorem t_mtk0a {d : Nat} {Q : KO → Prop} {h : KH} (hw : WF h) {v k : Int32} (q : inB v 0 3 = false) (m0 : inB k 0 5 = false) (m1 : inB k 10 14 = false) (hd : 3 ≤ d) (hQ : Q (some (.int (-1)), h)) : Cl d 273 [.ref 59, .int (v), .int (k)] h Q := by
  refine Cl.of (ls := [some (.ref 59), some (.int (v)), some (.int (k))]) rfl rfl ?_
  refine Wp.seg 1 (pc1 := 1) (ls1 := [some (.ref 59), some (.int (v)), some (.int (k))]) (st1 := [.int (v)]) rfl ?_
  refine Wp.inv (d2 := 1) (as := [.int (v)]) (r := []) rfl rfl rfl rfl rfl rfl (by omega) (s_b177 (Nat.le_refl _) ?_)
  show Wp d 273 4 [some (.ref 59), some (.int (v)), some (.int (k))] [.int (b32 (inB v 0 3))] h Q
  refine Wp.ifz rfl (fun c1 => ?_) (fun c1 => absurd (c1.symm.trans (q)) (by decide))
  refine Wp.seg 1 (pc1 := 28) (ls1 := [some (.ref 59), some (.int (v)), some (.int (k))]) (st1 := [.int (-1)]) rfl ?_
  exact Wp.reti rfl rfl hQ
set_option maxHeartbeats 4000000 in
theorem t_ctk1a {d : Nat} {Q : KO → Prop} {h : KH} (hw : WF h) {v k : Int32} (q : inB v 0 3 = true) (n0 : k < 0) (n1 : k < 10) (hd : 3 ≤ d) (hQ : Q (some (.int (-1)), h)) : Cl d 160 [.ref 0, .int (v), .int (k)] h Q := by
  refine Cl.of (ls := [some (.ref 0), some (.int (v)), some (.int (k)), none, none, none]) rfl rfl ?_
  refine Wp.seg 1 (pc1 := 1) (ls1 := [some (.ref 0), some (.int (v)), some (.int (k)), none, none, none]) (st1 := [.int (k)]) rfl ?_
  refine Wp.if1 rfl (fun c1 => ?_) (fun c1 => absurd (n0) c1)
  refine Wp.seg 4 (pc1 := 18) (ls1 := [some (.ref 0), some (.int (v)), some (.int (k)), some (.int (0)), none, none]) (st1 := [.int (10), .int (k)]) rfl ?_
  refine Wp.if2 rfl (fun c2 => ?_) (fun c2 => absurd (n1) c2)
  refine Wp.seg 3 (pc1 := 35) (ls1 := [some (.ref 0), some (.int (v)), some (.int (k)), some (.int (0)), some (.int (0)), none]) (st1 := [.int (v)]) rfl ?_
  refine Wp.inv (d2 := 0) (as := [.int (v)]) (r := []) rfl rfl rfl rfl rfl rfl (by omega) (s_b164 ?_)
  show Wp d 160 38 [some (.ref 0), some (.int (v)), some (.int (k)), some (.int (0)), some (.int (0)), none] [.int (b32 (inB v 0 3))] h Q
  refine Wp.ifz rfl (fun c3 => absurd (c3.symm.trans (q)) (by decide)) (fun c3 => ?_)
  refine Wp.seg 1 (pc1 := 42) (ls1 := [some (.ref 0), some (.int (v)), some (.int (k)), some (.int (0)), some (.int (0)), none]) (st1 := [.int (0)]) rfl ?_
  refine Wp.if1 rfl (fun c4 => absurd c4 (show ¬ (¬ (0 : Int32) = 0) by decide)) (fun c4 => ?_)
  refine Wp.seg 1 (pc1 := 47) (ls1 := [some (.ref 0), some (.int (v)), some (.int (k)), some (.int (0)), some (.int (0)), none]) (st1 := [.int (0)]) rfl ?_
  refine Wp.if1 rfl (fun c5 => absurd c5 (show ¬ (¬ (0 : Int32) = 0) by decide)) (fun c5 => ?_)
  refine Wp.seg 1 (pc1 := 51) (ls1 := [some (.ref 0), some (.int (v)), some (.int (k)), some (.int (0)), some (.int (0)), none]) (st1 := [.int (-1)]) rfl ?_
  exact Wp.reti rfl rfl hQ
set_option maxHeartbeats 4000000 in
theorem t_mtk1a {d : Nat} {Q : KO → Prop} {h : KH} (hw : WF h) {v k : Int32} (q : inB v 0 3 = true) (m0 : inB k 0 5 = false) (m1 : inB k 10 14 = false) (hd : 3 ≤ d) (hQ : Q (some (.int (-1)), h)) : Cl d 273 [.ref 59, .int (v), .int (k)] h Q := by
  refine Cl.of (ls := [some (.ref 59), some (.int (v)), some (.int (k))]) rfl rfl ?_
  refine Wp.seg 1 (pc1 := 1) (ls1 := [some (.ref 59), some (.int (v)), some (.int (k))]) (st1 := [.int (v)]) rfl ?_
  refine Wp.inv (d2 := 1) (as := [.int (v)]) (r := []) rfl rfl rfl rfl rfl rfl (by omega) (s_b177 (Nat.le_refl _) ?_)
  show Wp d 273 4 [some (.ref 59), some (.int (v)), some (.int (k))] [.int (b32 (inB v 0 3))] h Q
  refine Wp.ifz rfl (fun c1 => absurd (c1.symm.trans (q)) (by decide)) (fun c1 => ?_)
  refine Wp.seg 3 (pc1 := 10) (ls1 := [some (.ref 59), some (.int (v)), some (.int (k))]) (st1 := [.int (5), .int (0), .int (k)]) rfl ?_
  refine Wp.inv (d2 := 0) (as := [.int (k), .int (0), .int (5)]) (r := []) rfl rfl rfl rfl rfl rfl (by omega) (s_inB (x := 0) (y := 5) rfl rfl ?_)
  show Wp d 273 13 [some (.ref 59), some (.int (v)), some (.int (k))] [.int (b32 (inB k 0 5))] h Q
  refine Wp.ifnz rfl (fun c2 => absurd (c2.symm.trans (m0)) (by decide)) (fun c2 => ?_)
  refine Wp.seg 3 (pc1 := 21) (ls1 := [some (.ref 59), some (.int (v)), some (.int (k))]) (st1 := [.int (14), .int (10), .int (k)]) rfl ?_
  refine Wp.inv (d2 := 0) (as := [.int (k), .int (10), .int (14)]) (r := []) rfl rfl rfl rfl rfl rfl (by omega) (s_inB (x := 10) (y := 14) rfl rfl ?_)
  show Wp d 273 24 [some (.ref 59), some (.int (v)), some (.int (k))] [.int (b32 (inB k 10 14))] h Q
  refine Wp.ifnz rfl (fun c3 => absurd (c3.symm.trans (m1)) (by decide)) (fun c3 => ?_)
  refine Wp.seg 1 (pc1 := 28) (ls1 := [some (.ref 59), some (.int (v)), some (.int (k))]) (st1 := [.int (-1)]) rfl ?_
  exact Wp.reti rfl rfl hQ
set_option maxHeartbeats 4000000 in
theorem t_ctk0b {d : Nat} {Q : KO → Prop} {h : KH} (hw : WF h) {v k : Int32} (q : inB v 0 3 = false) (n0 : ¬ (k < 0)) (n1 : (5 : Int32) < k) (n2 : k < 10) (hd : 3 ≤ d) (hQ : Q (some (.int (-1)), h)) : Cl d 160 [.ref 0, .int (v), .int (k)] h Q := by
  refine Cl.of (ls := [some (.ref 0), some (.int (v)), some (.int (k)), none, none, none]) rfl rfl ?_
  refine Wp.seg 1 (pc1 := 1) (ls1 := [some (.ref 0), some (.int (v)), some (.int (k)), none, none, none]) (st1 := [.int (k)]) rfl ?_
  refine Wp.if1 rfl (fun c1 => absurd c1 (n0)) (fun c1 => ?_)
  refine Wp.seg 2 (pc1 := 6) (ls1 := [some (.ref 0), some (.int (v)), some (.int (k)), none, none, none]) (st1 := [.int (5), .int (k)]) rfl ?_
  refine Wp.if2 rfl (fun c2 => ?_) (fun c2 => absurd (n1) c2)
  refine Wp.seg 4 (pc1 := 18) (ls1 := [some (.ref 0), some (.int (v)), some (.int (k)), some (.int (0)), none, none]) (st1 := [.int (10), .int (k)]) rfl ?_
  refine Wp.if2 rfl (fun c3 => ?_) (fun c3 => absurd (n2) c3)
  refine Wp.seg 3 (pc1 := 35) (ls1 := [some (.ref 0), some (.int (v)), some (.int (k)), some (.int (0)), some (.int (0)), none]) (st1 := [.int (v)]) rfl ?_
  refine Wp.inv (d2 := 0) (as := [.int (v)]) (r := []) rfl rfl rfl rfl rfl rfl (by omega) (s_b164 ?_)
  show Wp d 160 38 [some (.ref 0), some (.int (v)), some (.int (k)), some (.int (0)), some (.int (0)), none] [.int (b32 (inB v 0 3))] h Q
  refine Wp.ifz rfl (fun c4 => ?_) (fun c4 => absurd (c4.symm.trans (q)) (by decide))
  refine Wp.seg 1 (pc1 := 51) (ls1 := [some (.ref 0), some (.int (v)), some (.int (k)), some (.int (0)), some (.int (0)), none]) (st1 := [.int (-1)]) rfl ?_
  exact Wp.reti rfl rfl hQ
set_option maxHeartbeats 4000000 in
theorem t_ctk1b {d : Nat} {Q : KO → Prop} {h : KH} (hw : WF h) {v k : Int32} (q : inB v 0 3 = true) (n0 : ¬ (k < 0)) (n1 : (5 : Int32) < k) (n2 : k < 10) (hd : 3 ≤ d) (hQ : Q (some (.int (-1)), h)) : Cl d 160 [.ref 0, .int (v), .int (k)] h Q := by
  refine Cl.of (ls := [some (.ref 0), some (.int (v)), some (.int (k)), none, none, none]) rfl rfl ?_
  refine Wp.seg 1 (pc1 := 1) (ls1 := [some (.ref 0), some (.int (v)), some (.int (k)), none, none, none]) (st1 := [.int (k)]) rfl ?_
  refine Wp.if1 rfl (fun c1 => absurd c1 (n0)) (fun c1 => ?_)
  refine Wp.seg 2 (pc1 := 6) (ls1 := [some (.ref 0), some (.int (v)), some (.int (k)), none, none, none]) (st1 := [.int (5), .int (k)]) rfl ?_
  refine Wp.if2 rfl (fun c2 => ?_) (fun c2 => absurd (n1) c2)
  refine Wp.seg 4 (pc1 := 18) (ls1 := [some (.ref 0), some (.int (v)), some (.int (k)), some (.int (0)), none, none]) (st1 := [.int (10), .int (k)]) rfl ?_
  refine Wp.if2 rfl (fun c3 => ?_) (fun c3 => absurd (n2) c3)
  refine Wp.seg 3 (pc1 := 35) (ls1 := [some (.ref 0), some (.int (v)), some (.int (k)), some (.int (0)), some (.int (0)), none]) (st1 := [.int (v)]) rfl ?_
  refine Wp.inv (d2 := 0) (as := [.int (v)]) (r := []) rfl rfl rfl rfl rfl rfl (by omega) (s_b164 ?_)
  show Wp d 160 38 [some (.ref 0), some (.int (v)), some (.int (k)), some (.int (0)), some (.int (0)), none] [.int (b32 (inB v 0 3))] h Q
  refine Wp.ifz rfl (fun c4 => absurd (c4.symm.trans (q)) (by decide)) (fun c4 => ?_)
  refine Wp.seg 1 (pc1 := 42) (ls1 := [some (.ref 0), some (.int (v)), some (.int (k)), some (.int (0)), some (.int (0)), none]) (st1 := [.int (0)]) rfl ?_
  refine Wp.if1 rfl (fun c5 => absurd c5 (show ¬ (¬ (0 : Int32) = 0) by decide)) (fun c5 => ?_)
  refine Wp.seg 1 (pc1 := 47) (ls1 := [some (.ref 0), some (.int (v)), some (.int (k)), some (.int (0)), some (.int (0)), none]) (st1 := [.int (0)]) rfl ?_
  refine Wp.if1 rfl (fun c6 => absurd c6 (show ¬ (¬ (0 : Int32) = 0) by decide)) (fun c6 => ?_)
  refine Wp.seg 1 (pc1 := 51) (ls1 := [some (.ref 0), some (.int (v)), some (.int (k)), some (.int (0)), some (.int (0)), none]) (st1 := [.int (-1)]) rfl ?_
  exact Wp.reti rfl rfl hQ
set_option maxHeartbeats 4000000 in
theorem t_ctk0c {d : Nat} {Q : KO → Prop} {h : KH} (hw : WF h) {v k : Int32} (q : inB v 0 3 = false) (n0 : ¬ (k < 0)) (n1 : (5 : Int32) < k) (n2 : ¬ (k < 10)) (n3 : (15 : Int32) ≤ k) (hd : 3 ≤ d) (hQ : Q (some (.int (-1)), h)) : Cl d 160 [.ref 0, .int (v), .int (k)] h Q := by
  refine Cl.of (ls := [some (.ref 0), some (.int (v)), some (.int (k)), none, none, none]) rfl rfl ?_
  refine Wp.seg 1 (pc1 := 1) (ls1 := [some (.ref 0), some (.int (v)), some (.int (k)), none, none, none]) (st1 := [.int (k)]) rfl ?_
  refine Wp.if1 rfl (fun c1 => absurd c1 (n0)) (fun c1 => ?_)
  refine Wp.seg 2 (pc1 := 6) (ls1 := [some (.ref 0), some (.int (v)), some (.int (k)), none, none, none]) (st1 := [.int (5), .int (k)]) rfl ?_
  refine Wp.if2 rfl (fun c2 => ?_) (fun c2 => absurd (n1) c2)
  refine Wp.seg 4 (pc1 := 18) (ls1 := [some (.ref 0), some (.int (v)), some (.int (k)), some (.int (0)), none, none]) (st1 := [.int (10), .int (k)]) rfl ?_
  refine Wp.if2 rfl (fun c3 => absurd c3 (n2)) (fun c3 => ?_)
  refine Wp.seg 2 (pc1 := 24) (ls1 := [some (.ref 0), some (.int (v)), some (.int (k)), some (.int (0)), none, none]) (st1 := [.int (15), .int (k)]) rfl ?_
  refine Wp.if2 rfl (fun c4 => ?_) (fun c4 => absurd (n3) c4)
  refine Wp.seg 3 (pc1 := 35) (ls1 := [some (.ref 0), some (.int (v)), some (.int (k)), some (.int (0)), some (.int (0)), none]) (st1 := [.int (v)]) rfl ?_
  refine Wp.inv (d2 := 0) (as := [.int (v)]) (r := []) rfl rfl rfl rfl rfl rfl (by omega) (s_b164 ?_)
  show Wp d 160 38 [some (.ref 0), some (.int (v)), some (.int (k)), some (.int (0)), some (.int (0)), none] [.int (b32 (inB v 0 3))] h Q
  refine Wp.ifz rfl (fun c5 => ?_) (fun c5 => absurd (c5.symm.trans (q)) (by decide))
  refine Wp.seg 1 (pc1 := 51) (ls1 := [some (.ref 0), some (.int (v)), some (.int (k)), some (.int (0)), some (.int (0)), none]) (st1 := [.int (-1)]) rfl ?_
  exact Wp.reti rfl rfl hQ
set_option maxHeartbeats 4000000 in
theorem t_ctk1c {d : Nat} {Q : KO → Prop} {h : KH} (hw : WF h) {v k : Int32} (q : inB v 0 3 = true) (n0 : ¬ (k < 0)) (n1 : (5 : Int32) < k) (n2 : ¬ (k < 10)) (n3 : (15 : Int32) ≤ k) (hd : 3 ≤ d) (hQ : Q (some (.int (-1)), h)) : Cl d 160 [.ref 0, .int (v), .int (k)] h Q := by
  refine Cl.of (ls := [some (.ref 0), some (.int (v)), some (.int (k)), none, none, none]) rfl rfl ?_
  refine Wp.seg 1 (pc1 := 1) (ls1 := [some (.ref 0), some (.int (v)), some (.int (k)), none, none, none]) (st1 := [.int (k)]) rfl ?_
  refine Wp.if1 rfl (fun c1 => absurd c1 (n0)) (fun c1 => ?_)
  refine Wp.seg 2 (pc1 := 6) (ls1 := [some (.ref 0), some (.int (v)), some (.int (k)), none, none, none]) (st1 := [.int (5), .int (k)]) rfl ?_
  refine Wp.if2 rfl (fun c2 => ?_) (fun c2 => absurd (n1) c2)
  refine Wp.seg 4 (pc1 := 18) (ls1 := [some (.ref 0), some (.int (v)), some (.int (k)), some (.int (0)), none, none]) (st1 := [.int (10), .int (k)]) rfl ?_
  refine Wp.if2 rfl (fun c3 => absurd c3 (n2)) (fun c3 => ?_)
  refine Wp.seg 2 (pc1 := 24) (ls1 := [some (.ref 0), some (.int (v)), some (.int (k)), some (.int (0)), none, none]) (st1 := [.int (15), .int (k)]) rfl ?_
  refine Wp.if2 rfl (fun c4 => ?_) (fun c4 => absurd (n3) c4)
  refine Wp.seg 3 (pc1 := 35) (ls1 := [some (.ref 0), some (.int (v)), some (.int (k)), some (.int (0)), some (.int (0)), none]) (st1 := [.int (v)]) rfl ?_
  refine Wp.inv (d2 := 0) (as := [.int (v)]) (r := []) rfl rfl rfl rfl rfl rfl (by omega) (s_b164 ?_)
  show Wp d 160 38 [some (.ref 0), some (.int (v)), some (.int (k)), some (.int (0)), some (.int (0)), none] [.int (b32 (inB v 0 3))] h Q
  refine Wp.ifz rfl (fun c5 => absurd (c5.symm.trans (q)) (by decide)) (fun c5 => ?_)
  refine Wp.seg 1 (pc1 := 42) (ls1 := [some (.ref 0), some (.int (v)), some (.int (k)), some (.int (0)), some (.int (0)), none]) (st1 := [.int (0)]) rfl ?_
  refine Wp.if1 rfl (fun c6 => absurd c6 (show ¬ (¬ (0 : Int32) = 0) by decide)) (fun c6 => ?_)
  refine Wp.seg 1 (pc1 := 47) (ls1 := [some (.ref 0), some (.int (v)), some (.int (k)), some (.int (0)), some (.int (0)), none]) (st1 := [.int (0)]) rfl ?_
  refine Wp.if1 rfl (fun c7 => absurd c7 (show ¬ (¬ (0 : Int32) = 0) by decide)) (fun c7 => ?_)
  refine Wp.seg 1 (pc1 := 51) (ls1 := [some (.ref 0), some (.int (v)), some (.int (k)), some (.int (0)), some (.int (0)), none]) (st1 := [.int (-1)]) rfl ?_
  exact Wp.reti rfl rfl hQ
set_option maxHeartbeats 4000000 in
theorem t_hdo1 {d : Nat} {Q : KO → Prop} {h : KH} (hw : WF h) {s : Nat} (hs : s < 4) (h45 : h.2.2.1 45 s = 1) (hd : 1 ≤ d) (hQ : Q (some (.int (-1)), h)) : Cl d 165 [.ref 0, .int (Int32.ofNat s)] h Q := by
  refine Cl.of (ls := [some (.ref 0), some (.int (Int32.ofNat s)), none]) rfl rfl ?_
  refine Wp.seg 1 (pc1 := 1) (ls1 := [some (.ref 0), some (.int (Int32.ofNat s)), none]) (st1 := [.ref 0]) rfl ?_
  refine Wp.gr (t := (10, 0)) (v := some (45)) rfl (WF.t hw 0 rfl) rfl (WF.r hw 0 11 9 rfl) ?_
  show Wp d 165 4 [some (.ref 0), some (.int (Int32.ofNat s)), none] [.ref 45] h Q
  refine Wp.seg 1 (pc1 := 5) (ls1 := [some (.ref 0), some (.int (Int32.ofNat s)), none]) (st1 := [.int (Int32.ofNat s), .ref 45]) rfl ?_
  refine Wp.iald (j := s) (k := 20) (n := 4) rfl (WF.t hw 45 rfl) rfl rfl hs (by decide) ?_
  rw [show h.2.2.1 45 s = 1 from h45]
  refine Wp.if1 rfl (fun c1 => ?_) (fun c1 => absurd (show ¬ (1 : Int32) = 0 by decide) c1)
  refine Wp.seg 3 (pc1 := 29) (ls1 := [some (.ref 0), some (.int (Int32.ofNat s)), some (.int (0))]) (st1 := [.int (0)]) rfl ?_
  refine Wp.if1 rfl (fun c2 => ?_) (fun c2 => absurd (show (0 : Int32) = 0 by decide) c2)
  refine Wp.seg 1 (pc1 := 42) (ls1 := [some (.ref 0), some (.int (Int32.ofNat s)), some (.int (0))]) (st1 := [.int (-1)]) rfl ?_
  exact Wp.reti rfl rfl hQ
set_option maxHeartbeats 4000000 in
theorem t_hsh1 {d : Nat} {Q : KO → Prop} {h : KH} (hw : WF h) {s : Nat} (hs : s < 4) (h71 : h.2.2.1 71 s = 1) (hd : 2 ≤ d) (hQ : Q (some (.int (0)), h)) : Cl d 272 [.ref 59, .int (Int32.ofNat s)] h Q := by
  refine Cl.of (ls := [some (.ref 59), some (.int (Int32.ofNat s))]) rfl rfl ?_
  refine Wp.seg 1 (pc1 := 1) (ls1 := [some (.ref 59), some (.int (Int32.ofNat s))]) (st1 := [.ref 59]) rfl ?_
  refine Wp.gr (t := (11, 0)) (v := some (71)) rfl (WF.t hw 59 rfl) rfl (WF.r hw 59 25 69 rfl) ?_
  show Wp d 272 4 [some (.ref 59), some (.int (Int32.ofNat s))] [.ref 71] h Q
  refine Wp.seg 1 (pc1 := 5) (ls1 := [some (.ref 59), some (.int (Int32.ofNat s))]) (st1 := [.int (Int32.ofNat s), .ref 71]) rfl ?_
  refine Wp.iald (j := s) (k := 20) (n := 4) rfl (WF.t hw 71 rfl) rfl rfl hs (by decide) ?_
  rw [show h.2.2.1 71 s = 1 from h71]
  refine Wp.if1 rfl (fun c1 => ?_) (fun c1 => absurd (show ¬ (1 : Int32) = 0 by decide) c1)
  refine Wp.seg 1 (pc1 := 27) (ls1 := [some (.ref 59), some (.int (Int32.ofNat s))]) (st1 := [.int (0)]) rfl ?_
  exact Wp.reti rfl rfl hQ
set_option maxHeartbeats 4000000 in
theorem t_hdo2 {d : Nat} {Q : KO → Prop} {h : KH} (hw : WF h) {s : Nat} (hs : s < 4) (h45 : h.2.2.1 45 s = 2) (hd : 1 ≤ d) (hQ : Q (some (.int (-1)), h)) : Cl d 165 [.ref 0, .int (Int32.ofNat s)] h Q := by
  refine Cl.of (ls := [some (.ref 0), some (.int (Int32.ofNat s)), none]) rfl rfl ?_
  refine Wp.seg 1 (pc1 := 1) (ls1 := [some (.ref 0), some (.int (Int32.ofNat s)), none]) (st1 := [.ref 0]) rfl ?_
  refine Wp.gr (t := (10, 0)) (v := some (45)) rfl (WF.t hw 0 rfl) rfl (WF.r hw 0 11 9 rfl) ?_
  show Wp d 165 4 [some (.ref 0), some (.int (Int32.ofNat s)), none] [.ref 45] h Q
  refine Wp.seg 1 (pc1 := 5) (ls1 := [some (.ref 0), some (.int (Int32.ofNat s)), none]) (st1 := [.int (Int32.ofNat s), .ref 45]) rfl ?_
  refine Wp.iald (j := s) (k := 20) (n := 4) rfl (WF.t hw 45 rfl) rfl rfl hs (by decide) ?_
  rw [show h.2.2.1 45 s = 2 from h45]
  refine Wp.if1 rfl (fun c1 => ?_) (fun c1 => absurd (show ¬ (2 : Int32) = 0 by decide) c1)
  refine Wp.seg 3 (pc1 := 29) (ls1 := [some (.ref 0), some (.int (Int32.ofNat s)), some (.int (0))]) (st1 := [.int (0)]) rfl ?_
  refine Wp.if1 rfl (fun c2 => ?_) (fun c2 => absurd (show (0 : Int32) = 0 by decide) c2)
  refine Wp.seg 1 (pc1 := 42) (ls1 := [some (.ref 0), some (.int (Int32.ofNat s)), some (.int (0))]) (st1 := [.int (-1)]) rfl ?_
  exact Wp.reti rfl rfl hQ
set_option maxHeartbeats 4000000 in
theorem t_hsh2 {d : Nat} {Q : KO → Prop} {h : KH} (hw : WF h) {s : Nat} (hs : s < 4) (h71 : h.2.2.1 71 s = 2) (hd : 2 ≤ d) (hQ : Q (some (.int (0)), h)) : Cl d 272 [.ref 59, .int (Int32.ofNat s)] h Q := by
  refine Cl.of (ls := [some (.ref 59), some (.int (Int32.ofNat s))]) rfl rfl ?_
  refine Wp.seg 1 (pc1 := 1) (ls1 := [some (.ref 59), some (.int (Int32.ofNat s))]) (st1 := [.ref 59]) rfl ?_
  refine Wp.gr (t := (11, 0)) (v := some (71)) rfl (WF.t hw 59 rfl) rfl (WF.r hw 59 25 69 rfl) ?_
  show Wp d 272 4 [some (.ref 59), some (.int (Int32.ofNat s))] [.ref 71] h Q
  refine Wp.seg 1 (pc1 := 5) (ls1 := [some (.ref 59), some (.int (Int32.ofNat s))]) (st1 := [.int (Int32.ofNat s), .ref 71]) rfl ?_
  refine Wp.iald (j := s) (k := 20) (n := 4) rfl (WF.t hw 71 rfl) rfl rfl hs (by decide) ?_
  rw [show h.2.2.1 71 s = 2 from h71]
  refine Wp.if1 rfl (fun c1 => ?_) (fun c1 => absurd (show ¬ (2 : Int32) = 0 by decide) c1)
  refine Wp.seg 1 (pc1 := 27) (ls1 := [some (.ref 59), some (.int (Int32.ofNat s))]) (st1 := [.int (0)]) rfl ?_
  exact Wp.reti rfl rfl hQ
set_option maxHeartbeats 4000000 in
theorem t_hdo0 {d : Nat} {Q : KO → Prop} {h : KH} (hw : WF h) {s : Nat} (hs : s < 4) {A : Nat → Int32} {RL : List Rul} {n c dn en : Nat} (hk : cityOK h 1 A RL n c dn en) (h45 : h.2.2.1 45 s = 0) {sb : Int32} (h46 : h.2.2.1 46 s = sb) (qx : inB sb 0 ((n : Int) - 1) = false) (hd : 1 ≤ d) (hQ : Q (some (.int (-1)), h)) : Cl d 165 [.ref 0, .int (Int32.ofNat s)] h Q := by
  refine Cl.of (ls := [some (.ref 0), some (.int (Int32.ofNat s)), none]) rfl rfl ?_
  refine Wp.seg 1 (pc1 := 1) (ls1 := [some (.ref 0), some (.int (Int32.ofNat s)), none]) (st1 := [.ref 0]) rfl ?_
  refine Wp.gr (t := (10, 0)) (v := some (45)) rfl (WF.t hw 0 rfl) rfl (WF.r hw 0 11 9 rfl) ?_
  show Wp d 165 4 [some (.ref 0), some (.int (Int32.ofNat s)), none] [.ref 45] h Q
  refine Wp.seg 1 (pc1 := 5) (ls1 := [some (.ref 0), some (.int (Int32.ofNat s)), none]) (st1 := [.int (Int32.ofNat s), .ref 45]) rfl ?_
  refine Wp.iald (j := s) (k := 20) (n := 4) rfl (WF.t hw 45 rfl) rfl rfl hs (by decide) ?_
  rw [show h.2.2.1 45 s = 0 from h45]
  refine Wp.if1 rfl (fun c1 => absurd c1 (show ¬ (¬ (0 : Int32) = 0) by decide)) (fun c1 => ?_)
  refine Wp.seg 2 (pc1 := 11) (ls1 := [some (.ref 0), some (.int (Int32.ofNat s)), none]) (st1 := [.ref 0, .ref 0]) rfl ?_
  refine Wp.gr (t := (10, 0)) (v := some (46)) rfl (WF.t hw 0 rfl) rfl (WF.r hw 0 12 10 rfl) ?_
  show Wp d 165 14 [some (.ref 0), some (.int (Int32.ofNat s)), none] [.ref 46, .ref 0] h Q
  refine Wp.seg 1 (pc1 := 15) (ls1 := [some (.ref 0), some (.int (Int32.ofNat s)), none]) (st1 := [.int (Int32.ofNat s), .ref 46, .ref 0]) rfl ?_
  refine Wp.iald (j := s) (k := 20) (n := 4) rfl (WF.t hw 46 rfl) rfl rfl hs (by decide) ?_
  rw [show h.2.2.1 46 s = sb from h46]
  refine Wp.invV (d2 := 0) (as := [.ref 0, .int (sb)]) (r := []) (t := (10, 0)) rfl rfl rfl rfl (WF.t hw 0 rfl) rfl rfl ⟨rfl, rfl⟩ (by omega) (s_hand hw hk ?_)
  show Wp d 165 19 [some (.ref 0), some (.int (Int32.ofNat s)), none] [.int (b32 (inB sb 0 ((n : Int) - 1)))] h Q
  refine Wp.ifz rfl (fun c2 => ?_) (fun c2 => absurd (c2.symm.trans (qx)) (by decide))
  refine Wp.seg 3 (pc1 := 29) (ls1 := [some (.ref 0), some (.int (Int32.ofNat s)), some (.int (0))]) (st1 := [.int (0)]) rfl ?_
  refine Wp.if1 rfl (fun c3 => ?_) (fun c3 => absurd (show (0 : Int32) = 0 by decide) c3)
  refine Wp.seg 1 (pc1 := 42) (ls1 := [some (.ref 0), some (.int (Int32.ofNat s)), some (.int (0))]) (st1 := [.int (-1)]) rfl ?_
  exact Wp.reti rfl rfl hQ
set_option maxHeartbeats 4000000 in
theorem t_hsh0 {d : Nat} {Q : KO → Prop} {h : KH} (hw : WF h) {s : Nat} (hs : s < 4) {A : Nat → Int32} {RL : List Rul} {n c dn en : Nat} (hk : refOK h A RL n c dn en) (h71 : h.2.2.1 71 s = 0) {sb : Int32} (h72 : h.2.2.1 72 s = sb) (qx : inB sb 0 ((n : Int) - 1) = false) (hd : 2 ≤ d) (hQ : Q (some (.int (0)), h)) : Cl d 272 [.ref 59, .int (Int32.ofNat s)] h Q := by
  refine Cl.of (ls := [some (.ref 59), some (.int (Int32.ofNat s))]) rfl rfl ?_
  refine Wp.seg 1 (pc1 := 1) (ls1 := [some (.ref 59), some (.int (Int32.ofNat s))]) (st1 := [.ref 59]) rfl ?_
  refine Wp.gr (t := (11, 0)) (v := some (71)) rfl (WF.t hw 59 rfl) rfl (WF.r hw 59 25 69 rfl) ?_
  show Wp d 272 4 [some (.ref 59), some (.int (Int32.ofNat s))] [.ref 71] h Q
  refine Wp.seg 1 (pc1 := 5) (ls1 := [some (.ref 59), some (.int (Int32.ofNat s))]) (st1 := [.int (Int32.ofNat s), .ref 71]) rfl ?_
  refine Wp.iald (j := s) (k := 20) (n := 4) rfl (WF.t hw 71 rfl) rfl rfl hs (by decide) ?_
  rw [show h.2.2.1 71 s = 0 from h71]
  refine Wp.if1 rfl (fun c1 => absurd c1 (show ¬ (¬ (0 : Int32) = 0) by decide)) (fun c1 => ?_)
  refine Wp.seg 2 (pc1 := 11) (ls1 := [some (.ref 59), some (.int (Int32.ofNat s))]) (st1 := [.ref 59, .ref 59]) rfl ?_
  refine Wp.gr (t := (11, 0)) (v := some (72)) rfl (WF.t hw 59 rfl) rfl (WF.r hw 59 26 70 rfl) ?_
  show Wp d 272 14 [some (.ref 59), some (.int (Int32.ofNat s))] [.ref 72, .ref 59] h Q
  refine Wp.seg 1 (pc1 := 15) (ls1 := [some (.ref 59), some (.int (Int32.ofNat s))]) (st1 := [.int (Int32.ofNat s), .ref 72, .ref 59]) rfl ?_
  refine Wp.iald (j := s) (k := 20) (n := 4) rfl (WF.t hw 72 rfl) rfl rfl hs (by decide) ?_
  rw [show h.2.2.1 72 s = sb from h72]
  refine Wp.invV (d2 := 1) (as := [.ref 59, .int (sb)]) (r := []) (t := (11, 0)) rfl rfl rfl rfl (WF.t hw 59 rfl) rfl rfl ⟨rfl, rfl⟩ (by omega) (m_hand hw hk (Nat.le_refl _) ?_)
  show Wp d 272 19 [some (.ref 59), some (.int (Int32.ofNat s))] [.int (b32 (inB sb 0 ((n : Int) - 1)))] h Q
  refine Wp.ifz rfl (fun c2 => ?_) (fun c2 => absurd (c2.symm.trans (qx)) (by decide))
  refine Wp.seg 1 (pc1 := 27) (ls1 := [some (.ref 59), some (.int (Int32.ofNat s))]) (st1 := [.int (0)]) rfl ?_
  exact Wp.reti rfl rfl hQ
set_option maxHeartbeats 4000000 in
theorem t_hdoy {d : Nat} {Q : KO → Prop} {h : KH} (hw : WF h) {s : Nat} (hs : s < 4) {A : Nat → Int32} {RL : List Rul} {n c dn en : Nat} (hk : cityOK h 1 A RL n c dn en) (h45 : h.2.2.1 45 s = 0) {i : Nat} (h46 : h.2.2.1 46 s = Int32.ofNat i) (qx : inB (Int32.ofNat i) 0 ((n : Int) - 1) = true) (hd : 1 ≤ d) (hQ : Q (some (.int (Int32.ofNat i)), h)) : Cl d 165 [.ref 0, .int (Int32.ofNat s)] h Q := by
  refine Cl.of (ls := [some (.ref 0), some (.int (Int32.ofNat s)), none]) rfl rfl ?_
  refine Wp.seg 1 (pc1 := 1) (ls1 := [some (.ref 0), some (.int (Int32.ofNat s)), none]) (st1 := [.ref 0]) rfl ?_
  refine Wp.gr (t := (10, 0)) (v := some (45)) rfl (WF.t hw 0 rfl) rfl (WF.r hw 0 11 9 rfl) ?_
  show Wp d 165 4 [some (.ref 0), some (.int (Int32.ofNat s)), none] [.ref 45] h Q
  refine Wp.seg 1 (pc1 := 5) (ls1 := [some (.ref 0), some (.int (Int32.ofNat s)), none]) (st1 := [.int (Int32.ofNat s), .ref 45]) rfl ?_
  refine Wp.iald (j := s) (k := 20) (n := 4) rfl (WF.t hw 45 rfl) rfl rfl hs (by decide) ?_
  rw [show h.2.2.1 45 s = 0 from h45]
  refine Wp.if1 rfl (fun c1 => absurd c1 (show ¬ (¬ (0 : Int32) = 0) by decide)) (fun c1 => ?_)
  refine Wp.seg 2 (pc1 := 11) (ls1 := [some (.ref 0), some (.int (Int32.ofNat s)), none]) (st1 := [.ref 0, .ref 0]) rfl ?_
  refine Wp.gr (t := (10, 0)) (v := some (46)) rfl (WF.t hw 0 rfl) rfl (WF.r hw 0 12 10 rfl) ?_
  show Wp d 165 14 [some (.ref 0), some (.int (Int32.ofNat s)), none] [.ref 46, .ref 0] h Q
  refine Wp.seg 1 (pc1 := 15) (ls1 := [some (.ref 0), some (.int (Int32.ofNat s)), none]) (st1 := [.int (Int32.ofNat s), .ref 46, .ref 0]) rfl ?_
  refine Wp.iald (j := s) (k := 20) (n := 4) rfl (WF.t hw 46 rfl) rfl rfl hs (by decide) ?_
  rw [show h.2.2.1 46 s = Int32.ofNat i from h46]
  refine Wp.invV (d2 := 0) (as := [.ref 0, .int (Int32.ofNat i)]) (r := []) (t := (10, 0)) rfl rfl rfl rfl (WF.t hw 0 rfl) rfl rfl ⟨rfl, rfl⟩ (by omega) (s_hand hw hk ?_)
  show Wp d 165 19 [some (.ref 0), some (.int (Int32.ofNat s)), none] [.int (b32 (inB (Int32.ofNat i) 0 ((n : Int) - 1)))] h Q
  refine Wp.ifz rfl (fun c2 => absurd (c2.symm.trans (qx)) (by decide)) (fun c2 => ?_)
  refine Wp.seg 4 (pc1 := 29) (ls1 := [some (.ref 0), some (.int (Int32.ofNat s)), some (.int (1))]) (st1 := [.int (1)]) rfl ?_
  refine Wp.if1 rfl (fun c3 => absurd c3 (show ¬ ((1 : Int32) = 0) by decide)) (fun c3 => ?_)
  refine Wp.seg 1 (pc1 := 33) (ls1 := [some (.ref 0), some (.int (Int32.ofNat s)), some (.int (1))]) (st1 := [.ref 0]) rfl ?_
  refine Wp.gr (t := (10, 0)) (v := some (46)) rfl (WF.t hw 0 rfl) rfl (WF.r hw 0 12 10 rfl) ?_
  show Wp d 165 36 [some (.ref 0), some (.int (Int32.ofNat s)), some (.int (1))] [.ref 46] h Q
  refine Wp.seg 1 (pc1 := 37) (ls1 := [some (.ref 0), some (.int (Int32.ofNat s)), some (.int (1))]) (st1 := [.int (Int32.ofNat s), .ref 46]) rfl ?_
  refine Wp.iald (j := s) (k := 20) (n := 4) rfl (WF.t hw 46 rfl) rfl rfl hs (by decide) ?_
  rw [show h.2.2.1 46 s = Int32.ofNat i from h46]
  refine Wp.seg 1 (pc1 := 42) (ls1 := [some (.ref 0), some (.int (Int32.ofNat s)), some (.int (1))]) (st1 := [.int (Int32.ofNat i)]) rfl ?_
  exact Wp.reti rfl rfl hQ
set_option maxHeartbeats 4000000 in
theorem t_hshy {d : Nat} {Q : KO → Prop} {h : KH} (hw : WF h) {s : Nat} (hs : s < 4) {A : Nat → Int32} {RL : List Rul} {n c dn en : Nat} (hk : refOK h A RL n c dn en) (h71 : h.2.2.1 71 s = 0) {i : Nat} (h72 : h.2.2.1 72 s = Int32.ofNat i) (qx : inB (Int32.ofNat i) 0 ((n : Int) - 1) = true) (hd : 2 ≤ d) (hQ : Q (some (.int (1)), h)) : Cl d 272 [.ref 59, .int (Int32.ofNat s)] h Q := by
  refine Cl.of (ls := [some (.ref 59), some (.int (Int32.ofNat s))]) rfl rfl ?_
  refine Wp.seg 1 (pc1 := 1) (ls1 := [some (.ref 59), some (.int (Int32.ofNat s))]) (st1 := [.ref 59]) rfl ?_
  refine Wp.gr (t := (11, 0)) (v := some (71)) rfl (WF.t hw 59 rfl) rfl (WF.r hw 59 25 69 rfl) ?_
  show Wp d 272 4 [some (.ref 59), some (.int (Int32.ofNat s))] [.ref 71] h Q
  refine Wp.seg 1 (pc1 := 5) (ls1 := [some (.ref 59), some (.int (Int32.ofNat s))]) (st1 := [.int (Int32.ofNat s), .ref 71]) rfl ?_
  refine Wp.iald (j := s) (k := 20) (n := 4) rfl (WF.t hw 71 rfl) rfl rfl hs (by decide) ?_
  rw [show h.2.2.1 71 s = 0 from h71]
  refine Wp.if1 rfl (fun c1 => absurd c1 (show ¬ (¬ (0 : Int32) = 0) by decide)) (fun c1 => ?_)
  refine Wp.seg 2 (pc1 := 11) (ls1 := [some (.ref 59), some (.int (Int32.ofNat s))]) (st1 := [.ref 59, .ref 59]) rfl ?_
  refine Wp.gr (t := (11, 0)) (v := some (72)) rfl (WF.t hw 59 rfl) rfl (WF.r hw 59 26 70 rfl) ?_
  show Wp d 272 14 [some (.ref 59), some (.int (Int32.ofNat s))] [.ref 72, .ref 59] h Q
  refine Wp.seg 1 (pc1 := 15) (ls1 := [some (.ref 59), some (.int (Int32.ofNat s))]) (st1 := [.int (Int32.ofNat s), .ref 72, .ref 59]) rfl ?_
  refine Wp.iald (j := s) (k := 20) (n := 4) rfl (WF.t hw 72 rfl) rfl rfl hs (by decide) ?_
  rw [show h.2.2.1 72 s = Int32.ofNat i from h72]
  refine Wp.invV (d2 := 1) (as := [.ref 59, .int (Int32.ofNat i)]) (r := []) (t := (11, 0)) rfl rfl rfl rfl (WF.t hw 59 rfl) rfl rfl ⟨rfl, rfl⟩ (by omega) (m_hand hw hk (Nat.le_refl _) ?_)
  show Wp d 272 19 [some (.ref 59), some (.int (Int32.ofNat s))] [.int (b32 (inB (Int32.ofNat i) 0 ((n : Int) - 1)))] h Q
  refine Wp.ifz rfl (fun c2 => absurd (c2.symm.trans (qx)) (by decide)) (fun c2 => ?_)
  refine Wp.seg 2 (pc1 := 27) (ls1 := [some (.ref 59), some (.int (Int32.ofNat s))]) (st1 := [.int (1)]) rfl ?_
  exact Wp.reti rfl rfl hQ
set_option maxHeartbeats 4000000 in
theorem t_ctk2k {d : Nat} {Q : KO → Prop} {h : KH} (hw : WF h) {s : Nat} (hs : s < 4) (qs : inB (Int32.ofNat s) 0 3 = true) {k : Int32} (h45 : h.2.2.1 45 s = 1) {sb : Int32} (h46 : h.2.2.1 46 s = sb) {sc : Int32} (h47 : h.2.2.1 47 s = sc) (n0 : ¬ (k < 0)) (n1 : ¬ ((5 : Int32) < k)) (n2 : k < 10) (hd : 3 ≤ d) (hQ : Q (some (.int (-13)), h)) : Cl d 160 [.ref 0, .int (Int32.ofNat s), .int (k)] h Q := by
  refine Cl.of (ls := [some (.ref 0), some (.int (Int32.ofNat s)), some (.int (k)), none, none, none]) rfl rfl ?_
  refine Wp.seg 1 (pc1 := 1) (ls1 := [some (.ref 0), some (.int (Int32.ofNat s)), some (.int (k)), none, none, none]) (st1 := [.int (k)]) rfl ?_
  refine Wp.if1 rfl (fun c1 => absurd c1 (n0)) (fun c1 => ?_)
  refine Wp.seg 2 (pc1 := 6) (ls1 := [some (.ref 0), some (.int (Int32.ofNat s)), some (.int (k)), none, none, none]) (st1 := [.int (5), .int (k)]) rfl ?_
  refine Wp.if2 rfl (fun c2 => absurd c2 (n1)) (fun c2 => ?_)
  refine Wp.seg 5 (pc1 := 18) (ls1 := [some (.ref 0), some (.int (Int32.ofNat s)), some (.int (k)), some (.int (1)), none, none]) (st1 := [.int (10), .int (k)]) rfl ?_
  refine Wp.if2 rfl (fun c3 => ?_) (fun c3 => absurd (n2) c3)
  refine Wp.seg 3 (pc1 := 35) (ls1 := [some (.ref 0), some (.int (Int32.ofNat s)), some (.int (k)), some (.int (1)), some (.int (0)), none]) (st1 := [.int (Int32.ofNat s)]) rfl ?_
  refine Wp.inv (d2 := 0) (as := [.int (Int32.ofNat s)]) (r := []) rfl rfl rfl rfl rfl rfl (by omega) (s_b164 ?_)
  show Wp d 160 38 [some (.ref 0), some (.int (Int32.ofNat s)), some (.int (k)), some (.int (1)), some (.int (0)), none] [.int (b32 (inB (Int32.ofNat s) 0 3))] h Q
  refine Wp.ifz rfl (fun c4 => absurd (c4.symm.trans (qs)) (by decide)) (fun c4 => ?_)
  refine Wp.seg 1 (pc1 := 42) (ls1 := [some (.ref 0), some (.int (Int32.ofNat s)), some (.int (k)), some (.int (1)), some (.int (0)), none]) (st1 := [.int (1)]) rfl ?_
  refine Wp.if1 rfl (fun c5 => ?_) (fun c5 => absurd (show ¬ (1 : Int32) = 0 by decide) c5)
  refine Wp.seg 1 (pc1 := 53) (ls1 := [some (.ref 0), some (.int (Int32.ofNat s)), some (.int (k)), some (.int (1)), some (.int (0)), none]) (st1 := [.ref 0]) rfl ?_
  refine Wp.gr (t := (10, 0)) (v := some (45)) rfl (WF.t hw 0 rfl) rfl (WF.r hw 0 11 9 rfl) ?_
  show Wp d 160 56 [some (.ref 0), some (.int (Int32.ofNat s)), some (.int (k)), some (.int (1)), some (.int (0)), none] [.ref 45] h Q
  refine Wp.seg 1 (pc1 := 57) (ls1 := [some (.ref 0), some (.int (Int32.ofNat s)), some (.int (k)), some (.int (1)), some (.int (0)), none]) (st1 := [.int (Int32.ofNat s), .ref 45]) rfl ?_
  refine Wp.iald (j := s) (k := 20) (n := 4) rfl (WF.t hw 45 rfl) rfl rfl hs (by decide) ?_
  rw [show h.2.2.1 45 s = 1 from h45]
  refine Wp.seg 1 (pc1 := 59) (ls1 := [some (.ref 0), some (.int (Int32.ofNat s)), some (.int (k)), some (.int (1)), some (.int (0)), none]) (st1 := [.int (1), .int (1)]) rfl ?_
  refine Wp.if2 rfl (fun c6 => absurd c6 (show ¬ (¬ (1 : Int32) = (1 : Int32)) by decide)) (fun c6 => ?_)
  refine Wp.seg 1 (pc1 := 64) (ls1 := [some (.ref 0), some (.int (Int32.ofNat s)), some (.int (k)), some (.int (1)), some (.int (0)), none]) (st1 := [.int (0)]) rfl ?_
  refine Wp.if1 rfl (fun c7 => ?_) (fun c7 => absurd (show (0 : Int32) = 0 by decide) c7)
  refine Wp.seg 1 (pc1 := 91) (ls1 := [some (.ref 0), some (.int (Int32.ofNat s)), some (.int (k)), some (.int (1)), some (.int (0)), none]) (st1 := [.int (-13)]) rfl ?_
  exact Wp.reti rfl rfl hQ
set_option maxHeartbeats 4000000 in
theorem t_mtk2k {d : Nat} {Q : KO → Prop} {h : KH} (hw : WF h) {s : Nat} (hs : s < 4) (qs : inB (Int32.ofNat s) 0 3 = true) {k : Int32} (h71 : h.2.2.1 71 s = 1) {sb : Int32} (h72 : h.2.2.1 72 s = sb) {sc : Int32} (h73 : h.2.2.1 73 s = sc) (m0 : inB k 0 5 = true) (m1 : k < 6) (m2 : ¬ ((6 : Int32) ≤ k)) (hd : 3 ≤ d) (hQ : (¬ k = ((10 : Int32) + sb) → Q (some (.int (-13)), h)) ∧ (¬ (¬ k = ((10 : Int32) + sb)) → Q (some (.int (sc)), h))) : Cl d 273 [.ref 59, .int (Int32.ofNat s), .int (k)] h Q := by
  refine Cl.of (ls := [some (.ref 59), some (.int (Int32.ofNat s)), some (.int (k))]) rfl rfl ?_
  refine Wp.seg 1 (pc1 := 1) (ls1 := [some (.ref 59), some (.int (Int32.ofNat s)), some (.int (k))]) (st1 := [.int (Int32.ofNat s)]) rfl ?_
  refine Wp.inv (d2 := 1) (as := [.int (Int32.ofNat s)]) (r := []) rfl rfl rfl rfl rfl rfl (by omega) (s_b177 (Nat.le_refl _) ?_)
  show Wp d 273 4 [some (.ref 59), some (.int (Int32.ofNat s)), some (.int (k))] [.int (b32 (inB (Int32.ofNat s) 0 3))] h Q
  refine Wp.ifz rfl (fun c1 => absurd (c1.symm.trans (qs)) (by decide)) (fun c1 => ?_)
  refine Wp.seg 3 (pc1 := 10) (ls1 := [some (.ref 59), some (.int (Int32.ofNat s)), some (.int (k))]) (st1 := [.int (5), .int (0), .int (k)]) rfl ?_
  refine Wp.inv (d2 := 0) (as := [.int (k), .int (0), .int (5)]) (r := []) rfl rfl rfl rfl rfl rfl (by omega) (s_inB (x := 0) (y := 5) rfl rfl ?_)
  show Wp d 273 13 [some (.ref 59), some (.int (Int32.ofNat s)), some (.int (k))] [.int (b32 (inB k 0 5))] h Q
  refine Wp.ifnz rfl (fun c2 => ?_) (fun c2 => absurd (c2.symm.trans (m0)) (by decide))
  refine Wp.seg 2 (pc1 := 31) (ls1 := [some (.ref 59), some (.int (Int32.ofNat s)), some (.int (k))]) (st1 := [.int (Int32.ofNat s), .ref 59]) rfl ?_
  refine Wp.invV (d2 := 2) (as := [.ref 59, .int (Int32.ofNat s)]) (r := []) (t := (11, 0)) rfl rfl rfl rfl (WF.t hw 59 rfl) rfl rfl ⟨rfl, rfl⟩ (by omega) (t_hsh1 hw hs h71 (Nat.le_refl _) ?_)
  show Wp d 273 34 [some (.ref 59), some (.int (Int32.ofNat s)), some (.int (k))] [.int (0)] h Q
  refine Wp.if1 rfl (fun c3 => ?_) (fun c3 => absurd (show (0 : Int32) = 0 by decide) c3)
  refine Wp.seg 1 (pc1 := 74) (ls1 := [some (.ref 59), some (.int (Int32.ofNat s)), some (.int (k))]) (st1 := [.ref 59]) rfl ?_
  refine Wp.gr (t := (11, 0)) (v := some (71)) rfl (WF.t hw 59 rfl) rfl (WF.r hw 59 25 69 rfl) ?_
  show Wp d 273 77 [some (.ref 59), some (.int (Int32.ofNat s)), some (.int (k))] [.ref 71] h Q
  refine Wp.seg 1 (pc1 := 78) (ls1 := [some (.ref 59), some (.int (Int32.ofNat s)), some (.int (k))]) (st1 := [.int (Int32.ofNat s), .ref 71]) rfl ?_
  refine Wp.iald (j := s) (k := 20) (n := 4) rfl (WF.t hw 71 rfl) rfl rfl hs (by decide) ?_
  rw [show h.2.2.1 71 s = 1 from h71]
  refine Wp.seg 1 (pc1 := 80) (ls1 := [some (.ref 59), some (.int (Int32.ofNat s)), some (.int (k))]) (st1 := [.int (1), .int (1)]) rfl ?_
  refine Wp.if2 rfl (fun c4 => ?_) (fun c4 => absurd (show (1 : Int32) = (1 : Int32) by decide) c4)
  refine Wp.seg 3 (pc1 := 90) (ls1 := [some (.ref 59), some (.int (Int32.ofNat s)), some (.int (k))]) (st1 := [.ref 59, .int (10), .int (k)]) rfl ?_
  refine Wp.gr (t := (11, 0)) (v := some (72)) rfl (WF.t hw 59 rfl) rfl (WF.r hw 59 26 70 rfl) ?_
  show Wp d 273 93 [some (.ref 59), some (.int (Int32.ofNat s)), some (.int (k))] [.ref 72, .int (10), .int (k)] h Q
  refine Wp.seg 1 (pc1 := 94) (ls1 := [some (.ref 59), some (.int (Int32.ofNat s)), some (.int (k))]) (st1 := [.int (Int32.ofNat s), .ref 72, .int (10), .int (k)]) rfl ?_
  refine Wp.iald (j := s) (k := 20) (n := 4) rfl (WF.t hw 72 rfl) rfl rfl hs (by decide) ?_
  rw [show h.2.2.1 72 s = sb from h72]
  refine Wp.seg 1 (pc1 := 96) (ls1 := [some (.ref 59), some (.int (Int32.ofNat s)), some (.int (k))]) (st1 := [.int ((10 : Int32) + sb), .int (k)]) rfl ?_
  refine Wp.if2 rfl (fun (c5 : ¬ k = ((10 : Int32) + sb)) => ?_) (fun (c5 : ¬ (¬ k = ((10 : Int32) + sb))) => ?_)
  · refine Wp.seg 1 (pc1 := 110) (ls1 := [some (.ref 59), some (.int (Int32.ofNat s)), some (.int (k))]) (st1 := [.int (-13)]) rfl ?_
    exact Wp.reti rfl rfl (hQ.1 c5)
  · refine Wp.seg 1 (pc1 := 100) (ls1 := [some (.ref 59), some (.int (Int32.ofNat s)), some (.int (k))]) (st1 := [.ref 59]) rfl ?_
    refine Wp.gr (t := (11, 0)) (v := some (73)) rfl (WF.t hw 59 rfl) rfl (WF.r hw 59 27 71 rfl) ?_
    show Wp d 273 103 [some (.ref 59), some (.int (Int32.ofNat s)), some (.int (k))] [.ref 73] h Q
    refine Wp.seg 1 (pc1 := 104) (ls1 := [some (.ref 59), some (.int (Int32.ofNat s)), some (.int (k))]) (st1 := [.int (Int32.ofNat s), .ref 73]) rfl ?_
    refine Wp.iald (j := s) (k := 20) (n := 4) rfl (WF.t hw 73 rfl) rfl rfl hs (by decide) ?_
    rw [show h.2.2.1 73 s = sc from h73]
    refine Wp.seg 1 (pc1 := 110) (ls1 := [some (.ref 59), some (.int (Int32.ofNat s)), some (.int (k))]) (st1 := [.int (sc)]) rfl ?_
    exact Wp.reti rfl rfl (hQ.2 c5)
set_option maxHeartbeats 4000000 in
theorem t_ctk3k {d : Nat} {Q : KO → Prop} {h : KH} (hw : WF h) {s : Nat} (hs : s < 4) (qs : inB (Int32.ofNat s) 0 3 = true) {k : Int32} (h45 : h.2.2.1 45 s = 2) (n0 : ¬ (k < 0)) (n1 : ¬ ((5 : Int32) < k)) (n2 : k < 10) (hd : 3 ≤ d) (hQ : Q (some (.int (-11)), h)) : Cl d 160 [.ref 0, .int (Int32.ofNat s), .int (k)] h Q := by
  refine Cl.of (ls := [some (.ref 0), some (.int (Int32.ofNat s)), some (.int (k)), none, none, none]) rfl rfl ?_
  refine Wp.seg 1 (pc1 := 1) (ls1 := [some (.ref 0), some (.int (Int32.ofNat s)), some (.int (k)), none, none, none]) (st1 := [.int (k)]) rfl ?_
  refine Wp.if1 rfl (fun c1 => absurd c1 (n0)) (fun c1 => ?_)
  refine Wp.seg 2 (pc1 := 6) (ls1 := [some (.ref 0), some (.int (Int32.ofNat s)), some (.int (k)), none, none, none]) (st1 := [.int (5), .int (k)]) rfl ?_
  refine Wp.if2 rfl (fun c2 => absurd c2 (n1)) (fun c2 => ?_)
  refine Wp.seg 5 (pc1 := 18) (ls1 := [some (.ref 0), some (.int (Int32.ofNat s)), some (.int (k)), some (.int (1)), none, none]) (st1 := [.int (10), .int (k)]) rfl ?_
  refine Wp.if2 rfl (fun c3 => ?_) (fun c3 => absurd (n2) c3)
  refine Wp.seg 3 (pc1 := 35) (ls1 := [some (.ref 0), some (.int (Int32.ofNat s)), some (.int (k)), some (.int (1)), some (.int (0)), none]) (st1 := [.int (Int32.ofNat s)]) rfl ?_
  refine Wp.inv (d2 := 0) (as := [.int (Int32.ofNat s)]) (r := []) rfl rfl rfl rfl rfl rfl (by omega) (s_b164 ?_)
  show Wp d 160 38 [some (.ref 0), some (.int (Int32.ofNat s)), some (.int (k)), some (.int (1)), some (.int (0)), none] [.int (b32 (inB (Int32.ofNat s) 0 3))] h Q
  refine Wp.ifz rfl (fun c4 => absurd (c4.symm.trans (qs)) (by decide)) (fun c4 => ?_)
  refine Wp.seg 1 (pc1 := 42) (ls1 := [some (.ref 0), some (.int (Int32.ofNat s)), some (.int (k)), some (.int (1)), some (.int (0)), none]) (st1 := [.int (1)]) rfl ?_
  refine Wp.if1 rfl (fun c5 => ?_) (fun c5 => absurd (show ¬ (1 : Int32) = 0 by decide) c5)
  refine Wp.seg 1 (pc1 := 53) (ls1 := [some (.ref 0), some (.int (Int32.ofNat s)), some (.int (k)), some (.int (1)), some (.int (0)), none]) (st1 := [.ref 0]) rfl ?_
  refine Wp.gr (t := (10, 0)) (v := some (45)) rfl (WF.t hw 0 rfl) rfl (WF.r hw 0 11 9 rfl) ?_
  show Wp d 160 56 [some (.ref 0), some (.int (Int32.ofNat s)), some (.int (k)), some (.int (1)), some (.int (0)), none] [.ref 45] h Q
  refine Wp.seg 1 (pc1 := 57) (ls1 := [some (.ref 0), some (.int (Int32.ofNat s)), some (.int (k)), some (.int (1)), some (.int (0)), none]) (st1 := [.int (Int32.ofNat s), .ref 45]) rfl ?_
  refine Wp.iald (j := s) (k := 20) (n := 4) rfl (WF.t hw 45 rfl) rfl rfl hs (by decide) ?_
  rw [show h.2.2.1 45 s = 2 from h45]
  refine Wp.seg 1 (pc1 := 59) (ls1 := [some (.ref 0), some (.int (Int32.ofNat s)), some (.int (k)), some (.int (1)), some (.int (0)), none]) (st1 := [.int (1), .int (2)]) rfl ?_
  refine Wp.if2 rfl (fun c6 => ?_) (fun c6 => absurd (show ¬ (2 : Int32) = (1 : Int32) by decide) c6)
  refine Wp.seg 2 (pc1 := 94) (ls1 := [some (.ref 0), some (.int (Int32.ofNat s)), some (.int (k)), some (.int (1)), some (.int (0)), none]) (st1 := [.int (Int32.ofNat s), .ref 0]) rfl ?_
  refine Wp.invV (d2 := 1) (as := [.ref 0, .int (Int32.ofNat s)]) (r := []) (t := (10, 0)) rfl rfl rfl rfl (WF.t hw 0 rfl) rfl rfl ⟨rfl, rfl⟩ (by omega) (t_hdo2 hw hs h45 (Nat.le_refl _) ?_)
  show Wp d 160 97 [some (.ref 0), some (.int (Int32.ofNat s)), some (.int (k)), some (.int (1)), some (.int (0)), none] [.int (-1)] h Q
  refine Wp.seg 2 (pc1 := 101) (ls1 := [some (.ref 0), some (.int (Int32.ofNat s)), some (.int (k)), some (.int (1)), some (.int (0)), some (.int (-1))]) (st1 := [.int (-1)]) rfl ?_
  refine Wp.if1 rfl (fun c7 => absurd c7 (show ¬ (0 ≤ (-1 : Int32)) by decide)) (fun c7 => ?_)
  refine Wp.seg 1 (pc1 := 106) (ls1 := [some (.ref 0), some (.int (Int32.ofNat s)), some (.int (k)), some (.int (1)), some (.int (0)), some (.int (-1))]) (st1 := [.int (-11)]) rfl ?_
  exact Wp.reti rfl rfl hQ
set_option maxHeartbeats 4000000 in
theorem t_mtk3k {d : Nat} {Q : KO → Prop} {h : KH} (hw : WF h) {s : Nat} (hs : s < 4) (qs : inB (Int32.ofNat s) 0 3 = true) {k : Int32} (h71 : h.2.2.1 71 s = 2) (m0 : inB k 0 5 = true) (m1 : k < 6) (m2 : ¬ ((6 : Int32) ≤ k)) (hd : 3 ≤ d) (hQ : Q (some (.int (-11)), h)) : Cl d 273 [.ref 59, .int (Int32.ofNat s), .int (k)] h Q := by
  refine Cl.of (ls := [some (.ref 59), some (.int (Int32.ofNat s)), some (.int (k))]) rfl rfl ?_
  refine Wp.seg 1 (pc1 := 1) (ls1 := [some (.ref 59), some (.int (Int32.ofNat s)), some (.int (k))]) (st1 := [.int (Int32.ofNat s)]) rfl ?_
  refine Wp.inv (d2 := 1) (as := [.int (Int32.ofNat s)]) (r := []) rfl rfl rfl rfl rfl rfl (by omega) (s_b177 (Nat.le_refl _) ?_)
  show Wp d 273 4 [some (.ref 59), some (.int (Int32.ofNat s)), some (.int (k))] [.int (b32 (inB (Int32.ofNat s) 0 3))] h Q
  refine Wp.ifz rfl (fun c1 => absurd (c1.symm.trans (qs)) (by decide)) (fun c1 => ?_)
  refine Wp.seg 3 (pc1 := 10) (ls1 := [some (.ref 59), some (.int (Int32.ofNat s)), some (.int (k))]) (st1 := [.int (5), .int (0), .int (k)]) rfl ?_
  refine Wp.inv (d2 := 0) (as := [.int (k), .int (0), .int (5)]) (r := []) rfl rfl rfl rfl rfl rfl (by omega) (s_inB (x := 0) (y := 5) rfl rfl ?_)
  show Wp d 273 13 [some (.ref 59), some (.int (Int32.ofNat s)), some (.int (k))] [.int (b32 (inB k 0 5))] h Q
  refine Wp.ifnz rfl (fun c2 => ?_) (fun c2 => absurd (c2.symm.trans (m0)) (by decide))
  refine Wp.seg 2 (pc1 := 31) (ls1 := [some (.ref 59), some (.int (Int32.ofNat s)), some (.int (k))]) (st1 := [.int (Int32.ofNat s), .ref 59]) rfl ?_
  refine Wp.invV (d2 := 2) (as := [.ref 59, .int (Int32.ofNat s)]) (r := []) (t := (11, 0)) rfl rfl rfl rfl (WF.t hw 59 rfl) rfl rfl ⟨rfl, rfl⟩ (by omega) (t_hsh2 hw hs h71 (Nat.le_refl _) ?_)
  show Wp d 273 34 [some (.ref 59), some (.int (Int32.ofNat s)), some (.int (k))] [.int (0)] h Q
  refine Wp.if1 rfl (fun c3 => ?_) (fun c3 => absurd (show (0 : Int32) = 0 by decide) c3)
  refine Wp.seg 1 (pc1 := 74) (ls1 := [some (.ref 59), some (.int (Int32.ofNat s)), some (.int (k))]) (st1 := [.ref 59]) rfl ?_
  refine Wp.gr (t := (11, 0)) (v := some (71)) rfl (WF.t hw 59 rfl) rfl (WF.r hw 59 25 69 rfl) ?_
  show Wp d 273 77 [some (.ref 59), some (.int (Int32.ofNat s)), some (.int (k))] [.ref 71] h Q
  refine Wp.seg 1 (pc1 := 78) (ls1 := [some (.ref 59), some (.int (Int32.ofNat s)), some (.int (k))]) (st1 := [.int (Int32.ofNat s), .ref 71]) rfl ?_
  refine Wp.iald (j := s) (k := 20) (n := 4) rfl (WF.t hw 71 rfl) rfl rfl hs (by decide) ?_
  rw [show h.2.2.1 71 s = 2 from h71]
  refine Wp.seg 1 (pc1 := 80) (ls1 := [some (.ref 59), some (.int (Int32.ofNat s)), some (.int (k))]) (st1 := [.int (1), .int (2)]) rfl ?_
  refine Wp.if2 rfl (fun c4 => absurd c4 (show ¬ ((2 : Int32) = (1 : Int32)) by decide)) (fun c4 => ?_)
  refine Wp.seg 1 (pc1 := 85) (ls1 := [some (.ref 59), some (.int (Int32.ofNat s)), some (.int (k))]) (st1 := [.int (-11)]) rfl ?_
  exact Wp.reti rfl rfl hQ
set_option maxHeartbeats 4000000 in
theorem t_ctk4k {d : Nat} {Q : KO → Prop} {h : KH} (hw : WF h) {s : Nat} (hs : s < 4) (qs : inB (Int32.ofNat s) 0 3 = true) {k : Int32} {A : Nat → Int32} {RL : List Rul} {n c dn en : Nat} (hk : cityOK h 1 A RL n c dn en) (h45 : h.2.2.1 45 s = 0) {sb : Int32} (h46 : h.2.2.1 46 s = sb) (qx : inB sb 0 ((n : Int) - 1) = false) (n0 : ¬ (k < 0)) (n1 : ¬ ((5 : Int32) < k)) (n2 : k < 10) (hd : 3 ≤ d) (hQ : Q (some (.int (-11)), h)) : Cl d 160 [.ref 0, .int (Int32.ofNat s), .int (k)] h Q := by
  refine Cl.of (ls := [some (.ref 0), some (.int (Int32.ofNat s)), some (.int (k)), none, none, none]) rfl rfl ?_
  refine Wp.seg 1 (pc1 := 1) (ls1 := [some (.ref 0), some (.int (Int32.ofNat s)), some (.int (k)), none, none, none]) (st1 := [.int (k)]) rfl ?_
  refine Wp.if1 rfl (fun c1 => absurd c1 (n0)) (fun c1 => ?_)
  refine Wp.seg 2 (pc1 := 6) (ls1 := [some (.ref 0), some (.int (Int32.ofNat s)), some (.int (k)), none, none, none]) (st1 := [.int (5), .int (k)]) rfl ?_
  refine Wp.if2 rfl (fun c2 => absurd c2 (n1)) (fun c2 => ?_)
  refine Wp.seg 5 (pc1 := 18) (ls1 := [some (.ref 0), some (.int (Int32.ofNat s)), some (.int (k)), some (.int (1)), none, none]) (st1 := [.int (10), .int (k)]) rfl ?_
  refine Wp.if2 rfl (fun c3 => ?_) (fun c3 => absurd (n2) c3)
  refine Wp.seg 3 (pc1 := 35) (ls1 := [some (.ref 0), some (.int (Int32.ofNat s)), some (.int (k)), some (.int (1)), some (.int (0)), none]) (st1 := [.int (Int32.ofNat s)]) rfl ?_
  refine Wp.inv (d2 := 0) (as := [.int (Int32.ofNat s)]) (r := []) rfl rfl rfl rfl rfl rfl (by omega) (s_b164 ?_)
  show Wp d 160 38 [some (.ref 0), some (.int (Int32.ofNat s)), some (.int (k)), some (.int (1)), some (.int (0)), none] [.int (b32 (inB (Int32.ofNat s) 0 3))] h Q
  refine Wp.ifz rfl (fun c4 => absurd (c4.symm.trans (qs)) (by decide)) (fun c4 => ?_)
  refine Wp.seg 1 (pc1 := 42) (ls1 := [some (.ref 0), some (.int (Int32.ofNat s)), some (.int (k)), some (.int (1)), some (.int (0)), none]) (st1 := [.int (1)]) rfl ?_
  refine Wp.if1 rfl (fun c5 => ?_) (fun c5 => absurd (show ¬ (1 : Int32) = 0 by decide) c5)
  refine Wp.seg 1 (pc1 := 53) (ls1 := [some (.ref 0), some (.int (Int32.ofNat s)), some (.int (k)), some (.int (1)), some (.int (0)), none]) (st1 := [.ref 0]) rfl ?_
  refine Wp.gr (t := (10, 0)) (v := some (45)) rfl (WF.t hw 0 rfl) rfl (WF.r hw 0 11 9 rfl) ?_
  show Wp d 160 56 [some (.ref 0), some (.int (Int32.ofNat s)), some (.int (k)), some (.int (1)), some (.int (0)), none] [.ref 45] h Q
  refine Wp.seg 1 (pc1 := 57) (ls1 := [some (.ref 0), some (.int (Int32.ofNat s)), some (.int (k)), some (.int (1)), some (.int (0)), none]) (st1 := [.int (Int32.ofNat s), .ref 45]) rfl ?_
  refine Wp.iald (j := s) (k := 20) (n := 4) rfl (WF.t hw 45 rfl) rfl rfl hs (by decide) ?_
  rw [show h.2.2.1 45 s = 0 from h45]
  refine Wp.seg 1 (pc1 := 59) (ls1 := [some (.ref 0), some (.int (Int32.ofNat s)), some (.int (k)), some (.int (1)), some (.int (0)), none]) (st1 := [.int (1), .int (0)]) rfl ?_
  refine Wp.if2 rfl (fun c6 => ?_) (fun c6 => absurd (show ¬ (0 : Int32) = (1 : Int32) by decide) c6)
  refine Wp.seg 2 (pc1 := 94) (ls1 := [some (.ref 0), some (.int (Int32.ofNat s)), some (.int (k)), some (.int (1)), some (.int (0)), none]) (st1 := [.int (Int32.ofNat s), .ref 0]) rfl ?_
  refine Wp.invV (d2 := 1) (as := [.ref 0, .int (Int32.ofNat s)]) (r := []) (t := (10, 0)) rfl rfl rfl rfl (WF.t hw 0 rfl) rfl rfl ⟨rfl, rfl⟩ (by omega) (t_hdo0 hw hs hk h45 h46 qx (Nat.le_refl _) ?_)
  show Wp d 160 97 [some (.ref 0), some (.int (Int32.ofNat s)), some (.int (k)), some (.int (1)), some (.int (0)), none] [.int (-1)] h Q
  refine Wp.seg 2 (pc1 := 101) (ls1 := [some (.ref 0), some (.int (Int32.ofNat s)), some (.int (k)), some (.int (1)), some (.int (0)), some (.int (-1))]) (st1 := [.int (-1)]) rfl ?_
  refine Wp.if1 rfl (fun c7 => absurd c7 (show ¬ (0 ≤ (-1 : Int32)) by decide)) (fun c7 => ?_)
  refine Wp.seg 1 (pc1 := 106) (ls1 := [some (.ref 0), some (.int (Int32.ofNat s)), some (.int (k)), some (.int (1)), some (.int (0)), some (.int (-1))]) (st1 := [.int (-11)]) rfl ?_
  exact Wp.reti rfl rfl hQ
set_option maxHeartbeats 4000000 in
theorem t_mtk4k {d : Nat} {Q : KO → Prop} {h : KH} (hw : WF h) {s : Nat} (hs : s < 4) (qs : inB (Int32.ofNat s) 0 3 = true) {k : Int32} {A : Nat → Int32} {RL : List Rul} {n c dn en : Nat} (hk : refOK h A RL n c dn en) (h71 : h.2.2.1 71 s = 0) {sb : Int32} (h72 : h.2.2.1 72 s = sb) (qx : inB sb 0 ((n : Int) - 1) = false) (m0 : inB k 0 5 = true) (m1 : k < 6) (m2 : ¬ ((6 : Int32) ≤ k)) (hd : 3 ≤ d) (hQ : Q (some (.int (-11)), h)) : Cl d 273 [.ref 59, .int (Int32.ofNat s), .int (k)] h Q := by
  refine Cl.of (ls := [some (.ref 59), some (.int (Int32.ofNat s)), some (.int (k))]) rfl rfl ?_
  refine Wp.seg 1 (pc1 := 1) (ls1 := [some (.ref 59), some (.int (Int32.ofNat s)), some (.int (k))]) (st1 := [.int (Int32.ofNat s)]) rfl ?_
  refine Wp.inv (d2 := 1) (as := [.int (Int32.ofNat s)]) (r := []) rfl rfl rfl rfl rfl rfl (by omega) (s_b177 (Nat.le_refl _) ?_)
  show Wp d 273 4 [some (.ref 59), some (.int (Int32.ofNat s)), some (.int (k))] [.int (b32 (inB (Int32.ofNat s) 0 3))] h Q
  refine Wp.ifz rfl (fun c1 => absurd (c1.symm.trans (qs)) (by decide)) (fun c1 => ?_)
  refine Wp.seg 3 (pc1 := 10) (ls1 := [some (.ref 59), some (.int (Int32.ofNat s)), some (.int (k))]) (st1 := [.int (5), .int (0), .int (k)]) rfl ?_
  refine Wp.inv (d2 := 0) (as := [.int (k), .int (0), .int (5)]) (r := []) rfl rfl rfl rfl rfl rfl (by omega) (s_inB (x := 0) (y := 5) rfl rfl ?_)
  show Wp d 273 13 [some (.ref 59), some (.int (Int32.ofNat s)), some (.int (k))] [.int (b32 (inB k 0 5))] h Q
  refine Wp.ifnz rfl (fun c2 => ?_) (fun c2 => absurd (c2.symm.trans (m0)) (by decide))
  refine Wp.seg 2 (pc1 := 31) (ls1 := [some (.ref 59), some (.int (Int32.ofNat s)), some (.int (k))]) (st1 := [.int (Int32.ofNat s), .ref 59]) rfl ?_
  refine Wp.invV (d2 := 2) (as := [.ref 59, .int (Int32.ofNat s)]) (r := []) (t := (11, 0)) rfl rfl rfl rfl (WF.t hw 59 rfl) rfl rfl ⟨rfl, rfl⟩ (by omega) (t_hsh0 hw hs hk h71 h72 qx (Nat.le_refl _) ?_)
  show Wp d 273 34 [some (.ref 59), some (.int (Int32.ofNat s)), some (.int (k))] [.int (0)] h Q
  refine Wp.if1 rfl (fun c3 => ?_) (fun c3 => absurd (show (0 : Int32) = 0 by decide) c3)
  refine Wp.seg 1 (pc1 := 74) (ls1 := [some (.ref 59), some (.int (Int32.ofNat s)), some (.int (k))]) (st1 := [.ref 59]) rfl ?_
  refine Wp.gr (t := (11, 0)) (v := some (71)) rfl (WF.t hw 59 rfl) rfl (WF.r hw 59 25 69 rfl) ?_
  show Wp d 273 77 [some (.ref 59), some (.int (Int32.ofNat s)), some (.int (k))] [.ref 71] h Q
  refine Wp.seg 1 (pc1 := 78) (ls1 := [some (.ref 59), some (.int (Int32.ofNat s)), some (.int (k))]) (st1 := [.int (Int32.ofNat s), .ref 71]) rfl ?_
  refine Wp.iald (j := s) (k := 20) (n := 4) rfl (WF.t hw 71 rfl) rfl rfl hs (by decide) ?_
  rw [show h.2.2.1 71 s = 0 from h71]
  refine Wp.seg 1 (pc1 := 80) (ls1 := [some (.ref 59), some (.int (Int32.ofNat s)), some (.int (k))]) (st1 := [.int (1), .int (0)]) rfl ?_
  refine Wp.if2 rfl (fun c4 => absurd c4 (show ¬ ((0 : Int32) = (1 : Int32)) by decide)) (fun c4 => ?_)
  refine Wp.seg 1 (pc1 := 85) (ls1 := [some (.ref 59), some (.int (Int32.ofNat s)), some (.int (k))]) (st1 := [.int (-11)]) rfl ?_
  exact Wp.reti rfl rfl hQ
theorem s_cUnd2 {d : Nat} {Q : KO → Prop} {h : KH} {v f : Int32} {u : Bool} (eu : f_cUnder v f = b32 u) (hQ : Q (some (.int (b32 u)), h)) : Cl d 35 [.int v, .int f] h Q := s_cUnder (Nat.zero_le _) (by rw [eu]; exact hQ)
theorem s_mUnd2 {d : Nat} {Q : KO → Prop} {h : KH} {v f : Int32} {u : Bool} (eu : f_isUnder v f = b32 u) (hQ : Q (some (.int (b32 u)), h)) : Cl d 191 [.int v, .int f] h Q := s_isUnder (Nat.zero_le _) (by rw [eu]; exact hQ)
set_option maxHeartbeats 4000000 in
theorem t_ctk5k {d : Nat} {Q : KO → Prop} {h : KH} (hw : WF h) {s : Nat} (hs : s < 4) (qs : inB (Int32.ofNat s) 0 3 = true) {k : Int32} {A : Nat → Int32} {RL : List Rul} {n c dn en : Nat} (hk : cityOK h 1 A RL n c dn en) (h45 : h.2.2.1 45 s = 0) {i : Nat} (h46 : h.2.2.1 46 s = Int32.ofNat i) (qx : inB (Int32.ofNat i) 0 ((n : Int) - 1) = true) {g : Int32} {u : Bool} (hi6 : i < 6) (hg : h.2.2.1 (1 + 1) (4 * i + 0) = g) (eu : f_cUnder g k = b32 u) (ni : ¬ (Int32.ofNat i < 0)) (ni2 : 0 ≤ Int32.ofNat i) (n0 : ¬ (k < 0)) (n1 : ¬ ((5 : Int32) < k)) (n2 : k < 10) (hd : 3 ≤ d) (hQ : (u = false → Q (some (.int (-13)), h)) ∧ (u = true → Q (some (.int (Int32.ofNat i)), h))) : Cl d 160 [.ref 0, .int (Int32.ofNat s), .int (k)] h Q := by
  refine Cl.of (ls := [some (.ref 0), some (.int (Int32.ofNat s)), some (.int (k)), none, none, none]) rfl rfl ?_
  refine Wp.seg 1 (pc1 := 1) (ls1 := [some (.ref 0), some (.int (Int32.ofNat s)), some (.int (k)), none, none, none]) (st1 := [.int (k)]) rfl ?_
  refine Wp.if1 rfl (fun c1 => absurd c1 (n0)) (fun c1 => ?_)
  refine Wp.seg 2 (pc1 := 6) (ls1 := [some (.ref 0), some (.int (Int32.ofNat s)), some (.int (k)), none, none, none]) (st1 := [.int (5), .int (k)]) rfl ?_
  refine Wp.if2 rfl (fun c2 => absurd c2 (n1)) (fun c2 => ?_)
  refine Wp.seg 5 (pc1 := 18) (ls1 := [some (.ref 0), some (.int (Int32.ofNat s)), some (.int (k)), some (.int (1)), none, none]) (st1 := [.int (10), .int (k)]) rfl ?_
  refine Wp.if2 rfl (fun c3 => ?_) (fun c3 => absurd (n2) c3)
  refine Wp.seg 3 (pc1 := 35) (ls1 := [some (.ref 0), some (.int (Int32.ofNat s)), some (.int (k)), some (.int (1)), some (.int (0)), none]) (st1 := [.int (Int32.ofNat s)]) rfl ?_
  refine Wp.inv (d2 := 0) (as := [.int (Int32.ofNat s)]) (r := []) rfl rfl rfl rfl rfl rfl (by omega) (s_b164 ?_)
  show Wp d 160 38 [some (.ref 0), some (.int (Int32.ofNat s)), some (.int (k)), some (.int (1)), some (.int (0)), none] [.int (b32 (inB (Int32.ofNat s) 0 3))] h Q
  refine Wp.ifz rfl (fun c4 => absurd (c4.symm.trans (qs)) (by decide)) (fun c4 => ?_)
  refine Wp.seg 1 (pc1 := 42) (ls1 := [some (.ref 0), some (.int (Int32.ofNat s)), some (.int (k)), some (.int (1)), some (.int (0)), none]) (st1 := [.int (1)]) rfl ?_
  refine Wp.if1 rfl (fun c5 => ?_) (fun c5 => absurd (show ¬ (1 : Int32) = 0 by decide) c5)
  refine Wp.seg 1 (pc1 := 53) (ls1 := [some (.ref 0), some (.int (Int32.ofNat s)), some (.int (k)), some (.int (1)), some (.int (0)), none]) (st1 := [.ref 0]) rfl ?_
  refine Wp.gr (t := (10, 0)) (v := some (45)) rfl (WF.t hw 0 rfl) rfl (WF.r hw 0 11 9 rfl) ?_
  show Wp d 160 56 [some (.ref 0), some (.int (Int32.ofNat s)), some (.int (k)), some (.int (1)), some (.int (0)), none] [.ref 45] h Q
  refine Wp.seg 1 (pc1 := 57) (ls1 := [some (.ref 0), some (.int (Int32.ofNat s)), some (.int (k)), some (.int (1)), some (.int (0)), none]) (st1 := [.int (Int32.ofNat s), .ref 45]) rfl ?_
  refine Wp.iald (j := s) (k := 20) (n := 4) rfl (WF.t hw 45 rfl) rfl rfl hs (by decide) ?_
  rw [show h.2.2.1 45 s = 0 from h45]
  refine Wp.seg 1 (pc1 := 59) (ls1 := [some (.ref 0), some (.int (Int32.ofNat s)), some (.int (k)), some (.int (1)), some (.int (0)), none]) (st1 := [.int (1), .int (0)]) rfl ?_
  refine Wp.if2 rfl (fun c6 => ?_) (fun c6 => absurd (show ¬ (0 : Int32) = (1 : Int32) by decide) c6)
  refine Wp.seg 2 (pc1 := 94) (ls1 := [some (.ref 0), some (.int (Int32.ofNat s)), some (.int (k)), some (.int (1)), some (.int (0)), none]) (st1 := [.int (Int32.ofNat s), .ref 0]) rfl ?_
  refine Wp.invV (d2 := 1) (as := [.ref 0, .int (Int32.ofNat s)]) (r := []) (t := (10, 0)) rfl rfl rfl rfl (WF.t hw 0 rfl) rfl rfl ⟨rfl, rfl⟩ (by omega) (t_hdoy hw hs hk h45 h46 qx (Nat.le_refl _) ?_)
  show Wp d 160 97 [some (.ref 0), some (.int (Int32.ofNat s)), some (.int (k)), some (.int (1)), some (.int (0)), none] [.int (Int32.ofNat i)] h Q
  refine Wp.seg 2 (pc1 := 101) (ls1 := [some (.ref 0), some (.int (Int32.ofNat s)), some (.int (k)), some (.int (1)), some (.int (0)), some (.int (Int32.ofNat i))]) (st1 := [.int (Int32.ofNat i)]) rfl ?_
  refine Wp.if1 rfl (fun c7 => ?_) (fun c7 => absurd (ni2) c7)
  refine Wp.seg 1 (pc1 := 108) (ls1 := [some (.ref 0), some (.int (Int32.ofNat s)), some (.int (k)), some (.int (1)), some (.int (0)), some (.int (Int32.ofNat i))]) (st1 := [.int (1)]) rfl ?_
  refine Wp.if1 rfl (fun c8 => absurd c8 (show ¬ ((1 : Int32) = 0) by decide)) (fun c8 => ?_)
  refine Wp.seg 1 (pc1 := 112) (ls1 := [some (.ref 0), some (.int (Int32.ofNat s)), some (.int (k)), some (.int (1)), some (.int (0)), some (.int (Int32.ofNat i))]) (st1 := [.ref 0]) rfl ?_
  refine Wp.gr (t := (10, 0)) (v := some (1)) rfl (WF.t hw 0 rfl) rfl (WF.r hw 0 0 0 rfl) ?_
  show Wp d 160 115 [some (.ref 0), some (.int (Int32.ofNat s)), some (.int (k)), some (.int (1)), some (.int (0)), some (.int (Int32.ofNat i))] [.ref 1] h Q
  refine Wp.seg 2 (pc1 := 118) (ls1 := [some (.ref 0), some (.int (Int32.ofNat s)), some (.int (k)), some (.int (1)), some (.int (0)), some (.int (Int32.ofNat i))]) (st1 := [.int (0), .int (Int32.ofNat i), .ref 1]) rfl ?_
  refine Wp.invV (d2 := 0) (as := [.ref 1, .int (Int32.ofNat i), .int (0)]) (r := []) (t := (1, 0)) rfl rfl rfl rfl (WF.t hw 1 rfl) rfl rfl ⟨rfl, rfl⟩ (by omega) (s_cget hw cA1 (n := i) (w := 0) rfl (by omega) hg ?_)
  show Wp d 160 121 [some (.ref 0), some (.int (Int32.ofNat s)), some (.int (k)), some (.int (1)), some (.int (0)), some (.int (Int32.ofNat i))] [.int (g)] h Q
  refine Wp.seg 1 (pc1 := 122) (ls1 := [some (.ref 0), some (.int (Int32.ofNat s)), some (.int (k)), some (.int (1)), some (.int (0)), some (.int (Int32.ofNat i))]) (st1 := [.int (k), .int (g)]) rfl ?_
  refine Wp.inv (d2 := 0) (as := [.int (g), .int (k)]) (r := []) rfl rfl rfl rfl rfl rfl (by omega) (s_cUnd2 eu ?_)
  show Wp d 160 125 [some (.ref 0), some (.int (Int32.ofNat s)), some (.int (k)), some (.int (1)), some (.int (0)), some (.int (Int32.ofNat i))] [.int (b32 u)] h Q
  refine Wp.ifz rfl (fun (c9 : u = false) => ?_) (fun (c9 : u = true) => ?_)
  · refine Wp.seg 1 (pc1 := 135) (ls1 := [some (.ref 0), some (.int (Int32.ofNat s)), some (.int (k)), some (.int (1)), some (.int (0)), some (.int (Int32.ofNat i))]) (st1 := [.int (-13)]) rfl ?_
    exact Wp.reti rfl rfl (hQ.1 c9)
  · refine Wp.seg 2 (pc1 := 135) (ls1 := [some (.ref 0), some (.int (Int32.ofNat s)), some (.int (k)), some (.int (1)), some (.int (0)), some (.int (Int32.ofNat i))]) (st1 := [.int (Int32.ofNat i)]) rfl ?_
    exact Wp.reti rfl rfl (hQ.2 c9)
set_option maxHeartbeats 4000000 in
theorem t_mtk5k {d : Nat} {Q : KO → Prop} {h : KH} (hw : WF h) {s : Nat} (hs : s < 4) (qs : inB (Int32.ofNat s) 0 3 = true) {k : Int32} {A : Nat → Int32} {RL : List Rul} {n c dn en : Nat} (hk : refOK h A RL n c dn en) (h71 : h.2.2.1 71 s = 0) {i : Nat} (h72 : h.2.2.1 72 s = Int32.ofNat i) (qx : inB (Int32.ofNat i) 0 ((n : Int) - 1) = true) {g : Int32} {u : Bool} (hi6 : i < 6) (hg : h.2.2.1 60 (11 + 4 * i + 0) = g) (eu : f_isUnder g k = b32 u) (m0 : inB k 0 5 = true) (m1 : k < 6) (m2 : ¬ ((6 : Int32) ≤ k)) (hd : 3 ≤ d) (hQ : (u = false → Q (some (.int (-13)), h)) ∧ (u = true → Q (some (.int (Int32.ofNat i)), h))) : Cl d 273 [.ref 59, .int (Int32.ofNat s), .int (k)] h Q := by
  refine Cl.of (ls := [some (.ref 59), some (.int (Int32.ofNat s)), some (.int (k))]) rfl rfl ?_
  refine Wp.seg 1 (pc1 := 1) (ls1 := [some (.ref 59), some (.int (Int32.ofNat s)), some (.int (k))]) (st1 := [.int (Int32.ofNat s)]) rfl ?_
  refine Wp.inv (d2 := 1) (as := [.int (Int32.ofNat s)]) (r := []) rfl rfl rfl rfl rfl rfl (by omega) (s_b177 (Nat.le_refl _) ?_)
  show Wp d 273 4 [some (.ref 59), some (.int (Int32.ofNat s)), some (.int (k))] [.int (b32 (inB (Int32.ofNat s) 0 3))] h Q
  refine Wp.ifz rfl (fun c1 => absurd (c1.symm.trans (qs)) (by decide)) (fun c1 => ?_)
  refine Wp.seg 3 (pc1 := 10) (ls1 := [some (.ref 59), some (.int (Int32.ofNat s)), some (.int (k))]) (st1 := [.int (5), .int (0), .int (k)]) rfl ?_
  refine Wp.inv (d2 := 0) (as := [.int (k), .int (0), .int (5)]) (r := []) rfl rfl rfl rfl rfl rfl (by omega) (s_inB (x := 0) (y := 5) rfl rfl ?_)
  show Wp d 273 13 [some (.ref 59), some (.int (Int32.ofNat s)), some (.int (k))] [.int (b32 (inB k 0 5))] h Q
  refine Wp.ifnz rfl (fun c2 => ?_) (fun c2 => absurd (c2.symm.trans (m0)) (by decide))
  refine Wp.seg 2 (pc1 := 31) (ls1 := [some (.ref 59), some (.int (Int32.ofNat s)), some (.int (k))]) (st1 := [.int (Int32.ofNat s), .ref 59]) rfl ?_
  refine Wp.invV (d2 := 2) (as := [.ref 59, .int (Int32.ofNat s)]) (r := []) (t := (11, 0)) rfl rfl rfl rfl (WF.t hw 59 rfl) rfl rfl ⟨rfl, rfl⟩ (by omega) (t_hshy hw hs hk h71 h72 qx (Nat.le_refl _) ?_)
  show Wp d 273 34 [some (.ref 59), some (.int (Int32.ofNat s)), some (.int (k))] [.int (1)] h Q
  refine Wp.if1 rfl (fun c3 => absurd c3 (show ¬ ((1 : Int32) = 0) by decide)) (fun c3 => ?_)
  refine Wp.seg 2 (pc1 := 40) (ls1 := [some (.ref 59), some (.int (Int32.ofNat s)), some (.int (k))]) (st1 := [.int (6), .int (k)]) rfl ?_
  refine Wp.if2 rfl (fun c4 => absurd c4 (m2)) (fun c4 => ?_)
  refine Wp.seg 2 (pc1 := 45) (ls1 := [some (.ref 59), some (.int (Int32.ofNat s)), some (.int (k))]) (st1 := [.ref 59, .ref 59]) rfl ?_
  refine Wp.gr (t := (11, 0)) (v := some (72)) rfl (WF.t hw 59 rfl) rfl (WF.r hw 59 26 70 rfl) ?_
  show Wp d 273 48 [some (.ref 59), some (.int (Int32.ofNat s)), some (.int (k))] [.ref 72, .ref 59] h Q
  refine Wp.seg 1 (pc1 := 49) (ls1 := [some (.ref 59), some (.int (Int32.ofNat s)), some (.int (k))]) (st1 := [.int (Int32.ofNat s), .ref 72, .ref 59]) rfl ?_
  refine Wp.iald (j := s) (k := 20) (n := 4) rfl (WF.t hw 72 rfl) rfl rfl hs (by decide) ?_
  rw [show h.2.2.1 72 s = Int32.ofNat i from h72]
  refine Wp.seg 1 (pc1 := 51) (ls1 := [some (.ref 59), some (.int (Int32.ofNat s)), some (.int (k))]) (st1 := [.int (0), .int (Int32.ofNat i), .ref 59]) rfl ?_
  refine Wp.invV (d2 := 0) (as := [.ref 59, .int (Int32.ofNat i), .int (0)]) (r := []) (t := (11, 0)) rfl rfl rfl rfl (WF.t hw 59 rfl) rfl rfl ⟨rfl, rfl⟩ (by omega) (s_ofv hw (n := i) (w := 0) rfl (by omega) hg ?_)
  show Wp d 273 54 [some (.ref 59), some (.int (Int32.ofNat s)), some (.int (k))] [.int (g)] h Q
  refine Wp.seg 1 (pc1 := 55) (ls1 := [some (.ref 59), some (.int (Int32.ofNat s)), some (.int (k))]) (st1 := [.int (k), .int (g)]) rfl ?_
  refine Wp.inv (d2 := 0) (as := [.int (g), .int (k)]) (r := []) rfl rfl rfl rfl rfl rfl (by omega) (s_mUnd2 eu ?_)
  show Wp d 273 58 [some (.ref 59), some (.int (Int32.ofNat s)), some (.int (k))] [.int (b32 u)] h Q
  refine Wp.ifz rfl (fun (c5 : u = false) => ?_) (fun (c5 : u = true) => ?_)
  · refine Wp.seg 1 (pc1 := 72) (ls1 := [some (.ref 59), some (.int (Int32.ofNat s)), some (.int (k))]) (st1 := [.int (-13)]) rfl ?_
    exact Wp.reti rfl rfl (hQ.1 c5)
  · refine Wp.seg 1 (pc1 := 62) (ls1 := [some (.ref 59), some (.int (Int32.ofNat s)), some (.int (k))]) (st1 := [.ref 59]) rfl ?_
    refine Wp.gr (t := (11, 0)) (v := some (72)) rfl (WF.t hw 59 rfl) rfl (WF.r hw 59 26 70 rfl) ?_
    show Wp d 273 65 [some (.ref 59), some (.int (Int32.ofNat s)), some (.int (k))] [.ref 72] h Q
    refine Wp.seg 1 (pc1 := 66) (ls1 := [some (.ref 59), some (.int (Int32.ofNat s)), some (.int (k))]) (st1 := [.int (Int32.ofNat s), .ref 72]) rfl ?_
    refine Wp.iald (j := s) (k := 20) (n := 4) rfl (WF.t hw 72 rfl) rfl rfl hs (by decide) ?_
    rw [show h.2.2.1 72 s = Int32.ofNat i from h72]
    refine Wp.seg 1 (pc1 := 72) (ls1 := [some (.ref 59), some (.int (Int32.ofNat s)), some (.int (k))]) (st1 := [.int (Int32.ofNat i)]) rfl ?_
    exact Wp.reti rfl rfl (hQ.2 c5)
set_option maxHeartbeats 4000000 in
theorem t_ctk2r {d : Nat} {Q : KO → Prop} {h : KH} (hw : WF h) {s : Nat} (hs : s < 4) (qs : inB (Int32.ofNat s) 0 3 = true) {k : Int32} (h45 : h.2.2.1 45 s = 1) {sb : Int32} (h46 : h.2.2.1 46 s = sb) {sc : Int32} (h47 : h.2.2.1 47 s = sc) (n0 : ¬ (k < 0)) (n1 : (5 : Int32) < k) (n2 : ¬ (k < 10)) (n3 : ¬ ((15 : Int32) ≤ k)) (hd : 3 ≤ d) (hQ : (¬ sb = (k - (10 : Int32)) → Q (some (.int (-13)), h)) ∧ (¬ (¬ sb = (k - (10 : Int32))) → Q (some (.int (sc)), h))) : Cl d 160 [.ref 0, .int (Int32.ofNat s), .int (k)] h Q := by
  refine Cl.of (ls := [some (.ref 0), some (.int (Int32.ofNat s)), some (.int (k)), none, none, none]) rfl rfl ?_
  refine Wp.seg 1 (pc1 := 1) (ls1 := [some (.ref 0), some (.int (Int32.ofNat s)), some (.int (k)), none, none, none]) (st1 := [.int (k)]) rfl ?_
  refine Wp.if1 rfl (fun c1 => absurd c1 (n0)) (fun c1 => ?_)
  refine Wp.seg 2 (pc1 := 6) (ls1 := [some (.ref 0), some (.int (Int32.ofNat s)), some (.int (k)), none, none, none]) (st1 := [.int (5), .int (k)]) rfl ?_
  refine Wp.if2 rfl (fun c2 => ?_) (fun c2 => absurd (n1) c2)
  refine Wp.seg 4 (pc1 := 18) (ls1 := [some (.ref 0), some (.int (Int32.ofNat s)), some (.int (k)), some (.int (0)), none, none]) (st1 := [.int (10), .int (k)]) rfl ?_
  refine Wp.if2 rfl (fun c3 => absurd c3 (n2)) (fun c3 => ?_)
  refine Wp.seg 2 (pc1 := 24) (ls1 := [some (.ref 0), some (.int (Int32.ofNat s)), some (.int (k)), some (.int (0)), none, none]) (st1 := [.int (15), .int (k)]) rfl ?_
  refine Wp.if2 rfl (fun c4 => absurd c4 (n3)) (fun c4 => ?_)
  refine Wp.seg 4 (pc1 := 35) (ls1 := [some (.ref 0), some (.int (Int32.ofNat s)), some (.int (k)), some (.int (0)), some (.int (1)), none]) (st1 := [.int (Int32.ofNat s)]) rfl ?_
  refine Wp.inv (d2 := 0) (as := [.int (Int32.ofNat s)]) (r := []) rfl rfl rfl rfl rfl rfl (by omega) (s_b164 ?_)
  show Wp d 160 38 [some (.ref 0), some (.int (Int32.ofNat s)), some (.int (k)), some (.int (0)), some (.int (1)), none] [.int (b32 (inB (Int32.ofNat s) 0 3))] h Q
  refine Wp.ifz rfl (fun c5 => absurd (c5.symm.trans (qs)) (by decide)) (fun c5 => ?_)
  refine Wp.seg 1 (pc1 := 42) (ls1 := [some (.ref 0), some (.int (Int32.ofNat s)), some (.int (k)), some (.int (0)), some (.int (1)), none]) (st1 := [.int (0)]) rfl ?_
  refine Wp.if1 rfl (fun c6 => absurd c6 (show ¬ (¬ (0 : Int32) = 0) by decide)) (fun c6 => ?_)
  refine Wp.seg 1 (pc1 := 47) (ls1 := [some (.ref 0), some (.int (Int32.ofNat s)), some (.int (k)), some (.int (0)), some (.int (1)), none]) (st1 := [.int (1)]) rfl ?_
  refine Wp.if1 rfl (fun c7 => ?_) (fun c7 => absurd (show ¬ (1 : Int32) = 0 by decide) c7)
  refine Wp.seg 1 (pc1 := 53) (ls1 := [some (.ref 0), some (.int (Int32.ofNat s)), some (.int (k)), some (.int (0)), some (.int (1)), none]) (st1 := [.ref 0]) rfl ?_
  refine Wp.gr (t := (10, 0)) (v := some (45)) rfl (WF.t hw 0 rfl) rfl (WF.r hw 0 11 9 rfl) ?_
  show Wp d 160 56 [some (.ref 0), some (.int (Int32.ofNat s)), some (.int (k)), some (.int (0)), some (.int (1)), none] [.ref 45] h Q
  refine Wp.seg 1 (pc1 := 57) (ls1 := [some (.ref 0), some (.int (Int32.ofNat s)), some (.int (k)), some (.int (0)), some (.int (1)), none]) (st1 := [.int (Int32.ofNat s), .ref 45]) rfl ?_
  refine Wp.iald (j := s) (k := 20) (n := 4) rfl (WF.t hw 45 rfl) rfl rfl hs (by decide) ?_
  rw [show h.2.2.1 45 s = 1 from h45]
  refine Wp.seg 1 (pc1 := 59) (ls1 := [some (.ref 0), some (.int (Int32.ofNat s)), some (.int (k)), some (.int (0)), some (.int (1)), none]) (st1 := [.int (1), .int (1)]) rfl ?_
  refine Wp.if2 rfl (fun c8 => absurd c8 (show ¬ (¬ (1 : Int32) = (1 : Int32)) by decide)) (fun c8 => ?_)
  refine Wp.seg 1 (pc1 := 64) (ls1 := [some (.ref 0), some (.int (Int32.ofNat s)), some (.int (k)), some (.int (0)), some (.int (1)), none]) (st1 := [.int (1)]) rfl ?_
  refine Wp.if1 rfl (fun c9 => absurd c9 (show ¬ ((1 : Int32) = 0) by decide)) (fun c9 => ?_)
  refine Wp.seg 1 (pc1 := 68) (ls1 := [some (.ref 0), some (.int (Int32.ofNat s)), some (.int (k)), some (.int (0)), some (.int (1)), none]) (st1 := [.ref 0]) rfl ?_
  refine Wp.gr (t := (10, 0)) (v := some (46)) rfl (WF.t hw 0 rfl) rfl (WF.r hw 0 12 10 rfl) ?_
  show Wp d 160 71 [some (.ref 0), some (.int (Int32.ofNat s)), some (.int (k)), some (.int (0)), some (.int (1)), none] [.ref 46] h Q
  refine Wp.seg 1 (pc1 := 72) (ls1 := [some (.ref 0), some (.int (Int32.ofNat s)), some (.int (k)), some (.int (0)), some (.int (1)), none]) (st1 := [.int (Int32.ofNat s), .ref 46]) rfl ?_
  refine Wp.iald (j := s) (k := 20) (n := 4) rfl (WF.t hw 46 rfl) rfl rfl hs (by decide) ?_
  rw [show h.2.2.1 46 s = sb from h46]
  refine Wp.seg 3 (pc1 := 77) (ls1 := [some (.ref 0), some (.int (Int32.ofNat s)), some (.int (k)), some (.int (0)), some (.int (1)), none]) (st1 := [.int (k - (10 : Int32)), .int (sb)]) rfl ?_
  refine Wp.if2 rfl (fun (c10 : ¬ sb = (k - (10 : Int32))) => ?_) (fun (c10 : ¬ (¬ sb = (k - (10 : Int32)))) => ?_)
  · refine Wp.seg 1 (pc1 := 91) (ls1 := [some (.ref 0), some (.int (Int32.ofNat s)), some (.int (k)), some (.int (0)), some (.int (1)), none]) (st1 := [.int (-13)]) rfl ?_
    exact Wp.reti rfl rfl (hQ.1 c10)
  · refine Wp.seg 1 (pc1 := 81) (ls1 := [some (.ref 0), some (.int (Int32.ofNat s)), some (.int (k)), some (.int (0)), some (.int (1)), none]) (st1 := [.ref 0]) rfl ?_
    refine Wp.gr (t := (10, 0)) (v := some (47)) rfl (WF.t hw 0 rfl) rfl (WF.r hw 0 13 11 rfl) ?_
    show Wp d 160 84 [some (.ref 0), some (.int (Int32.ofNat s)), some (.int (k)), some (.int (0)), some (.int (1)), none] [.ref 47] h Q
    refine Wp.seg 1 (pc1 := 85) (ls1 := [some (.ref 0), some (.int (Int32.ofNat s)), some (.int (k)), some (.int (0)), some (.int (1)), none]) (st1 := [.int (Int32.ofNat s), .ref 47]) rfl ?_
    refine Wp.iald (j := s) (k := 20) (n := 4) rfl (WF.t hw 47 rfl) rfl rfl hs (by decide) ?_
    rw [show h.2.2.1 47 s = sc from h47]
    refine Wp.seg 1 (pc1 := 91) (ls1 := [some (.ref 0), some (.int (Int32.ofNat s)), some (.int (k)), some (.int (0)), some (.int (1)), none]) (st1 := [.int (sc)]) rfl ?_
    exact Wp.reti rfl rfl (hQ.2 c10)
set_option maxHeartbeats 4000000 in
theorem t_mtk2r {d : Nat} {Q : KO → Prop} {h : KH} (hw : WF h) {s : Nat} (hs : s < 4) (qs : inB (Int32.ofNat s) 0 3 = true) {k : Int32} (h71 : h.2.2.1 71 s = 1) {sb : Int32} (h72 : h.2.2.1 72 s = sb) {sc : Int32} (h73 : h.2.2.1 73 s = sc) (m0 : inB k 0 5 = false) (m1 : inB k 10 14 = true) (m2 : (6 : Int32) ≤ k) (hd : 3 ≤ d) (hQ : (¬ k = ((10 : Int32) + sb) → Q (some (.int (-13)), h)) ∧ (¬ (¬ k = ((10 : Int32) + sb)) → Q (some (.int (sc)), h))) : Cl d 273 [.ref 59, .int (Int32.ofNat s), .int (k)] h Q := by
  refine Cl.of (ls := [some (.ref 59), some (.int (Int32.ofNat s)), some (.int (k))]) rfl rfl ?_
  refine Wp.seg 1 (pc1 := 1) (ls1 := [some (.ref 59), some (.int (Int32.ofNat s)), some (.int (k))]) (st1 := [.int (Int32.ofNat s)]) rfl ?_
  refine Wp.inv (d2 := 1) (as := [.int (Int32.ofNat s)]) (r := []) rfl rfl rfl rfl rfl rfl (by omega) (s_b177 (Nat.le_refl _) ?_)
  show Wp d 273 4 [some (.ref 59), some (.int (Int32.ofNat s)), some (.int (k))] [.int (b32 (inB (Int32.ofNat s) 0 3))] h Q
  refine Wp.ifz rfl (fun c1 => absurd (c1.symm.trans (qs)) (by decide)) (fun c1 => ?_)
  refine Wp.seg 3 (pc1 := 10) (ls1 := [some (.ref 59), some (.int (Int32.ofNat s)), some (.int (k))]) (st1 := [.int (5), .int (0), .int (k)]) rfl ?_
  refine Wp.inv (d2 := 0) (as := [.int (k), .int (0), .int (5)]) (r := []) rfl rfl rfl rfl rfl rfl (by omega) (s_inB (x := 0) (y := 5) rfl rfl ?_)
  show Wp d 273 13 [some (.ref 59), some (.int (Int32.ofNat s)), some (.int (k))] [.int (b32 (inB k 0 5))] h Q
  refine Wp.ifnz rfl (fun c2 => absurd (c2.symm.trans (m0)) (by decide)) (fun c2 => ?_)
  refine Wp.seg 3 (pc1 := 21) (ls1 := [some (.ref 59), some (.int (Int32.ofNat s)), some (.int (k))]) (st1 := [.int (14), .int (10), .int (k)]) rfl ?_
  refine Wp.inv (d2 := 0) (as := [.int (k), .int (10), .int (14)]) (r := []) rfl rfl rfl rfl rfl rfl (by omega) (s_inB (x := 10) (y := 14) rfl rfl ?_)
  show Wp d 273 24 [some (.ref 59), some (.int (Int32.ofNat s)), some (.int (k))] [.int (b32 (inB k 10 14))] h Q
  refine Wp.ifnz rfl (fun c3 => ?_) (fun c3 => absurd (c3.symm.trans (m1)) (by decide))
  refine Wp.seg 2 (pc1 := 31) (ls1 := [some (.ref 59), some (.int (Int32.ofNat s)), some (.int (k))]) (st1 := [.int (Int32.ofNat s), .ref 59]) rfl ?_
  refine Wp.invV (d2 := 2) (as := [.ref 59, .int (Int32.ofNat s)]) (r := []) (t := (11, 0)) rfl rfl rfl rfl (WF.t hw 59 rfl) rfl rfl ⟨rfl, rfl⟩ (by omega) (t_hsh1 hw hs h71 (Nat.le_refl _) ?_)
  show Wp d 273 34 [some (.ref 59), some (.int (Int32.ofNat s)), some (.int (k))] [.int (0)] h Q
  refine Wp.if1 rfl (fun c4 => ?_) (fun c4 => absurd (show (0 : Int32) = 0 by decide) c4)
  refine Wp.seg 1 (pc1 := 74) (ls1 := [some (.ref 59), some (.int (Int32.ofNat s)), some (.int (k))]) (st1 := [.ref 59]) rfl ?_
  refine Wp.gr (t := (11, 0)) (v := some (71)) rfl (WF.t hw 59 rfl) rfl (WF.r hw 59 25 69 rfl) ?_
  show Wp d 273 77 [some (.ref 59), some (.int (Int32.ofNat s)), some (.int (k))] [.ref 71] h Q
  refine Wp.seg 1 (pc1 := 78) (ls1 := [some (.ref 59), some (.int (Int32.ofNat s)), some (.int (k))]) (st1 := [.int (Int32.ofNat s), .ref 71]) rfl ?_
  refine Wp.iald (j := s) (k := 20) (n := 4) rfl (WF.t hw 71 rfl) rfl rfl hs (by decide) ?_
  rw [show h.2.2.1 71 s = 1 from h71]
  refine Wp.seg 1 (pc1 := 80) (ls1 := [some (.ref 59), some (.int (Int32.ofNat s)), some (.int (k))]) (st1 := [.int (1), .int (1)]) rfl ?_
  refine Wp.if2 rfl (fun c5 => ?_) (fun c5 => absurd (show (1 : Int32) = (1 : Int32) by decide) c5)
  refine Wp.seg 3 (pc1 := 90) (ls1 := [some (.ref 59), some (.int (Int32.ofNat s)), some (.int (k))]) (st1 := [.ref 59, .int (10), .int (k)]) rfl ?_
  refine Wp.gr (t := (11, 0)) (v := some (72)) rfl (WF.t hw 59 rfl) rfl (WF.r hw 59 26 70 rfl) ?_
  show Wp d 273 93 [some (.ref 59), some (.int (Int32.ofNat s)), some (.int (k))] [.ref 72, .int (10), .int (k)] h Q
  refine Wp.seg 1 (pc1 := 94) (ls1 := [some (.ref 59), some (.int (Int32.ofNat s)), some (.int (k))]) (st1 := [.int (Int32.ofNat s), .ref 72, .int (10), .int (k)]) rfl ?_
  refine Wp.iald (j := s) (k := 20) (n := 4) rfl (WF.t hw 72 rfl) rfl rfl hs (by decide) ?_
  rw [show h.2.2.1 72 s = sb from h72]
  refine Wp.seg 1 (pc1 := 96) (ls1 := [some (.ref 59), some (.int (Int32.ofNat s)), some (.int (k))]) (st1 := [.int ((10 : Int32) + sb), .int (k)]) rfl ?_
  refine Wp.if2 rfl (fun (c6 : ¬ k = ((10 : Int32) + sb)) => ?_) (fun (c6 : ¬ (¬ k = ((10 : Int32) + sb))) => ?_)
  · refine Wp.seg 1 (pc1 := 110) (ls1 := [some (.ref 59), some (.int (Int32.ofNat s)), some (.int (k))]) (st1 := [.int (-13)]) rfl ?_
    exact Wp.reti rfl rfl (hQ.1 c6)
  · refine Wp.seg 1 (pc1 := 100) (ls1 := [some (.ref 59), some (.int (Int32.ofNat s)), some (.int (k))]) (st1 := [.ref 59]) rfl ?_
    refine Wp.gr (t := (11, 0)) (v := some (73)) rfl (WF.t hw 59 rfl) rfl (WF.r hw 59 27 71 rfl) ?_
    show Wp d 273 103 [some (.ref 59), some (.int (Int32.ofNat s)), some (.int (k))] [.ref 73] h Q
    refine Wp.seg 1 (pc1 := 104) (ls1 := [some (.ref 59), some (.int (Int32.ofNat s)), some (.int (k))]) (st1 := [.int (Int32.ofNat s), .ref 73]) rfl ?_
    refine Wp.iald (j := s) (k := 20) (n := 4) rfl (WF.t hw 73 rfl) rfl rfl hs (by decide) ?_
    rw [show h.2.2.1 73 s = sc from h73]
    refine Wp.seg 1 (pc1 := 110) (ls1 := [some (.ref 59), some (.int (Int32.ofNat s)), some (.int (k))]) (st1 := [.int (sc)]) rfl ?_
    exact Wp.reti rfl rfl (hQ.2 c6)
set_option maxHeartbeats 4000000 in
theorem t_ctk3r {d : Nat} {Q : KO → Prop} {h : KH} (hw : WF h) {s : Nat} (hs : s < 4) (qs : inB (Int32.ofNat s) 0 3 = true) {k : Int32} (h45 : h.2.2.1 45 s = 2) (n0 : ¬ (k < 0)) (n1 : (5 : Int32) < k) (n2 : ¬ (k < 10)) (n3 : ¬ ((15 : Int32) ≤ k)) (hd : 3 ≤ d) (hQ : Q (some (.int (-11)), h)) : Cl d 160 [.ref 0, .int (Int32.ofNat s), .int (k)] h Q := by
  refine Cl.of (ls := [some (.ref 0), some (.int (Int32.ofNat s)), some (.int (k)), none, none, none]) rfl rfl ?_
  refine Wp.seg 1 (pc1 := 1) (ls1 := [some (.ref 0), some (.int (Int32.ofNat s)), some (.int (k)), none, none, none]) (st1 := [.int (k)]) rfl ?_
  refine Wp.if1 rfl (fun c1 => absurd c1 (n0)) (fun c1 => ?_)
  refine Wp.seg 2 (pc1 := 6) (ls1 := [some (.ref 0), some (.int (Int32.ofNat s)), some (.int (k)), none, none, none]) (st1 := [.int (5), .int (k)]) rfl ?_
  refine Wp.if2 rfl (fun c2 => ?_) (fun c2 => absurd (n1) c2)
  refine Wp.seg 4 (pc1 := 18) (ls1 := [some (.ref 0), some (.int (Int32.ofNat s)), some (.int (k)), some (.int (0)), none, none]) (st1 := [.int (10), .int (k)]) rfl ?_
  refine Wp.if2 rfl (fun c3 => absurd c3 (n2)) (fun c3 => ?_)
  refine Wp.seg 2 (pc1 := 24) (ls1 := [some (.ref 0), some (.int (Int32.ofNat s)), some (.int (k)), some (.int (0)), none, none]) (st1 := [.int (15), .int (k)]) rfl ?_
  refine Wp.if2 rfl (fun c4 => absurd c4 (n3)) (fun c4 => ?_)
  refine Wp.seg 4 (pc1 := 35) (ls1 := [some (.ref 0), some (.int (Int32.ofNat s)), some (.int (k)), some (.int (0)), some (.int (1)), none]) (st1 := [.int (Int32.ofNat s)]) rfl ?_
  refine Wp.inv (d2 := 0) (as := [.int (Int32.ofNat s)]) (r := []) rfl rfl rfl rfl rfl rfl (by omega) (s_b164 ?_)
  show Wp d 160 38 [some (.ref 0), some (.int (Int32.ofNat s)), some (.int (k)), some (.int (0)), some (.int (1)), none] [.int (b32 (inB (Int32.ofNat s) 0 3))] h Q
  refine Wp.ifz rfl (fun c5 => absurd (c5.symm.trans (qs)) (by decide)) (fun c5 => ?_)
  refine Wp.seg 1 (pc1 := 42) (ls1 := [some (.ref 0), some (.int (Int32.ofNat s)), some (.int (k)), some (.int (0)), some (.int (1)), none]) (st1 := [.int (0)]) rfl ?_
  refine Wp.if1 rfl (fun c6 => absurd c6 (show ¬ (¬ (0 : Int32) = 0) by decide)) (fun c6 => ?_)
  refine Wp.seg 1 (pc1 := 47) (ls1 := [some (.ref 0), some (.int (Int32.ofNat s)), some (.int (k)), some (.int (0)), some (.int (1)), none]) (st1 := [.int (1)]) rfl ?_
  refine Wp.if1 rfl (fun c7 => ?_) (fun c7 => absurd (show ¬ (1 : Int32) = 0 by decide) c7)
  refine Wp.seg 1 (pc1 := 53) (ls1 := [some (.ref 0), some (.int (Int32.ofNat s)), some (.int (k)), some (.int (0)), some (.int (1)), none]) (st1 := [.ref 0]) rfl ?_
  refine Wp.gr (t := (10, 0)) (v := some (45)) rfl (WF.t hw 0 rfl) rfl (WF.r hw 0 11 9 rfl) ?_
  show Wp d 160 56 [some (.ref 0), some (.int (Int32.ofNat s)), some (.int (k)), some (.int (0)), some (.int (1)), none] [.ref 45] h Q
  refine Wp.seg 1 (pc1 := 57) (ls1 := [some (.ref 0), some (.int (Int32.ofNat s)), some (.int (k)), some (.int (0)), some (.int (1)), none]) (st1 := [.int (Int32.ofNat s), .ref 45]) rfl ?_
  refine Wp.iald (j := s) (k := 20) (n := 4) rfl (WF.t hw 45 rfl) rfl rfl hs (by decide) ?_
  rw [show h.2.2.1 45 s = 2 from h45]
  refine Wp.seg 1 (pc1 := 59) (ls1 := [some (.ref 0), some (.int (Int32.ofNat s)), some (.int (k)), some (.int (0)), some (.int (1)), none]) (st1 := [.int (1), .int (2)]) rfl ?_
  refine Wp.if2 rfl (fun c8 => ?_) (fun c8 => absurd (show ¬ (2 : Int32) = (1 : Int32) by decide) c8)
  refine Wp.seg 2 (pc1 := 94) (ls1 := [some (.ref 0), some (.int (Int32.ofNat s)), some (.int (k)), some (.int (0)), some (.int (1)), none]) (st1 := [.int (Int32.ofNat s), .ref 0]) rfl ?_
  refine Wp.invV (d2 := 1) (as := [.ref 0, .int (Int32.ofNat s)]) (r := []) (t := (10, 0)) rfl rfl rfl rfl (WF.t hw 0 rfl) rfl rfl ⟨rfl, rfl⟩ (by omega) (t_hdo2 hw hs h45 (Nat.le_refl _) ?_)
  show Wp d 160 97 [some (.ref 0), some (.int (Int32.ofNat s)), some (.int (k)), some (.int (0)), some (.int (1)), none] [.int (-1)] h Q
  refine Wp.seg 2 (pc1 := 101) (ls1 := [some (.ref 0), some (.int (Int32.ofNat s)), some (.int (k)), some (.int (0)), some (.int (1)), some (.int (-1))]) (st1 := [.int (-1)]) rfl ?_
  refine Wp.if1 rfl (fun c9 => absurd c9 (show ¬ (0 ≤ (-1 : Int32)) by decide)) (fun c9 => ?_)
  refine Wp.seg 1 (pc1 := 106) (ls1 := [some (.ref 0), some (.int (Int32.ofNat s)), some (.int (k)), some (.int (0)), some (.int (1)), some (.int (-1))]) (st1 := [.int (-11)]) rfl ?_
  exact Wp.reti rfl rfl hQ
set_option maxHeartbeats 4000000 in
theorem t_mtk3r {d : Nat} {Q : KO → Prop} {h : KH} (hw : WF h) {s : Nat} (hs : s < 4) (qs : inB (Int32.ofNat s) 0 3 = true) {k : Int32} (h71 : h.2.2.1 71 s = 2) (m0 : inB k 0 5 = false) (m1 : inB k 10 14 = true) (m2 : (6 : Int32) ≤ k) (hd : 3 ≤ d) (hQ : Q (some (.int (-11)), h)) : Cl d 273 [.ref 59, .int (Int32.ofNat s), .int (k)] h Q := by
  refine Cl.of (ls := [some (.ref 59), some (.int (Int32.ofNat s)), some (.int (k))]) rfl rfl ?_
  refine Wp.seg 1 (pc1 := 1) (ls1 := [some (.ref 59), some (.int (Int32.ofNat s)), some (.int (k))]) (st1 := [.int (Int32.ofNat s)]) rfl ?_
  refine Wp.inv (d2 := 1) (as := [.int (Int32.ofNat s)]) (r := []) rfl rfl rfl rfl rfl rfl (by omega) (s_b177 (Nat.le_refl _) ?_)
  show Wp d 273 4 [some (.ref 59), some (.int (Int32.ofNat s)), some (.int (k))] [.int (b32 (inB (Int32.ofNat s) 0 3))] h Q
  refine Wp.ifz rfl (fun c1 => absurd (c1.symm.trans (qs)) (by decide)) (fun c1 => ?_)
  refine Wp.seg 3 (pc1 := 10) (ls1 := [some (.ref 59), some (.int (Int32.ofNat s)), some (.int (k))]) (st1 := [.int (5), .int (0), .int (k)]) rfl ?_
  refine Wp.inv (d2 := 0) (as := [.int (k), .int (0), .int (5)]) (r := []) rfl rfl rfl rfl rfl rfl (by omega) (s_inB (x := 0) (y := 5) rfl rfl ?_)
  show Wp d 273 13 [some (.ref 59), some (.int (Int32.ofNat s)), some (.int (k))] [.int (b32 (inB k 0 5))] h Q
  refine Wp.ifnz rfl (fun c2 => absurd (c2.symm.trans (m0)) (by decide)) (fun c2 => ?_)
  refine Wp.seg 3 (pc1 := 21) (ls1 := [some (.ref 59), some (.int (Int32.ofNat s)), some (.int (k))]) (st1 := [.int (14), .int (10), .int (k)]) rfl ?_
  refine Wp.inv (d2 := 0) (as := [.int (k), .int (10), .int (14)]) (r := []) rfl rfl rfl rfl rfl rfl (by omega) (s_inB (x := 10) (y := 14) rfl rfl ?_)
  show Wp d 273 24 [some (.ref 59), some (.int (Int32.ofNat s)), some (.int (k))] [.int (b32 (inB k 10 14))] h Q
  refine Wp.ifnz rfl (fun c3 => ?_) (fun c3 => absurd (c3.symm.trans (m1)) (by decide))
  refine Wp.seg 2 (pc1 := 31) (ls1 := [some (.ref 59), some (.int (Int32.ofNat s)), some (.int (k))]) (st1 := [.int (Int32.ofNat s), .ref 59]) rfl ?_
  refine Wp.invV (d2 := 2) (as := [.ref 59, .int (Int32.ofNat s)]) (r := []) (t := (11, 0)) rfl rfl rfl rfl (WF.t hw 59 rfl) rfl rfl ⟨rfl, rfl⟩ (by omega) (t_hsh2 hw hs h71 (Nat.le_refl _) ?_)
  show Wp d 273 34 [some (.ref 59), some (.int (Int32.ofNat s)), some (.int (k))] [.int (0)] h Q
  refine Wp.if1 rfl (fun c4 => ?_) (fun c4 => absurd (show (0 : Int32) = 0 by decide) c4)
  refine Wp.seg 1 (pc1 := 74) (ls1 := [some (.ref 59), some (.int (Int32.ofNat s)), some (.int (k))]) (st1 := [.ref 59]) rfl ?_
  refine Wp.gr (t := (11, 0)) (v := some (71)) rfl (WF.t hw 59 rfl) rfl (WF.r hw 59 25 69 rfl) ?_
  show Wp d 273 77 [some (.ref 59), some (.int (Int32.ofNat s)), some (.int (k))] [.ref 71] h Q
  refine Wp.seg 1 (pc1 := 78) (ls1 := [some (.ref 59), some (.int (Int32.ofNat s)), some (.int (k))]) (st1 := [.int (Int32.ofNat s), .ref 71]) rfl ?_
  refine Wp.iald (j := s) (k := 20) (n := 4) rfl (WF.t hw 71 rfl) rfl rfl hs (by decide) ?_
  rw [show h.2.2.1 71 s = 2 from h71]
  refine Wp.seg 1 (pc1 := 80) (ls1 := [some (.ref 59), some (.int (Int32.ofNat s)), some (.int (k))]) (st1 := [.int (1), .int (2)]) rfl ?_
  refine Wp.if2 rfl (fun c5 => absurd c5 (show ¬ ((2 : Int32) = (1 : Int32)) by decide)) (fun c5 => ?_)
  refine Wp.seg 1 (pc1 := 85) (ls1 := [some (.ref 59), some (.int (Int32.ofNat s)), some (.int (k))]) (st1 := [.int (-11)]) rfl ?_
  exact Wp.reti rfl rfl hQ
set_option maxHeartbeats 4000000 in
theorem t_ctk4r {d : Nat} {Q : KO → Prop} {h : KH} (hw : WF h) {s : Nat} (hs : s < 4) (qs : inB (Int32.ofNat s) 0 3 = true) {k : Int32} {A : Nat → Int32} {RL : List Rul} {n c dn en : Nat} (hk : cityOK h 1 A RL n c dn en) (h45 : h.2.2.1 45 s = 0) {sb : Int32} (h46 : h.2.2.1 46 s = sb) (qx : inB sb 0 ((n : Int) - 1) = false) (n0 : ¬ (k < 0)) (n1 : (5 : Int32) < k) (n2 : ¬ (k < 10)) (n3 : ¬ ((15 : Int32) ≤ k)) (hd : 3 ≤ d) (hQ : Q (some (.int (-11)), h)) : Cl d 160 [.ref 0, .int (Int32.ofNat s), .int (k)] h Q := by
  refine Cl.of (ls := [some (.ref 0), some (.int (Int32.ofNat s)), some (.int (k)), none, none, none]) rfl rfl ?_
  refine Wp.seg 1 (pc1 := 1) (ls1 := [some (.ref 0), some (.int (Int32.ofNat s)), some (.int (k)), none, none, none]) (st1 := [.int (k)]) rfl ?_
  refine Wp.if1 rfl (fun c1 => absurd c1 (n0)) (fun c1 => ?_)
  refine Wp.seg 2 (pc1 := 6) (ls1 := [some (.ref 0), some (.int (Int32.ofNat s)), some (.int (k)), none, none, none]) (st1 := [.int (5), .int (k)]) rfl ?_
  refine Wp.if2 rfl (fun c2 => ?_) (fun c2 => absurd (n1) c2)
  refine Wp.seg 4 (pc1 := 18) (ls1 := [some (.ref 0), some (.int (Int32.ofNat s)), some (.int (k)), some (.int (0)), none, none]) (st1 := [.int (10), .int (k)]) rfl ?_
  refine Wp.if2 rfl (fun c3 => absurd c3 (n2)) (fun c3 => ?_)
  refine Wp.seg 2 (pc1 := 24) (ls1 := [some (.ref 0), some (.int (Int32.ofNat s)), some (.int (k)), some (.int (0)), none, none]) (st1 := [.int (15), .int (k)]) rfl ?_
  refine Wp.if2 rfl (fun c4 => absurd c4 (n3)) (fun c4 => ?_)
  refine Wp.seg 4 (pc1 := 35) (ls1 := [some (.ref 0), some (.int (Int32.ofNat s)), some (.int (k)), some (.int (0)), some (.int (1)), none]) (st1 := [.int (Int32.ofNat s)]) rfl ?_
  refine Wp.inv (d2 := 0) (as := [.int (Int32.ofNat s)]) (r := []) rfl rfl rfl rfl rfl rfl (by omega) (s_b164 ?_)
  show Wp d 160 38 [some (.ref 0), some (.int (Int32.ofNat s)), some (.int (k)), some (.int (0)), some (.int (1)), none] [.int (b32 (inB (Int32.ofNat s) 0 3))] h Q
  refine Wp.ifz rfl (fun c5 => absurd (c5.symm.trans (qs)) (by decide)) (fun c5 => ?_)
  refine Wp.seg 1 (pc1 := 42) (ls1 := [some (.ref 0), some (.int (Int32.ofNat s)), some (.int (k)), some (.int (0)), some (.int (1)), none]) (st1 := [.int (0)]) rfl ?_
  refine Wp.if1 rfl (fun c6 => absurd c6 (show ¬ (¬ (0 : Int32) = 0) by decide)) (fun c6 => ?_)
  refine Wp.seg 1 (pc1 := 47) (ls1 := [some (.ref 0), some (.int (Int32.ofNat s)), some (.int (k)), some (.int (0)), some (.int (1)), none]) (st1 := [.int (1)]) rfl ?_
  refine Wp.if1 rfl (fun c7 => ?_) (fun c7 => absurd (show ¬ (1 : Int32) = 0 by decide) c7)
  refine Wp.seg 1 (pc1 := 53) (ls1 := [some (.ref 0), some (.int (Int32.ofNat s)), some (.int (k)), some (.int (0)), some (.int (1)), none]) (st1 := [.ref 0]) rfl ?_
  refine Wp.gr (t := (10, 0)) (v := some (45)) rfl (WF.t hw 0 rfl) rfl (WF.r hw 0 11 9 rfl) ?_
  show Wp d 160 56 [some (.ref 0), some (.int (Int32.ofNat s)), some (.int (k)), some (.int (0)), some (.int (1)), none] [.ref 45] h Q
  refine Wp.seg 1 (pc1 := 57) (ls1 := [some (.ref 0), some (.int (Int32.ofNat s)), some (.int (k)), some (.int (0)), some (.int (1)), none]) (st1 := [.int (Int32.ofNat s), .ref 45]) rfl ?_
  refine Wp.iald (j := s) (k := 20) (n := 4) rfl (WF.t hw 45 rfl) rfl rfl hs (by decide) ?_
  rw [show h.2.2.1 45 s = 0 from h45]
  refine Wp.seg 1 (pc1 := 59) (ls1 := [some (.ref 0), some (.int (Int32.ofNat s)), some (.int (k)), some (.int (0)), some (.int (1)), none]) (st1 := [.int (1), .int (0)]) rfl ?_
  refine Wp.if2 rfl (fun c8 => ?_) (fun c8 => absurd (show ¬ (0 : Int32) = (1 : Int32) by decide) c8)
  refine Wp.seg 2 (pc1 := 94) (ls1 := [some (.ref 0), some (.int (Int32.ofNat s)), some (.int (k)), some (.int (0)), some (.int (1)), none]) (st1 := [.int (Int32.ofNat s), .ref 0]) rfl ?_
  refine Wp.invV (d2 := 1) (as := [.ref 0, .int (Int32.ofNat s)]) (r := []) (t := (10, 0)) rfl rfl rfl rfl (WF.t hw 0 rfl) rfl rfl ⟨rfl, rfl⟩ (by omega) (t_hdo0 hw hs hk h45 h46 qx (Nat.le_refl _) ?_)
  show Wp d 160 97 [some (.ref 0), some (.int (Int32.ofNat s)), some (.int (k)), some (.int (0)), some (.int (1)), none] [.int (-1)] h Q
  refine Wp.seg 2 (pc1 := 101) (ls1 := [some (.ref 0), some (.int (Int32.ofNat s)), some (.int (k)), some (.int (0)), some (.int (1)), some (.int (-1))]) (st1 := [.int (-1)]) rfl ?_
  refine Wp.if1 rfl (fun c9 => absurd c9 (show ¬ (0 ≤ (-1 : Int32)) by decide)) (fun c9 => ?_)
  refine Wp.seg 1 (pc1 := 106) (ls1 := [some (.ref 0), some (.int (Int32.ofNat s)), some (.int (k)), some (.int (0)), some (.int (1)), some (.int (-1))]) (st1 := [.int (-11)]) rfl ?_
  exact Wp.reti rfl rfl hQ
set_option maxHeartbeats 4000000 in
theorem t_mtk4r {d : Nat} {Q : KO → Prop} {h : KH} (hw : WF h) {s : Nat} (hs : s < 4) (qs : inB (Int32.ofNat s) 0 3 = true) {k : Int32} {A : Nat → Int32} {RL : List Rul} {n c dn en : Nat} (hk : refOK h A RL n c dn en) (h71 : h.2.2.1 71 s = 0) {sb : Int32} (h72 : h.2.2.1 72 s = sb) (qx : inB sb 0 ((n : Int) - 1) = false) (m0 : inB k 0 5 = false) (m1 : inB k 10 14 = true) (m2 : (6 : Int32) ≤ k) (hd : 3 ≤ d) (hQ : Q (some (.int (-11)), h)) : Cl d 273 [.ref 59, .int (Int32.ofNat s), .int (k)] h Q := by
  refine Cl.of (ls := [some (.ref 59), some (.int (Int32.ofNat s)), some (.int (k))]) rfl rfl ?_
  refine Wp.seg 1 (pc1 := 1) (ls1 := [some (.ref 59), some (.int (Int32.ofNat s)), some (.int (k))]) (st1 := [.int (Int32.ofNat s)]) rfl ?_
  refine Wp.inv (d2 := 1) (as := [.int (Int32.ofNat s)]) (r := []) rfl rfl rfl rfl rfl rfl (by omega) (s_b177 (Nat.le_refl _) ?_)
  show Wp d 273 4 [some (.ref 59), some (.int (Int32.ofNat s)), some (.int (k))] [.int (b32 (inB (Int32.ofNat s) 0 3))] h Q
  refine Wp.ifz rfl (fun c1 => absurd (c1.symm.trans (qs)) (by decide)) (fun c1 => ?_)
  refine Wp.seg 3 (pc1 := 10) (ls1 := [some (.ref 59), some (.int (Int32.ofNat s)), some (.int (k))]) (st1 := [.int (5), .int (0), .int (k)]) rfl ?_
  refine Wp.inv (d2 := 0) (as := [.int (k), .int (0), .int (5)]) (r := []) rfl rfl rfl rfl rfl rfl (by omega) (s_inB (x := 0) (y := 5) rfl rfl ?_)
  show Wp d 273 13 [some (.ref 59), some (.int (Int32.ofNat s)), some (.int (k))] [.int (b32 (inB k 0 5))] h Q
  refine Wp.ifnz rfl (fun c2 => absurd (c2.symm.trans (m0)) (by decide)) (fun c2 => ?_)
  refine Wp.seg 3 (pc1 := 21) (ls1 := [some (.ref 59), some (.int (Int32.ofNat s)), some (.int (k))]) (st1 := [.int (14), .int (10), .int (k)]) rfl ?_
  refine Wp.inv (d2 := 0) (as := [.int (k), .int (10), .int (14)]) (r := []) rfl rfl rfl rfl rfl rfl (by omega) (s_inB (x := 10) (y := 14) rfl rfl ?_)
  show Wp d 273 24 [some (.ref 59), some (.int (Int32.ofNat s)), some (.int (k))] [.int (b32 (inB k 10 14))] h Q
  refine Wp.ifnz rfl (fun c3 => ?_) (fun c3 => absurd (c3.symm.trans (m1)) (by decide))
  refine Wp.seg 2 (pc1 := 31) (ls1 := [some (.ref 59), some (.int (Int32.ofNat s)), some (.int (k))]) (st1 := [.int (Int32.ofNat s), .ref 59]) rfl ?_
  refine Wp.invV (d2 := 2) (as := [.ref 59, .int (Int32.ofNat s)]) (r := []) (t := (11, 0)) rfl rfl rfl rfl (WF.t hw 59 rfl) rfl rfl ⟨rfl, rfl⟩ (by omega) (t_hsh0 hw hs hk h71 h72 qx (Nat.le_refl _) ?_)
  show Wp d 273 34 [some (.ref 59), some (.int (Int32.ofNat s)), some (.int (k))] [.int (0)] h Q
  refine Wp.if1 rfl (fun c4 => ?_) (fun c4 => absurd (show (0 : Int32) = 0 by decide) c4)
  refine Wp.seg 1 (pc1 := 74) (ls1 := [some (.ref 59), some (.int (Int32.ofNat s)), some (.int (k))]) (st1 := [.ref 59]) rfl ?_
  refine Wp.gr (t := (11, 0)) (v := some (71)) rfl (WF.t hw 59 rfl) rfl (WF.r hw 59 25 69 rfl) ?_
  show Wp d 273 77 [some (.ref 59), some (.int (Int32.ofNat s)), some (.int (k))] [.ref 71] h Q
  refine Wp.seg 1 (pc1 := 78) (ls1 := [some (.ref 59), some (.int (Int32.ofNat s)), some (.int (k))]) (st1 := [.int (Int32.ofNat s), .ref 71]) rfl ?_
  refine Wp.iald (j := s) (k := 20) (n := 4) rfl (WF.t hw 71 rfl) rfl rfl hs (by decide) ?_
  rw [show h.2.2.1 71 s = 0 from h71]
  refine Wp.seg 1 (pc1 := 80) (ls1 := [some (.ref 59), some (.int (Int32.ofNat s)), some (.int (k))]) (st1 := [.int (1), .int (0)]) rfl ?_
  refine Wp.if2 rfl (fun c5 => absurd c5 (show ¬ ((0 : Int32) = (1 : Int32)) by decide)) (fun c5 => ?_)
  refine Wp.seg 1 (pc1 := 85) (ls1 := [some (.ref 59), some (.int (Int32.ofNat s)), some (.int (k))]) (st1 := [.int (-11)]) rfl ?_
  exact Wp.reti rfl rfl hQ
set_option maxHeartbeats 4000000 in
theorem t_ctk5r {d : Nat} {Q : KO → Prop} {h : KH} (hw : WF h) {s : Nat} (hs : s < 4) (qs : inB (Int32.ofNat s) 0 3 = true) {k : Int32} {A : Nat → Int32} {RL : List Rul} {n c dn en : Nat} (hk : cityOK h 1 A RL n c dn en) (h45 : h.2.2.1 45 s = 0) {i : Nat} (h46 : h.2.2.1 46 s = Int32.ofNat i) (qx : inB (Int32.ofNat i) 0 ((n : Int) - 1) = true) {g : Int32} {u : Bool} (hi6 : i < 6) (hg : h.2.2.1 (1 + 1) (4 * i + 0) = g) (eu : f_cUnder g k = b32 u) (ni : ¬ (Int32.ofNat i < 0)) (ni2 : 0 ≤ Int32.ofNat i) (n0 : ¬ (k < 0)) (n1 : (5 : Int32) < k) (n2 : ¬ (k < 10)) (n3 : ¬ ((15 : Int32) ≤ k)) (hd : 3 ≤ d) (hQ : Q (some (.int (-13)), h)) : Cl d 160 [.ref 0, .int (Int32.ofNat s), .int (k)] h Q := by
  refine Cl.of (ls := [some (.ref 0), some (.int (Int32.ofNat s)), some (.int (k)), none, none, none]) rfl rfl ?_
  refine Wp.seg 1 (pc1 := 1) (ls1 := [some (.ref 0), some (.int (Int32.ofNat s)), some (.int (k)), none, none, none]) (st1 := [.int (k)]) rfl ?_
  refine Wp.if1 rfl (fun c1 => absurd c1 (n0)) (fun c1 => ?_)
  refine Wp.seg 2 (pc1 := 6) (ls1 := [some (.ref 0), some (.int (Int32.ofNat s)), some (.int (k)), none, none, none]) (st1 := [.int (5), .int (k)]) rfl ?_
  refine Wp.if2 rfl (fun c2 => ?_) (fun c2 => absurd (n1) c2)
  refine Wp.seg 4 (pc1 := 18) (ls1 := [some (.ref 0), some (.int (Int32.ofNat s)), some (.int (k)), some (.int (0)), none, none]) (st1 := [.int (10), .int (k)]) rfl ?_
  refine Wp.if2 rfl (fun c3 => absurd c3 (n2)) (fun c3 => ?_)
  refine Wp.seg 2 (pc1 := 24) (ls1 := [some (.ref 0), some (.int (Int32.ofNat s)), some (.int (k)), some (.int (0)), none, none]) (st1 := [.int (15), .int (k)]) rfl ?_
  refine Wp.if2 rfl (fun c4 => absurd c4 (n3)) (fun c4 => ?_)
  refine Wp.seg 4 (pc1 := 35) (ls1 := [some (.ref 0), some (.int (Int32.ofNat s)), some (.int (k)), some (.int (0)), some (.int (1)), none]) (st1 := [.int (Int32.ofNat s)]) rfl ?_
  refine Wp.inv (d2 := 0) (as := [.int (Int32.ofNat s)]) (r := []) rfl rfl rfl rfl rfl rfl (by omega) (s_b164 ?_)
  show Wp d 160 38 [some (.ref 0), some (.int (Int32.ofNat s)), some (.int (k)), some (.int (0)), some (.int (1)), none] [.int (b32 (inB (Int32.ofNat s) 0 3))] h Q
  refine Wp.ifz rfl (fun c5 => absurd (c5.symm.trans (qs)) (by decide)) (fun c5 => ?_)
  refine Wp.seg 1 (pc1 := 42) (ls1 := [some (.ref 0), some (.int (Int32.ofNat s)), some (.int (k)), some (.int (0)), some (.int (1)), none]) (st1 := [.int (0)]) rfl ?_
  refine Wp.if1 rfl (fun c6 => absurd c6 (show ¬ (¬ (0 : Int32) = 0) by decide)) (fun c6 => ?_)
  refine Wp.seg 1 (pc1 := 47) (ls1 := [some (.ref 0), some (.int (Int32.ofNat s)), some (.int (k)), some (.int (0)), some (.int (1)), none]) (st1 := [.int (1)]) rfl ?_
  refine Wp.if1 rfl (fun c7 => ?_) (fun c7 => absurd (show ¬ (1 : Int32) = 0 by decide) c7)
  refine Wp.seg 1 (pc1 := 53) (ls1 := [some (.ref 0), some (.int (Int32.ofNat s)), some (.int (k)), some (.int (0)), some (.int (1)), none]) (st1 := [.ref 0]) rfl ?_
  refine Wp.gr (t := (10, 0)) (v := some (45)) rfl (WF.t hw 0 rfl) rfl (WF.r hw 0 11 9 rfl) ?_
  show Wp d 160 56 [some (.ref 0), some (.int (Int32.ofNat s)), some (.int (k)), some (.int (0)), some (.int (1)), none] [.ref 45] h Q
  refine Wp.seg 1 (pc1 := 57) (ls1 := [some (.ref 0), some (.int (Int32.ofNat s)), some (.int (k)), some (.int (0)), some (.int (1)), none]) (st1 := [.int (Int32.ofNat s), .ref 45]) rfl ?_
  refine Wp.iald (j := s) (k := 20) (n := 4) rfl (WF.t hw 45 rfl) rfl rfl hs (by decide) ?_
  rw [show h.2.2.1 45 s = 0 from h45]
  refine Wp.seg 1 (pc1 := 59) (ls1 := [some (.ref 0), some (.int (Int32.ofNat s)), some (.int (k)), some (.int (0)), some (.int (1)), none]) (st1 := [.int (1), .int (0)]) rfl ?_
  refine Wp.if2 rfl (fun c8 => ?_) (fun c8 => absurd (show ¬ (0 : Int32) = (1 : Int32) by decide) c8)
  refine Wp.seg 2 (pc1 := 94) (ls1 := [some (.ref 0), some (.int (Int32.ofNat s)), some (.int (k)), some (.int (0)), some (.int (1)), none]) (st1 := [.int (Int32.ofNat s), .ref 0]) rfl ?_
  refine Wp.invV (d2 := 1) (as := [.ref 0, .int (Int32.ofNat s)]) (r := []) (t := (10, 0)) rfl rfl rfl rfl (WF.t hw 0 rfl) rfl rfl ⟨rfl, rfl⟩ (by omega) (t_hdoy hw hs hk h45 h46 qx (Nat.le_refl _) ?_)
  show Wp d 160 97 [some (.ref 0), some (.int (Int32.ofNat s)), some (.int (k)), some (.int (0)), some (.int (1)), none] [.int (Int32.ofNat i)] h Q
  refine Wp.seg 2 (pc1 := 101) (ls1 := [some (.ref 0), some (.int (Int32.ofNat s)), some (.int (k)), some (.int (0)), some (.int (1)), some (.int (Int32.ofNat i))]) (st1 := [.int (Int32.ofNat i)]) rfl ?_
  refine Wp.if1 rfl (fun c9 => ?_) (fun c9 => absurd (ni2) c9)
  refine Wp.seg 1 (pc1 := 108) (ls1 := [some (.ref 0), some (.int (Int32.ofNat s)), some (.int (k)), some (.int (0)), some (.int (1)), some (.int (Int32.ofNat i))]) (st1 := [.int (0)]) rfl ?_
  refine Wp.if1 rfl (fun c10 => ?_) (fun c10 => absurd (show (0 : Int32) = 0 by decide) c10)
  refine Wp.seg 1 (pc1 := 135) (ls1 := [some (.ref 0), some (.int (Int32.ofNat s)), some (.int (k)), some (.int (0)), some (.int (1)), some (.int (Int32.ofNat i))]) (st1 := [.int (-13)]) rfl ?_
  exact Wp.reti rfl rfl hQ
set_option maxHeartbeats 4000000 in
theorem t_mtk5r {d : Nat} {Q : KO → Prop} {h : KH} (hw : WF h) {s : Nat} (hs : s < 4) (qs : inB (Int32.ofNat s) 0 3 = true) {k : Int32} {A : Nat → Int32} {RL : List Rul} {n c dn en : Nat} (hk : refOK h A RL n c dn en) (h71 : h.2.2.1 71 s = 0) {i : Nat} (h72 : h.2.2.1 72 s = Int32.ofNat i) (qx : inB (Int32.ofNat i) 0 ((n : Int) - 1) = true) {g : Int32} {u : Bool} (hi6 : i < 6) (hg : h.2.2.1 60 (11 + 4 * i + 0) = g) (eu : f_isUnder g k = b32 u) (m0 : inB k 0 5 = false) (m1 : inB k 10 14 = true) (m2 : (6 : Int32) ≤ k) (hd : 3 ≤ d) (hQ : Q (some (.int (-13)), h)) : Cl d 273 [.ref 59, .int (Int32.ofNat s), .int (k)] h Q := by
  refine Cl.of (ls := [some (.ref 59), some (.int (Int32.ofNat s)), some (.int (k))]) rfl rfl ?_
  refine Wp.seg 1 (pc1 := 1) (ls1 := [some (.ref 59), some (.int (Int32.ofNat s)), some (.int (k))]) (st1 := [.int (Int32.ofNat s)]) rfl ?_
  refine Wp.inv (d2 := 1) (as := [.int (Int32.ofNat s)]) (r := []) rfl rfl rfl rfl rfl rfl (by omega) (s_b177 (Nat.le_refl _) ?_)
  show Wp d 273 4 [some (.ref 59), some (.int (Int32.ofNat s)), some (.int (k))] [.int (b32 (inB (Int32.ofNat s) 0 3))] h Q
  refine Wp.ifz rfl (fun c1 => absurd (c1.symm.trans (qs)) (by decide)) (fun c1 => ?_)
  refine Wp.seg 3 (pc1 := 10) (ls1 := [some (.ref 59), some (.int (Int32.ofNat s)), some (.int (k))]) (st1 := [.int (5), .int (0), .int (k)]) rfl ?_
  refine Wp.inv (d2 := 0) (as := [.int (k), .int (0), .int (5)]) (r := []) rfl rfl rfl rfl rfl rfl (by omega) (s_inB (x := 0) (y := 5) rfl rfl ?_)
  show Wp d 273 13 [some (.ref 59), some (.int (Int32.ofNat s)), some (.int (k))] [.int (b32 (inB k 0 5))] h Q
  refine Wp.ifnz rfl (fun c2 => absurd (c2.symm.trans (m0)) (by decide)) (fun c2 => ?_)
  refine Wp.seg 3 (pc1 := 21) (ls1 := [some (.ref 59), some (.int (Int32.ofNat s)), some (.int (k))]) (st1 := [.int (14), .int (10), .int (k)]) rfl ?_
  refine Wp.inv (d2 := 0) (as := [.int (k), .int (10), .int (14)]) (r := []) rfl rfl rfl rfl rfl rfl (by omega) (s_inB (x := 10) (y := 14) rfl rfl ?_)
  show Wp d 273 24 [some (.ref 59), some (.int (Int32.ofNat s)), some (.int (k))] [.int (b32 (inB k 10 14))] h Q
  refine Wp.ifnz rfl (fun c3 => ?_) (fun c3 => absurd (c3.symm.trans (m1)) (by decide))
  refine Wp.seg 2 (pc1 := 31) (ls1 := [some (.ref 59), some (.int (Int32.ofNat s)), some (.int (k))]) (st1 := [.int (Int32.ofNat s), .ref 59]) rfl ?_
  refine Wp.invV (d2 := 2) (as := [.ref 59, .int (Int32.ofNat s)]) (r := []) (t := (11, 0)) rfl rfl rfl rfl (WF.t hw 59 rfl) rfl rfl ⟨rfl, rfl⟩ (by omega) (t_hshy hw hs hk h71 h72 qx (Nat.le_refl _) ?_)
  show Wp d 273 34 [some (.ref 59), some (.int (Int32.ofNat s)), some (.int (k))] [.int (1)] h Q
  refine Wp.if1 rfl (fun c4 => absurd c4 (show ¬ ((1 : Int32) = 0) by decide)) (fun c4 => ?_)
  refine Wp.seg 2 (pc1 := 40) (ls1 := [some (.ref 59), some (.int (Int32.ofNat s)), some (.int (k))]) (st1 := [.int (6), .int (k)]) rfl ?_
  refine Wp.if2 rfl (fun c5 => ?_) (fun c5 => absurd (m2) c5)
  refine Wp.seg 1 (pc1 := 72) (ls1 := [some (.ref 59), some (.int (Int32.ofNat s)), some (.int (k))]) (st1 := [.int (-13)]) rfl ?_
  exact Wp.reti rfl rfl hQ
theorem und_b (v f : Int32) : ∃ u, f_isUnder v f = b32 u := by
  unfold f_isUnder
  repeat' split
  all_goals first | exact ⟨false, rfl⟩ | exact ⟨true, rfl⟩
theorem und_eq (v f : Int32) : f_cUnder v f = f_isUnder v f := by
  unfold f_cUnder f_isUnder
  by_cases h1 : f = 0
  · simp [h1]
  · by_cases h2 : v = f
    · simp [h1, h2]
    · by_cases h3 : v = 3
      · by_cases h4 : f = 2
        · simp [h3, h4]
        · by_cases h5 : f = 4
          · simp [h3, h5]
          · simp_all
      · by_cases h6 : v = 5
        · by_cases h7 : f = 4
          · simp [h6, h7]
          · by_cases h8 : f = 2
            · simp [h6, h8]
            · simp_all
        · simp_all
theorem tk_eq : ∀ m, m < 5 → ∀ q, q < 15 → q < 10 ∨ decide (Int32.ofNat m = Int32.ofNat q - 10) = decide (Int32.ofNat q = 10 + Int32.ofNat m) := by decide +kernel
theorem tk_ne : ∀ m, m < 5 → ∀ q, q < 6 → ¬ (Int32.ofNat q = 10 + Int32.ofNat m) := by decide +kernel
theorem J_taken {h : KH} (hi : Inv h) (v k : Int32) : JI h 160 [.ref 0, .int v, .int k] 273 [.ref 59, .int v, .int k] := by
  have hw := hi.1
  obtain ⟨_, ⟨A, RL, n, c, dn, en, RP, hb, _⟩, ho, hf⟩ := id hi
  have hk := hb.1
  have hm := hb.2
  have hn6 : n ≤ 6 := hm.2.1.1
  have a0 : k < 0 ↔ k.toInt < 0 := Int32.lt_iff_toInt_lt
  have a5 : (5 : Int32) < k ↔ 5 < k.toInt := Int32.lt_iff_toInt_lt
  have a10 : k < 10 ↔ k.toInt < 10 := Int32.lt_iff_toInt_lt
  have a15 : (15 : Int32) ≤ k ↔ 15 ≤ k.toInt := Int32.le_iff_toInt_le
  have a6 : k < 6 ↔ k.toInt < 6 := Int32.lt_iff_toInt_lt
  have a6' : (6 : Int32) ≤ k ↔ 6 ≤ k.toInt := Int32.le_iff_toInt_le
  by_cases kk : 0 ≤ k.toInt ∧ k.toInt ≤ 5
  · have n0 : ¬ (k < 0) := by rw [a0]; omega
    have n1 : ¬ ((5 : Int32) < k) := by rw [a5]; omega
    have n2 : k < 10 := by rw [a10]; omega
    have m0 : inB k 0 5 = true := inB_t kk
    have m1 : k < 6 := by rw [a6]; omega
    have m2 : ¬ ((6 : Int32) ≤ k) := by rw [a6']; omega
    rcases hq : inB v 0 3 with _ | _
    · exact JI_same (dc := 3) (dm := 3) hi (t_ctk0k hw hq n0 n1 n2 (Nat.le_refl _) rfl) (t_mtk0k hw hq m0 m1 m2 (Nat.le_refl _) rfl)
    obtain ⟨s, hs0, rfl⟩ := inB_nat (b := 3) hq
    have hs : s < 4 := by omega
    obtain ⟨s1, s2⟩ := hi.2.2.1.2.2.2.2.1 s hs
    rcases s2 with e | ⟨e, e2⟩ | ⟨e, e2, e3, e4⟩
    · exact JI_same (dc := 3) (dm := 3) hi (t_ctk3k hw hs hq e n0 n1 n2 (Nat.le_refl _) rfl) (t_mtk3k hw hs hq (s1.symm.trans e) m0 m1 m2 (Nat.le_refl _) rfl)
    · rcases hx : inB (h.2.2.1 46 s) 0 ((n : Int) - 1) with _ | _
      · exact JI_same (dc := 3) (dm := 3) hi (t_ctk4k hw hs hq hk e rfl hx n0 n1 n2 (Nat.le_refl _) rfl) (t_mtk4k hw hs hq hm (s1.symm.trans e) e2.symm hx m0 m1 m2 (Nat.le_refl _) rfl)
      · obtain ⟨i, hin, ei⟩ := inB_lt hx
        rw [ei] at hx
        have ni2 : 0 ≤ Int32.ofNat i := nlt0 (by omega)
        obtain ⟨u, eu⟩ := und_b (A (11 + 4 * i + 0)) k
        have hg1 := c_get hk (j := i) (w := 0) (by omega)
        have hg2 := m_get hm (j := i) (w := 0) (by omega)
        cases u with
        | false => exact JI_same (v := -13) (dc := 3) (dm := 3) hi (t_ctk5k hw hs hq hk e ei hx (by omega) hg1 ((und_eq _ _).trans eu) (nlt (by omega)) ni2 n0 n1 n2 (Nat.le_refl _) ⟨fun _ => rfl, fun z => (by cases z)⟩) (t_mtk5k hw hs hq hm (s1.symm.trans e) (e2.symm.trans ei) hx (by omega) hg2 eu m0 m1 m2 (Nat.le_refl _) ⟨fun _ => rfl, fun z => (by cases z)⟩)
        | true => exact JI_same (v := Int32.ofNat i) (dc := 3) (dm := 3) hi (t_ctk5k hw hs hq hk e ei hx (by omega) hg1 ((und_eq _ _).trans eu) (nlt (by omega)) ni2 n0 n1 n2 (Nat.le_refl _) ⟨fun z => (by cases z), fun _ => rfl⟩) (t_mtk5k hw hs hq hm (s1.symm.trans e) (e2.symm.trans ei) hx (by omega) hg2 eu m0 m1 m2 (Nat.le_refl _) ⟨fun z => (by cases z), fun _ => rfl⟩)
    · obtain ⟨m, hm4, em⟩ := inB_nat (b := 4) e4
      obtain ⟨q, hq5, eq⟩ := inB_nat (b := 5) m0
      refine JI_same (dc := 3) (dm := 3) hi (t_ctk2k hw hs hq e rfl rfl n0 n1 n2 (Nat.le_refl _) rfl) (t_mtk2k hw hs hq (s1.symm.trans e) e2.symm e3.symm m0 m1 m2 (Nat.le_refl _) ⟨fun _ => rfl, fun z => absurd (Classical.not_not.mp z) ?_⟩)
      rw [em, eq]
      exact tk_ne m (by omega) q (by omega)
  by_cases kr : 10 ≤ k.toInt ∧ k.toInt ≤ 14
  · have n0 : ¬ (k < 0) := by rw [a0]; omega
    have n1 : (5 : Int32) < k := by rw [a5]; omega
    have n2 : ¬ (k < 10) := by rw [a10]; omega
    have n3 : ¬ ((15 : Int32) ≤ k) := by rw [a15]; omega
    have m0 : inB k 0 5 = false := inB_f kk
    have m1 : inB k 10 14 = true := inB_t kr
    have m2 : (6 : Int32) ≤ k := by rw [a6']; omega
    rcases hq : inB v 0 3 with _ | _
    · exact JI_same (dc := 3) (dm := 3) hi (t_ctk0r hw hq n0 n1 n2 n3 (Nat.le_refl _) rfl) (t_mtk0r hw hq m0 m1 m2 (Nat.le_refl _) rfl)
    obtain ⟨s, hs0, rfl⟩ := inB_nat (b := 3) hq
    have hs : s < 4 := by omega
    obtain ⟨s1, s2⟩ := hi.2.2.1.2.2.2.2.1 s hs
    rcases s2 with e | ⟨e, e2⟩ | ⟨e, e2, e3, e4⟩
    · exact JI_same (dc := 3) (dm := 3) hi (t_ctk3r hw hs hq e n0 n1 n2 n3 (Nat.le_refl _) rfl) (t_mtk3r hw hs hq (s1.symm.trans e) m0 m1 m2 (Nat.le_refl _) rfl)
    · rcases hx : inB (h.2.2.1 46 s) 0 ((n : Int) - 1) with _ | _
      · exact JI_same (dc := 3) (dm := 3) hi (t_ctk4r hw hs hq hk e rfl hx n0 n1 n2 n3 (Nat.le_refl _) rfl) (t_mtk4r hw hs hq hm (s1.symm.trans e) e2.symm hx m0 m1 m2 (Nat.le_refl _) rfl)
      · obtain ⟨i, hin, ei⟩ := inB_lt hx
        rw [ei] at hx
        have ni2 : 0 ≤ Int32.ofNat i := nlt0 (by omega)
        obtain ⟨u, eu⟩ := und_b (A (11 + 4 * i + 0)) k
        have hg1 := c_get hk (j := i) (w := 0) (by omega)
        have hg2 := m_get hm (j := i) (w := 0) (by omega)
        exact JI_same (v := -13) (dc := 3) (dm := 3) hi (t_ctk5r hw hs hq hk e ei hx (by omega) hg1 ((und_eq _ _).trans eu) (nlt (by omega)) ni2 n0 n1 n2 n3 (Nat.le_refl _) rfl) (t_mtk5r hw hs hq hm (s1.symm.trans e) (e2.symm.trans ei) hx (by omega) hg2 eu m0 m1 m2 (Nat.le_refl _) rfl)
    · obtain ⟨m, hm4, em⟩ := inB_nat (b := 4) e4
      obtain ⟨k', hk14, ek⟩ := inB_nat (b := 14) (inB_t (v := k) (a := 0) (b := 14) (by omega))
      have kt : k.toInt = (k' : Int) := by rw [ek]; exact znat (by omega)
      have te := (tk_eq m (by omega) k' (by omega)).resolve_left (by omega)
      rw [decide_eq_decide] at te
      by_cases z : h.2.2.1 46 s = k - 10
      · have z2 : k = 10 + h.2.2.1 46 s := by
          rw [em, ek] at z ⊢
          exact te.mp z
        exact JI_same (v := h.2.2.1 47 s) (dc := 3) (dm := 3) hi (t_ctk2r hw hs hq e rfl rfl n0 n1 n2 n3 (Nat.le_refl _) ⟨fun y => absurd z y, fun _ => rfl⟩) (t_mtk2r hw hs hq (s1.symm.trans e) e2.symm e3.symm m0 m1 m2 (Nat.le_refl _) ⟨fun y => absurd z2 y, fun _ => rfl⟩)
      · have z2 : ¬ k = 10 + h.2.2.1 46 s := fun y => z (by
          rw [em, ek] at y ⊢
          exact te.mpr y)
        exact JI_same (v := -13) (dc := 3) (dm := 3) hi (t_ctk2r hw hs hq e rfl rfl n0 n1 n2 n3 (Nat.le_refl _) ⟨fun _ => rfl, fun y => absurd z y⟩) (t_mtk2r hw hs hq (s1.symm.trans e) e2.symm e3.symm m0 m1 m2 (Nat.le_refl _) ⟨fun _ => rfl, fun y => absurd z2 y⟩)
  have m0 : inB k 0 5 = false := inB_f kk
  have m1 : inB k 10 14 = false := inB_f kr
  have cl : Cl 3 160 [.ref 0, .int v, .int k] h (fun o => o = (some (.int (-1)), h)) := by
    by_cases c1 : k.toInt < 0
    · have n0 : k < 0 := a0.mpr c1
      have n1 : k < 10 := by rw [a10]; omega
      rcases hq : inB v 0 3 with _ | _
      · exact t_ctk0a hw hq n0 n1 (Nat.le_refl _) rfl
      · exact t_ctk1a hw hq n0 n1 (Nat.le_refl _) rfl
    · have n0 : ¬ (k < 0) := fun z => c1 (a0.mp z)
      have n1 : (5 : Int32) < k := by rw [a5]; omega
      by_cases c2 : k.toInt < 10
      · have n2 : k < 10 := a10.mpr c2
        rcases hq : inB v 0 3 with _ | _
        · exact t_ctk0b hw hq n0 n1 n2 (Nat.le_refl _) rfl
        · exact t_ctk1b hw hq n0 n1 n2 (Nat.le_refl _) rfl
      · have n2 : ¬ (k < 10) := fun z => c2 (a10.mp z)
        have n3 : (15 : Int32) ≤ k := by rw [a15]; omega
        rcases hq : inB v 0 3 with _ | _
        · exact t_ctk0c hw hq n0 n1 n2 n3 (Nat.le_refl _) rfl
        · exact t_ctk1c hw hq n0 n1 n2 n3 (Nat.le_refl _) rfl
  refine JI_same (v := -1) (dc := 3) (dm := 3) hi cl ?_
  rcases hq : inB v 0 3 with _ | _
  · exact t_mtk0a hw hq m0 m1 (Nat.le_refl _) rfl
  · exact t_mtk1a hw hq m0 m1 (Nat.le_refl _) rfl
