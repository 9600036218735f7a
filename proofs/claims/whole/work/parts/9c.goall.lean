/-! KM: both sides: goAll -/
theorem t_rfs2 {d : Nat} {Q : KO → Prop} {h : KH} (hw : WF h) {s : Nat} {so w : Int32} (hs : s < 4) (h38 : h.2.2.1 38 s = so) (h1 : so = -1 → Q (some (.int (-11)), h)) (h2 : ¬ so = -1 → so = w → Q (some (.int 0), h)) (h3 : ¬ so = -1 → ¬ so = w → Q (some (.int (-13)), h)) : Cl d 156 [.ref 0, .int (Int32.ofNat s), .int w] h Q :=
  t_rfs hw hs h38 (Nat.zero_le _) ⟨fun a => ⟨fun b => h3 a b, fun b => h2 a (Classical.not_not.mp b)⟩, fun a => h1 (Classical.not_not.mp a)⟩
theorem i64a {w : Int32} {i : Nat} (hi : i ≤ 100) : (w.toInt64 + (Int32.ofNat i).toInt64).toInt = w.toInt + i := by
  have h1 := w.toInt_lt
  have h2 := w.le_toInt
  rw [Int64.toInt_add, Int32.toInt_toInt64, Int32.toInt_toInt64, znat (n := i) (by omega)]
  exact Int.bmod_eq_of_le (by omega) (by omega)
theorem i32a {w : Int32} {i : Nat} (hi : i ≤ 100) : (w + Int32.ofNat i).toInt = if w.toInt + i < 2147483648 then w.toInt + i else w.toInt + i - 4294967296 := by
  have h1 := w.toInt_lt
  have h2 := w.le_toInt
  rw [Int32.toInt_add, znat (n := i) (by omega)]
  split
  · exact Int.bmod_eq_of_le (by omega) (by omega)
  · rw [← Int.sub_bmod_right]
    exact Int.bmod_eq_of_le (by omega) (by omega)
theorem sixj {s j : Nat} {w : Int32} {i : Int32} (e : w + i = Int32.ofNat j) : (40 : Int32) * Int32.ofNat s + w + i = Int32.ofNat (40 * s + j) := by
  rw [Int32.add_assoc, e]
  exact six s j
set_option maxHeartbeats 4000000 in
theorem t_isPl {d : Nat} {Q : KO → Prop} {h : KH} (hw : WF h) {s : Nat} {so : Int32} (hs : s < 4) {z : Nat} (hz : z ≤ 40) (h69 : h.2.2.1 69 s = Int32.ofNat z) {x : Int64} (hd : 0 ≤ d) (hQ : ((lg_cmp x (0 : Int64)) < 0 → Q (some (.int (0)), h)) ∧ (¬ ((lg_cmp x (0 : Int64)) < 0) → (0 ≤ (lg_cmp x ((Int32.ofNat z).toInt64)) → Q (some (.int (0)), h)) ∧ (¬ (0 ≤ (lg_cmp x ((Int32.ofNat z).toInt64))) → Q (some (.int (1)), h)))) : Cl d 268 [.ref 59, .int (Int32.ofNat s), .long (x)] h Q := by
  refine Cl.of (ls := [some (.ref 59), some (.int (Int32.ofNat s)), some (.long (x)), none]) rfl rfl ?_
  refine Wp.seg 3 (pc1 := 3) (ls1 := [some (.ref 59), some (.int (Int32.ofNat s)), some (.long (x)), none]) (st1 := [.int (lg_cmp x (0 : Int64))]) rfl ?_
  refine Wp.if1 rfl (fun (c1 : (lg_cmp x (0 : Int64)) < 0) => ?_) (fun (c1 : ¬ ((lg_cmp x (0 : Int64)) < 0)) => ?_)
  · refine Wp.seg 1 (pc1 := 23) (ls1 := [some (.ref 59), some (.int (Int32.ofNat s)), some (.long (x)), none]) (st1 := [.int (0)]) rfl ?_
    exact Wp.reti rfl rfl (hQ.1 c1)
  · refine Wp.seg 2 (pc1 := 8) (ls1 := [some (.ref 59), some (.int (Int32.ofNat s)), some (.long (x)), none]) (st1 := [.ref 59, .long (x)]) rfl ?_
    refine Wp.gr (t := (11, 0)) (v := some (69)) rfl (WF.t hw 59 rfl) rfl (WF.r hw 59 23 67 rfl) ?_
    show Wp d 268 11 [some (.ref 59), some (.int (Int32.ofNat s)), some (.long (x)), none] [.ref 69, .long (x)] h Q
    refine Wp.seg 1 (pc1 := 12) (ls1 := [some (.ref 59), some (.int (Int32.ofNat s)), some (.long (x)), none]) (st1 := [.int (Int32.ofNat s), .ref 69, .long (x)]) rfl ?_
    refine Wp.iald (j := s) (k := 20) (n := 4) rfl (WF.t hw 69 rfl) rfl rfl hs (by decide) ?_
    rw [show h.2.2.1 69 s = Int32.ofNat z from h69]
    refine Wp.seg 2 (pc1 := 15) (ls1 := [some (.ref 59), some (.int (Int32.ofNat s)), some (.long (x)), none]) (st1 := [.int (lg_cmp x ((Int32.ofNat z).toInt64))]) rfl ?_
    refine Wp.if1 rfl (fun (c2 : 0 ≤ (lg_cmp x ((Int32.ofNat z).toInt64))) => ?_) (fun (c2 : ¬ (0 ≤ (lg_cmp x ((Int32.ofNat z).toInt64)))) => ?_)
    · refine Wp.seg 1 (pc1 := 23) (ls1 := [some (.ref 59), some (.int (Int32.ofNat s)), some (.long (x)), none]) (st1 := [.int (0)]) rfl ?_
      exact Wp.reti rfl rfl ((hQ.2 c1).1 c2)
    · refine Wp.seg 2 (pc1 := 23) (ls1 := [some (.ref 59), some (.int (Int32.ofNat s)), some (.long (x)), none]) (st1 := [.int (1)]) rfl ?_
      exact Wp.reti rfl rfl ((hQ.2 c1).2 c2)
theorem s_isPl {d : Nat} {Q : KO → Prop} {h : KH} (hw : WF h) {s z i : Nat} {w : Int32} (hs : s < 4) (hz : z ≤ 40) (h69 : h.2.2.1 69 s = Int32.ofNat z) (hi : i ≤ 100) (hQ : Q (some (.int (b32 (plB z (w + Int32.ofNat i)))), h)) : Cl d 268 [.ref 59, .int (Int32.ofNat s), .long (w.toInt64 + (Int32.ofNat i).toInt64)] h Q := by
  have T : plB z (w + Int32.ofNat i) = true → Q (some (.int 1), h) := fun e => by rw [e] at hQ; exact hQ
  have F : plB z (w + Int32.ofNat i) = false → Q (some (.int 0), h) := fun e => by rw [e] at hQ; exact hQ
  have e64 := i64a (w := w) hi
  have e32 := i32a (w := w) hi
  have h1 := w.toInt_lt
  have h2 := w.le_toInt
  have ez : ((Int32.ofNat z).toInt64).toInt = z := by rw [Int32.toInt_toInt64, znat (n := z) (by omega)]
  refine t_isPl (so := 0) hw hs hz h69 (Nat.zero_le _) ⟨fun c1 => F ?_, fun c1 => ⟨fun c2 => F ?_, fun c2 => T ?_⟩⟩
  · have := (Int64.lt_iff_toInt_lt).mp ((lg_cmp_lt _ _).mp c1)
    rw [e64] at this
    have : w.toInt + i < 0 := this
    exact inB_f (by rw [e32]; split <;> omega)
  · have := (Int64.le_iff_toInt_le).mp ((lg_cmp_ge _ _).mp c2)
    rw [e64, ez] at this
    exact inB_f (by rw [e32]; split <;> omega)
  · have a1 : ¬ (w.toInt + i < 0) := fun y => c1 ((lg_cmp_lt _ _).mpr ((Int64.lt_iff_toInt_lt).mpr (by rw [e64]; exact y)))
    have a2 : ¬ ((z : Int) ≤ w.toInt + i) := fun y => c2 ((lg_cmp_ge _ _).mpr ((Int64.le_iff_toInt_le).mpr (by rw [e64, ez]; exact y)))
    exact inB_t (by rw [e32]; split <;> omega)
set_option maxHeartbeats 4000000 in
theorem t_cga0 {d : Nat} {Q : KO → Prop} {h : KH} (hw : WF h) {v w m : Int32} (q : inB v 0 3 = false) (hd : 3 ≤ d) (hQ : Q (some (.int (-1)), h)) : Cl d 152 [.ref 0, .int (v), .int (w), .int (m)] h Q := by
  refine Cl.of (ls := [some (.ref 0), some (.int (v)), some (.int (w)), some (.int (m)), none, none, none, none]) rfl rfl ?_
  refine Wp.seg 1 (pc1 := 1) (ls1 := [some (.ref 0), some (.int (v)), some (.int (w)), some (.int (m)), none, none, none, none]) (st1 := [.int (v)]) rfl ?_
  refine Wp.inv (d2 := 0) (as := [.int (v)]) (r := []) rfl rfl rfl rfl rfl rfl (by omega) (s_b154 ?_)
  show Wp d 152 4 [some (.ref 0), some (.int (v)), some (.int (w)), some (.int (m)), none, none, none, none] [.int (b32 (inB v 0 3))] h Q
  refine Wp.ifz rfl (fun c1 => ?_) (fun c1 => absurd (c1.symm.trans (q)) (by decide))
  refine Wp.seg 1 (pc1 := 18) (ls1 := [some (.ref 0), some (.int (v)), some (.int (w)), some (.int (m)), none, none, none, none]) (st1 := [.int (-1)]) rfl ?_
  exact Wp.reti rfl rfl hQ
set_option maxHeartbeats 4000000 in
theorem t_cga1 {d : Nat} {Q : KO → Prop} {h : KH} (hw : WF h) {s : Nat} {so : Int32} (hs : s < 4) (qs : inB (Int32.ofNat s) 0 3 = true) {w m : Int32} (m0 : m < 0) (hd : 3 ≤ d) (hQ : Q (some (.int (-1)), h)) : Cl d 152 [.ref 0, .int (Int32.ofNat s), .int (w), .int (m)] h Q := by
  refine Cl.of (ls := [some (.ref 0), some (.int (Int32.ofNat s)), some (.int (w)), some (.int (m)), none, none, none, none]) rfl rfl ?_
  refine Wp.seg 1 (pc1 := 1) (ls1 := [some (.ref 0), some (.int (Int32.ofNat s)), some (.int (w)), some (.int (m)), none, none, none, none]) (st1 := [.int (Int32.ofNat s)]) rfl ?_
  refine Wp.inv (d2 := 0) (as := [.int (Int32.ofNat s)]) (r := []) rfl rfl rfl rfl rfl rfl (by omega) (s_b154 ?_)
  show Wp d 152 4 [some (.ref 0), some (.int (Int32.ofNat s)), some (.int (w)), some (.int (m)), none, none, none, none] [.int (b32 (inB (Int32.ofNat s) 0 3))] h Q
  refine Wp.ifz rfl (fun c1 => absurd (c1.symm.trans (qs)) (by decide)) (fun c1 => ?_)
  refine Wp.seg 1 (pc1 := 8) (ls1 := [some (.ref 0), some (.int (Int32.ofNat s)), some (.int (w)), some (.int (m)), none, none, none, none]) (st1 := [.int (m)]) rfl ?_
  refine Wp.if1 rfl (fun c2 => ?_) (fun c2 => absurd (m0) c2)
  refine Wp.seg 1 (pc1 := 18) (ls1 := [some (.ref 0), some (.int (Int32.ofNat s)), some (.int (w)), some (.int (m)), none, none, none, none]) (st1 := [.int (-1)]) rfl ?_
  exact Wp.reti rfl rfl hQ
set_option maxHeartbeats 4000000 in
theorem t_cga2 {d : Nat} {Q : KO → Prop} {h : KH} (hw : WF h) {s : Nat} {so : Int32} (hs : s < 4) (qs : inB (Int32.ofNat s) 0 3 = true) {w m : Int32} (m0 : ¬ (m < 0)) (m1 : ¬ (m ≤ 20)) (hd : 3 ≤ d) (hQ : Q (some (.int (-1)), h)) : Cl d 152 [.ref 0, .int (Int32.ofNat s), .int (w), .int (m)] h Q := by
  refine Cl.of (ls := [some (.ref 0), some (.int (Int32.ofNat s)), some (.int (w)), some (.int (m)), none, none, none, none]) rfl rfl ?_
  refine Wp.seg 1 (pc1 := 1) (ls1 := [some (.ref 0), some (.int (Int32.ofNat s)), some (.int (w)), some (.int (m)), none, none, none, none]) (st1 := [.int (Int32.ofNat s)]) rfl ?_
  refine Wp.inv (d2 := 0) (as := [.int (Int32.ofNat s)]) (r := []) rfl rfl rfl rfl rfl rfl (by omega) (s_b154 ?_)
  show Wp d 152 4 [some (.ref 0), some (.int (Int32.ofNat s)), some (.int (w)), some (.int (m)), none, none, none, none] [.int (b32 (inB (Int32.ofNat s) 0 3))] h Q
  refine Wp.ifz rfl (fun c1 => absurd (c1.symm.trans (qs)) (by decide)) (fun c1 => ?_)
  refine Wp.seg 1 (pc1 := 8) (ls1 := [some (.ref 0), some (.int (Int32.ofNat s)), some (.int (w)), some (.int (m)), none, none, none, none]) (st1 := [.int (m)]) rfl ?_
  refine Wp.if1 rfl (fun c2 => absurd c2 (m0)) (fun c2 => ?_)
  refine Wp.seg 2 (pc1 := 14) (ls1 := [some (.ref 0), some (.int (Int32.ofNat s)), some (.int (w)), some (.int (m)), none, none, none, none]) (st1 := [.int (20), .int (m)]) rfl ?_
  refine Wp.if2 rfl (fun c3 => absurd c3 (m1)) (fun c3 => ?_)
  refine Wp.seg 1 (pc1 := 18) (ls1 := [some (.ref 0), some (.int (Int32.ofNat s)), some (.int (w)), some (.int (m)), none, none, none, none]) (st1 := [.int (-1)]) rfl ?_
  exact Wp.reti rfl rfl hQ
set_option maxHeartbeats 4000000 in
theorem t_cga3 {d : Nat} {Q : KO → Prop} {h : KH} (hw : WF h) {s : Nat} {so : Int32} (hs : s < 4) (h38 : h.2.2.1 38 s = so) (qs : inB (Int32.ofNat s) 0 3 = true) {w m : Int32} (m0 : ¬ (m < 0)) (m1 : m ≤ 20) (e1 : so = -1) (hd : 3 ≤ d) (hQ : Q (some (.int (-11)), h)) : Cl d 152 [.ref 0, .int (Int32.ofNat s), .int (w), .int (m)] h Q := by
  refine Cl.of (ls := [some (.ref 0), some (.int (Int32.ofNat s)), some (.int (w)), some (.int (m)), none, none, none, none]) rfl rfl ?_
  refine Wp.seg 1 (pc1 := 1) (ls1 := [some (.ref 0), some (.int (Int32.ofNat s)), some (.int (w)), some (.int (m)), none, none, none, none]) (st1 := [.int (Int32.ofNat s)]) rfl ?_
  refine Wp.inv (d2 := 0) (as := [.int (Int32.ofNat s)]) (r := []) rfl rfl rfl rfl rfl rfl (by omega) (s_b154 ?_)
  show Wp d 152 4 [some (.ref 0), some (.int (Int32.ofNat s)), some (.int (w)), some (.int (m)), none, none, none, none] [.int (b32 (inB (Int32.ofNat s) 0 3))] h Q
  refine Wp.ifz rfl (fun c1 => absurd (c1.symm.trans (qs)) (by decide)) (fun c1 => ?_)
  refine Wp.seg 1 (pc1 := 8) (ls1 := [some (.ref 0), some (.int (Int32.ofNat s)), some (.int (w)), some (.int (m)), none, none, none, none]) (st1 := [.int (m)]) rfl ?_
  refine Wp.if1 rfl (fun c2 => absurd c2 (m0)) (fun c2 => ?_)
  refine Wp.seg 2 (pc1 := 14) (ls1 := [some (.ref 0), some (.int (Int32.ofNat s)), some (.int (w)), some (.int (m)), none, none, none, none]) (st1 := [.int (20), .int (m)]) rfl ?_
  refine Wp.if2 rfl (fun c3 => ?_) (fun c3 => absurd (m1) c3)
  refine Wp.seg 3 (pc1 := 22) (ls1 := [some (.ref 0), some (.int (Int32.ofNat s)), some (.int (w)), some (.int (m)), none, none, none, none]) (st1 := [.int (0), .int (Int32.ofNat s), .ref 0]) rfl ?_
  refine Wp.invV (d2 := 0) (as := [.ref 0, .int (Int32.ofNat s), .int (0)]) (r := []) (t := (10, 0)) rfl rfl rfl rfl (WF.t hw 0 rfl) rfl rfl ⟨rfl, rfl⟩ (by omega) (t_rfs hw hs h38 (by decide) ⟨fun c => absurd e1 c, fun _ => ?_⟩)
  show Wp d 152 25 [some (.ref 0), some (.int (Int32.ofNat s)), some (.int (w)), some (.int (m)), none, none, none, none] [.int (-11)] h Q
  refine Wp.seg 2 (pc1 := 29) (ls1 := [some (.ref 0), some (.int (Int32.ofNat s)), some (.int (w)), some (.int (m)), some (.int (-11)), none, none, none]) (st1 := [.int (-11)]) rfl ?_
  refine Wp.if1 rfl (fun c4 => absurd c4 (show ¬ ((-11 : Int32) = 0) by decide)) (fun c4 => ?_)
  refine Wp.seg 1 (pc1 := 34) (ls1 := [some (.ref 0), some (.int (Int32.ofNat s)), some (.int (w)), some (.int (m)), some (.int (-11)), none, none, none]) (st1 := [.int (-11)]) rfl ?_
  exact Wp.reti rfl rfl hQ
set_option maxHeartbeats 4000000 in
theorem t_cga4 {d : Nat} {Q : KO → Prop} {h : KH} (hw : WF h) {s : Nat} {so : Int32} (hs : s < 4) (h38 : h.2.2.1 38 s = so) (qs : inB (Int32.ofNat s) 0 3 = true) {w m : Int32} (m0 : ¬ (m < 0)) (m1 : m ≤ 20) (e1 : ¬ (so = -1)) (e2 : ¬ (so = 0)) (hd : 3 ≤ d) (hQ : Q (some (.int (-13)), h)) : Cl d 152 [.ref 0, .int (Int32.ofNat s), .int (w), .int (m)] h Q := by
  refine Cl.of (ls := [some (.ref 0), some (.int (Int32.ofNat s)), some (.int (w)), some (.int (m)), none, none, none, none]) rfl rfl ?_
  refine Wp.seg 1 (pc1 := 1) (ls1 := [some (.ref 0), some (.int (Int32.ofNat s)), some (.int (w)), some (.int (m)), none, none, none, none]) (st1 := [.int (Int32.ofNat s)]) rfl ?_
  refine Wp.inv (d2 := 0) (as := [.int (Int32.ofNat s)]) (r := []) rfl rfl rfl rfl rfl rfl (by omega) (s_b154 ?_)
  show Wp d 152 4 [some (.ref 0), some (.int (Int32.ofNat s)), some (.int (w)), some (.int (m)), none, none, none, none] [.int (b32 (inB (Int32.ofNat s) 0 3))] h Q
  refine Wp.ifz rfl (fun c1 => absurd (c1.symm.trans (qs)) (by decide)) (fun c1 => ?_)
  refine Wp.seg 1 (pc1 := 8) (ls1 := [some (.ref 0), some (.int (Int32.ofNat s)), some (.int (w)), some (.int (m)), none, none, none, none]) (st1 := [.int (m)]) rfl ?_
  refine Wp.if1 rfl (fun c2 => absurd c2 (m0)) (fun c2 => ?_)
  refine Wp.seg 2 (pc1 := 14) (ls1 := [some (.ref 0), some (.int (Int32.ofNat s)), some (.int (w)), some (.int (m)), none, none, none, none]) (st1 := [.int (20), .int (m)]) rfl ?_
  refine Wp.if2 rfl (fun c3 => ?_) (fun c3 => absurd (m1) c3)
  refine Wp.seg 3 (pc1 := 22) (ls1 := [some (.ref 0), some (.int (Int32.ofNat s)), some (.int (w)), some (.int (m)), none, none, none, none]) (st1 := [.int (0), .int (Int32.ofNat s), .ref 0]) rfl ?_
  refine Wp.invV (d2 := 0) (as := [.ref 0, .int (Int32.ofNat s), .int (0)]) (r := []) (t := (10, 0)) rfl rfl rfl rfl (WF.t hw 0 rfl) rfl rfl ⟨rfl, rfl⟩ (by omega) (t_rfs hw hs h38 (by decide) ⟨fun _ => ⟨fun _ => ?_, fun c => absurd e2 c⟩, fun c => absurd e1 c⟩)
  show Wp d 152 25 [some (.ref 0), some (.int (Int32.ofNat s)), some (.int (w)), some (.int (m)), none, none, none, none] [.int (-13)] h Q
  refine Wp.seg 2 (pc1 := 29) (ls1 := [some (.ref 0), some (.int (Int32.ofNat s)), some (.int (w)), some (.int (m)), some (.int (-13)), none, none, none]) (st1 := [.int (-13)]) rfl ?_
  refine Wp.if1 rfl (fun c4 => absurd c4 (show ¬ ((-13 : Int32) = 0) by decide)) (fun c4 => ?_)
  refine Wp.seg 1 (pc1 := 34) (ls1 := [some (.ref 0), some (.int (Int32.ofNat s)), some (.int (w)), some (.int (m)), some (.int (-13)), none, none, none]) (st1 := [.int (-13)]) rfl ?_
  exact Wp.reti rfl rfl hQ
set_option maxHeartbeats 4000000 in
theorem t_cwb0 {d : Nat} {Q : KO → Prop} {h : KH} (hw : WF h) {v w m : Int32} (q : inB v 0 3 = false) (hd : 3 ≤ d) (hQ : Q (some (.int (-1)), h)) : Cl d 153 [.ref 0, .int (v), .int (w), .int (m)] h Q := by
  refine Cl.of (ls := [some (.ref 0), some (.int (v)), some (.int (w)), some (.int (m)), none, none, none, none]) rfl rfl ?_
  refine Wp.seg 1 (pc1 := 1) (ls1 := [some (.ref 0), some (.int (v)), some (.int (w)), some (.int (m)), none, none, none, none]) (st1 := [.int (v)]) rfl ?_
  refine Wp.inv (d2 := 0) (as := [.int (v)]) (r := []) rfl rfl rfl rfl rfl rfl (by omega) (s_b154 ?_)
  show Wp d 153 4 [some (.ref 0), some (.int (v)), some (.int (w)), some (.int (m)), none, none, none, none] [.int (b32 (inB v 0 3))] h Q
  refine Wp.ifz rfl (fun c1 => ?_) (fun c1 => absurd (c1.symm.trans (q)) (by decide))
  refine Wp.seg 1 (pc1 := 18) (ls1 := [some (.ref 0), some (.int (v)), some (.int (w)), some (.int (m)), none, none, none, none]) (st1 := [.int (-1)]) rfl ?_
  exact Wp.reti rfl rfl hQ
set_option maxHeartbeats 4000000 in
theorem t_cwb1 {d : Nat} {Q : KO → Prop} {h : KH} (hw : WF h) {s : Nat} {so : Int32} (hs : s < 4) (qs : inB (Int32.ofNat s) 0 3 = true) {w m : Int32} (m0 : m < 0) (hd : 3 ≤ d) (hQ : Q (some (.int (-1)), h)) : Cl d 153 [.ref 0, .int (Int32.ofNat s), .int (w), .int (m)] h Q := by
  refine Cl.of (ls := [some (.ref 0), some (.int (Int32.ofNat s)), some (.int (w)), some (.int (m)), none, none, none, none]) rfl rfl ?_
  refine Wp.seg 1 (pc1 := 1) (ls1 := [some (.ref 0), some (.int (Int32.ofNat s)), some (.int (w)), some (.int (m)), none, none, none, none]) (st1 := [.int (Int32.ofNat s)]) rfl ?_
  refine Wp.inv (d2 := 0) (as := [.int (Int32.ofNat s)]) (r := []) rfl rfl rfl rfl rfl rfl (by omega) (s_b154 ?_)
  show Wp d 153 4 [some (.ref 0), some (.int (Int32.ofNat s)), some (.int (w)), some (.int (m)), none, none, none, none] [.int (b32 (inB (Int32.ofNat s) 0 3))] h Q
  refine Wp.ifz rfl (fun c1 => absurd (c1.symm.trans (qs)) (by decide)) (fun c1 => ?_)
  refine Wp.seg 1 (pc1 := 8) (ls1 := [some (.ref 0), some (.int (Int32.ofNat s)), some (.int (w)), some (.int (m)), none, none, none, none]) (st1 := [.int (m)]) rfl ?_
  refine Wp.if1 rfl (fun c2 => ?_) (fun c2 => absurd (m0) c2)
  refine Wp.seg 1 (pc1 := 18) (ls1 := [some (.ref 0), some (.int (Int32.ofNat s)), some (.int (w)), some (.int (m)), none, none, none, none]) (st1 := [.int (-1)]) rfl ?_
  exact Wp.reti rfl rfl hQ
set_option maxHeartbeats 4000000 in
theorem t_cwb2 {d : Nat} {Q : KO → Prop} {h : KH} (hw : WF h) {s : Nat} {so : Int32} (hs : s < 4) (qs : inB (Int32.ofNat s) 0 3 = true) {w m : Int32} (m0 : ¬ (m < 0)) (m1 : ¬ (m ≤ 20)) (hd : 3 ≤ d) (hQ : Q (some (.int (-1)), h)) : Cl d 153 [.ref 0, .int (Int32.ofNat s), .int (w), .int (m)] h Q := by
  refine Cl.of (ls := [some (.ref 0), some (.int (Int32.ofNat s)), some (.int (w)), some (.int (m)), none, none, none, none]) rfl rfl ?_
  refine Wp.seg 1 (pc1 := 1) (ls1 := [some (.ref 0), some (.int (Int32.ofNat s)), some (.int (w)), some (.int (m)), none, none, none, none]) (st1 := [.int (Int32.ofNat s)]) rfl ?_
  refine Wp.inv (d2 := 0) (as := [.int (Int32.ofNat s)]) (r := []) rfl rfl rfl rfl rfl rfl (by omega) (s_b154 ?_)
  show Wp d 153 4 [some (.ref 0), some (.int (Int32.ofNat s)), some (.int (w)), some (.int (m)), none, none, none, none] [.int (b32 (inB (Int32.ofNat s) 0 3))] h Q
  refine Wp.ifz rfl (fun c1 => absurd (c1.symm.trans (qs)) (by decide)) (fun c1 => ?_)
  refine Wp.seg 1 (pc1 := 8) (ls1 := [some (.ref 0), some (.int (Int32.ofNat s)), some (.int (w)), some (.int (m)), none, none, none, none]) (st1 := [.int (m)]) rfl ?_
  refine Wp.if1 rfl (fun c2 => absurd c2 (m0)) (fun c2 => ?_)
  refine Wp.seg 2 (pc1 := 14) (ls1 := [some (.ref 0), some (.int (Int32.ofNat s)), some (.int (w)), some (.int (m)), none, none, none, none]) (st1 := [.int (20), .int (m)]) rfl ?_
  refine Wp.if2 rfl (fun c3 => absurd c3 (m1)) (fun c3 => ?_)
  refine Wp.seg 1 (pc1 := 18) (ls1 := [some (.ref 0), some (.int (Int32.ofNat s)), some (.int (w)), some (.int (m)), none, none, none, none]) (st1 := [.int (-1)]) rfl ?_
  exact Wp.reti rfl rfl hQ
set_option maxHeartbeats 4000000 in
theorem t_cwb3 {d : Nat} {Q : KO → Prop} {h : KH} (hw : WF h) {s : Nat} {so : Int32} (hs : s < 4) (h38 : h.2.2.1 38 s = so) (qs : inB (Int32.ofNat s) 0 3 = true) {w m : Int32} (m0 : ¬ (m < 0)) (m1 : m ≤ 20) (e1 : so = -1) (hd : 3 ≤ d) (hQ : Q (some (.int (-11)), h)) : Cl d 153 [.ref 0, .int (Int32.ofNat s), .int (w), .int (m)] h Q := by
  refine Cl.of (ls := [some (.ref 0), some (.int (Int32.ofNat s)), some (.int (w)), some (.int (m)), none, none, none, none]) rfl rfl ?_
  refine Wp.seg 1 (pc1 := 1) (ls1 := [some (.ref 0), some (.int (Int32.ofNat s)), some (.int (w)), some (.int (m)), none, none, none, none]) (st1 := [.int (Int32.ofNat s)]) rfl ?_
  refine Wp.inv (d2 := 0) (as := [.int (Int32.ofNat s)]) (r := []) rfl rfl rfl rfl rfl rfl (by omega) (s_b154 ?_)
  show Wp d 153 4 [some (.ref 0), some (.int (Int32.ofNat s)), some (.int (w)), some (.int (m)), none, none, none, none] [.int (b32 (inB (Int32.ofNat s) 0 3))] h Q
  refine Wp.ifz rfl (fun c1 => absurd (c1.symm.trans (qs)) (by decide)) (fun c1 => ?_)
  refine Wp.seg 1 (pc1 := 8) (ls1 := [some (.ref 0), some (.int (Int32.ofNat s)), some (.int (w)), some (.int (m)), none, none, none, none]) (st1 := [.int (m)]) rfl ?_
  refine Wp.if1 rfl (fun c2 => absurd c2 (m0)) (fun c2 => ?_)
  refine Wp.seg 2 (pc1 := 14) (ls1 := [some (.ref 0), some (.int (Int32.ofNat s)), some (.int (w)), some (.int (m)), none, none, none, none]) (st1 := [.int (20), .int (m)]) rfl ?_
  refine Wp.if2 rfl (fun c3 => ?_) (fun c3 => absurd (m1) c3)
  refine Wp.seg 3 (pc1 := 22) (ls1 := [some (.ref 0), some (.int (Int32.ofNat s)), some (.int (w)), some (.int (m)), none, none, none, none]) (st1 := [.int (0), .int (Int32.ofNat s), .ref 0]) rfl ?_
  refine Wp.invV (d2 := 0) (as := [.ref 0, .int (Int32.ofNat s), .int (0)]) (r := []) (t := (10, 0)) rfl rfl rfl rfl (WF.t hw 0 rfl) rfl rfl ⟨rfl, rfl⟩ (by omega) (t_rfs hw hs h38 (by decide) ⟨fun c => absurd e1 c, fun _ => ?_⟩)
  show Wp d 153 25 [some (.ref 0), some (.int (Int32.ofNat s)), some (.int (w)), some (.int (m)), none, none, none, none] [.int (-11)] h Q
  refine Wp.seg 2 (pc1 := 29) (ls1 := [some (.ref 0), some (.int (Int32.ofNat s)), some (.int (w)), some (.int (m)), some (.int (-11)), none, none, none]) (st1 := [.int (-11)]) rfl ?_
  refine Wp.if1 rfl (fun c4 => absurd c4 (show ¬ ((-11 : Int32) = 0) by decide)) (fun c4 => ?_)
  refine Wp.seg 1 (pc1 := 34) (ls1 := [some (.ref 0), some (.int (Int32.ofNat s)), some (.int (w)), some (.int (m)), some (.int (-11)), none, none, none]) (st1 := [.int (-11)]) rfl ?_
  exact Wp.reti rfl rfl hQ
set_option maxHeartbeats 4000000 in
theorem t_cwb4 {d : Nat} {Q : KO → Prop} {h : KH} (hw : WF h) {s : Nat} {so : Int32} (hs : s < 4) (h38 : h.2.2.1 38 s = so) (qs : inB (Int32.ofNat s) 0 3 = true) {w m : Int32} (m0 : ¬ (m < 0)) (m1 : m ≤ 20) (e1 : ¬ (so = -1)) (e2 : ¬ (so = 0)) (hd : 3 ≤ d) (hQ : Q (some (.int (-13)), h)) : Cl d 153 [.ref 0, .int (Int32.ofNat s), .int (w), .int (m)] h Q := by
  refine Cl.of (ls := [some (.ref 0), some (.int (Int32.ofNat s)), some (.int (w)), some (.int (m)), none, none, none, none]) rfl rfl ?_
  refine Wp.seg 1 (pc1 := 1) (ls1 := [some (.ref 0), some (.int (Int32.ofNat s)), some (.int (w)), some (.int (m)), none, none, none, none]) (st1 := [.int (Int32.ofNat s)]) rfl ?_
  refine Wp.inv (d2 := 0) (as := [.int (Int32.ofNat s)]) (r := []) rfl rfl rfl rfl rfl rfl (by omega) (s_b154 ?_)
  show Wp d 153 4 [some (.ref 0), some (.int (Int32.ofNat s)), some (.int (w)), some (.int (m)), none, none, none, none] [.int (b32 (inB (Int32.ofNat s) 0 3))] h Q
  refine Wp.ifz rfl (fun c1 => absurd (c1.symm.trans (qs)) (by decide)) (fun c1 => ?_)
  refine Wp.seg 1 (pc1 := 8) (ls1 := [some (.ref 0), some (.int (Int32.ofNat s)), some (.int (w)), some (.int (m)), none, none, none, none]) (st1 := [.int (m)]) rfl ?_
  refine Wp.if1 rfl (fun c2 => absurd c2 (m0)) (fun c2 => ?_)
  refine Wp.seg 2 (pc1 := 14) (ls1 := [some (.ref 0), some (.int (Int32.ofNat s)), some (.int (w)), some (.int (m)), none, none, none, none]) (st1 := [.int (20), .int (m)]) rfl ?_
  refine Wp.if2 rfl (fun c3 => ?_) (fun c3 => absurd (m1) c3)
  refine Wp.seg 3 (pc1 := 22) (ls1 := [some (.ref 0), some (.int (Int32.ofNat s)), some (.int (w)), some (.int (m)), none, none, none, none]) (st1 := [.int (0), .int (Int32.ofNat s), .ref 0]) rfl ?_
  refine Wp.invV (d2 := 0) (as := [.ref 0, .int (Int32.ofNat s), .int (0)]) (r := []) (t := (10, 0)) rfl rfl rfl rfl (WF.t hw 0 rfl) rfl rfl ⟨rfl, rfl⟩ (by omega) (t_rfs hw hs h38 (by decide) ⟨fun _ => ⟨fun _ => ?_, fun c => absurd e2 c⟩, fun c => absurd e1 c⟩)
  show Wp d 153 25 [some (.ref 0), some (.int (Int32.ofNat s)), some (.int (w)), some (.int (m)), none, none, none, none] [.int (-13)] h Q
  refine Wp.seg 2 (pc1 := 29) (ls1 := [some (.ref 0), some (.int (Int32.ofNat s)), some (.int (w)), some (.int (m)), some (.int (-13)), none, none, none]) (st1 := [.int (-13)]) rfl ?_
  refine Wp.if1 rfl (fun c4 => absurd c4 (show ¬ ((-13 : Int32) = 0) by decide)) (fun c4 => ?_)
  refine Wp.seg 1 (pc1 := 34) (ls1 := [some (.ref 0), some (.int (Int32.ofNat s)), some (.int (w)), some (.int (m)), some (.int (-13)), none, none, none]) (st1 := [.int (-13)]) rfl ?_
  exact Wp.reti rfl rfl hQ
set_option maxHeartbeats 4000000 in
theorem t_cga5 {d : Nat} {Q : KO → Prop} {h : KH} (hw : WF h) {s : Nat} {so : Int32} (hs : s < 4) (h38 : h.2.2.1 38 s = so) (qs : inB (Int32.ofNat s) 0 3 = true) {w m : Int32} (m0 : ¬ (m < 0)) (m1 : m ≤ 20) (e1 : ¬ (so = -1)) (e2 : so = 0) (hd : 3 ≤ d) (hQ : Wp d 152 41 ([some (.ref 0), some (.int (Int32.ofNat s)), some (.int (w)), some (.int (m)), some (.int (0)), some (.int (0)), some (.int (0)), none]) [] h Q) : Cl d 152 [.ref 0, .int (Int32.ofNat s), .int (w), .int (m)] h Q := by
  refine Cl.of (ls := [some (.ref 0), some (.int (Int32.ofNat s)), some (.int (w)), some (.int (m)), none, none, none, none]) rfl rfl ?_
  refine Wp.seg 1 (pc1 := 1) (ls1 := [some (.ref 0), some (.int (Int32.ofNat s)), some (.int (w)), some (.int (m)), none, none, none, none]) (st1 := [.int (Int32.ofNat s)]) rfl ?_
  refine Wp.inv (d2 := 0) (as := [.int (Int32.ofNat s)]) (r := []) rfl rfl rfl rfl rfl rfl (by omega) (s_b154 ?_)
  show Wp d 152 4 [some (.ref 0), some (.int (Int32.ofNat s)), some (.int (w)), some (.int (m)), none, none, none, none] [.int (b32 (inB (Int32.ofNat s) 0 3))] h Q
  refine Wp.ifz rfl (fun c1 => absurd (c1.symm.trans (qs)) (by decide)) (fun c1 => ?_)
  refine Wp.seg 1 (pc1 := 8) (ls1 := [some (.ref 0), some (.int (Int32.ofNat s)), some (.int (w)), some (.int (m)), none, none, none, none]) (st1 := [.int (m)]) rfl ?_
  refine Wp.if1 rfl (fun c2 => absurd c2 (m0)) (fun c2 => ?_)
  refine Wp.seg 2 (pc1 := 14) (ls1 := [some (.ref 0), some (.int (Int32.ofNat s)), some (.int (w)), some (.int (m)), none, none, none, none]) (st1 := [.int (20), .int (m)]) rfl ?_
  refine Wp.if2 rfl (fun c3 => ?_) (fun c3 => absurd (m1) c3)
  refine Wp.seg 3 (pc1 := 22) (ls1 := [some (.ref 0), some (.int (Int32.ofNat s)), some (.int (w)), some (.int (m)), none, none, none, none]) (st1 := [.int (0), .int (Int32.ofNat s), .ref 0]) rfl ?_
  refine Wp.invV (d2 := 0) (as := [.ref 0, .int (Int32.ofNat s), .int (0)]) (r := []) (t := (10, 0)) rfl rfl rfl rfl (WF.t hw 0 rfl) rfl rfl ⟨rfl, rfl⟩ (by omega) (t_rfs hw hs h38 (by decide) ⟨fun _ => ⟨fun c => absurd e2 c, fun _ => ?_⟩, fun c => absurd e1 c⟩)
  show Wp d 152 25 [some (.ref 0), some (.int (Int32.ofNat s)), some (.int (w)), some (.int (m)), none, none, none, none] [.int (0)] h Q
  refine Wp.seg 2 (pc1 := 29) (ls1 := [some (.ref 0), some (.int (Int32.ofNat s)), some (.int (w)), some (.int (m)), some (.int (0)), none, none, none]) (st1 := [.int (0)]) rfl ?_
  refine Wp.if1 rfl (fun c4 => ?_) (fun c4 => absurd (show (0 : Int32) = 0 by decide) c4)
  refine Wp.seg 4 (pc1 := 41) (ls1 := [some (.ref 0), some (.int (Int32.ofNat s)), some (.int (w)), some (.int (m)), some (.int (0)), some (.int (0)), some (.int (0)), none]) (st1 := []) rfl ?_
  exact hQ
set_option maxHeartbeats 4000000 in
theorem t_cgl0 {d : Nat} {Q : KO → Prop} {h : KH} (hw : WF h) {s N i : Nat} {w r : Int32} {z7 : Option Value} (hs : s < 4) (ge : Int32.ofNat N ≤ Int32.ofNat i) (hd : 4 ≤ d) (hQ : Q (some (.int (r)), h)) : Wp d 152 41 [some (.ref 0), some (.int (Int32.ofNat s)), some (.int (w)), some (.int (Int32.ofNat N)), some (.int (0)), some (.int (r)), some (.int (Int32.ofNat i)), z7] [] h Q := by
  refine Wp.seg 2 (pc1 := 44) (ls1 := [some (.ref 0), some (.int (Int32.ofNat s)), some (.int (w)), some (.int (Int32.ofNat N)), some (.int (0)), some (.int (r)), some (.int (Int32.ofNat i)), z7]) (st1 := [.int (Int32.ofNat N), .int (Int32.ofNat i)]) rfl ?_
  refine Wp.if2 rfl (fun c1 => ?_) (fun c1 => absurd (ge) c1)
  refine Wp.seg 1 (pc1 := 118) (ls1 := [some (.ref 0), some (.int (Int32.ofNat s)), some (.int (w)), some (.int (Int32.ofNat N)), some (.int (0)), some (.int (r)), some (.int (Int32.ofNat i)), z7]) (st1 := [.int (r)]) rfl ?_
  exact Wp.reti rfl rfl hQ
set_option maxHeartbeats 4000000 in
theorem t_cgl1 {d : Nat} {Q : KO → Prop} {h : KH} (hw : WF h) {s N i : Nat} {w r : Int32} {z7 : Option Value} (hs : s < 4) {z : Nat} (hz : z ≤ 40) (h39 : h.2.2.1 39 s = Int32.ofNat z) (ge : ¬ (Int32.ofNat N ≤ Int32.ofNat i)) (qp : plB z (w + Int32.ofNat i) = false) (hd : 4 ≤ d) (hQ : Q (some (.int (-12)), h)) : Wp d 152 41 [some (.ref 0), some (.int (Int32.ofNat s)), some (.int (w)), some (.int (Int32.ofNat N)), some (.int (0)), some (.int (r)), some (.int (Int32.ofNat i)), z7] [] h Q := by
  refine Wp.seg 2 (pc1 := 44) (ls1 := [some (.ref 0), some (.int (Int32.ofNat s)), some (.int (w)), some (.int (Int32.ofNat N)), some (.int (0)), some (.int (r)), some (.int (Int32.ofNat i)), z7]) (st1 := [.int (Int32.ofNat N), .int (Int32.ofNat i)]) rfl ?_
  refine Wp.if2 rfl (fun c1 => absurd c1 (ge)) (fun c1 => ?_)
  refine Wp.seg 5 (pc1 := 53) (ls1 := [some (.ref 0), some (.int (Int32.ofNat s)), some (.int (w)), some (.int (Int32.ofNat N)), some (.int (0)), some (.int (r)), some (.int (Int32.ofNat i)), z7]) (st1 := [.int (w + (Int32.ofNat i)), .int (Int32.ofNat s), .ref 0]) rfl ?_
  refine Wp.invV (d2 := 0) (as := [.ref 0, .int (Int32.ofNat s), .int (w + (Int32.ofNat i))]) (r := []) (t := (10, 0)) rfl rfl rfl rfl (WF.t hw 0 rfl) rfl rfl ⟨rfl, rfl⟩ (by omega) (s_item hw hs hz h39 ?_)
  show Wp d 152 56 [some (.ref 0), some (.int (Int32.ofNat s)), some (.int (w)), some (.int (Int32.ofNat N)), some (.int (0)), some (.int (r)), some (.int (Int32.ofNat i)), z7] [.int (b32 (plB z (w + (Int32.ofNat i))))] h Q
  refine Wp.ifnz rfl (fun c2 => absurd (c2.symm.trans (qp)) (by decide)) (fun c2 => ?_)
  refine Wp.seg 1 (pc1 := 61) (ls1 := [some (.ref 0), some (.int (Int32.ofNat s)), some (.int (w)), some (.int (Int32.ofNat N)), some (.int (0)), some (.int (r)), some (.int (Int32.ofNat i)), z7]) (st1 := [.int (-12)]) rfl ?_
  exact Wp.reti rfl rfl hQ
set_option maxHeartbeats 4000000 in
theorem t_cgl2 {d : Nat} {Q : KO → Prop} {h : KH} (hw : WF h) {s N i : Nat} {w r : Int32} {z7 : Option Value} (hs : s < 4) {z : Nat} (hz : z ≤ 40) (h39 : h.2.2.1 39 s = Int32.ofNat z) (ge : ¬ (Int32.ofNat N ≤ Int32.ofNat i)) (qp : plB z (w + Int32.ofNat i) = true) {j : Nat} {x : Int32} (hj : j < 40) (ej : w + Int32.ofNat i = Int32.ofNat j) (hx : h.2.2.1 (41 + s) j = x) {A : Nat → Int32} {RL : List Rul} {n c dn en : Nat} (hk : cityOK h 1 A RL n c dn en) (qx : inB x 0 (n : Int) = false) (hd : 4 ≤ d) (hQ : Wp d 152 41 ([some (.ref 0), some (.int (Int32.ofNat s)), some (.int (w)), some (.int (Int32.ofNat N)), some (.int (0)), some (.int (r)), some (.int ((Int32.ofNat i) + 1)), some (.int (x))]) [] h Q) : Wp d 152 41 [some (.ref 0), some (.int (Int32.ofNat s)), some (.int (w)), some (.int (Int32.ofNat N)), some (.int (0)), some (.int (r)), some (.int (Int32.ofNat i)), z7] [] h Q := by
  refine Wp.seg 2 (pc1 := 44) (ls1 := [some (.ref 0), some (.int (Int32.ofNat s)), some (.int (w)), some (.int (Int32.ofNat N)), some (.int (0)), some (.int (r)), some (.int (Int32.ofNat i)), z7]) (st1 := [.int (Int32.ofNat N), .int (Int32.ofNat i)]) rfl ?_
  refine Wp.if2 rfl (fun c1 => absurd c1 (ge)) (fun c1 => ?_)
  refine Wp.seg 5 (pc1 := 53) (ls1 := [some (.ref 0), some (.int (Int32.ofNat s)), some (.int (w)), some (.int (Int32.ofNat N)), some (.int (0)), some (.int (r)), some (.int (Int32.ofNat i)), z7]) (st1 := [.int (w + (Int32.ofNat i)), .int (Int32.ofNat s), .ref 0]) rfl ?_
  refine Wp.invV (d2 := 0) (as := [.ref 0, .int (Int32.ofNat s), .int (w + (Int32.ofNat i))]) (r := []) (t := (10, 0)) rfl rfl rfl rfl (WF.t hw 0 rfl) rfl rfl ⟨rfl, rfl⟩ (by omega) (s_item hw hs hz h39 ?_)
  show Wp d 152 56 [some (.ref 0), some (.int (Int32.ofNat s)), some (.int (w)), some (.int (Int32.ofNat N)), some (.int (0)), some (.int (r)), some (.int (Int32.ofNat i)), z7] [.int (b32 (plB z (w + (Int32.ofNat i))))] h Q
  refine Wp.ifnz rfl (fun c2 => ?_) (fun c2 => absurd (c2.symm.trans (qp)) (by decide))
  refine Wp.seg 1 (pc1 := 63) (ls1 := [some (.ref 0), some (.int (Int32.ofNat s)), some (.int (w)), some (.int (Int32.ofNat N)), some (.int (0)), some (.int (r)), some (.int (Int32.ofNat i)), z7]) (st1 := [.ref 0]) rfl ?_
  refine Wp.gr (t := (10, 0)) (v := some (40)) rfl (WF.t hw 0 rfl) rfl (WF.r hw 0 10 8 rfl) ?_
  show Wp d 152 66 [some (.ref 0), some (.int (Int32.ofNat s)), some (.int (w)), some (.int (Int32.ofNat N)), some (.int (0)), some (.int (r)), some (.int (Int32.ofNat i)), z7] [.ref 40] h Q
  refine Wp.seg 1 (pc1 := 67) (ls1 := [some (.ref 0), some (.int (Int32.ofNat s)), some (.int (w)), some (.int (Int32.ofNat N)), some (.int (0)), some (.int (r)), some (.int (Int32.ofNat i)), z7]) (st1 := [.int (Int32.ofNat s), .ref 40]) rfl ?_
  refine Wp.aald (j := s) (k := 26) (n := 4) (v := some (41 + s)) rfl (WF.t hw 40 rfl) rfl rfl hs (by decide) (it_r hw hs) ?_
  show Wp d 152 68 [some (.ref 0), some (.int (Int32.ofNat s)), some (.int (w)), some (.int (Int32.ofNat N)), some (.int (0)), some (.int (r)), some (.int (Int32.ofNat i)), z7] [.ref (41 + s)] h Q
  refine Wp.seg 3 (pc1 := 72) (ls1 := [some (.ref 0), some (.int (Int32.ofNat s)), some (.int (w)), some (.int (Int32.ofNat N)), some (.int (0)), some (.int (r)), some (.int (Int32.ofNat i)), z7]) (st1 := [.int (w + (Int32.ofNat i)), .ref (41 + s)]) rfl ?_
  refine Wp.iald (j := j) (k := 20) (n := 40) rfl (it_t hw hs) rfl ej (by omega) (by decide) ?_
  rw [show h.2.2.1 (41 + s) j = x from hx]
  refine Wp.seg 3 (pc1 := 78) (ls1 := [some (.ref 0), some (.int (Int32.ofNat s)), some (.int (w)), some (.int (Int32.ofNat N)), some (.int (0)), some (.int (r)), some (.int (Int32.ofNat i)), some (.int (x))]) (st1 := [.int (x), .ref 0]) rfl ?_
  refine Wp.invV (d2 := 0) (as := [.ref 0, .int (x)]) (r := []) (t := (10, 0)) rfl rfl rfl rfl (WF.t hw 0 rfl) rfl rfl ⟨rfl, rfl⟩ (by omega) (s_act hw hk ?_)
  show Wp d 152 81 [some (.ref 0), some (.int (Int32.ofNat s)), some (.int (w)), some (.int (Int32.ofNat N)), some (.int (0)), some (.int (r)), some (.int (Int32.ofNat i)), some (.int (x))] [.int (b32 (inB x 0 (n : Int)))] h Q
  refine Wp.ifz rfl (fun c3 => ?_) (fun c3 => absurd (c3.symm.trans (qx)) (by decide))
  refine Wp.seg 2 (pc1 := 41) (ls1 := [some (.ref 0), some (.int (Int32.ofNat s)), some (.int (w)), some (.int (Int32.ofNat N)), some (.int (0)), some (.int (r)), some (.int ((Int32.ofNat i) + 1)), some (.int (x))]) (st1 := []) rfl ?_
  exact hQ
set_option maxHeartbeats 4000000 in
theorem t_cgl3 {d : Nat} {Q : KO → Prop} {h : KH} (hw : WF h) {s N i : Nat} {w r : Int32} {z7 : Option Value} (hs : s < 4) {z : Nat} (hz : z ≤ 40) (h39 : h.2.2.1 39 s = Int32.ofNat z) (ge : ¬ (Int32.ofNat N ≤ Int32.ofNat i)) (qp : plB z (w + Int32.ofNat i) = true) {j : Nat} {x : Int32} (hj : j < 40) (ej : w + Int32.ofNat i = Int32.ofNat j) (hx : h.2.2.1 (41 + s) j = x) {A : Nat → Int32} {RL : List Rul} {n c dn en : Nat} (hk : cityOK h 1 A RL n c dn en) (qx : inB x 0 (n : Int) = true) (hlt : ¬ dn < en) (hd : 4 ≤ d) (hQ : Wp d 152 41 ([some (.ref 0), some (.int (Int32.ofNat s)), some (.int (w)), some (.int (Int32.ofNat N)), some (.int (0)), some (.int (r)), some (.int ((Int32.ofNat i) + 1)), some (.int (x))]) [] h Q) : Wp d 152 41 [some (.ref 0), some (.int (Int32.ofNat s)), some (.int (w)), some (.int (Int32.ofNat N)), some (.int (0)), some (.int (r)), some (.int (Int32.ofNat i)), z7] [] h Q := by
  refine Wp.seg 2 (pc1 := 44) (ls1 := [some (.ref 0), some (.int (Int32.ofNat s)), some (.int (w)), some (.int (Int32.ofNat N)), some (.int (0)), some (.int (r)), some (.int (Int32.ofNat i)), z7]) (st1 := [.int (Int32.ofNat N), .int (Int32.ofNat i)]) rfl ?_
  refine Wp.if2 rfl (fun c1 => absurd c1 (ge)) (fun c1 => ?_)
  refine Wp.seg 5 (pc1 := 53) (ls1 := [some (.ref 0), some (.int (Int32.ofNat s)), some (.int (w)), some (.int (Int32.ofNat N)), some (.int (0)), some (.int (r)), some (.int (Int32.ofNat i)), z7]) (st1 := [.int (w + (Int32.ofNat i)), .int (Int32.ofNat s), .ref 0]) rfl ?_
  refine Wp.invV (d2 := 0) (as := [.ref 0, .int (Int32.ofNat s), .int (w + (Int32.ofNat i))]) (r := []) (t := (10, 0)) rfl rfl rfl rfl (WF.t hw 0 rfl) rfl rfl ⟨rfl, rfl⟩ (by omega) (s_item hw hs hz h39 ?_)
  show Wp d 152 56 [some (.ref 0), some (.int (Int32.ofNat s)), some (.int (w)), some (.int (Int32.ofNat N)), some (.int (0)), some (.int (r)), some (.int (Int32.ofNat i)), z7] [.int (b32 (plB z (w + (Int32.ofNat i))))] h Q
  refine Wp.ifnz rfl (fun c2 => ?_) (fun c2 => absurd (c2.symm.trans (qp)) (by decide))
  refine Wp.seg 1 (pc1 := 63) (ls1 := [some (.ref 0), some (.int (Int32.ofNat s)), some (.int (w)), some (.int (Int32.ofNat N)), some (.int (0)), some (.int (r)), some (.int (Int32.ofNat i)), z7]) (st1 := [.ref 0]) rfl ?_
  refine Wp.gr (t := (10, 0)) (v := some (40)) rfl (WF.t hw 0 rfl) rfl (WF.r hw 0 10 8 rfl) ?_
  show Wp d 152 66 [some (.ref 0), some (.int (Int32.ofNat s)), some (.int (w)), some (.int (Int32.ofNat N)), some (.int (0)), some (.int (r)), some (.int (Int32.ofNat i)), z7] [.ref 40] h Q
  refine Wp.seg 1 (pc1 := 67) (ls1 := [some (.ref 0), some (.int (Int32.ofNat s)), some (.int (w)), some (.int (Int32.ofNat N)), some (.int (0)), some (.int (r)), some (.int (Int32.ofNat i)), z7]) (st1 := [.int (Int32.ofNat s), .ref 40]) rfl ?_
  refine Wp.aald (j := s) (k := 26) (n := 4) (v := some (41 + s)) rfl (WF.t hw 40 rfl) rfl rfl hs (by decide) (it_r hw hs) ?_
  show Wp d 152 68 [some (.ref 0), some (.int (Int32.ofNat s)), some (.int (w)), some (.int (Int32.ofNat N)), some (.int (0)), some (.int (r)), some (.int (Int32.ofNat i)), z7] [.ref (41 + s)] h Q
  refine Wp.seg 3 (pc1 := 72) (ls1 := [some (.ref 0), some (.int (Int32.ofNat s)), some (.int (w)), some (.int (Int32.ofNat N)), some (.int (0)), some (.int (r)), some (.int (Int32.ofNat i)), z7]) (st1 := [.int (w + (Int32.ofNat i)), .ref (41 + s)]) rfl ?_
  refine Wp.iald (j := j) (k := 20) (n := 40) rfl (it_t hw hs) rfl ej (by omega) (by decide) ?_
  rw [show h.2.2.1 (41 + s) j = x from hx]
  refine Wp.seg 3 (pc1 := 78) (ls1 := [some (.ref 0), some (.int (Int32.ofNat s)), some (.int (w)), some (.int (Int32.ofNat N)), some (.int (0)), some (.int (r)), some (.int (Int32.ofNat i)), some (.int (x))]) (st1 := [.int (x), .ref 0]) rfl ?_
  refine Wp.invV (d2 := 0) (as := [.ref 0, .int (x)]) (r := []) (t := (10, 0)) rfl rfl rfl rfl (WF.t hw 0 rfl) rfl rfl ⟨rfl, rfl⟩ (by omega) (s_act hw hk ?_)
  show Wp d 152 81 [some (.ref 0), some (.int (Int32.ofNat s)), some (.int (w)), some (.int (Int32.ofNat N)), some (.int (0)), some (.int (r)), some (.int (Int32.ofNat i)), some (.int (x))] [.int (b32 (inB x 0 (n : Int)))] h Q
  refine Wp.ifz rfl (fun c3 => absurd (c3.symm.trans (qx)) (by decide)) (fun c3 => ?_)
  refine Wp.seg 1 (pc1 := 85) (ls1 := [some (.ref 0), some (.int (Int32.ofNat s)), some (.int (w)), some (.int (Int32.ofNat N)), some (.int (0)), some (.int (r)), some (.int (Int32.ofNat i)), some (.int (x))]) (st1 := [.ref 0]) rfl ?_
  refine Wp.gr (t := (10, 0)) (v := some (1)) rfl (WF.t hw 0 rfl) rfl (WF.r hw 0 0 0 rfl) ?_
  show Wp d 152 88 [some (.ref 0), some (.int (Int32.ofNat s)), some (.int (w)), some (.int (Int32.ofNat N)), some (.int (0)), some (.int (r)), some (.int (Int32.ofNat i)), some (.int (x))] [.ref 1] h Q
  refine Wp.invV (d2 := 0) (as := [.ref 1]) (r := []) (t := (1, 0)) rfl rfl rfl rfl (WF.t hw 1 rfl) rfl rfl ⟨rfl, rfl⟩ (by omega) (s_over1 hw cA1 hk hlt ?_)
  show Wp d 152 91 [some (.ref 0), some (.int (Int32.ofNat s)), some (.int (w)), some (.int (Int32.ofNat N)), some (.int (0)), some (.int (r)), some (.int (Int32.ofNat i)), some (.int (x))] [.int (1)] h Q
  refine Wp.if1 rfl (fun c4 => ?_) (fun c4 => absurd (show ¬ (1 : Int32) = 0 by decide) c4)
  refine Wp.seg 2 (pc1 := 41) (ls1 := [some (.ref 0), some (.int (Int32.ofNat s)), some (.int (w)), some (.int (Int32.ofNat N)), some (.int (0)), some (.int (r)), some (.int ((Int32.ofNat i) + 1)), some (.int (x))]) (st1 := []) rfl ?_
  exact hQ
set_option maxHeartbeats 4000000 in
theorem t_cgl4 {d : Nat} {Q : KO → Prop} {h : KH} (hw : WF h) {s N i : Nat} {w r : Int32} {z7 : Option Value} (hs : s < 4) {z : Nat} (hz : z ≤ 40) (h39 : h.2.2.1 39 s = Int32.ofNat z) (ge : ¬ (Int32.ofNat N ≤ Int32.ofNat i)) (qp : plB z (w + Int32.ofNat i) = true) {j : Nat} {x : Int32} (hj : j < 40) (ej : w + Int32.ofNat i = Int32.ofNat j) (hx : h.2.2.1 (41 + s) j = x) {A : Nat → Int32} {RL : List Rul} {n c dn en : Nat} (hk : cityOK h 1 A RL n c dn en) (qx : inB x 0 (n : Int) = true) (hlt : dn < en) (ht : okT n (x - 1)) (hd : 5 ≤ d) (hQ : ∀ k, Fr (pC 1) noP h k → cityOK k 1 (goA RL A (x - 1)) RL n c (dn + 1) en → (Wp d 152 41 ([some (.ref 0), some (.int (Int32.ofNat s)), some (.int (w)), some (.int (Int32.ofNat N)), some (.int (0)), some (.int (r + (wA RL A (x - 1)))), some (.int ((Int32.ofNat i) + 1)), some (.int (x))]) [] k Q)) : Wp d 152 41 [some (.ref 0), some (.int (Int32.ofNat s)), some (.int (w)), some (.int (Int32.ofNat N)), some (.int (0)), some (.int (r)), some (.int (Int32.ofNat i)), z7] [] h Q := by
  refine Wp.seg 2 (pc1 := 44) (ls1 := [some (.ref 0), some (.int (Int32.ofNat s)), some (.int (w)), some (.int (Int32.ofNat N)), some (.int (0)), some (.int (r)), some (.int (Int32.ofNat i)), z7]) (st1 := [.int (Int32.ofNat N), .int (Int32.ofNat i)]) rfl ?_
  refine Wp.if2 rfl (fun c1 => absurd c1 (ge)) (fun c1 => ?_)
  refine Wp.seg 5 (pc1 := 53) (ls1 := [some (.ref 0), some (.int (Int32.ofNat s)), some (.int (w)), some (.int (Int32.ofNat N)), some (.int (0)), some (.int (r)), some (.int (Int32.ofNat i)), z7]) (st1 := [.int (w + (Int32.ofNat i)), .int (Int32.ofNat s), .ref 0]) rfl ?_
  refine Wp.invV (d2 := 0) (as := [.ref 0, .int (Int32.ofNat s), .int (w + (Int32.ofNat i))]) (r := []) (t := (10, 0)) rfl rfl rfl rfl (WF.t hw 0 rfl) rfl rfl ⟨rfl, rfl⟩ (by omega) (s_item hw hs hz h39 ?_)
  show Wp d 152 56 [some (.ref 0), some (.int (Int32.ofNat s)), some (.int (w)), some (.int (Int32.ofNat N)), some (.int (0)), some (.int (r)), some (.int (Int32.ofNat i)), z7] [.int (b32 (plB z (w + (Int32.ofNat i))))] h Q
  refine Wp.ifnz rfl (fun c2 => ?_) (fun c2 => absurd (c2.symm.trans (qp)) (by decide))
  refine Wp.seg 1 (pc1 := 63) (ls1 := [some (.ref 0), some (.int (Int32.ofNat s)), some (.int (w)), some (.int (Int32.ofNat N)), some (.int (0)), some (.int (r)), some (.int (Int32.ofNat i)), z7]) (st1 := [.ref 0]) rfl ?_
  refine Wp.gr (t := (10, 0)) (v := some (40)) rfl (WF.t hw 0 rfl) rfl (WF.r hw 0 10 8 rfl) ?_
  show Wp d 152 66 [some (.ref 0), some (.int (Int32.ofNat s)), some (.int (w)), some (.int (Int32.ofNat N)), some (.int (0)), some (.int (r)), some (.int (Int32.ofNat i)), z7] [.ref 40] h Q
  refine Wp.seg 1 (pc1 := 67) (ls1 := [some (.ref 0), some (.int (Int32.ofNat s)), some (.int (w)), some (.int (Int32.ofNat N)), some (.int (0)), some (.int (r)), some (.int (Int32.ofNat i)), z7]) (st1 := [.int (Int32.ofNat s), .ref 40]) rfl ?_
  refine Wp.aald (j := s) (k := 26) (n := 4) (v := some (41 + s)) rfl (WF.t hw 40 rfl) rfl rfl hs (by decide) (it_r hw hs) ?_
  show Wp d 152 68 [some (.ref 0), some (.int (Int32.ofNat s)), some (.int (w)), some (.int (Int32.ofNat N)), some (.int (0)), some (.int (r)), some (.int (Int32.ofNat i)), z7] [.ref (41 + s)] h Q
  refine Wp.seg 3 (pc1 := 72) (ls1 := [some (.ref 0), some (.int (Int32.ofNat s)), some (.int (w)), some (.int (Int32.ofNat N)), some (.int (0)), some (.int (r)), some (.int (Int32.ofNat i)), z7]) (st1 := [.int (w + (Int32.ofNat i)), .ref (41 + s)]) rfl ?_
  refine Wp.iald (j := j) (k := 20) (n := 40) rfl (it_t hw hs) rfl ej (by omega) (by decide) ?_
  rw [show h.2.2.1 (41 + s) j = x from hx]
  refine Wp.seg 3 (pc1 := 78) (ls1 := [some (.ref 0), some (.int (Int32.ofNat s)), some (.int (w)), some (.int (Int32.ofNat N)), some (.int (0)), some (.int (r)), some (.int (Int32.ofNat i)), some (.int (x))]) (st1 := [.int (x), .ref 0]) rfl ?_
  refine Wp.invV (d2 := 0) (as := [.ref 0, .int (x)]) (r := []) (t := (10, 0)) rfl rfl rfl rfl (WF.t hw 0 rfl) rfl rfl ⟨rfl, rfl⟩ (by omega) (s_act hw hk ?_)
  show Wp d 152 81 [some (.ref 0), some (.int (Int32.ofNat s)), some (.int (w)), some (.int (Int32.ofNat N)), some (.int (0)), some (.int (r)), some (.int (Int32.ofNat i)), some (.int (x))] [.int (b32 (inB x 0 (n : Int)))] h Q
  refine Wp.ifz rfl (fun c3 => absurd (c3.symm.trans (qx)) (by decide)) (fun c3 => ?_)
  refine Wp.seg 1 (pc1 := 85) (ls1 := [some (.ref 0), some (.int (Int32.ofNat s)), some (.int (w)), some (.int (Int32.ofNat N)), some (.int (0)), some (.int (r)), some (.int (Int32.ofNat i)), some (.int (x))]) (st1 := [.ref 0]) rfl ?_
  refine Wp.gr (t := (10, 0)) (v := some (1)) rfl (WF.t hw 0 rfl) rfl (WF.r hw 0 0 0 rfl) ?_
  show Wp d 152 88 [some (.ref 0), some (.int (Int32.ofNat s)), some (.int (w)), some (.int (Int32.ofNat N)), some (.int (0)), some (.int (r)), some (.int (Int32.ofNat i)), some (.int (x))] [.ref 1] h Q
  refine Wp.invV (d2 := 0) (as := [.ref 1]) (r := []) (t := (1, 0)) rfl rfl rfl rfl (WF.t hw 1 rfl) rfl rfl ⟨rfl, rfl⟩ (by omega) (s_over0 hw cA1 hk hlt ?_)
  show Wp d 152 91 [some (.ref 0), some (.int (Int32.ofNat s)), some (.int (w)), some (.int (Int32.ofNat N)), some (.int (0)), some (.int (r)), some (.int (Int32.ofNat i)), some (.int (x))] [.int (0)] h Q
  refine Wp.if1 rfl (fun c4 => absurd c4 (show ¬ (¬ (0 : Int32) = 0) by decide)) (fun c4 => ?_)
  refine Wp.seg 2 (pc1 := 97) (ls1 := [some (.ref 0), some (.int (Int32.ofNat s)), some (.int (w)), some (.int (Int32.ofNat N)), some (.int (0)), some (.int (r)), some (.int (Int32.ofNat i)), some (.int (x))]) (st1 := [.ref 0, .int (r)]) rfl ?_
  refine Wp.gr (t := (10, 0)) (v := some (1)) rfl (WF.t hw 0 rfl) rfl (WF.r hw 0 0 0 rfl) ?_
  show Wp d 152 100 [some (.ref 0), some (.int (Int32.ofNat s)), some (.int (w)), some (.int (Int32.ofNat N)), some (.int (0)), some (.int (r)), some (.int (Int32.ofNat i)), some (.int (x))] [.ref 1, .int (r)] h Q
  refine Wp.seg 3 (pc1 := 104) (ls1 := [some (.ref 0), some (.int (Int32.ofNat s)), some (.int (w)), some (.int (Int32.ofNat N)), some (.int (0)), some (.int (r)), some (.int (Int32.ofNat i)), some (.int (x))]) (st1 := [.int (x - (1 : Int32)), .ref 1, .int (r)]) rfl ?_
  refine Wp.invV (d2 := 4) (as := [.ref 1, .int (x - (1 : Int32))]) (r := [.int (r)]) (t := (1, 0)) rfl rfl rfl rfl (WF.t hw 1 rfl) rfl rfl ⟨rfl, rfl⟩ (by omega) (s_cpassF hw cA1 hk hlt ht (Nat.le_refl _) ?_)
  intro k f g
  show Wp d 152 107 [some (.ref 0), some (.int (Int32.ofNat s)), some (.int (w)), some (.int (Int32.ofNat N)), some (.int (0)), some (.int (r)), some (.int (Int32.ofNat i)), some (.int (x))] [.int (wA RL A (x - 1)), .int (r)] k Q
  refine Wp.seg 4 (pc1 := 41) (ls1 := [some (.ref 0), some (.int (Int32.ofNat s)), some (.int (w)), some (.int (Int32.ofNat N)), some (.int (0)), some (.int (r + (wA RL A (x - 1)))), some (.int ((Int32.ofNat i) + 1)), some (.int (x))]) (st1 := []) rfl ?_
  exact (hQ k f g)
set_option maxHeartbeats 4000000 in
theorem t_na0 {d : Nat} {Q : KO → Prop} {h : KH} (hw : WF h) {v m : Int32} (q : inB v 0 3 = false) (hd : 2 ≤ d) (hQ : Q (some (.int (-1)), h)) : Cl d 267 [.ref 59, .int (v), .int (m)] h Q := by
  refine Cl.of (ls := [some (.ref 59), some (.int (v)), some (.int (m))]) rfl rfl ?_
  refine Wp.seg 1 (pc1 := 1) (ls1 := [some (.ref 59), some (.int (v)), some (.int (m))]) (st1 := [.int (v)]) rfl ?_
  refine Wp.inv (d2 := 1) (as := [.int (v)]) (r := []) rfl rfl rfl rfl rfl rfl (by omega) (s_b177 (Nat.le_refl _) ?_)
  show Wp d 267 4 [some (.ref 59), some (.int (v)), some (.int (m))] [.int (b32 (inB v 0 3))] h Q
  refine Wp.ifz rfl (fun c1 => ?_) (fun c1 => absurd (c1.symm.trans (q)) (by decide))
  refine Wp.seg 1 (pc1 := 18) (ls1 := [some (.ref 59), some (.int (v)), some (.int (m))]) (st1 := [.int (-1)]) rfl ?_
  exact Wp.reti rfl rfl hQ
set_option maxHeartbeats 4000000 in
theorem t_na1 {d : Nat} {Q : KO → Prop} {h : KH} (hw : WF h) {s : Nat} {so : Int32} (hs : s < 4) (qs : inB (Int32.ofNat s) 0 3 = true) {m : Int32} (qm : inB m 0 20 = false) (hd : 2 ≤ d) (hQ : Q (some (.int (-1)), h)) : Cl d 267 [.ref 59, .int (Int32.ofNat s), .int (m)] h Q := by
  refine Cl.of (ls := [some (.ref 59), some (.int (Int32.ofNat s)), some (.int (m))]) rfl rfl ?_
  refine Wp.seg 1 (pc1 := 1) (ls1 := [some (.ref 59), some (.int (Int32.ofNat s)), some (.int (m))]) (st1 := [.int (Int32.ofNat s)]) rfl ?_
  refine Wp.inv (d2 := 1) (as := [.int (Int32.ofNat s)]) (r := []) rfl rfl rfl rfl rfl rfl (by omega) (s_b177 (Nat.le_refl _) ?_)
  show Wp d 267 4 [some (.ref 59), some (.int (Int32.ofNat s)), some (.int (m))] [.int (b32 (inB (Int32.ofNat s) 0 3))] h Q
  refine Wp.ifz rfl (fun c1 => absurd (c1.symm.trans (qs)) (by decide)) (fun c1 => ?_)
  refine Wp.seg 3 (pc1 := 11) (ls1 := [some (.ref 59), some (.int (Int32.ofNat s)), some (.int (m))]) (st1 := [.int (20), .int (0), .int (m)]) rfl ?_
  refine Wp.inv (d2 := 0) (as := [.int (m), .int (0), .int (20)]) (r := []) rfl rfl rfl rfl rfl rfl (by omega) (s_inB (x := 0) (y := 20) rfl rfl ?_)
  show Wp d 267 14 [some (.ref 59), some (.int (Int32.ofNat s)), some (.int (m))] [.int (b32 (inB m 0 20))] h Q
  refine Wp.ifnz rfl (fun c2 => absurd (c2.symm.trans (qm)) (by decide)) (fun c2 => ?_)
  refine Wp.seg 1 (pc1 := 18) (ls1 := [some (.ref 59), some (.int (Int32.ofNat s)), some (.int (m))]) (st1 := [.int (-1)]) rfl ?_
  exact Wp.reti rfl rfl hQ
set_option maxHeartbeats 4000000 in
theorem t_na2 {d : Nat} {Q : KO → Prop} {h : KH} (hw : WF h) {s : Nat} {so : Int32} (hs : s < 4) (qs : inB (Int32.ofNat s) 0 3 = true) {m : Int32} (h68 : h.2.2.1 68 s = so) (qm : inB m 0 20 = true) (g : ¬ (0 ≤ so)) (hd : 2 ≤ d) (hQ : Q (some (.int (-11)), h)) : Cl d 267 [.ref 59, .int (Int32.ofNat s), .int (m)] h Q := by
  refine Cl.of (ls := [some (.ref 59), some (.int (Int32.ofNat s)), some (.int (m))]) rfl rfl ?_
  refine Wp.seg 1 (pc1 := 1) (ls1 := [some (.ref 59), some (.int (Int32.ofNat s)), some (.int (m))]) (st1 := [.int (Int32.ofNat s)]) rfl ?_
  refine Wp.inv (d2 := 1) (as := [.int (Int32.ofNat s)]) (r := []) rfl rfl rfl rfl rfl rfl (by omega) (s_b177 (Nat.le_refl _) ?_)
  show Wp d 267 4 [some (.ref 59), some (.int (Int32.ofNat s)), some (.int (m))] [.int (b32 (inB (Int32.ofNat s) 0 3))] h Q
  refine Wp.ifz rfl (fun c1 => absurd (c1.symm.trans (qs)) (by decide)) (fun c1 => ?_)
  refine Wp.seg 3 (pc1 := 11) (ls1 := [some (.ref 59), some (.int (Int32.ofNat s)), some (.int (m))]) (st1 := [.int (20), .int (0), .int (m)]) rfl ?_
  refine Wp.inv (d2 := 0) (as := [.int (m), .int (0), .int (20)]) (r := []) rfl rfl rfl rfl rfl rfl (by omega) (s_inB (x := 0) (y := 20) rfl rfl ?_)
  show Wp d 267 14 [some (.ref 59), some (.int (Int32.ofNat s)), some (.int (m))] [.int (b32 (inB m 0 20))] h Q
  refine Wp.ifnz rfl (fun c2 => ?_) (fun c2 => absurd (c2.symm.trans (qm)) (by decide))
  refine Wp.seg 1 (pc1 := 20) (ls1 := [some (.ref 59), some (.int (Int32.ofNat s)), some (.int (m))]) (st1 := [.ref 59]) rfl ?_
  refine Wp.gr (t := (11, 0)) (v := some (68)) rfl (WF.t hw 59 rfl) rfl (WF.r hw 59 22 66 rfl) ?_
  show Wp d 267 23 [some (.ref 59), some (.int (Int32.ofNat s)), some (.int (m))] [.ref 68] h Q
  refine Wp.seg 1 (pc1 := 24) (ls1 := [some (.ref 59), some (.int (Int32.ofNat s)), some (.int (m))]) (st1 := [.int (Int32.ofNat s), .ref 68]) rfl ?_
  refine Wp.iald (j := s) (k := 20) (n := 4) rfl (WF.t hw 68 rfl) rfl rfl hs (by decide) ?_
  rw [show h.2.2.1 68 s = so from h68]
  refine Wp.if1 rfl (fun c3 => absurd c3 (g)) (fun c3 => ?_)
  refine Wp.seg 2 (pc1 := 48) (ls1 := [some (.ref 59), some (.int (Int32.ofNat s)), some (.int (m))]) (st1 := [.int (-11)]) rfl ?_
  exact Wp.reti rfl rfl hQ
set_option maxHeartbeats 4000000 in
theorem t_na3 {d : Nat} {Q : KO → Prop} {h : KH} (hw : WF h) {s : Nat} {so : Int32} (hs : s < 4) (qs : inB (Int32.ofNat s) 0 3 = true) {m : Int32} (h68 : h.2.2.1 68 s = so) (qm : inB m 0 20 = true) (g : 0 ≤ so) (e2 : ¬ (so = 0)) (hd : 2 ≤ d) (hQ : Q (some (.int (-13)), h)) : Cl d 267 [.ref 59, .int (Int32.ofNat s), .int (m)] h Q := by
  refine Cl.of (ls := [some (.ref 59), some (.int (Int32.ofNat s)), some (.int (m))]) rfl rfl ?_
  refine Wp.seg 1 (pc1 := 1) (ls1 := [some (.ref 59), some (.int (Int32.ofNat s)), some (.int (m))]) (st1 := [.int (Int32.ofNat s)]) rfl ?_
  refine Wp.inv (d2 := 1) (as := [.int (Int32.ofNat s)]) (r := []) rfl rfl rfl rfl rfl rfl (by omega) (s_b177 (Nat.le_refl _) ?_)
  show Wp d 267 4 [some (.ref 59), some (.int (Int32.ofNat s)), some (.int (m))] [.int (b32 (inB (Int32.ofNat s) 0 3))] h Q
  refine Wp.ifz rfl (fun c1 => absurd (c1.symm.trans (qs)) (by decide)) (fun c1 => ?_)
  refine Wp.seg 3 (pc1 := 11) (ls1 := [some (.ref 59), some (.int (Int32.ofNat s)), some (.int (m))]) (st1 := [.int (20), .int (0), .int (m)]) rfl ?_
  refine Wp.inv (d2 := 0) (as := [.int (m), .int (0), .int (20)]) (r := []) rfl rfl rfl rfl rfl rfl (by omega) (s_inB (x := 0) (y := 20) rfl rfl ?_)
  show Wp d 267 14 [some (.ref 59), some (.int (Int32.ofNat s)), some (.int (m))] [.int (b32 (inB m 0 20))] h Q
  refine Wp.ifnz rfl (fun c2 => ?_) (fun c2 => absurd (c2.symm.trans (qm)) (by decide))
  refine Wp.seg 1 (pc1 := 20) (ls1 := [some (.ref 59), some (.int (Int32.ofNat s)), some (.int (m))]) (st1 := [.ref 59]) rfl ?_
  refine Wp.gr (t := (11, 0)) (v := some (68)) rfl (WF.t hw 59 rfl) rfl (WF.r hw 59 22 66 rfl) ?_
  show Wp d 267 23 [some (.ref 59), some (.int (Int32.ofNat s)), some (.int (m))] [.ref 68] h Q
  refine Wp.seg 1 (pc1 := 24) (ls1 := [some (.ref 59), some (.int (Int32.ofNat s)), some (.int (m))]) (st1 := [.int (Int32.ofNat s), .ref 68]) rfl ?_
  refine Wp.iald (j := s) (k := 20) (n := 4) rfl (WF.t hw 68 rfl) rfl rfl hs (by decide) ?_
  rw [show h.2.2.1 68 s = so from h68]
  refine Wp.if1 rfl (fun c3 => ?_) (fun c3 => absurd (g) c3)
  refine Wp.seg 1 (pc1 := 34) (ls1 := [some (.ref 59), some (.int (Int32.ofNat s)), some (.int (m))]) (st1 := [.ref 59]) rfl ?_
  refine Wp.gr (t := (11, 0)) (v := some (68)) rfl (WF.t hw 59 rfl) rfl (WF.r hw 59 22 66 rfl) ?_
  show Wp d 267 37 [some (.ref 59), some (.int (Int32.ofNat s)), some (.int (m))] [.ref 68] h Q
  refine Wp.seg 1 (pc1 := 38) (ls1 := [some (.ref 59), some (.int (Int32.ofNat s)), some (.int (m))]) (st1 := [.int (Int32.ofNat s), .ref 68]) rfl ?_
  refine Wp.iald (j := s) (k := 20) (n := 4) rfl (WF.t hw 68 rfl) rfl rfl hs (by decide) ?_
  rw [show h.2.2.1 68 s = so from h68]
  refine Wp.if1 rfl (fun c4 => ?_) (fun c4 => absurd (e2) c4)
  refine Wp.seg 1 (pc1 := 48) (ls1 := [some (.ref 59), some (.int (Int32.ofNat s)), some (.int (m))]) (st1 := [.int (-13)]) rfl ?_
  exact Wp.reti rfl rfl hQ
set_option maxHeartbeats 4000000 in
theorem t_na4 {d : Nat} {Q : KO → Prop} {h : KH} (hw : WF h) {s : Nat} {so : Int32} (hs : s < 4) (qs : inB (Int32.ofNat s) 0 3 = true) {m : Int32} (h68 : h.2.2.1 68 s = so) (qm : inB m 0 20 = true) (g : 0 ≤ so) (e2 : so = 0) (hd : 2 ≤ d) (hQ : Q (some (.int (0)), h)) : Cl d 267 [.ref 59, .int (Int32.ofNat s), .int (m)] h Q := by
  refine Cl.of (ls := [some (.ref 59), some (.int (Int32.ofNat s)), some (.int (m))]) rfl rfl ?_
  refine Wp.seg 1 (pc1 := 1) (ls1 := [some (.ref 59), some (.int (Int32.ofNat s)), some (.int (m))]) (st1 := [.int (Int32.ofNat s)]) rfl ?_
  refine Wp.inv (d2 := 1) (as := [.int (Int32.ofNat s)]) (r := []) rfl rfl rfl rfl rfl rfl (by omega) (s_b177 (Nat.le_refl _) ?_)
  show Wp d 267 4 [some (.ref 59), some (.int (Int32.ofNat s)), some (.int (m))] [.int (b32 (inB (Int32.ofNat s) 0 3))] h Q
  refine Wp.ifz rfl (fun c1 => absurd (c1.symm.trans (qs)) (by decide)) (fun c1 => ?_)
  refine Wp.seg 3 (pc1 := 11) (ls1 := [some (.ref 59), some (.int (Int32.ofNat s)), some (.int (m))]) (st1 := [.int (20), .int (0), .int (m)]) rfl ?_
  refine Wp.inv (d2 := 0) (as := [.int (m), .int (0), .int (20)]) (r := []) rfl rfl rfl rfl rfl rfl (by omega) (s_inB (x := 0) (y := 20) rfl rfl ?_)
  show Wp d 267 14 [some (.ref 59), some (.int (Int32.ofNat s)), some (.int (m))] [.int (b32 (inB m 0 20))] h Q
  refine Wp.ifnz rfl (fun c2 => ?_) (fun c2 => absurd (c2.symm.trans (qm)) (by decide))
  refine Wp.seg 1 (pc1 := 20) (ls1 := [some (.ref 59), some (.int (Int32.ofNat s)), some (.int (m))]) (st1 := [.ref 59]) rfl ?_
  refine Wp.gr (t := (11, 0)) (v := some (68)) rfl (WF.t hw 59 rfl) rfl (WF.r hw 59 22 66 rfl) ?_
  show Wp d 267 23 [some (.ref 59), some (.int (Int32.ofNat s)), some (.int (m))] [.ref 68] h Q
  refine Wp.seg 1 (pc1 := 24) (ls1 := [some (.ref 59), some (.int (Int32.ofNat s)), some (.int (m))]) (st1 := [.int (Int32.ofNat s), .ref 68]) rfl ?_
  refine Wp.iald (j := s) (k := 20) (n := 4) rfl (WF.t hw 68 rfl) rfl rfl hs (by decide) ?_
  rw [show h.2.2.1 68 s = so from h68]
  refine Wp.if1 rfl (fun c3 => ?_) (fun c3 => absurd (g) c3)
  refine Wp.seg 1 (pc1 := 34) (ls1 := [some (.ref 59), some (.int (Int32.ofNat s)), some (.int (m))]) (st1 := [.ref 59]) rfl ?_
  refine Wp.gr (t := (11, 0)) (v := some (68)) rfl (WF.t hw 59 rfl) rfl (WF.r hw 59 22 66 rfl) ?_
  show Wp d 267 37 [some (.ref 59), some (.int (Int32.ofNat s)), some (.int (m))] [.ref 68] h Q
  refine Wp.seg 1 (pc1 := 38) (ls1 := [some (.ref 59), some (.int (Int32.ofNat s)), some (.int (m))]) (st1 := [.int (Int32.ofNat s), .ref 68]) rfl ?_
  refine Wp.iald (j := s) (k := 20) (n := 4) rfl (WF.t hw 68 rfl) rfl rfl hs (by decide) ?_
  rw [show h.2.2.1 68 s = so from h68]
  refine Wp.if1 rfl (fun c4 => absurd c4 (fun z => z e2)) (fun c4 => ?_)
  refine Wp.seg 2 (pc1 := 48) (ls1 := [some (.ref 59), some (.int (Int32.ofNat s)), some (.int (m))]) (st1 := [.int (0)]) rfl ?_
  exact Wp.reti rfl rfl hQ
set_option maxHeartbeats 4000000 in
theorem t_mga0 {d : Nat} {Q : KO → Prop} {h : KH} (hw : WF h) {v w m : Int32} (q : inB v 0 3 = false) (hd : 4 ≤ d) (hQ : Q (some (.int (-1)), h)) : Cl d 269 [.ref 59, .int (v), .int (w), .int (m)] h Q := by
  refine Cl.of (ls := [some (.ref 59), some (.int (v)), some (.int (w)), some (.int (m)), none, none, none, none]) rfl rfl ?_
  refine Wp.seg 3 (pc1 := 3) (ls1 := [some (.ref 59), some (.int (v)), some (.int (w)), some (.int (m)), none, none, none, none]) (st1 := [.int (m), .int (v), .ref 59]) rfl ?_
  refine Wp.invV (d2 := 2) (as := [.ref 59, .int (v), .int (m)]) (r := []) (t := (11, 0)) rfl rfl rfl rfl (WF.t hw 59 rfl) rfl rfl ⟨rfl, rfl⟩ (by omega) (t_na0 hw q (Nat.le_refl _) ?_)
  show Wp d 269 6 [some (.ref 59), some (.int (v)), some (.int (w)), some (.int (m)), none, none, none, none] [.int (-1)] h Q
  refine Wp.seg 2 (pc1 := 10) (ls1 := [some (.ref 59), some (.int (v)), some (.int (w)), some (.int (m)), some (.int (-1)), none, none, none]) (st1 := [.int (-1)]) rfl ?_
  refine Wp.if1 rfl (fun c1 => absurd c1 (show ¬ ((-1 : Int32) = 0) by decide)) (fun c1 => ?_)
  refine Wp.seg 1 (pc1 := 15) (ls1 := [some (.ref 59), some (.int (v)), some (.int (w)), some (.int (m)), some (.int (-1)), none, none, none]) (st1 := [.int (-1)]) rfl ?_
  exact Wp.reti rfl rfl hQ
set_option maxHeartbeats 4000000 in
theorem t_mga1 {d : Nat} {Q : KO → Prop} {h : KH} (hw : WF h) {s : Nat} {so : Int32} (hs : s < 4) (qs : inB (Int32.ofNat s) 0 3 = true) {w m : Int32} (qm : inB m 0 20 = false) (hd : 4 ≤ d) (hQ : Q (some (.int (-1)), h)) : Cl d 269 [.ref 59, .int (Int32.ofNat s), .int (w), .int (m)] h Q := by
  refine Cl.of (ls := [some (.ref 59), some (.int (Int32.ofNat s)), some (.int (w)), some (.int (m)), none, none, none, none]) rfl rfl ?_
  refine Wp.seg 3 (pc1 := 3) (ls1 := [some (.ref 59), some (.int (Int32.ofNat s)), some (.int (w)), some (.int (m)), none, none, none, none]) (st1 := [.int (m), .int (Int32.ofNat s), .ref 59]) rfl ?_
  refine Wp.invV (d2 := 2) (as := [.ref 59, .int (Int32.ofNat s), .int (m)]) (r := []) (t := (11, 0)) rfl rfl rfl rfl (WF.t hw 59 rfl) rfl rfl ⟨rfl, rfl⟩ (by omega) (t_na1 (so := 0) hw hs qs qm (Nat.le_refl _) ?_)
  show Wp d 269 6 [some (.ref 59), some (.int (Int32.ofNat s)), some (.int (w)), some (.int (m)), none, none, none, none] [.int (-1)] h Q
  refine Wp.seg 2 (pc1 := 10) (ls1 := [some (.ref 59), some (.int (Int32.ofNat s)), some (.int (w)), some (.int (m)), some (.int (-1)), none, none, none]) (st1 := [.int (-1)]) rfl ?_
  refine Wp.if1 rfl (fun c1 => absurd c1 (show ¬ ((-1 : Int32) = 0) by decide)) (fun c1 => ?_)
  refine Wp.seg 1 (pc1 := 15) (ls1 := [some (.ref 59), some (.int (Int32.ofNat s)), some (.int (w)), some (.int (m)), some (.int (-1)), none, none, none]) (st1 := [.int (-1)]) rfl ?_
  exact Wp.reti rfl rfl hQ
set_option maxHeartbeats 4000000 in
theorem t_mga2 {d : Nat} {Q : KO → Prop} {h : KH} (hw : WF h) {s : Nat} {so : Int32} (hs : s < 4) (qs : inB (Int32.ofNat s) 0 3 = true) {w m : Int32} (h68 : h.2.2.1 68 s = so) (qm : inB m 0 20 = true) (g : ¬ (0 ≤ so)) (hd : 4 ≤ d) (hQ : Q (some (.int (-11)), h)) : Cl d 269 [.ref 59, .int (Int32.ofNat s), .int (w), .int (m)] h Q := by
  refine Cl.of (ls := [some (.ref 59), some (.int (Int32.ofNat s)), some (.int (w)), some (.int (m)), none, none, none, none]) rfl rfl ?_
  refine Wp.seg 3 (pc1 := 3) (ls1 := [some (.ref 59), some (.int (Int32.ofNat s)), some (.int (w)), some (.int (m)), none, none, none, none]) (st1 := [.int (m), .int (Int32.ofNat s), .ref 59]) rfl ?_
  refine Wp.invV (d2 := 2) (as := [.ref 59, .int (Int32.ofNat s), .int (m)]) (r := []) (t := (11, 0)) rfl rfl rfl rfl (WF.t hw 59 rfl) rfl rfl ⟨rfl, rfl⟩ (by omega) (t_na2 hw hs qs h68 qm g (Nat.le_refl _) ?_)
  show Wp d 269 6 [some (.ref 59), some (.int (Int32.ofNat s)), some (.int (w)), some (.int (m)), none, none, none, none] [.int (-11)] h Q
  refine Wp.seg 2 (pc1 := 10) (ls1 := [some (.ref 59), some (.int (Int32.ofNat s)), some (.int (w)), some (.int (m)), some (.int (-11)), none, none, none]) (st1 := [.int (-11)]) rfl ?_
  refine Wp.if1 rfl (fun c1 => absurd c1 (show ¬ ((-11 : Int32) = 0) by decide)) (fun c1 => ?_)
  refine Wp.seg 1 (pc1 := 15) (ls1 := [some (.ref 59), some (.int (Int32.ofNat s)), some (.int (w)), some (.int (m)), some (.int (-11)), none, none, none]) (st1 := [.int (-11)]) rfl ?_
  exact Wp.reti rfl rfl hQ
set_option maxHeartbeats 4000000 in
theorem t_mga3 {d : Nat} {Q : KO → Prop} {h : KH} (hw : WF h) {s : Nat} {so : Int32} (hs : s < 4) (qs : inB (Int32.ofNat s) 0 3 = true) {w m : Int32} (h68 : h.2.2.1 68 s = so) (qm : inB m 0 20 = true) (g : 0 ≤ so) (e2 : ¬ (so = 0)) (hd : 4 ≤ d) (hQ : Q (some (.int (-13)), h)) : Cl d 269 [.ref 59, .int (Int32.ofNat s), .int (w), .int (m)] h Q := by
  refine Cl.of (ls := [some (.ref 59), some (.int (Int32.ofNat s)), some (.int (w)), some (.int (m)), none, none, none, none]) rfl rfl ?_
  refine Wp.seg 3 (pc1 := 3) (ls1 := [some (.ref 59), some (.int (Int32.ofNat s)), some (.int (w)), some (.int (m)), none, none, none, none]) (st1 := [.int (m), .int (Int32.ofNat s), .ref 59]) rfl ?_
  refine Wp.invV (d2 := 2) (as := [.ref 59, .int (Int32.ofNat s), .int (m)]) (r := []) (t := (11, 0)) rfl rfl rfl rfl (WF.t hw 59 rfl) rfl rfl ⟨rfl, rfl⟩ (by omega) (t_na3 hw hs qs h68 qm g e2 (Nat.le_refl _) ?_)
  show Wp d 269 6 [some (.ref 59), some (.int (Int32.ofNat s)), some (.int (w)), some (.int (m)), none, none, none, none] [.int (-13)] h Q
  refine Wp.seg 2 (pc1 := 10) (ls1 := [some (.ref 59), some (.int (Int32.ofNat s)), some (.int (w)), some (.int (m)), some (.int (-13)), none, none, none]) (st1 := [.int (-13)]) rfl ?_
  refine Wp.if1 rfl (fun c1 => absurd c1 (show ¬ ((-13 : Int32) = 0) by decide)) (fun c1 => ?_)
  refine Wp.seg 1 (pc1 := 15) (ls1 := [some (.ref 59), some (.int (Int32.ofNat s)), some (.int (w)), some (.int (m)), some (.int (-13)), none, none, none]) (st1 := [.int (-13)]) rfl ?_
  exact Wp.reti rfl rfl hQ
set_option maxHeartbeats 4000000 in
theorem t_mwb0 {d : Nat} {Q : KO → Prop} {h : KH} (hw : WF h) {v w m : Int32} (q : inB v 0 3 = false) (hd : 4 ≤ d) (hQ : Q (some (.int (-1)), h)) : Cl d 270 [.ref 59, .int (v), .int (w), .int (m)] h Q := by
  refine Cl.of (ls := [some (.ref 59), some (.int (v)), some (.int (w)), some (.int (m)), none, none, none, none, none]) rfl rfl ?_
  refine Wp.seg 3 (pc1 := 3) (ls1 := [some (.ref 59), some (.int (v)), some (.int (w)), some (.int (m)), none, none, none, none, none]) (st1 := [.int (m), .int (v), .ref 59]) rfl ?_
  refine Wp.invV (d2 := 2) (as := [.ref 59, .int (v), .int (m)]) (r := []) (t := (11, 0)) rfl rfl rfl rfl (WF.t hw 59 rfl) rfl rfl ⟨rfl, rfl⟩ (by omega) (t_na0 hw q (Nat.le_refl _) ?_)
  show Wp d 270 6 [some (.ref 59), some (.int (v)), some (.int (w)), some (.int (m)), none, none, none, none, none] [.int (-1)] h Q
  refine Wp.seg 2 (pc1 := 10) (ls1 := [some (.ref 59), some (.int (v)), some (.int (w)), some (.int (m)), some (.int (-1)), none, none, none, none]) (st1 := [.int (-1)]) rfl ?_
  refine Wp.if1 rfl (fun c1 => absurd c1 (show ¬ ((-1 : Int32) = 0) by decide)) (fun c1 => ?_)
  refine Wp.seg 1 (pc1 := 15) (ls1 := [some (.ref 59), some (.int (v)), some (.int (w)), some (.int (m)), some (.int (-1)), none, none, none, none]) (st1 := [.int (-1)]) rfl ?_
  exact Wp.reti rfl rfl hQ
set_option maxHeartbeats 4000000 in
theorem t_mwb1 {d : Nat} {Q : KO → Prop} {h : KH} (hw : WF h) {s : Nat} {so : Int32} (hs : s < 4) (qs : inB (Int32.ofNat s) 0 3 = true) {w m : Int32} (qm : inB m 0 20 = false) (hd : 4 ≤ d) (hQ : Q (some (.int (-1)), h)) : Cl d 270 [.ref 59, .int (Int32.ofNat s), .int (w), .int (m)] h Q := by
  refine Cl.of (ls := [some (.ref 59), some (.int (Int32.ofNat s)), some (.int (w)), some (.int (m)), none, none, none, none, none]) rfl rfl ?_
  refine Wp.seg 3 (pc1 := 3) (ls1 := [some (.ref 59), some (.int (Int32.ofNat s)), some (.int (w)), some (.int (m)), none, none, none, none, none]) (st1 := [.int (m), .int (Int32.ofNat s), .ref 59]) rfl ?_
  refine Wp.invV (d2 := 2) (as := [.ref 59, .int (Int32.ofNat s), .int (m)]) (r := []) (t := (11, 0)) rfl rfl rfl rfl (WF.t hw 59 rfl) rfl rfl ⟨rfl, rfl⟩ (by omega) (t_na1 (so := 0) hw hs qs qm (Nat.le_refl _) ?_)
  show Wp d 270 6 [some (.ref 59), some (.int (Int32.ofNat s)), some (.int (w)), some (.int (m)), none, none, none, none, none] [.int (-1)] h Q
  refine Wp.seg 2 (pc1 := 10) (ls1 := [some (.ref 59), some (.int (Int32.ofNat s)), some (.int (w)), some (.int (m)), some (.int (-1)), none, none, none, none]) (st1 := [.int (-1)]) rfl ?_
  refine Wp.if1 rfl (fun c1 => absurd c1 (show ¬ ((-1 : Int32) = 0) by decide)) (fun c1 => ?_)
  refine Wp.seg 1 (pc1 := 15) (ls1 := [some (.ref 59), some (.int (Int32.ofNat s)), some (.int (w)), some (.int (m)), some (.int (-1)), none, none, none, none]) (st1 := [.int (-1)]) rfl ?_
  exact Wp.reti rfl rfl hQ
set_option maxHeartbeats 4000000 in
theorem t_mwb2 {d : Nat} {Q : KO → Prop} {h : KH} (hw : WF h) {s : Nat} {so : Int32} (hs : s < 4) (qs : inB (Int32.ofNat s) 0 3 = true) {w m : Int32} (h68 : h.2.2.1 68 s = so) (qm : inB m 0 20 = true) (g : ¬ (0 ≤ so)) (hd : 4 ≤ d) (hQ : Q (some (.int (-11)), h)) : Cl d 270 [.ref 59, .int (Int32.ofNat s), .int (w), .int (m)] h Q := by
  refine Cl.of (ls := [some (.ref 59), some (.int (Int32.ofNat s)), some (.int (w)), some (.int (m)), none, none, none, none, none]) rfl rfl ?_
  refine Wp.seg 3 (pc1 := 3) (ls1 := [some (.ref 59), some (.int (Int32.ofNat s)), some (.int (w)), some (.int (m)), none, none, none, none, none]) (st1 := [.int (m), .int (Int32.ofNat s), .ref 59]) rfl ?_
  refine Wp.invV (d2 := 2) (as := [.ref 59, .int (Int32.ofNat s), .int (m)]) (r := []) (t := (11, 0)) rfl rfl rfl rfl (WF.t hw 59 rfl) rfl rfl ⟨rfl, rfl⟩ (by omega) (t_na2 hw hs qs h68 qm g (Nat.le_refl _) ?_)
  show Wp d 270 6 [some (.ref 59), some (.int (Int32.ofNat s)), some (.int (w)), some (.int (m)), none, none, none, none, none] [.int (-11)] h Q
  refine Wp.seg 2 (pc1 := 10) (ls1 := [some (.ref 59), some (.int (Int32.ofNat s)), some (.int (w)), some (.int (m)), some (.int (-11)), none, none, none, none]) (st1 := [.int (-11)]) rfl ?_
  refine Wp.if1 rfl (fun c1 => absurd c1 (show ¬ ((-11 : Int32) = 0) by decide)) (fun c1 => ?_)
  refine Wp.seg 1 (pc1 := 15) (ls1 := [some (.ref 59), some (.int (Int32.ofNat s)), some (.int (w)), some (.int (m)), some (.int (-11)), none, none, none, none]) (st1 := [.int (-11)]) rfl ?_
  exact Wp.reti rfl rfl hQ
set_option maxHeartbeats 4000000 in
theorem t_mwb3 {d : Nat} {Q : KO → Prop} {h : KH} (hw : WF h) {s : Nat} {so : Int32} (hs : s < 4) (qs : inB (Int32.ofNat s) 0 3 = true) {w m : Int32} (h68 : h.2.2.1 68 s = so) (qm : inB m 0 20 = true) (g : 0 ≤ so) (e2 : ¬ (so = 0)) (hd : 4 ≤ d) (hQ : Q (some (.int (-13)), h)) : Cl d 270 [.ref 59, .int (Int32.ofNat s), .int (w), .int (m)] h Q := by
  refine Cl.of (ls := [some (.ref 59), some (.int (Int32.ofNat s)), some (.int (w)), some (.int (m)), none, none, none, none, none]) rfl rfl ?_
  refine Wp.seg 3 (pc1 := 3) (ls1 := [some (.ref 59), some (.int (Int32.ofNat s)), some (.int (w)), some (.int (m)), none, none, none, none, none]) (st1 := [.int (m), .int (Int32.ofNat s), .ref 59]) rfl ?_
  refine Wp.invV (d2 := 2) (as := [.ref 59, .int (Int32.ofNat s), .int (m)]) (r := []) (t := (11, 0)) rfl rfl rfl rfl (WF.t hw 59 rfl) rfl rfl ⟨rfl, rfl⟩ (by omega) (t_na3 hw hs qs h68 qm g e2 (Nat.le_refl _) ?_)
  show Wp d 270 6 [some (.ref 59), some (.int (Int32.ofNat s)), some (.int (w)), some (.int (m)), none, none, none, none, none] [.int (-13)] h Q
  refine Wp.seg 2 (pc1 := 10) (ls1 := [some (.ref 59), some (.int (Int32.ofNat s)), some (.int (w)), some (.int (m)), some (.int (-13)), none, none, none, none]) (st1 := [.int (-13)]) rfl ?_
  refine Wp.if1 rfl (fun c1 => absurd c1 (show ¬ ((-13 : Int32) = 0) by decide)) (fun c1 => ?_)
  refine Wp.seg 1 (pc1 := 15) (ls1 := [some (.ref 59), some (.int (Int32.ofNat s)), some (.int (w)), some (.int (m)), some (.int (-13)), none, none, none, none]) (st1 := [.int (-13)]) rfl ?_
  exact Wp.reti rfl rfl hQ
set_option maxHeartbeats 4000000 in
theorem t_mga4 {d : Nat} {Q : KO → Prop} {h : KH} (hw : WF h) {s : Nat} {so : Int32} (hs : s < 4) (qs : inB (Int32.ofNat s) 0 3 = true) {w m : Int32} (h68 : h.2.2.1 68 s = so) (qm : inB m 0 20 = true) (g : 0 ≤ so) (e2 : so = 0) (hd : 4 ≤ d) (hQ : Wp d 269 22 ([some (.ref 59), some (.int (Int32.ofNat s)), some (.int (w)), some (.int (m)), some (.int (0)), some (.int (0)), some (.int (0)), none]) [] h Q) : Cl d 269 [.ref 59, .int (Int32.ofNat s), .int (w), .int (m)] h Q := by
  refine Cl.of (ls := [some (.ref 59), some (.int (Int32.ofNat s)), some (.int (w)), some (.int (m)), none, none, none, none]) rfl rfl ?_
  refine Wp.seg 3 (pc1 := 3) (ls1 := [some (.ref 59), some (.int (Int32.ofNat s)), some (.int (w)), some (.int (m)), none, none, none, none]) (st1 := [.int (m), .int (Int32.ofNat s), .ref 59]) rfl ?_
  refine Wp.invV (d2 := 2) (as := [.ref 59, .int (Int32.ofNat s), .int (m)]) (r := []) (t := (11, 0)) rfl rfl rfl rfl (WF.t hw 59 rfl) rfl rfl ⟨rfl, rfl⟩ (by omega) (t_na4 hw hs qs h68 qm g e2 (Nat.le_refl _) ?_)
  show Wp d 269 6 [some (.ref 59), some (.int (Int32.ofNat s)), some (.int (w)), some (.int (m)), none, none, none, none] [.int (0)] h Q
  refine Wp.seg 2 (pc1 := 10) (ls1 := [some (.ref 59), some (.int (Int32.ofNat s)), some (.int (w)), some (.int (m)), some (.int (0)), none, none, none]) (st1 := [.int (0)]) rfl ?_
  refine Wp.if1 rfl (fun c1 => ?_) (fun c1 => absurd (show (0 : Int32) = 0 by decide) c1)
  refine Wp.seg 4 (pc1 := 22) (ls1 := [some (.ref 59), some (.int (Int32.ofNat s)), some (.int (w)), some (.int (m)), some (.int (0)), some (.int (0)), some (.int (0)), none]) (st1 := []) rfl ?_
  exact hQ
set_option maxHeartbeats 4000000 in
theorem t_mgl0 {d : Nat} {Q : KO → Prop} {h : KH} (hw : WF h) {s N i : Nat} {w r : Int32} {z7 : Option Value} (hs : s < 4) (ge : Int32.ofNat N ≤ Int32.ofNat i) (hd : 5 ≤ d) (hQ : Q (some (.int (r)), h)) : Wp d 269 22 [some (.ref 59), some (.int (Int32.ofNat s)), some (.int (w)), some (.int (Int32.ofNat N)), some (.int (0)), some (.int (r)), some (.int (Int32.ofNat i)), z7] [] h Q := by
  refine Wp.seg 2 (pc1 := 25) (ls1 := [some (.ref 59), some (.int (Int32.ofNat s)), some (.int (w)), some (.int (Int32.ofNat N)), some (.int (0)), some (.int (r)), some (.int (Int32.ofNat i)), z7]) (st1 := [.int (Int32.ofNat N), .int (Int32.ofNat i)]) rfl ?_
  refine Wp.if2 rfl (fun c1 => ?_) (fun c1 => absurd (ge) c1)
  refine Wp.seg 1 (pc1 := 110) (ls1 := [some (.ref 59), some (.int (Int32.ofNat s)), some (.int (w)), some (.int (Int32.ofNat N)), some (.int (0)), some (.int (r)), some (.int (Int32.ofNat i)), z7]) (st1 := [.int (r)]) rfl ?_
  exact Wp.reti rfl rfl hQ
set_option maxHeartbeats 4000000 in
theorem t_mgl1 {d : Nat} {Q : KO → Prop} {h : KH} (hw : WF h) {s N i : Nat} {w r : Int32} {z7 : Option Value} (hs : s < 4) {z : Nat} (hz : z ≤ 40) (h69 : h.2.2.1 69 s = Int32.ofNat z) (hi20 : i ≤ 20) (ge : ¬ (Int32.ofNat N ≤ Int32.ofNat i)) (qp : plB z (w + Int32.ofNat i) = false) (hd : 5 ≤ d) (hQ : Q (some (.int (-12)), h)) : Wp d 269 22 [some (.ref 59), some (.int (Int32.ofNat s)), some (.int (w)), some (.int (Int32.ofNat N)), some (.int (0)), some (.int (r)), some (.int (Int32.ofNat i)), z7] [] h Q := by
  refine Wp.seg 2 (pc1 := 25) (ls1 := [some (.ref 59), some (.int (Int32.ofNat s)), some (.int (w)), some (.int (Int32.ofNat N)), some (.int (0)), some (.int (r)), some (.int (Int32.ofNat i)), z7]) (st1 := [.int (Int32.ofNat N), .int (Int32.ofNat i)]) rfl ?_
  refine Wp.if2 rfl (fun c1 => absurd c1 (ge)) (fun c1 => ?_)
  refine Wp.seg 7 (pc1 := 36) (ls1 := [some (.ref 59), some (.int (Int32.ofNat s)), some (.int (w)), some (.int (Int32.ofNat N)), some (.int (0)), some (.int (r)), some (.int (Int32.ofNat i)), z7]) (st1 := [.long (w.toInt64 + ((Int32.ofNat i).toInt64)), .int (Int32.ofNat s), .ref 59]) rfl ?_
  refine Wp.invV (d2 := 0) (as := [.ref 59, .int (Int32.ofNat s), .long (w.toInt64 + ((Int32.ofNat i).toInt64))]) (r := []) (t := (11, 0)) rfl rfl rfl rfl (WF.t hw 59 rfl) rfl rfl ⟨rfl, rfl⟩ (by omega) (s_isPl hw hs hz h69 (by omega) ?_)
  show Wp d 269 39 [some (.ref 59), some (.int (Int32.ofNat s)), some (.int (w)), some (.int (Int32.ofNat N)), some (.int (0)), some (.int (r)), some (.int (Int32.ofNat i)), z7] [.int (b32 (plB z (w + Int32.ofNat i)))] h Q
  refine Wp.ifnz rfl (fun c2 => absurd (c2.symm.trans (qp)) (by decide)) (fun c2 => ?_)
  refine Wp.seg 1 (pc1 := 44) (ls1 := [some (.ref 59), some (.int (Int32.ofNat s)), some (.int (w)), some (.int (Int32.ofNat N)), some (.int (0)), some (.int (r)), some (.int (Int32.ofNat i)), z7]) (st1 := [.int (-12)]) rfl ?_
  exact Wp.reti rfl rfl hQ
set_option maxHeartbeats 4000000 in
theorem t_mgl2 {d : Nat} {Q : KO → Prop} {h : KH} (hw : WF h) {s N i : Nat} {w r : Int32} {z7 : Option Value} (hs : s < 4) {z : Nat} (hz : z ≤ 40) (h69 : h.2.2.1 69 s = Int32.ofNat z) (hi20 : i ≤ 20) (ge : ¬ (Int32.ofNat N ≤ Int32.ofNat i)) (qp : plB z (w + Int32.ofNat i) = true) {j : Nat} {X : Int64} (hj : j < 40) (ej : w + Int32.ofNat i = Int32.ofNat j) (hX : h.2.2.2.1 70 (40 * s + j) = X) {A : Nat → Int32} {RL : List Rul} {n c dn en : Nat} (hk : refOK h A RL n c dn en) (qx : inB X.toInt32 0 (n : Int) = false) (hd : 5 ≤ d) (hQ : Wp d 269 22 ([some (.ref 59), some (.int (Int32.ofNat s)), some (.int (w)), some (.int (Int32.ofNat N)), some (.int (0)), some (.int (r + (0 : Int32))), some (.int ((Int32.ofNat i) + 1)), some (.int (X.toInt32))]) [] h Q) : Wp d 269 22 [some (.ref 59), some (.int (Int32.ofNat s)), some (.int (w)), some (.int (Int32.ofNat N)), some (.int (0)), some (.int (r)), some (.int (Int32.ofNat i)), z7] [] h Q := by
  refine Wp.seg 2 (pc1 := 25) (ls1 := [some (.ref 59), some (.int (Int32.ofNat s)), some (.int (w)), some (.int (Int32.ofNat N)), some (.int (0)), some (.int (r)), some (.int (Int32.ofNat i)), z7]) (st1 := [.int (Int32.ofNat N), .int (Int32.ofNat i)]) rfl ?_
  refine Wp.if2 rfl (fun c1 => absurd c1 (ge)) (fun c1 => ?_)
  refine Wp.seg 7 (pc1 := 36) (ls1 := [some (.ref 59), some (.int (Int32.ofNat s)), some (.int (w)), some (.int (Int32.ofNat N)), some (.int (0)), some (.int (r)), some (.int (Int32.ofNat i)), z7]) (st1 := [.long (w.toInt64 + ((Int32.ofNat i).toInt64)), .int (Int32.ofNat s), .ref 59]) rfl ?_
  refine Wp.invV (d2 := 0) (as := [.ref 59, .int (Int32.ofNat s), .long (w.toInt64 + ((Int32.ofNat i).toInt64))]) (r := []) (t := (11, 0)) rfl rfl rfl rfl (WF.t hw 59 rfl) rfl rfl ⟨rfl, rfl⟩ (by omega) (s_isPl hw hs hz h69 (by omega) ?_)
  show Wp d 269 39 [some (.ref 59), some (.int (Int32.ofNat s)), some (.int (w)), some (.int (Int32.ofNat N)), some (.int (0)), some (.int (r)), some (.int (Int32.ofNat i)), z7] [.int (b32 (plB z (w + Int32.ofNat i)))] h Q
  refine Wp.ifnz rfl (fun c2 => ?_) (fun c2 => absurd (c2.symm.trans (qp)) (by decide))
  refine Wp.seg 1 (pc1 := 46) (ls1 := [some (.ref 59), some (.int (Int32.ofNat s)), some (.int (w)), some (.int (Int32.ofNat N)), some (.int (0)), some (.int (r)), some (.int (Int32.ofNat i)), z7]) (st1 := [.ref 59]) rfl ?_
  refine Wp.gr (t := (11, 0)) (v := some (70)) rfl (WF.t hw 59 rfl) rfl (WF.r hw 59 24 68 rfl) ?_
  show Wp d 269 49 [some (.ref 59), some (.int (Int32.ofNat s)), some (.int (w)), some (.int (Int32.ofNat N)), some (.int (0)), some (.int (r)), some (.int (Int32.ofNat i)), z7] [.ref 70] h Q
  refine Wp.seg 7 (pc1 := 58) (ls1 := [some (.ref 59), some (.int (Int32.ofNat s)), some (.int (w)), some (.int (Int32.ofNat N)), some (.int (0)), some (.int (r)), some (.int (Int32.ofNat i)), z7]) (st1 := [.int ((((40 : Int32) * (Int32.ofNat s)) + w) + (Int32.ofNat i)), .ref 70]) rfl ?_
  refine Wp.lald (j := (40 * s + j)) (n := 160) rfl (WF.t hw 70 rfl) (sixj ej) (by omega) (by decide) ?_
  rw [show h.2.2.2.1 70 ((40 * s + j)) = X from hX]
  refine Wp.seg 6 (pc1 := 68) (ls1 := [some (.ref 59), some (.int (Int32.ofNat s)), some (.int (w)), some (.int (Int32.ofNat N)), some (.int (0)), some (.int (r)), some (.int (Int32.ofNat i)), some (.int (X.toInt32))]) (st1 := [.ref 59, .int (0), .int (X.toInt32), .int (r)]) rfl ?_
  refine Wp.gr (t := (11, 0)) (v := some (60)) rfl (WF.t hw 59 rfl) rfl (WF.r hw 59 0 58 rfl) ?_
  show Wp d 269 71 [some (.ref 59), some (.int (Int32.ofNat s)), some (.int (w)), some (.int (Int32.ofNat N)), some (.int (0)), some (.int (r)), some (.int (Int32.ofNat i)), some (.int (X.toInt32))] [.ref 60, .int (0), .int (X.toInt32), .int (r)] h Q
  refine Wp.seg 1 (pc1 := 73) (ls1 := [some (.ref 59), some (.int (Int32.ofNat s)), some (.int (w)), some (.int (Int32.ofNat N)), some (.int (0)), some (.int (r)), some (.int (Int32.ofNat i)), some (.int (X.toInt32))]) (st1 := [.int (8), .ref 60, .int (0), .int (X.toInt32), .int (r)]) rfl ?_
  refine Wp.iald (j := 8) (k := 20) (n := 585) rfl (WF.t hw 60 rfl) rfl rfl (by decide) (by decide) ?_
  rw [show h.2.2.1 60 8 = Int32.ofNat n from hk.2.1.2.1]
  refine Wp.inv (d2 := 0) (as := [.int (X.toInt32), .int (0), .int (Int32.ofNat n)]) (r := [.int (r)]) rfl rfl rfl rfl rfl rfl (by omega) (s_inB (x := 0) (y := (n : Int)) rfl (znat (by have := hk.2.1.1; omega)) ?_)
  show Wp d 269 77 [some (.ref 59), some (.int (Int32.ofNat s)), some (.int (w)), some (.int (Int32.ofNat N)), some (.int (0)), some (.int (r)), some (.int (Int32.ofNat i)), some (.int (X.toInt32))] [.int (b32 (inB X.toInt32 0 (n : Int))), .int (r)] h Q
  refine Wp.ifz rfl (fun c3 => ?_) (fun c3 => absurd (c3.symm.trans (qx)) (by decide))
  refine Wp.seg 5 (pc1 := 22) (ls1 := [some (.ref 59), some (.int (Int32.ofNat s)), some (.int (w)), some (.int (Int32.ofNat N)), some (.int (0)), some (.int (r + (0 : Int32))), some (.int ((Int32.ofNat i) + 1)), some (.int (X.toInt32))]) (st1 := []) rfl ?_
  exact hQ
set_option maxHeartbeats 4000000 in
theorem t_mgl3 {d : Nat} {Q : KO → Prop} {h : KH} (hw : WF h) {s N i : Nat} {w r : Int32} {z7 : Option Value} (hs : s < 4) {z : Nat} (hz : z ≤ 40) (h69 : h.2.2.1 69 s = Int32.ofNat z) (hi20 : i ≤ 20) (ge : ¬ (Int32.ofNat N ≤ Int32.ofNat i)) (qp : plB z (w + Int32.ofNat i) = true) {j : Nat} {X : Int64} (hj : j < 40) (ej : w + Int32.ofNat i = Int32.ofNat j) (hX : h.2.2.2.1 70 (40 * s + j) = X) {A : Nat → Int32} {RL : List Rul} {n c dn en : Nat} (hk : refOK h A RL n c dn en) (qx : inB X.toInt32 0 (n : Int) = true) (hlt : ¬ dn < en) (hd : 5 ≤ d) (hQ : Wp d 269 22 ([some (.ref 59), some (.int (Int32.ofNat s)), some (.int (w)), some (.int (Int32.ofNat N)), some (.int (0)), some (.int (r + (0 : Int32))), some (.int ((Int32.ofNat i) + 1)), some (.int (X.toInt32))]) [] h Q) : Wp d 269 22 [some (.ref 59), some (.int (Int32.ofNat s)), some (.int (w)), some (.int (Int32.ofNat N)), some (.int (0)), some (.int (r)), some (.int (Int32.ofNat i)), z7] [] h Q := by
  refine Wp.seg 2 (pc1 := 25) (ls1 := [some (.ref 59), some (.int (Int32.ofNat s)), some (.int (w)), some (.int (Int32.ofNat N)), some (.int (0)), some (.int (r)), some (.int (Int32.ofNat i)), z7]) (st1 := [.int (Int32.ofNat N), .int (Int32.ofNat i)]) rfl ?_
  refine Wp.if2 rfl (fun c1 => absurd c1 (ge)) (fun c1 => ?_)
  refine Wp.seg 7 (pc1 := 36) (ls1 := [some (.ref 59), some (.int (Int32.ofNat s)), some (.int (w)), some (.int (Int32.ofNat N)), some (.int (0)), some (.int (r)), some (.int (Int32.ofNat i)), z7]) (st1 := [.long (w.toInt64 + ((Int32.ofNat i).toInt64)), .int (Int32.ofNat s), .ref 59]) rfl ?_
  refine Wp.invV (d2 := 0) (as := [.ref 59, .int (Int32.ofNat s), .long (w.toInt64 + ((Int32.ofNat i).toInt64))]) (r := []) (t := (11, 0)) rfl rfl rfl rfl (WF.t hw 59 rfl) rfl rfl ⟨rfl, rfl⟩ (by omega) (s_isPl hw hs hz h69 (by omega) ?_)
  show Wp d 269 39 [some (.ref 59), some (.int (Int32.ofNat s)), some (.int (w)), some (.int (Int32.ofNat N)), some (.int (0)), some (.int (r)), some (.int (Int32.ofNat i)), z7] [.int (b32 (plB z (w + Int32.ofNat i)))] h Q
  refine Wp.ifnz rfl (fun c2 => ?_) (fun c2 => absurd (c2.symm.trans (qp)) (by decide))
  refine Wp.seg 1 (pc1 := 46) (ls1 := [some (.ref 59), some (.int (Int32.ofNat s)), some (.int (w)), some (.int (Int32.ofNat N)), some (.int (0)), some (.int (r)), some (.int (Int32.ofNat i)), z7]) (st1 := [.ref 59]) rfl ?_
  refine Wp.gr (t := (11, 0)) (v := some (70)) rfl (WF.t hw 59 rfl) rfl (WF.r hw 59 24 68 rfl) ?_
  show Wp d 269 49 [some (.ref 59), some (.int (Int32.ofNat s)), some (.int (w)), some (.int (Int32.ofNat N)), some (.int (0)), some (.int (r)), some (.int (Int32.ofNat i)), z7] [.ref 70] h Q
  refine Wp.seg 7 (pc1 := 58) (ls1 := [some (.ref 59), some (.int (Int32.ofNat s)), some (.int (w)), some (.int (Int32.ofNat N)), some (.int (0)), some (.int (r)), some (.int (Int32.ofNat i)), z7]) (st1 := [.int ((((40 : Int32) * (Int32.ofNat s)) + w) + (Int32.ofNat i)), .ref 70]) rfl ?_
  refine Wp.lald (j := (40 * s + j)) (n := 160) rfl (WF.t hw 70 rfl) (sixj ej) (by omega) (by decide) ?_
  rw [show h.2.2.2.1 70 ((40 * s + j)) = X from hX]
  refine Wp.seg 6 (pc1 := 68) (ls1 := [some (.ref 59), some (.int (Int32.ofNat s)), some (.int (w)), some (.int (Int32.ofNat N)), some (.int (0)), some (.int (r)), some (.int (Int32.ofNat i)), some (.int (X.toInt32))]) (st1 := [.ref 59, .int (0), .int (X.toInt32), .int (r)]) rfl ?_
  refine Wp.gr (t := (11, 0)) (v := some (60)) rfl (WF.t hw 59 rfl) rfl (WF.r hw 59 0 58 rfl) ?_
  show Wp d 269 71 [some (.ref 59), some (.int (Int32.ofNat s)), some (.int (w)), some (.int (Int32.ofNat N)), some (.int (0)), some (.int (r)), some (.int (Int32.ofNat i)), some (.int (X.toInt32))] [.ref 60, .int (0), .int (X.toInt32), .int (r)] h Q
  refine Wp.seg 1 (pc1 := 73) (ls1 := [some (.ref 59), some (.int (Int32.ofNat s)), some (.int (w)), some (.int (Int32.ofNat N)), some (.int (0)), some (.int (r)), some (.int (Int32.ofNat i)), some (.int (X.toInt32))]) (st1 := [.int (8), .ref 60, .int (0), .int (X.toInt32), .int (r)]) rfl ?_
  refine Wp.iald (j := 8) (k := 20) (n := 585) rfl (WF.t hw 60 rfl) rfl rfl (by decide) (by decide) ?_
  rw [show h.2.2.1 60 8 = Int32.ofNat n from hk.2.1.2.1]
  refine Wp.inv (d2 := 0) (as := [.int (X.toInt32), .int (0), .int (Int32.ofNat n)]) (r := [.int (r)]) rfl rfl rfl rfl rfl rfl (by omega) (s_inB (x := 0) (y := (n : Int)) rfl (znat (by have := hk.2.1.1; omega)) ?_)
  show Wp d 269 77 [some (.ref 59), some (.int (Int32.ofNat s)), some (.int (w)), some (.int (Int32.ofNat N)), some (.int (0)), some (.int (r)), some (.int (Int32.ofNat i)), some (.int (X.toInt32))] [.int (b32 (inB X.toInt32 0 (n : Int))), .int (r)] h Q
  refine Wp.ifz rfl (fun c3 => absurd (c3.symm.trans (qx)) (by decide)) (fun c3 => ?_)
  refine Wp.seg 1 (pc1 := 81) (ls1 := [some (.ref 59), some (.int (Int32.ofNat s)), some (.int (w)), some (.int (Int32.ofNat N)), some (.int (0)), some (.int (r)), some (.int (Int32.ofNat i)), some (.int (X.toInt32))]) (st1 := [.ref 59, .int (r)]) rfl ?_
  refine Wp.invV (d2 := 0) (as := [.ref 59]) (r := [.int (r)]) (t := (11, 0)) rfl rfl rfl rfl (WF.t hw 59 rfl) rfl rfl ⟨rfl, rfl⟩ (by omega) (r_over1 hw hk hlt ?_)
  show Wp d 269 84 [some (.ref 59), some (.int (Int32.ofNat s)), some (.int (w)), some (.int (Int32.ofNat N)), some (.int (0)), some (.int (r)), some (.int (Int32.ofNat i)), some (.int (X.toInt32))] [.int (1), .int (r)] h Q
  refine Wp.if1 rfl (fun c4 => ?_) (fun c4 => absurd (show ¬ (1 : Int32) = 0 by decide) c4)
  refine Wp.seg 5 (pc1 := 22) (ls1 := [some (.ref 59), some (.int (Int32.ofNat s)), some (.int (w)), some (.int (Int32.ofNat N)), some (.int (0)), some (.int (r + (0 : Int32))), some (.int ((Int32.ofNat i) + 1)), some (.int (X.toInt32))]) (st1 := []) rfl ?_
  exact hQ
set_option maxHeartbeats 4000000 in
theorem t_mgl4 {d : Nat} {Q : KO → Prop} {h : KH} (hw : WF h) {s N i : Nat} {w r : Int32} {z7 : Option Value} (hs : s < 4) {z : Nat} (hz : z ≤ 40) (h69 : h.2.2.1 69 s = Int32.ofNat z) (hi20 : i ≤ 20) (ge : ¬ (Int32.ofNat N ≤ Int32.ofNat i)) (qp : plB z (w + Int32.ofNat i) = true) {j : Nat} {X : Int64} (hj : j < 40) (ej : w + Int32.ofNat i = Int32.ofNat j) (hX : h.2.2.2.1 70 (40 * s + j) = X) {A : Nat → Int32} {RL : List Rul} {n c dn en : Nat} (hk : refOK h A RL n c dn en) (qx : inB X.toInt32 0 (n : Int) = true) (hlt : dn < en) (ht : okT n (X.toInt32 - 1)) (hd : 6 ≤ d) (hQ : ∀ k, Fr pM noP h k → refOK k (goA RL A (X.toInt32 - 1)) RL n c (dn + 1) en → keepS (k.2.2.1 60) (h.2.2.1 60) → (Wp d 269 22 ([some (.ref 59), some (.int (Int32.ofNat s)), some (.int (w)), some (.int (Int32.ofNat N)), some (.int (0)), some (.int (r + (wA RL A (X.toInt32 - 1)))), some (.int ((Int32.ofNat i) + 1)), some (.int (X.toInt32))]) [] k Q)) : Wp d 269 22 [some (.ref 59), some (.int (Int32.ofNat s)), some (.int (w)), some (.int (Int32.ofNat N)), some (.int (0)), some (.int (r)), some (.int (Int32.ofNat i)), z7] [] h Q := by
  refine Wp.seg 2 (pc1 := 25) (ls1 := [some (.ref 59), some (.int (Int32.ofNat s)), some (.int (w)), some (.int (Int32.ofNat N)), some (.int (0)), some (.int (r)), some (.int (Int32.ofNat i)), z7]) (st1 := [.int (Int32.ofNat N), .int (Int32.ofNat i)]) rfl ?_
  refine Wp.if2 rfl (fun c1 => absurd c1 (ge)) (fun c1 => ?_)
  refine Wp.seg 7 (pc1 := 36) (ls1 := [some (.ref 59), some (.int (Int32.ofNat s)), some (.int (w)), some (.int (Int32.ofNat N)), some (.int (0)), some (.int (r)), some (.int (Int32.ofNat i)), z7]) (st1 := [.long (w.toInt64 + ((Int32.ofNat i).toInt64)), .int (Int32.ofNat s), .ref 59]) rfl ?_
  refine Wp.invV (d2 := 0) (as := [.ref 59, .int (Int32.ofNat s), .long (w.toInt64 + ((Int32.ofNat i).toInt64))]) (r := []) (t := (11, 0)) rfl rfl rfl rfl (WF.t hw 59 rfl) rfl rfl ⟨rfl, rfl⟩ (by omega) (s_isPl hw hs hz h69 (by omega) ?_)
  show Wp d 269 39 [some (.ref 59), some (.int (Int32.ofNat s)), some (.int (w)), some (.int (Int32.ofNat N)), some (.int (0)), some (.int (r)), some (.int (Int32.ofNat i)), z7] [.int (b32 (plB z (w + Int32.ofNat i)))] h Q
  refine Wp.ifnz rfl (fun c2 => ?_) (fun c2 => absurd (c2.symm.trans (qp)) (by decide))
  refine Wp.seg 1 (pc1 := 46) (ls1 := [some (.ref 59), some (.int (Int32.ofNat s)), some (.int (w)), some (.int (Int32.ofNat N)), some (.int (0)), some (.int (r)), some (.int (Int32.ofNat i)), z7]) (st1 := [.ref 59]) rfl ?_
  refine Wp.gr (t := (11, 0)) (v := some (70)) rfl (WF.t hw 59 rfl) rfl (WF.r hw 59 24 68 rfl) ?_
  show Wp d 269 49 [some (.ref 59), some (.int (Int32.ofNat s)), some (.int (w)), some (.int (Int32.ofNat N)), some (.int (0)), some (.int (r)), some (.int (Int32.ofNat i)), z7] [.ref 70] h Q
  refine Wp.seg 7 (pc1 := 58) (ls1 := [some (.ref 59), some (.int (Int32.ofNat s)), some (.int (w)), some (.int (Int32.ofNat N)), some (.int (0)), some (.int (r)), some (.int (Int32.ofNat i)), z7]) (st1 := [.int ((((40 : Int32) * (Int32.ofNat s)) + w) + (Int32.ofNat i)), .ref 70]) rfl ?_
  refine Wp.lald (j := (40 * s + j)) (n := 160) rfl (WF.t hw 70 rfl) (sixj ej) (by omega) (by decide) ?_
  rw [show h.2.2.2.1 70 ((40 * s + j)) = X from hX]
  refine Wp.seg 6 (pc1 := 68) (ls1 := [some (.ref 59), some (.int (Int32.ofNat s)), some (.int (w)), some (.int (Int32.ofNat N)), some (.int (0)), some (.int (r)), some (.int (Int32.ofNat i)), some (.int (X.toInt32))]) (st1 := [.ref 59, .int (0), .int (X.toInt32), .int (r)]) rfl ?_
  refine Wp.gr (t := (11, 0)) (v := some (60)) rfl (WF.t hw 59 rfl) rfl (WF.r hw 59 0 58 rfl) ?_
  show Wp d 269 71 [some (.ref 59), some (.int (Int32.ofNat s)), some (.int (w)), some (.int (Int32.ofNat N)), some (.int (0)), some (.int (r)), some (.int (Int32.ofNat i)), some (.int (X.toInt32))] [.ref 60, .int (0), .int (X.toInt32), .int (r)] h Q
  refine Wp.seg 1 (pc1 := 73) (ls1 := [some (.ref 59), some (.int (Int32.ofNat s)), some (.int (w)), some (.int (Int32.ofNat N)), some (.int (0)), some (.int (r)), some (.int (Int32.ofNat i)), some (.int (X.toInt32))]) (st1 := [.int (8), .ref 60, .int (0), .int (X.toInt32), .int (r)]) rfl ?_
  refine Wp.iald (j := 8) (k := 20) (n := 585) rfl (WF.t hw 60 rfl) rfl rfl (by decide) (by decide) ?_
  rw [show h.2.2.1 60 8 = Int32.ofNat n from hk.2.1.2.1]
  refine Wp.inv (d2 := 0) (as := [.int (X.toInt32), .int (0), .int (Int32.ofNat n)]) (r := [.int (r)]) rfl rfl rfl rfl rfl rfl (by omega) (s_inB (x := 0) (y := (n : Int)) rfl (znat (by have := hk.2.1.1; omega)) ?_)
  show Wp d 269 77 [some (.ref 59), some (.int (Int32.ofNat s)), some (.int (w)), some (.int (Int32.ofNat N)), some (.int (0)), some (.int (r)), some (.int (Int32.ofNat i)), some (.int (X.toInt32))] [.int (b32 (inB X.toInt32 0 (n : Int))), .int (r)] h Q
  refine Wp.ifz rfl (fun c3 => absurd (c3.symm.trans (qx)) (by decide)) (fun c3 => ?_)
  refine Wp.seg 1 (pc1 := 81) (ls1 := [some (.ref 59), some (.int (Int32.ofNat s)), some (.int (w)), some (.int (Int32.ofNat N)), some (.int (0)), some (.int (r)), some (.int (Int32.ofNat i)), some (.int (X.toInt32))]) (st1 := [.ref 59, .int (r)]) rfl ?_
  refine Wp.invV (d2 := 0) (as := [.ref 59]) (r := [.int (r)]) (t := (11, 0)) rfl rfl rfl rfl (WF.t hw 59 rfl) rfl rfl ⟨rfl, rfl⟩ (by omega) (r_over0 hw hk hlt ?_)
  show Wp d 269 84 [some (.ref 59), some (.int (Int32.ofNat s)), some (.int (w)), some (.int (Int32.ofNat N)), some (.int (0)), some (.int (r)), some (.int (Int32.ofNat i)), some (.int (X.toInt32))] [.int (0), .int (r)] h Q
  refine Wp.if1 rfl (fun c4 => absurd c4 (show ¬ (¬ (0 : Int32) = 0) by decide)) (fun c4 => ?_)
  refine Wp.seg 4 (pc1 := 92) (ls1 := [some (.ref 59), some (.int (Int32.ofNat s)), some (.int (w)), some (.int (Int32.ofNat N)), some (.int (0)), some (.int (r)), some (.int (Int32.ofNat i)), some (.int (X.toInt32))]) (st1 := [.int (X.toInt32 - (1 : Int32)), .ref 59, .int (r)]) rfl ?_
  refine Wp.invV (d2 := 5) (as := [.ref 59, .int (X.toInt32 - (1 : Int32))]) (r := [.int (r)]) (t := (11, 0)) rfl rfl rfl rfl (WF.t hw 59 rfl) rfl rfl ⟨rfl, rfl⟩ (by omega) (s_goesF hw hk hlt ht (Nat.le_refl _) ?_)
  intro k f g e
  show Wp d 269 95 [some (.ref 59), some (.int (Int32.ofNat s)), some (.int (w)), some (.int (Int32.ofNat N)), some (.int (0)), some (.int (r)), some (.int (Int32.ofNat i)), some (.int (X.toInt32))] [.int (wA RL A (X.toInt32 - 1)), .int (r)] k Q
  refine Wp.seg 5 (pc1 := 22) (ls1 := [some (.ref 59), some (.int (Int32.ofNat s)), some (.int (w)), some (.int (Int32.ofNat N)), some (.int (0)), some (.int (r + (wA RL A (X.toInt32 - 1)))), some (.int ((Int32.ofNat i) + 1)), some (.int (X.toInt32))]) (st1 := []) rfl ?_
  exact (hQ k f g e)
