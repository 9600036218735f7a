/-! KM: both sides: wouldBe -/
set_option maxHeartbeats 4000000 in
theorem t_cwb5 {d : Nat} {Q : KO → Prop} {h : KH} (hw : WF h) {s : Nat} {so : Int32} (hs : s < 4) (h38 : h.2.2.1 38 s = so) (qs : inB (Int32.ofNat s) 0 3 = true) {w m : Int32} (m0 : ¬ (m < 0)) (m1 : m ≤ 20) (e1 : ¬ (so = -1)) (e2 : so = 0) (hd : 3 ≤ d) (hQ : ∀ k, Fr (pC 7) (fun c => c = 7) h k → nrm (cS k.2.2.1 7) = nrm (cS h.2.2.1 1) → k.2.1 7 10 = h.2.1 1 10 → k.2.1 7 11 = h.2.1 1 11 → (Wp d 153 52 ([some (.ref 0), some (.int (Int32.ofNat s)), some (.int (w)), some (.int (m)), some (.int (0)), some (.int (0)), some (.int (0)), none]) [] k Q)) : Cl d 153 [.ref 0, .int (Int32.ofNat s), .int (w), .int (m)] h Q := by
  refine Cl.of (ls := [some (.ref 0), some (.int (Int32.ofNat s)), some (.int (w)), some (.int (m)), none, none, none, none]) rfl rfl ?_
  refine Wp.seg 1 (pc1 := 1) (ls1 := [some (.ref 0), some (.int (Int32.ofNat s)), some (.int (w)), some (.int (m)), none, none, none, none]) (st1 := [.int (Int32.ofNat s)]) rfl ?_
  refine Wp.inv (d2 := 0) (as := [.int (Int32.ofNat s)]) (r := []) rfl rfl rfl rfl rfl rfl (by omega) (s_b154 ?_)
  show Wp d 153 4 [some (.ref 0), some (.int (Int32.ofNat s)), some (.int (w)), some (.int (m)), none, none, none, none] [.int (b32 (inB (Int32.ofNat s) 0 3))] h Q
  refine Wp.ifz rfl (fun c1 => absurd (c1.symm.trans (qs)) (by decide)) (fun c1 => ?_)
  refine Wp.seg 1 (pc1 := 8) (ls1 := [some (.ref 0), some (.int (Int32.ofNat s)), some (.int (w)), some (.int (m)), none, none, none, none]) (st1 := [.int (m)]) rfl ?_
  refine Wp.if1 rfl (fun c2 => absurd c2 (m0)) (fun c2 => ?_)
  refine Wp.seg 2 (pc1 := 14) (ls1 := [some (.ref 0), some (.int (Int32.ofNat s)), some (.int (w)), some (.int (m)), none, none, none, none]) (st1 := [.int (20), .int (m)]) rfl ?_
  refine Wp.if2 rfl (fun c3 => ?_) (fun c3 => absurd (m1) c3)
  refine Wp.seg 3 (pc1 := 22) (ls1 := [some (.ref 0), some (.int (Int32.ofNat s)), some (.int (w)), some (.int (m)), none, none, none, none]) (st1 := [.int (0), .int (Int32.ofNat s), .ref 0]) rfl ?_
  refine Wp.invV (d2 := 0) (as := [.ref 0, .int (Int32.ofNat s), .int (0)]) (r := []) (t := (10, 0)) rfl rfl rfl rfl (WF.t hw 0 rfl) rfl rfl ⟨rfl, rfl⟩ (by omega) (t_rfs hw hs h38 (by decide) ⟨fun _ => ⟨fun c => absurd e2 c, fun _ => ?_⟩, fun c => absurd e1 c⟩)
  show Wp d 153 25 [some (.ref 0), some (.int (Int32.ofNat s)), some (.int (w)), some (.int (m)), none, none, none, none] [.int (0)] h Q
  refine Wp.seg 2 (pc1 := 29) (ls1 := [some (.ref 0), some (.int (Int32.ofNat s)), some (.int (w)), some (.int (m)), some (.int (0)), none, none, none]) (st1 := [.int (0)]) rfl ?_
  refine Wp.if1 rfl (fun c4 => ?_) (fun c4 => absurd (show (0 : Int32) = 0 by decide) c4)
  refine Wp.seg 1 (pc1 := 36) (ls1 := [some (.ref 0), some (.int (Int32.ofNat s)), some (.int (w)), some (.int (m)), some (.int (0)), none, none, none]) (st1 := [.ref 0]) rfl ?_
  refine Wp.gr (t := (10, 0)) (v := some (7)) rfl (WF.t hw 0 rfl) rfl (WF.r hw 0 2 2 rfl) ?_
  show Wp d 153 39 [some (.ref 0), some (.int (Int32.ofNat s)), some (.int (w)), some (.int (m)), some (.int (0)), none, none, none] [.ref 7] h Q
  refine Wp.seg 1 (pc1 := 40) (ls1 := [some (.ref 0), some (.int (Int32.ofNat s)), some (.int (w)), some (.int (m)), some (.int (0)), none, none, none]) (st1 := [.ref 0, .ref 7]) rfl ?_
  refine Wp.gr (t := (10, 0)) (v := some (1)) rfl (WF.t hw 0 rfl) rfl (WF.r hw 0 0 0 rfl) ?_
  show Wp d 153 43 [some (.ref 0), some (.int (Int32.ofNat s)), some (.int (w)), some (.int (m)), some (.int (0)), none, none, none] [.ref 1, .ref 7] h Q
  refine Wp.invV (d2 := 1) (as := [.ref 7, .ref 1]) (r := []) (t := (1, 0)) rfl rfl rfl rfl (WF.t hw 7 rfl) rfl rfl ⟨rfl, rfl⟩ (by omega) (s_copy (h := h) hw cA7 cA1 (by decide) (Nat.le_refl _) ?_)
  intro k f e1 e2 e3
  show Wp d 153 46 [some (.ref 0), some (.int (Int32.ofNat s)), some (.int (w)), some (.int (m)), some (.int (0)), none, none, none] [] k Q
  refine Wp.seg 4 (pc1 := 52) (ls1 := [some (.ref 0), some (.int (Int32.ofNat s)), some (.int (w)), some (.int (m)), some (.int (0)), some (.int (0)), some (.int (0)), none]) (st1 := []) rfl ?_
  exact (hQ k f e1 e2 e3)
set_option maxHeartbeats 4000000 in
theorem t_cwl0 {d : Nat} {Q : KO → Prop} {h : KH} (hw : WF h) {s N i : Nat} {w r : Int32} {z7 : Option Value} (hs : s < 4) (ge : Int32.ofNat N ≤ Int32.ofNat i) (hd : 4 ≤ d) (hQ : Q (some (.int (r)), h)) : Wp d 153 52 [some (.ref 0), some (.int (Int32.ofNat s)), some (.int (w)), some (.int (Int32.ofNat N)), some (.int (0)), some (.int (r)), some (.int (Int32.ofNat i)), z7] [] h Q := by
  refine Wp.seg 2 (pc1 := 55) (ls1 := [some (.ref 0), some (.int (Int32.ofNat s)), some (.int (w)), some (.int (Int32.ofNat N)), some (.int (0)), some (.int (r)), some (.int (Int32.ofNat i)), z7]) (st1 := [.int (Int32.ofNat N), .int (Int32.ofNat i)]) rfl ?_
  refine Wp.if2 rfl (fun c1 => ?_) (fun c1 => absurd (ge) c1)
  refine Wp.seg 1 (pc1 := 132) (ls1 := [some (.ref 0), some (.int (Int32.ofNat s)), some (.int (w)), some (.int (Int32.ofNat N)), some (.int (0)), some (.int (r)), some (.int (Int32.ofNat i)), z7]) (st1 := [.int (r)]) rfl ?_
  exact Wp.reti rfl rfl hQ
set_option maxHeartbeats 4000000 in
theorem t_cwl1 {d : Nat} {Q : KO → Prop} {h : KH} (hw : WF h) {s N i : Nat} {w r : Int32} {z7 : Option Value} (hs : s < 4) {z : Nat} (hz : z ≤ 40) (h39 : h.2.2.1 39 s = Int32.ofNat z) (ge : ¬ (Int32.ofNat N ≤ Int32.ofNat i)) (qp : plB z (w + Int32.ofNat i) = false) (hd : 4 ≤ d) (hQ : Q (some (.int (-12)), h)) : Wp d 153 52 [some (.ref 0), some (.int (Int32.ofNat s)), some (.int (w)), some (.int (Int32.ofNat N)), some (.int (0)), some (.int (r)), some (.int (Int32.ofNat i)), z7] [] h Q := by
  refine Wp.seg 2 (pc1 := 55) (ls1 := [some (.ref 0), some (.int (Int32.ofNat s)), some (.int (w)), some (.int (Int32.ofNat N)), some (.int (0)), some (.int (r)), some (.int (Int32.ofNat i)), z7]) (st1 := [.int (Int32.ofNat N), .int (Int32.ofNat i)]) rfl ?_
  refine Wp.if2 rfl (fun c1 => absurd c1 (ge)) (fun c1 => ?_)
  refine Wp.seg 5 (pc1 := 64) (ls1 := [some (.ref 0), some (.int (Int32.ofNat s)), some (.int (w)), some (.int (Int32.ofNat N)), some (.int (0)), some (.int (r)), some (.int (Int32.ofNat i)), z7]) (st1 := [.int (w + (Int32.ofNat i)), .int (Int32.ofNat s), .ref 0]) rfl ?_
  refine Wp.invV (d2 := 0) (as := [.ref 0, .int (Int32.ofNat s), .int (w + (Int32.ofNat i))]) (r := []) (t := (10, 0)) rfl rfl rfl rfl (WF.t hw 0 rfl) rfl rfl ⟨rfl, rfl⟩ (by omega) (s_item hw hs hz h39 ?_)
  show Wp d 153 67 [some (.ref 0), some (.int (Int32.ofNat s)), some (.int (w)), some (.int (Int32.ofNat N)), some (.int (0)), some (.int (r)), some (.int (Int32.ofNat i)), z7] [.int (b32 (plB z (w + (Int32.ofNat i))))] h Q
  refine Wp.ifnz rfl (fun c2 => absurd (c2.symm.trans (qp)) (by decide)) (fun c2 => ?_)
  refine Wp.seg 1 (pc1 := 72) (ls1 := [some (.ref 0), some (.int (Int32.ofNat s)), some (.int (w)), some (.int (Int32.ofNat N)), some (.int (0)), some (.int (r)), some (.int (Int32.ofNat i)), z7]) (st1 := [.int (-12)]) rfl ?_
  exact Wp.reti rfl rfl hQ
set_option maxHeartbeats 4000000 in
theorem t_cwl2 {d : Nat} {Q : KO → Prop} {h : KH} (hw : WF h) {s N i : Nat} {w r : Int32} {z7 : Option Value} (hs : s < 4) {z : Nat} (hz : z ≤ 40) (h39 : h.2.2.1 39 s = Int32.ofNat z) (ge : ¬ (Int32.ofNat N ≤ Int32.ofNat i)) (qp : plB z (w + Int32.ofNat i) = true) {j : Nat} {x : Int32} (hj : j < 40) (ej : w + Int32.ofNat i = Int32.ofNat j) (hx : h.2.2.1 (41 + s) j = x) {A1 : Nat → Int32} {RL1 : List Rul} {dn1 : Nat} {A : Nat → Int32} {RL : List Rul} {n c dn en : Nat} (hk1 : cityOK h 1 A1 RL1 n c dn1 en) (qx : inB x 0 (n : Int) = false) (hd : 4 ≤ d) (hQ : Q (some (.int (-4)), h)) : Wp d 153 52 [some (.ref 0), some (.int (Int32.ofNat s)), some (.int (w)), some (.int (Int32.ofNat N)), some (.int (0)), some (.int (r)), some (.int (Int32.ofNat i)), z7] [] h Q := by
  refine Wp.seg 2 (pc1 := 55) (ls1 := [some (.ref 0), some (.int (Int32.ofNat s)), some (.int (w)), some (.int (Int32.ofNat N)), some (.int (0)), some (.int (r)), some (.int (Int32.ofNat i)), z7]) (st1 := [.int (Int32.ofNat N), .int (Int32.ofNat i)]) rfl ?_
  refine Wp.if2 rfl (fun c1 => absurd c1 (ge)) (fun c1 => ?_)
  refine Wp.seg 5 (pc1 := 64) (ls1 := [some (.ref 0), some (.int (Int32.ofNat s)), some (.int (w)), some (.int (Int32.ofNat N)), some (.int (0)), some (.int (r)), some (.int (Int32.ofNat i)), z7]) (st1 := [.int (w + (Int32.ofNat i)), .int (Int32.ofNat s), .ref 0]) rfl ?_
  refine Wp.invV (d2 := 0) (as := [.ref 0, .int (Int32.ofNat s), .int (w + (Int32.ofNat i))]) (r := []) (t := (10, 0)) rfl rfl rfl rfl (WF.t hw 0 rfl) rfl rfl ⟨rfl, rfl⟩ (by omega) (s_item hw hs hz h39 ?_)
  show Wp d 153 67 [some (.ref 0), some (.int (Int32.ofNat s)), some (.int (w)), some (.int (Int32.ofNat N)), some (.int (0)), some (.int (r)), some (.int (Int32.ofNat i)), z7] [.int (b32 (plB z (w + (Int32.ofNat i))))] h Q
  refine Wp.ifnz rfl (fun c2 => ?_) (fun c2 => absurd (c2.symm.trans (qp)) (by decide))
  refine Wp.seg 1 (pc1 := 74) (ls1 := [some (.ref 0), some (.int (Int32.ofNat s)), some (.int (w)), some (.int (Int32.ofNat N)), some (.int (0)), some (.int (r)), some (.int (Int32.ofNat i)), z7]) (st1 := [.ref 0]) rfl ?_
  refine Wp.gr (t := (10, 0)) (v := some (40)) rfl (WF.t hw 0 rfl) rfl (WF.r hw 0 10 8 rfl) ?_
  show Wp d 153 77 [some (.ref 0), some (.int (Int32.ofNat s)), some (.int (w)), some (.int (Int32.ofNat N)), some (.int (0)), some (.int (r)), some (.int (Int32.ofNat i)), z7] [.ref 40] h Q
  refine Wp.seg 1 (pc1 := 78) (ls1 := [some (.ref 0), some (.int (Int32.ofNat s)), some (.int (w)), some (.int (Int32.ofNat N)), some (.int (0)), some (.int (r)), some (.int (Int32.ofNat i)), z7]) (st1 := [.int (Int32.ofNat s), .ref 40]) rfl ?_
  refine Wp.aald (j := s) (k := 26) (n := 4) (v := some (41 + s)) rfl (WF.t hw 40 rfl) rfl rfl hs (by decide) (it_r hw hs) ?_
  show Wp d 153 79 [some (.ref 0), some (.int (Int32.ofNat s)), some (.int (w)), some (.int (Int32.ofNat N)), some (.int (0)), some (.int (r)), some (.int (Int32.ofNat i)), z7] [.ref (41 + s)] h Q
  refine Wp.seg 3 (pc1 := 83) (ls1 := [some (.ref 0), some (.int (Int32.ofNat s)), some (.int (w)), some (.int (Int32.ofNat N)), some (.int (0)), some (.int (r)), some (.int (Int32.ofNat i)), z7]) (st1 := [.int (w + (Int32.ofNat i)), .ref (41 + s)]) rfl ?_
  refine Wp.iald (j := j) (k := 20) (n := 40) rfl (it_t hw hs) rfl ej (by omega) (by decide) ?_
  rw [show h.2.2.1 (41 + s) j = x from hx]
  refine Wp.seg 3 (pc1 := 89) (ls1 := [some (.ref 0), some (.int (Int32.ofNat s)), some (.int (w)), some (.int (Int32.ofNat N)), some (.int (0)), some (.int (r)), some (.int (Int32.ofNat i)), some (.int (x))]) (st1 := [.int (x), .ref 0]) rfl ?_
  refine Wp.invV (d2 := 0) (as := [.ref 0, .int (x)]) (r := []) (t := (10, 0)) rfl rfl rfl rfl (WF.t hw 0 rfl) rfl rfl ⟨rfl, rfl⟩ (by omega) (s_act hw hk1 ?_)
  show Wp d 153 92 [some (.ref 0), some (.int (Int32.ofNat s)), some (.int (w)), some (.int (Int32.ofNat N)), some (.int (0)), some (.int (r)), some (.int (Int32.ofNat i)), some (.int (x))] [.int (b32 (inB x 0 (n : Int)))] h Q
  refine Wp.ifz rfl (fun c3 => ?_) (fun c3 => absurd (c3.symm.trans (qx)) (by decide))
  refine Wp.seg 1 (pc1 := 107) (ls1 := [some (.ref 0), some (.int (Int32.ofNat s)), some (.int (w)), some (.int (Int32.ofNat N)), some (.int (0)), some (.int (r)), some (.int (Int32.ofNat i)), some (.int (x))]) (st1 := [.int (-4)]) rfl ?_
  exact Wp.reti rfl rfl hQ
set_option maxHeartbeats 4000000 in
theorem t_cwl3 {d : Nat} {Q : KO → Prop} {h : KH} (hw : WF h) {s N i : Nat} {w r : Int32} {z7 : Option Value} (hs : s < 4) {z : Nat} (hz : z ≤ 40) (h39 : h.2.2.1 39 s = Int32.ofNat z) (ge : ¬ (Int32.ofNat N ≤ Int32.ofNat i)) (qp : plB z (w + Int32.ofNat i) = true) {j : Nat} {x : Int32} (hj : j < 40) (ej : w + Int32.ofNat i = Int32.ofNat j) (hx : h.2.2.1 (41 + s) j = x) {A1 : Nat → Int32} {RL1 : List Rul} {dn1 : Nat} {A : Nat → Int32} {RL : List Rul} {n c dn en : Nat} (hk1 : cityOK h 1 A1 RL1 n c dn1 en) (hk : cityOK h 7 A RL n c dn en) (qx : inB x 0 (n : Int) = true) (hlt : ¬ dn < en) (hd : 4 ≤ d) (hQ : Q (some (.int (-4)), h)) : Wp d 153 52 [some (.ref 0), some (.int (Int32.ofNat s)), some (.int (w)), some (.int (Int32.ofNat N)), some (.int (0)), some (.int (r)), some (.int (Int32.ofNat i)), z7] [] h Q := by
  refine Wp.seg 2 (pc1 := 55) (ls1 := [some (.ref 0), some (.int (Int32.ofNat s)), some (.int (w)), some (.int (Int32.ofNat N)), some (.int (0)), some (.int (r)), some (.int (Int32.ofNat i)), z7]) (st1 := [.int (Int32.ofNat N), .int (Int32.ofNat i)]) rfl ?_
  refine Wp.if2 rfl (fun c1 => absurd c1 (ge)) (fun c1 => ?_)
  refine Wp.seg 5 (pc1 := 64) (ls1 := [some (.ref 0), some (.int (Int32.ofNat s)), some (.int (w)), some (.int (Int32.ofNat N)), some (.int (0)), some (.int (r)), some (.int (Int32.ofNat i)), z7]) (st1 := [.int (w + (Int32.ofNat i)), .int (Int32.ofNat s), .ref 0]) rfl ?_
  refine Wp.invV (d2 := 0) (as := [.ref 0, .int (Int32.ofNat s), .int (w + (Int32.ofNat i))]) (r := []) (t := (10, 0)) rfl rfl rfl rfl (WF.t hw 0 rfl) rfl rfl ⟨rfl, rfl⟩ (by omega) (s_item hw hs hz h39 ?_)
  show Wp d 153 67 [some (.ref 0), some (.int (Int32.ofNat s)), some (.int (w)), some (.int (Int32.ofNat N)), some (.int (0)), some (.int (r)), some (.int (Int32.ofNat i)), z7] [.int (b32 (plB z (w + (Int32.ofNat i))))] h Q
  refine Wp.ifnz rfl (fun c2 => ?_) (fun c2 => absurd (c2.symm.trans (qp)) (by decide))
  refine Wp.seg 1 (pc1 := 74) (ls1 := [some (.ref 0), some (.int (Int32.ofNat s)), some (.int (w)), some (.int (Int32.ofNat N)), some (.int (0)), some (.int (r)), some (.int (Int32.ofNat i)), z7]) (st1 := [.ref 0]) rfl ?_
  refine Wp.gr (t := (10, 0)) (v := some (40)) rfl (WF.t hw 0 rfl) rfl (WF.r hw 0 10 8 rfl) ?_
  show Wp d 153 77 [some (.ref 0), some (.int (Int32.ofNat s)), some (.int (w)), some (.int (Int32.ofNat N)), some (.int (0)), some (.int (r)), some (.int (Int32.ofNat i)), z7] [.ref 40] h Q
  refine Wp.seg 1 (pc1 := 78) (ls1 := [some (.ref 0), some (.int (Int32.ofNat s)), some (.int (w)), some (.int (Int32.ofNat N)), some (.int (0)), some (.int (r)), some (.int (Int32.ofNat i)), z7]) (st1 := [.int (Int32.ofNat s), .ref 40]) rfl ?_
  refine Wp.aald (j := s) (k := 26) (n := 4) (v := some (41 + s)) rfl (WF.t hw 40 rfl) rfl rfl hs (by decide) (it_r hw hs) ?_
  show Wp d 153 79 [some (.ref 0), some (.int (Int32.ofNat s)), some (.int (w)), some (.int (Int32.ofNat N)), some (.int (0)), some (.int (r)), some (.int (Int32.ofNat i)), z7] [.ref (41 + s)] h Q
  refine Wp.seg 3 (pc1 := 83) (ls1 := [some (.ref 0), some (.int (Int32.ofNat s)), some (.int (w)), some (.int (Int32.ofNat N)), some (.int (0)), some (.int (r)), some (.int (Int32.ofNat i)), z7]) (st1 := [.int (w + (Int32.ofNat i)), .ref (41 + s)]) rfl ?_
  refine Wp.iald (j := j) (k := 20) (n := 40) rfl (it_t hw hs) rfl ej (by omega) (by decide) ?_
  rw [show h.2.2.1 (41 + s) j = x from hx]
  refine Wp.seg 3 (pc1 := 89) (ls1 := [some (.ref 0), some (.int (Int32.ofNat s)), some (.int (w)), some (.int (Int32.ofNat N)), some (.int (0)), some (.int (r)), some (.int (Int32.ofNat i)), some (.int (x))]) (st1 := [.int (x), .ref 0]) rfl ?_
  refine Wp.invV (d2 := 0) (as := [.ref 0, .int (x)]) (r := []) (t := (10, 0)) rfl rfl rfl rfl (WF.t hw 0 rfl) rfl rfl ⟨rfl, rfl⟩ (by omega) (s_act hw hk1 ?_)
  show Wp d 153 92 [some (.ref 0), some (.int (Int32.ofNat s)), some (.int (w)), some (.int (Int32.ofNat N)), some (.int (0)), some (.int (r)), some (.int (Int32.ofNat i)), some (.int (x))] [.int (b32 (inB x 0 (n : Int)))] h Q
  refine Wp.ifz rfl (fun c3 => absurd (c3.symm.trans (qx)) (by decide)) (fun c3 => ?_)
  refine Wp.seg 1 (pc1 := 96) (ls1 := [some (.ref 0), some (.int (Int32.ofNat s)), some (.int (w)), some (.int (Int32.ofNat N)), some (.int (0)), some (.int (r)), some (.int (Int32.ofNat i)), some (.int (x))]) (st1 := [.ref 0]) rfl ?_
  refine Wp.gr (t := (10, 0)) (v := some (7)) rfl (WF.t hw 0 rfl) rfl (WF.r hw 0 2 2 rfl) ?_
  show Wp d 153 99 [some (.ref 0), some (.int (Int32.ofNat s)), some (.int (w)), some (.int (Int32.ofNat N)), some (.int (0)), some (.int (r)), some (.int (Int32.ofNat i)), some (.int (x))] [.ref 7] h Q
  refine Wp.invV (d2 := 0) (as := [.ref 7]) (r := []) (t := (1, 0)) rfl rfl rfl rfl (WF.t hw 7 rfl) rfl rfl ⟨rfl, rfl⟩ (by omega) (s_over1 hw cA7 hk hlt ?_)
  show Wp d 153 102 [some (.ref 0), some (.int (Int32.ofNat s)), some (.int (w)), some (.int (Int32.ofNat N)), some (.int (0)), some (.int (r)), some (.int (Int32.ofNat i)), some (.int (x))] [.int (1)] h Q
  refine Wp.if1 rfl (fun c4 => absurd c4 (show ¬ ((1 : Int32) = 0) by decide)) (fun c4 => ?_)
  refine Wp.seg 1 (pc1 := 107) (ls1 := [some (.ref 0), some (.int (Int32.ofNat s)), some (.int (w)), some (.int (Int32.ofNat N)), some (.int (0)), some (.int (r)), some (.int (Int32.ofNat i)), some (.int (x))]) (st1 := [.int (-4)]) rfl ?_
  exact Wp.reti rfl rfl hQ
set_option maxHeartbeats 4000000 in
theorem t_cwl4 {d : Nat} {Q : KO → Prop} {h : KH} (hw : WF h) {s N i : Nat} {w r : Int32} {z7 : Option Value} (hs : s < 4) {z : Nat} (hz : z ≤ 40) (h39 : h.2.2.1 39 s = Int32.ofNat z) (ge : ¬ (Int32.ofNat N ≤ Int32.ofNat i)) (qp : plB z (w + Int32.ofNat i) = true) {j : Nat} {x : Int32} (hj : j < 40) (ej : w + Int32.ofNat i = Int32.ofNat j) (hx : h.2.2.1 (41 + s) j = x) {A1 : Nat → Int32} {RL1 : List Rul} {dn1 : Nat} {A : Nat → Int32} {RL : List Rul} {n c dn en : Nat} (hk1 : cityOK h 1 A1 RL1 n c dn1 en) (hk : cityOK h 7 A RL n c dn en) (qx : inB x 0 (n : Int) = true) (hlt : dn < en) (ht : okT n (x - 1)) (hd : 5 ≤ d) (hQ : ∀ k, Fr (pC 7) noP h k → cityOK k 7 (goA RL A (x - 1)) RL n c (dn + 1) en → (Wp d 153 52 ([some (.ref 0), some (.int (Int32.ofNat s)), some (.int (w)), some (.int (Int32.ofNat N)), some (.int (0)), some (.int (r + (wA RL A (x - 1)))), some (.int ((Int32.ofNat i) + 1)), some (.int (x))]) [] k Q)) : Wp d 153 52 [some (.ref 0), some (.int (Int32.ofNat s)), some (.int (w)), some (.int (Int32.ofNat N)), some (.int (0)), some (.int (r)), some (.int (Int32.ofNat i)), z7] [] h Q := by
  refine Wp.seg 2 (pc1 := 55) (ls1 := [some (.ref 0), some (.int (Int32.ofNat s)), some (.int (w)), some (.int (Int32.ofNat N)), some (.int (0)), some (.int (r)), some (.int (Int32.ofNat i)), z7]) (st1 := [.int (Int32.ofNat N), .int (Int32.ofNat i)]) rfl ?_
  refine Wp.if2 rfl (fun c1 => absurd c1 (ge)) (fun c1 => ?_)
  refine Wp.seg 5 (pc1 := 64) (ls1 := [some (.ref 0), some (.int (Int32.ofNat s)), some (.int (w)), some (.int (Int32.ofNat N)), some (.int (0)), some (.int (r)), some (.int (Int32.ofNat i)), z7]) (st1 := [.int (w + (Int32.ofNat i)), .int (Int32.ofNat s), .ref 0]) rfl ?_
  refine Wp.invV (d2 := 0) (as := [.ref 0, .int (Int32.ofNat s), .int (w + (Int32.ofNat i))]) (r := []) (t := (10, 0)) rfl rfl rfl rfl (WF.t hw 0 rfl) rfl rfl ⟨rfl, rfl⟩ (by omega) (s_item hw hs hz h39 ?_)
  show Wp d 153 67 [some (.ref 0), some (.int (Int32.ofNat s)), some (.int (w)), some (.int (Int32.ofNat N)), some (.int (0)), some (.int (r)), some (.int (Int32.ofNat i)), z7] [.int (b32 (plB z (w + (Int32.ofNat i))))] h Q
  refine Wp.ifnz rfl (fun c2 => ?_) (fun c2 => absurd (c2.symm.trans (qp)) (by decide))
  refine Wp.seg 1 (pc1 := 74) (ls1 := [some (.ref 0), some (.int (Int32.ofNat s)), some (.int (w)), some (.int (Int32.ofNat N)), some (.int (0)), some (.int (r)), some (.int (Int32.ofNat i)), z7]) (st1 := [.ref 0]) rfl ?_
  refine Wp.gr (t := (10, 0)) (v := some (40)) rfl (WF.t hw 0 rfl) rfl (WF.r hw 0 10 8 rfl) ?_
  show Wp d 153 77 [some (.ref 0), some (.int (Int32.ofNat s)), some (.int (w)), some (.int (Int32.ofNat N)), some (.int (0)), some (.int (r)), some (.int (Int32.ofNat i)), z7] [.ref 40] h Q
  refine Wp.seg 1 (pc1 := 78) (ls1 := [some (.ref 0), some (.int (Int32.ofNat s)), some (.int (w)), some (.int (Int32.ofNat N)), some (.int (0)), some (.int (r)), some (.int (Int32.ofNat i)), z7]) (st1 := [.int (Int32.ofNat s), .ref 40]) rfl ?_
  refine Wp.aald (j := s) (k := 26) (n := 4) (v := some (41 + s)) rfl (WF.t hw 40 rfl) rfl rfl hs (by decide) (it_r hw hs) ?_
  show Wp d 153 79 [some (.ref 0), some (.int (Int32.ofNat s)), some (.int (w)), some (.int (Int32.ofNat N)), some (.int (0)), some (.int (r)), some (.int (Int32.ofNat i)), z7] [.ref (41 + s)] h Q
  refine Wp.seg 3 (pc1 := 83) (ls1 := [some (.ref 0), some (.int (Int32.ofNat s)), some (.int (w)), some (.int (Int32.ofNat N)), some (.int (0)), some (.int (r)), some (.int (Int32.ofNat i)), z7]) (st1 := [.int (w + (Int32.ofNat i)), .ref (41 + s)]) rfl ?_
  refine Wp.iald (j := j) (k := 20) (n := 40) rfl (it_t hw hs) rfl ej (by omega) (by decide) ?_
  rw [show h.2.2.1 (41 + s) j = x from hx]
  refine Wp.seg 3 (pc1 := 89) (ls1 := [some (.ref 0), some (.int (Int32.ofNat s)), some (.int (w)), some (.int (Int32.ofNat N)), some (.int (0)), some (.int (r)), some (.int (Int32.ofNat i)), some (.int (x))]) (st1 := [.int (x), .ref 0]) rfl ?_
  refine Wp.invV (d2 := 0) (as := [.ref 0, .int (x)]) (r := []) (t := (10, 0)) rfl rfl rfl rfl (WF.t hw 0 rfl) rfl rfl ⟨rfl, rfl⟩ (by omega) (s_act hw hk1 ?_)
  show Wp d 153 92 [some (.ref 0), some (.int (Int32.ofNat s)), some (.int (w)), some (.int (Int32.ofNat N)), some (.int (0)), some (.int (r)), some (.int (Int32.ofNat i)), some (.int (x))] [.int (b32 (inB x 0 (n : Int)))] h Q
  refine Wp.ifz rfl (fun c3 => absurd (c3.symm.trans (qx)) (by decide)) (fun c3 => ?_)
  refine Wp.seg 1 (pc1 := 96) (ls1 := [some (.ref 0), some (.int (Int32.ofNat s)), some (.int (w)), some (.int (Int32.ofNat N)), some (.int (0)), some (.int (r)), some (.int (Int32.ofNat i)), some (.int (x))]) (st1 := [.ref 0]) rfl ?_
  refine Wp.gr (t := (10, 0)) (v := some (7)) rfl (WF.t hw 0 rfl) rfl (WF.r hw 0 2 2 rfl) ?_
  show Wp d 153 99 [some (.ref 0), some (.int (Int32.ofNat s)), some (.int (w)), some (.int (Int32.ofNat N)), some (.int (0)), some (.int (r)), some (.int (Int32.ofNat i)), some (.int (x))] [.ref 7] h Q
  refine Wp.invV (d2 := 0) (as := [.ref 7]) (r := []) (t := (1, 0)) rfl rfl rfl rfl (WF.t hw 7 rfl) rfl rfl ⟨rfl, rfl⟩ (by omega) (s_over0 hw cA7 hk hlt ?_)
  show Wp d 153 102 [some (.ref 0), some (.int (Int32.ofNat s)), some (.int (w)), some (.int (Int32.ofNat N)), some (.int (0)), some (.int (r)), some (.int (Int32.ofNat i)), some (.int (x))] [.int (0)] h Q
  refine Wp.if1 rfl (fun c4 => ?_) (fun c4 => absurd (show (0 : Int32) = 0 by decide) c4)
  refine Wp.seg 2 (pc1 := 111) (ls1 := [some (.ref 0), some (.int (Int32.ofNat s)), some (.int (w)), some (.int (Int32.ofNat N)), some (.int (0)), some (.int (r)), some (.int (Int32.ofNat i)), some (.int (x))]) (st1 := [.ref 0, .int (r)]) rfl ?_
  refine Wp.gr (t := (10, 0)) (v := some (7)) rfl (WF.t hw 0 rfl) rfl (WF.r hw 0 2 2 rfl) ?_
  show Wp d 153 114 [some (.ref 0), some (.int (Int32.ofNat s)), some (.int (w)), some (.int (Int32.ofNat N)), some (.int (0)), some (.int (r)), some (.int (Int32.ofNat i)), some (.int (x))] [.ref 7, .int (r)] h Q
  refine Wp.seg 3 (pc1 := 118) (ls1 := [some (.ref 0), some (.int (Int32.ofNat s)), some (.int (w)), some (.int (Int32.ofNat N)), some (.int (0)), some (.int (r)), some (.int (Int32.ofNat i)), some (.int (x))]) (st1 := [.int (x - (1 : Int32)), .ref 7, .int (r)]) rfl ?_
  refine Wp.invV (d2 := 4) (as := [.ref 7, .int (x - (1 : Int32))]) (r := [.int (r)]) (t := (1, 0)) rfl rfl rfl rfl (WF.t hw 7 rfl) rfl rfl ⟨rfl, rfl⟩ (by omega) (s_cpassF hw cA7 hk hlt ht (Nat.le_refl _) ?_)
  intro k f g
  show Wp d 153 121 [some (.ref 0), some (.int (Int32.ofNat s)), some (.int (w)), some (.int (Int32.ofNat N)), some (.int (0)), some (.int (r)), some (.int (Int32.ofNat i)), some (.int (x))] [.int (wA RL A (x - 1)), .int (r)] k Q
  refine Wp.seg 4 (pc1 := 52) (ls1 := [some (.ref 0), some (.int (Int32.ofNat s)), some (.int (w)), some (.int (Int32.ofNat N)), some (.int (0)), some (.int (r + (wA RL A (x - 1)))), some (.int ((Int32.ofNat i) + 1)), some (.int (x))]) (st1 := []) rfl ?_
  exact (hQ k f g)
set_option maxHeartbeats 4000000 in
theorem t_mwb4 {d : Nat} {Q : KO → Prop} {h : KH} (hw : WF h) {s : Nat} {so : Int32} (hs : s < 4) (qs : inB (Int32.ofNat s) 0 3 = true) {w m : Int32} (h68 : h.2.2.1 68 s = so) (qm : inB m 0 20 = true) (g : 0 ≤ so) (e2 : so = 0) {A : Nat → Int32} {RL : List Rul} {n c dn en : Nat} (hk : refOK h A RL n c dn en) (hd : 4 ≤ d) (hQ : ∀ k, Fr (fun c => c = 62) noP h k → refTh k (h.2.2.1 60) A RL n c dn en → (Wp d 270 26 ([some (.ref 59), some (.int (Int32.ofNat s)), some (.int (w)), some (.int (m)), some (.int (0)), some (.int (0)), some (.int (0)), none, none]) [] k Q)) : Cl d 270 [.ref 59, .int (Int32.ofNat s), .int (w), .int (m)] h Q := by
  refine Cl.of (ls := [some (.ref 59), some (.int (Int32.ofNat s)), some (.int (w)), some (.int (m)), none, none, none, none, none]) rfl rfl ?_
  refine Wp.seg 3 (pc1 := 3) (ls1 := [some (.ref 59), some (.int (Int32.ofNat s)), some (.int (w)), some (.int (m)), none, none, none, none, none]) (st1 := [.int (m), .int (Int32.ofNat s), .ref 59]) rfl ?_
  refine Wp.invV (d2 := 2) (as := [.ref 59, .int (Int32.ofNat s), .int (m)]) (r := []) (t := (11, 0)) rfl rfl rfl rfl (WF.t hw 59 rfl) rfl rfl ⟨rfl, rfl⟩ (by omega) (t_na4 hw hs qs h68 qm g e2 (Nat.le_refl _) ?_)
  show Wp d 270 6 [some (.ref 59), some (.int (Int32.ofNat s)), some (.int (w)), some (.int (m)), none, none, none, none, none] [.int (0)] h Q
  refine Wp.seg 2 (pc1 := 10) (ls1 := [some (.ref 59), some (.int (Int32.ofNat s)), some (.int (w)), some (.int (m)), some (.int (0)), none, none, none, none]) (st1 := [.int (0)]) rfl ?_
  refine Wp.if1 rfl (fun c1 => ?_) (fun c1 => absurd (show (0 : Int32) = 0 by decide) c1)
  refine Wp.seg 1 (pc1 := 17) (ls1 := [some (.ref 59), some (.int (Int32.ofNat s)), some (.int (w)), some (.int (m)), some (.int (0)), none, none, none, none]) (st1 := [.ref 59]) rfl ?_
  refine Wp.invV (d2 := 1) (as := [.ref 59]) (r := []) (t := (11, 0)) rfl rfl rfl rfl (WF.t hw 59 rfl) rfl rfl ⟨rfl, rfl⟩ (by omega) (r_thinks hw hk (Nat.le_refl _) ?_)
  intro k f g
  show Wp d 270 20 [some (.ref 59), some (.int (Int32.ofNat s)), some (.int (w)), some (.int (m)), some (.int (0)), none, none, none, none] [] k Q
  refine Wp.seg 4 (pc1 := 26) (ls1 := [some (.ref 59), some (.int (Int32.ofNat s)), some (.int (w)), some (.int (m)), some (.int (0)), some (.int (0)), some (.int (0)), none, none]) (st1 := []) rfl ?_
  exact (hQ k f g)
set_option maxHeartbeats 4000000 in
theorem t_mwe0 {d : Nat} {Q : KO → Prop} {h : KH} (hw : WF h) {s N i : Nat} {w r : Int32} {z7 z8 : Option Value} (hs : s < 4) {S A : Nat → Int32} {RL : List Rul} {n c dn en : Nat} (hk : refTh h S A RL n c dn en) (hd : 5 ≤ d) (hQ : ∀ k, Fr (fun c => c = 60) noP h k → k.2.2.1 60 = S → (Q (some (.int (r)), k))) : Wp d 270 145 [some (.ref 59), some (.int (Int32.ofNat s)), some (.int (w)), some (.int (Int32.ofNat N)), some (.int (0)), some (.int (r)), some (.int (Int32.ofNat i)), z7, z8] [] h Q := by
  refine Wp.seg 1 (pc1 := 146) (ls1 := [some (.ref 59), some (.int (Int32.ofNat s)), some (.int (w)), some (.int (Int32.ofNat N)), some (.int (0)), some (.int (r)), some (.int (Int32.ofNat i)), z7, z8]) (st1 := [.ref 59]) rfl ?_
  refine Wp.invV (d2 := 1) (as := [.ref 59]) (r := []) (t := (11, 0)) rfl rfl rfl rfl (WF.t hw 59 rfl) rfl rfl ⟨rfl, rfl⟩ (by omega) (r_back hw hk (Nat.le_refl _) ?_)
  intro k f e
  show Wp d 270 149 [some (.ref 59), some (.int (Int32.ofNat s)), some (.int (w)), some (.int (Int32.ofNat N)), some (.int (0)), some (.int (r)), some (.int (Int32.ofNat i)), z7, z8] [] k Q
  refine Wp.seg 1 (pc1 := 151) (ls1 := [some (.ref 59), some (.int (Int32.ofNat s)), some (.int (w)), some (.int (Int32.ofNat N)), some (.int (0)), some (.int (r)), some (.int (Int32.ofNat i)), z7, z8]) (st1 := [.int (0)]) rfl ?_
  refine Wp.if1 rfl (fun c1 => absurd c1 (show ¬ (¬ (0 : Int32) = 0) by decide)) (fun c1 => ?_)
  refine Wp.seg 2 (pc1 := 161) (ls1 := [some (.ref 59), some (.int (Int32.ofNat s)), some (.int (w)), some (.int (Int32.ofNat N)), some (.int (0)), some (.int (r)), some (.int (Int32.ofNat i)), z7, z8]) (st1 := [.int (r)]) rfl ?_
  exact Wp.reti rfl rfl (hQ k f e)
set_option maxHeartbeats 4000000 in
theorem t_mwe12 {d : Nat} {Q : KO → Prop} {h : KH} (hw : WF h) {s N i : Nat} {w r : Int32} {z7 z8 : Option Value} (hs : s < 4) {S A : Nat → Int32} {RL : List Rul} {n c dn en : Nat} (hk : refTh h S A RL n c dn en) (hd : 5 ≤ d) (hQ : ∀ k, Fr (fun c => c = 60) noP h k → k.2.2.1 60 = S → (Q (some (.int (-12)), k))) : Wp d 270 145 [some (.ref 59), some (.int (Int32.ofNat s)), some (.int (w)), some (.int (Int32.ofNat N)), some (.int (-12)), some (.int (r)), some (.int (Int32.ofNat i)), z7, z8] [] h Q := by
  refine Wp.seg 1 (pc1 := 146) (ls1 := [some (.ref 59), some (.int (Int32.ofNat s)), some (.int (w)), some (.int (Int32.ofNat N)), some (.int (-12)), some (.int (r)), some (.int (Int32.ofNat i)), z7, z8]) (st1 := [.ref 59]) rfl ?_
  refine Wp.invV (d2 := 1) (as := [.ref 59]) (r := []) (t := (11, 0)) rfl rfl rfl rfl (WF.t hw 59 rfl) rfl rfl ⟨rfl, rfl⟩ (by omega) (r_back hw hk (Nat.le_refl _) ?_)
  intro k f e
  show Wp d 270 149 [some (.ref 59), some (.int (Int32.ofNat s)), some (.int (w)), some (.int (Int32.ofNat N)), some (.int (-12)), some (.int (r)), some (.int (Int32.ofNat i)), z7, z8] [] k Q
  refine Wp.seg 1 (pc1 := 151) (ls1 := [some (.ref 59), some (.int (Int32.ofNat s)), some (.int (w)), some (.int (Int32.ofNat N)), some (.int (-12)), some (.int (r)), some (.int (Int32.ofNat i)), z7, z8]) (st1 := [.int (-12)]) rfl ?_
  refine Wp.if1 rfl (fun c1 => ?_) (fun c1 => absurd (show ¬ (-12 : Int32) = 0 by decide) c1)
  refine Wp.seg 1 (pc1 := 161) (ls1 := [some (.ref 59), some (.int (Int32.ofNat s)), some (.int (w)), some (.int (Int32.ofNat N)), some (.int (-12)), some (.int (r)), some (.int (Int32.ofNat i)), z7, z8]) (st1 := [.int (-12)]) rfl ?_
  exact Wp.reti rfl rfl (hQ k f e)
set_option maxHeartbeats 4000000 in
theorem t_mwe4 {d : Nat} {Q : KO → Prop} {h : KH} (hw : WF h) {s N i : Nat} {w r : Int32} {z7 z8 : Option Value} (hs : s < 4) {S A : Nat → Int32} {RL : List Rul} {n c dn en : Nat} (hk : refTh h S A RL n c dn en) (hd : 5 ≤ d) (hQ : ∀ k, Fr (fun c => c = 60) noP h k → k.2.2.1 60 = S → (Q (some (.int (-4)), k))) : Wp d 270 145 [some (.ref 59), some (.int (Int32.ofNat s)), some (.int (w)), some (.int (Int32.ofNat N)), some (.int (-4)), some (.int (r)), some (.int (Int32.ofNat i)), z7, z8] [] h Q := by
  refine Wp.seg 1 (pc1 := 146) (ls1 := [some (.ref 59), some (.int (Int32.ofNat s)), some (.int (w)), some (.int (Int32.ofNat N)), some (.int (-4)), some (.int (r)), some (.int (Int32.ofNat i)), z7, z8]) (st1 := [.ref 59]) rfl ?_
  refine Wp.invV (d2 := 1) (as := [.ref 59]) (r := []) (t := (11, 0)) rfl rfl rfl rfl (WF.t hw 59 rfl) rfl rfl ⟨rfl, rfl⟩ (by omega) (r_back hw hk (Nat.le_refl _) ?_)
  intro k f e
  show Wp d 270 149 [some (.ref 59), some (.int (Int32.ofNat s)), some (.int (w)), some (.int (Int32.ofNat N)), some (.int (-4)), some (.int (r)), some (.int (Int32.ofNat i)), z7, z8] [] k Q
  refine Wp.seg 1 (pc1 := 151) (ls1 := [some (.ref 59), some (.int (Int32.ofNat s)), some (.int (w)), some (.int (Int32.ofNat N)), some (.int (-4)), some (.int (r)), some (.int (Int32.ofNat i)), z7, z8]) (st1 := [.int (-4)]) rfl ?_
  refine Wp.if1 rfl (fun c1 => ?_) (fun c1 => absurd (show ¬ (-4 : Int32) = 0 by decide) c1)
  refine Wp.seg 1 (pc1 := 161) (ls1 := [some (.ref 59), some (.int (Int32.ofNat s)), some (.int (w)), some (.int (Int32.ofNat N)), some (.int (-4)), some (.int (r)), some (.int (Int32.ofNat i)), z7, z8]) (st1 := [.int (-4)]) rfl ?_
  exact Wp.reti rfl rfl (hQ k f e)
set_option maxHeartbeats 4000000 in
theorem t_mwg {d : Nat} {Q : KO → Prop} {h : KH} (hw : WF h) {s N i : Nat} {w r : Int32} {z7 z8 : Option Value} (hs : s < 4) (ge : Int32.ofNat N ≤ Int32.ofNat i) (hd : 5 ≤ d) (hQ : Wp d 270 145 ([some (.ref 59), some (.int (Int32.ofNat s)), some (.int (w)), some (.int (Int32.ofNat N)), some (.int (0)), some (.int (r)), some (.int (Int32.ofNat i)), z7, z8]) [] h Q) : Wp d 270 26 [some (.ref 59), some (.int (Int32.ofNat s)), some (.int (w)), some (.int (Int32.ofNat N)), some (.int (0)), some (.int (r)), some (.int (Int32.ofNat i)), z7, z8] [] h Q := by
  refine Wp.seg 2 (pc1 := 29) (ls1 := [some (.ref 59), some (.int (Int32.ofNat s)), some (.int (w)), some (.int (Int32.ofNat N)), some (.int (0)), some (.int (r)), some (.int (Int32.ofNat i)), z7, z8]) (st1 := [.int (Int32.ofNat N), .int (Int32.ofNat i)]) rfl ?_
  refine Wp.if2 rfl (fun c1 => ?_) (fun c1 => absurd (ge) c1)
  exact hQ
set_option maxHeartbeats 4000000 in
theorem t_mwx12 {d : Nat} {Q : KO → Prop} {h : KH} (hw : WF h) {s N i : Nat} {w r : Int32} {z7 z8 : Option Value} (hs : s < 4) (hd : 5 ≤ d) (hQ : ((Int32.ofNat N) ≤ (Int32.ofNat i) → Wp d 270 145 ([some (.ref 59), some (.int (Int32.ofNat s)), some (.int (w)), some (.int (Int32.ofNat N)), some (.int (-12)), some (.int (r)), some (.int (Int32.ofNat i)), z7, z8]) [] h Q) ∧ (¬ ((Int32.ofNat N) ≤ (Int32.ofNat i)) → Wp d 270 145 ([some (.ref 59), some (.int (Int32.ofNat s)), some (.int (w)), some (.int (Int32.ofNat N)), some (.int (-12)), some (.int (r)), some (.int (Int32.ofNat i)), z7, z8]) [] h Q)) : Wp d 270 26 [some (.ref 59), some (.int (Int32.ofNat s)), some (.int (w)), some (.int (Int32.ofNat N)), some (.int (-12)), some (.int (r)), some (.int (Int32.ofNat i)), z7, z8] [] h Q := by
  refine Wp.seg 2 (pc1 := 29) (ls1 := [some (.ref 59), some (.int (Int32.ofNat s)), some (.int (w)), some (.int (Int32.ofNat N)), some (.int (-12)), some (.int (r)), some (.int (Int32.ofNat i)), z7, z8]) (st1 := [.int (Int32.ofNat N), .int (Int32.ofNat i)]) rfl ?_
  refine Wp.if2 rfl (fun (c1 : (Int32.ofNat N) ≤ (Int32.ofNat i)) => ?_) (fun (c1 : ¬ ((Int32.ofNat N) ≤ (Int32.ofNat i))) => ?_)
  · exact (hQ.1 c1)
  · refine Wp.seg 1 (pc1 := 34) (ls1 := [some (.ref 59), some (.int (Int32.ofNat s)), some (.int (w)), some (.int (Int32.ofNat N)), some (.int (-12)), some (.int (r)), some (.int (Int32.ofNat i)), z7, z8]) (st1 := [.int (-12)]) rfl ?_
    refine Wp.if1 rfl (fun c2 => ?_) (fun c2 => absurd (show ¬ (-12 : Int32) = 0 by decide) c2)
    exact (hQ.2 c1)
set_option maxHeartbeats 4000000 in
theorem t_mwx4 {d : Nat} {Q : KO → Prop} {h : KH} (hw : WF h) {s N i : Nat} {w r : Int32} {z7 z8 : Option Value} (hs : s < 4) (hd : 5 ≤ d) (hQ : ((Int32.ofNat N) ≤ (Int32.ofNat i) → Wp d 270 145 ([some (.ref 59), some (.int (Int32.ofNat s)), some (.int (w)), some (.int (Int32.ofNat N)), some (.int (-4)), some (.int (r)), some (.int (Int32.ofNat i)), z7, z8]) [] h Q) ∧ (¬ ((Int32.ofNat N) ≤ (Int32.ofNat i)) → Wp d 270 145 ([some (.ref 59), some (.int (Int32.ofNat s)), some (.int (w)), some (.int (Int32.ofNat N)), some (.int (-4)), some (.int (r)), some (.int (Int32.ofNat i)), z7, z8]) [] h Q)) : Wp d 270 26 [some (.ref 59), some (.int (Int32.ofNat s)), some (.int (w)), some (.int (Int32.ofNat N)), some (.int (-4)), some (.int (r)), some (.int (Int32.ofNat i)), z7, z8] [] h Q := by
  refine Wp.seg 2 (pc1 := 29) (ls1 := [some (.ref 59), some (.int (Int32.ofNat s)), some (.int (w)), some (.int (Int32.ofNat N)), some (.int (-4)), some (.int (r)), some (.int (Int32.ofNat i)), z7, z8]) (st1 := [.int (Int32.ofNat N), .int (Int32.ofNat i)]) rfl ?_
  refine Wp.if2 rfl (fun (c1 : (Int32.ofNat N) ≤ (Int32.ofNat i)) => ?_) (fun (c1 : ¬ ((Int32.ofNat N) ≤ (Int32.ofNat i))) => ?_)
  · exact (hQ.1 c1)
  · refine Wp.seg 1 (pc1 := 34) (ls1 := [some (.ref 59), some (.int (Int32.ofNat s)), some (.int (w)), some (.int (Int32.ofNat N)), some (.int (-4)), some (.int (r)), some (.int (Int32.ofNat i)), z7, z8]) (st1 := [.int (-4)]) rfl ?_
    refine Wp.if1 rfl (fun c2 => ?_) (fun c2 => absurd (show ¬ (-4 : Int32) = 0 by decide) c2)
    exact (hQ.2 c1)
set_option maxHeartbeats 4000000 in
theorem t_mw1 {d : Nat} {Q : KO → Prop} {h : KH} (hw : WF h) {s N i : Nat} {w r : Int32} {z7 z8 : Option Value} (hs : s < 4) {z : Nat} (hz : z ≤ 40) (h69 : h.2.2.1 69 s = Int32.ofNat z) (hi20 : i ≤ 20) (ge : ¬ (Int32.ofNat N ≤ Int32.ofNat i)) (qp : plB z (w + Int32.ofNat i) = false) (hd : 6 ≤ d) (hQ : Wp d 270 26 ([some (.ref 59), some (.int (Int32.ofNat s)), some (.int (w)), some (.int (Int32.ofNat N)), some (.int (-12)), some (.int (r + (0 : Int32))), some (.int ((Int32.ofNat i) + 1)), some (.int (b32 (plB z (w + Int32.ofNat i)))), some (.int (0))]) [] h Q) : Wp d 270 26 [some (.ref 59), some (.int (Int32.ofNat s)), some (.int (w)), some (.int (Int32.ofNat N)), some (.int (0)), some (.int (r)), some (.int (Int32.ofNat i)), z7, z8] [] h Q := by
  refine Wp.seg 2 (pc1 := 29) (ls1 := [some (.ref 59), some (.int (Int32.ofNat s)), some (.int (w)), some (.int (Int32.ofNat N)), some (.int (0)), some (.int (r)), some (.int (Int32.ofNat i)), z7, z8]) (st1 := [.int (Int32.ofNat N), .int (Int32.ofNat i)]) rfl ?_
  refine Wp.if2 rfl (fun c1 => absurd c1 (ge)) (fun c1 => ?_)
  refine Wp.seg 1 (pc1 := 34) (ls1 := [some (.ref 59), some (.int (Int32.ofNat s)), some (.int (w)), some (.int (Int32.ofNat N)), some (.int (0)), some (.int (r)), some (.int (Int32.ofNat i)), z7, z8]) (st1 := [.int (0)]) rfl ?_
  refine Wp.if1 rfl (fun c2 => absurd c2 (show ¬ (¬ (0 : Int32) = 0) by decide)) (fun c2 => ?_)
  refine Wp.seg 7 (pc1 := 45) (ls1 := [some (.ref 59), some (.int (Int32.ofNat s)), some (.int (w)), some (.int (Int32.ofNat N)), some (.int (0)), some (.int (r)), some (.int (Int32.ofNat i)), z7, z8]) (st1 := [.long (w.toInt64 + ((Int32.ofNat i).toInt64)), .int (Int32.ofNat s), .ref 59]) rfl ?_
  refine Wp.invV (d2 := 0) (as := [.ref 59, .int (Int32.ofNat s), .long (w.toInt64 + ((Int32.ofNat i).toInt64))]) (r := []) (t := (11, 0)) rfl rfl rfl rfl (WF.t hw 59 rfl) rfl rfl ⟨rfl, rfl⟩ (by omega) (s_isPl hw hs hz h69 (by omega) ?_)
  show Wp d 270 48 [some (.ref 59), some (.int (Int32.ofNat s)), some (.int (w)), some (.int (Int32.ofNat N)), some (.int (0)), some (.int (r)), some (.int (Int32.ofNat i)), z7, z8] [.int (b32 (plB z (w + Int32.ofNat i)))] h Q
  refine Wp.seg 2 (pc1 := 52) (ls1 := [some (.ref 59), some (.int (Int32.ofNat s)), some (.int (w)), some (.int (Int32.ofNat N)), some (.int (0)), some (.int (r)), some (.int (Int32.ofNat i)), some (.int (b32 (plB z (w + Int32.ofNat i)))), z8]) (st1 := [.int (b32 (plB z (w + Int32.ofNat i)))]) rfl ?_
  refine Wp.ifz rfl (fun c3 => ?_) (fun c3 => absurd (c3.symm.trans (qp)) (by decide))
  refine Wp.seg 3 (pc1 := 78) (ls1 := [some (.ref 59), some (.int (Int32.ofNat s)), some (.int (w)), some (.int (Int32.ofNat N)), some (.int (0)), some (.int (r)), some (.int (Int32.ofNat i)), some (.int (b32 (plB z (w + Int32.ofNat i)))), some (.int (0))]) (st1 := [.int (b32 (plB z (w + Int32.ofNat i)))]) rfl ?_
  refine Wp.ifnz rfl (fun c4 => absurd (c4.symm.trans (qp)) (by decide)) (fun c4 => ?_)
  refine Wp.seg 5 (pc1 := 121) (ls1 := [some (.ref 59), some (.int (Int32.ofNat s)), some (.int (w)), some (.int (Int32.ofNat N)), some (.int (-12)), some (.int (r)), some (.int (Int32.ofNat i)), some (.int (b32 (plB z (w + Int32.ofNat i)))), some (.int (0))]) (st1 := [.int (-12), .int (r)]) rfl ?_
  refine Wp.if1 rfl (fun c5 => ?_) (fun c5 => absurd (show ¬ (-12 : Int32) = 0 by decide) c5)
  refine Wp.seg 5 (pc1 := 26) (ls1 := [some (.ref 59), some (.int (Int32.ofNat s)), some (.int (w)), some (.int (Int32.ofNat N)), some (.int (-12)), some (.int (r + (0 : Int32))), some (.int ((Int32.ofNat i) + 1)), some (.int (b32 (plB z (w + Int32.ofNat i)))), some (.int (0))]) (st1 := []) rfl ?_
  exact hQ
set_option maxHeartbeats 4000000 in
theorem t_mw2 {d : Nat} {Q : KO → Prop} {h : KH} (hw : WF h) {s N i : Nat} {w r : Int32} {z7 z8 : Option Value} (hs : s < 4) {z : Nat} (hz : z ≤ 40) (h69 : h.2.2.1 69 s = Int32.ofNat z) (hi20 : i ≤ 20) (ge : ¬ (Int32.ofNat N ≤ Int32.ofNat i)) (qp : plB z (w + Int32.ofNat i) = true) {j : Nat} {X : Int64} (hj : j < 40) (ej : w + Int32.ofNat i = Int32.ofNat j) (hX : h.2.2.2.1 70 (40 * s + j) = X) {S A : Nat → Int32} {RL : List Rul} {n c dn en : Nat} (hk : refTh h S A RL n c dn en) (qx : inB X.toInt32 0 (n : Int) = false) (hlt : dn < en) (hd : 6 ≤ d) (hQ : Wp d 270 26 ([some (.ref 59), some (.int (Int32.ofNat s)), some (.int (w)), some (.int (Int32.ofNat N)), some (.int (-4)), some (.int (r + (0 : Int32))), some (.int ((Int32.ofNat i) + 1)), some (.int (b32 (plB z (w + Int32.ofNat i)))), some (.int (X.toInt32))]) [] h Q) : Wp d 270 26 [some (.ref 59), some (.int (Int32.ofNat s)), some (.int (w)), some (.int (Int32.ofNat N)), some (.int (0)), some (.int (r)), some (.int (Int32.ofNat i)), z7, z8] [] h Q := by
  refine Wp.seg 2 (pc1 := 29) (ls1 := [some (.ref 59), some (.int (Int32.ofNat s)), some (.int (w)), some (.int (Int32.ofNat N)), some (.int (0)), some (.int (r)), some (.int (Int32.ofNat i)), z7, z8]) (st1 := [.int (Int32.ofNat N), .int (Int32.ofNat i)]) rfl ?_
  refine Wp.if2 rfl (fun c1 => absurd c1 (ge)) (fun c1 => ?_)
  refine Wp.seg 1 (pc1 := 34) (ls1 := [some (.ref 59), some (.int (Int32.ofNat s)), some (.int (w)), some (.int (Int32.ofNat N)), some (.int (0)), some (.int (r)), some (.int (Int32.ofNat i)), z7, z8]) (st1 := [.int (0)]) rfl ?_
  refine Wp.if1 rfl (fun c2 => absurd c2 (show ¬ (¬ (0 : Int32) = 0) by decide)) (fun c2 => ?_)
  refine Wp.seg 7 (pc1 := 45) (ls1 := [some (.ref 59), some (.int (Int32.ofNat s)), some (.int (w)), some (.int (Int32.ofNat N)), some (.int (0)), some (.int (r)), some (.int (Int32.ofNat i)), z7, z8]) (st1 := [.long (w.toInt64 + ((Int32.ofNat i).toInt64)), .int (Int32.ofNat s), .ref 59]) rfl ?_
  refine Wp.invV (d2 := 0) (as := [.ref 59, .int (Int32.ofNat s), .long (w.toInt64 + ((Int32.ofNat i).toInt64))]) (r := []) (t := (11, 0)) rfl rfl rfl rfl (WF.t hw 59 rfl) rfl rfl ⟨rfl, rfl⟩ (by omega) (s_isPl hw hs hz h69 (by omega) ?_)
  show Wp d 270 48 [some (.ref 59), some (.int (Int32.ofNat s)), some (.int (w)), some (.int (Int32.ofNat N)), some (.int (0)), some (.int (r)), some (.int (Int32.ofNat i)), z7, z8] [.int (b32 (plB z (w + Int32.ofNat i)))] h Q
  refine Wp.seg 2 (pc1 := 52) (ls1 := [some (.ref 59), some (.int (Int32.ofNat s)), some (.int (w)), some (.int (Int32.ofNat N)), some (.int (0)), some (.int (r)), some (.int (Int32.ofNat i)), some (.int (b32 (plB z (w + Int32.ofNat i)))), z8]) (st1 := [.int (b32 (plB z (w + Int32.ofNat i)))]) rfl ?_
  refine Wp.ifz rfl (fun c3 => absurd (c3.symm.trans (qp)) (by decide)) (fun c3 => ?_)
  refine Wp.seg 1 (pc1 := 56) (ls1 := [some (.ref 59), some (.int (Int32.ofNat s)), some (.int (w)), some (.int (Int32.ofNat N)), some (.int (0)), some (.int (r)), some (.int (Int32.ofNat i)), some (.int (b32 (plB z (w + Int32.ofNat i)))), z8]) (st1 := [.ref 59]) rfl ?_
  refine Wp.gr (t := (11, 0)) (v := some (70)) rfl (WF.t hw 59 rfl) rfl (WF.r hw 59 24 68 rfl) ?_
  show Wp d 270 59 [some (.ref 59), some (.int (Int32.ofNat s)), some (.int (w)), some (.int (Int32.ofNat N)), some (.int (0)), some (.int (r)), some (.int (Int32.ofNat i)), some (.int (b32 (plB z (w + Int32.ofNat i)))), z8] [.ref 70] h Q
  refine Wp.seg 7 (pc1 := 68) (ls1 := [some (.ref 59), some (.int (Int32.ofNat s)), some (.int (w)), some (.int (Int32.ofNat N)), some (.int (0)), some (.int (r)), some (.int (Int32.ofNat i)), some (.int (b32 (plB z (w + Int32.ofNat i)))), z8]) (st1 := [.int ((((40 : Int32) * (Int32.ofNat s)) + w) + (Int32.ofNat i)), .ref 70]) rfl ?_
  refine Wp.lald (j := (40 * s + j)) (n := 160) rfl (WF.t hw 70 rfl) (sixj ej) (by omega) (by decide) ?_
  rw [show h.2.2.2.1 70 ((40 * s + j)) = X from hX]
  refine Wp.seg 4 (pc1 := 78) (ls1 := [some (.ref 59), some (.int (Int32.ofNat s)), some (.int (w)), some (.int (Int32.ofNat N)), some (.int (0)), some (.int (r)), some (.int (Int32.ofNat i)), some (.int (b32 (plB z (w + Int32.ofNat i)))), some (.int (X.toInt32))]) (st1 := [.int (b32 (plB z (w + Int32.ofNat i)))]) rfl ?_
  refine Wp.ifnz rfl (fun c4 => ?_) (fun c4 => absurd (c4.symm.trans (qp)) (by decide))
  refine Wp.seg 1 (pc1 := 87) (ls1 := [some (.ref 59), some (.int (Int32.ofNat s)), some (.int (w)), some (.int (Int32.ofNat N)), some (.int (0)), some (.int (r)), some (.int (Int32.ofNat i)), some (.int (b32 (plB z (w + Int32.ofNat i)))), some (.int (X.toInt32))]) (st1 := [.ref 59]) rfl ?_
  refine Wp.invV (d2 := 0) (as := [.ref 59]) (r := []) (t := (11, 0)) rfl rfl rfl rfl (WF.t hw 59 rfl) rfl rfl ⟨rfl, rfl⟩ (by omega) (r_over0 hw hk.1 hlt ?_)
  show Wp d 270 90 [some (.ref 59), some (.int (Int32.ofNat s)), some (.int (w)), some (.int (Int32.ofNat N)), some (.int (0)), some (.int (r)), some (.int (Int32.ofNat i)), some (.int (b32 (plB z (w + Int32.ofNat i)))), some (.int (X.toInt32))] [.int (0)] h Q
  refine Wp.if1 rfl (fun c5 => absurd c5 (show ¬ (¬ (0 : Int32) = 0) by decide)) (fun c5 => ?_)
  refine Wp.seg 3 (pc1 := 97) (ls1 := [some (.ref 59), some (.int (Int32.ofNat s)), some (.int (w)), some (.int (Int32.ofNat N)), some (.int (0)), some (.int (r)), some (.int (Int32.ofNat i)), some (.int (b32 (plB z (w + Int32.ofNat i)))), some (.int (X.toInt32))]) (st1 := [.ref 59, .int (0), .int (X.toInt32)]) rfl ?_
  refine Wp.gr (t := (11, 0)) (v := some (60)) rfl (WF.t hw 59 rfl) rfl (WF.r hw 59 0 58 rfl) ?_
  show Wp d 270 100 [some (.ref 59), some (.int (Int32.ofNat s)), some (.int (w)), some (.int (Int32.ofNat N)), some (.int (0)), some (.int (r)), some (.int (Int32.ofNat i)), some (.int (b32 (plB z (w + Int32.ofNat i)))), some (.int (X.toInt32))] [.ref 60, .int (0), .int (X.toInt32)] h Q
  refine Wp.seg 1 (pc1 := 102) (ls1 := [some (.ref 59), some (.int (Int32.ofNat s)), some (.int (w)), some (.int (Int32.ofNat N)), some (.int (0)), some (.int (r)), some (.int (Int32.ofNat i)), some (.int (b32 (plB z (w + Int32.ofNat i)))), some (.int (X.toInt32))]) (st1 := [.int (8), .ref 60, .int (0), .int (X.toInt32)]) rfl ?_
  refine Wp.iald (j := 8) (k := 20) (n := 585) rfl (WF.t hw 60 rfl) rfl rfl (by decide) (by decide) ?_
  rw [show h.2.2.1 60 8 = Int32.ofNat n from hk.1.2.1.2.1]
  refine Wp.inv (d2 := 0) (as := [.int (X.toInt32), .int (0), .int (Int32.ofNat n)]) (r := []) rfl rfl rfl rfl rfl rfl (by omega) (s_inB (x := 0) (y := (n : Int)) rfl (znat (by have := hk.1.2.1.1; omega)) ?_)
  show Wp d 270 106 [some (.ref 59), some (.int (Int32.ofNat s)), some (.int (w)), some (.int (Int32.ofNat N)), some (.int (0)), some (.int (r)), some (.int (Int32.ofNat i)), some (.int (b32 (plB z (w + Int32.ofNat i)))), some (.int (X.toInt32))] [.int (b32 (inB X.toInt32 0 (n : Int)))] h Q
  refine Wp.ifnz rfl (fun c6 => absurd (c6.symm.trans (qx)) (by decide)) (fun c6 => ?_)
  refine Wp.seg 5 (pc1 := 121) (ls1 := [some (.ref 59), some (.int (Int32.ofNat s)), some (.int (w)), some (.int (Int32.ofNat N)), some (.int (-4)), some (.int (r)), some (.int (Int32.ofNat i)), some (.int (b32 (plB z (w + Int32.ofNat i)))), some (.int (X.toInt32))]) (st1 := [.int (-4), .int (r)]) rfl ?_
  refine Wp.if1 rfl (fun c7 => ?_) (fun c7 => absurd (show ¬ (-4 : Int32) = 0 by decide) c7)
  refine Wp.seg 5 (pc1 := 26) (ls1 := [some (.ref 59), some (.int (Int32.ofNat s)), some (.int (w)), some (.int (Int32.ofNat N)), some (.int (-4)), some (.int (r + (0 : Int32))), some (.int ((Int32.ofNat i) + 1)), some (.int (b32 (plB z (w + Int32.ofNat i)))), some (.int (X.toInt32))]) (st1 := []) rfl ?_
  exact hQ
set_option maxHeartbeats 4000000 in
theorem t_mw3 {d : Nat} {Q : KO → Prop} {h : KH} (hw : WF h) {s N i : Nat} {w r : Int32} {z7 z8 : Option Value} (hs : s < 4) {z : Nat} (hz : z ≤ 40) (h69 : h.2.2.1 69 s = Int32.ofNat z) (hi20 : i ≤ 20) (ge : ¬ (Int32.ofNat N ≤ Int32.ofNat i)) (qp : plB z (w + Int32.ofNat i) = true) {j : Nat} {X : Int64} (hj : j < 40) (ej : w + Int32.ofNat i = Int32.ofNat j) (hX : h.2.2.2.1 70 (40 * s + j) = X) {S A : Nat → Int32} {RL : List Rul} {n c dn en : Nat} (hk : refTh h S A RL n c dn en) (hlt : ¬ dn < en) (hd : 6 ≤ d) (hQ : Wp d 270 26 ([some (.ref 59), some (.int (Int32.ofNat s)), some (.int (w)), some (.int (Int32.ofNat N)), some (.int (-4)), some (.int (r + (0 : Int32))), some (.int ((Int32.ofNat i) + 1)), some (.int (b32 (plB z (w + Int32.ofNat i)))), some (.int (X.toInt32))]) [] h Q) : Wp d 270 26 [some (.ref 59), some (.int (Int32.ofNat s)), some (.int (w)), some (.int (Int32.ofNat N)), some (.int (0)), some (.int (r)), some (.int (Int32.ofNat i)), z7, z8] [] h Q := by
  refine Wp.seg 2 (pc1 := 29) (ls1 := [some (.ref 59), some (.int (Int32.ofNat s)), some (.int (w)), some (.int (Int32.ofNat N)), some (.int (0)), some (.int (r)), some (.int (Int32.ofNat i)), z7, z8]) (st1 := [.int (Int32.ofNat N), .int (Int32.ofNat i)]) rfl ?_
  refine Wp.if2 rfl (fun c1 => absurd c1 (ge)) (fun c1 => ?_)
  refine Wp.seg 1 (pc1 := 34) (ls1 := [some (.ref 59), some (.int (Int32.ofNat s)), some (.int (w)), some (.int (Int32.ofNat N)), some (.int (0)), some (.int (r)), some (.int (Int32.ofNat i)), z7, z8]) (st1 := [.int (0)]) rfl ?_
  refine Wp.if1 rfl (fun c2 => absurd c2 (show ¬ (¬ (0 : Int32) = 0) by decide)) (fun c2 => ?_)
  refine Wp.seg 7 (pc1 := 45) (ls1 := [some (.ref 59), some (.int (Int32.ofNat s)), some (.int (w)), some (.int (Int32.ofNat N)), some (.int (0)), some (.int (r)), some (.int (Int32.ofNat i)), z7, z8]) (st1 := [.long (w.toInt64 + ((Int32.ofNat i).toInt64)), .int (Int32.ofNat s), .ref 59]) rfl ?_
  refine Wp.invV (d2 := 0) (as := [.ref 59, .int (Int32.ofNat s), .long (w.toInt64 + ((Int32.ofNat i).toInt64))]) (r := []) (t := (11, 0)) rfl rfl rfl rfl (WF.t hw 59 rfl) rfl rfl ⟨rfl, rfl⟩ (by omega) (s_isPl hw hs hz h69 (by omega) ?_)
  show Wp d 270 48 [some (.ref 59), some (.int (Int32.ofNat s)), some (.int (w)), some (.int (Int32.ofNat N)), some (.int (0)), some (.int (r)), some (.int (Int32.ofNat i)), z7, z8] [.int (b32 (plB z (w + Int32.ofNat i)))] h Q
  refine Wp.seg 2 (pc1 := 52) (ls1 := [some (.ref 59), some (.int (Int32.ofNat s)), some (.int (w)), some (.int (Int32.ofNat N)), some (.int (0)), some (.int (r)), some (.int (Int32.ofNat i)), some (.int (b32 (plB z (w + Int32.ofNat i)))), z8]) (st1 := [.int (b32 (plB z (w + Int32.ofNat i)))]) rfl ?_
  refine Wp.ifz rfl (fun c3 => absurd (c3.symm.trans (qp)) (by decide)) (fun c3 => ?_)
  refine Wp.seg 1 (pc1 := 56) (ls1 := [some (.ref 59), some (.int (Int32.ofNat s)), some (.int (w)), some (.int (Int32.ofNat N)), some (.int (0)), some (.int (r)), some (.int (Int32.ofNat i)), some (.int (b32 (plB z (w + Int32.ofNat i)))), z8]) (st1 := [.ref 59]) rfl ?_
  refine Wp.gr (t := (11, 0)) (v := some (70)) rfl (WF.t hw 59 rfl) rfl (WF.r hw 59 24 68 rfl) ?_
  show Wp d 270 59 [some (.ref 59), some (.int (Int32.ofNat s)), some (.int (w)), some (.int (Int32.ofNat N)), some (.int (0)), some (.int (r)), some (.int (Int32.ofNat i)), some (.int (b32 (plB z (w + Int32.ofNat i)))), z8] [.ref 70] h Q
  refine Wp.seg 7 (pc1 := 68) (ls1 := [some (.ref 59), some (.int (Int32.ofNat s)), some (.int (w)), some (.int (Int32.ofNat N)), some (.int (0)), some (.int (r)), some (.int (Int32.ofNat i)), some (.int (b32 (plB z (w + Int32.ofNat i)))), z8]) (st1 := [.int ((((40 : Int32) * (Int32.ofNat s)) + w) + (Int32.ofNat i)), .ref 70]) rfl ?_
  refine Wp.lald (j := (40 * s + j)) (n := 160) rfl (WF.t hw 70 rfl) (sixj ej) (by omega) (by decide) ?_
  rw [show h.2.2.2.1 70 ((40 * s + j)) = X from hX]
  refine Wp.seg 4 (pc1 := 78) (ls1 := [some (.ref 59), some (.int (Int32.ofNat s)), some (.int (w)), some (.int (Int32.ofNat N)), some (.int (0)), some (.int (r)), some (.int (Int32.ofNat i)), some (.int (b32 (plB z (w + Int32.ofNat i)))), some (.int (X.toInt32))]) (st1 := [.int (b32 (plB z (w + Int32.ofNat i)))]) rfl ?_
  refine Wp.ifnz rfl (fun c4 => ?_) (fun c4 => absurd (c4.symm.trans (qp)) (by decide))
  refine Wp.seg 1 (pc1 := 87) (ls1 := [some (.ref 59), some (.int (Int32.ofNat s)), some (.int (w)), some (.int (Int32.ofNat N)), some (.int (0)), some (.int (r)), some (.int (Int32.ofNat i)), some (.int (b32 (plB z (w + Int32.ofNat i)))), some (.int (X.toInt32))]) (st1 := [.ref 59]) rfl ?_
  refine Wp.invV (d2 := 0) (as := [.ref 59]) (r := []) (t := (11, 0)) rfl rfl rfl rfl (WF.t hw 59 rfl) rfl rfl ⟨rfl, rfl⟩ (by omega) (r_over1 hw hk.1 hlt ?_)
  show Wp d 270 90 [some (.ref 59), some (.int (Int32.ofNat s)), some (.int (w)), some (.int (Int32.ofNat N)), some (.int (0)), some (.int (r)), some (.int (Int32.ofNat i)), some (.int (b32 (plB z (w + Int32.ofNat i)))), some (.int (X.toInt32))] [.int (1)] h Q
  refine Wp.if1 rfl (fun c5 => ?_) (fun c5 => absurd (show ¬ (1 : Int32) = 0 by decide) c5)
  refine Wp.seg 5 (pc1 := 121) (ls1 := [some (.ref 59), some (.int (Int32.ofNat s)), some (.int (w)), some (.int (Int32.ofNat N)), some (.int (-4)), some (.int (r)), some (.int (Int32.ofNat i)), some (.int (b32 (plB z (w + Int32.ofNat i)))), some (.int (X.toInt32))]) (st1 := [.int (-4), .int (r)]) rfl ?_
  refine Wp.if1 rfl (fun c6 => ?_) (fun c6 => absurd (show ¬ (-4 : Int32) = 0 by decide) c6)
  refine Wp.seg 5 (pc1 := 26) (ls1 := [some (.ref 59), some (.int (Int32.ofNat s)), some (.int (w)), some (.int (Int32.ofNat N)), some (.int (-4)), some (.int (r + (0 : Int32))), some (.int ((Int32.ofNat i) + 1)), some (.int (b32 (plB z (w + Int32.ofNat i)))), some (.int (X.toInt32))]) (st1 := []) rfl ?_
  exact hQ
set_option maxHeartbeats 4000000 in
theorem t_mw4 {d : Nat} {Q : KO → Prop} {h : KH} (hw : WF h) {s N i : Nat} {w r : Int32} {z7 z8 : Option Value} (hs : s < 4) {z : Nat} (hz : z ≤ 40) (h69 : h.2.2.1 69 s = Int32.ofNat z) (hi20 : i ≤ 20) (ge : ¬ (Int32.ofNat N ≤ Int32.ofNat i)) (qp : plB z (w + Int32.ofNat i) = true) {j : Nat} {X : Int64} (hj : j < 40) (ej : w + Int32.ofNat i = Int32.ofNat j) (hX : h.2.2.2.1 70 (40 * s + j) = X) {S A : Nat → Int32} {RL : List Rul} {n c dn en : Nat} (hk : refTh h S A RL n c dn en) (qx : inB X.toInt32 0 (n : Int) = true) (hlt : dn < en) (ht : okT n (X.toInt32 - 1)) (hd : 6 ≤ d) (hQ : ∀ k, Fr pM noP h k → refOK k (goA RL A (X.toInt32 - 1)) RL n c (dn + 1) en → keepS (k.2.2.1 60) (h.2.2.1 60) → (Wp d 270 26 ([some (.ref 59), some (.int (Int32.ofNat s)), some (.int (w)), some (.int (Int32.ofNat N)), some (.int (0)), some (.int (r + (wA RL A (X.toInt32 - 1)))), some (.int ((Int32.ofNat i) + 1)), some (.int (b32 (plB z (w + Int32.ofNat i)))), some (.int (X.toInt32))]) [] k Q)) : Wp d 270 26 [some (.ref 59), some (.int (Int32.ofNat s)), some (.int (w)), some (.int (Int32.ofNat N)), some (.int (0)), some (.int (r)), some (.int (Int32.ofNat i)), z7, z8] [] h Q := by
  refine Wp.seg 2 (pc1 := 29) (ls1 := [some (.ref 59), some (.int (Int32.ofNat s)), some (.int (w)), some (.int (Int32.ofNat N)), some (.int (0)), some (.int (r)), some (.int (Int32.ofNat i)), z7, z8]) (st1 := [.int (Int32.ofNat N), .int (Int32.ofNat i)]) rfl ?_
  refine Wp.if2 rfl (fun c1 => absurd c1 (ge)) (fun c1 => ?_)
  refine Wp.seg 1 (pc1 := 34) (ls1 := [some (.ref 59), some (.int (Int32.ofNat s)), some (.int (w)), some (.int (Int32.ofNat N)), some (.int (0)), some (.int (r)), some (.int (Int32.ofNat i)), z7, z8]) (st1 := [.int (0)]) rfl ?_
  refine Wp.if1 rfl (fun c2 => absurd c2 (show ¬ (¬ (0 : Int32) = 0) by decide)) (fun c2 => ?_)
  refine Wp.seg 7 (pc1 := 45) (ls1 := [some (.ref 59), some (.int (Int32.ofNat s)), some (.int (w)), some (.int (Int32.ofNat N)), some (.int (0)), some (.int (r)), some (.int (Int32.ofNat i)), z7, z8]) (st1 := [.long (w.toInt64 + ((Int32.ofNat i).toInt64)), .int (Int32.ofNat s), .ref 59]) rfl ?_
  refine Wp.invV (d2 := 0) (as := [.ref 59, .int (Int32.ofNat s), .long (w.toInt64 + ((Int32.ofNat i).toInt64))]) (r := []) (t := (11, 0)) rfl rfl rfl rfl (WF.t hw 59 rfl) rfl rfl ⟨rfl, rfl⟩ (by omega) (s_isPl hw hs hz h69 (by omega) ?_)
  show Wp d 270 48 [some (.ref 59), some (.int (Int32.ofNat s)), some (.int (w)), some (.int (Int32.ofNat N)), some (.int (0)), some (.int (r)), some (.int (Int32.ofNat i)), z7, z8] [.int (b32 (plB z (w + Int32.ofNat i)))] h Q
  refine Wp.seg 2 (pc1 := 52) (ls1 := [some (.ref 59), some (.int (Int32.ofNat s)), some (.int (w)), some (.int (Int32.ofNat N)), some (.int (0)), some (.int (r)), some (.int (Int32.ofNat i)), some (.int (b32 (plB z (w + Int32.ofNat i)))), z8]) (st1 := [.int (b32 (plB z (w + Int32.ofNat i)))]) rfl ?_
  refine Wp.ifz rfl (fun c3 => absurd (c3.symm.trans (qp)) (by decide)) (fun c3 => ?_)
  refine Wp.seg 1 (pc1 := 56) (ls1 := [some (.ref 59), some (.int (Int32.ofNat s)), some (.int (w)), some (.int (Int32.ofNat N)), some (.int (0)), some (.int (r)), some (.int (Int32.ofNat i)), some (.int (b32 (plB z (w + Int32.ofNat i)))), z8]) (st1 := [.ref 59]) rfl ?_
  refine Wp.gr (t := (11, 0)) (v := some (70)) rfl (WF.t hw 59 rfl) rfl (WF.r hw 59 24 68 rfl) ?_
  show Wp d 270 59 [some (.ref 59), some (.int (Int32.ofNat s)), some (.int (w)), some (.int (Int32.ofNat N)), some (.int (0)), some (.int (r)), some (.int (Int32.ofNat i)), some (.int (b32 (plB z (w + Int32.ofNat i)))), z8] [.ref 70] h Q
  refine Wp.seg 7 (pc1 := 68) (ls1 := [some (.ref 59), some (.int (Int32.ofNat s)), some (.int (w)), some (.int (Int32.ofNat N)), some (.int (0)), some (.int (r)), some (.int (Int32.ofNat i)), some (.int (b32 (plB z (w + Int32.ofNat i)))), z8]) (st1 := [.int ((((40 : Int32) * (Int32.ofNat s)) + w) + (Int32.ofNat i)), .ref 70]) rfl ?_
  refine Wp.lald (j := (40 * s + j)) (n := 160) rfl (WF.t hw 70 rfl) (sixj ej) (by omega) (by decide) ?_
  rw [show h.2.2.2.1 70 ((40 * s + j)) = X from hX]
  refine Wp.seg 4 (pc1 := 78) (ls1 := [some (.ref 59), some (.int (Int32.ofNat s)), some (.int (w)), some (.int (Int32.ofNat N)), some (.int (0)), some (.int (r)), some (.int (Int32.ofNat i)), some (.int (b32 (plB z (w + Int32.ofNat i)))), some (.int (X.toInt32))]) (st1 := [.int (b32 (plB z (w + Int32.ofNat i)))]) rfl ?_
  refine Wp.ifnz rfl (fun c4 => ?_) (fun c4 => absurd (c4.symm.trans (qp)) (by decide))
  refine Wp.seg 1 (pc1 := 87) (ls1 := [some (.ref 59), some (.int (Int32.ofNat s)), some (.int (w)), some (.int (Int32.ofNat N)), some (.int (0)), some (.int (r)), some (.int (Int32.ofNat i)), some (.int (b32 (plB z (w + Int32.ofNat i)))), some (.int (X.toInt32))]) (st1 := [.ref 59]) rfl ?_
  refine Wp.invV (d2 := 0) (as := [.ref 59]) (r := []) (t := (11, 0)) rfl rfl rfl rfl (WF.t hw 59 rfl) rfl rfl ⟨rfl, rfl⟩ (by omega) (r_over0 hw hk.1 hlt ?_)
  show Wp d 270 90 [some (.ref 59), some (.int (Int32.ofNat s)), some (.int (w)), some (.int (Int32.ofNat N)), some (.int (0)), some (.int (r)), some (.int (Int32.ofNat i)), some (.int (b32 (plB z (w + Int32.ofNat i)))), some (.int (X.toInt32))] [.int (0)] h Q
  refine Wp.if1 rfl (fun c5 => absurd c5 (show ¬ (¬ (0 : Int32) = 0) by decide)) (fun c5 => ?_)
  refine Wp.seg 3 (pc1 := 97) (ls1 := [some (.ref 59), some (.int (Int32.ofNat s)), some (.int (w)), some (.int (Int32.ofNat N)), some (.int (0)), some (.int (r)), some (.int (Int32.ofNat i)), some (.int (b32 (plB z (w + Int32.ofNat i)))), some (.int (X.toInt32))]) (st1 := [.ref 59, .int (0), .int (X.toInt32)]) rfl ?_
  refine Wp.gr (t := (11, 0)) (v := some (60)) rfl (WF.t hw 59 rfl) rfl (WF.r hw 59 0 58 rfl) ?_
  show Wp d 270 100 [some (.ref 59), some (.int (Int32.ofNat s)), some (.int (w)), some (.int (Int32.ofNat N)), some (.int (0)), some (.int (r)), some (.int (Int32.ofNat i)), some (.int (b32 (plB z (w + Int32.ofNat i)))), some (.int (X.toInt32))] [.ref 60, .int (0), .int (X.toInt32)] h Q
  refine Wp.seg 1 (pc1 := 102) (ls1 := [some (.ref 59), some (.int (Int32.ofNat s)), some (.int (w)), some (.int (Int32.ofNat N)), some (.int (0)), some (.int (r)), some (.int (Int32.ofNat i)), some (.int (b32 (plB z (w + Int32.ofNat i)))), some (.int (X.toInt32))]) (st1 := [.int (8), .ref 60, .int (0), .int (X.toInt32)]) rfl ?_
  refine Wp.iald (j := 8) (k := 20) (n := 585) rfl (WF.t hw 60 rfl) rfl rfl (by decide) (by decide) ?_
  rw [show h.2.2.1 60 8 = Int32.ofNat n from hk.1.2.1.2.1]
  refine Wp.inv (d2 := 0) (as := [.int (X.toInt32), .int (0), .int (Int32.ofNat n)]) (r := []) rfl rfl rfl rfl rfl rfl (by omega) (s_inB (x := 0) (y := (n : Int)) rfl (znat (by have := hk.1.2.1.1; omega)) ?_)
  show Wp d 270 106 [some (.ref 59), some (.int (Int32.ofNat s)), some (.int (w)), some (.int (Int32.ofNat N)), some (.int (0)), some (.int (r)), some (.int (Int32.ofNat i)), some (.int (b32 (plB z (w + Int32.ofNat i)))), some (.int (X.toInt32))] [.int (b32 (inB X.toInt32 0 (n : Int)))] h Q
  refine Wp.ifnz rfl (fun c6 => ?_) (fun c6 => absurd (c6.symm.trans (qx)) (by decide))
  refine Wp.seg 4 (pc1 := 121) (ls1 := [some (.ref 59), some (.int (Int32.ofNat s)), some (.int (w)), some (.int (Int32.ofNat N)), some (.int (0)), some (.int (r)), some (.int (Int32.ofNat i)), some (.int (b32 (plB z (w + Int32.ofNat i)))), some (.int (X.toInt32))]) (st1 := [.int (0), .int (r)]) rfl ?_
  refine Wp.if1 rfl (fun c7 => absurd c7 (show ¬ (¬ (0 : Int32) = 0) by decide)) (fun c7 => ?_)
  refine Wp.seg 4 (pc1 := 129) (ls1 := [some (.ref 59), some (.int (Int32.ofNat s)), some (.int (w)), some (.int (Int32.ofNat N)), some (.int (0)), some (.int (r)), some (.int (Int32.ofNat i)), some (.int (b32 (plB z (w + Int32.ofNat i)))), some (.int (X.toInt32))]) (st1 := [.int (X.toInt32 - (1 : Int32)), .ref 59, .int (r)]) rfl ?_
  refine Wp.invV (d2 := 5) (as := [.ref 59, .int (X.toInt32 - (1 : Int32))]) (r := [.int (r)]) (t := (11, 0)) rfl rfl rfl rfl (WF.t hw 59 rfl) rfl rfl ⟨rfl, rfl⟩ (by omega) (s_goesF hw hk.1 hlt ht (Nat.le_refl _) ?_)
  intro k f g e
  show Wp d 270 132 [some (.ref 59), some (.int (Int32.ofNat s)), some (.int (w)), some (.int (Int32.ofNat N)), some (.int (0)), some (.int (r)), some (.int (Int32.ofNat i)), some (.int (b32 (plB z (w + Int32.ofNat i)))), some (.int (X.toInt32))] [.int (wA RL A (X.toInt32 - 1)), .int (r)] k Q
  refine Wp.seg 5 (pc1 := 26) (ls1 := [some (.ref 59), some (.int (Int32.ofNat s)), some (.int (w)), some (.int (Int32.ofNat N)), some (.int (0)), some (.int (r + (wA RL A (X.toInt32 - 1)))), some (.int ((Int32.ofNat i) + 1)), some (.int (b32 (plB z (w + Int32.ofNat i)))), some (.int (X.toInt32))]) (st1 := []) rfl ?_
  exact (hQ k f g e)
def wbR (z : Nat) (it : Nat → Int32) (RL : List Rul) (n en : Nat) (w : Int32) : Nat → Nat → (Nat → Int32) → Nat → Int32 → Int32
  | 0, _, _, _, r => r
  | k + 1, i, A, dn, r => if plB z (w + Int32.ofNat i) = true then (if inB (it (w + Int32.ofNat i).toNatClampNeg) 0 (n : Int) = true ∧ dn < en then wbR z it RL n en w k (i + 1) (goA RL A (it (w + Int32.ofNat i).toNatClampNeg - 1)) (dn + 1) (r + wA RL A (it (w + Int32.ofNat i).toNatClampNeg - 1)) else -4) else -12
theorem s_cwbL {d : Nat} {Q : KO → Prop} {s N z : Nat} {it : Nat → Int32} {w : Int32} {RL RL1 : List Rul} {A1 : Nat → Int32} {n c en dn1 : Nat} (hs : s < 4) (hN : N ≤ 20) (hz : z ≤ 40) (hd : 5 ≤ d) : ∀ (k i : Nat) (A : Nat → Int32) (dn : Nat) (r : Int32) (z7 : Option Value) (h : KH), i + k = N → WF h → cityOK h 1 A1 RL1 n c dn1 en → cityOK h 7 A RL n c dn en → h.2.2.1 39 s = Int32.ofNat z → (∀ j, j < z → h.2.2.1 (41 + s) j = it j) → (∀ H, Fr (pC 7) noP h H → Q (some (.int (wbR z it RL n en w k i A dn r)), H)) → Wp d 153 52 [some (.ref 0), some (.int (Int32.ofNat s)), some (.int (w)), some (.int (Int32.ofNat N)), some (.int (0)), some (.int (r)), some (.int (Int32.ofNat i)), z7] [] h Q := by
  intro k
  induction k with
  | zero =>
    intro i A dn r z7 h e hw hk1 hk h39 hit hQ
    exact t_cwl0 hw hs ((nle (by omega) (by omega)).mpr (by omega)) (by omega) (hQ h (Fr.refl h))
  | succ k ih =>
    intro i A dn r z7 h e hw hk1 hk h39 hit hQ
    have ge : ¬ (Int32.ofNat N ≤ Int32.ofNat i) := fun c => absurd ((nle (by omega) (by omega)).mp c) (by omega)
    have ii : Int32.ofNat i + (1 : Int32) = Int32.ofNat (i + 1) := (Int32.ofNat_add i 1).symm
    unfold wbR at hQ
    rcases qp : plB z (w + Int32.ofNat i) with _ | _
    · rw [if_neg (by rw [qp]; decide)] at hQ
      exact t_cwl1 hw hs hz h39 ge qp (by omega) (hQ h (Fr.refl h))
    obtain ⟨j, hj, ej⟩ := plB_lt qp
    rw [if_pos qp] at hQ
    simp only [ej, nn_of (show j < 40 by omega)] at hQ
    have hx := hit j hj
    rcases qx : inB (it j) 0 (n : Int) with _ | _
    · rw [if_neg (fun z => by rw [qx] at z; exact absurd z.1 (by decide))] at hQ
      exact t_cwl2 (A := A) (RL := RL) (dn := dn) hw hs hz h39 ge qp (by omega) ej hx hk1 qx (by omega) (hQ h (Fr.refl h))
    by_cases hlt : dn < en
    · rw [if_pos ⟨qx, hlt⟩] at hQ
      refine t_cwl4 hw hs hz h39 ge qp (by omega) ej hx hk1 hk qx hlt (ok_x hk.2.1.1 qx) hd (fun k f g => ?_)
      rw [ii]
      refine ih (i + 1) _ _ _ _ k (by omega) (f.wf hw (fun z => z)) (city_fr hk1 f (by unfold pC; omega) (by unfold pC; omega) (fun z => z)) g (by rw [f.2.2.1 39 (Or.inl (by unfold pC; omega))]; exact h39) (fun j hj => by rw [f.2.2.1 (41 + s) (Or.inl (by unfold pC; omega))]; exact hit j hj) (fun H fH => hQ H (f.trans fH))
    · rw [if_neg (fun z => hlt z.2)] at hQ
      exact t_cwl3 hw hs hz h39 ge qp (by omega) ej hx hk1 hk qx hlt (by omega) (hQ h (Fr.refl h))
theorem s_mwbL {d : Nat} {Q : KO → Prop} {s N z : Nat} {it S : Nat → Int32} {w : Int32} {RL : List Rul} {n c en : Nat} (hs : s < 4) (hN : N ≤ 20) (hz : z ≤ 40) (hd : 6 ≤ d) : ∀ (k i : Nat) (A : Nat → Int32) (dn : Nat) (r : Int32) (z7 z8 : Option Value) (h : KH), i + k = N → WF h → refTh h S A RL n c dn en → h.2.2.1 69 s = Int32.ofNat z → (∀ j, j < z → (h.2.2.2.1 70 (40 * s + j)).toInt32 = it j) → (∀ H, Fr pM noP h H → H.2.2.1 60 = S → Q (some (.int (wbR z it RL n en w k i A dn r)), H)) → Wp d 270 26 [some (.ref 59), some (.int (Int32.ofNat s)), some (.int (w)), some (.int (Int32.ofNat N)), some (.int (0)), some (.int (r)), some (.int (Int32.ofNat i)), z7, z8] [] h Q := by
  intro k
  have toM : ∀ {h k : KH}, Fr (fun c => c = 60) noP h k → Fr pM noP h k := fun {h k} f => f.mono (fun c z => Or.inl z) (fun _ z => z)
  induction k with
  | zero =>
    intro i A dn r z7 z8 h e hw hk h39 hit hQ
    exact t_mwg hw hs ((nle (by omega) (by omega)).mpr (by omega)) (by omega) (t_mwe0 hw hs hk (by omega) (fun k f e => hQ k (toM f) e))
  | succ k ih =>
    intro i A dn r z7 z8 h e hw hk h39 hit hQ
    have ge : ¬ (Int32.ofNat N ≤ Int32.ofNat i) := fun c => absurd ((nle (by omega) (by omega)).mp c) (by omega)
    have ii : Int32.ofNat i + (1 : Int32) = Int32.ofNat (i + 1) := (Int32.ofNat_add i 1).symm
    unfold wbR at hQ
    rcases qp : plB z (w + Int32.ofNat i) with _ | _
    · rw [if_neg (by rw [qp]; decide)] at hQ
      refine t_mw1 hw hs hz h39 (by omega) ge qp (by omega) ?_
      rw [ii]
      exact t_mwx12 hw hs (by omega) ⟨fun _ => t_mwe12 hw hs hk (by omega) (fun k f e => hQ k (toM f) e), fun _ => t_mwe12 hw hs hk (by omega) (fun k f e => hQ k (toM f) e)⟩
    obtain ⟨j, hj, ej⟩ := plB_lt qp
    rw [if_pos qp] at hQ
    simp only [ej, nn_of (show j < 40 by omega)] at hQ
    have hx := hit j hj
    have bad : ∀ z7 z8 r', (¬ (inB (it j) 0 (n : Int) = true ∧ dn < en)) → Wp d 270 26 [some (.ref 59), some (.int (Int32.ofNat s)), some (.int (w)), some (.int (Int32.ofNat N)), some (.int (-4)), some (.int (r')), some (.int (Int32.ofNat i + 1)), z7, z8] [] h Q := fun z7 z8 r' no => by
      rw [if_neg no] at hQ
      rw [ii]
      exact t_mwx4 hw hs (by omega) ⟨fun _ => t_mwe4 hw hs hk (by omega) (fun k f e => hQ k (toM f) e), fun _ => t_mwe4 hw hs hk (by omega) (fun k f e => hQ k (toM f) e)⟩
    by_cases hlt : dn < en
    · rcases qx : inB (it j) 0 (n : Int) with _ | _
      · exact t_mw2 hw hs hz h39 (by omega) ge qp (by omega) ej rfl hk (by rw [hx]; exact qx) hlt (by omega) (bad _ _ _ (fun z => by rw [qx] at z; exact absurd z.1 (by decide)))
      · rw [if_pos ⟨qx, hlt⟩] at hQ
        refine t_mw4 hw hs hz h39 (by omega) ge qp (by omega) ej rfl hk (by rw [hx]; exact qx) hlt (by rw [hx]; exact ok_x hk.1.2.1.1 qx) hd ?_
        rw [hx]
        intro k f g e2
        rw [ii]
        exact ih (i + 1) _ _ _ _ _ k (by omega) (f.wf hw (fun z => z)) (hk.next f (by unfold pM; decide) g e2) (by rw [f.2.2.1 69 (Or.inl (by unfold pM; omega))]; exact h39) (fun j hj => by rw [f.2.1]; exact hit j hj) (fun H fH eH => hQ H (f.trans fH) eH)
    · exact t_mw3 hw hs hz h39 (by omega) ge qp (by omega) ej rfl hk hlt (by omega) (bad _ _ _ (fun z => hlt z.2))
theorem J_would {h : KH} (hi : Inv h) (v w m : Int32) : JI h 153 [.ref 0, .int v, .int w, .int m] 270 [.ref 59, .int v, .int w, .int m] := by
  have hw := hi.1
  obtain ⟨_, ⟨A, RL, n, c, dn, en, RP, hb, hr⟩, ho, hf⟩ := id hi
  rcases hq : inB v 0 3 with _ | _
  · exact JI_same (dc := 3) (dm := 4) hi (t_cwb0 hw hq (Nat.le_refl _) rfl) (t_mwb0 hw hq (Nat.le_refl _) rfl)
  obtain ⟨s, hs0, rfl⟩ := inB_nat (b := 3) hq
  have hs : s < 4 := by omega
  rcases hm : inB m 0 20 with _ | _
  · have nm : ¬ (0 ≤ m.toInt ∧ m.toInt ≤ 20) := of_decide_eq_false hm
    by_cases m0 : m < 0
    · exact JI_same (dc := 3) (dm := 4) hi (t_cwb1 (so := 0) hw hs hq m0 (Nat.le_refl _) rfl) (t_mwb1 (so := 0) hw hs hq hm (Nat.le_refl _) rfl)
    · have m1 : ¬ (m ≤ 20) := fun c => by
        have a1 := i32F (rfl : m.toInt = m.toInt) (show (0 : Int32).toInt = 0 from rfl) m0
        have a2 := i32L (rfl : m.toInt = m.toInt) (show (20 : Int32).toInt = 20 from rfl) c
        omega
      exact JI_same (dc := 3) (dm := 4) hi (t_cwb2 (so := 0) hw hs hq m0 m1 (Nat.le_refl _) rfl) (t_mwb1 (so := 0) hw hs hq hm (Nat.le_refl _) rfl)
  obtain ⟨N, hN, rfl⟩ := inB_nat (b := 20) hm
  have m0 : ¬ (Int32.ofNat N < 0) := nlt (by omega)
  have m1 : Int32.ofNat N ≤ 20 := (nle (b := 20) (by omega) (by omega)).mpr hN
  obtain ⟨s1, s2, s3, z, hz, s4, s5⟩ := ho.2.2.2.1 s hs
  obtain ⟨so, eso⟩ : ∃ so, h.2.2.1 38 s = so := ⟨_, rfl⟩
  have h68 := s1.symm
  have h69 := s2.symm.trans s4
  rw [eso] at h68 s3
  have sr := so_rng s3
  by_cases e1 : so = -1
  · have g : ¬ (0 ≤ so) := by rw [e1]; decide
    exact JI_same (dc := 3) (dm := 4) hi (t_cwb3 hw hs eso hq m0 m1 e1 (Nat.le_refl _) rfl) (t_mwb2 hw hs hq h68 hm g (Nat.le_refl _) rfl)
  have : so.toInt ≠ -1 := fun z => e1 (eqm1 z)
  have g : 0 ≤ so := (Int32.le_iff_toInt_le).mpr (show 0 ≤ so.toInt by omega)
  by_cases e2 : so = 0
  · refine JI_quiet (dc := 6) (dm := 7) (v := wbR z (h.2.2.1 (41 + s)) RL n en w N 0 A dn 0) hi ?_ (fun k hik q => ?_)
    · refine t_cwb5 hw hs eso hq m0 m1 e1 e2 (by decide) (fun k f a1 a2 a3 => ?_)
      have kw : WF k := f.wf hw (by decide)
      exact s_cwbL hs hN hz (by decide) N 0 A dn 0 none k (Nat.zero_add N) kw (city_fr hb.1 f (by unfold pC; decide) (by unfold pC; decide) (by decide)) (copy_ok hb.1 f a1 a2) (by rw [f.2.2.1 39 (Or.inl (by unfold pC; decide))]; exact s4) (fun j _ => by rw [f.2.2.1 (41 + s) (Or.inl (by unfold pC; omega))]) (fun H fH => qu_i ((Q7r f).trans (Q7 fH)))
    · have kw := hik.1
      have fk := q.mild
      have hk := q.m hb.2
      refine t_mwb4 kw hs hq (by rw [fk.c (c := 68) (by omega)]; exact h68) hm g e2 hk (by decide) (fun k1 f1 g1 => ?_)
      exact s_mwbL hs hN hz (by decide) N 0 A dn 0 none none k1 (Nat.zero_add N) (f1.wf kw (fun z => z)) g1 (by rw [f1.2.2.1 69 (Or.inl (by decide)), fk.c (c := 69) (by omega)]; exact h69) (fun j hj => by rw [f1.2.1, fk.1.2.1]; exact s5 j hj) (fun H fH eH => qu_i (quiet_m ((Fr62 f1).trans (FrM fH)) eH))
  · exact JI_same (dc := 3) (dm := 4) hi (t_cwb4 hw hs eso hq m0 m1 e1 e2 (Nat.le_refl _) rfl) (t_mwb3 hw hs hq h68 hm g e2 (Nat.le_refl _) rfl)
