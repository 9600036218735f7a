/-! KM: both sides: shelf, taken -/
set_option maxHeartbeats 4000000 in
theorem t_layS {d : Nat} {Q : KO → Prop} {h : KH} (hw : WF h) {s : Nat} {a b c : Int32} (hs : s < 4) (hd : 0 ≤ d) (hQ : Q (some (.int (1)), kwi (kwi (kwi h 45 s a) 46 s b) 47 s c)) : Cl d 159 [.ref 0, .int (Int32.ofNat s), .int (a), .int (b), .int (c)] h Q := by
  refine Cl.of (ls := [some (.ref 0), some (.int (Int32.ofNat s)), some (.int (a)), some (.int (b)), some (.int (c))]) rfl rfl ?_
  refine Wp.seg 1 (pc1 := 1) (ls1 := [some (.ref 0), some (.int (Int32.ofNat s)), some (.int (a)), some (.int (b)), some (.int (c))]) (st1 := [.ref 0]) rfl ?_
  refine Wp.gr (t := (10, 0)) (v := some (45)) rfl (WF.t hw 0 rfl) rfl (WF.r hw 0 11 9 rfl) ?_
  show Wp d 159 4 [some (.ref 0), some (.int (Int32.ofNat s)), some (.int (a)), some (.int (b)), some (.int (c))] [.ref 45] h Q
  refine Wp.seg 2 (pc1 := 6) (ls1 := [some (.ref 0), some (.int (Int32.ofNat s)), some (.int (a)), some (.int (b)), some (.int (c))]) (st1 := [.int (a), .int (Int32.ofNat s), .ref 45]) rfl ?_
  refine Wp.iast (j := s) (n := 4) rfl (WF.t hw 45 rfl) rfl hs (by decide) ?_
  refine Wp.seg 1 (pc1 := 8) (ls1 := [some (.ref 0), some (.int (Int32.ofNat s)), some (.int (a)), some (.int (b)), some (.int (c))]) (st1 := [.ref 0]) rfl ?_
  refine Wp.gr (t := (10, 0)) (v := some (46)) rfl (WF.t hw 0 rfl) rfl (WF.r hw 0 12 10 rfl) ?_
  show Wp d 159 11 [some (.ref 0), some (.int (Int32.ofNat s)), some (.int (a)), some (.int (b)), some (.int (c))] [.ref 46] (kwi h 45 s a) Q
  refine Wp.seg 2 (pc1 := 13) (ls1 := [some (.ref 0), some (.int (Int32.ofNat s)), some (.int (a)), some (.int (b)), some (.int (c))]) (st1 := [.int (b), .int (Int32.ofNat s), .ref 46]) rfl ?_
  refine Wp.iast (j := s) (n := 4) rfl (WF.t hw 46 rfl) rfl hs (by decide) ?_
  refine Wp.seg 1 (pc1 := 15) (ls1 := [some (.ref 0), some (.int (Int32.ofNat s)), some (.int (a)), some (.int (b)), some (.int (c))]) (st1 := [.ref 0]) rfl ?_
  refine Wp.gr (t := (10, 0)) (v := some (47)) rfl (WF.t hw 0 rfl) rfl (WF.r hw 0 13 11 rfl) ?_
  show Wp d 159 18 [some (.ref 0), some (.int (Int32.ofNat s)), some (.int (a)), some (.int (b)), some (.int (c))] [.ref 47] (kwi (kwi h 45 s a) 46 s b) Q
  refine Wp.seg 2 (pc1 := 21) (ls1 := [some (.ref 0), some (.int (Int32.ofNat s)), some (.int (a)), some (.int (b)), some (.int (c))]) (st1 := [.int (c), .int (Int32.ofNat s), .ref 47]) rfl ?_
  refine Wp.iast (j := s) (n := 4) rfl (WF.t hw 47 rfl) rfl hs (by decide) ?_
  refine Wp.seg 1 (pc1 := 23) (ls1 := [some (.ref 0), some (.int (Int32.ofNat s)), some (.int (a)), some (.int (b)), some (.int (c))]) (st1 := [.int (1)]) rfl ?_
  exact Wp.reti rfl rfl hQ
set_option maxHeartbeats 4000000 in
theorem t_lrow1 {d : Nat} {Q : KO → Prop} {h : KH} (hw : WF h) {s : Nat} (hs : s < 4) {t : Nat} (ht : t < 4) {so sz : Int32} (h38 : h.2.2.1 38 t = so) (h39 : h.2.2.1 39 t = sz) (e1 : so = -1) (hd : 1 ≤ d) (hQ : Q (some (.int (1)), kwi (kwi (kwi h 45 s (2 : Int32)) 46 s (0 : Int32)) 47 s (0 : Int32))) : Cl d 158 [.ref 0, .int (Int32.ofNat s), .int (Int32.ofNat t)] h Q := by
  refine Cl.of (ls := [some (.ref 0), some (.int (Int32.ofNat s)), some (.int (Int32.ofNat t))]) rfl rfl ?_
  refine Wp.seg 1 (pc1 := 1) (ls1 := [some (.ref 0), some (.int (Int32.ofNat s)), some (.int (Int32.ofNat t))]) (st1 := [.ref 0]) rfl ?_
  refine Wp.gr (t := (10, 0)) (v := some (38)) rfl (WF.t hw 0 rfl) rfl (WF.r hw 0 8 6 rfl) ?_
  show Wp d 158 4 [some (.ref 0), some (.int (Int32.ofNat s)), some (.int (Int32.ofNat t))] [.ref 38] h Q
  refine Wp.seg 1 (pc1 := 5) (ls1 := [some (.ref 0), some (.int (Int32.ofNat s)), some (.int (Int32.ofNat t))]) (st1 := [.int (Int32.ofNat t), .ref 38]) rfl ?_
  refine Wp.iald (j := t) (k := 20) (n := 4) rfl (WF.t hw 38 rfl) rfl rfl ht (by decide) ?_
  rw [show h.2.2.1 38 t = so from h38]
  refine Wp.seg 1 (pc1 := 7) (ls1 := [some (.ref 0), some (.int (Int32.ofNat s)), some (.int (Int32.ofNat t))]) (st1 := [.int (-1), .int (so)]) rfl ?_
  refine Wp.if2 rfl (fun c1 => absurd c1 (fun z => z e1)) (fun c1 => ?_)
  refine Wp.seg 5 (pc1 := 15) (ls1 := [some (.ref 0), some (.int (Int32.ofNat s)), some (.int (Int32.ofNat t))]) (st1 := [.int (0), .int (0), .int (2), .int (Int32.ofNat s), .ref 0]) rfl ?_
  refine Wp.invV (d2 := 0) (as := [.ref 0, .int (Int32.ofNat s), .int (2), .int (0), .int (0)]) (r := []) (t := (10, 0)) rfl rfl rfl rfl (WF.t hw 0 rfl) rfl rfl ⟨rfl, rfl⟩ (by omega) (t_layS hw hs (Nat.zero_le _) ?_)
  show Wp d 158 18 [some (.ref 0), some (.int (Int32.ofNat s)), some (.int (Int32.ofNat t))] [.int (1)] (kwi (kwi (kwi h 45 s (2 : Int32)) 46 s (0 : Int32)) 47 s (0 : Int32)) Q
  refine Wp.seg 1 (pc1 := 39) (ls1 := [some (.ref 0), some (.int (Int32.ofNat s)), some (.int (Int32.ofNat t))]) (st1 := [.int (1)]) rfl ?_
  exact Wp.reti rfl rfl hQ
set_option maxHeartbeats 4000000 in
theorem t_lrow2 {d : Nat} {Q : KO → Prop} {h : KH} (hw : WF h) {s : Nat} (hs : s < 4) {t : Nat} (ht : t < 4) {so sz : Int32} (h38 : h.2.2.1 38 t = so) (h39 : h.2.2.1 39 t = sz) (e1 : ¬ (so = -1)) (hd : 1 ≤ d) (hQ : Q (some (.int (1)), kwi (kwi (kwi h 45 s (1 : Int32)) 46 s so) 47 s sz)) : Cl d 158 [.ref 0, .int (Int32.ofNat s), .int (Int32.ofNat t)] h Q := by
  refine Cl.of (ls := [some (.ref 0), some (.int (Int32.ofNat s)), some (.int (Int32.ofNat t))]) rfl rfl ?_
  refine Wp.seg 1 (pc1 := 1) (ls1 := [some (.ref 0), some (.int (Int32.ofNat s)), some (.int (Int32.ofNat t))]) (st1 := [.ref 0]) rfl ?_
  refine Wp.gr (t := (10, 0)) (v := some (38)) rfl (WF.t hw 0 rfl) rfl (WF.r hw 0 8 6 rfl) ?_
  show Wp d 158 4 [some (.ref 0), some (.int (Int32.ofNat s)), some (.int (Int32.ofNat t))] [.ref 38] h Q
  refine Wp.seg 1 (pc1 := 5) (ls1 := [some (.ref 0), some (.int (Int32.ofNat s)), some (.int (Int32.ofNat t))]) (st1 := [.int (Int32.ofNat t), .ref 38]) rfl ?_
  refine Wp.iald (j := t) (k := 20) (n := 4) rfl (WF.t hw 38 rfl) rfl rfl ht (by decide) ?_
  rw [show h.2.2.1 38 t = so from h38]
  refine Wp.seg 1 (pc1 := 7) (ls1 := [some (.ref 0), some (.int (Int32.ofNat s)), some (.int (Int32.ofNat t))]) (st1 := [.int (-1), .int (so)]) rfl ?_
  refine Wp.if2 rfl (fun c1 => ?_) (fun c1 => absurd (e1) c1)
  refine Wp.seg 4 (pc1 := 25) (ls1 := [some (.ref 0), some (.int (Int32.ofNat s)), some (.int (Int32.ofNat t))]) (st1 := [.ref 0, .int (1), .int (Int32.ofNat s), .ref 0]) rfl ?_
  refine Wp.gr (t := (10, 0)) (v := some (38)) rfl (WF.t hw 0 rfl) rfl (WF.r hw 0 8 6 rfl) ?_
  show Wp d 158 28 [some (.ref 0), some (.int (Int32.ofNat s)), some (.int (Int32.ofNat t))] [.ref 38, .int (1), .int (Int32.ofNat s), .ref 0] h Q
  refine Wp.seg 1 (pc1 := 29) (ls1 := [some (.ref 0), some (.int (Int32.ofNat s)), some (.int (Int32.ofNat t))]) (st1 := [.int (Int32.ofNat t), .ref 38, .int (1), .int (Int32.ofNat s), .ref 0]) rfl ?_
  refine Wp.iald (j := t) (k := 20) (n := 4) rfl (WF.t hw 38 rfl) rfl rfl ht (by decide) ?_
  rw [show h.2.2.1 38 t = so from h38]
  refine Wp.seg 1 (pc1 := 31) (ls1 := [some (.ref 0), some (.int (Int32.ofNat s)), some (.int (Int32.ofNat t))]) (st1 := [.ref 0, .int (so), .int (1), .int (Int32.ofNat s), .ref 0]) rfl ?_
  refine Wp.gr (t := (10, 0)) (v := some (39)) rfl (WF.t hw 0 rfl) rfl (WF.r hw 0 9 7 rfl) ?_
  show Wp d 158 34 [some (.ref 0), some (.int (Int32.ofNat s)), some (.int (Int32.ofNat t))] [.ref 39, .int (so), .int (1), .int (Int32.ofNat s), .ref 0] h Q
  refine Wp.seg 1 (pc1 := 35) (ls1 := [some (.ref 0), some (.int (Int32.ofNat s)), some (.int (Int32.ofNat t))]) (st1 := [.int (Int32.ofNat t), .ref 39, .int (so), .int (1), .int (Int32.ofNat s), .ref 0]) rfl ?_
  refine Wp.iald (j := t) (k := 20) (n := 4) rfl (WF.t hw 39 rfl) rfl rfl ht (by decide) ?_
  rw [show h.2.2.1 39 t = sz from h39]
  refine Wp.invV (d2 := 0) (as := [.ref 0, .int (Int32.ofNat s), .int (1), .int (so), .int (sz)]) (r := []) (t := (10, 0)) rfl rfl rfl rfl (WF.t hw 0 rfl) rfl rfl ⟨rfl, rfl⟩ (by omega) (t_layS hw hs (Nat.zero_le _) ?_)
  show Wp d 158 39 [some (.ref 0), some (.int (Int32.ofNat s)), some (.int (Int32.ofNat t))] [.int (1)] (kwi (kwi (kwi h 45 s (1 : Int32)) 46 s so) 47 s sz) Q
  exact Wp.reti rfl rfl hQ
set_option maxHeartbeats 4000000 in
theorem t_csf0 {d : Nat} {Q : KO → Prop} {h : KH} (hw : WF h) {v w x : Int32} (q : inB v 0 3 = false) (hd : 3 ≤ d) (hQ : Q (some (.int (-1)), h)) : Cl d 157 [.ref 0, .int (v), .int (w), .int (x)] h Q := by
  refine Cl.of (ls := [some (.ref 0), some (.int (v)), some (.int (w)), some (.int (x))]) rfl rfl ?_
  refine Wp.seg 1 (pc1 := 1) (ls1 := [some (.ref 0), some (.int (v)), some (.int (w)), some (.int (x))]) (st1 := [.int (v)]) rfl ?_
  refine Wp.inv (d2 := 0) (as := [.int (v)]) (r := []) rfl rfl rfl rfl rfl rfl (by omega) (s_b164 ?_)
  show Wp d 157 4 [some (.ref 0), some (.int (v)), some (.int (w)), some (.int (x))] [.int (b32 (inB v 0 3))] h Q
  refine Wp.ifnz rfl (fun c1 => absurd (c1.symm.trans (q)) (by decide)) (fun c1 => ?_)
  refine Wp.seg 1 (pc1 := 8) (ls1 := [some (.ref 0), some (.int (v)), some (.int (w)), some (.int (x))]) (st1 := [.int (-1)]) rfl ?_
  exact Wp.reti rfl rfl hQ
set_option maxHeartbeats 4000000 in
theorem t_msf0 {d : Nat} {Q : KO → Prop} {h : KH} (hw : WF h) {v w x : Int32} (q : inB v 0 3 = false) (hd : 3 ≤ d) (hQ : Q (some (.int (-1)), h)) : Cl d 271 [.ref 59, .int (v), .int (w), .int (x)] h Q := by
  refine Cl.of (ls := [some (.ref 59), some (.int (v)), some (.int (w)), some (.int (x)), none]) rfl rfl ?_
  refine Wp.seg 1 (pc1 := 1) (ls1 := [some (.ref 59), some (.int (v)), some (.int (w)), some (.int (x)), none]) (st1 := [.int (v)]) rfl ?_
  refine Wp.inv (d2 := 1) (as := [.int (v)]) (r := []) rfl rfl rfl rfl rfl rfl (by omega) (s_b177 (Nat.le_refl _) ?_)
  show Wp d 271 4 [some (.ref 59), some (.int (v)), some (.int (w)), some (.int (x)), none] [.int (b32 (inB v 0 3))] h Q
  refine Wp.ifz rfl (fun c1 => ?_) (fun c1 => absurd (c1.symm.trans (q)) (by decide))
  refine Wp.seg 1 (pc1 := 41) (ls1 := [some (.ref 59), some (.int (v)), some (.int (w)), some (.int (x)), none]) (st1 := [.int (-1)]) rfl ?_
  exact Wp.reti rfl rfl hQ
set_option maxHeartbeats 4000000 in
theorem t_csf1 {d : Nat} {Q : KO → Prop} {h : KH} (hw : WF h) {s : Nat} (hs : s < 4) (qs : inB (Int32.ofNat s) 0 3 = true) {w x : Int32} (w0 : ¬ (w = 0)) (w1 : ¬ (w = 1)) (w2 : ¬ (w = 2)) (hd : 3 ≤ d) (hQ : Q (some (.int (-1)), h)) : Cl d 157 [.ref 0, .int (Int32.ofNat s), .int (w), .int (x)] h Q := by
  refine Cl.of (ls := [some (.ref 0), some (.int (Int32.ofNat s)), some (.int (w)), some (.int (x))]) rfl rfl ?_
  refine Wp.seg 1 (pc1 := 1) (ls1 := [some (.ref 0), some (.int (Int32.ofNat s)), some (.int (w)), some (.int (x))]) (st1 := [.int (Int32.ofNat s)]) rfl ?_
  refine Wp.inv (d2 := 0) (as := [.int (Int32.ofNat s)]) (r := []) rfl rfl rfl rfl rfl rfl (by omega) (s_b164 ?_)
  show Wp d 157 4 [some (.ref 0), some (.int (Int32.ofNat s)), some (.int (w)), some (.int (x))] [.int (b32 (inB (Int32.ofNat s) 0 3))] h Q
  refine Wp.ifnz rfl (fun c1 => ?_) (fun c1 => absurd (c1.symm.trans (qs)) (by decide))
  refine Wp.seg 1 (pc1 := 10) (ls1 := [some (.ref 0), some (.int (Int32.ofNat s)), some (.int (w)), some (.int (x))]) (st1 := [.int (w)]) rfl ?_
  refine Wp.tsw rfl ?_
  refine ⟨fun c2 => absurd c2 (w0), fun c2 => ?_⟩
  refine ⟨fun c3 => absurd c3 (w1), fun c3 => ?_⟩
  refine ⟨fun c4 => absurd c4 (w2), fun c4 => ?_⟩
  show Wp d 157 84 [some (.ref 0), some (.int (Int32.ofNat s)), some (.int (w)), some (.int (x))] [] h Q
  refine Wp.seg 1 (pc1 := 85) (ls1 := [some (.ref 0), some (.int (Int32.ofNat s)), some (.int (w)), some (.int (x))]) (st1 := [.int (-1)]) rfl ?_
  exact Wp.reti rfl rfl hQ
set_option maxHeartbeats 4000000 in
theorem t_msf1 {d : Nat} {Q : KO → Prop} {h : KH} (hw : WF h) {s : Nat} (hs : s < 4) (qs : inB (Int32.ofNat s) 0 3 = true) {w x : Int32} (qw : inB w 0 2 = false) (hd : 3 ≤ d) (hQ : Q (some (.int (-1)), h)) : Cl d 271 [.ref 59, .int (Int32.ofNat s), .int (w), .int (x)] h Q := by
  refine Cl.of (ls := [some (.ref 59), some (.int (Int32.ofNat s)), some (.int (w)), some (.int (x)), none]) rfl rfl ?_
  refine Wp.seg 1 (pc1 := 1) (ls1 := [some (.ref 59), some (.int (Int32.ofNat s)), some (.int (w)), some (.int (x)), none]) (st1 := [.int (Int32.ofNat s)]) rfl ?_
  refine Wp.inv (d2 := 1) (as := [.int (Int32.ofNat s)]) (r := []) rfl rfl rfl rfl rfl rfl (by omega) (s_b177 (Nat.le_refl _) ?_)
  show Wp d 271 4 [some (.ref 59), some (.int (Int32.ofNat s)), some (.int (w)), some (.int (x)), none] [.int (b32 (inB (Int32.ofNat s) 0 3))] h Q
  refine Wp.ifz rfl (fun c1 => absurd (c1.symm.trans (qs)) (by decide)) (fun c1 => ?_)
  refine Wp.seg 3 (pc1 := 10) (ls1 := [some (.ref 59), some (.int (Int32.ofNat s)), some (.int (w)), some (.int (x)), none]) (st1 := [.int (2), .int (0), .int (w)]) rfl ?_
  refine Wp.inv (d2 := 0) (as := [.int (w), .int (0), .int (2)]) (r := []) rfl rfl rfl rfl rfl rfl (by omega) (s_inB (x := 0) (y := 2) rfl rfl ?_)
  show Wp d 271 13 [some (.ref 59), some (.int (Int32.ofNat s)), some (.int (w)), some (.int (x)), none] [.int (b32 (inB w 0 2))] h Q
  refine Wp.ifz rfl (fun c2 => ?_) (fun c2 => absurd (c2.symm.trans (qw)) (by decide))
  refine Wp.seg 1 (pc1 := 41) (ls1 := [some (.ref 59), some (.int (Int32.ofNat s)), some (.int (w)), some (.int (x)), none]) (st1 := [.int (-1)]) rfl ?_
  exact Wp.reti rfl rfl hQ
set_option maxHeartbeats 4000000 in
theorem t_csf2 {d : Nat} {Q : KO → Prop} {h : KH} (hw : WF h) {s : Nat} (hs : s < 4) (qs : inB (Int32.ofNat s) 0 3 = true) {x : Int32} {A : Nat → Int32} {RL : List Rul} {n c dn en : Nat} (hk : cityOK h 1 A RL n c dn en) (qx : inB x 0 ((n : Int) - 1) = false) (hd : 3 ≤ d) (hQ : Q (some (.int (-1)), h)) : Cl d 157 [.ref 0, .int (Int32.ofNat s), .int (0), .int (x)] h Q := by
  refine Cl.of (ls := [some (.ref 0), some (.int (Int32.ofNat s)), some (.int (0)), some (.int (x))]) rfl rfl ?_
  refine Wp.seg 1 (pc1 := 1) (ls1 := [some (.ref 0), some (.int (Int32.ofNat s)), some (.int (0)), some (.int (x))]) (st1 := [.int (Int32.ofNat s)]) rfl ?_
  refine Wp.inv (d2 := 0) (as := [.int (Int32.ofNat s)]) (r := []) rfl rfl rfl rfl rfl rfl (by omega) (s_b164 ?_)
  show Wp d 157 4 [some (.ref 0), some (.int (Int32.ofNat s)), some (.int (0)), some (.int (x))] [.int (b32 (inB (Int32.ofNat s) 0 3))] h Q
  refine Wp.ifnz rfl (fun c1 => ?_) (fun c1 => absurd (c1.symm.trans (qs)) (by decide))
  refine Wp.seg 1 (pc1 := 10) (ls1 := [some (.ref 0), some (.int (Int32.ofNat s)), some (.int (0)), some (.int (x))]) (st1 := [.int (0)]) rfl ?_
  refine Wp.br (pc1 := 36) (st1 := []) rfl rfl ?_
  refine Wp.seg 2 (pc1 := 38) (ls1 := [some (.ref 0), some (.int (Int32.ofNat s)), some (.int (0)), some (.int (x))]) (st1 := [.int (x), .ref 0]) rfl ?_
  refine Wp.invV (d2 := 0) (as := [.ref 0, .int (x)]) (r := []) (t := (10, 0)) rfl rfl rfl rfl (WF.t hw 0 rfl) rfl rfl ⟨rfl, rfl⟩ (by omega) (s_hand hw hk ?_)
  show Wp d 157 41 [some (.ref 0), some (.int (Int32.ofNat s)), some (.int (0)), some (.int (x))] [.int (b32 (inB x 0 ((n : Int) - 1)))] h Q
  refine Wp.ifz rfl (fun c2 => ?_) (fun c2 => absurd (c2.symm.trans (qx)) (by decide))
  refine Wp.seg 1 (pc1 := 56) (ls1 := [some (.ref 0), some (.int (Int32.ofNat s)), some (.int (0)), some (.int (x))]) (st1 := [.int (-1)]) rfl ?_
  exact Wp.reti rfl rfl hQ
set_option maxHeartbeats 4000000 in
theorem t_msf2 {d : Nat} {Q : KO → Prop} {h : KH} (hw : WF h) {s : Nat} (hs : s < 4) (qs : inB (Int32.ofNat s) 0 3 = true) {x : Int32} {A : Nat → Int32} {RL : List Rul} {n c dn en : Nat} (hk : refOK h A RL n c dn en) (qx : inB x 0 ((n : Int) - 1) = false) (hd : 3 ≤ d) (hQ : Q (some (.int (-1)), h)) : Cl d 271 [.ref 59, .int (Int32.ofNat s), .int (0), .int (x)] h Q := by
  refine Cl.of (ls := [some (.ref 59), some (.int (Int32.ofNat s)), some (.int (0)), some (.int (x)), none]) rfl rfl ?_
  refine Wp.seg 1 (pc1 := 1) (ls1 := [some (.ref 59), some (.int (Int32.ofNat s)), some (.int (0)), some (.int (x)), none]) (st1 := [.int (Int32.ofNat s)]) rfl ?_
  refine Wp.inv (d2 := 1) (as := [.int (Int32.ofNat s)]) (r := []) rfl rfl rfl rfl rfl rfl (by omega) (s_b177 (Nat.le_refl _) ?_)
  show Wp d 271 4 [some (.ref 59), some (.int (Int32.ofNat s)), some (.int (0)), some (.int (x)), none] [.int (b32 (inB (Int32.ofNat s) 0 3))] h Q
  refine Wp.ifz rfl (fun c1 => absurd (c1.symm.trans (qs)) (by decide)) (fun c1 => ?_)
  refine Wp.seg 3 (pc1 := 10) (ls1 := [some (.ref 59), some (.int (Int32.ofNat s)), some (.int (0)), some (.int (x)), none]) (st1 := [.int (2), .int (0), .int (0)]) rfl ?_
  refine Wp.inv (d2 := 0) (as := [.int (0), .int (0), .int (2)]) (r := []) rfl rfl rfl rfl rfl rfl (by omega) (s_inB (x := 0) (y := 2) rfl rfl ?_)
  show Wp d 271 13 [some (.ref 59), some (.int (Int32.ofNat s)), some (.int (0)), some (.int (x)), none] [.int (b32 (inB (0 : Int32) 0 2))] h Q
  refine Wp.ifz rfl (fun c2 => absurd (c2.symm.trans (rfl)) (by decide)) (fun c2 => ?_)
  refine Wp.seg 1 (pc1 := 17) (ls1 := [some (.ref 59), some (.int (Int32.ofNat s)), some (.int (0)), some (.int (x)), none]) (st1 := [.int (0)]) rfl ?_
  refine Wp.if1 rfl (fun c3 => absurd c3 (show ¬ (¬ (0 : Int32) = 0) by decide)) (fun c3 => ?_)
  refine Wp.seg 2 (pc1 := 22) (ls1 := [some (.ref 59), some (.int (Int32.ofNat s)), some (.int (0)), some (.int (x)), none]) (st1 := [.int (x), .ref 59]) rfl ?_
  refine Wp.invV (d2 := 1) (as := [.ref 59, .int (x)]) (r := []) (t := (11, 0)) rfl rfl rfl rfl (WF.t hw 59 rfl) rfl rfl ⟨rfl, rfl⟩ (by omega) (m_hand hw hk (Nat.le_refl _) ?_)
  show Wp d 271 25 [some (.ref 59), some (.int (Int32.ofNat s)), some (.int (0)), some (.int (x)), none] [.int (b32 (inB x 0 ((n : Int) - 1)))] h Q
  refine Wp.ifz rfl (fun c4 => ?_) (fun c4 => absurd (c4.symm.trans (qx)) (by decide))
  refine Wp.seg 1 (pc1 := 41) (ls1 := [some (.ref 59), some (.int (Int32.ofNat s)), some (.int (0)), some (.int (x)), none]) (st1 := [.int (-1)]) rfl ?_
  exact Wp.reti rfl rfl hQ
set_option maxHeartbeats 4000000 in
theorem t_csf3 {d : Nat} {Q : KO → Prop} {h : KH} (hw : WF h) {s : Nat} (hs : s < 4) (qs : inB (Int32.ofNat s) 0 3 = true) {x : Int32} {A : Nat → Int32} {RL : List Rul} {n c dn en : Nat} (hk : cityOK h 1 A RL n c dn en) (qx : inB x 0 ((n : Int) - 1) = true) (hd : 3 ≤ d) (hQ : Q (some (.int (1)), kwi (kwi (kwi h 45 s (0 : Int32)) 46 s x) 47 s (0 : Int32))) : Cl d 157 [.ref 0, .int (Int32.ofNat s), .int (0), .int (x)] h Q := by
  refine Cl.of (ls := [some (.ref 0), some (.int (Int32.ofNat s)), some (.int (0)), some (.int (x))]) rfl rfl ?_
  refine Wp.seg 1 (pc1 := 1) (ls1 := [some (.ref 0), some (.int (Int32.ofNat s)), some (.int (0)), some (.int (x))]) (st1 := [.int (Int32.ofNat s)]) rfl ?_
  refine Wp.inv (d2 := 0) (as := [.int (Int32.ofNat s)]) (r := []) rfl rfl rfl rfl rfl rfl (by omega) (s_b164 ?_)
  show Wp d 157 4 [some (.ref 0), some (.int (Int32.ofNat s)), some (.int (0)), some (.int (x))] [.int (b32 (inB (Int32.ofNat s) 0 3))] h Q
  refine Wp.ifnz rfl (fun c1 => ?_) (fun c1 => absurd (c1.symm.trans (qs)) (by decide))
  refine Wp.seg 1 (pc1 := 10) (ls1 := [some (.ref 0), some (.int (Int32.ofNat s)), some (.int (0)), some (.int (x))]) (st1 := [.int (0)]) rfl ?_
  refine Wp.br (pc1 := 36) (st1 := []) rfl rfl ?_
  refine Wp.seg 2 (pc1 := 38) (ls1 := [some (.ref 0), some (.int (Int32.ofNat s)), some (.int (0)), some (.int (x))]) (st1 := [.int (x), .ref 0]) rfl ?_
  refine Wp.invV (d2 := 0) (as := [.ref 0, .int (x)]) (r := []) (t := (10, 0)) rfl rfl rfl rfl (WF.t hw 0 rfl) rfl rfl ⟨rfl, rfl⟩ (by omega) (s_hand hw hk ?_)
  show Wp d 157 41 [some (.ref 0), some (.int (Int32.ofNat s)), some (.int (0)), some (.int (x))] [.int (b32 (inB x 0 ((n : Int) - 1)))] h Q
  refine Wp.ifz rfl (fun c2 => absurd (c2.symm.trans (qx)) (by decide)) (fun c2 => ?_)
  refine Wp.seg 5 (pc1 := 49) (ls1 := [some (.ref 0), some (.int (Int32.ofNat s)), some (.int (0)), some (.int (x))]) (st1 := [.int (0), .int (x), .int (0), .int (Int32.ofNat s), .ref 0]) rfl ?_
  refine Wp.invV (d2 := 0) (as := [.ref 0, .int (Int32.ofNat s), .int (0), .int (x), .int (0)]) (r := []) (t := (10, 0)) rfl rfl rfl rfl (WF.t hw 0 rfl) rfl rfl ⟨rfl, rfl⟩ (by omega) (t_layS hw hs (Nat.zero_le _) ?_)
  show Wp d 157 52 [some (.ref 0), some (.int (Int32.ofNat s)), some (.int (0)), some (.int (x))] [.int (1)] (kwi (kwi (kwi h 45 s (0 : Int32)) 46 s x) 47 s (0 : Int32)) Q
  refine Wp.seg 1 (pc1 := 56) (ls1 := [some (.ref 0), some (.int (Int32.ofNat s)), some (.int (0)), some (.int (x))]) (st1 := [.int (1)]) rfl ?_
  exact Wp.reti rfl rfl hQ
set_option maxHeartbeats 4000000 in
theorem t_msf3 {d : Nat} {Q : KO → Prop} {h : KH} (hw : WF h) {s : Nat} (hs : s < 4) (qs : inB (Int32.ofNat s) 0 3 = true) {x : Int32} {A : Nat → Int32} {RL : List Rul} {n c dn en : Nat} (hk : refOK h A RL n c dn en) (qx : inB x 0 ((n : Int) - 1) = true) (hd : 3 ≤ d) (hQ : Q (some (.int (1)), kwi (kwi (kwi h 71 s (0 : Int32)) 72 s x) 73 s (0 : Int32))) : Cl d 271 [.ref 59, .int (Int32.ofNat s), .int (0), .int (x)] h Q := by
  refine Cl.of (ls := [some (.ref 59), some (.int (Int32.ofNat s)), some (.int (0)), some (.int (x)), none]) rfl rfl ?_
  refine Wp.seg 1 (pc1 := 1) (ls1 := [some (.ref 59), some (.int (Int32.ofNat s)), some (.int (0)), some (.int (x)), none]) (st1 := [.int (Int32.ofNat s)]) rfl ?_
  refine Wp.inv (d2 := 1) (as := [.int (Int32.ofNat s)]) (r := []) rfl rfl rfl rfl rfl rfl (by omega) (s_b177 (Nat.le_refl _) ?_)
  show Wp d 271 4 [some (.ref 59), some (.int (Int32.ofNat s)), some (.int (0)), some (.int (x)), none] [.int (b32 (inB (Int32.ofNat s) 0 3))] h Q
  refine Wp.ifz rfl (fun c1 => absurd (c1.symm.trans (qs)) (by decide)) (fun c1 => ?_)
  refine Wp.seg 3 (pc1 := 10) (ls1 := [some (.ref 59), some (.int (Int32.ofNat s)), some (.int (0)), some (.int (x)), none]) (st1 := [.int (2), .int (0), .int (0)]) rfl ?_
  refine Wp.inv (d2 := 0) (as := [.int (0), .int (0), .int (2)]) (r := []) rfl rfl rfl rfl rfl rfl (by omega) (s_inB (x := 0) (y := 2) rfl rfl ?_)
  show Wp d 271 13 [some (.ref 59), some (.int (Int32.ofNat s)), some (.int (0)), some (.int (x)), none] [.int (b32 (inB (0 : Int32) 0 2))] h Q
  refine Wp.ifz rfl (fun c2 => absurd (c2.symm.trans (rfl)) (by decide)) (fun c2 => ?_)
  refine Wp.seg 1 (pc1 := 17) (ls1 := [some (.ref 59), some (.int (Int32.ofNat s)), some (.int (0)), some (.int (x)), none]) (st1 := [.int (0)]) rfl ?_
  refine Wp.if1 rfl (fun c3 => absurd c3 (show ¬ (¬ (0 : Int32) = 0) by decide)) (fun c3 => ?_)
  refine Wp.seg 2 (pc1 := 22) (ls1 := [some (.ref 59), some (.int (Int32.ofNat s)), some (.int (0)), some (.int (x)), none]) (st1 := [.int (x), .ref 59]) rfl ?_
  refine Wp.invV (d2 := 1) (as := [.ref 59, .int (x)]) (r := []) (t := (11, 0)) rfl rfl rfl rfl (WF.t hw 59 rfl) rfl rfl ⟨rfl, rfl⟩ (by omega) (m_hand hw hk (Nat.le_refl _) ?_)
  show Wp d 271 25 [some (.ref 59), some (.int (Int32.ofNat s)), some (.int (0)), some (.int (x)), none] [.int (b32 (inB x 0 ((n : Int) - 1)))] h Q
  refine Wp.ifz rfl (fun c4 => absurd (c4.symm.trans (qx)) (by decide)) (fun c4 => ?_)
  refine Wp.seg 2 (pc1 := 30) (ls1 := [some (.ref 59), some (.int (Int32.ofNat s)), some (.int (0)), some (.int (x)), none]) (st1 := [.int (1), .int (0)]) rfl ?_
  refine Wp.if2 rfl (fun c5 => ?_) (fun c5 => absurd (show ¬ (0 : Int32) = (1 : Int32) by decide) c5)
  refine Wp.seg 2 (pc1 := 44) (ls1 := [some (.ref 59), some (.int (Int32.ofNat s)), some (.int (0)), some (.int (x)), none]) (st1 := [.int (1), .int (0)]) rfl ?_
  refine Wp.if2 rfl (fun c6 => ?_) (fun c6 => absurd (show ¬ (0 : Int32) = (1 : Int32) by decide) c6)
  refine Wp.seg 3 (pc1 := 64) (ls1 := [some (.ref 59), some (.int (Int32.ofNat s)), some (.int (0)), some (.int (x)), some (.int (0))]) (st1 := [.ref 59]) rfl ?_
  refine Wp.gr (t := (11, 0)) (v := some (71)) rfl (WF.t hw 59 rfl) rfl (WF.r hw 59 25 69 rfl) ?_
  show Wp d 271 67 [some (.ref 59), some (.int (Int32.ofNat s)), some (.int (0)), some (.int (x)), some (.int (0))] [.ref 71] h Q
  refine Wp.seg 3 (pc1 := 70) (ls1 := [some (.ref 59), some (.int (Int32.ofNat s)), some (.int (0)), some (.int (x)), some (.int (0))]) (st1 := [.int (1), .int (0), .int (Int32.ofNat s), .ref 71]) rfl ?_
  refine Wp.if2 rfl (fun c7 => ?_) (fun c7 => absurd (show ¬ (0 : Int32) = (1 : Int32) by decide) c7)
  refine Wp.seg 1 (pc1 := 83) (ls1 := [some (.ref 59), some (.int (Int32.ofNat s)), some (.int (0)), some (.int (x)), some (.int (0))]) (st1 := [.int (0), .int (Int32.ofNat s), .ref 71]) rfl ?_
  refine Wp.iast (j := s) (n := 4) rfl (WF.t hw 71 rfl) rfl hs (by decide) ?_
  refine Wp.seg 1 (pc1 := 85) (ls1 := [some (.ref 59), some (.int (Int32.ofNat s)), some (.int (0)), some (.int (x)), some (.int (0))]) (st1 := [.ref 59]) rfl ?_
  refine Wp.gr (t := (11, 0)) (v := some (72)) rfl (WF.t hw 59 rfl) rfl (WF.r hw 59 26 70 rfl) ?_
  show Wp d 271 88 [some (.ref 59), some (.int (Int32.ofNat s)), some (.int (0)), some (.int (x)), some (.int (0))] [.ref 72] (kwi h 71 s (0 : Int32)) Q
  refine Wp.seg 2 (pc1 := 91) (ls1 := [some (.ref 59), some (.int (Int32.ofNat s)), some (.int (0)), some (.int (x)), some (.int (0))]) (st1 := [.int (0), .int (Int32.ofNat s), .ref 72]) rfl ?_
  refine Wp.if1 rfl (fun c8 => ?_) (fun c8 => absurd (show (0 : Int32) = 0 by decide) c8)
  refine Wp.seg 1 (pc1 := 104) (ls1 := [some (.ref 59), some (.int (Int32.ofNat s)), some (.int (0)), some (.int (x)), some (.int (0))]) (st1 := [.int (x), .int (Int32.ofNat s), .ref 72]) rfl ?_
  refine Wp.iast (j := s) (n := 4) rfl (WF.t hw 72 rfl) rfl hs (by decide) ?_
  refine Wp.seg 1 (pc1 := 106) (ls1 := [some (.ref 59), some (.int (Int32.ofNat s)), some (.int (0)), some (.int (x)), some (.int (0))]) (st1 := [.ref 59]) rfl ?_
  refine Wp.gr (t := (11, 0)) (v := some (73)) rfl (WF.t hw 59 rfl) rfl (WF.r hw 59 27 71 rfl) ?_
  show Wp d 271 109 [some (.ref 59), some (.int (Int32.ofNat s)), some (.int (0)), some (.int (x)), some (.int (0))] [.ref 73] (kwi (kwi h 71 s (0 : Int32)) 72 s x) Q
  refine Wp.seg 2 (pc1 := 112) (ls1 := [some (.ref 59), some (.int (Int32.ofNat s)), some (.int (0)), some (.int (x)), some (.int (0))]) (st1 := [.int (0), .int (Int32.ofNat s), .ref 73]) rfl ?_
  refine Wp.if1 rfl (fun c9 => ?_) (fun c9 => absurd (show (0 : Int32) = 0 by decide) c9)
  refine Wp.seg 1 (pc1 := 125) (ls1 := [some (.ref 59), some (.int (Int32.ofNat s)), some (.int (0)), some (.int (x)), some (.int (0))]) (st1 := [.int (0), .int (Int32.ofNat s), .ref 73]) rfl ?_
  refine Wp.iast (j := s) (n := 4) rfl (WF.t hw 73 rfl) rfl hs (by decide) ?_
  refine Wp.seg 1 (pc1 := 127) (ls1 := [some (.ref 59), some (.int (Int32.ofNat s)), some (.int (0)), some (.int (x)), some (.int (0))]) (st1 := [.int (1)]) rfl ?_
  exact Wp.reti rfl rfl hQ
set_option maxHeartbeats 4000000 in
theorem t_csf4 {d : Nat} {Q : KO → Prop} {h : KH} (hw : WF h) {s : Nat} (hs : s < 4) (qs : inB (Int32.ofNat s) 0 3 = true) {x : Int32} (qx : inB x 0 3 = false) (hd : 3 ≤ d) (hQ : Q (some (.int (-1)), h)) : Cl d 157 [.ref 0, .int (Int32.ofNat s), .int (1), .int (x)] h Q := by
  refine Cl.of (ls := [some (.ref 0), some (.int (Int32.ofNat s)), some (.int (1)), some (.int (x))]) rfl rfl ?_
  refine Wp.seg 1 (pc1 := 1) (ls1 := [some (.ref 0), some (.int (Int32.ofNat s)), some (.int (1)), some (.int (x))]) (st1 := [.int (Int32.ofNat s)]) rfl ?_
  refine Wp.inv (d2 := 0) (as := [.int (Int32.ofNat s)]) (r := []) rfl rfl rfl rfl rfl rfl (by omega) (s_b164 ?_)
  show Wp d 157 4 [some (.ref 0), some (.int (Int32.ofNat s)), some (.int (1)), some (.int (x))] [.int (b32 (inB (Int32.ofNat s) 0 3))] h Q
  refine Wp.ifnz rfl (fun c1 => ?_) (fun c1 => absurd (c1.symm.trans (qs)) (by decide))
  refine Wp.seg 1 (pc1 := 10) (ls1 := [some (.ref 0), some (.int (Int32.ofNat s)), some (.int (1)), some (.int (x))]) (st1 := [.int (1)]) rfl ?_
  refine Wp.br (pc1 := 57) (st1 := []) rfl rfl ?_
  refine Wp.seg 1 (pc1 := 58) (ls1 := [some (.ref 0), some (.int (Int32.ofNat s)), some (.int (1)), some (.int (x))]) (st1 := [.int (x)]) rfl ?_
  refine Wp.inv (d2 := 0) (as := [.int (x)]) (r := []) rfl rfl rfl rfl rfl rfl (by omega) (s_b154 ?_)
  show Wp d 157 61 [some (.ref 0), some (.int (Int32.ofNat s)), some (.int (1)), some (.int (x))] [.int (b32 (inB x 0 3))] h Q
  refine Wp.ifz rfl (fun c2 => ?_) (fun c2 => absurd (c2.symm.trans (qx)) (by decide))
  refine Wp.seg 1 (pc1 := 74) (ls1 := [some (.ref 0), some (.int (Int32.ofNat s)), some (.int (1)), some (.int (x))]) (st1 := [.int (-1)]) rfl ?_
  exact Wp.reti rfl rfl hQ
set_option maxHeartbeats 4000000 in
theorem t_msf4 {d : Nat} {Q : KO → Prop} {h : KH} (hw : WF h) {s : Nat} (hs : s < 4) (qs : inB (Int32.ofNat s) 0 3 = true) {x : Int32} (qx : inB x 0 3 = false) (hd : 3 ≤ d) (hQ : Q (some (.int (-1)), h)) : Cl d 271 [.ref 59, .int (Int32.ofNat s), .int (1), .int (x)] h Q := by
  refine Cl.of (ls := [some (.ref 59), some (.int (Int32.ofNat s)), some (.int (1)), some (.int (x)), none]) rfl rfl ?_
  refine Wp.seg 1 (pc1 := 1) (ls1 := [some (.ref 59), some (.int (Int32.ofNat s)), some (.int (1)), some (.int (x)), none]) (st1 := [.int (Int32.ofNat s)]) rfl ?_
  refine Wp.inv (d2 := 1) (as := [.int (Int32.ofNat s)]) (r := []) rfl rfl rfl rfl rfl rfl (by omega) (s_b177 (Nat.le_refl _) ?_)
  show Wp d 271 4 [some (.ref 59), some (.int (Int32.ofNat s)), some (.int (1)), some (.int (x)), none] [.int (b32 (inB (Int32.ofNat s) 0 3))] h Q
  refine Wp.ifz rfl (fun c1 => absurd (c1.symm.trans (qs)) (by decide)) (fun c1 => ?_)
  refine Wp.seg 3 (pc1 := 10) (ls1 := [some (.ref 59), some (.int (Int32.ofNat s)), some (.int (1)), some (.int (x)), none]) (st1 := [.int (2), .int (0), .int (1)]) rfl ?_
  refine Wp.inv (d2 := 0) (as := [.int (1), .int (0), .int (2)]) (r := []) rfl rfl rfl rfl rfl rfl (by omega) (s_inB (x := 0) (y := 2) rfl rfl ?_)
  show Wp d 271 13 [some (.ref 59), some (.int (Int32.ofNat s)), some (.int (1)), some (.int (x)), none] [.int (b32 (inB (1 : Int32) 0 2))] h Q
  refine Wp.ifz rfl (fun c2 => absurd (c2.symm.trans (rfl)) (by decide)) (fun c2 => ?_)
  refine Wp.seg 1 (pc1 := 17) (ls1 := [some (.ref 59), some (.int (Int32.ofNat s)), some (.int (1)), some (.int (x)), none]) (st1 := [.int (1)]) rfl ?_
  refine Wp.if1 rfl (fun c3 => ?_) (fun c3 => absurd (show ¬ (1 : Int32) = 0 by decide) c3)
  refine Wp.seg 2 (pc1 := 30) (ls1 := [some (.ref 59), some (.int (Int32.ofNat s)), some (.int (1)), some (.int (x)), none]) (st1 := [.int (1), .int (1)]) rfl ?_
  refine Wp.if2 rfl (fun c4 => absurd c4 (show ¬ (¬ (1 : Int32) = (1 : Int32)) by decide)) (fun c4 => ?_)
  refine Wp.seg 1 (pc1 := 34) (ls1 := [some (.ref 59), some (.int (Int32.ofNat s)), some (.int (1)), some (.int (x)), none]) (st1 := [.int (x)]) rfl ?_
  refine Wp.inv (d2 := 1) (as := [.int (x)]) (r := []) rfl rfl rfl rfl rfl rfl (by omega) (s_b177 (Nat.le_refl _) ?_)
  show Wp d 271 37 [some (.ref 59), some (.int (Int32.ofNat s)), some (.int (1)), some (.int (x)), none] [.int (b32 (inB x 0 3))] h Q
  refine Wp.ifnz rfl (fun c5 => absurd (c5.symm.trans (qx)) (by decide)) (fun c5 => ?_)
  refine Wp.seg 1 (pc1 := 41) (ls1 := [some (.ref 59), some (.int (Int32.ofNat s)), some (.int (1)), some (.int (x)), none]) (st1 := [.int (-1)]) rfl ?_
  exact Wp.reti rfl rfl hQ
set_option maxHeartbeats 4000000 in
theorem t_csf5 {d : Nat} {Q : KO → Prop} {h : KH} (hw : WF h) {s : Nat} (hs : s < 4) (qs : inB (Int32.ofNat s) 0 3 = true) {t : Nat} (ht : t < 4) (qt : inB (Int32.ofNat t) 0 3 = true) {so sz : Int32} (h38 : h.2.2.1 38 t = so) (h39 : h.2.2.1 39 t = sz) (e1 : so = -1) (hd : 3 ≤ d) (hQ : Q (some (.int (1)), kwi (kwi (kwi h 45 s 2) 46 s 0) 47 s 0)) : Cl d 157 [.ref 0, .int (Int32.ofNat s), .int (1), .int (Int32.ofNat t)] h Q := by
  refine Cl.of (ls := [some (.ref 0), some (.int (Int32.ofNat s)), some (.int (1)), some (.int (Int32.ofNat t))]) rfl rfl ?_
  refine Wp.seg 1 (pc1 := 1) (ls1 := [some (.ref 0), some (.int (Int32.ofNat s)), some (.int (1)), some (.int (Int32.ofNat t))]) (st1 := [.int (Int32.ofNat s)]) rfl ?_
  refine Wp.inv (d2 := 0) (as := [.int (Int32.ofNat s)]) (r := []) rfl rfl rfl rfl rfl rfl (by omega) (s_b164 ?_)
  show Wp d 157 4 [some (.ref 0), some (.int (Int32.ofNat s)), some (.int (1)), some (.int (Int32.ofNat t))] [.int (b32 (inB (Int32.ofNat s) 0 3))] h Q
  refine Wp.ifnz rfl (fun c1 => ?_) (fun c1 => absurd (c1.symm.trans (qs)) (by decide))
  refine Wp.seg 1 (pc1 := 10) (ls1 := [some (.ref 0), some (.int (Int32.ofNat s)), some (.int (1)), some (.int (Int32.ofNat t))]) (st1 := [.int (1)]) rfl ?_
  refine Wp.br (pc1 := 57) (st1 := []) rfl rfl ?_
  refine Wp.seg 1 (pc1 := 58) (ls1 := [some (.ref 0), some (.int (Int32.ofNat s)), some (.int (1)), some (.int (Int32.ofNat t))]) (st1 := [.int (Int32.ofNat t)]) rfl ?_
  refine Wp.inv (d2 := 0) (as := [.int (Int32.ofNat t)]) (r := []) rfl rfl rfl rfl rfl rfl (by omega) (s_b154 ?_)
  show Wp d 157 61 [some (.ref 0), some (.int (Int32.ofNat s)), some (.int (1)), some (.int (Int32.ofNat t))] [.int (b32 (inB (Int32.ofNat t) 0 3))] h Q
  refine Wp.ifz rfl (fun c2 => absurd (c2.symm.trans (qt)) (by decide)) (fun c2 => ?_)
  refine Wp.seg 3 (pc1 := 67) (ls1 := [some (.ref 0), some (.int (Int32.ofNat s)), some (.int (1)), some (.int (Int32.ofNat t))]) (st1 := [.int (Int32.ofNat t), .int (Int32.ofNat s), .ref 0]) rfl ?_
  refine Wp.invV (d2 := 1) (as := [.ref 0, .int (Int32.ofNat s), .int (Int32.ofNat t)]) (r := []) (t := (10, 0)) rfl rfl rfl rfl (WF.t hw 0 rfl) rfl rfl ⟨rfl, rfl⟩ (by omega) (t_lrow1 hw hs ht h38 h39 e1 (Nat.le_refl _) ?_)
  show Wp d 157 70 [some (.ref 0), some (.int (Int32.ofNat s)), some (.int (1)), some (.int (Int32.ofNat t))] [.int (1)] (kwi (kwi (kwi h 45 s 2) 46 s 0) 47 s 0) Q
  refine Wp.seg 1 (pc1 := 74) (ls1 := [some (.ref 0), some (.int (Int32.ofNat s)), some (.int (1)), some (.int (Int32.ofNat t))]) (st1 := [.int (1)]) rfl ?_
  exact Wp.reti rfl rfl hQ
set_option maxHeartbeats 4000000 in
theorem t_msf5 {d : Nat} {Q : KO → Prop} {h : KH} (hw : WF h) {s : Nat} (hs : s < 4) (qs : inB (Int32.ofNat s) 0 3 = true) {t : Nat} (ht : t < 4) (qt : inB (Int32.ofNat t) 0 3 = true) {so sz : Int32} (h68 : h.2.2.1 68 t = so) (h69 : h.2.2.1 69 t = sz) (g : so < 0) (hd : 3 ≤ d) (hQ : Q (some (.int (1)), kwi (kwi (kwi h 71 s (2 : Int32)) 72 s (Int32.ofNat t)) 73 s (0 : Int32))) : Cl d 271 [.ref 59, .int (Int32.ofNat s), .int (1), .int (Int32.ofNat t)] h Q := by
  refine Cl.of (ls := [some (.ref 59), some (.int (Int32.ofNat s)), some (.int (1)), some (.int (Int32.ofNat t)), none]) rfl rfl ?_
  refine Wp.seg 1 (pc1 := 1) (ls1 := [some (.ref 59), some (.int (Int32.ofNat s)), some (.int (1)), some (.int (Int32.ofNat t)), none]) (st1 := [.int (Int32.ofNat s)]) rfl ?_
  refine Wp.inv (d2 := 1) (as := [.int (Int32.ofNat s)]) (r := []) rfl rfl rfl rfl rfl rfl (by omega) (s_b177 (Nat.le_refl _) ?_)
  show Wp d 271 4 [some (.ref 59), some (.int (Int32.ofNat s)), some (.int (1)), some (.int (Int32.ofNat t)), none] [.int (b32 (inB (Int32.ofNat s) 0 3))] h Q
  refine Wp.ifz rfl (fun c1 => absurd (c1.symm.trans (qs)) (by decide)) (fun c1 => ?_)
  refine Wp.seg 3 (pc1 := 10) (ls1 := [some (.ref 59), some (.int (Int32.ofNat s)), some (.int (1)), some (.int (Int32.ofNat t)), none]) (st1 := [.int (2), .int (0), .int (1)]) rfl ?_
  refine Wp.inv (d2 := 0) (as := [.int (1), .int (0), .int (2)]) (r := []) rfl rfl rfl rfl rfl rfl (by omega) (s_inB (x := 0) (y := 2) rfl rfl ?_)
  show Wp d 271 13 [some (.ref 59), some (.int (Int32.ofNat s)), some (.int (1)), some (.int (Int32.ofNat t)), none] [.int (b32 (inB (1 : Int32) 0 2))] h Q
  refine Wp.ifz rfl (fun c2 => absurd (c2.symm.trans (rfl)) (by decide)) (fun c2 => ?_)
  refine Wp.seg 1 (pc1 := 17) (ls1 := [some (.ref 59), some (.int (Int32.ofNat s)), some (.int (1)), some (.int (Int32.ofNat t)), none]) (st1 := [.int (1)]) rfl ?_
  refine Wp.if1 rfl (fun c3 => ?_) (fun c3 => absurd (show ¬ (1 : Int32) = 0 by decide) c3)
  refine Wp.seg 2 (pc1 := 30) (ls1 := [some (.ref 59), some (.int (Int32.ofNat s)), some (.int (1)), some (.int (Int32.ofNat t)), none]) (st1 := [.int (1), .int (1)]) rfl ?_
  refine Wp.if2 rfl (fun c4 => absurd c4 (show ¬ (¬ (1 : Int32) = (1 : Int32)) by decide)) (fun c4 => ?_)
  refine Wp.seg 1 (pc1 := 34) (ls1 := [some (.ref 59), some (.int (Int32.ofNat s)), some (.int (1)), some (.int (Int32.ofNat t)), none]) (st1 := [.int (Int32.ofNat t)]) rfl ?_
  refine Wp.inv (d2 := 1) (as := [.int (Int32.ofNat t)]) (r := []) rfl rfl rfl rfl rfl rfl (by omega) (s_b177 (Nat.le_refl _) ?_)
  show Wp d 271 37 [some (.ref 59), some (.int (Int32.ofNat s)), some (.int (1)), some (.int (Int32.ofNat t)), none] [.int (b32 (inB (Int32.ofNat t) 0 3))] h Q
  refine Wp.ifnz rfl (fun c5 => ?_) (fun c5 => absurd (c5.symm.trans (qt)) (by decide))
  refine Wp.seg 2 (pc1 := 44) (ls1 := [some (.ref 59), some (.int (Int32.ofNat s)), some (.int (1)), some (.int (Int32.ofNat t)), none]) (st1 := [.int (1), .int (1)]) rfl ?_
  refine Wp.if2 rfl (fun c6 => absurd c6 (show ¬ (¬ (1 : Int32) = (1 : Int32)) by decide)) (fun c6 => ?_)
  refine Wp.seg 1 (pc1 := 48) (ls1 := [some (.ref 59), some (.int (Int32.ofNat s)), some (.int (1)), some (.int (Int32.ofNat t)), none]) (st1 := [.ref 59]) rfl ?_
  refine Wp.gr (t := (11, 0)) (v := some (68)) rfl (WF.t hw 59 rfl) rfl (WF.r hw 59 22 66 rfl) ?_
  show Wp d 271 51 [some (.ref 59), some (.int (Int32.ofNat s)), some (.int (1)), some (.int (Int32.ofNat t)), none] [.ref 68] h Q
  refine Wp.seg 1 (pc1 := 52) (ls1 := [some (.ref 59), some (.int (Int32.ofNat s)), some (.int (1)), some (.int (Int32.ofNat t)), none]) (st1 := [.int (Int32.ofNat t), .ref 68]) rfl ?_
  refine Wp.iald (j := t) (k := 20) (n := 4) rfl (WF.t hw 68 rfl) rfl rfl ht (by decide) ?_
  rw [show h.2.2.1 68 t = so from h68]
  refine Wp.if1 rfl (fun c7 => ?_) (fun c7 => absurd (g) c7)
  refine Wp.seg 3 (pc1 := 64) (ls1 := [some (.ref 59), some (.int (Int32.ofNat s)), some (.int (1)), some (.int (Int32.ofNat t)), some (.int (0))]) (st1 := [.ref 59]) rfl ?_
  refine Wp.gr (t := (11, 0)) (v := some (71)) rfl (WF.t hw 59 rfl) rfl (WF.r hw 59 25 69 rfl) ?_
  show Wp d 271 67 [some (.ref 59), some (.int (Int32.ofNat s)), some (.int (1)), some (.int (Int32.ofNat t)), some (.int (0))] [.ref 71] h Q
  refine Wp.seg 3 (pc1 := 70) (ls1 := [some (.ref 59), some (.int (Int32.ofNat s)), some (.int (1)), some (.int (Int32.ofNat t)), some (.int (0))]) (st1 := [.int (1), .int (1), .int (Int32.ofNat s), .ref 71]) rfl ?_
  refine Wp.if2 rfl (fun c8 => absurd c8 (show ¬ (¬ (1 : Int32) = (1 : Int32)) by decide)) (fun c8 => ?_)
  refine Wp.seg 1 (pc1 := 75) (ls1 := [some (.ref 59), some (.int (Int32.ofNat s)), some (.int (1)), some (.int (Int32.ofNat t)), some (.int (0))]) (st1 := [.int (0), .int (Int32.ofNat s), .ref 71]) rfl ?_
  refine Wp.if1 rfl (fun c9 => absurd c9 (show ¬ (¬ (0 : Int32) = 0) by decide)) (fun c9 => ?_)
  refine Wp.seg 2 (pc1 := 83) (ls1 := [some (.ref 59), some (.int (Int32.ofNat s)), some (.int (1)), some (.int (Int32.ofNat t)), some (.int (0))]) (st1 := [.int (2), .int (Int32.ofNat s), .ref 71]) rfl ?_
  refine Wp.iast (j := s) (n := 4) rfl (WF.t hw 71 rfl) rfl hs (by decide) ?_
  refine Wp.seg 1 (pc1 := 85) (ls1 := [some (.ref 59), some (.int (Int32.ofNat s)), some (.int (1)), some (.int (Int32.ofNat t)), some (.int (0))]) (st1 := [.ref 59]) rfl ?_
  refine Wp.gr (t := (11, 0)) (v := some (72)) rfl (WF.t hw 59 rfl) rfl (WF.r hw 59 26 70 rfl) ?_
  show Wp d 271 88 [some (.ref 59), some (.int (Int32.ofNat s)), some (.int (1)), some (.int (Int32.ofNat t)), some (.int (0))] [.ref 72] (kwi h 71 s (2 : Int32)) Q
  refine Wp.seg 2 (pc1 := 91) (ls1 := [some (.ref 59), some (.int (Int32.ofNat s)), some (.int (1)), some (.int (Int32.ofNat t)), some (.int (0))]) (st1 := [.int (0), .int (Int32.ofNat s), .ref 72]) rfl ?_
  refine Wp.if1 rfl (fun c10 => ?_) (fun c10 => absurd (show (0 : Int32) = 0 by decide) c10)
  refine Wp.seg 1 (pc1 := 104) (ls1 := [some (.ref 59), some (.int (Int32.ofNat s)), some (.int (1)), some (.int (Int32.ofNat t)), some (.int (0))]) (st1 := [.int (Int32.ofNat t), .int (Int32.ofNat s), .ref 72]) rfl ?_
  refine Wp.iast (j := s) (n := 4) rfl (WF.t hw 72 rfl) rfl hs (by decide) ?_
  refine Wp.seg 1 (pc1 := 106) (ls1 := [some (.ref 59), some (.int (Int32.ofNat s)), some (.int (1)), some (.int (Int32.ofNat t)), some (.int (0))]) (st1 := [.ref 59]) rfl ?_
  refine Wp.gr (t := (11, 0)) (v := some (73)) rfl (WF.t hw 59 rfl) rfl (WF.r hw 59 27 71 rfl) ?_
  show Wp d 271 109 [some (.ref 59), some (.int (Int32.ofNat s)), some (.int (1)), some (.int (Int32.ofNat t)), some (.int (0))] [.ref 73] (kwi (kwi h 71 s (2 : Int32)) 72 s (Int32.ofNat t)) Q
  refine Wp.seg 2 (pc1 := 112) (ls1 := [some (.ref 59), some (.int (Int32.ofNat s)), some (.int (1)), some (.int (Int32.ofNat t)), some (.int (0))]) (st1 := [.int (0), .int (Int32.ofNat s), .ref 73]) rfl ?_
  refine Wp.if1 rfl (fun c11 => ?_) (fun c11 => absurd (show (0 : Int32) = 0 by decide) c11)
  refine Wp.seg 1 (pc1 := 125) (ls1 := [some (.ref 59), some (.int (Int32.ofNat s)), some (.int (1)), some (.int (Int32.ofNat t)), some (.int (0))]) (st1 := [.int (0), .int (Int32.ofNat s), .ref 73]) rfl ?_
  refine Wp.iast (j := s) (n := 4) rfl (WF.t hw 73 rfl) rfl hs (by decide) ?_
  refine Wp.seg 1 (pc1 := 127) (ls1 := [some (.ref 59), some (.int (Int32.ofNat s)), some (.int (1)), some (.int (Int32.ofNat t)), some (.int (0))]) (st1 := [.int (1)]) rfl ?_
  exact Wp.reti rfl rfl hQ
set_option maxHeartbeats 4000000 in
theorem t_csf6 {d : Nat} {Q : KO → Prop} {h : KH} (hw : WF h) {s : Nat} (hs : s < 4) (qs : inB (Int32.ofNat s) 0 3 = true) {t : Nat} (ht : t < 4) (qt : inB (Int32.ofNat t) 0 3 = true) {so sz : Int32} (h38 : h.2.2.1 38 t = so) (h39 : h.2.2.1 39 t = sz) (e1 : ¬ (so = -1)) (hd : 3 ≤ d) (hQ : Q (some (.int (1)), kwi (kwi (kwi h 45 s 1) 46 s so) 47 s sz)) : Cl d 157 [.ref 0, .int (Int32.ofNat s), .int (1), .int (Int32.ofNat t)] h Q := by
  refine Cl.of (ls := [some (.ref 0), some (.int (Int32.ofNat s)), some (.int (1)), some (.int (Int32.ofNat t))]) rfl rfl ?_
  refine Wp.seg 1 (pc1 := 1) (ls1 := [some (.ref 0), some (.int (Int32.ofNat s)), some (.int (1)), some (.int (Int32.ofNat t))]) (st1 := [.int (Int32.ofNat s)]) rfl ?_
  refine Wp.inv (d2 := 0) (as := [.int (Int32.ofNat s)]) (r := []) rfl rfl rfl rfl rfl rfl (by omega) (s_b164 ?_)
  show Wp d 157 4 [some (.ref 0), some (.int (Int32.ofNat s)), some (.int (1)), some (.int (Int32.ofNat t))] [.int (b32 (inB (Int32.ofNat s) 0 3))] h Q
  refine Wp.ifnz rfl (fun c1 => ?_) (fun c1 => absurd (c1.symm.trans (qs)) (by decide))
  refine Wp.seg 1 (pc1 := 10) (ls1 := [some (.ref 0), some (.int (Int32.ofNat s)), some (.int (1)), some (.int (Int32.ofNat t))]) (st1 := [.int (1)]) rfl ?_
  refine Wp.br (pc1 := 57) (st1 := []) rfl rfl ?_
  refine Wp.seg 1 (pc1 := 58) (ls1 := [some (.ref 0), some (.int (Int32.ofNat s)), some (.int (1)), some (.int (Int32.ofNat t))]) (st1 := [.int (Int32.ofNat t)]) rfl ?_
  refine Wp.inv (d2 := 0) (as := [.int (Int32.ofNat t)]) (r := []) rfl rfl rfl rfl rfl rfl (by omega) (s_b154 ?_)
  show Wp d 157 61 [some (.ref 0), some (.int (Int32.ofNat s)), some (.int (1)), some (.int (Int32.ofNat t))] [.int (b32 (inB (Int32.ofNat t) 0 3))] h Q
  refine Wp.ifz rfl (fun c2 => absurd (c2.symm.trans (qt)) (by decide)) (fun c2 => ?_)
  refine Wp.seg 3 (pc1 := 67) (ls1 := [some (.ref 0), some (.int (Int32.ofNat s)), some (.int (1)), some (.int (Int32.ofNat t))]) (st1 := [.int (Int32.ofNat t), .int (Int32.ofNat s), .ref 0]) rfl ?_
  refine Wp.invV (d2 := 1) (as := [.ref 0, .int (Int32.ofNat s), .int (Int32.ofNat t)]) (r := []) (t := (10, 0)) rfl rfl rfl rfl (WF.t hw 0 rfl) rfl rfl ⟨rfl, rfl⟩ (by omega) (t_lrow2 hw hs ht h38 h39 e1 (Nat.le_refl _) ?_)
  show Wp d 157 70 [some (.ref 0), some (.int (Int32.ofNat s)), some (.int (1)), some (.int (Int32.ofNat t))] [.int (1)] (kwi (kwi (kwi h 45 s 1) 46 s so) 47 s sz) Q
  refine Wp.seg 1 (pc1 := 74) (ls1 := [some (.ref 0), some (.int (Int32.ofNat s)), some (.int (1)), some (.int (Int32.ofNat t))]) (st1 := [.int (1)]) rfl ?_
  exact Wp.reti rfl rfl hQ
set_option maxHeartbeats 4000000 in
theorem t_msf6 {d : Nat} {Q : KO → Prop} {h : KH} (hw : WF h) {s : Nat} (hs : s < 4) (qs : inB (Int32.ofNat s) 0 3 = true) {t : Nat} (ht : t < 4) (qt : inB (Int32.ofNat t) 0 3 = true) {so sz : Int32} (h68 : h.2.2.1 68 t = so) (h69 : h.2.2.1 69 t = sz) (g : ¬ (so < 0)) (hd : 3 ≤ d) (hQ : Q (some (.int (1)), kwi (kwi (kwi h 71 s (1 : Int32)) 72 s so) 73 s sz)) : Cl d 271 [.ref 59, .int (Int32.ofNat s), .int (1), .int (Int32.ofNat t)] h Q := by
  refine Cl.of (ls := [some (.ref 59), some (.int (Int32.ofNat s)), some (.int (1)), some (.int (Int32.ofNat t)), none]) rfl rfl ?_
  refine Wp.seg 1 (pc1 := 1) (ls1 := [some (.ref 59), some (.int (Int32.ofNat s)), some (.int (1)), some (.int (Int32.ofNat t)), none]) (st1 := [.int (Int32.ofNat s)]) rfl ?_
  refine Wp.inv (d2 := 1) (as := [.int (Int32.ofNat s)]) (r := []) rfl rfl rfl rfl rfl rfl (by omega) (s_b177 (Nat.le_refl _) ?_)
  show Wp d 271 4 [some (.ref 59), some (.int (Int32.ofNat s)), some (.int (1)), some (.int (Int32.ofNat t)), none] [.int (b32 (inB (Int32.ofNat s) 0 3))] h Q
  refine Wp.ifz rfl (fun c1 => absurd (c1.symm.trans (qs)) (by decide)) (fun c1 => ?_)
  refine Wp.seg 3 (pc1 := 10) (ls1 := [some (.ref 59), some (.int (Int32.ofNat s)), some (.int (1)), some (.int (Int32.ofNat t)), none]) (st1 := [.int (2), .int (0), .int (1)]) rfl ?_
  refine Wp.inv (d2 := 0) (as := [.int (1), .int (0), .int (2)]) (r := []) rfl rfl rfl rfl rfl rfl (by omega) (s_inB (x := 0) (y := 2) rfl rfl ?_)
  show Wp d 271 13 [some (.ref 59), some (.int (Int32.ofNat s)), some (.int (1)), some (.int (Int32.ofNat t)), none] [.int (b32 (inB (1 : Int32) 0 2))] h Q
  refine Wp.ifz rfl (fun c2 => absurd (c2.symm.trans (rfl)) (by decide)) (fun c2 => ?_)
  refine Wp.seg 1 (pc1 := 17) (ls1 := [some (.ref 59), some (.int (Int32.ofNat s)), some (.int (1)), some (.int (Int32.ofNat t)), none]) (st1 := [.int (1)]) rfl ?_
  refine Wp.if1 rfl (fun c3 => ?_) (fun c3 => absurd (show ¬ (1 : Int32) = 0 by decide) c3)
  refine Wp.seg 2 (pc1 := 30) (ls1 := [some (.ref 59), some (.int (Int32.ofNat s)), some (.int (1)), some (.int (Int32.ofNat t)), none]) (st1 := [.int (1), .int (1)]) rfl ?_
  refine Wp.if2 rfl (fun c4 => absurd c4 (show ¬ (¬ (1 : Int32) = (1 : Int32)) by decide)) (fun c4 => ?_)
  refine Wp.seg 1 (pc1 := 34) (ls1 := [some (.ref 59), some (.int (Int32.ofNat s)), some (.int (1)), some (.int (Int32.ofNat t)), none]) (st1 := [.int (Int32.ofNat t)]) rfl ?_
  refine Wp.inv (d2 := 1) (as := [.int (Int32.ofNat t)]) (r := []) rfl rfl rfl rfl rfl rfl (by omega) (s_b177 (Nat.le_refl _) ?_)
  show Wp d 271 37 [some (.ref 59), some (.int (Int32.ofNat s)), some (.int (1)), some (.int (Int32.ofNat t)), none] [.int (b32 (inB (Int32.ofNat t) 0 3))] h Q
  refine Wp.ifnz rfl (fun c5 => ?_) (fun c5 => absurd (c5.symm.trans (qt)) (by decide))
  refine Wp.seg 2 (pc1 := 44) (ls1 := [some (.ref 59), some (.int (Int32.ofNat s)), some (.int (1)), some (.int (Int32.ofNat t)), none]) (st1 := [.int (1), .int (1)]) rfl ?_
  refine Wp.if2 rfl (fun c6 => absurd c6 (show ¬ (¬ (1 : Int32) = (1 : Int32)) by decide)) (fun c6 => ?_)
  refine Wp.seg 1 (pc1 := 48) (ls1 := [some (.ref 59), some (.int (Int32.ofNat s)), some (.int (1)), some (.int (Int32.ofNat t)), none]) (st1 := [.ref 59]) rfl ?_
  refine Wp.gr (t := (11, 0)) (v := some (68)) rfl (WF.t hw 59 rfl) rfl (WF.r hw 59 22 66 rfl) ?_
  show Wp d 271 51 [some (.ref 59), some (.int (Int32.ofNat s)), some (.int (1)), some (.int (Int32.ofNat t)), none] [.ref 68] h Q
  refine Wp.seg 1 (pc1 := 52) (ls1 := [some (.ref 59), some (.int (Int32.ofNat s)), some (.int (1)), some (.int (Int32.ofNat t)), none]) (st1 := [.int (Int32.ofNat t), .ref 68]) rfl ?_
  refine Wp.iald (j := t) (k := 20) (n := 4) rfl (WF.t hw 68 rfl) rfl rfl ht (by decide) ?_
  rw [show h.2.2.1 68 t = so from h68]
  refine Wp.if1 rfl (fun c7 => absurd c7 (g)) (fun c7 => ?_)
  refine Wp.seg 4 (pc1 := 64) (ls1 := [some (.ref 59), some (.int (Int32.ofNat s)), some (.int (1)), some (.int (Int32.ofNat t)), some (.int (1))]) (st1 := [.ref 59]) rfl ?_
  refine Wp.gr (t := (11, 0)) (v := some (71)) rfl (WF.t hw 59 rfl) rfl (WF.r hw 59 25 69 rfl) ?_
  show Wp d 271 67 [some (.ref 59), some (.int (Int32.ofNat s)), some (.int (1)), some (.int (Int32.ofNat t)), some (.int (1))] [.ref 71] h Q
  refine Wp.seg 3 (pc1 := 70) (ls1 := [some (.ref 59), some (.int (Int32.ofNat s)), some (.int (1)), some (.int (Int32.ofNat t)), some (.int (1))]) (st1 := [.int (1), .int (1), .int (Int32.ofNat s), .ref 71]) rfl ?_
  refine Wp.if2 rfl (fun c8 => absurd c8 (show ¬ (¬ (1 : Int32) = (1 : Int32)) by decide)) (fun c8 => ?_)
  refine Wp.seg 1 (pc1 := 75) (ls1 := [some (.ref 59), some (.int (Int32.ofNat s)), some (.int (1)), some (.int (Int32.ofNat t)), some (.int (1))]) (st1 := [.int (1), .int (Int32.ofNat s), .ref 71]) rfl ?_
  refine Wp.if1 rfl (fun c9 => ?_) (fun c9 => absurd (show ¬ (1 : Int32) = 0 by decide) c9)
  refine Wp.seg 1 (pc1 := 83) (ls1 := [some (.ref 59), some (.int (Int32.ofNat s)), some (.int (1)), some (.int (Int32.ofNat t)), some (.int (1))]) (st1 := [.int (1), .int (Int32.ofNat s), .ref 71]) rfl ?_
  refine Wp.iast (j := s) (n := 4) rfl (WF.t hw 71 rfl) rfl hs (by decide) ?_
  refine Wp.seg 1 (pc1 := 85) (ls1 := [some (.ref 59), some (.int (Int32.ofNat s)), some (.int (1)), some (.int (Int32.ofNat t)), some (.int (1))]) (st1 := [.ref 59]) rfl ?_
  refine Wp.gr (t := (11, 0)) (v := some (72)) rfl (WF.t hw 59 rfl) rfl (WF.r hw 59 26 70 rfl) ?_
  show Wp d 271 88 [some (.ref 59), some (.int (Int32.ofNat s)), some (.int (1)), some (.int (Int32.ofNat t)), some (.int (1))] [.ref 72] (kwi h 71 s (1 : Int32)) Q
  refine Wp.seg 2 (pc1 := 91) (ls1 := [some (.ref 59), some (.int (Int32.ofNat s)), some (.int (1)), some (.int (Int32.ofNat t)), some (.int (1))]) (st1 := [.int (1), .int (Int32.ofNat s), .ref 72]) rfl ?_
  refine Wp.if1 rfl (fun c10 => absurd c10 (show ¬ ((1 : Int32) = 0) by decide)) (fun c10 => ?_)
  refine Wp.seg 1 (pc1 := 95) (ls1 := [some (.ref 59), some (.int (Int32.ofNat s)), some (.int (1)), some (.int (Int32.ofNat t)), some (.int (1))]) (st1 := [.ref 59, .int (Int32.ofNat s), .ref 72]) rfl ?_
  refine Wp.gr (t := (11, 0)) (v := some (68)) rfl (WF.t hw 59 rfl) rfl (WF.r hw 59 22 66 rfl) ?_
  show Wp d 271 98 [some (.ref 59), some (.int (Int32.ofNat s)), some (.int (1)), some (.int (Int32.ofNat t)), some (.int (1))] [.ref 68, .int (Int32.ofNat s), .ref 72] (kwi h 71 s (1 : Int32)) Q
  refine Wp.seg 1 (pc1 := 99) (ls1 := [some (.ref 59), some (.int (Int32.ofNat s)), some (.int (1)), some (.int (Int32.ofNat t)), some (.int (1))]) (st1 := [.int (Int32.ofNat t), .ref 68, .int (Int32.ofNat s), .ref 72]) rfl ?_
  refine Wp.iald (j := t) (k := 20) (n := 4) rfl (WF.t hw 68 rfl) rfl rfl ht (by decide) ?_
  rw [show (kwi h 71 s (1 : Int32)).2.2.1 68 t = so from ((kwi_b (by decide)).trans (rfl)).trans h68]
  refine Wp.seg 1 (pc1 := 104) (ls1 := [some (.ref 59), some (.int (Int32.ofNat s)), some (.int (1)), some (.int (Int32.ofNat t)), some (.int (1))]) (st1 := [.int (so), .int (Int32.ofNat s), .ref 72]) rfl ?_
  refine Wp.iast (j := s) (n := 4) rfl (WF.t hw 72 rfl) rfl hs (by decide) ?_
  refine Wp.seg 1 (pc1 := 106) (ls1 := [some (.ref 59), some (.int (Int32.ofNat s)), some (.int (1)), some (.int (Int32.ofNat t)), some (.int (1))]) (st1 := [.ref 59]) rfl ?_
  refine Wp.gr (t := (11, 0)) (v := some (73)) rfl (WF.t hw 59 rfl) rfl (WF.r hw 59 27 71 rfl) ?_
  show Wp d 271 109 [some (.ref 59), some (.int (Int32.ofNat s)), some (.int (1)), some (.int (Int32.ofNat t)), some (.int (1))] [.ref 73] (kwi (kwi h 71 s (1 : Int32)) 72 s so) Q
  refine Wp.seg 2 (pc1 := 112) (ls1 := [some (.ref 59), some (.int (Int32.ofNat s)), some (.int (1)), some (.int (Int32.ofNat t)), some (.int (1))]) (st1 := [.int (1), .int (Int32.ofNat s), .ref 73]) rfl ?_
  refine Wp.if1 rfl (fun c11 => absurd c11 (show ¬ ((1 : Int32) = 0) by decide)) (fun c11 => ?_)
  refine Wp.seg 1 (pc1 := 116) (ls1 := [some (.ref 59), some (.int (Int32.ofNat s)), some (.int (1)), some (.int (Int32.ofNat t)), some (.int (1))]) (st1 := [.ref 59, .int (Int32.ofNat s), .ref 73]) rfl ?_
  refine Wp.gr (t := (11, 0)) (v := some (69)) rfl (WF.t hw 59 rfl) rfl (WF.r hw 59 23 67 rfl) ?_
  show Wp d 271 119 [some (.ref 59), some (.int (Int32.ofNat s)), some (.int (1)), some (.int (Int32.ofNat t)), some (.int (1))] [.ref 69, .int (Int32.ofNat s), .ref 73] (kwi (kwi h 71 s (1 : Int32)) 72 s so) Q
  refine Wp.seg 1 (pc1 := 120) (ls1 := [some (.ref 59), some (.int (Int32.ofNat s)), some (.int (1)), some (.int (Int32.ofNat t)), some (.int (1))]) (st1 := [.int (Int32.ofNat t), .ref 69, .int (Int32.ofNat s), .ref 73]) rfl ?_
  refine Wp.iald (j := t) (k := 20) (n := 4) rfl (WF.t hw 69 rfl) rfl rfl ht (by decide) ?_
  rw [show (kwi (kwi h 71 s (1 : Int32)) 72 s so).2.2.1 69 t = sz from ((kwi_b (by decide)).trans ((kwi_b (by decide)).trans (rfl))).trans h69]
  refine Wp.seg 1 (pc1 := 125) (ls1 := [some (.ref 59), some (.int (Int32.ofNat s)), some (.int (1)), some (.int (Int32.ofNat t)), some (.int (1))]) (st1 := [.int (sz), .int (Int32.ofNat s), .ref 73]) rfl ?_
  refine Wp.iast (j := s) (n := 4) rfl (WF.t hw 73 rfl) rfl hs (by decide) ?_
  refine Wp.seg 1 (pc1 := 127) (ls1 := [some (.ref 59), some (.int (Int32.ofNat s)), some (.int (1)), some (.int (Int32.ofNat t)), some (.int (1))]) (st1 := [.int (1)]) rfl ?_
  exact Wp.reti rfl rfl hQ
set_option maxHeartbeats 4000000 in
theorem t_csf7 {d : Nat} {Q : KO → Prop} {h : KH} (hw : WF h) {s : Nat} (hs : s < 4) (qs : inB (Int32.ofNat s) 0 3 = true) {x : Int32} (hd : 3 ≤ d) (hQ : Q (some (.int (1)), kwi (kwi (kwi h 45 s (2 : Int32)) 46 s (0 : Int32)) 47 s (0 : Int32))) : Cl d 157 [.ref 0, .int (Int32.ofNat s), .int (2), .int (x)] h Q := by
  refine Cl.of (ls := [some (.ref 0), some (.int (Int32.ofNat s)), some (.int (2)), some (.int (x))]) rfl rfl ?_
  refine Wp.seg 1 (pc1 := 1) (ls1 := [some (.ref 0), some (.int (Int32.ofNat s)), some (.int (2)), some (.int (x))]) (st1 := [.int (Int32.ofNat s)]) rfl ?_
  refine Wp.inv (d2 := 0) (as := [.int (Int32.ofNat s)]) (r := []) rfl rfl rfl rfl rfl rfl (by omega) (s_b164 ?_)
  show Wp d 157 4 [some (.ref 0), some (.int (Int32.ofNat s)), some (.int (2)), some (.int (x))] [.int (b32 (inB (Int32.ofNat s) 0 3))] h Q
  refine Wp.ifnz rfl (fun c1 => ?_) (fun c1 => absurd (c1.symm.trans (qs)) (by decide))
  refine Wp.seg 1 (pc1 := 10) (ls1 := [some (.ref 0), some (.int (Int32.ofNat s)), some (.int (2)), some (.int (x))]) (st1 := [.int (2)]) rfl ?_
  refine Wp.br (pc1 := 75) (st1 := []) rfl rfl ?_
  refine Wp.seg 5 (pc1 := 80) (ls1 := [some (.ref 0), some (.int (Int32.ofNat s)), some (.int (2)), some (.int (x))]) (st1 := [.int (0), .int (0), .int (2), .int (Int32.ofNat s), .ref 0]) rfl ?_
  refine Wp.invV (d2 := 0) (as := [.ref 0, .int (Int32.ofNat s), .int (2), .int (0), .int (0)]) (r := []) (t := (10, 0)) rfl rfl rfl rfl (WF.t hw 0 rfl) rfl rfl ⟨rfl, rfl⟩ (by omega) (t_layS hw hs (Nat.zero_le _) ?_)
  show Wp d 157 83 [some (.ref 0), some (.int (Int32.ofNat s)), some (.int (2)), some (.int (x))] [.int (1)] (kwi (kwi (kwi h 45 s (2 : Int32)) 46 s (0 : Int32)) 47 s (0 : Int32)) Q
  exact Wp.reti rfl rfl hQ
set_option maxHeartbeats 4000000 in
theorem t_msf7 {d : Nat} {Q : KO → Prop} {h : KH} (hw : WF h) {s : Nat} (hs : s < 4) (qs : inB (Int32.ofNat s) 0 3 = true) {x : Int32} (hd : 3 ≤ d) (hQ : Q (some (.int (1)), kwi (kwi (kwi h 71 s (2 : Int32)) 72 s x) 73 s (0 : Int32))) : Cl d 271 [.ref 59, .int (Int32.ofNat s), .int (2), .int (x)] h Q := by
  refine Cl.of (ls := [some (.ref 59), some (.int (Int32.ofNat s)), some (.int (2)), some (.int (x)), none]) rfl rfl ?_
  refine Wp.seg 1 (pc1 := 1) (ls1 := [some (.ref 59), some (.int (Int32.ofNat s)), some (.int (2)), some (.int (x)), none]) (st1 := [.int (Int32.ofNat s)]) rfl ?_
  refine Wp.inv (d2 := 1) (as := [.int (Int32.ofNat s)]) (r := []) rfl rfl rfl rfl rfl rfl (by omega) (s_b177 (Nat.le_refl _) ?_)
  show Wp d 271 4 [some (.ref 59), some (.int (Int32.ofNat s)), some (.int (2)), some (.int (x)), none] [.int (b32 (inB (Int32.ofNat s) 0 3))] h Q
  refine Wp.ifz rfl (fun c1 => absurd (c1.symm.trans (qs)) (by decide)) (fun c1 => ?_)
  refine Wp.seg 3 (pc1 := 10) (ls1 := [some (.ref 59), some (.int (Int32.ofNat s)), some (.int (2)), some (.int (x)), none]) (st1 := [.int (2), .int (0), .int (2)]) rfl ?_
  refine Wp.inv (d2 := 0) (as := [.int (2), .int (0), .int (2)]) (r := []) rfl rfl rfl rfl rfl rfl (by omega) (s_inB (x := 0) (y := 2) rfl rfl ?_)
  show Wp d 271 13 [some (.ref 59), some (.int (Int32.ofNat s)), some (.int (2)), some (.int (x)), none] [.int (b32 (inB (2 : Int32) 0 2))] h Q
  refine Wp.ifz rfl (fun c2 => absurd (c2.symm.trans (rfl)) (by decide)) (fun c2 => ?_)
  refine Wp.seg 1 (pc1 := 17) (ls1 := [some (.ref 59), some (.int (Int32.ofNat s)), some (.int (2)), some (.int (x)), none]) (st1 := [.int (2)]) rfl ?_
  refine Wp.if1 rfl (fun c3 => ?_) (fun c3 => absurd (show ¬ (2 : Int32) = 0 by decide) c3)
  refine Wp.seg 2 (pc1 := 30) (ls1 := [some (.ref 59), some (.int (Int32.ofNat s)), some (.int (2)), some (.int (x)), none]) (st1 := [.int (1), .int (2)]) rfl ?_
  refine Wp.if2 rfl (fun c4 => ?_) (fun c4 => absurd (show ¬ (2 : Int32) = (1 : Int32) by decide) c4)
  refine Wp.seg 2 (pc1 := 44) (ls1 := [some (.ref 59), some (.int (Int32.ofNat s)), some (.int (2)), some (.int (x)), none]) (st1 := [.int (1), .int (2)]) rfl ?_
  refine Wp.if2 rfl (fun c5 => ?_) (fun c5 => absurd (show ¬ (2 : Int32) = (1 : Int32) by decide) c5)
  refine Wp.seg 3 (pc1 := 64) (ls1 := [some (.ref 59), some (.int (Int32.ofNat s)), some (.int (2)), some (.int (x)), some (.int (0))]) (st1 := [.ref 59]) rfl ?_
  refine Wp.gr (t := (11, 0)) (v := some (71)) rfl (WF.t hw 59 rfl) rfl (WF.r hw 59 25 69 rfl) ?_
  show Wp d 271 67 [some (.ref 59), some (.int (Int32.ofNat s)), some (.int (2)), some (.int (x)), some (.int (0))] [.ref 71] h Q
  refine Wp.seg 3 (pc1 := 70) (ls1 := [some (.ref 59), some (.int (Int32.ofNat s)), some (.int (2)), some (.int (x)), some (.int (0))]) (st1 := [.int (1), .int (2), .int (Int32.ofNat s), .ref 71]) rfl ?_
  refine Wp.if2 rfl (fun c6 => ?_) (fun c6 => absurd (show ¬ (2 : Int32) = (1 : Int32) by decide) c6)
  refine Wp.seg 1 (pc1 := 83) (ls1 := [some (.ref 59), some (.int (Int32.ofNat s)), some (.int (2)), some (.int (x)), some (.int (0))]) (st1 := [.int (2), .int (Int32.ofNat s), .ref 71]) rfl ?_
  refine Wp.iast (j := s) (n := 4) rfl (WF.t hw 71 rfl) rfl hs (by decide) ?_
  refine Wp.seg 1 (pc1 := 85) (ls1 := [some (.ref 59), some (.int (Int32.ofNat s)), some (.int (2)), some (.int (x)), some (.int (0))]) (st1 := [.ref 59]) rfl ?_
  refine Wp.gr (t := (11, 0)) (v := some (72)) rfl (WF.t hw 59 rfl) rfl (WF.r hw 59 26 70 rfl) ?_
  show Wp d 271 88 [some (.ref 59), some (.int (Int32.ofNat s)), some (.int (2)), some (.int (x)), some (.int (0))] [.ref 72] (kwi h 71 s (2 : Int32)) Q
  refine Wp.seg 2 (pc1 := 91) (ls1 := [some (.ref 59), some (.int (Int32.ofNat s)), some (.int (2)), some (.int (x)), some (.int (0))]) (st1 := [.int (0), .int (Int32.ofNat s), .ref 72]) rfl ?_
  refine Wp.if1 rfl (fun c7 => ?_) (fun c7 => absurd (show (0 : Int32) = 0 by decide) c7)
  refine Wp.seg 1 (pc1 := 104) (ls1 := [some (.ref 59), some (.int (Int32.ofNat s)), some (.int (2)), some (.int (x)), some (.int (0))]) (st1 := [.int (x), .int (Int32.ofNat s), .ref 72]) rfl ?_
  refine Wp.iast (j := s) (n := 4) rfl (WF.t hw 72 rfl) rfl hs (by decide) ?_
  refine Wp.seg 1 (pc1 := 106) (ls1 := [some (.ref 59), some (.int (Int32.ofNat s)), some (.int (2)), some (.int (x)), some (.int (0))]) (st1 := [.ref 59]) rfl ?_
  refine Wp.gr (t := (11, 0)) (v := some (73)) rfl (WF.t hw 59 rfl) rfl (WF.r hw 59 27 71 rfl) ?_
  show Wp d 271 109 [some (.ref 59), some (.int (Int32.ofNat s)), some (.int (2)), some (.int (x)), some (.int (0))] [.ref 73] (kwi (kwi h 71 s (2 : Int32)) 72 s x) Q
  refine Wp.seg 2 (pc1 := 112) (ls1 := [some (.ref 59), some (.int (Int32.ofNat s)), some (.int (2)), some (.int (x)), some (.int (0))]) (st1 := [.int (0), .int (Int32.ofNat s), .ref 73]) rfl ?_
  refine Wp.if1 rfl (fun c8 => ?_) (fun c8 => absurd (show (0 : Int32) = 0 by decide) c8)
  refine Wp.seg 1 (pc1 := 125) (ls1 := [some (.ref 59), some (.int (Int32.ofNat s)), some (.int (2)), some (.int (x)), some (.int (0))]) (st1 := [.int (0), .int (Int32.ofNat s), .ref 73]) rfl ?_
  refine Wp.iast (j := s) (n := 4) rfl (WF.t hw 73 rfl) rfl hs (by decide) ?_
  refine Wp.seg 1 (pc1 := 127) (ls1 := [some (.ref 59), some (.int (Int32.ofNat s)), some (.int (2)), some (.int (x)), some (.int (0))]) (st1 := [.int (1)]) rfl ?_
  exact Wp.reti rfl rfl hQ
/-- a shelf is laid on both sides -/
theorem sf_inv {h : KH} (hi : Inv h) {s : Nat} (hs : s < 4) {a b c b' c' : Int32} (ok : a = 2 ∨ (a = 0 ∧ b = b') ∨ (a = 1 ∧ b = b' ∧ c = c' ∧ inB b 0 4 = true)) : Inv (kwi (kwi (kwi (kwi (kwi (kwi h 45 s a) 46 s b) 47 s c) 71 s a) 72 s b') 73 s c') := by
  have f1 : ∀ (H : KH) c j x, ((45 ≤ c ∧ c ≤ 47) ∨ (71 ≤ c ∧ c ≤ 73)) → Fr (fun c => (45 ≤ c ∧ c ≤ 47) ∨ (71 ≤ c ∧ c ≤ 73)) noP H (kwi H c j x) := fun _ _ _ _ hc => fr_kwi hc (by omega)
  have ff : Fr (fun c => (45 ≤ c ∧ c ≤ 47) ∨ (71 ≤ c ∧ c ≤ 73)) noP h (kwi (kwi (kwi (kwi (kwi (kwi h 45 s a) 46 s b) 47 s c) 71 s a) 72 s b') 73 s c') := (f1 _ _ _ _ (by omega)).trans ((f1 _ _ _ _ (by omega)).trans ((f1 _ _ _ _ (by omega)).trans ((f1 _ _ _ _ (by omega)).trans ((f1 _ _ _ _ (by omega)).trans (f1 _ _ _ _ (by omega))))))
  obtain ⟨K, eK⟩ : ∃ K, kwi (kwi (kwi (kwi (kwi (kwi h 45 s a) 46 s b) 47 s c) 71 s a) 72 s b') 73 s c' = K := ⟨_, rfl⟩
  have v45 : ∀ t, K.2.2.1 45 t = if t = s then a else h.2.2.1 45 t := fun t => by
    rw [← eK, kwi_r (by decide), kwi_r (by decide), kwi_r (by decide), kwi_r (by decide), kwi_r (by decide)]
    by_cases e : t = s
    · rw [if_pos e, e, kwi_s]
    · rw [if_neg e, kwi_o e]
  have v46 : ∀ t, K.2.2.1 46 t = if t = s then b else h.2.2.1 46 t := fun t => by
    rw [← eK, kwi_r (by decide), kwi_r (by decide), kwi_r (by decide), kwi_r (by decide)]
    by_cases e : t = s
    · rw [if_pos e, e, kwi_s]
    · rw [if_neg e, kwi_o e, kwi_r (by decide)]
  have v47 : ∀ t, K.2.2.1 47 t = if t = s then c else h.2.2.1 47 t := fun t => by
    rw [← eK, kwi_r (by decide), kwi_r (by decide), kwi_r (by decide)]
    by_cases e : t = s
    · rw [if_pos e, e, kwi_s]
    · rw [if_neg e, kwi_o e, kwi_r (by decide), kwi_r (by decide)]
  have v71 : ∀ t, K.2.2.1 71 t = if t = s then a else h.2.2.1 71 t := fun t => by
    rw [← eK, kwi_r (by decide), kwi_r (by decide)]
    by_cases e : t = s
    · rw [if_pos e, e, kwi_s]
    · rw [if_neg e, kwi_o e, kwi_r (by decide), kwi_r (by decide), kwi_r (by decide)]
  have v72 : ∀ t, K.2.2.1 72 t = if t = s then b' else h.2.2.1 72 t := fun t => by
    rw [← eK, kwi_r (by decide)]
    by_cases e : t = s
    · rw [if_pos e, e, kwi_s]
    · rw [if_neg e, kwi_o e, kwi_r (by decide), kwi_r (by decide), kwi_r (by decide), kwi_r (by decide)]
  have v73 : ∀ t, K.2.2.1 73 t = if t = s then c' else h.2.2.1 73 t := fun t => by
    rw [← eK]
    by_cases e : t = s
    · rw [if_pos e, e, kwi_s]
    · rw [if_neg e, kwi_o e, kwi_r (by decide), kwi_r (by decide), kwi_r (by decide), kwi_r (by decide), kwi_r (by decide)]
  have eJ : h.2.2.2.1 = K.2.2.2.1 := by rw [← eK]; rfl
  rw [eK] at ff ⊢
  have ho := hi.2.2.1
  have e0 : K.2.2.1 0 = h.2.2.1 0 := ff.2.2.1 0 (Or.inl (by omega))
  have e59 : K.2.2.1 59 = h.2.2.1 59 := ff.2.2.1 59 (Or.inl (by omega))
  refine inv_of (J := K.2.2.2.1) hi ff (by omega) (by rw [e0]) (by rw [e59]) ?_ ?_ (fun t ht => ?_) (fun t ht => ?_) ?_
  · obtain ⟨T, hT⟩ := ho.2.1
    exact ⟨T, tape_fr hT ff (by omega) (by rw [e59])⟩
  · obtain ⟨T, hT⟩ := ho.2.2.1
    exact ⟨T, rows_fr hT ff (by omega) (by rw [e0]) (by rw [e59])⟩
  · exact sheet_fr ht (ho.2.2.2.1 t ht) ff (by omega)
  · have := ho.2.2.2.2.1 t ht
    unfold shelfOK at this ⊢
    rw [v45, v46, v47, v71, v72, v73]
    by_cases e : t = s
    · simp only [if_pos e]
      exact ⟨trivial, ok⟩
    · simp only [if_neg e]
      exact this
  · exact trace_fr ho.2.2.2.2.2 ff (by omega) (by rw [e59])
theorem J_shelf {h : KH} (hi : Inv h) (v w x : Int32) : JI h 157 [.ref 0, .int v, .int w, .int x] 271 [.ref 59, .int v, .int w, .int x] := by
  have hw := hi.1
  obtain ⟨_, ⟨A, RL, n, c, dn, en, RP, hb, _⟩, ho, hf⟩ := id hi
  have hk := hb.1
  have hm := hb.2
  rcases hq : inB v 0 3 with _ | _
  · exact JI_same (dc := 3) (dm := 3) hi (t_csf0 hw hq (Nat.le_refl _) rfl) (t_msf0 hw hq (Nat.le_refl _) rfl)
  obtain ⟨s, hs0, rfl⟩ := inB_nat (b := 3) hq
  have hs : s < 4 := by omega
  have wk : ∀ a b c, WF (kwi (kwi (kwi h 45 s a) 46 s b) 47 s c) := fun a b c => hw
  have fin : ∀ {a b c b' c' : Int32} {ca ma : List Value}, (a = 2 ∨ (a = 0 ∧ b = b') ∨ (a = 1 ∧ b = b' ∧ c = c' ∧ inB b 0 4 = true)) → (∀ {Q : KO → Prop}, Q (some (.int (1)), kwi (kwi (kwi h 45 s a) 46 s b) 47 s c) → Cl 15 157 ca h Q) → (∀ {Q : KO → Prop}, Q (some (.int (1)), kwi (kwi (kwi (kwi (kwi (kwi h 45 s a) 46 s b) 47 s c) 71 s a) 72 s b') 73 s c') → Cl 15 271 ma (kwi (kwi (kwi h 45 s a) 46 s b) 47 s c) Q) → JI h 157 ca 271 ma := fun {a b c b' c' ca ma} ok hc hm2 => ⟨1, hc ⟨_, rfl, hm2 ⟨_, rfl, sf_inv hi hs ok, Nat.le_add_right _ _, Nat.le_add_right _ _, fun c hc => ⟨rfl, (kwi_r (by omega)).trans ((kwi_r (by omega)).trans ((kwi_r (by omega)).trans ((kwi_r (by omega)).trans ((kwi_r (by omega)).trans (kwi_r (by omega))))))⟩⟩⟩⟩
  rcases hw2 : inB w 0 2 with _ | _
  · have nw : ¬ (0 ≤ w.toInt ∧ w.toInt ≤ 2) := of_decide_eq_false hw2
    exact JI_same (dc := 3) (dm := 3) hi (t_csf1 hw hs hq (fun e => nw (by rw [e]; decide)) (fun e => nw (by rw [e]; decide)) (fun e => nw (by rw [e]; decide)) (Nat.le_refl _) rfl) (t_msf1 hw hs hq hw2 (Nat.le_refl _) rfl)
  obtain ⟨q, hq2, rfl⟩ := inB_nat (b := 2) hw2
  have q3 : q = 0 ∨ q = 1 ∨ q = 2 := by omega
  rcases q3 with rfl | rfl | rfl
  · rcases hx : inB x 0 ((n : Int) - 1) with _ | _
    · exact JI_same (dc := 3) (dm := 3) hi (t_csf2 hw hs hq hk hx (Nat.le_refl _) rfl) (t_msf2 hw hs hq hm hx (Nat.le_refl _) rfl)
    · exact fin (a := 0) (b := x) (c := 0) (b' := x) (c' := 0) (Or.inr (Or.inl ⟨rfl, rfl⟩)) (fun z => t_csf3 hw hs hq hk hx (by decide) z) (fun z => t_msf3 (wk _ _ _) hs hq (refOK_eq hm rfl) hx (by decide) z)
  · rcases hx : inB x 0 3 with _ | _
    · exact JI_same (dc := 3) (dm := 3) hi (t_csf4 hw hs hq hx (Nat.le_refl _) rfl) (t_msf4 hw hs hq hx (Nat.le_refl _) rfl)
    · obtain ⟨t, ht0, rfl⟩ := inB_nat (b := 3) hx
      have ht : t < 4 := by omega
      obtain ⟨s1, s2, s3, z, hz, s4, s5⟩ := hi.2.2.1.2.2.2.1 t ht
      have sr := so_rng s3
      by_cases e1 : h.2.2.1 38 t = -1
      · have g : h.2.2.1 68 t < 0 := by rw [← s1, e1]; decide
        exact fin (a := 2) (b := 0) (c := 0) (b' := Int32.ofNat t) (c' := 0) (Or.inl rfl) (fun z => t_csf5 hw hs hq ht hx rfl rfl e1 (by decide) z) (fun z => t_msf5 (wk _ _ _) hs hq ht hx (so := h.2.2.1 68 t) (sz := h.2.2.1 69 t) rfl rfl g (by decide) z)
      · have e1' : (h.2.2.1 38 t).toInt ≠ -1 := fun z => e1 (eqm1 z)
        have g : ¬ (h.2.2.1 68 t < 0) := fun c => by
          rw [← s1] at c
          have := i32T (rfl : (h.2.2.1 38 t).toInt = _) (show (0 : Int32).toInt = 0 from rfl) c
          omega
        exact fin (a := 1) (b := h.2.2.1 38 t) (c := h.2.2.1 39 t) (b' := h.2.2.1 68 t) (c' := h.2.2.1 69 t) (Or.inr (Or.inr ⟨rfl, s1, s2, inB_t (by omega)⟩)) (fun z => t_csf6 hw hs hq ht hx rfl rfl e1 (by decide) z) (fun z => t_msf6 (wk _ _ _) hs hq ht hx (so := h.2.2.1 68 t) (sz := h.2.2.1 69 t) rfl rfl g (by decide) z)
  · exact fin (a := 2) (b := 0) (c := 0) (b' := x) (c' := 0) (Or.inl rfl) (fun z => t_csf7 hw hs hq (by decide) z) (fun z => t_msf7 (wk _ _ _) hs hq (by decide) z)
