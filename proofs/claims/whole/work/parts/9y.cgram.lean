/-! KM: the class: the grammar, its walks -/
set_option maxHeartbeats 4000000 in
theorem t_goon {d : Nat} {Q : KO → Prop} {h : KH} (hw : WF h) {q : Nat} {x y : Int32} (h6 : h.2.2.1 29 6 = x) (h5 : h.2.2.1 29 5 = Int32.ofNat q) (n26 : ¬ x = 26) (q2 : ¬ (200 : Int32) ≤ Int32.ofNat q) (q200 : q < 200) (hy : h.2.2.1 31 (q + 1) = y) (hd : 0 ≤ d) (hQ : Q (none, kwi (kwi h 29 5 ((Int32.ofNat q) + (1 : Int32))) 29 6 (h.2.2.1 31 (q + 1)))) : Cl d 62 [.ref 29] h Q := by
  refine Cl.of (ls := [some (.ref 29)]) rfl rfl ?_
  refine Wp.seg 1 (pc1 := 1) (ls1 := [some (.ref 29)]) (st1 := [.ref 29]) rfl ?_
  refine Wp.gi (t := (6, 0)) rfl (WF.t hw 29 rfl) (Or.inl rfl) ?_
  rw [show h.2.2.1 29 6 = x from h6]
  refine Wp.seg 1 (pc1 := 6) (ls1 := [some (.ref 29)]) (st1 := [.int (26), .int (x)]) rfl ?_
  refine Wp.if2 rfl (fun c1 => absurd c1 (n26)) (fun c1 => ?_)
  refine Wp.seg 1 (pc1 := 10) (ls1 := [some (.ref 29)]) (st1 := [.ref 29]) rfl ?_
  refine Wp.gi (t := (6, 0)) rfl (WF.t hw 29 rfl) (Or.inl rfl) ?_
  rw [show h.2.2.1 29 5 = Int32.ofNat q from h5]
  refine Wp.seg 1 (pc1 := 16) (ls1 := [some (.ref 29)]) (st1 := [.int (200), .int (Int32.ofNat q)]) rfl ?_
  refine Wp.if2 rfl (fun c2 => absurd c2 (q2)) (fun c2 => ?_)
  refine Wp.seg 2 (pc1 := 21) (ls1 := [some (.ref 29)]) (st1 := [.ref 29, .ref 29]) rfl ?_
  refine Wp.gi (t := (6, 0)) rfl (WF.t hw 29 rfl) (Or.inl rfl) ?_
  rw [show h.2.2.1 29 5 = Int32.ofNat q from h5]
  refine Wp.seg 2 (pc1 := 26) (ls1 := [some (.ref 29)]) (st1 := [.int ((Int32.ofNat q) + (1 : Int32)), .ref 29]) rfl ?_
  refine Wp.pi (t := (6, 0)) rfl (WF.t hw 29 rfl) (Or.inl rfl) ?_
  refine Wp.seg 2 (pc1 := 31) (ls1 := [some (.ref 29)]) (st1 := [.ref 29, .ref 29]) rfl ?_
  refine Wp.gr (t := (6, 0)) (v := some (31)) rfl (WF.t hw 29 rfl) rfl (WF.r hw 29 2 38 rfl) ?_
  show Wp d 62 34 [some (.ref 29)] [.ref 31, .ref 29] (kwi h 29 5 ((Int32.ofNat q) + (1 : Int32))) Q
  refine Wp.seg 1 (pc1 := 35) (ls1 := [some (.ref 29)]) (st1 := [.ref 29, .ref 31, .ref 29]) rfl ?_
  refine Wp.gi (t := (6, 0)) rfl (WF.t hw 29 rfl) (Or.inl rfl) ?_
  rw [show (kwi h 29 5 ((Int32.ofNat q) + (1 : Int32))).2.2.1 29 5 = (Int32.ofNat q) + (1 : Int32) from kwi_s]
  refine Wp.iald (j := (q + 1)) (k := 20) (n := 201) rfl (WF.t hw 31 rfl) rfl ((Int32.ofNat_add q 1).symm) (by omega) (by decide) ?_
  rw [show (kwi h 29 5 ((Int32.ofNat q) + (1 : Int32))).2.2.1 31 ((q + 1)) = h.2.2.1 31 (q + 1) from (kwi_b (by decide)).trans (rfl)]
  refine Wp.pi (t := (6, 0)) rfl (WF.t hw 29 rfl) (Or.inl rfl) ?_
  exact Wp.retv rfl rfl hQ
set_option maxHeartbeats 4000000 in
theorem t_va1 {d : Nat} {Q : KO → Prop} {h : KH} (hw : WF h) {x : Int32} (h6 : h.2.2.1 29 6 = x) (a : ¬ x < 100) (hd : 0 ≤ d) (hQ : Q (some (.int (x - (100 : Int32))), h)) : Cl d 70 [.ref 29] h Q := by
  refine Cl.of (ls := [some (.ref 29)]) rfl rfl ?_
  refine Wp.seg 1 (pc1 := 1) (ls1 := [some (.ref 29)]) (st1 := [.ref 29]) rfl ?_
  refine Wp.gi (t := (6, 0)) rfl (WF.t hw 29 rfl) (Or.inl rfl) ?_
  rw [show h.2.2.1 29 6 = x from h6]
  refine Wp.seg 1 (pc1 := 6) (ls1 := [some (.ref 29)]) (st1 := [.int (100), .int (x)]) rfl ?_
  refine Wp.if2 rfl (fun c1 => absurd c1 (a)) (fun c1 => ?_)
  refine Wp.seg 1 (pc1 := 10) (ls1 := [some (.ref 29)]) (st1 := [.ref 29]) rfl ?_
  refine Wp.gi (t := (6, 0)) rfl (WF.t hw 29 rfl) (Or.inl rfl) ?_
  rw [show h.2.2.1 29 6 = x from h6]
  refine Wp.seg 2 (pc1 := 16) (ls1 := [some (.ref 29)]) (st1 := [.int (x - (100 : Int32))]) rfl ?_
  exact Wp.reti rfl rfl hQ
set_option maxHeartbeats 4000000 in
theorem t_va2 {d : Nat} {Q : KO → Prop} {h : KH} (hw : WF h) {x : Int32} (h6 : h.2.2.1 29 6 = x) (a : x < 100) (a2 : ¬ x < 13) (a3 : ¬ (17 : Int32) < x) (hd : 0 ≤ d) (hQ : Q (some (.int (((10000 : Int32) + x) - (13 : Int32))), h)) : Cl d 70 [.ref 29] h Q := by
  refine Cl.of (ls := [some (.ref 29)]) rfl rfl ?_
  refine Wp.seg 1 (pc1 := 1) (ls1 := [some (.ref 29)]) (st1 := [.ref 29]) rfl ?_
  refine Wp.gi (t := (6, 0)) rfl (WF.t hw 29 rfl) (Or.inl rfl) ?_
  rw [show h.2.2.1 29 6 = x from h6]
  refine Wp.seg 1 (pc1 := 6) (ls1 := [some (.ref 29)]) (st1 := [.int (100), .int (x)]) rfl ?_
  refine Wp.if2 rfl (fun c1 => ?_) (fun c1 => absurd (a) c1)
  refine Wp.seg 1 (pc1 := 18) (ls1 := [some (.ref 29)]) (st1 := [.ref 29]) rfl ?_
  refine Wp.gi (t := (6, 0)) rfl (WF.t hw 29 rfl) (Or.inl rfl) ?_
  rw [show h.2.2.1 29 6 = x from h6]
  refine Wp.seg 1 (pc1 := 23) (ls1 := [some (.ref 29)]) (st1 := [.int (13), .int (x)]) rfl ?_
  refine Wp.if2 rfl (fun c2 => absurd c2 (a2)) (fun c2 => ?_)
  refine Wp.seg 1 (pc1 := 27) (ls1 := [some (.ref 29)]) (st1 := [.ref 29]) rfl ?_
  refine Wp.gi (t := (6, 0)) rfl (WF.t hw 29 rfl) (Or.inl rfl) ?_
  rw [show h.2.2.1 29 6 = x from h6]
  refine Wp.seg 1 (pc1 := 32) (ls1 := [some (.ref 29)]) (st1 := [.int (17), .int (x)]) rfl ?_
  refine Wp.if2 rfl (fun c3 => absurd c3 (a3)) (fun c3 => ?_)
  refine Wp.seg 2 (pc1 := 39) (ls1 := [some (.ref 29)]) (st1 := [.ref 29, .int (10000)]) rfl ?_
  refine Wp.gi (t := (6, 0)) rfl (WF.t hw 29 rfl) (Or.inl rfl) ?_
  rw [show h.2.2.1 29 6 = x from h6]
  refine Wp.seg 4 (pc1 := 50) (ls1 := [some (.ref 29)]) (st1 := [.int (((10000 : Int32) + x) - (13 : Int32))]) rfl ?_
  exact Wp.reti rfl rfl hQ
set_option maxHeartbeats 4000000 in
theorem t_va3 {d : Nat} {Q : KO → Prop} {h : KH} (hw : WF h) {x : Int32} (h6 : h.2.2.1 29 6 = x) (a : x < 100) (a2 : x < 13) (hd : 0 ≤ d) (hQ : Q (some (.int (-1)), h)) : Cl d 70 [.ref 29] h Q := by
  refine Cl.of (ls := [some (.ref 29)]) rfl rfl ?_
  refine Wp.seg 1 (pc1 := 1) (ls1 := [some (.ref 29)]) (st1 := [.ref 29]) rfl ?_
  refine Wp.gi (t := (6, 0)) rfl (WF.t hw 29 rfl) (Or.inl rfl) ?_
  rw [show h.2.2.1 29 6 = x from h6]
  refine Wp.seg 1 (pc1 := 6) (ls1 := [some (.ref 29)]) (st1 := [.int (100), .int (x)]) rfl ?_
  refine Wp.if2 rfl (fun c1 => ?_) (fun c1 => absurd (a) c1)
  refine Wp.seg 1 (pc1 := 18) (ls1 := [some (.ref 29)]) (st1 := [.ref 29]) rfl ?_
  refine Wp.gi (t := (6, 0)) rfl (WF.t hw 29 rfl) (Or.inl rfl) ?_
  rw [show h.2.2.1 29 6 = x from h6]
  refine Wp.seg 1 (pc1 := 23) (ls1 := [some (.ref 29)]) (st1 := [.int (13), .int (x)]) rfl ?_
  refine Wp.if2 rfl (fun c2 => ?_) (fun c2 => absurd (a2) c2)
  refine Wp.seg 1 (pc1 := 50) (ls1 := [some (.ref 29)]) (st1 := [.int (-1)]) rfl ?_
  exact Wp.reti rfl rfl hQ
set_option maxHeartbeats 4000000 in
theorem t_va4 {d : Nat} {Q : KO → Prop} {h : KH} (hw : WF h) {x : Int32} (h6 : h.2.2.1 29 6 = x) (a : x < 100) (a2 : ¬ x < 13) (a3 : (17 : Int32) < x) (hd : 0 ≤ d) (hQ : Q (some (.int (-1)), h)) : Cl d 70 [.ref 29] h Q := by
  refine Cl.of (ls := [some (.ref 29)]) rfl rfl ?_
  refine Wp.seg 1 (pc1 := 1) (ls1 := [some (.ref 29)]) (st1 := [.ref 29]) rfl ?_
  refine Wp.gi (t := (6, 0)) rfl (WF.t hw 29 rfl) (Or.inl rfl) ?_
  rw [show h.2.2.1 29 6 = x from h6]
  refine Wp.seg 1 (pc1 := 6) (ls1 := [some (.ref 29)]) (st1 := [.int (100), .int (x)]) rfl ?_
  refine Wp.if2 rfl (fun c1 => ?_) (fun c1 => absurd (a) c1)
  refine Wp.seg 1 (pc1 := 18) (ls1 := [some (.ref 29)]) (st1 := [.ref 29]) rfl ?_
  refine Wp.gi (t := (6, 0)) rfl (WF.t hw 29 rfl) (Or.inl rfl) ?_
  rw [show h.2.2.1 29 6 = x from h6]
  refine Wp.seg 1 (pc1 := 23) (ls1 := [some (.ref 29)]) (st1 := [.int (13), .int (x)]) rfl ?_
  refine Wp.if2 rfl (fun c2 => absurd c2 (a2)) (fun c2 => ?_)
  refine Wp.seg 1 (pc1 := 27) (ls1 := [some (.ref 29)]) (st1 := [.ref 29]) rfl ?_
  refine Wp.gi (t := (6, 0)) rfl (WF.t hw 29 rfl) (Or.inl rfl) ?_
  rw [show h.2.2.1 29 6 = x from h6]
  refine Wp.seg 1 (pc1 := 32) (ls1 := [some (.ref 29)]) (st1 := [.int (17), .int (x)]) rfl ?_
  refine Wp.if2 rfl (fun c3 => ?_) (fun c3 => absurd (a3) c3)
  refine Wp.seg 1 (pc1 := 50) (ls1 := [some (.ref 29)]) (st1 := [.int (-1)]) rfl ?_
  exact Wp.reti rfl rfl hQ
set_option maxHeartbeats 4000000 in
theorem t_emit {d : Nat} {Q : KO → Prop} {h : KH} (hw : WF h) {o L : Nat} (hO : rulO h o L) {z : Nat} {x : Int32} (hz : h.2.2.1 o 5 = Int32.ofNat z) (zl : z < L) (zl2 : ¬ Int32.ofNat L ≤ Int32.ofNat z) (hL : L ≤ 200) (o75 : 75 ≤ o) (hd : 0 ≤ d) (hQ : Q (none, kwi (kwi h (o + 4) z x) o 5 ((Int32.ofNat z) + (1 : Int32)))) : Cl d 75 [.ref o, .int (x)] h Q := by
  refine Cl.of (ls := [some (.ref o), some (.int (x))]) rfl rfl ?_
  refine Wp.seg 1 (pc1 := 1) (ls1 := [some (.ref o), some (.int (x))]) (st1 := [.ref o]) rfl ?_
  refine Wp.gi (t := (9, 0)) rfl hO.1 (Or.inl rfl) ?_
  rw [show h.2.2.1 o 5 = Int32.ofNat z from hz]
  refine Wp.seg 1 (pc1 := 5) (ls1 := [some (.ref o), some (.int (x))]) (st1 := [.ref o, .int (Int32.ofNat z)]) rfl ?_
  refine Wp.gr (t := (9, 0)) (v := some (o + 4)) rfl hO.1 rfl hO.2.2.2.2.2.2.2.2.1 ?_
  show Wp d 75 8 [some (.ref o), some (.int (x))] [.ref (o + 4), .int (Int32.ofNat z)] h Q
  refine Wp.alen (n := L) (k := 20) rfl hO.2.2.2.2.1 rfl ?_
  refine Wp.if2 rfl (fun c1 => absurd c1 (zl2)) (fun c1 => ?_)
  refine Wp.seg 1 (pc1 := 13) (ls1 := [some (.ref o), some (.int (x))]) (st1 := [.ref o]) rfl ?_
  refine Wp.gr (t := (9, 0)) (v := some (o + 4)) rfl hO.1 rfl hO.2.2.2.2.2.2.2.2.1 ?_
  show Wp d 75 16 [some (.ref o), some (.int (x))] [.ref (o + 4)] h Q
  refine Wp.seg 1 (pc1 := 17) (ls1 := [some (.ref o), some (.int (x))]) (st1 := [.ref o, .ref (o + 4)]) rfl ?_
  refine Wp.gi (t := (9, 0)) rfl hO.1 (Or.inl rfl) ?_
  rw [show h.2.2.1 o 5 = Int32.ofNat z from hz]
  refine Wp.seg 1 (pc1 := 21) (ls1 := [some (.ref o), some (.int (x))]) (st1 := [.int (x), .int (Int32.ofNat z), .ref (o + 4)]) rfl ?_
  refine Wp.iast (j := z) (n := L) rfl hO.2.2.2.2.1 rfl zl (by omega) ?_
  refine Wp.seg 2 (pc1 := 24) (ls1 := [some (.ref o), some (.int (x))]) (st1 := [.ref o, .ref o]) rfl ?_
  refine Wp.gi (t := (9, 0)) rfl hO.1 (Or.inl rfl) ?_
  rw [show (kwi h (o + 4) z x).2.2.1 o 5 = Int32.ofNat z from ((kwi_b (by omega)).trans (rfl)).trans (hz)]
  refine Wp.seg 2 (pc1 := 29) (ls1 := [some (.ref o), some (.int (x))]) (st1 := [.int ((Int32.ofNat z) + (1 : Int32)), .ref o]) rfl ?_
  refine Wp.pi (t := (9, 0)) rfl hO.1 (Or.inl rfl) ?_
  exact Wp.retv rfl rfl hQ
set_option maxHeartbeats 4000000 in
theorem t_cmps {d : Nat} {Q : KO → Prop} {h : KH} {a s b : Int32} (hd : 0 ≤ d) (hQ : Q (some (.int ((a ||| (b <<< ((14 : Int32) &&& 31))) ||| (s <<< ((28 : Int32) &&& 31)))), h)) : Cl d 76 [.int (a), .int (s), .int (b)] h Q := by
  refine Cl.of (ls := [some (.int (a)), some (.int (s)), some (.int (b))]) rfl rfl ?_
  refine Wp.seg 9 (pc1 := 11) (ls1 := [some (.int (a)), some (.int (s)), some (.int (b))]) (st1 := [.int ((a ||| (b <<< ((14 : Int32) &&& 31))) ||| (s <<< ((28 : Int32) &&& 31)))]) rfl ?_
  exact Wp.reti rfl rfl hQ
set_option maxHeartbeats 4000000 in
theorem t_rc1c {d : Nat} {Q : KO → Prop} {h : KH} (hw : WF h) {o : Nat} {a : Int32} (an : ¬ 0 ≤ a) (g1 : ∀ Q : KO → Prop, Q (some (.int a), h) → Cl 0 70 [.ref 29] h Q) (hd : 1 ≤ d) (hQ : Q (some (.int (0)), h)) : Cl d 69 [.ref 29, .ref o] h Q := by
  refine Cl.of (ls := [some (.ref 29), some (.ref o), none, none, none]) rfl rfl ?_
  refine Wp.seg 1 (pc1 := 1) (ls1 := [some (.ref 29), some (.ref o), none, none, none]) (st1 := [.ref 29]) rfl ?_
  refine Wp.invV (d2 := 0) (as := [.ref 29]) (r := []) (t := (6, 0)) rfl rfl rfl rfl (WF.t hw 29 rfl) rfl rfl ⟨rfl, rfl⟩ (by omega) (g1 _ ?_)
  show Wp d 69 4 [some (.ref 29), some (.ref o), none, none, none] [.int (a)] h Q
  refine Wp.seg 2 (pc1 := 6) (ls1 := [some (.ref 29), some (.ref o), some (.int (a)), none, none]) (st1 := [.int (a)]) rfl ?_
  refine Wp.if1 rfl (fun c1 => absurd c1 (an)) (fun c1 => ?_)
  refine Wp.seg 1 (pc1 := 10) (ls1 := [some (.ref 29), some (.ref o), some (.int (a)), none, none]) (st1 := [.int (0)]) rfl ?_
  exact Wp.reti rfl rfl hQ
set_option maxHeartbeats 4000000 in
theorem t_rc2c {d : Nat} {Q : KO → Prop} {h : KH} (hw : WF h) {k1 : KH} (hwk1 : WF k1) {o : Nat} {a : Int32} (an : 0 ≤ a) (g1 : ∀ Q : KO → Prop, Q (some (.int a), h) → Cl 0 70 [.ref 29] h Q) (g2 : ∀ Q : KO → Prop, Q (none, k1) → Cl 0 62 [.ref 29] h Q) {t1 : Int32} (t_k1 : k1.2.2.1 29 6 = t1) (l : t1 < 20) (hd : 1 ≤ d) (hQ : Q (some (.int (0)), k1)) : Cl d 69 [.ref 29, .ref o] h Q := by
  refine Cl.of (ls := [some (.ref 29), some (.ref o), none, none, none]) rfl rfl ?_
  refine Wp.seg 1 (pc1 := 1) (ls1 := [some (.ref 29), some (.ref o), none, none, none]) (st1 := [.ref 29]) rfl ?_
  refine Wp.invV (d2 := 0) (as := [.ref 29]) (r := []) (t := (6, 0)) rfl rfl rfl rfl (WF.t hw 29 rfl) rfl rfl ⟨rfl, rfl⟩ (by omega) (g1 _ ?_)
  show Wp d 69 4 [some (.ref 29), some (.ref o), none, none, none] [.int (a)] h Q
  refine Wp.seg 2 (pc1 := 6) (ls1 := [some (.ref 29), some (.ref o), some (.int (a)), none, none]) (st1 := [.int (a)]) rfl ?_
  refine Wp.if1 rfl (fun c1 => ?_) (fun c1 => absurd (an) c1)
  refine Wp.seg 1 (pc1 := 12) (ls1 := [some (.ref 29), some (.ref o), some (.int (a)), none, none]) (st1 := [.ref 29]) rfl ?_
  refine Wp.invV (d2 := 0) (as := [.ref 29]) (r := []) (t := (6, 0)) rfl rfl rfl rfl (WF.t hw 29 rfl) rfl rfl ⟨rfl, rfl⟩ (by omega) (g2 _ ?_)
  show Wp d 69 15 [some (.ref 29), some (.ref o), some (.int (a)), none, none] [] k1 Q
  refine Wp.seg 1 (pc1 := 16) (ls1 := [some (.ref 29), some (.ref o), some (.int (a)), none, none]) (st1 := [.ref 29]) rfl ?_
  refine Wp.gi (t := (6, 0)) rfl (WF.t hwk1 29 rfl) (Or.inl rfl) ?_
  rw [show k1.2.2.1 29 6 = t1 from t_k1]
  refine Wp.seg 1 (pc1 := 21) (ls1 := [some (.ref 29), some (.ref o), some (.int (a)), none, none]) (st1 := [.int (20), .int (t1)]) rfl ?_
  refine Wp.if2 rfl (fun c2 => ?_) (fun c2 => absurd (l) c2)
  refine Wp.seg 1 (pc1 := 34) (ls1 := [some (.ref 29), some (.ref o), some (.int (a)), none, none]) (st1 := [.int (0)]) rfl ?_
  exact Wp.reti rfl rfl hQ
set_option maxHeartbeats 4000000 in
theorem t_rc3c {d : Nat} {Q : KO → Prop} {h : KH} (hw : WF h) {k1 : KH} (hwk1 : WF k1) {o : Nat} {a : Int32} (an : 0 ≤ a) (g1 : ∀ Q : KO → Prop, Q (some (.int a), h) → Cl 0 70 [.ref 29] h Q) (g2 : ∀ Q : KO → Prop, Q (none, k1) → Cl 0 62 [.ref 29] h Q) {t1 : Int32} (t_k1 : k1.2.2.1 29 6 = t1) (l : ¬ t1 < 20) (u : ¬ t1 ≤ 22) (hd : 1 ≤ d) (hQ : Q (some (.int (0)), k1)) : Cl d 69 [.ref 29, .ref o] h Q := by
  refine Cl.of (ls := [some (.ref 29), some (.ref o), none, none, none]) rfl rfl ?_
  refine Wp.seg 1 (pc1 := 1) (ls1 := [some (.ref 29), some (.ref o), none, none, none]) (st1 := [.ref 29]) rfl ?_
  refine Wp.invV (d2 := 0) (as := [.ref 29]) (r := []) (t := (6, 0)) rfl rfl rfl rfl (WF.t hw 29 rfl) rfl rfl ⟨rfl, rfl⟩ (by omega) (g1 _ ?_)
  show Wp d 69 4 [some (.ref 29), some (.ref o), none, none, none] [.int (a)] h Q
  refine Wp.seg 2 (pc1 := 6) (ls1 := [some (.ref 29), some (.ref o), some (.int (a)), none, none]) (st1 := [.int (a)]) rfl ?_
  refine Wp.if1 rfl (fun c1 => ?_) (fun c1 => absurd (an) c1)
  refine Wp.seg 1 (pc1 := 12) (ls1 := [some (.ref 29), some (.ref o), some (.int (a)), none, none]) (st1 := [.ref 29]) rfl ?_
  refine Wp.invV (d2 := 0) (as := [.ref 29]) (r := []) (t := (6, 0)) rfl rfl rfl rfl (WF.t hw 29 rfl) rfl rfl ⟨rfl, rfl⟩ (by omega) (g2 _ ?_)
  show Wp d 69 15 [some (.ref 29), some (.ref o), some (.int (a)), none, none] [] k1 Q
  refine Wp.seg 1 (pc1 := 16) (ls1 := [some (.ref 29), some (.ref o), some (.int (a)), none, none]) (st1 := [.ref 29]) rfl ?_
  refine Wp.gi (t := (6, 0)) rfl (WF.t hwk1 29 rfl) (Or.inl rfl) ?_
  rw [show k1.2.2.1 29 6 = t1 from t_k1]
  refine Wp.seg 1 (pc1 := 21) (ls1 := [some (.ref 29), some (.ref o), some (.int (a)), none, none]) (st1 := [.int (20), .int (t1)]) rfl ?_
  refine Wp.if2 rfl (fun c2 => absurd c2 (l)) (fun c2 => ?_)
  refine Wp.seg 1 (pc1 := 25) (ls1 := [some (.ref 29), some (.ref o), some (.int (a)), none, none]) (st1 := [.ref 29]) rfl ?_
  refine Wp.gi (t := (6, 0)) rfl (WF.t hwk1 29 rfl) (Or.inl rfl) ?_
  rw [show k1.2.2.1 29 6 = t1 from t_k1]
  refine Wp.seg 1 (pc1 := 30) (ls1 := [some (.ref 29), some (.ref o), some (.int (a)), none, none]) (st1 := [.int (22), .int (t1)]) rfl ?_
  refine Wp.if2 rfl (fun c3 => absurd c3 (u)) (fun c3 => ?_)
  refine Wp.seg 1 (pc1 := 34) (ls1 := [some (.ref 29), some (.ref o), some (.int (a)), none, none]) (st1 := [.int (0)]) rfl ?_
  exact Wp.reti rfl rfl hQ
set_option maxHeartbeats 4000000 in
theorem t_rc4c {d : Nat} {Q : KO → Prop} {h : KH} (hw : WF h) {k1 : KH} (hwk1 : WF k1) {k2 : KH} (hwk2 : WF k2) {o : Nat} {b : Int32} {a : Int32} (an : 0 ≤ a) (g1 : ∀ Q : KO → Prop, Q (some (.int a), h) → Cl 0 70 [.ref 29] h Q) (g2 : ∀ Q : KO → Prop, Q (none, k1) → Cl 0 62 [.ref 29] h Q) {t1 : Int32} (t_k1 : k1.2.2.1 29 6 = t1) (l : ¬ t1 < 20) (u : t1 ≤ 22) (g3 : ∀ Q : KO → Prop, Q (none, k2) → Cl 0 62 [.ref 29] k1 Q) (g4 : ∀ Q : KO → Prop, Q (some (.int b), k2) → Cl 0 70 [.ref 29] k2 Q) (bn : ¬ 0 ≤ b) (hd : 1 ≤ d) (hQ : Q (some (.int (0)), k2)) : Cl d 69 [.ref 29, .ref o] h Q := by
  refine Cl.of (ls := [some (.ref 29), some (.ref o), none, none, none]) rfl rfl ?_
  refine Wp.seg 1 (pc1 := 1) (ls1 := [some (.ref 29), some (.ref o), none, none, none]) (st1 := [.ref 29]) rfl ?_
  refine Wp.invV (d2 := 0) (as := [.ref 29]) (r := []) (t := (6, 0)) rfl rfl rfl rfl (WF.t hw 29 rfl) rfl rfl ⟨rfl, rfl⟩ (by omega) (g1 _ ?_)
  show Wp d 69 4 [some (.ref 29), some (.ref o), none, none, none] [.int (a)] h Q
  refine Wp.seg 2 (pc1 := 6) (ls1 := [some (.ref 29), some (.ref o), some (.int (a)), none, none]) (st1 := [.int (a)]) rfl ?_
  refine Wp.if1 rfl (fun c1 => ?_) (fun c1 => absurd (an) c1)
  refine Wp.seg 1 (pc1 := 12) (ls1 := [some (.ref 29), some (.ref o), some (.int (a)), none, none]) (st1 := [.ref 29]) rfl ?_
  refine Wp.invV (d2 := 0) (as := [.ref 29]) (r := []) (t := (6, 0)) rfl rfl rfl rfl (WF.t hw 29 rfl) rfl rfl ⟨rfl, rfl⟩ (by omega) (g2 _ ?_)
  show Wp d 69 15 [some (.ref 29), some (.ref o), some (.int (a)), none, none] [] k1 Q
  refine Wp.seg 1 (pc1 := 16) (ls1 := [some (.ref 29), some (.ref o), some (.int (a)), none, none]) (st1 := [.ref 29]) rfl ?_
  refine Wp.gi (t := (6, 0)) rfl (WF.t hwk1 29 rfl) (Or.inl rfl) ?_
  rw [show k1.2.2.1 29 6 = t1 from t_k1]
  refine Wp.seg 1 (pc1 := 21) (ls1 := [some (.ref 29), some (.ref o), some (.int (a)), none, none]) (st1 := [.int (20), .int (t1)]) rfl ?_
  refine Wp.if2 rfl (fun c2 => absurd c2 (l)) (fun c2 => ?_)
  refine Wp.seg 1 (pc1 := 25) (ls1 := [some (.ref 29), some (.ref o), some (.int (a)), none, none]) (st1 := [.ref 29]) rfl ?_
  refine Wp.gi (t := (6, 0)) rfl (WF.t hwk1 29 rfl) (Or.inl rfl) ?_
  rw [show k1.2.2.1 29 6 = t1 from t_k1]
  refine Wp.seg 1 (pc1 := 30) (ls1 := [some (.ref 29), some (.ref o), some (.int (a)), none, none]) (st1 := [.int (22), .int (t1)]) rfl ?_
  refine Wp.if2 rfl (fun c3 => ?_) (fun c3 => absurd (u) c3)
  refine Wp.seg 1 (pc1 := 36) (ls1 := [some (.ref 29), some (.ref o), some (.int (a)), none, none]) (st1 := [.ref 29]) rfl ?_
  refine Wp.gi (t := (6, 0)) rfl (WF.t hwk1 29 rfl) (Or.inl rfl) ?_
  rw [show k1.2.2.1 29 6 = t1 from t_k1]
  refine Wp.seg 4 (pc1 := 44) (ls1 := [some (.ref 29), some (.ref o), some (.int (a)), some (.int (t1 - (20 : Int32))), none]) (st1 := [.ref 29]) rfl ?_
  refine Wp.invV (d2 := 0) (as := [.ref 29]) (r := []) (t := (6, 0)) rfl rfl rfl rfl (WF.t hwk1 29 rfl) rfl rfl ⟨rfl, rfl⟩ (by omega) (g3 _ ?_)
  show Wp d 69 47 [some (.ref 29), some (.ref o), some (.int (a)), some (.int (t1 - (20 : Int32))), none] [] k2 Q
  refine Wp.seg 1 (pc1 := 48) (ls1 := [some (.ref 29), some (.ref o), some (.int (a)), some (.int (t1 - (20 : Int32))), none]) (st1 := [.ref 29]) rfl ?_
  refine Wp.invV (d2 := 0) (as := [.ref 29]) (r := []) (t := (6, 0)) rfl rfl rfl rfl (WF.t hwk2 29 rfl) rfl rfl ⟨rfl, rfl⟩ (by omega) (g4 _ ?_)
  show Wp d 69 51 [some (.ref 29), some (.ref o), some (.int (a)), some (.int (t1 - (20 : Int32))), none] [.int (b)] k2 Q
  refine Wp.seg 2 (pc1 := 55) (ls1 := [some (.ref 29), some (.ref o), some (.int (a)), some (.int (t1 - (20 : Int32))), some (.int (b))]) (st1 := [.int (b)]) rfl ?_
  refine Wp.if1 rfl (fun c4 => absurd c4 (bn)) (fun c4 => ?_)
  refine Wp.seg 1 (pc1 := 59) (ls1 := [some (.ref 29), some (.ref o), some (.int (a)), some (.int (t1 - (20 : Int32))), some (.int (b))]) (st1 := [.int (0)]) rfl ?_
  exact Wp.reti rfl rfl hQ
set_option maxHeartbeats 4000000 in
theorem t_rc5c {d : Nat} {Q : KO → Prop} {h : KH} (hw : WF h) {k1 : KH} (hwk1 : WF k1) {k2 : KH} (hwk2 : WF k2) {k3 : KH} (hwk3 : WF k3) {k4 : KH} (hwk4 : WF k4) {o L : Nat} (hO : rulO k3 o L) {b e : Int32} {a : Int32} (an : 0 ≤ a) (g1 : ∀ Q : KO → Prop, Q (some (.int a), h) → Cl 0 70 [.ref 29] h Q) (g2 : ∀ Q : KO → Prop, Q (none, k1) → Cl 0 62 [.ref 29] h Q) {t1 : Int32} (t_k1 : k1.2.2.1 29 6 = t1) (l : ¬ t1 < 20) (u : t1 ≤ 22) (g3 : ∀ Q : KO → Prop, Q (none, k2) → Cl 0 62 [.ref 29] k1 Q) (g4 : ∀ Q : KO → Prop, Q (some (.int b), k2) → Cl 0 70 [.ref 29] k2 Q) (bn : 0 ≤ b) (g5 : ∀ Q : KO → Prop, Q (none, k3) → Cl 0 62 [.ref 29] k2 Q) (g7 : ∀ Q : KO → Prop, Q (some (.int e), k3) → Cl 0 76 [.int a, .int (t1 - 20), .int b] k3 Q) (g6 : ∀ Q : KO → Prop, Q (none, k4) → Cl 0 75 [.ref o, .int e] k3 Q) (hd : 1 ≤ d) (hQ : Q (some (.int (1)), k4)) : Cl d 69 [.ref 29, .ref o] h Q := by
  refine Cl.of (ls := [some (.ref 29), some (.ref o), none, none, none]) rfl rfl ?_
  refine Wp.seg 1 (pc1 := 1) (ls1 := [some (.ref 29), some (.ref o), none, none, none]) (st1 := [.ref 29]) rfl ?_
  refine Wp.invV (d2 := 0) (as := [.ref 29]) (r := []) (t := (6, 0)) rfl rfl rfl rfl (WF.t hw 29 rfl) rfl rfl ⟨rfl, rfl⟩ (by omega) (g1 _ ?_)
  show Wp d 69 4 [some (.ref 29), some (.ref o), none, none, none] [.int (a)] h Q
  refine Wp.seg 2 (pc1 := 6) (ls1 := [some (.ref 29), some (.ref o), some (.int (a)), none, none]) (st1 := [.int (a)]) rfl ?_
  refine Wp.if1 rfl (fun c1 => ?_) (fun c1 => absurd (an) c1)
  refine Wp.seg 1 (pc1 := 12) (ls1 := [some (.ref 29), some (.ref o), some (.int (a)), none, none]) (st1 := [.ref 29]) rfl ?_
  refine Wp.invV (d2 := 0) (as := [.ref 29]) (r := []) (t := (6, 0)) rfl rfl rfl rfl (WF.t hw 29 rfl) rfl rfl ⟨rfl, rfl⟩ (by omega) (g2 _ ?_)
  show Wp d 69 15 [some (.ref 29), some (.ref o), some (.int (a)), none, none] [] k1 Q
  refine Wp.seg 1 (pc1 := 16) (ls1 := [some (.ref 29), some (.ref o), some (.int (a)), none, none]) (st1 := [.ref 29]) rfl ?_
  refine Wp.gi (t := (6, 0)) rfl (WF.t hwk1 29 rfl) (Or.inl rfl) ?_
  rw [show k1.2.2.1 29 6 = t1 from t_k1]
  refine Wp.seg 1 (pc1 := 21) (ls1 := [some (.ref 29), some (.ref o), some (.int (a)), none, none]) (st1 := [.int (20), .int (t1)]) rfl ?_
  refine Wp.if2 rfl (fun c2 => absurd c2 (l)) (fun c2 => ?_)
  refine Wp.seg 1 (pc1 := 25) (ls1 := [some (.ref 29), some (.ref o), some (.int (a)), none, none]) (st1 := [.ref 29]) rfl ?_
  refine Wp.gi (t := (6, 0)) rfl (WF.t hwk1 29 rfl) (Or.inl rfl) ?_
  rw [show k1.2.2.1 29 6 = t1 from t_k1]
  refine Wp.seg 1 (pc1 := 30) (ls1 := [some (.ref 29), some (.ref o), some (.int (a)), none, none]) (st1 := [.int (22), .int (t1)]) rfl ?_
  refine Wp.if2 rfl (fun c3 => ?_) (fun c3 => absurd (u) c3)
  refine Wp.seg 1 (pc1 := 36) (ls1 := [some (.ref 29), some (.ref o), some (.int (a)), none, none]) (st1 := [.ref 29]) rfl ?_
  refine Wp.gi (t := (6, 0)) rfl (WF.t hwk1 29 rfl) (Or.inl rfl) ?_
  rw [show k1.2.2.1 29 6 = t1 from t_k1]
  refine Wp.seg 4 (pc1 := 44) (ls1 := [some (.ref 29), some (.ref o), some (.int (a)), some (.int (t1 - (20 : Int32))), none]) (st1 := [.ref 29]) rfl ?_
  refine Wp.invV (d2 := 0) (as := [.ref 29]) (r := []) (t := (6, 0)) rfl rfl rfl rfl (WF.t hwk1 29 rfl) rfl rfl ⟨rfl, rfl⟩ (by omega) (g3 _ ?_)
  show Wp d 69 47 [some (.ref 29), some (.ref o), some (.int (a)), some (.int (t1 - (20 : Int32))), none] [] k2 Q
  refine Wp.seg 1 (pc1 := 48) (ls1 := [some (.ref 29), some (.ref o), some (.int (a)), some (.int (t1 - (20 : Int32))), none]) (st1 := [.ref 29]) rfl ?_
  refine Wp.invV (d2 := 0) (as := [.ref 29]) (r := []) (t := (6, 0)) rfl rfl rfl rfl (WF.t hwk2 29 rfl) rfl rfl ⟨rfl, rfl⟩ (by omega) (g4 _ ?_)
  show Wp d 69 51 [some (.ref 29), some (.ref o), some (.int (a)), some (.int (t1 - (20 : Int32))), none] [.int (b)] k2 Q
  refine Wp.seg 2 (pc1 := 55) (ls1 := [some (.ref 29), some (.ref o), some (.int (a)), some (.int (t1 - (20 : Int32))), some (.int (b))]) (st1 := [.int (b)]) rfl ?_
  refine Wp.if1 rfl (fun c4 => ?_) (fun c4 => absurd (bn) c4)
  refine Wp.seg 1 (pc1 := 61) (ls1 := [some (.ref 29), some (.ref o), some (.int (a)), some (.int (t1 - (20 : Int32))), some (.int (b))]) (st1 := [.ref 29]) rfl ?_
  refine Wp.invV (d2 := 0) (as := [.ref 29]) (r := []) (t := (6, 0)) rfl rfl rfl rfl (WF.t hwk2 29 rfl) rfl rfl ⟨rfl, rfl⟩ (by omega) (g5 _ ?_)
  show Wp d 69 64 [some (.ref 29), some (.ref o), some (.int (a)), some (.int (t1 - (20 : Int32))), some (.int (b))] [] k3 Q
  refine Wp.seg 4 (pc1 := 69) (ls1 := [some (.ref 29), some (.ref o), some (.int (a)), some (.int (t1 - (20 : Int32))), some (.int (b))]) (st1 := [.int (b), .int (t1 - (20 : Int32)), .int (a), .ref o]) rfl ?_
  refine Wp.inv (d2 := 0) (as := [.int (a), .int (t1 - (20 : Int32)), .int (b)]) (r := [.ref o]) rfl rfl rfl rfl rfl rfl (by omega) (g7 _ ?_)
  show Wp d 69 72 [some (.ref 29), some (.ref o), some (.int (a)), some (.int (t1 - (20 : Int32))), some (.int (b))] [.int (e), .ref o] k3 Q
  refine Wp.invV (d2 := 0) (as := [.ref o, .int (e)]) (r := []) (t := (9, 0)) rfl rfl rfl rfl hO.1 rfl rfl ⟨rfl, rfl⟩ (by omega) (g6 _ ?_)
  show Wp d 69 75 [some (.ref 29), some (.ref o), some (.int (a)), some (.int (t1 - (20 : Int32))), some (.int (b))] [] k4 Q
  refine Wp.seg 1 (pc1 := 76) (ls1 := [some (.ref 29), some (.ref o), some (.int (a)), some (.int (t1 - (20 : Int32))), some (.int (b))]) (st1 := [.int (1)]) rfl ?_
  exact Wp.reti rfl rfl hQ
set_option maxHeartbeats 4000000 in
theorem t_rw1 {d : Nat} {Q : KO → Prop} {h : KH} (hw : WF h) {o : Nat} {D : Nat} {p : Int32} (p3 : ¬ p < 3) (hd : D + 1 ≤ d) (hQ : Q (some (.int (0)), h)) : Cl d 68 [.ref 29, .ref o, .int (p)] h Q := by
  refine Cl.of (ls := [some (.ref 29), some (.ref o), some (.int (p))]) rfl rfl ?_
  refine Wp.seg 2 (pc1 := 2) (ls1 := [some (.ref 29), some (.ref o), some (.int (p))]) (st1 := [.int (3), .int (p)]) rfl ?_
  refine Wp.if2 rfl (fun c1 => absurd c1 (p3)) (fun c1 => ?_)
  refine Wp.seg 1 (pc1 := 6) (ls1 := [some (.ref 29), some (.ref o), some (.int (p))]) (st1 := [.int (0)]) rfl ?_
  exact Wp.reti rfl rfl hQ
set_option maxHeartbeats 4000000 in
theorem t_rw2 {d : Nat} {Q : KO → Prop} {h : KH} (hw : WF h) {k1 : KH} (hwk1 : WF k1) {k2 : KH} (hwk2 : WF k2) {o : Nat} {D : Nat} {p : Int32} (p3 : p < 3) (g1 : ∀ Q : KO → Prop, Q (none, k1) → Cl D 62 [.ref 29] h Q) (g2 : ∀ Q : KO → Prop, Q (some (.int 0), k2) → Cl D 65 [.ref 29, .ref o, .int (p + 1)] k1 Q) (hd : D + 1 ≤ d) (hQ : Q (some (.int (0)), k2)) : Cl d 68 [.ref 29, .ref o, .int (p)] h Q := by
  refine Cl.of (ls := [some (.ref 29), some (.ref o), some (.int (p))]) rfl rfl ?_
  refine Wp.seg 2 (pc1 := 2) (ls1 := [some (.ref 29), some (.ref o), some (.int (p))]) (st1 := [.int (3), .int (p)]) rfl ?_
  refine Wp.if2 rfl (fun c1 => ?_) (fun c1 => absurd (p3) c1)
  refine Wp.seg 1 (pc1 := 8) (ls1 := [some (.ref 29), some (.ref o), some (.int (p))]) (st1 := [.ref 29]) rfl ?_
  refine Wp.invV (d2 := D) (as := [.ref 29]) (r := []) (t := (6, 0)) rfl rfl rfl rfl (WF.t hw 29 rfl) rfl rfl ⟨rfl, rfl⟩ (by omega) (g1 _ ?_)
  show Wp d 68 11 [some (.ref 29), some (.ref o), some (.int (p))] [] k1 Q
  refine Wp.seg 5 (pc1 := 16) (ls1 := [some (.ref 29), some (.ref o), some (.int (p))]) (st1 := [.int (p + (1 : Int32)), .ref o, .ref 29]) rfl ?_
  refine Wp.invV (d2 := D) (as := [.ref 29, .ref o, .int (p + (1 : Int32))]) (r := []) (t := (6, 0)) rfl rfl rfl rfl (WF.t hwk1 29 rfl) rfl rfl ⟨rfl, rfl⟩ (by omega) (g2 _ ?_)
  show Wp d 68 19 [some (.ref 29), some (.ref o), some (.int (p))] [.int (0)] k2 Q
  refine Wp.if1 rfl (fun c2 => ?_) (fun c2 => absurd (show (0 : Int32) = 0 by decide) c2)
  refine Wp.seg 1 (pc1 := 32) (ls1 := [some (.ref 29), some (.ref o), some (.int (p))]) (st1 := [.int (0)]) rfl ?_
  exact Wp.reti rfl rfl hQ
set_option maxHeartbeats 4000000 in
theorem t_rw3 {d : Nat} {Q : KO → Prop} {h : KH} (hw : WF h) {k1 : KH} (hwk1 : WF k1) {k2 : KH} (hwk2 : WF k2) {o : Nat} {D : Nat} {p : Int32} (p3 : p < 3) (g1 : ∀ Q : KO → Prop, Q (none, k1) → Cl D 62 [.ref 29] h Q) (g2 : ∀ Q : KO → Prop, Q (some (.int 1), k2) → Cl D 65 [.ref 29, .ref o, .int (p + 1)] k1 Q) {t2 : Int32} (t_k2 : k2.2.2.1 29 6 = t2) (n24 : ¬ t2 = 24) (hd : D + 1 ≤ d) (hQ : Q (some (.int (0)), k2)) : Cl d 68 [.ref 29, .ref o, .int (p)] h Q := by
  refine Cl.of (ls := [some (.ref 29), some (.ref o), some (.int (p))]) rfl rfl ?_
  refine Wp.seg 2 (pc1 := 2) (ls1 := [some (.ref 29), some (.ref o), some (.int (p))]) (st1 := [.int (3), .int (p)]) rfl ?_
  refine Wp.if2 rfl (fun c1 => ?_) (fun c1 => absurd (p3) c1)
  refine Wp.seg 1 (pc1 := 8) (ls1 := [some (.ref 29), some (.ref o), some (.int (p))]) (st1 := [.ref 29]) rfl ?_
  refine Wp.invV (d2 := D) (as := [.ref 29]) (r := []) (t := (6, 0)) rfl rfl rfl rfl (WF.t hw 29 rfl) rfl rfl ⟨rfl, rfl⟩ (by omega) (g1 _ ?_)
  show Wp d 68 11 [some (.ref 29), some (.ref o), some (.int (p))] [] k1 Q
  refine Wp.seg 5 (pc1 := 16) (ls1 := [some (.ref 29), some (.ref o), some (.int (p))]) (st1 := [.int (p + (1 : Int32)), .ref o, .ref 29]) rfl ?_
  refine Wp.invV (d2 := D) (as := [.ref 29, .ref o, .int (p + (1 : Int32))]) (r := []) (t := (6, 0)) rfl rfl rfl rfl (WF.t hwk1 29 rfl) rfl rfl ⟨rfl, rfl⟩ (by omega) (g2 _ ?_)
  show Wp d 68 19 [some (.ref 29), some (.ref o), some (.int (p))] [.int (1)] k2 Q
  refine Wp.if1 rfl (fun c2 => absurd c2 (show ¬ ((1 : Int32) = 0) by decide)) (fun c2 => ?_)
  refine Wp.seg 1 (pc1 := 23) (ls1 := [some (.ref 29), some (.ref o), some (.int (p))]) (st1 := [.ref 29]) rfl ?_
  refine Wp.gi (t := (6, 0)) rfl (WF.t hwk2 29 rfl) (Or.inl rfl) ?_
  rw [show k2.2.2.1 29 6 = t2 from t_k2]
  refine Wp.seg 1 (pc1 := 28) (ls1 := [some (.ref 29), some (.ref o), some (.int (p))]) (st1 := [.int (24), .int (t2)]) rfl ?_
  refine Wp.if2 rfl (fun c3 => absurd c3 (n24)) (fun c3 => ?_)
  refine Wp.seg 1 (pc1 := 32) (ls1 := [some (.ref 29), some (.ref o), some (.int (p))]) (st1 := [.int (0)]) rfl ?_
  exact Wp.reti rfl rfl hQ
set_option maxHeartbeats 4000000 in
theorem t_rw4 {d : Nat} {Q : KO → Prop} {h : KH} (hw : WF h) {k1 : KH} (hwk1 : WF k1) {k2 : KH} (hwk2 : WF k2) {k3 : KH} (hwk3 : WF k3) {o : Nat} {D : Nat} {p : Int32} (p3 : p < 3) (g1 : ∀ Q : KO → Prop, Q (none, k1) → Cl D 62 [.ref 29] h Q) (g2 : ∀ Q : KO → Prop, Q (some (.int 1), k2) → Cl D 65 [.ref 29, .ref o, .int (p + 1)] k1 Q) {t2 : Int32} (t_k2 : k2.2.2.1 29 6 = t2) (n24 : t2 = 24) (g3 : ∀ Q : KO → Prop, Q (none, k3) → Cl D 62 [.ref 29] k2 Q) (hd : D + 1 ≤ d) (hQ : Q (some (.int (1)), k3)) : Cl d 68 [.ref 29, .ref o, .int (p)] h Q := by
  refine Cl.of (ls := [some (.ref 29), some (.ref o), some (.int (p))]) rfl rfl ?_
  refine Wp.seg 2 (pc1 := 2) (ls1 := [some (.ref 29), some (.ref o), some (.int (p))]) (st1 := [.int (3), .int (p)]) rfl ?_
  refine Wp.if2 rfl (fun c1 => ?_) (fun c1 => absurd (p3) c1)
  refine Wp.seg 1 (pc1 := 8) (ls1 := [some (.ref 29), some (.ref o), some (.int (p))]) (st1 := [.ref 29]) rfl ?_
  refine Wp.invV (d2 := D) (as := [.ref 29]) (r := []) (t := (6, 0)) rfl rfl rfl rfl (WF.t hw 29 rfl) rfl rfl ⟨rfl, rfl⟩ (by omega) (g1 _ ?_)
  show Wp d 68 11 [some (.ref 29), some (.ref o), some (.int (p))] [] k1 Q
  refine Wp.seg 5 (pc1 := 16) (ls1 := [some (.ref 29), some (.ref o), some (.int (p))]) (st1 := [.int (p + (1 : Int32)), .ref o, .ref 29]) rfl ?_
  refine Wp.invV (d2 := D) (as := [.ref 29, .ref o, .int (p + (1 : Int32))]) (r := []) (t := (6, 0)) rfl rfl rfl rfl (WF.t hwk1 29 rfl) rfl rfl ⟨rfl, rfl⟩ (by omega) (g2 _ ?_)
  show Wp d 68 19 [some (.ref 29), some (.ref o), some (.int (p))] [.int (1)] k2 Q
  refine Wp.if1 rfl (fun c2 => absurd c2 (show ¬ ((1 : Int32) = 0) by decide)) (fun c2 => ?_)
  refine Wp.seg 1 (pc1 := 23) (ls1 := [some (.ref 29), some (.ref o), some (.int (p))]) (st1 := [.ref 29]) rfl ?_
  refine Wp.gi (t := (6, 0)) rfl (WF.t hwk2 29 rfl) (Or.inl rfl) ?_
  rw [show k2.2.2.1 29 6 = t2 from t_k2]
  refine Wp.seg 1 (pc1 := 28) (ls1 := [some (.ref 29), some (.ref o), some (.int (p))]) (st1 := [.int (24), .int (t2)]) rfl ?_
  refine Wp.if2 rfl (fun c3 => ?_) (fun c3 => absurd (n24) c3)
  refine Wp.seg 1 (pc1 := 34) (ls1 := [some (.ref 29), some (.ref o), some (.int (p))]) (st1 := [.ref 29]) rfl ?_
  refine Wp.invV (d2 := D) (as := [.ref 29]) (r := []) (t := (6, 0)) rfl rfl rfl rfl (WF.t hwk2 29 rfl) rfl rfl ⟨rfl, rfl⟩ (by omega) (g3 _ ?_)
  show Wp d 68 37 [some (.ref 29), some (.ref o), some (.int (p))] [] k3 Q
  refine Wp.seg 1 (pc1 := 38) (ls1 := [some (.ref 29), some (.ref o), some (.int (p))]) (st1 := [.int (1)]) rfl ?_
  exact Wp.reti rfl rfl hQ
set_option maxHeartbeats 4000000 in
theorem t_ro0 {d : Nat} {Q : KO → Prop} {h : KH} (hw : WF h) {o : Nat} {D : Nat} {p : Int32} (hd : D + 1 ≤ d) (hQ : Wp d 67 5 ([some (.ref 29), some (.ref o), some (.int (p)), some (.int (0)), some (.int (0))]) [] h Q) : Cl d 67 [.ref 29, .ref o, .int (p)] h Q := by
  refine Cl.of (ls := [some (.ref 29), some (.ref o), some (.int (p)), none, none]) rfl rfl ?_
  refine Wp.seg 4 (pc1 := 5) (ls1 := [some (.ref 29), some (.ref o), some (.int (p)), some (.int (0)), some (.int (0))]) (st1 := []) rfl ?_
  exact hQ
set_option maxHeartbeats 4000000 in
theorem t_roA0 {d : Nat} {Q : KO → Prop} {h : KH} (hw : WF h) {o : Nat} {D : Nat} {p : Int32} {i : Nat} {x : Int32} (t_h : h.2.2.1 29 6 = x) (n12 : ¬ x = 12) (hd : D + 1 ≤ d) (hQ : Wp d 67 42 ([some (.ref 29), some (.ref o), some (.int (p)), some (.int (0)), some (.int (Int32.ofNat i))]) [] h Q) : Wp d 67 5 [some (.ref 29), some (.ref o), some (.int (p)), some (.int (0)), some (.int (Int32.ofNat i))] [] h Q := by
  refine Wp.seg 1 (pc1 := 6) (ls1 := [some (.ref 29), some (.ref o), some (.int (p)), some (.int (0)), some (.int (Int32.ofNat i))]) (st1 := [.ref 29]) rfl ?_
  refine Wp.gi (t := (6, 0)) rfl (WF.t hw 29 rfl) (Or.inl rfl) ?_
  rw [show h.2.2.1 29 6 = x from t_h]
  refine Wp.seg 1 (pc1 := 11) (ls1 := [some (.ref 29), some (.ref o), some (.int (p)), some (.int (0)), some (.int (Int32.ofNat i))]) (st1 := [.int (12), .int (x)]) rfl ?_
  refine Wp.if2 rfl (fun c1 => ?_) (fun c1 => absurd (n12) c1)
  exact hQ
set_option maxHeartbeats 4000000 in
theorem t_roB0 {d : Nat} {Q : KO → Prop} {h : KH} (hw : WF h) {o : Nat} {D : Nat} {p : Int32} {i : Nat} {x : Int32} (t_h : h.2.2.1 29 6 = x) (n12 : x = 12) (i2 : (200 : Int32) ≤ Int32.ofNat i) (hd : D + 1 ≤ d) (hQ : Wp d 67 42 ([some (.ref 29), some (.ref o), some (.int (p)), some (.int (0)), some (.int (Int32.ofNat i))]) [] h Q) : Wp d 67 5 [some (.ref 29), some (.ref o), some (.int (p)), some (.int (0)), some (.int (Int32.ofNat i))] [] h Q := by
  refine Wp.seg 1 (pc1 := 6) (ls1 := [some (.ref 29), some (.ref o), some (.int (p)), some (.int (0)), some (.int (Int32.ofNat i))]) (st1 := [.ref 29]) rfl ?_
  refine Wp.gi (t := (6, 0)) rfl (WF.t hw 29 rfl) (Or.inl rfl) ?_
  rw [show h.2.2.1 29 6 = x from t_h]
  refine Wp.seg 1 (pc1 := 11) (ls1 := [some (.ref 29), some (.ref o), some (.int (p)), some (.int (0)), some (.int (Int32.ofNat i))]) (st1 := [.int (12), .int (x)]) rfl ?_
  refine Wp.if2 rfl (fun c1 => absurd c1 (fun z => z n12)) (fun c1 => ?_)
  refine Wp.seg 2 (pc1 := 19) (ls1 := [some (.ref 29), some (.ref o), some (.int (p)), some (.int (0)), some (.int (Int32.ofNat i))]) (st1 := [.int (200), .int (Int32.ofNat i)]) rfl ?_
  refine Wp.if2 rfl (fun c2 => ?_) (fun c2 => absurd (i2) c2)
  exact hQ
set_option maxHeartbeats 4000000 in
theorem t_roC0 {d : Nat} {Q : KO → Prop} {h : KH} (hw : WF h) {k1 : KH} (hwk1 : WF k1) {o : Nat} {D : Nat} {p : Int32} {i : Nat} {x : Int32} (t_h : h.2.2.1 29 6 = x) (n12 : x = 12) (i2 : ¬ (200 : Int32) ≤ Int32.ofNat i) (g1 : ∀ Q : KO → Prop, Q (none, k1) → Cl D 62 [.ref 29] h Q) (hd : D + 1 ≤ d) (hQ : Wp d 67 5 ([some (.ref 29), some (.ref o), some (.int (p)), some (.int (1)), some (.int ((Int32.ofNat i) + 1))]) [] k1 Q) : Wp d 67 5 [some (.ref 29), some (.ref o), some (.int (p)), some (.int (0)), some (.int (Int32.ofNat i))] [] h Q := by
  refine Wp.seg 1 (pc1 := 6) (ls1 := [some (.ref 29), some (.ref o), some (.int (p)), some (.int (0)), some (.int (Int32.ofNat i))]) (st1 := [.ref 29]) rfl ?_
  refine Wp.gi (t := (6, 0)) rfl (WF.t hw 29 rfl) (Or.inl rfl) ?_
  rw [show h.2.2.1 29 6 = x from t_h]
  refine Wp.seg 1 (pc1 := 11) (ls1 := [some (.ref 29), some (.ref o), some (.int (p)), some (.int (0)), some (.int (Int32.ofNat i))]) (st1 := [.int (12), .int (x)]) rfl ?_
  refine Wp.if2 rfl (fun c1 => absurd c1 (fun z => z n12)) (fun c1 => ?_)
  refine Wp.seg 2 (pc1 := 19) (ls1 := [some (.ref 29), some (.ref o), some (.int (p)), some (.int (0)), some (.int (Int32.ofNat i))]) (st1 := [.int (200), .int (Int32.ofNat i)]) rfl ?_
  refine Wp.if2 rfl (fun c2 => absurd c2 (i2)) (fun c2 => ?_)
  refine Wp.seg 1 (pc1 := 23) (ls1 := [some (.ref 29), some (.ref o), some (.int (p)), some (.int (0)), some (.int (Int32.ofNat i))]) (st1 := [.int (0)]) rfl ?_
  refine Wp.if1 rfl (fun c3 => absurd c3 (show ¬ (¬ (0 : Int32) = 0) by decide)) (fun c3 => ?_)
  refine Wp.seg 4 (pc1 := 33) (ls1 := [some (.ref 29), some (.ref o), some (.int (p)), some (.int (1)), some (.int (Int32.ofNat i))]) (st1 := [.ref 29]) rfl ?_
  refine Wp.invV (d2 := D) (as := [.ref 29]) (r := []) (t := (6, 0)) rfl rfl rfl rfl (WF.t hw 29 rfl) rfl rfl ⟨rfl, rfl⟩ (by omega) (g1 _ ?_)
  show Wp d 67 36 [some (.ref 29), some (.ref o), some (.int (p)), some (.int (1)), some (.int (Int32.ofNat i))] [] k1 Q
  refine Wp.seg 2 (pc1 := 5) (ls1 := [some (.ref 29), some (.ref o), some (.int (p)), some (.int (1)), some (.int ((Int32.ofNat i) + 1))]) (st1 := []) rfl ?_
  exact hQ
set_option maxHeartbeats 4000000 in
theorem t_roW00 {d : Nat} {Q : KO → Prop} {h : KH} (hw : WF h) {k1 : KH} (hwk1 : WF k1) {o : Nat} {D : Nat} {p i : Int32} {x : Int32} (t_h : h.2.2.1 29 6 = x) (c23 : x = 23) (g1 : ∀ Q : KO → Prop, Q (some (.int 0), k1) → Cl D 68 [.ref 29, .ref o, .int p] h Q) (hd : D + 1 ≤ d) (hQ : Q (some (.int (0)), k1)) : Wp d 67 42 [some (.ref 29), some (.ref o), some (.int (p)), some (.int (0)), some (.int (i))] [] h Q := by
  refine Wp.seg 1 (pc1 := 43) (ls1 := [some (.ref 29), some (.ref o), some (.int (p)), some (.int (0)), some (.int (i))]) (st1 := [.ref 29]) rfl ?_
  refine Wp.gi (t := (6, 0)) rfl (WF.t hw 29 rfl) (Or.inl rfl) ?_
  rw [show h.2.2.1 29 6 = x from t_h]
  refine Wp.seg 1 (pc1 := 48) (ls1 := [some (.ref 29), some (.ref o), some (.int (p)), some (.int (0)), some (.int (i))]) (st1 := [.int (23), .int (x)]) rfl ?_
  refine Wp.if2 rfl (fun c1 => absurd c1 (fun z => z c23)) (fun c1 => ?_)
  refine Wp.seg 3 (pc1 := 54) (ls1 := [some (.ref 29), some (.ref o), some (.int (p)), some (.int (0)), some (.int (i))]) (st1 := [.int (p), .ref o, .ref 29]) rfl ?_
  refine Wp.invV (d2 := D) (as := [.ref 29, .ref o, .int (p)]) (r := []) (t := (6, 0)) rfl rfl rfl rfl (WF.t hw 29 rfl) rfl rfl ⟨rfl, rfl⟩ (by omega) (g1 _ ?_)
  show Wp d 67 57 [some (.ref 29), some (.ref o), some (.int (p)), some (.int (0)), some (.int (i))] [.int (0)] k1 Q
  refine Wp.seg 3 (pc1 := 69) (ls1 := [some (.ref 29), some (.ref o), some (.int (p)), some (.int (0)), some (.int (0))]) (st1 := [.int (0)]) rfl ?_
  refine Wp.if1 rfl (fun c2 => ?_) (fun c2 => absurd (show (0 : Int32) = 0 by decide) c2)
  refine Wp.seg 1 (pc1 := 84) (ls1 := [some (.ref 29), some (.ref o), some (.int (p)), some (.int (0)), some (.int (0))]) (st1 := [.int (0)]) rfl ?_
  exact Wp.reti rfl rfl hQ
set_option maxHeartbeats 4000000 in
theorem t_roW01 {d : Nat} {Q : KO → Prop} {h : KH} (hw : WF h) {k1 : KH} (hwk1 : WF k1) {o : Nat} {D : Nat} {p i : Int32} {x : Int32} (t_h : h.2.2.1 29 6 = x) (c23 : x = 23) (g1 : ∀ Q : KO → Prop, Q (some (.int 1), k1) → Cl D 68 [.ref 29, .ref o, .int p] h Q) (hd : D + 1 ≤ d) (hQ : Q (some (.int (1)), k1)) : Wp d 67 42 [some (.ref 29), some (.ref o), some (.int (p)), some (.int (0)), some (.int (i))] [] h Q := by
  refine Wp.seg 1 (pc1 := 43) (ls1 := [some (.ref 29), some (.ref o), some (.int (p)), some (.int (0)), some (.int (i))]) (st1 := [.ref 29]) rfl ?_
  refine Wp.gi (t := (6, 0)) rfl (WF.t hw 29 rfl) (Or.inl rfl) ?_
  rw [show h.2.2.1 29 6 = x from t_h]
  refine Wp.seg 1 (pc1 := 48) (ls1 := [some (.ref 29), some (.ref o), some (.int (p)), some (.int (0)), some (.int (i))]) (st1 := [.int (23), .int (x)]) rfl ?_
  refine Wp.if2 rfl (fun c1 => absurd c1 (fun z => z c23)) (fun c1 => ?_)
  refine Wp.seg 3 (pc1 := 54) (ls1 := [some (.ref 29), some (.ref o), some (.int (p)), some (.int (0)), some (.int (i))]) (st1 := [.int (p), .ref o, .ref 29]) rfl ?_
  refine Wp.invV (d2 := D) (as := [.ref 29, .ref o, .int (p)]) (r := []) (t := (6, 0)) rfl rfl rfl rfl (WF.t hw 29 rfl) rfl rfl ⟨rfl, rfl⟩ (by omega) (g1 _ ?_)
  show Wp d 67 57 [some (.ref 29), some (.ref o), some (.int (p)), some (.int (0)), some (.int (i))] [.int (1)] k1 Q
  refine Wp.seg 3 (pc1 := 69) (ls1 := [some (.ref 29), some (.ref o), some (.int (p)), some (.int (0)), some (.int (1))]) (st1 := [.int (1)]) rfl ?_
  refine Wp.if1 rfl (fun c2 => absurd c2 (show ¬ ((1 : Int32) = 0) by decide)) (fun c2 => ?_)
  refine Wp.seg 1 (pc1 := 73) (ls1 := [some (.ref 29), some (.ref o), some (.int (p)), some (.int (0)), some (.int (1))]) (st1 := [.int (0)]) rfl ?_
  refine Wp.if1 rfl (fun c3 => ?_) (fun c3 => absurd (show (0 : Int32) = 0 by decide) c3)
  refine Wp.seg 1 (pc1 := 84) (ls1 := [some (.ref 29), some (.ref o), some (.int (p)), some (.int (0)), some (.int (1))]) (st1 := [.int (1)]) rfl ?_
  exact Wp.reti rfl rfl hQ
set_option maxHeartbeats 4000000 in
theorem t_roK00 {d : Nat} {Q : KO → Prop} {h : KH} (hw : WF h) {k1 : KH} (hwk1 : WF k1) {o : Nat} {D : Nat} {p i : Int32} {x : Int32} (t_h : h.2.2.1 29 6 = x) (c23 : ¬ x = 23) (g1 : ∀ Q : KO → Prop, Q (some (.int 0), k1) → Cl D 69 [.ref 29, .ref o] h Q) (hd : D + 1 ≤ d) (hQ : Q (some (.int (0)), k1)) : Wp d 67 42 [some (.ref 29), some (.ref o), some (.int (p)), some (.int (0)), some (.int (i))] [] h Q := by
  refine Wp.seg 1 (pc1 := 43) (ls1 := [some (.ref 29), some (.ref o), some (.int (p)), some (.int (0)), some (.int (i))]) (st1 := [.ref 29]) rfl ?_
  refine Wp.gi (t := (6, 0)) rfl (WF.t hw 29 rfl) (Or.inl rfl) ?_
  rw [show h.2.2.1 29 6 = x from t_h]
  refine Wp.seg 1 (pc1 := 48) (ls1 := [some (.ref 29), some (.ref o), some (.int (p)), some (.int (0)), some (.int (i))]) (st1 := [.int (23), .int (x)]) rfl ?_
  refine Wp.if2 rfl (fun c1 => ?_) (fun c1 => absurd (c23) c1)
  refine Wp.seg 2 (pc1 := 62) (ls1 := [some (.ref 29), some (.ref o), some (.int (p)), some (.int (0)), some (.int (i))]) (st1 := [.ref o, .ref 29]) rfl ?_
  refine Wp.invV (d2 := D) (as := [.ref 29, .ref o]) (r := []) (t := (6, 0)) rfl rfl rfl rfl (WF.t hw 29 rfl) rfl rfl ⟨rfl, rfl⟩ (by omega) (g1 _ ?_)
  show Wp d 67 65 [some (.ref 29), some (.ref o), some (.int (p)), some (.int (0)), some (.int (i))] [.int (0)] k1 Q
  refine Wp.seg 2 (pc1 := 69) (ls1 := [some (.ref 29), some (.ref o), some (.int (p)), some (.int (0)), some (.int (0))]) (st1 := [.int (0)]) rfl ?_
  refine Wp.if1 rfl (fun c2 => ?_) (fun c2 => absurd (show (0 : Int32) = 0 by decide) c2)
  refine Wp.seg 1 (pc1 := 84) (ls1 := [some (.ref 29), some (.ref o), some (.int (p)), some (.int (0)), some (.int (0))]) (st1 := [.int (0)]) rfl ?_
  exact Wp.reti rfl rfl hQ
set_option maxHeartbeats 4000000 in
theorem t_roK01 {d : Nat} {Q : KO → Prop} {h : KH} (hw : WF h) {k1 : KH} (hwk1 : WF k1) {o : Nat} {D : Nat} {p i : Int32} {x : Int32} (t_h : h.2.2.1 29 6 = x) (c23 : ¬ x = 23) (g1 : ∀ Q : KO → Prop, Q (some (.int 1), k1) → Cl D 69 [.ref 29, .ref o] h Q) (hd : D + 1 ≤ d) (hQ : Q (some (.int (1)), k1)) : Wp d 67 42 [some (.ref 29), some (.ref o), some (.int (p)), some (.int (0)), some (.int (i))] [] h Q := by
  refine Wp.seg 1 (pc1 := 43) (ls1 := [some (.ref 29), some (.ref o), some (.int (p)), some (.int (0)), some (.int (i))]) (st1 := [.ref 29]) rfl ?_
  refine Wp.gi (t := (6, 0)) rfl (WF.t hw 29 rfl) (Or.inl rfl) ?_
  rw [show h.2.2.1 29 6 = x from t_h]
  refine Wp.seg 1 (pc1 := 48) (ls1 := [some (.ref 29), some (.ref o), some (.int (p)), some (.int (0)), some (.int (i))]) (st1 := [.int (23), .int (x)]) rfl ?_
  refine Wp.if2 rfl (fun c1 => ?_) (fun c1 => absurd (c23) c1)
  refine Wp.seg 2 (pc1 := 62) (ls1 := [some (.ref 29), some (.ref o), some (.int (p)), some (.int (0)), some (.int (i))]) (st1 := [.ref o, .ref 29]) rfl ?_
  refine Wp.invV (d2 := D) (as := [.ref 29, .ref o]) (r := []) (t := (6, 0)) rfl rfl rfl rfl (WF.t hw 29 rfl) rfl rfl ⟨rfl, rfl⟩ (by omega) (g1 _ ?_)
  show Wp d 67 65 [some (.ref 29), some (.ref o), some (.int (p)), some (.int (0)), some (.int (i))] [.int (1)] k1 Q
  refine Wp.seg 2 (pc1 := 69) (ls1 := [some (.ref 29), some (.ref o), some (.int (p)), some (.int (0)), some (.int (1))]) (st1 := [.int (1)]) rfl ?_
  refine Wp.if1 rfl (fun c2 => absurd c2 (show ¬ ((1 : Int32) = 0) by decide)) (fun c2 => ?_)
  refine Wp.seg 1 (pc1 := 73) (ls1 := [some (.ref 29), some (.ref o), some (.int (p)), some (.int (0)), some (.int (1))]) (st1 := [.int (0)]) rfl ?_
  refine Wp.if1 rfl (fun c3 => ?_) (fun c3 => absurd (show (0 : Int32) = 0 by decide) c3)
  refine Wp.seg 1 (pc1 := 84) (ls1 := [some (.ref 29), some (.ref o), some (.int (p)), some (.int (0)), some (.int (1))]) (st1 := [.int (1)]) rfl ?_
  exact Wp.reti rfl rfl hQ
set_option maxHeartbeats 4000000 in
theorem t_roA1 {d : Nat} {Q : KO → Prop} {h : KH} (hw : WF h) {o : Nat} {D : Nat} {p : Int32} {i : Nat} {x : Int32} (t_h : h.2.2.1 29 6 = x) (n12 : ¬ x = 12) (hd : D + 1 ≤ d) (hQ : Wp d 67 42 ([some (.ref 29), some (.ref o), some (.int (p)), some (.int (1)), some (.int (Int32.ofNat i))]) [] h Q) : Wp d 67 5 [some (.ref 29), some (.ref o), some (.int (p)), some (.int (1)), some (.int (Int32.ofNat i))] [] h Q := by
  refine Wp.seg 1 (pc1 := 6) (ls1 := [some (.ref 29), some (.ref o), some (.int (p)), some (.int (1)), some (.int (Int32.ofNat i))]) (st1 := [.ref 29]) rfl ?_
  refine Wp.gi (t := (6, 0)) rfl (WF.t hw 29 rfl) (Or.inl rfl) ?_
  rw [show h.2.2.1 29 6 = x from t_h]
  refine Wp.seg 1 (pc1 := 11) (ls1 := [some (.ref 29), some (.ref o), some (.int (p)), some (.int (1)), some (.int (Int32.ofNat i))]) (st1 := [.int (12), .int (x)]) rfl ?_
  refine Wp.if2 rfl (fun c1 => ?_) (fun c1 => absurd (n12) c1)
  exact hQ
set_option maxHeartbeats 4000000 in
theorem t_roB1 {d : Nat} {Q : KO → Prop} {h : KH} (hw : WF h) {o : Nat} {D : Nat} {p : Int32} {i : Nat} {x : Int32} (t_h : h.2.2.1 29 6 = x) (n12 : x = 12) (i2 : (200 : Int32) ≤ Int32.ofNat i) (hd : D + 1 ≤ d) (hQ : Wp d 67 42 ([some (.ref 29), some (.ref o), some (.int (p)), some (.int (1)), some (.int (Int32.ofNat i))]) [] h Q) : Wp d 67 5 [some (.ref 29), some (.ref o), some (.int (p)), some (.int (1)), some (.int (Int32.ofNat i))] [] h Q := by
  refine Wp.seg 1 (pc1 := 6) (ls1 := [some (.ref 29), some (.ref o), some (.int (p)), some (.int (1)), some (.int (Int32.ofNat i))]) (st1 := [.ref 29]) rfl ?_
  refine Wp.gi (t := (6, 0)) rfl (WF.t hw 29 rfl) (Or.inl rfl) ?_
  rw [show h.2.2.1 29 6 = x from t_h]
  refine Wp.seg 1 (pc1 := 11) (ls1 := [some (.ref 29), some (.ref o), some (.int (p)), some (.int (1)), some (.int (Int32.ofNat i))]) (st1 := [.int (12), .int (x)]) rfl ?_
  refine Wp.if2 rfl (fun c1 => absurd c1 (fun z => z n12)) (fun c1 => ?_)
  refine Wp.seg 2 (pc1 := 19) (ls1 := [some (.ref 29), some (.ref o), some (.int (p)), some (.int (1)), some (.int (Int32.ofNat i))]) (st1 := [.int (200), .int (Int32.ofNat i)]) rfl ?_
  refine Wp.if2 rfl (fun c2 => ?_) (fun c2 => absurd (i2) c2)
  exact hQ
set_option maxHeartbeats 4000000 in
theorem t_roC1 {d : Nat} {Q : KO → Prop} {h : KH} (hw : WF h) {k1 : KH} (hwk1 : WF k1) {o : Nat} {D : Nat} {p : Int32} {i : Nat} {x : Int32} (t_h : h.2.2.1 29 6 = x) (n12 : x = 12) (i2 : ¬ (200 : Int32) ≤ Int32.ofNat i) (g1 : ∀ Q : KO → Prop, Q (none, k1) → Cl D 62 [.ref 29] h Q) (hd : D + 1 ≤ d) (hQ : Wp d 67 5 ([some (.ref 29), some (.ref o), some (.int (p)), some (.int (0)), some (.int ((Int32.ofNat i) + 1))]) [] k1 Q) : Wp d 67 5 [some (.ref 29), some (.ref o), some (.int (p)), some (.int (1)), some (.int (Int32.ofNat i))] [] h Q := by
  refine Wp.seg 1 (pc1 := 6) (ls1 := [some (.ref 29), some (.ref o), some (.int (p)), some (.int (1)), some (.int (Int32.ofNat i))]) (st1 := [.ref 29]) rfl ?_
  refine Wp.gi (t := (6, 0)) rfl (WF.t hw 29 rfl) (Or.inl rfl) ?_
  rw [show h.2.2.1 29 6 = x from t_h]
  refine Wp.seg 1 (pc1 := 11) (ls1 := [some (.ref 29), some (.ref o), some (.int (p)), some (.int (1)), some (.int (Int32.ofNat i))]) (st1 := [.int (12), .int (x)]) rfl ?_
  refine Wp.if2 rfl (fun c1 => absurd c1 (fun z => z n12)) (fun c1 => ?_)
  refine Wp.seg 2 (pc1 := 19) (ls1 := [some (.ref 29), some (.ref o), some (.int (p)), some (.int (1)), some (.int (Int32.ofNat i))]) (st1 := [.int (200), .int (Int32.ofNat i)]) rfl ?_
  refine Wp.if2 rfl (fun c2 => absurd c2 (i2)) (fun c2 => ?_)
  refine Wp.seg 1 (pc1 := 23) (ls1 := [some (.ref 29), some (.ref o), some (.int (p)), some (.int (1)), some (.int (Int32.ofNat i))]) (st1 := [.int (1)]) rfl ?_
  refine Wp.if1 rfl (fun c3 => ?_) (fun c3 => absurd (show ¬ (1 : Int32) = 0 by decide) c3)
  refine Wp.seg 3 (pc1 := 33) (ls1 := [some (.ref 29), some (.ref o), some (.int (p)), some (.int (0)), some (.int (Int32.ofNat i))]) (st1 := [.ref 29]) rfl ?_
  refine Wp.invV (d2 := D) (as := [.ref 29]) (r := []) (t := (6, 0)) rfl rfl rfl rfl (WF.t hw 29 rfl) rfl rfl ⟨rfl, rfl⟩ (by omega) (g1 _ ?_)
  show Wp d 67 36 [some (.ref 29), some (.ref o), some (.int (p)), some (.int (0)), some (.int (Int32.ofNat i))] [] k1 Q
  refine Wp.seg 2 (pc1 := 5) (ls1 := [some (.ref 29), some (.ref o), some (.int (p)), some (.int (0)), some (.int ((Int32.ofNat i) + 1))]) (st1 := []) rfl ?_
  exact hQ
set_option maxHeartbeats 4000000 in
theorem t_roW10 {d : Nat} {Q : KO → Prop} {h : KH} (hw : WF h) {k1 : KH} (hwk1 : WF k1) {o : Nat} {D : Nat} {p i : Int32} {x : Int32} (t_h : h.2.2.1 29 6 = x) (c23 : x = 23) (g1 : ∀ Q : KO → Prop, Q (some (.int 0), k1) → Cl D 68 [.ref 29, .ref o, .int p] h Q) (hd : D + 1 ≤ d) (hQ : Q (some (.int (0)), k1)) : Wp d 67 42 [some (.ref 29), some (.ref o), some (.int (p)), some (.int (1)), some (.int (i))] [] h Q := by
  refine Wp.seg 1 (pc1 := 43) (ls1 := [some (.ref 29), some (.ref o), some (.int (p)), some (.int (1)), some (.int (i))]) (st1 := [.ref 29]) rfl ?_
  refine Wp.gi (t := (6, 0)) rfl (WF.t hw 29 rfl) (Or.inl rfl) ?_
  rw [show h.2.2.1 29 6 = x from t_h]
  refine Wp.seg 1 (pc1 := 48) (ls1 := [some (.ref 29), some (.ref o), some (.int (p)), some (.int (1)), some (.int (i))]) (st1 := [.int (23), .int (x)]) rfl ?_
  refine Wp.if2 rfl (fun c1 => absurd c1 (fun z => z c23)) (fun c1 => ?_)
  refine Wp.seg 3 (pc1 := 54) (ls1 := [some (.ref 29), some (.ref o), some (.int (p)), some (.int (1)), some (.int (i))]) (st1 := [.int (p), .ref o, .ref 29]) rfl ?_
  refine Wp.invV (d2 := D) (as := [.ref 29, .ref o, .int (p)]) (r := []) (t := (6, 0)) rfl rfl rfl rfl (WF.t hw 29 rfl) rfl rfl ⟨rfl, rfl⟩ (by omega) (g1 _ ?_)
  show Wp d 67 57 [some (.ref 29), some (.ref o), some (.int (p)), some (.int (1)), some (.int (i))] [.int (0)] k1 Q
  refine Wp.seg 3 (pc1 := 69) (ls1 := [some (.ref 29), some (.ref o), some (.int (p)), some (.int (1)), some (.int (0))]) (st1 := [.int (0)]) rfl ?_
  refine Wp.if1 rfl (fun c2 => ?_) (fun c2 => absurd (show (0 : Int32) = 0 by decide) c2)
  refine Wp.seg 1 (pc1 := 84) (ls1 := [some (.ref 29), some (.ref o), some (.int (p)), some (.int (1)), some (.int (0))]) (st1 := [.int (0)]) rfl ?_
  exact Wp.reti rfl rfl hQ
set_option maxHeartbeats 4000000 in
theorem t_roW11 {d : Nat} {Q : KO → Prop} {h : KH} (hw : WF h) {k1 : KH} (hwk1 : WF k1) {k2 : KH} (hwk2 : WF k2) {o L : Nat} (hO : rulO k1 o L) {D : Nat} {p i : Int32} {x : Int32} (t_h : h.2.2.1 29 6 = x) (c23 : x = 23) (g1 : ∀ Q : KO → Prop, Q (some (.int 1), k1) → Cl D 68 [.ref 29, .ref o, .int p] h Q) (g2 : ∀ Q : KO → Prop, Q (none, k2) → Cl D 75 [.ref o, .int (-3)] k1 Q) (hd : D + 1 ≤ d) (hQ : Q (some (.int (1)), k2)) : Wp d 67 42 [some (.ref 29), some (.ref o), some (.int (p)), some (.int (1)), some (.int (i))] [] h Q := by
  refine Wp.seg 1 (pc1 := 43) (ls1 := [some (.ref 29), some (.ref o), some (.int (p)), some (.int (1)), some (.int (i))]) (st1 := [.ref 29]) rfl ?_
  refine Wp.gi (t := (6, 0)) rfl (WF.t hw 29 rfl) (Or.inl rfl) ?_
  rw [show h.2.2.1 29 6 = x from t_h]
  refine Wp.seg 1 (pc1 := 48) (ls1 := [some (.ref 29), some (.ref o), some (.int (p)), some (.int (1)), some (.int (i))]) (st1 := [.int (23), .int (x)]) rfl ?_
  refine Wp.if2 rfl (fun c1 => absurd c1 (fun z => z c23)) (fun c1 => ?_)
  refine Wp.seg 3 (pc1 := 54) (ls1 := [some (.ref 29), some (.ref o), some (.int (p)), some (.int (1)), some (.int (i))]) (st1 := [.int (p), .ref o, .ref 29]) rfl ?_
  refine Wp.invV (d2 := D) (as := [.ref 29, .ref o, .int (p)]) (r := []) (t := (6, 0)) rfl rfl rfl rfl (WF.t hw 29 rfl) rfl rfl ⟨rfl, rfl⟩ (by omega) (g1 _ ?_)
  show Wp d 67 57 [some (.ref 29), some (.ref o), some (.int (p)), some (.int (1)), some (.int (i))] [.int (1)] k1 Q
  refine Wp.seg 3 (pc1 := 69) (ls1 := [some (.ref 29), some (.ref o), some (.int (p)), some (.int (1)), some (.int (1))]) (st1 := [.int (1)]) rfl ?_
  refine Wp.if1 rfl (fun c2 => absurd c2 (show ¬ ((1 : Int32) = 0) by decide)) (fun c2 => ?_)
  refine Wp.seg 1 (pc1 := 73) (ls1 := [some (.ref 29), some (.ref o), some (.int (p)), some (.int (1)), some (.int (1))]) (st1 := [.int (1)]) rfl ?_
  refine Wp.if1 rfl (fun c3 => absurd c3 (show ¬ ((1 : Int32) = 0) by decide)) (fun c3 => ?_)
  refine Wp.seg 2 (pc1 := 79) (ls1 := [some (.ref 29), some (.ref o), some (.int (p)), some (.int (1)), some (.int (1))]) (st1 := [.int (-3), .ref o]) rfl ?_
  refine Wp.invV (d2 := D) (as := [.ref o, .int (-3)]) (r := []) (t := (9, 0)) rfl rfl rfl rfl hO.1 rfl rfl ⟨rfl, rfl⟩ (by omega) (g2 _ ?_)
  show Wp d 67 82 [some (.ref 29), some (.ref o), some (.int (p)), some (.int (1)), some (.int (1))] [] k2 Q
  refine Wp.seg 1 (pc1 := 84) (ls1 := [some (.ref 29), some (.ref o), some (.int (p)), some (.int (1)), some (.int (1))]) (st1 := [.int (1)]) rfl ?_
  exact Wp.reti rfl rfl hQ
set_option maxHeartbeats 4000000 in
theorem t_roK10 {d : Nat} {Q : KO → Prop} {h : KH} (hw : WF h) {k1 : KH} (hwk1 : WF k1) {o : Nat} {D : Nat} {p i : Int32} {x : Int32} (t_h : h.2.2.1 29 6 = x) (c23 : ¬ x = 23) (g1 : ∀ Q : KO → Prop, Q (some (.int 0), k1) → Cl D 69 [.ref 29, .ref o] h Q) (hd : D + 1 ≤ d) (hQ : Q (some (.int (0)), k1)) : Wp d 67 42 [some (.ref 29), some (.ref o), some (.int (p)), some (.int (1)), some (.int (i))] [] h Q := by
  refine Wp.seg 1 (pc1 := 43) (ls1 := [some (.ref 29), some (.ref o), some (.int (p)), some (.int (1)), some (.int (i))]) (st1 := [.ref 29]) rfl ?_
  refine Wp.gi (t := (6, 0)) rfl (WF.t hw 29 rfl) (Or.inl rfl) ?_
  rw [show h.2.2.1 29 6 = x from t_h]
  refine Wp.seg 1 (pc1 := 48) (ls1 := [some (.ref 29), some (.ref o), some (.int (p)), some (.int (1)), some (.int (i))]) (st1 := [.int (23), .int (x)]) rfl ?_
  refine Wp.if2 rfl (fun c1 => ?_) (fun c1 => absurd (c23) c1)
  refine Wp.seg 2 (pc1 := 62) (ls1 := [some (.ref 29), some (.ref o), some (.int (p)), some (.int (1)), some (.int (i))]) (st1 := [.ref o, .ref 29]) rfl ?_
  refine Wp.invV (d2 := D) (as := [.ref 29, .ref o]) (r := []) (t := (6, 0)) rfl rfl rfl rfl (WF.t hw 29 rfl) rfl rfl ⟨rfl, rfl⟩ (by omega) (g1 _ ?_)
  show Wp d 67 65 [some (.ref 29), some (.ref o), some (.int (p)), some (.int (1)), some (.int (i))] [.int (0)] k1 Q
  refine Wp.seg 2 (pc1 := 69) (ls1 := [some (.ref 29), some (.ref o), some (.int (p)), some (.int (1)), some (.int (0))]) (st1 := [.int (0)]) rfl ?_
  refine Wp.if1 rfl (fun c2 => ?_) (fun c2 => absurd (show (0 : Int32) = 0 by decide) c2)
  refine Wp.seg 1 (pc1 := 84) (ls1 := [some (.ref 29), some (.ref o), some (.int (p)), some (.int (1)), some (.int (0))]) (st1 := [.int (0)]) rfl ?_
  exact Wp.reti rfl rfl hQ
set_option maxHeartbeats 4000000 in
theorem t_roK11 {d : Nat} {Q : KO → Prop} {h : KH} (hw : WF h) {k1 : KH} (hwk1 : WF k1) {k2 : KH} (hwk2 : WF k2) {o L : Nat} (hO : rulO k1 o L) {D : Nat} {p i : Int32} {x : Int32} (t_h : h.2.2.1 29 6 = x) (c23 : ¬ x = 23) (g1 : ∀ Q : KO → Prop, Q (some (.int 1), k1) → Cl D 69 [.ref 29, .ref o] h Q) (g2 : ∀ Q : KO → Prop, Q (none, k2) → Cl D 75 [.ref o, .int (-3)] k1 Q) (hd : D + 1 ≤ d) (hQ : Q (some (.int (1)), k2)) : Wp d 67 42 [some (.ref 29), some (.ref o), some (.int (p)), some (.int (1)), some (.int (i))] [] h Q := by
  refine Wp.seg 1 (pc1 := 43) (ls1 := [some (.ref 29), some (.ref o), some (.int (p)), some (.int (1)), some (.int (i))]) (st1 := [.ref 29]) rfl ?_
  refine Wp.gi (t := (6, 0)) rfl (WF.t hw 29 rfl) (Or.inl rfl) ?_
  rw [show h.2.2.1 29 6 = x from t_h]
  refine Wp.seg 1 (pc1 := 48) (ls1 := [some (.ref 29), some (.ref o), some (.int (p)), some (.int (1)), some (.int (i))]) (st1 := [.int (23), .int (x)]) rfl ?_
  refine Wp.if2 rfl (fun c1 => ?_) (fun c1 => absurd (c23) c1)
  refine Wp.seg 2 (pc1 := 62) (ls1 := [some (.ref 29), some (.ref o), some (.int (p)), some (.int (1)), some (.int (i))]) (st1 := [.ref o, .ref 29]) rfl ?_
  refine Wp.invV (d2 := D) (as := [.ref 29, .ref o]) (r := []) (t := (6, 0)) rfl rfl rfl rfl (WF.t hw 29 rfl) rfl rfl ⟨rfl, rfl⟩ (by omega) (g1 _ ?_)
  show Wp d 67 65 [some (.ref 29), some (.ref o), some (.int (p)), some (.int (1)), some (.int (i))] [.int (1)] k1 Q
  refine Wp.seg 2 (pc1 := 69) (ls1 := [some (.ref 29), some (.ref o), some (.int (p)), some (.int (1)), some (.int (1))]) (st1 := [.int (1)]) rfl ?_
  refine Wp.if1 rfl (fun c2 => absurd c2 (show ¬ ((1 : Int32) = 0) by decide)) (fun c2 => ?_)
  refine Wp.seg 1 (pc1 := 73) (ls1 := [some (.ref 29), some (.ref o), some (.int (p)), some (.int (1)), some (.int (1))]) (st1 := [.int (1)]) rfl ?_
  refine Wp.if1 rfl (fun c3 => absurd c3 (show ¬ ((1 : Int32) = 0) by decide)) (fun c3 => ?_)
  refine Wp.seg 2 (pc1 := 79) (ls1 := [some (.ref 29), some (.ref o), some (.int (p)), some (.int (1)), some (.int (1))]) (st1 := [.int (-3), .ref o]) rfl ?_
  refine Wp.invV (d2 := D) (as := [.ref o, .int (-3)]) (r := []) (t := (9, 0)) rfl rfl rfl rfl hO.1 rfl rfl ⟨rfl, rfl⟩ (by omega) (g2 _ ?_)
  show Wp d 67 82 [some (.ref 29), some (.ref o), some (.int (p)), some (.int (1)), some (.int (1))] [] k2 Q
  refine Wp.seg 1 (pc1 := 84) (ls1 := [some (.ref 29), some (.ref o), some (.int (p)), some (.int (1)), some (.int (1))]) (st1 := [.int (1)]) rfl ?_
  exact Wp.reti rfl rfl hQ
set_option maxHeartbeats 4000000 in
theorem t_re0 {d : Nat} {Q : KO → Prop} {h : KH} (hw : WF h) {k1 : KH} (hwk1 : WF k1) {o : Nat} {D : Nat} {p : Int32} (g1 : ∀ Q : KO → Prop, Q (some (.int 0), k1) → Cl D 67 [.ref 29, .ref o, .int p] h Q) (hd : D + 1 ≤ d) (hQ : Q (some (.int (0)), k1)) : Cl d 66 [.ref 29, .ref o, .int (p)] h Q := by
  refine Cl.of (ls := [some (.ref 29), some (.ref o), some (.int (p)), none]) rfl rfl ?_
  refine Wp.seg 3 (pc1 := 3) (ls1 := [some (.ref 29), some (.ref o), some (.int (p)), none]) (st1 := [.int (p), .ref o, .ref 29]) rfl ?_
  refine Wp.invV (d2 := D) (as := [.ref 29, .ref o, .int (p)]) (r := []) (t := (6, 0)) rfl rfl rfl rfl (WF.t hw 29 rfl) rfl rfl ⟨rfl, rfl⟩ (by omega) (g1 _ ?_)
  show Wp d 66 6 [some (.ref 29), some (.ref o), some (.int (p)), none] [.int (0)] k1 Q
  refine Wp.if1 rfl (fun c1 => absurd c1 (show ¬ (¬ (0 : Int32) = 0) by decide)) (fun c1 => ?_)
  refine Wp.seg 1 (pc1 := 10) (ls1 := [some (.ref 29), some (.ref o), some (.int (p)), none]) (st1 := [.int (0)]) rfl ?_
  exact Wp.reti rfl rfl hQ
set_option maxHeartbeats 4000000 in
theorem t_re1 {d : Nat} {Q : KO → Prop} {h : KH} (hw : WF h) {k1 : KH} (hwk1 : WF k1) {o : Nat} {D : Nat} {p : Int32} (g1 : ∀ Q : KO → Prop, Q (some (.int 1), k1) → Cl D 67 [.ref 29, .ref o, .int p] h Q) (hd : D + 1 ≤ d) (hQ : Wp d 66 13 ([some (.ref 29), some (.ref o), some (.int (p)), some (.int (0))]) [] k1 Q) : Cl d 66 [.ref 29, .ref o, .int (p)] h Q := by
  refine Cl.of (ls := [some (.ref 29), some (.ref o), some (.int (p)), none]) rfl rfl ?_
  refine Wp.seg 3 (pc1 := 3) (ls1 := [some (.ref 29), some (.ref o), some (.int (p)), none]) (st1 := [.int (p), .ref o, .ref 29]) rfl ?_
  refine Wp.invV (d2 := D) (as := [.ref 29, .ref o, .int (p)]) (r := []) (t := (6, 0)) rfl rfl rfl rfl (WF.t hw 29 rfl) rfl rfl ⟨rfl, rfl⟩ (by omega) (g1 _ ?_)
  show Wp d 66 6 [some (.ref 29), some (.ref o), some (.int (p)), none] [.int (1)] k1 Q
  refine Wp.if1 rfl (fun c1 => ?_) (fun c1 => absurd (show ¬ (1 : Int32) = 0 by decide) c1)
  refine Wp.seg 2 (pc1 := 13) (ls1 := [some (.ref 29), some (.ref o), some (.int (p)), some (.int (0))]) (st1 := []) rfl ?_
  exact hQ
set_option maxHeartbeats 4000000 in
theorem t_re2 {d : Nat} {Q : KO → Prop} {h : KH} (hw : WF h) {o : Nat} {D : Nat} {p : Int32} {i : Nat} {x : Int32} (t_h : h.2.2.1 29 6 = x) (tn : ¬ x = 11) (hd : D + 1 ≤ d) (hQ : Q (some (.int (1)), h)) : Wp d 66 13 [some (.ref 29), some (.ref o), some (.int (p)), some (.int (Int32.ofNat i))] [] h Q := by
  refine Wp.seg 1 (pc1 := 14) (ls1 := [some (.ref 29), some (.ref o), some (.int (p)), some (.int (Int32.ofNat i))]) (st1 := [.ref 29]) rfl ?_
  refine Wp.gi (t := (6, 0)) rfl (WF.t hw 29 rfl) (Or.inl rfl) ?_
  rw [show h.2.2.1 29 6 = x from t_h]
  refine Wp.seg 1 (pc1 := 19) (ls1 := [some (.ref 29), some (.ref o), some (.int (p)), some (.int (Int32.ofNat i))]) (st1 := [.int (11), .int (x)]) rfl ?_
  refine Wp.if2 rfl (fun c1 => ?_) (fun c1 => absurd (tn) c1)
  refine Wp.seg 1 (pc1 := 56) (ls1 := [some (.ref 29), some (.ref o), some (.int (p)), some (.int (Int32.ofNat i))]) (st1 := [.int (1)]) rfl ?_
  exact Wp.reti rfl rfl hQ
set_option maxHeartbeats 4000000 in
theorem t_re3 {d : Nat} {Q : KO → Prop} {h : KH} (hw : WF h) {o : Nat} {D : Nat} {p : Int32} {i : Nat} {x : Int32} (t_h : h.2.2.1 29 6 = x) (tn : x = 11) (i2 : (200 : Int32) ≤ Int32.ofNat i) (hd : D + 1 ≤ d) (hQ : Q (some (.int (1)), h)) : Wp d 66 13 [some (.ref 29), some (.ref o), some (.int (p)), some (.int (Int32.ofNat i))] [] h Q := by
  refine Wp.seg 1 (pc1 := 14) (ls1 := [some (.ref 29), some (.ref o), some (.int (p)), some (.int (Int32.ofNat i))]) (st1 := [.ref 29]) rfl ?_
  refine Wp.gi (t := (6, 0)) rfl (WF.t hw 29 rfl) (Or.inl rfl) ?_
  rw [show h.2.2.1 29 6 = x from t_h]
  refine Wp.seg 1 (pc1 := 19) (ls1 := [some (.ref 29), some (.ref o), some (.int (p)), some (.int (Int32.ofNat i))]) (st1 := [.int (11), .int (x)]) rfl ?_
  refine Wp.if2 rfl (fun c1 => absurd c1 (fun z => z tn)) (fun c1 => ?_)
  refine Wp.seg 2 (pc1 := 26) (ls1 := [some (.ref 29), some (.ref o), some (.int (p)), some (.int (Int32.ofNat i))]) (st1 := [.int (200), .int (Int32.ofNat i)]) rfl ?_
  refine Wp.if2 rfl (fun c2 => ?_) (fun c2 => absurd (i2) c2)
  refine Wp.seg 1 (pc1 := 56) (ls1 := [some (.ref 29), some (.ref o), some (.int (p)), some (.int (Int32.ofNat i))]) (st1 := [.int (1)]) rfl ?_
  exact Wp.reti rfl rfl hQ
set_option maxHeartbeats 4000000 in
theorem t_re4 {d : Nat} {Q : KO → Prop} {h : KH} (hw : WF h) {k1 : KH} (hwk1 : WF k1) {k2 : KH} (hwk2 : WF k2) {o : Nat} {D : Nat} {p : Int32} {i : Nat} {x : Int32} (t_h : h.2.2.1 29 6 = x) (tn : x = 11) (i2 : ¬ (200 : Int32) ≤ Int32.ofNat i) (g1 : ∀ Q : KO → Prop, Q (none, k1) → Cl D 62 [.ref 29] h Q) (g2 : ∀ Q : KO → Prop, Q (some (.int 0), k2) → Cl D 67 [.ref 29, .ref o, .int p] k1 Q) (hd : D + 1 ≤ d) (hQ : Q (some (.int (0)), k2)) : Wp d 66 13 [some (.ref 29), some (.ref o), some (.int (p)), some (.int (Int32.ofNat i))] [] h Q := by
  refine Wp.seg 1 (pc1 := 14) (ls1 := [some (.ref 29), some (.ref o), some (.int (p)), some (.int (Int32.ofNat i))]) (st1 := [.ref 29]) rfl ?_
  refine Wp.gi (t := (6, 0)) rfl (WF.t hw 29 rfl) (Or.inl rfl) ?_
  rw [show h.2.2.1 29 6 = x from t_h]
  refine Wp.seg 1 (pc1 := 19) (ls1 := [some (.ref 29), some (.ref o), some (.int (p)), some (.int (Int32.ofNat i))]) (st1 := [.int (11), .int (x)]) rfl ?_
  refine Wp.if2 rfl (fun c1 => absurd c1 (fun z => z tn)) (fun c1 => ?_)
  refine Wp.seg 2 (pc1 := 26) (ls1 := [some (.ref 29), some (.ref o), some (.int (p)), some (.int (Int32.ofNat i))]) (st1 := [.int (200), .int (Int32.ofNat i)]) rfl ?_
  refine Wp.if2 rfl (fun c2 => absurd c2 (i2)) (fun c2 => ?_)
  refine Wp.seg 1 (pc1 := 30) (ls1 := [some (.ref 29), some (.ref o), some (.int (p)), some (.int (Int32.ofNat i))]) (st1 := [.ref 29]) rfl ?_
  refine Wp.invV (d2 := D) (as := [.ref 29]) (r := []) (t := (6, 0)) rfl rfl rfl rfl (WF.t hw 29 rfl) rfl rfl ⟨rfl, rfl⟩ (by omega) (g1 _ ?_)
  show Wp d 66 33 [some (.ref 29), some (.ref o), some (.int (p)), some (.int (Int32.ofNat i))] [] k1 Q
  refine Wp.seg 3 (pc1 := 36) (ls1 := [some (.ref 29), some (.ref o), some (.int (p)), some (.int (Int32.ofNat i))]) (st1 := [.int (p), .ref o, .ref 29]) rfl ?_
  refine Wp.invV (d2 := D) (as := [.ref 29, .ref o, .int (p)]) (r := []) (t := (6, 0)) rfl rfl rfl rfl (WF.t hwk1 29 rfl) rfl rfl ⟨rfl, rfl⟩ (by omega) (g2 _ ?_)
  show Wp d 66 39 [some (.ref 29), some (.ref o), some (.int (p)), some (.int (Int32.ofNat i))] [.int (0)] k2 Q
  refine Wp.if1 rfl (fun c3 => absurd c3 (show ¬ (¬ (0 : Int32) = 0) by decide)) (fun c3 => ?_)
  refine Wp.seg 1 (pc1 := 43) (ls1 := [some (.ref 29), some (.ref o), some (.int (p)), some (.int (Int32.ofNat i))]) (st1 := [.int (0)]) rfl ?_
  exact Wp.reti rfl rfl hQ
set_option maxHeartbeats 4000000 in
theorem t_re5 {d : Nat} {Q : KO → Prop} {h : KH} (hw : WF h) {k1 : KH} (hwk1 : WF k1) {k2 : KH} (hwk2 : WF k2) {k3 : KH} (hwk3 : WF k3) {o L : Nat} (hO : rulO k2 o L) {D : Nat} {p : Int32} {i : Nat} {x : Int32} (t_h : h.2.2.1 29 6 = x) (tn : x = 11) (i2 : ¬ (200 : Int32) ≤ Int32.ofNat i) (g1 : ∀ Q : KO → Prop, Q (none, k1) → Cl D 62 [.ref 29] h Q) (g2 : ∀ Q : KO → Prop, Q (some (.int 1), k2) → Cl D 67 [.ref 29, .ref o, .int p] k1 Q) (g3 : ∀ Q : KO → Prop, Q (none, k3) → Cl D 75 [.ref o, .int (-1)] k2 Q) (hd : D + 1 ≤ d) (hQ : Wp d 66 13 ([some (.ref 29), some (.ref o), some (.int (p)), some (.int ((Int32.ofNat i) + 1))]) [] k3 Q) : Wp d 66 13 [some (.ref 29), some (.ref o), some (.int (p)), some (.int (Int32.ofNat i))] [] h Q := by
  refine Wp.seg 1 (pc1 := 14) (ls1 := [some (.ref 29), some (.ref o), some (.int (p)), some (.int (Int32.ofNat i))]) (st1 := [.ref 29]) rfl ?_
  refine Wp.gi (t := (6, 0)) rfl (WF.t hw 29 rfl) (Or.inl rfl) ?_
  rw [show h.2.2.1 29 6 = x from t_h]
  refine Wp.seg 1 (pc1 := 19) (ls1 := [some (.ref 29), some (.ref o), some (.int (p)), some (.int (Int32.ofNat i))]) (st1 := [.int (11), .int (x)]) rfl ?_
  refine Wp.if2 rfl (fun c1 => absurd c1 (fun z => z tn)) (fun c1 => ?_)
  refine Wp.seg 2 (pc1 := 26) (ls1 := [some (.ref 29), some (.ref o), some (.int (p)), some (.int (Int32.ofNat i))]) (st1 := [.int (200), .int (Int32.ofNat i)]) rfl ?_
  refine Wp.if2 rfl (fun c2 => absurd c2 (i2)) (fun c2 => ?_)
  refine Wp.seg 1 (pc1 := 30) (ls1 := [some (.ref 29), some (.ref o), some (.int (p)), some (.int (Int32.ofNat i))]) (st1 := [.ref 29]) rfl ?_
  refine Wp.invV (d2 := D) (as := [.ref 29]) (r := []) (t := (6, 0)) rfl rfl rfl rfl (WF.t hw 29 rfl) rfl rfl ⟨rfl, rfl⟩ (by omega) (g1 _ ?_)
  show Wp d 66 33 [some (.ref 29), some (.ref o), some (.int (p)), some (.int (Int32.ofNat i))] [] k1 Q
  refine Wp.seg 3 (pc1 := 36) (ls1 := [some (.ref 29), some (.ref o), some (.int (p)), some (.int (Int32.ofNat i))]) (st1 := [.int (p), .ref o, .ref 29]) rfl ?_
  refine Wp.invV (d2 := D) (as := [.ref 29, .ref o, .int (p)]) (r := []) (t := (6, 0)) rfl rfl rfl rfl (WF.t hwk1 29 rfl) rfl rfl ⟨rfl, rfl⟩ (by omega) (g2 _ ?_)
  show Wp d 66 39 [some (.ref 29), some (.ref o), some (.int (p)), some (.int (Int32.ofNat i))] [.int (1)] k2 Q
  refine Wp.if1 rfl (fun c3 => ?_) (fun c3 => absurd (show ¬ (1 : Int32) = 0 by decide) c3)
  refine Wp.seg 2 (pc1 := 46) (ls1 := [some (.ref 29), some (.ref o), some (.int (p)), some (.int (Int32.ofNat i))]) (st1 := [.int (-1), .ref o]) rfl ?_
  refine Wp.invV (d2 := D) (as := [.ref o, .int (-1)]) (r := []) (t := (9, 0)) rfl rfl rfl rfl hO.1 rfl rfl ⟨rfl, rfl⟩ (by omega) (g3 _ ?_)
  show Wp d 66 49 [some (.ref 29), some (.ref o), some (.int (p)), some (.int (Int32.ofNat i))] [] k3 Q
  refine Wp.seg 2 (pc1 := 13) (ls1 := [some (.ref 29), some (.ref o), some (.int (p)), some (.int ((Int32.ofNat i) + 1))]) (st1 := []) rfl ?_
  exact hQ
set_option maxHeartbeats 4000000 in
theorem t_rd0 {d : Nat} {Q : KO → Prop} {h : KH} (hw : WF h) {k1 : KH} (hwk1 : WF k1) {o : Nat} {D : Nat} {p : Int32} (g1 : ∀ Q : KO → Prop, Q (some (.int 0), k1) → Cl D 66 [.ref 29, .ref o, .int p] h Q) (hd : D + 1 ≤ d) (hQ : Q (some (.int (0)), k1)) : Cl d 65 [.ref 29, .ref o, .int (p)] h Q := by
  refine Cl.of (ls := [some (.ref 29), some (.ref o), some (.int (p)), none]) rfl rfl ?_
  refine Wp.seg 3 (pc1 := 3) (ls1 := [some (.ref 29), some (.ref o), some (.int (p)), none]) (st1 := [.int (p), .ref o, .ref 29]) rfl ?_
  refine Wp.invV (d2 := D) (as := [.ref 29, .ref o, .int (p)]) (r := []) (t := (6, 0)) rfl rfl rfl rfl (WF.t hw 29 rfl) rfl rfl ⟨rfl, rfl⟩ (by omega) (g1 _ ?_)
  show Wp d 65 6 [some (.ref 29), some (.ref o), some (.int (p)), none] [.int (0)] k1 Q
  refine Wp.if1 rfl (fun c1 => absurd c1 (show ¬ (¬ (0 : Int32) = 0) by decide)) (fun c1 => ?_)
  refine Wp.seg 1 (pc1 := 10) (ls1 := [some (.ref 29), some (.ref o), some (.int (p)), none]) (st1 := [.int (0)]) rfl ?_
  exact Wp.reti rfl rfl hQ
set_option maxHeartbeats 4000000 in
theorem t_rd1 {d : Nat} {Q : KO → Prop} {h : KH} (hw : WF h) {k1 : KH} (hwk1 : WF k1) {o : Nat} {D : Nat} {p : Int32} (g1 : ∀ Q : KO → Prop, Q (some (.int 1), k1) → Cl D 66 [.ref 29, .ref o, .int p] h Q) (hd : D + 1 ≤ d) (hQ : Wp d 65 13 ([some (.ref 29), some (.ref o), some (.int (p)), some (.int (0))]) [] k1 Q) : Cl d 65 [.ref 29, .ref o, .int (p)] h Q := by
  refine Cl.of (ls := [some (.ref 29), some (.ref o), some (.int (p)), none]) rfl rfl ?_
  refine Wp.seg 3 (pc1 := 3) (ls1 := [some (.ref 29), some (.ref o), some (.int (p)), none]) (st1 := [.int (p), .ref o, .ref 29]) rfl ?_
  refine Wp.invV (d2 := D) (as := [.ref 29, .ref o, .int (p)]) (r := []) (t := (6, 0)) rfl rfl rfl rfl (WF.t hw 29 rfl) rfl rfl ⟨rfl, rfl⟩ (by omega) (g1 _ ?_)
  show Wp d 65 6 [some (.ref 29), some (.ref o), some (.int (p)), none] [.int (1)] k1 Q
  refine Wp.if1 rfl (fun c1 => ?_) (fun c1 => absurd (show ¬ (1 : Int32) = 0 by decide) c1)
  refine Wp.seg 2 (pc1 := 13) (ls1 := [some (.ref 29), some (.ref o), some (.int (p)), some (.int (0))]) (st1 := []) rfl ?_
  exact hQ
set_option maxHeartbeats 4000000 in
theorem t_rd2 {d : Nat} {Q : KO → Prop} {h : KH} (hw : WF h) {o : Nat} {D : Nat} {p : Int32} {i : Nat} {x : Int32} (t_h : h.2.2.1 29 6 = x) (tn : ¬ x = 10) (hd : D + 1 ≤ d) (hQ : Q (some (.int (1)), h)) : Wp d 65 13 [some (.ref 29), some (.ref o), some (.int (p)), some (.int (Int32.ofNat i))] [] h Q := by
  refine Wp.seg 1 (pc1 := 14) (ls1 := [some (.ref 29), some (.ref o), some (.int (p)), some (.int (Int32.ofNat i))]) (st1 := [.ref 29]) rfl ?_
  refine Wp.gi (t := (6, 0)) rfl (WF.t hw 29 rfl) (Or.inl rfl) ?_
  rw [show h.2.2.1 29 6 = x from t_h]
  refine Wp.seg 1 (pc1 := 19) (ls1 := [some (.ref 29), some (.ref o), some (.int (p)), some (.int (Int32.ofNat i))]) (st1 := [.int (10), .int (x)]) rfl ?_
  refine Wp.if2 rfl (fun c1 => ?_) (fun c1 => absurd (tn) c1)
  refine Wp.seg 1 (pc1 := 57) (ls1 := [some (.ref 29), some (.ref o), some (.int (p)), some (.int (Int32.ofNat i))]) (st1 := [.int (1)]) rfl ?_
  exact Wp.reti rfl rfl hQ
set_option maxHeartbeats 4000000 in
theorem t_rd3 {d : Nat} {Q : KO → Prop} {h : KH} (hw : WF h) {o : Nat} {D : Nat} {p : Int32} {i : Nat} {x : Int32} (t_h : h.2.2.1 29 6 = x) (tn : x = 10) (i2 : (200 : Int32) ≤ Int32.ofNat i) (hd : D + 1 ≤ d) (hQ : Q (some (.int (1)), h)) : Wp d 65 13 [some (.ref 29), some (.ref o), some (.int (p)), some (.int (Int32.ofNat i))] [] h Q := by
  refine Wp.seg 1 (pc1 := 14) (ls1 := [some (.ref 29), some (.ref o), some (.int (p)), some (.int (Int32.ofNat i))]) (st1 := [.ref 29]) rfl ?_
  refine Wp.gi (t := (6, 0)) rfl (WF.t hw 29 rfl) (Or.inl rfl) ?_
  rw [show h.2.2.1 29 6 = x from t_h]
  refine Wp.seg 1 (pc1 := 19) (ls1 := [some (.ref 29), some (.ref o), some (.int (p)), some (.int (Int32.ofNat i))]) (st1 := [.int (10), .int (x)]) rfl ?_
  refine Wp.if2 rfl (fun c1 => absurd c1 (fun z => z tn)) (fun c1 => ?_)
  refine Wp.seg 2 (pc1 := 26) (ls1 := [some (.ref 29), some (.ref o), some (.int (p)), some (.int (Int32.ofNat i))]) (st1 := [.int (200), .int (Int32.ofNat i)]) rfl ?_
  refine Wp.if2 rfl (fun c2 => ?_) (fun c2 => absurd (i2) c2)
  refine Wp.seg 1 (pc1 := 57) (ls1 := [some (.ref 29), some (.ref o), some (.int (p)), some (.int (Int32.ofNat i))]) (st1 := [.int (1)]) rfl ?_
  exact Wp.reti rfl rfl hQ
set_option maxHeartbeats 4000000 in
theorem t_rd4 {d : Nat} {Q : KO → Prop} {h : KH} (hw : WF h) {k1 : KH} (hwk1 : WF k1) {k2 : KH} (hwk2 : WF k2) {o : Nat} {D : Nat} {p : Int32} {i : Nat} {x : Int32} (t_h : h.2.2.1 29 6 = x) (tn : x = 10) (i2 : ¬ (200 : Int32) ≤ Int32.ofNat i) (g1 : ∀ Q : KO → Prop, Q (none, k1) → Cl D 62 [.ref 29] h Q) (g2 : ∀ Q : KO → Prop, Q (some (.int 0), k2) → Cl D 66 [.ref 29, .ref o, .int p] k1 Q) (hd : D + 1 ≤ d) (hQ : Q (some (.int (0)), k2)) : Wp d 65 13 [some (.ref 29), some (.ref o), some (.int (p)), some (.int (Int32.ofNat i))] [] h Q := by
  refine Wp.seg 1 (pc1 := 14) (ls1 := [some (.ref 29), some (.ref o), some (.int (p)), some (.int (Int32.ofNat i))]) (st1 := [.ref 29]) rfl ?_
  refine Wp.gi (t := (6, 0)) rfl (WF.t hw 29 rfl) (Or.inl rfl) ?_
  rw [show h.2.2.1 29 6 = x from t_h]
  refine Wp.seg 1 (pc1 := 19) (ls1 := [some (.ref 29), some (.ref o), some (.int (p)), some (.int (Int32.ofNat i))]) (st1 := [.int (10), .int (x)]) rfl ?_
  refine Wp.if2 rfl (fun c1 => absurd c1 (fun z => z tn)) (fun c1 => ?_)
  refine Wp.seg 2 (pc1 := 26) (ls1 := [some (.ref 29), some (.ref o), some (.int (p)), some (.int (Int32.ofNat i))]) (st1 := [.int (200), .int (Int32.ofNat i)]) rfl ?_
  refine Wp.if2 rfl (fun c2 => absurd c2 (i2)) (fun c2 => ?_)
  refine Wp.seg 1 (pc1 := 30) (ls1 := [some (.ref 29), some (.ref o), some (.int (p)), some (.int (Int32.ofNat i))]) (st1 := [.ref 29]) rfl ?_
  refine Wp.invV (d2 := D) (as := [.ref 29]) (r := []) (t := (6, 0)) rfl rfl rfl rfl (WF.t hw 29 rfl) rfl rfl ⟨rfl, rfl⟩ (by omega) (g1 _ ?_)
  show Wp d 65 33 [some (.ref 29), some (.ref o), some (.int (p)), some (.int (Int32.ofNat i))] [] k1 Q
  refine Wp.seg 3 (pc1 := 36) (ls1 := [some (.ref 29), some (.ref o), some (.int (p)), some (.int (Int32.ofNat i))]) (st1 := [.int (p), .ref o, .ref 29]) rfl ?_
  refine Wp.invV (d2 := D) (as := [.ref 29, .ref o, .int (p)]) (r := []) (t := (6, 0)) rfl rfl rfl rfl (WF.t hwk1 29 rfl) rfl rfl ⟨rfl, rfl⟩ (by omega) (g2 _ ?_)
  show Wp d 65 39 [some (.ref 29), some (.ref o), some (.int (p)), some (.int (Int32.ofNat i))] [.int (0)] k2 Q
  refine Wp.if1 rfl (fun c3 => absurd c3 (show ¬ (¬ (0 : Int32) = 0) by decide)) (fun c3 => ?_)
  refine Wp.seg 1 (pc1 := 43) (ls1 := [some (.ref 29), some (.ref o), some (.int (p)), some (.int (Int32.ofNat i))]) (st1 := [.int (0)]) rfl ?_
  exact Wp.reti rfl rfl hQ
set_option maxHeartbeats 4000000 in
theorem t_rd5 {d : Nat} {Q : KO → Prop} {h : KH} (hw : WF h) {k1 : KH} (hwk1 : WF k1) {k2 : KH} (hwk2 : WF k2) {k3 : KH} (hwk3 : WF k3) {o L : Nat} (hO : rulO k2 o L) {D : Nat} {p : Int32} {i : Nat} {x : Int32} (t_h : h.2.2.1 29 6 = x) (tn : x = 10) (i2 : ¬ (200 : Int32) ≤ Int32.ofNat i) (g1 : ∀ Q : KO → Prop, Q (none, k1) → Cl D 62 [.ref 29] h Q) (g2 : ∀ Q : KO → Prop, Q (some (.int 1), k2) → Cl D 66 [.ref 29, .ref o, .int p] k1 Q) (g3 : ∀ Q : KO → Prop, Q (none, k3) → Cl D 75 [.ref o, .int (-2)] k2 Q) (hd : D + 1 ≤ d) (hQ : Wp d 65 13 ([some (.ref 29), some (.ref o), some (.int (p)), some (.int ((Int32.ofNat i) + 1))]) [] k3 Q) : Wp d 65 13 [some (.ref 29), some (.ref o), some (.int (p)), some (.int (Int32.ofNat i))] [] h Q := by
  refine Wp.seg 1 (pc1 := 14) (ls1 := [some (.ref 29), some (.ref o), some (.int (p)), some (.int (Int32.ofNat i))]) (st1 := [.ref 29]) rfl ?_
  refine Wp.gi (t := (6, 0)) rfl (WF.t hw 29 rfl) (Or.inl rfl) ?_
  rw [show h.2.2.1 29 6 = x from t_h]
  refine Wp.seg 1 (pc1 := 19) (ls1 := [some (.ref 29), some (.ref o), some (.int (p)), some (.int (Int32.ofNat i))]) (st1 := [.int (10), .int (x)]) rfl ?_
  refine Wp.if2 rfl (fun c1 => absurd c1 (fun z => z tn)) (fun c1 => ?_)
  refine Wp.seg 2 (pc1 := 26) (ls1 := [some (.ref 29), some (.ref o), some (.int (p)), some (.int (Int32.ofNat i))]) (st1 := [.int (200), .int (Int32.ofNat i)]) rfl ?_
  refine Wp.if2 rfl (fun c2 => absurd c2 (i2)) (fun c2 => ?_)
  refine Wp.seg 1 (pc1 := 30) (ls1 := [some (.ref 29), some (.ref o), some (.int (p)), some (.int (Int32.ofNat i))]) (st1 := [.ref 29]) rfl ?_
  refine Wp.invV (d2 := D) (as := [.ref 29]) (r := []) (t := (6, 0)) rfl rfl rfl rfl (WF.t hw 29 rfl) rfl rfl ⟨rfl, rfl⟩ (by omega) (g1 _ ?_)
  show Wp d 65 33 [some (.ref 29), some (.ref o), some (.int (p)), some (.int (Int32.ofNat i))] [] k1 Q
  refine Wp.seg 3 (pc1 := 36) (ls1 := [some (.ref 29), some (.ref o), some (.int (p)), some (.int (Int32.ofNat i))]) (st1 := [.int (p), .ref o, .ref 29]) rfl ?_
  refine Wp.invV (d2 := D) (as := [.ref 29, .ref o, .int (p)]) (r := []) (t := (6, 0)) rfl rfl rfl rfl (WF.t hwk1 29 rfl) rfl rfl ⟨rfl, rfl⟩ (by omega) (g2 _ ?_)
  show Wp d 65 39 [some (.ref 29), some (.ref o), some (.int (p)), some (.int (Int32.ofNat i))] [.int (1)] k2 Q
  refine Wp.if1 rfl (fun c3 => ?_) (fun c3 => absurd (show ¬ (1 : Int32) = 0 by decide) c3)
  refine Wp.seg 2 (pc1 := 47) (ls1 := [some (.ref 29), some (.ref o), some (.int (p)), some (.int (Int32.ofNat i))]) (st1 := [.int (-2), .ref o]) rfl ?_
  refine Wp.invV (d2 := D) (as := [.ref o, .int (-2)]) (r := []) (t := (9, 0)) rfl rfl rfl rfl hO.1 rfl rfl ⟨rfl, rfl⟩ (by omega) (g3 _ ?_)
  show Wp d 65 50 [some (.ref 29), some (.ref o), some (.int (p)), some (.int (Int32.ofNat i))] [] k3 Q
  refine Wp.seg 2 (pc1 := 13) (ls1 := [some (.ref 29), some (.ref o), some (.int (p)), some (.int ((Int32.ofNat i) + 1))]) (st1 := []) rfl ?_
  exact hQ
set_option maxHeartbeats 4000000 in
theorem t_rr1 {d : Nat} {Q : KO → Prop} {h : KH} (hw : WF h) {o : Nat} {D : Nat} {x : Int32} (t_h : h.2.2.1 29 6 = x) (x5 : ¬ x ≤ 5) (hd : D + 1 ≤ d) (hQ : Q (some (.int (0)), h)) : Cl d 64 [.ref 29, .ref o] h Q := by
  refine Cl.of (ls := [some (.ref 29), some (.ref o), none, none]) rfl rfl ?_
  refine Wp.seg 1 (pc1 := 1) (ls1 := [some (.ref 29), some (.ref o), none, none]) (st1 := [.ref 29]) rfl ?_
  refine Wp.gi (t := (6, 0)) rfl (WF.t hw 29 rfl) (Or.inl rfl) ?_
  rw [show h.2.2.1 29 6 = x from t_h]
  refine Wp.seg 3 (pc1 := 7) (ls1 := [some (.ref 29), some (.ref o), some (.int (x)), none]) (st1 := [.int (5), .int (x)]) rfl ?_
  refine Wp.if2 rfl (fun c1 => absurd c1 (x5)) (fun c1 => ?_)
  refine Wp.seg 1 (pc1 := 11) (ls1 := [some (.ref 29), some (.ref o), some (.int (x)), none]) (st1 := [.int (0)]) rfl ?_
  exact Wp.reti rfl rfl hQ
set_option maxHeartbeats 4000000 in
theorem t_rr2 {d : Nat} {Q : KO → Prop} {h : KH} (hw : WF h) {k1 : KH} (hwk1 : WF k1) {o : Nat} {D : Nat} {x : Int32} (t_h : h.2.2.1 29 6 = x) (x5 : x ≤ 5) (g1 : ∀ Q : KO → Prop, Q (none, k1) → Cl D 62 [.ref 29] h Q) {t1 : Int32} (t_k1 : k1.2.2.1 29 6 = t1) (n9 : ¬ t1 = 9) (hd : D + 1 ≤ d) (hQ : Wp d 64 40 ([some (.ref 29), some (.ref o), some (.int (x)), none]) [] k1 Q) : Cl d 64 [.ref 29, .ref o] h Q := by
  refine Cl.of (ls := [some (.ref 29), some (.ref o), none, none]) rfl rfl ?_
  refine Wp.seg 1 (pc1 := 1) (ls1 := [some (.ref 29), some (.ref o), none, none]) (st1 := [.ref 29]) rfl ?_
  refine Wp.gi (t := (6, 0)) rfl (WF.t hw 29 rfl) (Or.inl rfl) ?_
  rw [show h.2.2.1 29 6 = x from t_h]
  refine Wp.seg 3 (pc1 := 7) (ls1 := [some (.ref 29), some (.ref o), some (.int (x)), none]) (st1 := [.int (5), .int (x)]) rfl ?_
  refine Wp.if2 rfl (fun c1 => ?_) (fun c1 => absurd (x5) c1)
  refine Wp.seg 1 (pc1 := 13) (ls1 := [some (.ref 29), some (.ref o), some (.int (x)), none]) (st1 := [.ref 29]) rfl ?_
  refine Wp.invV (d2 := D) (as := [.ref 29]) (r := []) (t := (6, 0)) rfl rfl rfl rfl (WF.t hw 29 rfl) rfl rfl ⟨rfl, rfl⟩ (by omega) (g1 _ ?_)
  show Wp d 64 16 [some (.ref 29), some (.ref o), some (.int (x)), none] [] k1 Q
  refine Wp.seg 1 (pc1 := 17) (ls1 := [some (.ref 29), some (.ref o), some (.int (x)), none]) (st1 := [.ref 29]) rfl ?_
  refine Wp.gi (t := (6, 0)) rfl (WF.t hwk1 29 rfl) (Or.inl rfl) ?_
  rw [show k1.2.2.1 29 6 = t1 from t_k1]
  refine Wp.seg 1 (pc1 := 22) (ls1 := [some (.ref 29), some (.ref o), some (.int (x)), none]) (st1 := [.int (9), .int (t1)]) rfl ?_
  refine Wp.if2 rfl (fun c2 => ?_) (fun c2 => absurd (n9) c2)
  exact hQ
set_option maxHeartbeats 4000000 in
theorem t_rr30 {d : Nat} {Q : KO → Prop} {h : KH} (hw : WF h) {k1 : KH} (hwk1 : WF k1) {k2 : KH} (hwk2 : WF k2) {k3 : KH} (hwk3 : WF k3) {o : Nat} {D : Nat} {x : Int32} (t_h : h.2.2.1 29 6 = x) (x5 : x ≤ 5) (g1 : ∀ Q : KO → Prop, Q (none, k1) → Cl D 62 [.ref 29] h Q) {t1 : Int32} (t_k1 : k1.2.2.1 29 6 = t1) (n9 : t1 = 9) (g2 : ∀ Q : KO → Prop, Q (none, k2) → Cl D 62 [.ref 29] k1 Q) (g3 : ∀ Q : KO → Prop, Q (some (.int 0), k3) → Cl D 65 [.ref 29, .ref o, .int 0] k2 Q) (hd : D + 1 ≤ d) (hQ : Q (some (.int (0)), k3)) : Cl d 64 [.ref 29, .ref o] h Q := by
  refine Cl.of (ls := [some (.ref 29), some (.ref o), none, none]) rfl rfl ?_
  refine Wp.seg 1 (pc1 := 1) (ls1 := [some (.ref 29), some (.ref o), none, none]) (st1 := [.ref 29]) rfl ?_
  refine Wp.gi (t := (6, 0)) rfl (WF.t hw 29 rfl) (Or.inl rfl) ?_
  rw [show h.2.2.1 29 6 = x from t_h]
  refine Wp.seg 3 (pc1 := 7) (ls1 := [some (.ref 29), some (.ref o), some (.int (x)), none]) (st1 := [.int (5), .int (x)]) rfl ?_
  refine Wp.if2 rfl (fun c1 => ?_) (fun c1 => absurd (x5) c1)
  refine Wp.seg 1 (pc1 := 13) (ls1 := [some (.ref 29), some (.ref o), some (.int (x)), none]) (st1 := [.ref 29]) rfl ?_
  refine Wp.invV (d2 := D) (as := [.ref 29]) (r := []) (t := (6, 0)) rfl rfl rfl rfl (WF.t hw 29 rfl) rfl rfl ⟨rfl, rfl⟩ (by omega) (g1 _ ?_)
  show Wp d 64 16 [some (.ref 29), some (.ref o), some (.int (x)), none] [] k1 Q
  refine Wp.seg 1 (pc1 := 17) (ls1 := [some (.ref 29), some (.ref o), some (.int (x)), none]) (st1 := [.ref 29]) rfl ?_
  refine Wp.gi (t := (6, 0)) rfl (WF.t hwk1 29 rfl) (Or.inl rfl) ?_
  rw [show k1.2.2.1 29 6 = t1 from t_k1]
  refine Wp.seg 1 (pc1 := 22) (ls1 := [some (.ref 29), some (.ref o), some (.int (x)), none]) (st1 := [.int (9), .int (t1)]) rfl ?_
  refine Wp.if2 rfl (fun c2 => absurd c2 (fun z => z n9)) (fun c2 => ?_)
  refine Wp.seg 1 (pc1 := 26) (ls1 := [some (.ref 29), some (.ref o), some (.int (x)), none]) (st1 := [.ref 29]) rfl ?_
  refine Wp.invV (d2 := D) (as := [.ref 29]) (r := []) (t := (6, 0)) rfl rfl rfl rfl (WF.t hwk1 29 rfl) rfl rfl ⟨rfl, rfl⟩ (by omega) (g2 _ ?_)
  show Wp d 64 29 [some (.ref 29), some (.ref o), some (.int (x)), none] [] k2 Q
  refine Wp.seg 3 (pc1 := 32) (ls1 := [some (.ref 29), some (.ref o), some (.int (x)), none]) (st1 := [.int (0), .ref o, .ref 29]) rfl ?_
  refine Wp.invV (d2 := D) (as := [.ref 29, .ref o, .int (0)]) (r := []) (t := (6, 0)) rfl rfl rfl rfl (WF.t hwk2 29 rfl) rfl rfl ⟨rfl, rfl⟩ (by omega) (g3 _ ?_)
  show Wp d 64 35 [some (.ref 29), some (.ref o), some (.int (x)), none] [.int (0)] k3 Q
  refine Wp.if1 rfl (fun c3 => absurd c3 (show ¬ (¬ (0 : Int32) = 0) by decide)) (fun c3 => ?_)
  refine Wp.seg 1 (pc1 := 39) (ls1 := [some (.ref 29), some (.ref o), some (.int (x)), none]) (st1 := [.int (0)]) rfl ?_
  exact Wp.reti rfl rfl hQ
set_option maxHeartbeats 4000000 in
theorem t_rr31 {d : Nat} {Q : KO → Prop} {h : KH} (hw : WF h) {k1 : KH} (hwk1 : WF k1) {k2 : KH} (hwk2 : WF k2) {k3 : KH} (hwk3 : WF k3) {o : Nat} {D : Nat} {x : Int32} (t_h : h.2.2.1 29 6 = x) (x5 : x ≤ 5) (g1 : ∀ Q : KO → Prop, Q (none, k1) → Cl D 62 [.ref 29] h Q) {t1 : Int32} (t_k1 : k1.2.2.1 29 6 = t1) (n9 : t1 = 9) (g2 : ∀ Q : KO → Prop, Q (none, k2) → Cl D 62 [.ref 29] k1 Q) (g3 : ∀ Q : KO → Prop, Q (some (.int 1), k3) → Cl D 65 [.ref 29, .ref o, .int 0] k2 Q) (hd : D + 1 ≤ d) (hQ : Wp d 64 40 ([some (.ref 29), some (.ref o), some (.int (x)), none]) [] k3 Q) : Cl d 64 [.ref 29, .ref o] h Q := by
  refine Cl.of (ls := [some (.ref 29), some (.ref o), none, none]) rfl rfl ?_
  refine Wp.seg 1 (pc1 := 1) (ls1 := [some (.ref 29), some (.ref o), none, none]) (st1 := [.ref 29]) rfl ?_
  refine Wp.gi (t := (6, 0)) rfl (WF.t hw 29 rfl) (Or.inl rfl) ?_
  rw [show h.2.2.1 29 6 = x from t_h]
  refine Wp.seg 3 (pc1 := 7) (ls1 := [some (.ref 29), some (.ref o), some (.int (x)), none]) (st1 := [.int (5), .int (x)]) rfl ?_
  refine Wp.if2 rfl (fun c1 => ?_) (fun c1 => absurd (x5) c1)
  refine Wp.seg 1 (pc1 := 13) (ls1 := [some (.ref 29), some (.ref o), some (.int (x)), none]) (st1 := [.ref 29]) rfl ?_
  refine Wp.invV (d2 := D) (as := [.ref 29]) (r := []) (t := (6, 0)) rfl rfl rfl rfl (WF.t hw 29 rfl) rfl rfl ⟨rfl, rfl⟩ (by omega) (g1 _ ?_)
  show Wp d 64 16 [some (.ref 29), some (.ref o), some (.int (x)), none] [] k1 Q
  refine Wp.seg 1 (pc1 := 17) (ls1 := [some (.ref 29), some (.ref o), some (.int (x)), none]) (st1 := [.ref 29]) rfl ?_
  refine Wp.gi (t := (6, 0)) rfl (WF.t hwk1 29 rfl) (Or.inl rfl) ?_
  rw [show k1.2.2.1 29 6 = t1 from t_k1]
  refine Wp.seg 1 (pc1 := 22) (ls1 := [some (.ref 29), some (.ref o), some (.int (x)), none]) (st1 := [.int (9), .int (t1)]) rfl ?_
  refine Wp.if2 rfl (fun c2 => absurd c2 (fun z => z n9)) (fun c2 => ?_)
  refine Wp.seg 1 (pc1 := 26) (ls1 := [some (.ref 29), some (.ref o), some (.int (x)), none]) (st1 := [.ref 29]) rfl ?_
  refine Wp.invV (d2 := D) (as := [.ref 29]) (r := []) (t := (6, 0)) rfl rfl rfl rfl (WF.t hwk1 29 rfl) rfl rfl ⟨rfl, rfl⟩ (by omega) (g2 _ ?_)
  show Wp d 64 29 [some (.ref 29), some (.ref o), some (.int (x)), none] [] k2 Q
  refine Wp.seg 3 (pc1 := 32) (ls1 := [some (.ref 29), some (.ref o), some (.int (x)), none]) (st1 := [.int (0), .ref o, .ref 29]) rfl ?_
  refine Wp.invV (d2 := D) (as := [.ref 29, .ref o, .int (0)]) (r := []) (t := (6, 0)) rfl rfl rfl rfl (WF.t hwk2 29 rfl) rfl rfl ⟨rfl, rfl⟩ (by omega) (g3 _ ?_)
  show Wp d 64 35 [some (.ref 29), some (.ref o), some (.int (x)), none] [.int (1)] k3 Q
  refine Wp.if1 rfl (fun c3 => ?_) (fun c3 => absurd (show ¬ (1 : Int32) = 0 by decide) c3)
  exact hQ
set_option maxHeartbeats 4000000 in
theorem t_rr4 {d : Nat} {Q : KO → Prop} {h : KH} (hw : WF h) {o : Nat} {D : Nat} {y : Int32} {x : Int32} (t_h : h.2.2.1 29 6 = x) (l : x < 6) (hd : D + 1 ≤ d) (hQ : Q (some (.int (0)), h)) : Wp d 64 40 [some (.ref 29), some (.ref o), some (.int (y)), none] [] h Q := by
  refine Wp.seg 1 (pc1 := 41) (ls1 := [some (.ref 29), some (.ref o), some (.int (y)), none]) (st1 := [.ref 29]) rfl ?_
  refine Wp.gi (t := (6, 0)) rfl (WF.t hw 29 rfl) (Or.inl rfl) ?_
  rw [show h.2.2.1 29 6 = x from t_h]
  refine Wp.seg 1 (pc1 := 46) (ls1 := [some (.ref 29), some (.ref o), some (.int (y)), none]) (st1 := [.int (6), .int (x)]) rfl ?_
  refine Wp.if2 rfl (fun c1 => ?_) (fun c1 => absurd (l) c1)
  refine Wp.seg 1 (pc1 := 59) (ls1 := [some (.ref 29), some (.ref o), some (.int (y)), none]) (st1 := [.int (0)]) rfl ?_
  exact Wp.reti rfl rfl hQ
set_option maxHeartbeats 4000000 in
theorem t_rr5 {d : Nat} {Q : KO → Prop} {h : KH} (hw : WF h) {o : Nat} {D : Nat} {y : Int32} {x : Int32} (t_h : h.2.2.1 29 6 = x) (l : ¬ x < 6) (u : ¬ x ≤ 8) (hd : D + 1 ≤ d) (hQ : Q (some (.int (0)), h)) : Wp d 64 40 [some (.ref 29), some (.ref o), some (.int (y)), none] [] h Q := by
  refine Wp.seg 1 (pc1 := 41) (ls1 := [some (.ref 29), some (.ref o), some (.int (y)), none]) (st1 := [.ref 29]) rfl ?_
  refine Wp.gi (t := (6, 0)) rfl (WF.t hw 29 rfl) (Or.inl rfl) ?_
  rw [show h.2.2.1 29 6 = x from t_h]
  refine Wp.seg 1 (pc1 := 46) (ls1 := [some (.ref 29), some (.ref o), some (.int (y)), none]) (st1 := [.int (6), .int (x)]) rfl ?_
  refine Wp.if2 rfl (fun c1 => absurd c1 (l)) (fun c1 => ?_)
  refine Wp.seg 1 (pc1 := 50) (ls1 := [some (.ref 29), some (.ref o), some (.int (y)), none]) (st1 := [.ref 29]) rfl ?_
  refine Wp.gi (t := (6, 0)) rfl (WF.t hw 29 rfl) (Or.inl rfl) ?_
  rw [show h.2.2.1 29 6 = x from t_h]
  refine Wp.seg 1 (pc1 := 55) (ls1 := [some (.ref 29), some (.ref o), some (.int (y)), none]) (st1 := [.int (8), .int (x)]) rfl ?_
  refine Wp.if2 rfl (fun c2 => absurd c2 (u)) (fun c2 => ?_)
  refine Wp.seg 1 (pc1 := 59) (ls1 := [some (.ref 29), some (.ref o), some (.int (y)), none]) (st1 := [.int (0)]) rfl ?_
  exact Wp.reti rfl rfl hQ
set_option maxHeartbeats 4000000 in
theorem t_rr6 {d : Nat} {Q : KO → Prop} {h : KH} (hw : WF h) {k1 : KH} (hwk1 : WF k1) {o : Nat} {D : Nat} {y : Int32} {x : Int32} (t_h : h.2.2.1 29 6 = x) (l : ¬ x < 6) (u : x ≤ 8) (g1 : ∀ Q : KO → Prop, Q (none, k1) → Cl D 62 [.ref 29] h Q) {t1 : Int32} (t_k1 : k1.2.2.1 29 6 = t1) (n25 : ¬ t1 = 25) (hd : D + 1 ≤ d) (hQ : Q (some (.int (0)), k1)) : Wp d 64 40 [some (.ref 29), some (.ref o), some (.int (y)), none] [] h Q := by
  refine Wp.seg 1 (pc1 := 41) (ls1 := [some (.ref 29), some (.ref o), some (.int (y)), none]) (st1 := [.ref 29]) rfl ?_
  refine Wp.gi (t := (6, 0)) rfl (WF.t hw 29 rfl) (Or.inl rfl) ?_
  rw [show h.2.2.1 29 6 = x from t_h]
  refine Wp.seg 1 (pc1 := 46) (ls1 := [some (.ref 29), some (.ref o), some (.int (y)), none]) (st1 := [.int (6), .int (x)]) rfl ?_
  refine Wp.if2 rfl (fun c1 => absurd c1 (l)) (fun c1 => ?_)
  refine Wp.seg 1 (pc1 := 50) (ls1 := [some (.ref 29), some (.ref o), some (.int (y)), none]) (st1 := [.ref 29]) rfl ?_
  refine Wp.gi (t := (6, 0)) rfl (WF.t hw 29 rfl) (Or.inl rfl) ?_
  rw [show h.2.2.1 29 6 = x from t_h]
  refine Wp.seg 1 (pc1 := 55) (ls1 := [some (.ref 29), some (.ref o), some (.int (y)), none]) (st1 := [.int (8), .int (x)]) rfl ?_
  refine Wp.if2 rfl (fun c2 => ?_) (fun c2 => absurd (u) c2)
  refine Wp.seg 1 (pc1 := 61) (ls1 := [some (.ref 29), some (.ref o), some (.int (y)), none]) (st1 := [.ref 29]) rfl ?_
  refine Wp.gi (t := (6, 0)) rfl (WF.t hw 29 rfl) (Or.inl rfl) ?_
  rw [show h.2.2.1 29 6 = x from t_h]
  refine Wp.seg 4 (pc1 := 69) (ls1 := [some (.ref 29), some (.ref o), some (.int (y)), some (.int (x - (6 : Int32)))]) (st1 := [.ref 29]) rfl ?_
  refine Wp.invV (d2 := D) (as := [.ref 29]) (r := []) (t := (6, 0)) rfl rfl rfl rfl (WF.t hw 29 rfl) rfl rfl ⟨rfl, rfl⟩ (by omega) (g1 _ ?_)
  show Wp d 64 72 [some (.ref 29), some (.ref o), some (.int (y)), some (.int (x - (6 : Int32)))] [] k1 Q
  refine Wp.seg 1 (pc1 := 73) (ls1 := [some (.ref 29), some (.ref o), some (.int (y)), some (.int (x - (6 : Int32)))]) (st1 := [.ref 29]) rfl ?_
  refine Wp.gi (t := (6, 0)) rfl (WF.t hwk1 29 rfl) (Or.inl rfl) ?_
  rw [show k1.2.2.1 29 6 = t1 from t_k1]
  refine Wp.seg 1 (pc1 := 78) (ls1 := [some (.ref 29), some (.ref o), some (.int (y)), some (.int (x - (6 : Int32)))]) (st1 := [.int (25), .int (t1)]) rfl ?_
  refine Wp.if2 rfl (fun c3 => absurd c3 (n25)) (fun c3 => ?_)
  refine Wp.seg 1 (pc1 := 82) (ls1 := [some (.ref 29), some (.ref o), some (.int (y)), some (.int (x - (6 : Int32)))]) (st1 := [.int (0)]) rfl ?_
  exact Wp.reti rfl rfl hQ
set_option maxHeartbeats 4000000 in
theorem t_rr7 {d : Nat} {Q : KO → Prop} {h : KH} (hw : WF h) {k1 : KH} (hwk1 : WF k1) {k2 : KH} (hwk2 : WF k2) {k3 : KH} (hwk3 : WF k3) {o L : Nat} (hO : rulO k2 o L) {D : Nat} {y : Int32} {x : Int32} (t_h : h.2.2.1 29 6 = x) (l : ¬ x < 6) (u : x ≤ 8) (g1 : ∀ Q : KO → Prop, Q (none, k1) → Cl D 62 [.ref 29] h Q) {t1 : Int32} (t_k1 : k1.2.2.1 29 6 = t1) (n25 : t1 = 25) (g2 : ∀ Q : KO → Prop, Q (none, k2) → Cl D 62 [.ref 29] k1 Q) (g3 : ∀ Q : KO → Prop, Q (none, k3) → Cl D 78 [.ref o, .int y, .int (x - 6)] k2 Q) (hd : D + 1 ≤ d) (hQ : Q (some (.int (1)), k3)) : Wp d 64 40 [some (.ref 29), some (.ref o), some (.int (y)), none] [] h Q := by
  refine Wp.seg 1 (pc1 := 41) (ls1 := [some (.ref 29), some (.ref o), some (.int (y)), none]) (st1 := [.ref 29]) rfl ?_
  refine Wp.gi (t := (6, 0)) rfl (WF.t hw 29 rfl) (Or.inl rfl) ?_
  rw [show h.2.2.1 29 6 = x from t_h]
  refine Wp.seg 1 (pc1 := 46) (ls1 := [some (.ref 29), some (.ref o), some (.int (y)), none]) (st1 := [.int (6), .int (x)]) rfl ?_
  refine Wp.if2 rfl (fun c1 => absurd c1 (l)) (fun c1 => ?_)
  refine Wp.seg 1 (pc1 := 50) (ls1 := [some (.ref 29), some (.ref o), some (.int (y)), none]) (st1 := [.ref 29]) rfl ?_
  refine Wp.gi (t := (6, 0)) rfl (WF.t hw 29 rfl) (Or.inl rfl) ?_
  rw [show h.2.2.1 29 6 = x from t_h]
  refine Wp.seg 1 (pc1 := 55) (ls1 := [some (.ref 29), some (.ref o), some (.int (y)), none]) (st1 := [.int (8), .int (x)]) rfl ?_
  refine Wp.if2 rfl (fun c2 => ?_) (fun c2 => absurd (u) c2)
  refine Wp.seg 1 (pc1 := 61) (ls1 := [some (.ref 29), some (.ref o), some (.int (y)), none]) (st1 := [.ref 29]) rfl ?_
  refine Wp.gi (t := (6, 0)) rfl (WF.t hw 29 rfl) (Or.inl rfl) ?_
  rw [show h.2.2.1 29 6 = x from t_h]
  refine Wp.seg 4 (pc1 := 69) (ls1 := [some (.ref 29), some (.ref o), some (.int (y)), some (.int (x - (6 : Int32)))]) (st1 := [.ref 29]) rfl ?_
  refine Wp.invV (d2 := D) (as := [.ref 29]) (r := []) (t := (6, 0)) rfl rfl rfl rfl (WF.t hw 29 rfl) rfl rfl ⟨rfl, rfl⟩ (by omega) (g1 _ ?_)
  show Wp d 64 72 [some (.ref 29), some (.ref o), some (.int (y)), some (.int (x - (6 : Int32)))] [] k1 Q
  refine Wp.seg 1 (pc1 := 73) (ls1 := [some (.ref 29), some (.ref o), some (.int (y)), some (.int (x - (6 : Int32)))]) (st1 := [.ref 29]) rfl ?_
  refine Wp.gi (t := (6, 0)) rfl (WF.t hwk1 29 rfl) (Or.inl rfl) ?_
  rw [show k1.2.2.1 29 6 = t1 from t_k1]
  refine Wp.seg 1 (pc1 := 78) (ls1 := [some (.ref 29), some (.ref o), some (.int (y)), some (.int (x - (6 : Int32)))]) (st1 := [.int (25), .int (t1)]) rfl ?_
  refine Wp.if2 rfl (fun c3 => ?_) (fun c3 => absurd (n25) c3)
  refine Wp.seg 1 (pc1 := 84) (ls1 := [some (.ref 29), some (.ref o), some (.int (y)), some (.int (x - (6 : Int32)))]) (st1 := [.ref 29]) rfl ?_
  refine Wp.invV (d2 := D) (as := [.ref 29]) (r := []) (t := (6, 0)) rfl rfl rfl rfl (WF.t hwk1 29 rfl) rfl rfl ⟨rfl, rfl⟩ (by omega) (g2 _ ?_)
  show Wp d 64 87 [some (.ref 29), some (.ref o), some (.int (y)), some (.int (x - (6 : Int32)))] [] k2 Q
  refine Wp.seg 3 (pc1 := 90) (ls1 := [some (.ref 29), some (.ref o), some (.int (y)), some (.int (x - (6 : Int32)))]) (st1 := [.int (x - (6 : Int32)), .int (y), .ref o]) rfl ?_
  refine Wp.invV (d2 := D) (as := [.ref o, .int (y), .int (x - (6 : Int32))]) (r := []) (t := (9, 0)) rfl rfl rfl rfl hO.1 rfl rfl ⟨rfl, rfl⟩ (by omega) (g3 _ ?_)
  show Wp d 64 93 [some (.ref 29), some (.ref o), some (.int (y)), some (.int (x - (6 : Int32)))] [] k3 Q
  refine Wp.seg 1 (pc1 := 94) (ls1 := [some (.ref 29), some (.ref o), some (.int (y)), some (.int (x - (6 : Int32)))]) (st1 := [.int (1)]) rfl ?_
  exact Wp.reti rfl rfl hQ
set_option maxHeartbeats 4000000 in
theorem t_close {d : Nat} {Q : KO → Prop} {h : KH} (hw : WF h) {o L : Nat} (hO : rulO h o L) {r z : Nat} {x y : Int32} (h4 : h.2.2.1 o 4 = Int32.ofNat r) (r8 : r < 8) (hz : h.2.2.1 o 5 = Int32.ofNat z) (r82 : ¬ (8 : Int32) ≤ Int32.ofNat r) (o75 : 75 ≤ o) (hd : 0 ≤ d) (hQ : Q (none, kwi (kwi (kwi (kwi h (o + 1) r x) (o + 2) r y) (o + 3) r (Int32.ofNat z)) o 4 ((Int32.ofNat r) + (1 : Int32)))) : Cl d 78 [.ref o, .int (x), .int (y)] h Q := by
  refine Cl.of (ls := [some (.ref o), some (.int (x)), some (.int (y))]) rfl rfl ?_
  refine Wp.seg 1 (pc1 := 1) (ls1 := [some (.ref o), some (.int (x)), some (.int (y))]) (st1 := [.ref o]) rfl ?_
  refine Wp.gi (t := (9, 0)) rfl hO.1 (Or.inl rfl) ?_
  rw [show h.2.2.1 o 4 = Int32.ofNat r from h4]
  refine Wp.seg 1 (pc1 := 6) (ls1 := [some (.ref o), some (.int (x)), some (.int (y))]) (st1 := [.int (8), .int (Int32.ofNat r)]) rfl ?_
  refine Wp.if2 rfl (fun c1 => absurd c1 (r82)) (fun c1 => ?_)
  refine Wp.seg 1 (pc1 := 10) (ls1 := [some (.ref o), some (.int (x)), some (.int (y))]) (st1 := [.ref o]) rfl ?_
  refine Wp.gr (t := (9, 0)) (v := some (o + 1)) rfl hO.1 rfl hO.2.2.2.2.2.1 ?_
  show Wp d 78 13 [some (.ref o), some (.int (x)), some (.int (y))] [.ref (o + 1)] h Q
  refine Wp.seg 1 (pc1 := 14) (ls1 := [some (.ref o), some (.int (x)), some (.int (y))]) (st1 := [.ref o, .ref (o + 1)]) rfl ?_
  refine Wp.gi (t := (9, 0)) rfl hO.1 (Or.inl rfl) ?_
  rw [show h.2.2.1 o 4 = Int32.ofNat r from h4]
  refine Wp.seg 1 (pc1 := 18) (ls1 := [some (.ref o), some (.int (x)), some (.int (y))]) (st1 := [.int (x), .int (Int32.ofNat r), .ref (o + 1)]) rfl ?_
  refine Wp.iast (j := r) (n := 8) rfl hO.2.1 rfl r8 (by decide) ?_
  refine Wp.seg 1 (pc1 := 20) (ls1 := [some (.ref o), some (.int (x)), some (.int (y))]) (st1 := [.ref o]) rfl ?_
  refine Wp.gr (t := (9, 0)) (v := some (o + 2)) rfl hO.1 rfl hO.2.2.2.2.2.2.1 ?_
  show Wp d 78 23 [some (.ref o), some (.int (x)), some (.int (y))] [.ref (o + 2)] (kwi h (o + 1) r x) Q
  refine Wp.seg 1 (pc1 := 24) (ls1 := [some (.ref o), some (.int (x)), some (.int (y))]) (st1 := [.ref o, .ref (o + 2)]) rfl ?_
  refine Wp.gi (t := (9, 0)) rfl hO.1 (Or.inl rfl) ?_
  rw [show (kwi h (o + 1) r x).2.2.1 o 4 = Int32.ofNat r from ((kwi_b (by omega)).trans (rfl)).trans (h4)]
  refine Wp.seg 1 (pc1 := 28) (ls1 := [some (.ref o), some (.int (x)), some (.int (y))]) (st1 := [.int (y), .int (Int32.ofNat r), .ref (o + 2)]) rfl ?_
  refine Wp.iast (j := r) (n := 8) rfl hO.2.2.1 rfl r8 (by decide) ?_
  refine Wp.seg 1 (pc1 := 30) (ls1 := [some (.ref o), some (.int (x)), some (.int (y))]) (st1 := [.ref o]) rfl ?_
  refine Wp.gr (t := (9, 0)) (v := some (o + 3)) rfl hO.1 rfl hO.2.2.2.2.2.2.2.1 ?_
  show Wp d 78 33 [some (.ref o), some (.int (x)), some (.int (y))] [.ref (o + 3)] (kwi (kwi h (o + 1) r x) (o + 2) r y) Q
  refine Wp.seg 1 (pc1 := 34) (ls1 := [some (.ref o), some (.int (x)), some (.int (y))]) (st1 := [.ref o, .ref (o + 3)]) rfl ?_
  refine Wp.gi (t := (9, 0)) rfl hO.1 (Or.inl rfl) ?_
  rw [show (kwi (kwi h (o + 1) r x) (o + 2) r y).2.2.1 o 4 = Int32.ofNat r from ((kwi_b (by omega)).trans ((kwi_b (by omega)).trans (rfl))).trans (h4)]
  refine Wp.seg 1 (pc1 := 38) (ls1 := [some (.ref o), some (.int (x)), some (.int (y))]) (st1 := [.ref o, .int (Int32.ofNat r), .ref (o + 3)]) rfl ?_
  refine Wp.gi (t := (9, 0)) rfl hO.1 (Or.inl rfl) ?_
  rw [show (kwi (kwi h (o + 1) r x) (o + 2) r y).2.2.1 o 5 = Int32.ofNat z from ((kwi_b (by omega)).trans ((kwi_b (by omega)).trans (rfl))).trans (hz)]
  refine Wp.iast (j := r) (n := 8) rfl hO.2.2.2.1 rfl r8 (by decide) ?_
  refine Wp.seg 2 (pc1 := 44) (ls1 := [some (.ref o), some (.int (x)), some (.int (y))]) (st1 := [.ref o, .ref o]) rfl ?_
  refine Wp.gi (t := (9, 0)) rfl hO.1 (Or.inl rfl) ?_
  rw [show (kwi (kwi (kwi h (o + 1) r x) (o + 2) r y) (o + 3) r (Int32.ofNat z)).2.2.1 o 4 = Int32.ofNat r from ((kwi_b (by omega)).trans ((kwi_b (by omega)).trans ((kwi_b (by omega)).trans (rfl)))).trans (h4)]
  refine Wp.seg 2 (pc1 := 49) (ls1 := [some (.ref o), some (.int (x)), some (.int (y))]) (st1 := [.int ((Int32.ofNat r) + (1 : Int32)), .ref o]) rfl ?_
  refine Wp.pi (t := (9, 0)) rfl hO.1 (Or.inl rfl) ?_
  exact Wp.retv rfl rfl hQ
set_option maxHeartbeats 4000000 in
theorem t_ra0 {d : Nat} {Q : KO → Prop} {h : KH} (hw : WF h) {o : Nat} {D : Nat} (hd : D + 1 ≤ d) (hQ : Wp d 63 2 ([some (.ref 29), some (.ref o), some (.int (0))]) [] h Q) : Cl d 63 [.ref 29, .ref o] h Q := by
  refine Cl.of (ls := [some (.ref 29), some (.ref o), none]) rfl rfl ?_
  refine Wp.seg 2 (pc1 := 2) (ls1 := [some (.ref 29), some (.ref o), some (.int (0))]) (st1 := []) rfl ?_
  exact hQ
set_option maxHeartbeats 4000000 in
theorem t_ra1 {d : Nat} {Q : KO → Prop} {h : KH} (hw : WF h) {o : Nat} {D : Nat} {i : Nat} {x : Int32} (t_h : h.2.2.1 29 6 = x) (e : x = 26) (hd : D + 1 ≤ d) (hQ : Q (some (.int (1)), h)) : Wp d 63 2 [some (.ref 29), some (.ref o), some (.int (Int32.ofNat i))] [] h Q := by
  refine Wp.seg 1 (pc1 := 3) (ls1 := [some (.ref 29), some (.ref o), some (.int (Int32.ofNat i))]) (st1 := [.ref 29]) rfl ?_
  refine Wp.gi (t := (6, 0)) rfl (WF.t hw 29 rfl) (Or.inl rfl) ?_
  rw [show h.2.2.1 29 6 = x from t_h]
  refine Wp.seg 1 (pc1 := 8) (ls1 := [some (.ref 29), some (.ref o), some (.int (Int32.ofNat i))]) (st1 := [.int (26), .int (x)]) rfl ?_
  refine Wp.if2 rfl (fun c1 => ?_) (fun c1 => absurd (e) c1)
  refine Wp.seg 1 (pc1 := 40) (ls1 := [some (.ref 29), some (.ref o), some (.int (Int32.ofNat i))]) (st1 := [.int (1)]) rfl ?_
  exact Wp.reti rfl rfl hQ
set_option maxHeartbeats 4000000 in
theorem t_ra2 {d : Nat} {Q : KO → Prop} {h : KH} (hw : WF h) {o : Nat} {D : Nat} {i : Nat} {x : Int32} (t_h : h.2.2.1 29 6 = x) (e : ¬ x = 26) (i8 : ¬ (8 : Int32) < Int32.ofNat i) (ie : Int32.ofNat i = 8) (hd : D + 1 ≤ d) (hQ : Q (some (.int (0)), h)) : Wp d 63 2 [some (.ref 29), some (.ref o), some (.int (Int32.ofNat i))] [] h Q := by
  refine Wp.seg 1 (pc1 := 3) (ls1 := [some (.ref 29), some (.ref o), some (.int (Int32.ofNat i))]) (st1 := [.ref 29]) rfl ?_
  refine Wp.gi (t := (6, 0)) rfl (WF.t hw 29 rfl) (Or.inl rfl) ?_
  rw [show h.2.2.1 29 6 = x from t_h]
  refine Wp.seg 1 (pc1 := 8) (ls1 := [some (.ref 29), some (.ref o), some (.int (Int32.ofNat i))]) (st1 := [.int (26), .int (x)]) rfl ?_
  refine Wp.if2 rfl (fun c1 => absurd c1 (e)) (fun c1 => ?_)
  refine Wp.seg 2 (pc1 := 14) (ls1 := [some (.ref 29), some (.ref o), some (.int (Int32.ofNat i))]) (st1 := [.int (8), .int (Int32.ofNat i)]) rfl ?_
  refine Wp.if2 rfl (fun c2 => absurd c2 (i8)) (fun c2 => ?_)
  refine Wp.seg 2 (pc1 := 20) (ls1 := [some (.ref 29), some (.ref o), some (.int (Int32.ofNat i))]) (st1 := [.int (8), .int (Int32.ofNat i)]) rfl ?_
  refine Wp.if2 rfl (fun c3 => ?_) (fun c3 => absurd (ie) c3)
  refine Wp.seg 1 (pc1 := 32) (ls1 := [some (.ref 29), some (.ref o), some (.int (Int32.ofNat i))]) (st1 := [.int (0)]) rfl ?_
  exact Wp.reti rfl rfl hQ
set_option maxHeartbeats 4000000 in
theorem t_ra30 {d : Nat} {Q : KO → Prop} {h : KH} (hw : WF h) {k1 : KH} (hwk1 : WF k1) {o : Nat} {D : Nat} {i : Nat} {x : Int32} (t_h : h.2.2.1 29 6 = x) (e : ¬ x = 26) (i8 : ¬ (8 : Int32) < Int32.ofNat i) (ie : ¬ Int32.ofNat i = 8) (g1 : ∀ Q : KO → Prop, Q (some (.int 0), k1) → Cl D 64 [.ref 29, .ref o] h Q) (hd : D + 1 ≤ d) (hQ : Q (some (.int (0)), k1)) : Wp d 63 2 [some (.ref 29), some (.ref o), some (.int (Int32.ofNat i))] [] h Q := by
  refine Wp.seg 1 (pc1 := 3) (ls1 := [some (.ref 29), some (.ref o), some (.int (Int32.ofNat i))]) (st1 := [.ref 29]) rfl ?_
  refine Wp.gi (t := (6, 0)) rfl (WF.t hw 29 rfl) (Or.inl rfl) ?_
  rw [show h.2.2.1 29 6 = x from t_h]
  refine Wp.seg 1 (pc1 := 8) (ls1 := [some (.ref 29), some (.ref o), some (.int (Int32.ofNat i))]) (st1 := [.int (26), .int (x)]) rfl ?_
  refine Wp.if2 rfl (fun c1 => absurd c1 (e)) (fun c1 => ?_)
  refine Wp.seg 2 (pc1 := 14) (ls1 := [some (.ref 29), some (.ref o), some (.int (Int32.ofNat i))]) (st1 := [.int (8), .int (Int32.ofNat i)]) rfl ?_
  refine Wp.if2 rfl (fun c2 => absurd c2 (i8)) (fun c2 => ?_)
  refine Wp.seg 2 (pc1 := 20) (ls1 := [some (.ref 29), some (.ref o), some (.int (Int32.ofNat i))]) (st1 := [.int (8), .int (Int32.ofNat i)]) rfl ?_
  refine Wp.if2 rfl (fun c3 => absurd c3 (ie)) (fun c3 => ?_)
  refine Wp.seg 2 (pc1 := 25) (ls1 := [some (.ref 29), some (.ref o), some (.int (Int32.ofNat i))]) (st1 := [.ref o, .ref 29]) rfl ?_
  refine Wp.invV (d2 := D) (as := [.ref 29, .ref o]) (r := []) (t := (6, 0)) rfl rfl rfl rfl (WF.t hw 29 rfl) rfl rfl ⟨rfl, rfl⟩ (by omega) (g1 _ ?_)
  show Wp d 63 28 [some (.ref 29), some (.ref o), some (.int (Int32.ofNat i))] [.int (0)] k1 Q
  refine Wp.if1 rfl (fun c4 => absurd c4 (show ¬ (¬ (0 : Int32) = 0) by decide)) (fun c4 => ?_)
  refine Wp.seg 1 (pc1 := 32) (ls1 := [some (.ref 29), some (.ref o), some (.int (Int32.ofNat i))]) (st1 := [.int (0)]) rfl ?_
  exact Wp.reti rfl rfl hQ
set_option maxHeartbeats 4000000 in
theorem t_ra31 {d : Nat} {Q : KO → Prop} {h : KH} (hw : WF h) {k1 : KH} (hwk1 : WF k1) {o : Nat} {D : Nat} {i : Nat} {x : Int32} (t_h : h.2.2.1 29 6 = x) (e : ¬ x = 26) (i8 : ¬ (8 : Int32) < Int32.ofNat i) (ie : ¬ Int32.ofNat i = 8) (g1 : ∀ Q : KO → Prop, Q (some (.int 1), k1) → Cl D 64 [.ref 29, .ref o] h Q) (hd : D + 1 ≤ d) (hQ : Wp d 63 2 ([some (.ref 29), some (.ref o), some (.int ((Int32.ofNat i) + 1))]) [] k1 Q) : Wp d 63 2 [some (.ref 29), some (.ref o), some (.int (Int32.ofNat i))] [] h Q := by
  refine Wp.seg 1 (pc1 := 3) (ls1 := [some (.ref 29), some (.ref o), some (.int (Int32.ofNat i))]) (st1 := [.ref 29]) rfl ?_
  refine Wp.gi (t := (6, 0)) rfl (WF.t hw 29 rfl) (Or.inl rfl) ?_
  rw [show h.2.2.1 29 6 = x from t_h]
  refine Wp.seg 1 (pc1 := 8) (ls1 := [some (.ref 29), some (.ref o), some (.int (Int32.ofNat i))]) (st1 := [.int (26), .int (x)]) rfl ?_
  refine Wp.if2 rfl (fun c1 => absurd c1 (e)) (fun c1 => ?_)
  refine Wp.seg 2 (pc1 := 14) (ls1 := [some (.ref 29), some (.ref o), some (.int (Int32.ofNat i))]) (st1 := [.int (8), .int (Int32.ofNat i)]) rfl ?_
  refine Wp.if2 rfl (fun c2 => absurd c2 (i8)) (fun c2 => ?_)
  refine Wp.seg 2 (pc1 := 20) (ls1 := [some (.ref 29), some (.ref o), some (.int (Int32.ofNat i))]) (st1 := [.int (8), .int (Int32.ofNat i)]) rfl ?_
  refine Wp.if2 rfl (fun c3 => absurd c3 (ie)) (fun c3 => ?_)
  refine Wp.seg 2 (pc1 := 25) (ls1 := [some (.ref 29), some (.ref o), some (.int (Int32.ofNat i))]) (st1 := [.ref o, .ref 29]) rfl ?_
  refine Wp.invV (d2 := D) (as := [.ref 29, .ref o]) (r := []) (t := (6, 0)) rfl rfl rfl rfl (WF.t hw 29 rfl) rfl rfl ⟨rfl, rfl⟩ (by omega) (g1 _ ?_)
  show Wp d 63 28 [some (.ref 29), some (.ref o), some (.int (Int32.ofNat i))] [.int (1)] k1 Q
  refine Wp.if1 rfl (fun c4 => ?_) (fun c4 => absurd (show ¬ (1 : Int32) = 0 by decide) c4)
  refine Wp.seg 2 (pc1 := 2) (ls1 := [some (.ref 29), some (.ref o), some (.int ((Int32.ofNat i) + 1))]) (st1 := []) rfl ?_
  exact hQ
set_option maxHeartbeats 4000000 in
theorem t_fau {d : Nat} {Q : KO → Prop} {h : KH} (hw : WF h) {q : Nat} {y : Int32} (h5 : h.2.2.1 29 5 = Int32.ofNat q) (q200 : q < 201) (hy : h.2.2.1 32 q = y) (hd : 0 ≤ d) (hQ : Q (some (.int (y)), h)) : Cl d 61 [.ref 29] h Q := by
  refine Cl.of (ls := [some (.ref 29)]) rfl rfl ?_
  refine Wp.seg 1 (pc1 := 1) (ls1 := [some (.ref 29)]) (st1 := [.ref 29]) rfl ?_
  refine Wp.gr (t := (6, 0)) (v := some (32)) rfl (WF.t hw 29 rfl) rfl (WF.r hw 29 3 39 rfl) ?_
  show Wp d 61 4 [some (.ref 29)] [.ref 32] h Q
  refine Wp.seg 1 (pc1 := 5) (ls1 := [some (.ref 29)]) (st1 := [.ref 29, .ref 32]) rfl ?_
  refine Wp.gi (t := (6, 0)) rfl (WF.t hw 29 rfl) (Or.inl rfl) ?_
  rw [show h.2.2.1 29 5 = Int32.ofNat q from h5]
  refine Wp.iald (j := q) (k := 20) (n := 201) rfl (WF.t hw 32 rfl) rfl rfl (by omega) (by decide) ?_
  rw [show h.2.2.1 32 q = y from hy]
  exact Wp.reti rfl rfl hQ
