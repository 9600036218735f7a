/-! KM: the reference: the grammar, its walks -/
set_option maxHeartbeats 4000000 in
theorem t_mo0 {d : Nat} {Q : KO → Prop} {h : KH} (hw : WF h) {D : Nat} (hd : D + 1 ≤ d) (hQ : Wp d 211 2 ([some (.ref 59), some (.int (0)), none, none, none]) [] h Q) : Cl d 211 [.ref 59] h Q := by
  refine Cl.of (ls := [some (.ref 59), none, none, none, none]) rfl rfl ?_
  refine Wp.seg 2 (pc1 := 2) (ls1 := [some (.ref 59), some (.int (0)), none, none, none]) (st1 := []) rfl ?_
  exact hQ
set_option maxHeartbeats 4000000 in
theorem t_mo1 {d : Nat} {Q : KO → Prop} {h : KH} (hw : WF h) {D : Nat} {n : Nat} (g1 : ∀ Q : KO → Prop, Q (some (.int 0), h) → Cl D 208 [.ref 59, .int 17] h Q) (hd : D + 1 ≤ d) (hQ : Wp d 211 17 ([some (.ref 59), some (.int (Int32.ofNat n)), none, none, none]) [] h Q) : Wp d 211 2 [some (.ref 59), some (.int (Int32.ofNat n)), none, none, none] [] h Q := by
  refine Wp.seg 2 (pc1 := 5) (ls1 := [some (.ref 59), some (.int (Int32.ofNat n)), none, none, none]) (st1 := [.int (17), .ref 59]) rfl ?_
  refine Wp.invV (d2 := D) (as := [.ref 59, .int (17)]) (r := []) (t := (11, 0)) rfl rfl rfl rfl (WF.t hw 59 rfl) rfl rfl ⟨rfl, rfl⟩ (by omega) (g1 _ ?_)
  show Wp d 211 8 [some (.ref 59), some (.int (Int32.ofNat n)), none, none, none] [.int (0)] h Q
  refine Wp.if1 rfl (fun c1 => ?_) (fun c1 => absurd (show (0 : Int32) = 0 by decide) c1)
  exact hQ
set_option maxHeartbeats 4000000 in
theorem t_mo2 {d : Nat} {Q : KO → Prop} {h : KH} (hw : WF h) {k1 : KH} (hwk1 : WF k1) {D : Nat} {n : Nat} (g1 : ∀ Q : KO → Prop, Q (some (.int 1), k1) → Cl D 208 [.ref 59, .int 17] h Q) (hd : D + 1 ≤ d) (hQ : Wp d 211 2 ([some (.ref 59), some (.int ((Int32.ofNat n) + 1)), none, none, none]) [] k1 Q) : Wp d 211 2 [some (.ref 59), some (.int (Int32.ofNat n)), none, none, none] [] h Q := by
  refine Wp.seg 2 (pc1 := 5) (ls1 := [some (.ref 59), some (.int (Int32.ofNat n)), none, none, none]) (st1 := [.int (17), .ref 59]) rfl ?_
  refine Wp.invV (d2 := D) (as := [.ref 59, .int (17)]) (r := []) (t := (11, 0)) rfl rfl rfl rfl (WF.t hw 59 rfl) rfl rfl ⟨rfl, rfl⟩ (by omega) (g1 _ ?_)
  show Wp d 211 8 [some (.ref 59), some (.int (Int32.ofNat n)), none, none, none] [.int (1)] k1 Q
  refine Wp.if1 rfl (fun c1 => absurd c1 (show ¬ ((1 : Int32) = 0) by decide)) (fun c1 => ?_)
  refine Wp.seg 2 (pc1 := 2) (ls1 := [some (.ref 59), some (.int ((Int32.ofNat n) + 1)), none, none, none]) (st1 := []) rfl ?_
  exact hQ
set_option maxHeartbeats 4000000 in
theorem t_moD1 {d : Nat} {Q : KO → Prop} {h : KH} (hw : WF h) {D : Nat} {n : Nat} {t : Int32} (h6 : h.2.2.1 59 6 = t) (e : ¬ t = 22) (hd : D + 1 ≤ d) (hQ : Wp d 211 95 ([some (.ref 59), some (.int (Int32.ofNat n)), none, none, none]) [] h Q) : Wp d 211 17 [some (.ref 59), some (.int (Int32.ofNat n)), none, none, none] [] h Q := by
  refine Wp.seg 1 (pc1 := 18) (ls1 := [some (.ref 59), some (.int (Int32.ofNat n)), none, none, none]) (st1 := [.ref 59]) rfl ?_
  refine Wp.gi (t := (11, 0)) rfl (WF.t hw 59 rfl) (Or.inl rfl) ?_
  rw [show h.2.2.1 59 6 = t from h6]
  refine Wp.seg 1 (pc1 := 23) (ls1 := [some (.ref 59), some (.int (Int32.ofNat n)), none, none, none]) (st1 := [.int (22), .int (t)]) rfl ?_
  refine Wp.if2 rfl (fun c1 => ?_) (fun c1 => absurd (e) c1)
  exact hQ
set_option maxHeartbeats 4000000 in
theorem t_moD2 {d : Nat} {Q : KO → Prop} {h : KH} (hw : WF h) {D : Nat} {n : Nat} {t : Int32} (h6 : h.2.2.1 59 6 = t) {p : Int32} (h11 : h.2.2.1 59 11 = p) (e : t = 22) (p3 : (3 : Int32) ≤ p) (hd : D + 1 ≤ d) (hQ : Wp d 211 95 ([some (.ref 59), some (.int (Int32.ofNat n)), none, none, none]) [] h Q) : Wp d 211 17 [some (.ref 59), some (.int (Int32.ofNat n)), none, none, none] [] h Q := by
  refine Wp.seg 1 (pc1 := 18) (ls1 := [some (.ref 59), some (.int (Int32.ofNat n)), none, none, none]) (st1 := [.ref 59]) rfl ?_
  refine Wp.gi (t := (11, 0)) rfl (WF.t hw 59 rfl) (Or.inl rfl) ?_
  rw [show h.2.2.1 59 6 = t from h6]
  refine Wp.seg 1 (pc1 := 23) (ls1 := [some (.ref 59), some (.int (Int32.ofNat n)), none, none, none]) (st1 := [.int (22), .int (t)]) rfl ?_
  refine Wp.if2 rfl (fun c1 => absurd c1 (fun z => z e)) (fun c1 => ?_)
  refine Wp.seg 1 (pc1 := 27) (ls1 := [some (.ref 59), some (.int (Int32.ofNat n)), none, none, none]) (st1 := [.ref 59]) rfl ?_
  refine Wp.gi (t := (11, 0)) rfl (WF.t hw 59 rfl) (Or.inl rfl) ?_
  rw [show h.2.2.1 59 11 = p from h11]
  refine Wp.seg 1 (pc1 := 31) (ls1 := [some (.ref 59), some (.int (Int32.ofNat n)), none, none, none]) (st1 := [.int (3), .int (p)]) rfl ?_
  refine Wp.if2 rfl (fun c2 => ?_) (fun c2 => absurd (p3) c2)
  exact hQ
set_option maxHeartbeats 4000000 in
theorem t_moA {d : Nat} {Q : KO → Prop} {h : KH} (hw : WF h) {k1 : KH} (hwk1 : WF k1) {k2 : KH} (hwk2 : WF k2) {D : Nat} {n : Nat} {t : Int32} (h6 : h.2.2.1 59 6 = t) {p : Int32} (h11 : h.2.2.1 59 11 = p) (e : t = 22) (p3 : ¬ (3 : Int32) ≤ p) (g1 : ∀ Q : KO → Prop, Q (some (.int 1), k1) → Cl D 208 [.ref 59, .int 22] h Q) (i11 : k1.2.2.1 59 11 = p) (g2 : ∀ Q : KO → Prop, Q (none, k2) → Cl D 213 [.ref 59] (kwi k1 59 11 (p + 1)) Q) {x : Int32} (x11 : k2.2.2.1 59 11 = x) (b2 : k2.2.2.1 59 10 = 1) (hd : D + 1 ≤ d) (hQ : Wp d 211 159 ([some (.ref 59), some (.int (Int32.ofNat n)), none, none, none]) [] (kwi (kwi k2 59 10 (1 : Int32)) 59 11 (x - (1 : Int32))) Q) : Wp d 211 17 [some (.ref 59), some (.int (Int32.ofNat n)), none, none, none] [] h Q := by
  refine Wp.seg 1 (pc1 := 18) (ls1 := [some (.ref 59), some (.int (Int32.ofNat n)), none, none, none]) (st1 := [.ref 59]) rfl ?_
  refine Wp.gi (t := (11, 0)) rfl (WF.t hw 59 rfl) (Or.inl rfl) ?_
  rw [show h.2.2.1 59 6 = t from h6]
  refine Wp.seg 1 (pc1 := 23) (ls1 := [some (.ref 59), some (.int (Int32.ofNat n)), none, none, none]) (st1 := [.int (22), .int (t)]) rfl ?_
  refine Wp.if2 rfl (fun c1 => absurd c1 (fun z => z e)) (fun c1 => ?_)
  refine Wp.seg 1 (pc1 := 27) (ls1 := [some (.ref 59), some (.int (Int32.ofNat n)), none, none, none]) (st1 := [.ref 59]) rfl ?_
  refine Wp.gi (t := (11, 0)) rfl (WF.t hw 59 rfl) (Or.inl rfl) ?_
  rw [show h.2.2.1 59 11 = p from h11]
  refine Wp.seg 1 (pc1 := 31) (ls1 := [some (.ref 59), some (.int (Int32.ofNat n)), none, none, none]) (st1 := [.int (3), .int (p)]) rfl ?_
  refine Wp.if2 rfl (fun c2 => absurd c2 (p3)) (fun c2 => ?_)
  refine Wp.seg 2 (pc1 := 37) (ls1 := [some (.ref 59), some (.int (Int32.ofNat n)), none, none, none]) (st1 := [.int (22), .ref 59]) rfl ?_
  refine Wp.invV (d2 := D) (as := [.ref 59, .int (22)]) (r := []) (t := (11, 0)) rfl rfl rfl rfl (WF.t hw 59 rfl) rfl rfl ⟨rfl, rfl⟩ (by omega) (g1 _ ?_)
  show Wp d 211 40 [some (.ref 59), some (.int (Int32.ofNat n)), none, none, none] [.int (1)] k1 Q
  refine Wp.if1 rfl (fun c3 => absurd c3 (show ¬ ((1 : Int32) = 0) by decide)) (fun c3 => ?_)
  refine Wp.seg 2 (pc1 := 45) (ls1 := [some (.ref 59), some (.int (Int32.ofNat n)), none, none, none]) (st1 := [.ref 59, .ref 59]) rfl ?_
  refine Wp.gi (t := (11, 0)) rfl (WF.t hwk1 59 rfl) (Or.inl rfl) ?_
  rw [show k1.2.2.1 59 11 = p from i11]
  refine Wp.seg 2 (pc1 := 50) (ls1 := [some (.ref 59), some (.int (Int32.ofNat n)), none, none, none]) (st1 := [.int (p + (1 : Int32)), .ref 59]) rfl ?_
  refine Wp.pi (t := (11, 0)) rfl (WF.t hwk1 59 rfl) (Or.inl rfl) ?_
  refine Wp.seg 1 (pc1 := 54) (ls1 := [some (.ref 59), some (.int (Int32.ofNat n)), none, none, none]) (st1 := [.ref 59]) rfl ?_
  refine Wp.invV (d2 := D) (as := [.ref 59]) (r := []) (t := (11, 0)) rfl rfl rfl rfl (WF.t hwk1 59 rfl) rfl rfl ⟨rfl, rfl⟩ (by omega) (g2 _ ?_)
  show Wp d 211 57 [some (.ref 59), some (.int (Int32.ofNat n)), none, none, none] [] k2 Q
  refine Wp.seg 2 (pc1 := 59) (ls1 := [some (.ref 59), some (.int (Int32.ofNat n)), none, none, none]) (st1 := [.ref 59, .ref 59]) rfl ?_
  refine Wp.gi (t := (11, 0)) rfl (WF.t hwk2 59 rfl) (Or.inr rfl) ?_
  rw [show k2.2.2.1 59 10 = 1 from b2]
  refine Wp.if1 rfl (fun c4 => ?_) (fun c4 => absurd (show ¬ (1 : Int32) = 0 by decide) c4)
  refine Wp.seg 2 (pc1 := 79) (ls1 := [some (.ref 59), some (.int (Int32.ofNat n)), none, none, none]) (st1 := [.int (1), .ref 59]) rfl ?_
  refine Wp.pi (t := (11, 0)) rfl (WF.t hwk2 59 rfl) (Or.inr ⟨rfl, Or.inr rfl⟩) ?_
  refine Wp.seg 2 (pc1 := 84) (ls1 := [some (.ref 59), some (.int (Int32.ofNat n)), none, none, none]) (st1 := [.ref 59, .ref 59]) rfl ?_
  refine Wp.gi (t := (11, 0)) rfl (WF.t hwk2 59 rfl) (Or.inl rfl) ?_
  rw [show (kwi k2 59 10 (1 : Int32)).2.2.1 59 11 = x from ((kwi_o (by decide)).trans (rfl)).trans (x11)]
  refine Wp.seg 2 (pc1 := 89) (ls1 := [some (.ref 59), some (.int (Int32.ofNat n)), none, none, none]) (st1 := [.int (x - (1 : Int32)), .ref 59]) rfl ?_
  refine Wp.pi (t := (11, 0)) rfl (WF.t hwk2 59 rfl) (Or.inl rfl) ?_
  refine Wp.seg 1 (pc1 := 159) (ls1 := [some (.ref 59), some (.int (Int32.ofNat n)), none, none, none]) (st1 := []) rfl ?_
  exact hQ
set_option maxHeartbeats 4000000 in
theorem t_moB {d : Nat} {Q : KO → Prop} {h : KH} (hw : WF h) {k1 : KH} (hwk1 : WF k1) {k2 : KH} (hwk2 : WF k2) {k3 : KH} (hwk3 : WF k3) {D : Nat} {n : Nat} {t : Int32} (h6 : h.2.2.1 59 6 = t) {p : Int32} (h11 : h.2.2.1 59 11 = p) (e : t = 22) (p3 : ¬ (3 : Int32) ≤ p) (g1 : ∀ Q : KO → Prop, Q (some (.int 1), k1) → Cl D 208 [.ref 59, .int 22] h Q) (i11 : k1.2.2.1 59 11 = p) (g2 : ∀ Q : KO → Prop, Q (none, k2) → Cl D 213 [.ref 59] (kwi k1 59 11 (p + 1)) Q) {x : Int32} (x11 : k2.2.2.1 59 11 = x) (b2 : k2.2.2.1 59 10 = 0) (g3 : ∀ Q : KO → Prop, Q (some (.int 1), k3) → Cl D 208 [.ref 59, .int 23] k2 Q) (y11 : k3.2.2.1 59 11 = x) (hd : D + 1 ≤ d) (hQ : Wp d 211 159 ([some (.ref 59), some (.int (Int32.ofNat n)), none, none, none]) [] (kwi (kwi k3 59 10 (0 : Int32)) 59 11 (x - (1 : Int32))) Q) : Wp d 211 17 [some (.ref 59), some (.int (Int32.ofNat n)), none, none, none] [] h Q := by
  refine Wp.seg 1 (pc1 := 18) (ls1 := [some (.ref 59), some (.int (Int32.ofNat n)), none, none, none]) (st1 := [.ref 59]) rfl ?_
  refine Wp.gi (t := (11, 0)) rfl (WF.t hw 59 rfl) (Or.inl rfl) ?_
  rw [show h.2.2.1 59 6 = t from h6]
  refine Wp.seg 1 (pc1 := 23) (ls1 := [some (.ref 59), some (.int (Int32.ofNat n)), none, none, none]) (st1 := [.int (22), .int (t)]) rfl ?_
  refine Wp.if2 rfl (fun c1 => absurd c1 (fun z => z e)) (fun c1 => ?_)
  refine Wp.seg 1 (pc1 := 27) (ls1 := [some (.ref 59), some (.int (Int32.ofNat n)), none, none, none]) (st1 := [.ref 59]) rfl ?_
  refine Wp.gi (t := (11, 0)) rfl (WF.t hw 59 rfl) (Or.inl rfl) ?_
  rw [show h.2.2.1 59 11 = p from h11]
  refine Wp.seg 1 (pc1 := 31) (ls1 := [some (.ref 59), some (.int (Int32.ofNat n)), none, none, none]) (st1 := [.int (3), .int (p)]) rfl ?_
  refine Wp.if2 rfl (fun c2 => absurd c2 (p3)) (fun c2 => ?_)
  refine Wp.seg 2 (pc1 := 37) (ls1 := [some (.ref 59), some (.int (Int32.ofNat n)), none, none, none]) (st1 := [.int (22), .ref 59]) rfl ?_
  refine Wp.invV (d2 := D) (as := [.ref 59, .int (22)]) (r := []) (t := (11, 0)) rfl rfl rfl rfl (WF.t hw 59 rfl) rfl rfl ⟨rfl, rfl⟩ (by omega) (g1 _ ?_)
  show Wp d 211 40 [some (.ref 59), some (.int (Int32.ofNat n)), none, none, none] [.int (1)] k1 Q
  refine Wp.if1 rfl (fun c3 => absurd c3 (show ¬ ((1 : Int32) = 0) by decide)) (fun c3 => ?_)
  refine Wp.seg 2 (pc1 := 45) (ls1 := [some (.ref 59), some (.int (Int32.ofNat n)), none, none, none]) (st1 := [.ref 59, .ref 59]) rfl ?_
  refine Wp.gi (t := (11, 0)) rfl (WF.t hwk1 59 rfl) (Or.inl rfl) ?_
  rw [show k1.2.2.1 59 11 = p from i11]
  refine Wp.seg 2 (pc1 := 50) (ls1 := [some (.ref 59), some (.int (Int32.ofNat n)), none, none, none]) (st1 := [.int (p + (1 : Int32)), .ref 59]) rfl ?_
  refine Wp.pi (t := (11, 0)) rfl (WF.t hwk1 59 rfl) (Or.inl rfl) ?_
  refine Wp.seg 1 (pc1 := 54) (ls1 := [some (.ref 59), some (.int (Int32.ofNat n)), none, none, none]) (st1 := [.ref 59]) rfl ?_
  refine Wp.invV (d2 := D) (as := [.ref 59]) (r := []) (t := (11, 0)) rfl rfl rfl rfl (WF.t hwk1 59 rfl) rfl rfl ⟨rfl, rfl⟩ (by omega) (g2 _ ?_)
  show Wp d 211 57 [some (.ref 59), some (.int (Int32.ofNat n)), none, none, none] [] k2 Q
  refine Wp.seg 2 (pc1 := 59) (ls1 := [some (.ref 59), some (.int (Int32.ofNat n)), none, none, none]) (st1 := [.ref 59, .ref 59]) rfl ?_
  refine Wp.gi (t := (11, 0)) rfl (WF.t hwk2 59 rfl) (Or.inr rfl) ?_
  rw [show k2.2.2.1 59 10 = 0 from b2]
  refine Wp.if1 rfl (fun c4 => absurd c4 (show ¬ (¬ (0 : Int32) = 0) by decide)) (fun c4 => ?_)
  refine Wp.seg 2 (pc1 := 68) (ls1 := [some (.ref 59), some (.int (Int32.ofNat n)), none, none, none]) (st1 := [.int (23), .ref 59, .ref 59]) rfl ?_
  refine Wp.invV (d2 := D) (as := [.ref 59, .int (23)]) (r := [.ref 59]) (t := (11, 0)) rfl rfl rfl rfl (WF.t hwk2 59 rfl) rfl rfl ⟨rfl, rfl⟩ (by omega) (g3 _ ?_)
  show Wp d 211 71 [some (.ref 59), some (.int (Int32.ofNat n)), none, none, none] [.int (1), .ref 59] k3 Q
  refine Wp.if1 rfl (fun c5 => ?_) (fun c5 => absurd (show ¬ (1 : Int32) = 0 by decide) c5)
  refine Wp.seg 1 (pc1 := 79) (ls1 := [some (.ref 59), some (.int (Int32.ofNat n)), none, none, none]) (st1 := [.int (0), .ref 59]) rfl ?_
  refine Wp.pi (t := (11, 0)) rfl (WF.t hwk3 59 rfl) (Or.inr ⟨rfl, Or.inl rfl⟩) ?_
  refine Wp.seg 2 (pc1 := 84) (ls1 := [some (.ref 59), some (.int (Int32.ofNat n)), none, none, none]) (st1 := [.ref 59, .ref 59]) rfl ?_
  refine Wp.gi (t := (11, 0)) rfl (WF.t hwk3 59 rfl) (Or.inl rfl) ?_
  rw [show (kwi k3 59 10 (0 : Int32)).2.2.1 59 11 = x from ((kwi_o (by decide)).trans (rfl)).trans (y11)]
  refine Wp.seg 2 (pc1 := 89) (ls1 := [some (.ref 59), some (.int (Int32.ofNat n)), none, none, none]) (st1 := [.int (x - (1 : Int32)), .ref 59]) rfl ?_
  refine Wp.pi (t := (11, 0)) rfl (WF.t hwk3 59 rfl) (Or.inl rfl) ?_
  refine Wp.seg 1 (pc1 := 159) (ls1 := [some (.ref 59), some (.int (Int32.ofNat n)), none, none, none]) (st1 := []) rfl ?_
  exact hQ
set_option maxHeartbeats 4000000 in
theorem t_moC {d : Nat} {Q : KO → Prop} {h : KH} (hw : WF h) {k1 : KH} (hwk1 : WF k1) {k2 : KH} (hwk2 : WF k2) {D : Nat} {n : Nat} {t : Int32} (h6 : h.2.2.1 59 6 = t) {p : Int32} (h11 : h.2.2.1 59 11 = p) (e : t = 22) (p3 : ¬ (3 : Int32) ≤ p) (g1 : ∀ Q : KO → Prop, Q (some (.int 1), k1) → Cl D 208 [.ref 59, .int 22] h Q) (i11 : k1.2.2.1 59 11 = p) (g2 : ∀ Q : KO → Prop, Q (none, k2) → Cl D 213 [.ref 59] (kwi k1 59 11 (p + 1)) Q) {x : Int32} (x11 : k2.2.2.1 59 11 = x) (b2 : k2.2.2.1 59 10 = 0) (g3 : ∀ Q : KO → Prop, Q (some (.int 0), k2) → Cl D 208 [.ref 59, .int 23] k2 Q) (hd : D + 1 ≤ d) (hQ : Wp d 211 159 ([some (.ref 59), some (.int (Int32.ofNat n)), none, none, none]) [] (kwi (kwi k2 59 10 (1 : Int32)) 59 11 (x - (1 : Int32))) Q) : Wp d 211 17 [some (.ref 59), some (.int (Int32.ofNat n)), none, none, none] [] h Q := by
  refine Wp.seg 1 (pc1 := 18) (ls1 := [some (.ref 59), some (.int (Int32.ofNat n)), none, none, none]) (st1 := [.ref 59]) rfl ?_
  refine Wp.gi (t := (11, 0)) rfl (WF.t hw 59 rfl) (Or.inl rfl) ?_
  rw [show h.2.2.1 59 6 = t from h6]
  refine Wp.seg 1 (pc1 := 23) (ls1 := [some (.ref 59), some (.int (Int32.ofNat n)), none, none, none]) (st1 := [.int (22), .int (t)]) rfl ?_
  refine Wp.if2 rfl (fun c1 => absurd c1 (fun z => z e)) (fun c1 => ?_)
  refine Wp.seg 1 (pc1 := 27) (ls1 := [some (.ref 59), some (.int (Int32.ofNat n)), none, none, none]) (st1 := [.ref 59]) rfl ?_
  refine Wp.gi (t := (11, 0)) rfl (WF.t hw 59 rfl) (Or.inl rfl) ?_
  rw [show h.2.2.1 59 11 = p from h11]
  refine Wp.seg 1 (pc1 := 31) (ls1 := [some (.ref 59), some (.int (Int32.ofNat n)), none, none, none]) (st1 := [.int (3), .int (p)]) rfl ?_
  refine Wp.if2 rfl (fun c2 => absurd c2 (p3)) (fun c2 => ?_)
  refine Wp.seg 2 (pc1 := 37) (ls1 := [some (.ref 59), some (.int (Int32.ofNat n)), none, none, none]) (st1 := [.int (22), .ref 59]) rfl ?_
  refine Wp.invV (d2 := D) (as := [.ref 59, .int (22)]) (r := []) (t := (11, 0)) rfl rfl rfl rfl (WF.t hw 59 rfl) rfl rfl ⟨rfl, rfl⟩ (by omega) (g1 _ ?_)
  show Wp d 211 40 [some (.ref 59), some (.int (Int32.ofNat n)), none, none, none] [.int (1)] k1 Q
  refine Wp.if1 rfl (fun c3 => absurd c3 (show ¬ ((1 : Int32) = 0) by decide)) (fun c3 => ?_)
  refine Wp.seg 2 (pc1 := 45) (ls1 := [some (.ref 59), some (.int (Int32.ofNat n)), none, none, none]) (st1 := [.ref 59, .ref 59]) rfl ?_
  refine Wp.gi (t := (11, 0)) rfl (WF.t hwk1 59 rfl) (Or.inl rfl) ?_
  rw [show k1.2.2.1 59 11 = p from i11]
  refine Wp.seg 2 (pc1 := 50) (ls1 := [some (.ref 59), some (.int (Int32.ofNat n)), none, none, none]) (st1 := [.int (p + (1 : Int32)), .ref 59]) rfl ?_
  refine Wp.pi (t := (11, 0)) rfl (WF.t hwk1 59 rfl) (Or.inl rfl) ?_
  refine Wp.seg 1 (pc1 := 54) (ls1 := [some (.ref 59), some (.int (Int32.ofNat n)), none, none, none]) (st1 := [.ref 59]) rfl ?_
  refine Wp.invV (d2 := D) (as := [.ref 59]) (r := []) (t := (11, 0)) rfl rfl rfl rfl (WF.t hwk1 59 rfl) rfl rfl ⟨rfl, rfl⟩ (by omega) (g2 _ ?_)
  show Wp d 211 57 [some (.ref 59), some (.int (Int32.ofNat n)), none, none, none] [] k2 Q
  refine Wp.seg 2 (pc1 := 59) (ls1 := [some (.ref 59), some (.int (Int32.ofNat n)), none, none, none]) (st1 := [.ref 59, .ref 59]) rfl ?_
  refine Wp.gi (t := (11, 0)) rfl (WF.t hwk2 59 rfl) (Or.inr rfl) ?_
  rw [show k2.2.2.1 59 10 = 0 from b2]
  refine Wp.if1 rfl (fun c4 => absurd c4 (show ¬ (¬ (0 : Int32) = 0) by decide)) (fun c4 => ?_)
  refine Wp.seg 2 (pc1 := 68) (ls1 := [some (.ref 59), some (.int (Int32.ofNat n)), none, none, none]) (st1 := [.int (23), .ref 59, .ref 59]) rfl ?_
  refine Wp.invV (d2 := D) (as := [.ref 59, .int (23)]) (r := [.ref 59]) (t := (11, 0)) rfl rfl rfl rfl (WF.t hwk2 59 rfl) rfl rfl ⟨rfl, rfl⟩ (by omega) (g3 _ ?_)
  show Wp d 211 71 [some (.ref 59), some (.int (Int32.ofNat n)), none, none, none] [.int (0), .ref 59] k2 Q
  refine Wp.if1 rfl (fun c5 => absurd c5 (show ¬ (¬ (0 : Int32) = 0) by decide)) (fun c5 => ?_)
  refine Wp.seg 2 (pc1 := 79) (ls1 := [some (.ref 59), some (.int (Int32.ofNat n)), none, none, none]) (st1 := [.int (1), .ref 59]) rfl ?_
  refine Wp.pi (t := (11, 0)) rfl (WF.t hwk2 59 rfl) (Or.inr ⟨rfl, Or.inr rfl⟩) ?_
  refine Wp.seg 2 (pc1 := 84) (ls1 := [some (.ref 59), some (.int (Int32.ofNat n)), none, none, none]) (st1 := [.ref 59, .ref 59]) rfl ?_
  refine Wp.gi (t := (11, 0)) rfl (WF.t hwk2 59 rfl) (Or.inl rfl) ?_
  rw [show (kwi k2 59 10 (1 : Int32)).2.2.1 59 11 = x from ((kwi_o (by decide)).trans (rfl)).trans (x11)]
  refine Wp.seg 2 (pc1 := 89) (ls1 := [some (.ref 59), some (.int (Int32.ofNat n)), none, none, none]) (st1 := [.int (x - (1 : Int32)), .ref 59]) rfl ?_
  refine Wp.pi (t := (11, 0)) rfl (WF.t hwk2 59 rfl) (Or.inl rfl) ?_
  refine Wp.seg 1 (pc1 := 159) (ls1 := [some (.ref 59), some (.int (Int32.ofNat n)), none, none, none]) (st1 := []) rfl ?_
  exact hQ
set_option maxHeartbeats 4000000 in
theorem t_moE {d : Nat} {Q : KO → Prop} {h : KH} (hw : WF h) {k1 : KH} (hwk1 : WF k1) {k2 : KH} (hwk2 : WF k2) {D : Nat} {n : Nat} {a b : Int32} (g1 : ∀ Q : KO → Prop, Q (some (.int a), k1) → Cl D 210 [.ref 59] h Q) {sg : Int32} (s9 : k1.2.2.1 59 9 = sg) (b1 : k1.2.2.1 59 10 = 1) (g2 : ∀ Q : KO → Prop, Q (some (.int b), k2) → Cl D 210 [.ref 59] (kwi k1 59 10 1) Q) (b2 : k2.2.2.1 59 10 = 1) (hd : D + 1 ≤ d) (hQ : Wp d 211 159 ([some (.ref 59), some (.int (Int32.ofNat n)), some (.int (a)), some (.int (sg)), some (.int (b))]) [] k2 Q) : Wp d 211 95 [some (.ref 59), some (.int (Int32.ofNat n)), none, none, none] [] h Q := by
  refine Wp.seg 1 (pc1 := 96) (ls1 := [some (.ref 59), some (.int (Int32.ofNat n)), none, none, none]) (st1 := [.ref 59]) rfl ?_
  refine Wp.invV (d2 := D) (as := [.ref 59]) (r := []) (t := (11, 0)) rfl rfl rfl rfl (WF.t hw 59 rfl) rfl rfl ⟨rfl, rfl⟩ (by omega) (g1 _ ?_)
  show Wp d 211 99 [some (.ref 59), some (.int (Int32.ofNat n)), none, none, none] [.int (a)] k1 Q
  refine Wp.seg 2 (pc1 := 101) (ls1 := [some (.ref 59), some (.int (Int32.ofNat n)), some (.int (a)), none, none]) (st1 := [.ref 59]) rfl ?_
  refine Wp.gi (t := (11, 0)) rfl (WF.t hwk1 59 rfl) (Or.inl rfl) ?_
  rw [show k1.2.2.1 59 9 = sg from s9]
  refine Wp.seg 3 (pc1 := 107) (ls1 := [some (.ref 59), some (.int (Int32.ofNat n)), some (.int (a)), some (.int (sg)), none]) (st1 := [.ref 59, .ref 59]) rfl ?_
  refine Wp.gi (t := (11, 0)) rfl (WF.t hwk1 59 rfl) (Or.inr rfl) ?_
  rw [show k1.2.2.1 59 10 = 1 from b1]
  refine Wp.if1 rfl (fun c1 => ?_) (fun c1 => absurd (show ¬ (1 : Int32) = 0 by decide) c1)
  refine Wp.seg 2 (pc1 := 127) (ls1 := [some (.ref 59), some (.int (Int32.ofNat n)), some (.int (a)), some (.int (sg)), none]) (st1 := [.int (1), .ref 59]) rfl ?_
  refine Wp.pi (t := (11, 0)) rfl (WF.t hwk1 59 rfl) (Or.inr ⟨rfl, Or.inr rfl⟩) ?_
  refine Wp.seg 1 (pc1 := 131) (ls1 := [some (.ref 59), some (.int (Int32.ofNat n)), some (.int (a)), some (.int (sg)), none]) (st1 := [.ref 59]) rfl ?_
  refine Wp.invV (d2 := D) (as := [.ref 59]) (r := []) (t := (11, 0)) rfl rfl rfl rfl (WF.t hwk1 59 rfl) rfl rfl ⟨rfl, rfl⟩ (by omega) (g2 _ ?_)
  show Wp d 211 134 [some (.ref 59), some (.int (Int32.ofNat n)), some (.int (a)), some (.int (sg)), none] [.int (b)] k2 Q
  refine Wp.seg 2 (pc1 := 137) (ls1 := [some (.ref 59), some (.int (Int32.ofNat n)), some (.int (a)), some (.int (sg)), some (.int (b))]) (st1 := [.ref 59]) rfl ?_
  refine Wp.gi (t := (11, 0)) rfl (WF.t hwk2 59 rfl) (Or.inr rfl) ?_
  rw [show k2.2.2.1 59 10 = 1 from b2]
  refine Wp.if1 rfl (fun c2 => ?_) (fun c2 => absurd (show ¬ (1 : Int32) = 0 by decide) c2)
  exact hQ
set_option maxHeartbeats 4000000 in
theorem t_moF {d : Nat} {Q : KO → Prop} {h : KH} (hw : WF h) {k1 : KH} (hwk1 : WF k1) {k2 : KH} (hwk2 : WF k2) {D : Nat} {n : Nat} {a b : Int32} (g1 : ∀ Q : KO → Prop, Q (some (.int a), k1) → Cl D 210 [.ref 59] h Q) {sg : Int32} (s9 : k1.2.2.1 59 9 = sg) (b1 : k1.2.2.1 59 10 = 0) (g3 : ∀ Q : KO → Prop, Q (some (.int 0), k1) → Cl D 208 [.ref 59, .int 21] k1 Q) (g2 : ∀ Q : KO → Prop, Q (some (.int b), k2) → Cl D 210 [.ref 59] (kwi k1 59 10 1) Q) (b2 : k2.2.2.1 59 10 = 1) (hd : D + 1 ≤ d) (hQ : Wp d 211 159 ([some (.ref 59), some (.int (Int32.ofNat n)), some (.int (a)), some (.int (sg)), some (.int (b))]) [] k2 Q) : Wp d 211 95 [some (.ref 59), some (.int (Int32.ofNat n)), none, none, none] [] h Q := by
  refine Wp.seg 1 (pc1 := 96) (ls1 := [some (.ref 59), some (.int (Int32.ofNat n)), none, none, none]) (st1 := [.ref 59]) rfl ?_
  refine Wp.invV (d2 := D) (as := [.ref 59]) (r := []) (t := (11, 0)) rfl rfl rfl rfl (WF.t hw 59 rfl) rfl rfl ⟨rfl, rfl⟩ (by omega) (g1 _ ?_)
  show Wp d 211 99 [some (.ref 59), some (.int (Int32.ofNat n)), none, none, none] [.int (a)] k1 Q
  refine Wp.seg 2 (pc1 := 101) (ls1 := [some (.ref 59), some (.int (Int32.ofNat n)), some (.int (a)), none, none]) (st1 := [.ref 59]) rfl ?_
  refine Wp.gi (t := (11, 0)) rfl (WF.t hwk1 59 rfl) (Or.inl rfl) ?_
  rw [show k1.2.2.1 59 9 = sg from s9]
  refine Wp.seg 3 (pc1 := 107) (ls1 := [some (.ref 59), some (.int (Int32.ofNat n)), some (.int (a)), some (.int (sg)), none]) (st1 := [.ref 59, .ref 59]) rfl ?_
  refine Wp.gi (t := (11, 0)) rfl (WF.t hwk1 59 rfl) (Or.inr rfl) ?_
  rw [show k1.2.2.1 59 10 = 0 from b1]
  refine Wp.if1 rfl (fun c1 => absurd c1 (show ¬ (¬ (0 : Int32) = 0) by decide)) (fun c1 => ?_)
  refine Wp.seg 2 (pc1 := 116) (ls1 := [some (.ref 59), some (.int (Int32.ofNat n)), some (.int (a)), some (.int (sg)), none]) (st1 := [.int (21), .ref 59, .ref 59]) rfl ?_
  refine Wp.invV (d2 := D) (as := [.ref 59, .int (21)]) (r := [.ref 59]) (t := (11, 0)) rfl rfl rfl rfl (WF.t hwk1 59 rfl) rfl rfl ⟨rfl, rfl⟩ (by omega) (g3 _ ?_)
  show Wp d 211 119 [some (.ref 59), some (.int (Int32.ofNat n)), some (.int (a)), some (.int (sg)), none] [.int (0), .ref 59] k1 Q
  refine Wp.if1 rfl (fun c2 => absurd c2 (show ¬ (¬ (0 : Int32) = 0) by decide)) (fun c2 => ?_)
  refine Wp.seg 2 (pc1 := 127) (ls1 := [some (.ref 59), some (.int (Int32.ofNat n)), some (.int (a)), some (.int (sg)), none]) (st1 := [.int (1), .ref 59]) rfl ?_
  refine Wp.pi (t := (11, 0)) rfl (WF.t hwk1 59 rfl) (Or.inr ⟨rfl, Or.inr rfl⟩) ?_
  refine Wp.seg 1 (pc1 := 131) (ls1 := [some (.ref 59), some (.int (Int32.ofNat n)), some (.int (a)), some (.int (sg)), none]) (st1 := [.ref 59]) rfl ?_
  refine Wp.invV (d2 := D) (as := [.ref 59]) (r := []) (t := (11, 0)) rfl rfl rfl rfl (WF.t hwk1 59 rfl) rfl rfl ⟨rfl, rfl⟩ (by omega) (g2 _ ?_)
  show Wp d 211 134 [some (.ref 59), some (.int (Int32.ofNat n)), some (.int (a)), some (.int (sg)), none] [.int (b)] k2 Q
  refine Wp.seg 2 (pc1 := 137) (ls1 := [some (.ref 59), some (.int (Int32.ofNat n)), some (.int (a)), some (.int (sg)), some (.int (b))]) (st1 := [.ref 59]) rfl ?_
  refine Wp.gi (t := (11, 0)) rfl (WF.t hwk2 59 rfl) (Or.inr rfl) ?_
  rw [show k2.2.2.1 59 10 = 1 from b2]
  refine Wp.if1 rfl (fun c3 => ?_) (fun c3 => absurd (show ¬ (1 : Int32) = 0 by decide) c3)
  exact hQ
set_option maxHeartbeats 4000000 in
theorem t_moG {d : Nat} {Q : KO → Prop} {h : KH} (hw : WF h) {k1 : KH} (hwk1 : WF k1) {k2 : KH} (hwk2 : WF k2) {k3 : KH} (hwk3 : WF k3) {D : Nat} {n : Nat} {a b : Int32} (g1 : ∀ Q : KO → Prop, Q (some (.int a), k1) → Cl D 210 [.ref 59] h Q) {sg : Int32} (s9 : k1.2.2.1 59 9 = sg) (b1 : k1.2.2.1 59 10 = 0) (g3 : ∀ Q : KO → Prop, Q (some (.int 1), k2) → Cl D 208 [.ref 59, .int 21] k1 Q) (g2 : ∀ Q : KO → Prop, Q (some (.int b), k3) → Cl D 210 [.ref 59] (kwi k2 59 10 0) Q) (b3 : k3.2.2.1 59 10 = 1) (hd : D + 1 ≤ d) (hQ : Wp d 211 159 ([some (.ref 59), some (.int (Int32.ofNat n)), some (.int (a)), some (.int (sg)), some (.int (b))]) [] k3 Q) : Wp d 211 95 [some (.ref 59), some (.int (Int32.ofNat n)), none, none, none] [] h Q := by
  refine Wp.seg 1 (pc1 := 96) (ls1 := [some (.ref 59), some (.int (Int32.ofNat n)), none, none, none]) (st1 := [.ref 59]) rfl ?_
  refine Wp.invV (d2 := D) (as := [.ref 59]) (r := []) (t := (11, 0)) rfl rfl rfl rfl (WF.t hw 59 rfl) rfl rfl ⟨rfl, rfl⟩ (by omega) (g1 _ ?_)
  show Wp d 211 99 [some (.ref 59), some (.int (Int32.ofNat n)), none, none, none] [.int (a)] k1 Q
  refine Wp.seg 2 (pc1 := 101) (ls1 := [some (.ref 59), some (.int (Int32.ofNat n)), some (.int (a)), none, none]) (st1 := [.ref 59]) rfl ?_
  refine Wp.gi (t := (11, 0)) rfl (WF.t hwk1 59 rfl) (Or.inl rfl) ?_
  rw [show k1.2.2.1 59 9 = sg from s9]
  refine Wp.seg 3 (pc1 := 107) (ls1 := [some (.ref 59), some (.int (Int32.ofNat n)), some (.int (a)), some (.int (sg)), none]) (st1 := [.ref 59, .ref 59]) rfl ?_
  refine Wp.gi (t := (11, 0)) rfl (WF.t hwk1 59 rfl) (Or.inr rfl) ?_
  rw [show k1.2.2.1 59 10 = 0 from b1]
  refine Wp.if1 rfl (fun c1 => absurd c1 (show ¬ (¬ (0 : Int32) = 0) by decide)) (fun c1 => ?_)
  refine Wp.seg 2 (pc1 := 116) (ls1 := [some (.ref 59), some (.int (Int32.ofNat n)), some (.int (a)), some (.int (sg)), none]) (st1 := [.int (21), .ref 59, .ref 59]) rfl ?_
  refine Wp.invV (d2 := D) (as := [.ref 59, .int (21)]) (r := [.ref 59]) (t := (11, 0)) rfl rfl rfl rfl (WF.t hwk1 59 rfl) rfl rfl ⟨rfl, rfl⟩ (by omega) (g3 _ ?_)
  show Wp d 211 119 [some (.ref 59), some (.int (Int32.ofNat n)), some (.int (a)), some (.int (sg)), none] [.int (1), .ref 59] k2 Q
  refine Wp.if1 rfl (fun c2 => ?_) (fun c2 => absurd (show ¬ (1 : Int32) = 0 by decide) c2)
  refine Wp.seg 1 (pc1 := 127) (ls1 := [some (.ref 59), some (.int (Int32.ofNat n)), some (.int (a)), some (.int (sg)), none]) (st1 := [.int (0), .ref 59]) rfl ?_
  refine Wp.pi (t := (11, 0)) rfl (WF.t hwk2 59 rfl) (Or.inr ⟨rfl, Or.inl rfl⟩) ?_
  refine Wp.seg 1 (pc1 := 131) (ls1 := [some (.ref 59), some (.int (Int32.ofNat n)), some (.int (a)), some (.int (sg)), none]) (st1 := [.ref 59]) rfl ?_
  refine Wp.invV (d2 := D) (as := [.ref 59]) (r := []) (t := (11, 0)) rfl rfl rfl rfl (WF.t hwk2 59 rfl) rfl rfl ⟨rfl, rfl⟩ (by omega) (g2 _ ?_)
  show Wp d 211 134 [some (.ref 59), some (.int (Int32.ofNat n)), some (.int (a)), some (.int (sg)), none] [.int (b)] k3 Q
  refine Wp.seg 2 (pc1 := 137) (ls1 := [some (.ref 59), some (.int (Int32.ofNat n)), some (.int (a)), some (.int (sg)), some (.int (b))]) (st1 := [.ref 59]) rfl ?_
  refine Wp.gi (t := (11, 0)) rfl (WF.t hwk3 59 rfl) (Or.inr rfl) ?_
  rw [show k3.2.2.1 59 10 = 1 from b3]
  refine Wp.if1 rfl (fun c3 => ?_) (fun c3 => absurd (show ¬ (1 : Int32) = 0 by decide) c3)
  exact hQ
set_option maxHeartbeats 4000000 in
theorem t_moH {d : Nat} {Q : KO → Prop} {h : KH} (hw : WF h) {k1 : KH} (hwk1 : WF k1) {k2 : KH} (hwk2 : WF k2) {k3 : KH} (hwk3 : WF k3) {k4 : KH} (hwk4 : WF k4) {k5 : KH} (hwk5 : WF k5) {k6 : KH} (hwk6 : WF k6) {D : Nat} {n : Nat} {a b : Int32} (g1 : ∀ Q : KO → Prop, Q (some (.int a), k1) → Cl D 210 [.ref 59] h Q) {sg : Int32} (s9 : k1.2.2.1 59 9 = sg) (b1 : k1.2.2.1 59 10 = 0) (g3 : ∀ Q : KO → Prop, Q (some (.int 1), k2) → Cl D 208 [.ref 59, .int 21] k1 Q) (g2 : ∀ Q : KO → Prop, Q (some (.int b), k3) → Cl D 210 [.ref 59] (kwi k2 59 10 0) Q) (b3 : k3.2.2.1 59 10 = 0) (g4 : ∀ Q : KO → Prop, Q (none, k4) → Cl D 209 [.ref 59, .int sg] k3 Q) (g5 : ∀ Q : KO → Prop, Q (none, k5) → Cl D 209 [.ref 59, .int a] k4 Q) (g6 : ∀ Q : KO → Prop, Q (none, k6) → Cl D 209 [.ref 59, .int b] k5 Q) (hd : D + 1 ≤ d) (hQ : Wp d 211 159 ([some (.ref 59), some (.int (Int32.ofNat n)), some (.int (a)), some (.int (sg)), some (.int (b))]) [] k6 Q) : Wp d 211 95 [some (.ref 59), some (.int (Int32.ofNat n)), none, none, none] [] h Q := by
  refine Wp.seg 1 (pc1 := 96) (ls1 := [some (.ref 59), some (.int (Int32.ofNat n)), none, none, none]) (st1 := [.ref 59]) rfl ?_
  refine Wp.invV (d2 := D) (as := [.ref 59]) (r := []) (t := (11, 0)) rfl rfl rfl rfl (WF.t hw 59 rfl) rfl rfl ⟨rfl, rfl⟩ (by omega) (g1 _ ?_)
  show Wp d 211 99 [some (.ref 59), some (.int (Int32.ofNat n)), none, none, none] [.int (a)] k1 Q
  refine Wp.seg 2 (pc1 := 101) (ls1 := [some (.ref 59), some (.int (Int32.ofNat n)), some (.int (a)), none, none]) (st1 := [.ref 59]) rfl ?_
  refine Wp.gi (t := (11, 0)) rfl (WF.t hwk1 59 rfl) (Or.inl rfl) ?_
  rw [show k1.2.2.1 59 9 = sg from s9]
  refine Wp.seg 3 (pc1 := 107) (ls1 := [some (.ref 59), some (.int (Int32.ofNat n)), some (.int (a)), some (.int (sg)), none]) (st1 := [.ref 59, .ref 59]) rfl ?_
  refine Wp.gi (t := (11, 0)) rfl (WF.t hwk1 59 rfl) (Or.inr rfl) ?_
  rw [show k1.2.2.1 59 10 = 0 from b1]
  refine Wp.if1 rfl (fun c1 => absurd c1 (show ¬ (¬ (0 : Int32) = 0) by decide)) (fun c1 => ?_)
  refine Wp.seg 2 (pc1 := 116) (ls1 := [some (.ref 59), some (.int (Int32.ofNat n)), some (.int (a)), some (.int (sg)), none]) (st1 := [.int (21), .ref 59, .ref 59]) rfl ?_
  refine Wp.invV (d2 := D) (as := [.ref 59, .int (21)]) (r := [.ref 59]) (t := (11, 0)) rfl rfl rfl rfl (WF.t hwk1 59 rfl) rfl rfl ⟨rfl, rfl⟩ (by omega) (g3 _ ?_)
  show Wp d 211 119 [some (.ref 59), some (.int (Int32.ofNat n)), some (.int (a)), some (.int (sg)), none] [.int (1), .ref 59] k2 Q
  refine Wp.if1 rfl (fun c2 => ?_) (fun c2 => absurd (show ¬ (1 : Int32) = 0 by decide) c2)
  refine Wp.seg 1 (pc1 := 127) (ls1 := [some (.ref 59), some (.int (Int32.ofNat n)), some (.int (a)), some (.int (sg)), none]) (st1 := [.int (0), .ref 59]) rfl ?_
  refine Wp.pi (t := (11, 0)) rfl (WF.t hwk2 59 rfl) (Or.inr ⟨rfl, Or.inl rfl⟩) ?_
  refine Wp.seg 1 (pc1 := 131) (ls1 := [some (.ref 59), some (.int (Int32.ofNat n)), some (.int (a)), some (.int (sg)), none]) (st1 := [.ref 59]) rfl ?_
  refine Wp.invV (d2 := D) (as := [.ref 59]) (r := []) (t := (11, 0)) rfl rfl rfl rfl (WF.t hwk2 59 rfl) rfl rfl ⟨rfl, rfl⟩ (by omega) (g2 _ ?_)
  show Wp d 211 134 [some (.ref 59), some (.int (Int32.ofNat n)), some (.int (a)), some (.int (sg)), none] [.int (b)] k3 Q
  refine Wp.seg 2 (pc1 := 137) (ls1 := [some (.ref 59), some (.int (Int32.ofNat n)), some (.int (a)), some (.int (sg)), some (.int (b))]) (st1 := [.ref 59]) rfl ?_
  refine Wp.gi (t := (11, 0)) rfl (WF.t hwk3 59 rfl) (Or.inr rfl) ?_
  rw [show k3.2.2.1 59 10 = 0 from b3]
  refine Wp.if1 rfl (fun c3 => absurd c3 (show ¬ (¬ (0 : Int32) = 0) by decide)) (fun c3 => ?_)
  refine Wp.seg 2 (pc1 := 145) (ls1 := [some (.ref 59), some (.int (Int32.ofNat n)), some (.int (a)), some (.int (sg)), some (.int (b))]) (st1 := [.int (sg), .ref 59]) rfl ?_
  refine Wp.invV (d2 := D) (as := [.ref 59, .int (sg)]) (r := []) (t := (11, 0)) rfl rfl rfl rfl (WF.t hwk3 59 rfl) rfl rfl ⟨rfl, rfl⟩ (by omega) (g4 _ ?_)
  show Wp d 211 148 [some (.ref 59), some (.int (Int32.ofNat n)), some (.int (a)), some (.int (sg)), some (.int (b))] [] k4 Q
  refine Wp.seg 2 (pc1 := 150) (ls1 := [some (.ref 59), some (.int (Int32.ofNat n)), some (.int (a)), some (.int (sg)), some (.int (b))]) (st1 := [.int (a), .ref 59]) rfl ?_
  refine Wp.invV (d2 := D) (as := [.ref 59, .int (a)]) (r := []) (t := (11, 0)) rfl rfl rfl rfl (WF.t hwk4 59 rfl) rfl rfl ⟨rfl, rfl⟩ (by omega) (g5 _ ?_)
  show Wp d 211 153 [some (.ref 59), some (.int (Int32.ofNat n)), some (.int (a)), some (.int (sg)), some (.int (b))] [] k5 Q
  refine Wp.seg 2 (pc1 := 156) (ls1 := [some (.ref 59), some (.int (Int32.ofNat n)), some (.int (a)), some (.int (sg)), some (.int (b))]) (st1 := [.int (b), .ref 59]) rfl ?_
  refine Wp.invV (d2 := D) (as := [.ref 59, .int (b)]) (r := []) (t := (11, 0)) rfl rfl rfl rfl (WF.t hwk5 59 rfl) rfl rfl ⟨rfl, rfl⟩ (by omega) (g6 _ ?_)
  show Wp d 211 159 [some (.ref 59), some (.int (Int32.ofNat n)), some (.int (a)), some (.int (sg)), some (.int (b))] [] k6 Q
  exact hQ
set_option maxHeartbeats 4000000 in
theorem t_moN {d : Nat} {Q : KO → Prop} {h : KH} (hw : WF h) {D : Nat} {n : Nat} {z2 z3 z4 : Option Value} (hd : D + 1 ≤ d) (hQ : Wp d 211 161 ([some (.ref 59), some (.int (Int32.ofNat n)), some (.int (0)), z3, z4]) [] h Q) : Wp d 211 159 [some (.ref 59), some (.int (Int32.ofNat n)), z2, z3, z4] [] h Q := by
  refine Wp.seg 2 (pc1 := 161) (ls1 := [some (.ref 59), some (.int (Int32.ofNat n)), some (.int (0)), z3, z4]) (st1 := []) rfl ?_
  exact hQ
set_option maxHeartbeats 4000000 in
theorem t_mo3 {d : Nat} {Q : KO → Prop} {h : KH} (hw : WF h) {D : Nat} {n i : Nat} {z3 z4 : Option Value} (ge : Int32.ofNat n ≤ Int32.ofNat i) (hd : D + 1 ≤ d) (hQ : Q (none, h)) : Wp d 211 161 [some (.ref 59), some (.int (Int32.ofNat n)), some (.int (Int32.ofNat i)), z3, z4] [] h Q := by
  refine Wp.seg 2 (pc1 := 163) (ls1 := [some (.ref 59), some (.int (Int32.ofNat n)), some (.int (Int32.ofNat i)), z3, z4]) (st1 := [.int (Int32.ofNat n), .int (Int32.ofNat i)]) rfl ?_
  refine Wp.if2 rfl (fun c1 => ?_) (fun c1 => absurd (ge) c1)
  exact Wp.retv rfl rfl hQ
set_option maxHeartbeats 4000000 in
theorem t_mo4 {d : Nat} {Q : KO → Prop} {h : KH} (hw : WF h) {D : Nat} {n i : Nat} {z3 z4 : Option Value} (ge : ¬ Int32.ofNat n ≤ Int32.ofNat i) (b0 : h.2.2.1 59 10 = 1) (hd : D + 1 ≤ d) (hQ : Q (none, h)) : Wp d 211 161 [some (.ref 59), some (.int (Int32.ofNat n)), some (.int (Int32.ofNat i)), z3, z4] [] h Q := by
  refine Wp.seg 2 (pc1 := 163) (ls1 := [some (.ref 59), some (.int (Int32.ofNat n)), some (.int (Int32.ofNat i)), z3, z4]) (st1 := [.int (Int32.ofNat n), .int (Int32.ofNat i)]) rfl ?_
  refine Wp.if2 rfl (fun c1 => absurd c1 (ge)) (fun c1 => ?_)
  refine Wp.seg 1 (pc1 := 167) (ls1 := [some (.ref 59), some (.int (Int32.ofNat n)), some (.int (Int32.ofNat i)), z3, z4]) (st1 := [.ref 59]) rfl ?_
  refine Wp.gi (t := (11, 0)) rfl (WF.t hw 59 rfl) (Or.inr rfl) ?_
  rw [show h.2.2.1 59 10 = 1 from b0]
  refine Wp.if1 rfl (fun c2 => ?_) (fun c2 => absurd (show ¬ (1 : Int32) = 0 by decide) c2)
  exact Wp.retv rfl rfl hQ
set_option maxHeartbeats 4000000 in
theorem t_mo5 {d : Nat} {Q : KO → Prop} {h : KH} (hw : WF h) {k1 : KH} (hwk1 : WF k1) {D : Nat} {n i : Nat} {z3 z4 : Option Value} (ge : ¬ Int32.ofNat n ≤ Int32.ofNat i) (b0 : h.2.2.1 59 10 = 0) (g1 : ∀ Q : KO → Prop, Q (none, k1) → Cl D 209 [.ref 59, .int 17] h Q) (hd : D + 1 ≤ d) (hQ : Wp d 211 161 ([some (.ref 59), some (.int (Int32.ofNat n)), some (.int ((Int32.ofNat i) + 1)), z3, z4]) [] k1 Q) : Wp d 211 161 [some (.ref 59), some (.int (Int32.ofNat n)), some (.int (Int32.ofNat i)), z3, z4] [] h Q := by
  refine Wp.seg 2 (pc1 := 163) (ls1 := [some (.ref 59), some (.int (Int32.ofNat n)), some (.int (Int32.ofNat i)), z3, z4]) (st1 := [.int (Int32.ofNat n), .int (Int32.ofNat i)]) rfl ?_
  refine Wp.if2 rfl (fun c1 => absurd c1 (ge)) (fun c1 => ?_)
  refine Wp.seg 1 (pc1 := 167) (ls1 := [some (.ref 59), some (.int (Int32.ofNat n)), some (.int (Int32.ofNat i)), z3, z4]) (st1 := [.ref 59]) rfl ?_
  refine Wp.gi (t := (11, 0)) rfl (WF.t hw 59 rfl) (Or.inr rfl) ?_
  rw [show h.2.2.1 59 10 = 0 from b0]
  refine Wp.if1 rfl (fun c2 => absurd c2 (show ¬ (¬ (0 : Int32) = 0) by decide)) (fun c2 => ?_)
  refine Wp.seg 2 (pc1 := 176) (ls1 := [some (.ref 59), some (.int (Int32.ofNat n)), some (.int (Int32.ofNat i)), z3, z4]) (st1 := [.int (17), .ref 59]) rfl ?_
  refine Wp.invV (d2 := D) (as := [.ref 59, .int (17)]) (r := []) (t := (11, 0)) rfl rfl rfl rfl (WF.t hw 59 rfl) rfl rfl ⟨rfl, rfl⟩ (by omega) (g1 _ ?_)
  show Wp d 211 179 [some (.ref 59), some (.int (Int32.ofNat n)), some (.int (Int32.ofNat i)), z3, z4] [] k1 Q
  refine Wp.seg 2 (pc1 := 161) (ls1 := [some (.ref 59), some (.int (Int32.ofNat n)), some (.int ((Int32.ofNat i) + 1)), z3, z4]) (st1 := []) rfl ?_
  exact hQ
set_option maxHeartbeats 4000000 in
theorem t_ma0 {d : Nat} {Q : KO → Prop} {h : KH} (hw : WF h) {k1 : KH} (hwk1 : WF k1) {D : Nat} (g1 : ∀ Q : KO → Prop, Q (none, k1) → Cl D 211 [.ref 59] h Q) (hd : D + 1 ≤ d) (hQ : Wp d 212 4 ([some (.ref 59)]) [] k1 Q) : Cl d 212 [.ref 59] h Q := by
  refine Cl.of (ls := [some (.ref 59)]) rfl rfl ?_
  refine Wp.seg 1 (pc1 := 1) (ls1 := [some (.ref 59)]) (st1 := [.ref 59]) rfl ?_
  refine Wp.invV (d2 := D) (as := [.ref 59]) (r := []) (t := (11, 0)) rfl rfl rfl rfl (WF.t hw 59 rfl) rfl rfl ⟨rfl, rfl⟩ (by omega) (g1 _ ?_)
  show Wp d 212 4 [some (.ref 59)] [] k1 Q
  exact hQ
set_option maxHeartbeats 4000000 in
theorem t_ma1 {d : Nat} {Q : KO → Prop} {h : KH} (hw : WF h) {D : Nat} (g1 : ∀ Q : KO → Prop, Q (some (.int 0), h) → Cl D 208 [.ref 59, .int 16] h Q) (hd : D + 1 ≤ d) (hQ : Q (none, h)) : Wp d 212 4 [some (.ref 59)] [] h Q := by
  refine Wp.seg 2 (pc1 := 7) (ls1 := [some (.ref 59)]) (st1 := [.int (16), .ref 59]) rfl ?_
  refine Wp.invV (d2 := D) (as := [.ref 59, .int (16)]) (r := []) (t := (11, 0)) rfl rfl rfl rfl (WF.t hw 59 rfl) rfl rfl ⟨rfl, rfl⟩ (by omega) (g1 _ ?_)
  show Wp d 212 10 [some (.ref 59)] [.int (0)] h Q
  refine Wp.if1 rfl (fun c1 => ?_) (fun c1 => absurd (show (0 : Int32) = 0 by decide) c1)
  exact Wp.retv rfl rfl hQ
set_option maxHeartbeats 4000000 in
theorem t_ma2 {d : Nat} {Q : KO → Prop} {h : KH} (hw : WF h) {k1 : KH} (hwk1 : WF k1) {k2 : KH} (hwk2 : WF k2) {k3 : KH} (hwk3 : WF k3) {D : Nat} (g1 : ∀ Q : KO → Prop, Q (some (.int 1), k1) → Cl D 208 [.ref 59, .int 16] h Q) (g2 : ∀ Q : KO → Prop, Q (none, k2) → Cl D 211 [.ref 59] k1 Q) (g3 : ∀ Q : KO → Prop, Q (none, k3) → Cl D 209 [.ref 59, .int 16] k2 Q) (hd : D + 1 ≤ d) (hQ : Wp d 212 4 ([some (.ref 59)]) [] k3 Q) : Wp d 212 4 [some (.ref 59)] [] h Q := by
  refine Wp.seg 2 (pc1 := 7) (ls1 := [some (.ref 59)]) (st1 := [.int (16), .ref 59]) rfl ?_
  refine Wp.invV (d2 := D) (as := [.ref 59, .int (16)]) (r := []) (t := (11, 0)) rfl rfl rfl rfl (WF.t hw 59 rfl) rfl rfl ⟨rfl, rfl⟩ (by omega) (g1 _ ?_)
  show Wp d 212 10 [some (.ref 59)] [.int (1)] k1 Q
  refine Wp.if1 rfl (fun c1 => absurd c1 (show ¬ ((1 : Int32) = 0) by decide)) (fun c1 => ?_)
  refine Wp.seg 1 (pc1 := 14) (ls1 := [some (.ref 59)]) (st1 := [.ref 59]) rfl ?_
  refine Wp.invV (d2 := D) (as := [.ref 59]) (r := []) (t := (11, 0)) rfl rfl rfl rfl (WF.t hwk1 59 rfl) rfl rfl ⟨rfl, rfl⟩ (by omega) (g2 _ ?_)
  show Wp d 212 17 [some (.ref 59)] [] k2 Q
  refine Wp.seg 2 (pc1 := 20) (ls1 := [some (.ref 59)]) (st1 := [.int (16), .ref 59]) rfl ?_
  refine Wp.invV (d2 := D) (as := [.ref 59, .int (16)]) (r := []) (t := (11, 0)) rfl rfl rfl rfl (WF.t hwk2 59 rfl) rfl rfl ⟨rfl, rfl⟩ (by omega) (g3 _ ?_)
  show Wp d 212 23 [some (.ref 59)] [] k3 Q
  refine Wp.seg 1 (pc1 := 4) (ls1 := [some (.ref 59)]) (st1 := []) rfl ?_
  exact hQ
set_option maxHeartbeats 4000000 in
theorem t_mc0 {d : Nat} {Q : KO → Prop} {h : KH} (hw : WF h) {k1 : KH} (hwk1 : WF k1) {D : Nat} (g1 : ∀ Q : KO → Prop, Q (none, k1) → Cl D 212 [.ref 59] h Q) (hd : D + 1 ≤ d) (hQ : Wp d 213 4 ([some (.ref 59)]) [] k1 Q) : Cl d 213 [.ref 59] h Q := by
  refine Cl.of (ls := [some (.ref 59)]) rfl rfl ?_
  refine Wp.seg 1 (pc1 := 1) (ls1 := [some (.ref 59)]) (st1 := [.ref 59]) rfl ?_
  refine Wp.invV (d2 := D) (as := [.ref 59]) (r := []) (t := (11, 0)) rfl rfl rfl rfl (WF.t hw 59 rfl) rfl rfl ⟨rfl, rfl⟩ (by omega) (g1 _ ?_)
  show Wp d 213 4 [some (.ref 59)] [] k1 Q
  exact hQ
set_option maxHeartbeats 4000000 in
theorem t_mc1 {d : Nat} {Q : KO → Prop} {h : KH} (hw : WF h) {D : Nat} (g1 : ∀ Q : KO → Prop, Q (some (.int 0), h) → Cl D 208 [.ref 59, .int 15] h Q) (hd : D + 1 ≤ d) (hQ : Q (none, h)) : Wp d 213 4 [some (.ref 59)] [] h Q := by
  refine Wp.seg 2 (pc1 := 7) (ls1 := [some (.ref 59)]) (st1 := [.int (15), .ref 59]) rfl ?_
  refine Wp.invV (d2 := D) (as := [.ref 59, .int (15)]) (r := []) (t := (11, 0)) rfl rfl rfl rfl (WF.t hw 59 rfl) rfl rfl ⟨rfl, rfl⟩ (by omega) (g1 _ ?_)
  show Wp d 213 10 [some (.ref 59)] [.int (0)] h Q
  refine Wp.if1 rfl (fun c1 => ?_) (fun c1 => absurd (show (0 : Int32) = 0 by decide) c1)
  exact Wp.retv rfl rfl hQ
set_option maxHeartbeats 4000000 in
theorem t_mc2 {d : Nat} {Q : KO → Prop} {h : KH} (hw : WF h) {k1 : KH} (hwk1 : WF k1) {k2 : KH} (hwk2 : WF k2) {k3 : KH} (hwk3 : WF k3) {D : Nat} (g1 : ∀ Q : KO → Prop, Q (some (.int 1), k1) → Cl D 208 [.ref 59, .int 15] h Q) (g2 : ∀ Q : KO → Prop, Q (none, k2) → Cl D 212 [.ref 59] k1 Q) (g3 : ∀ Q : KO → Prop, Q (none, k3) → Cl D 209 [.ref 59, .int 15] k2 Q) (hd : D + 1 ≤ d) (hQ : Wp d 213 4 ([some (.ref 59)]) [] k3 Q) : Wp d 213 4 [some (.ref 59)] [] h Q := by
  refine Wp.seg 2 (pc1 := 7) (ls1 := [some (.ref 59)]) (st1 := [.int (15), .ref 59]) rfl ?_
  refine Wp.invV (d2 := D) (as := [.ref 59, .int (15)]) (r := []) (t := (11, 0)) rfl rfl rfl rfl (WF.t hw 59 rfl) rfl rfl ⟨rfl, rfl⟩ (by omega) (g1 _ ?_)
  show Wp d 213 10 [some (.ref 59)] [.int (1)] k1 Q
  refine Wp.if1 rfl (fun c1 => absurd c1 (show ¬ ((1 : Int32) = 0) by decide)) (fun c1 => ?_)
  refine Wp.seg 1 (pc1 := 14) (ls1 := [some (.ref 59)]) (st1 := [.ref 59]) rfl ?_
  refine Wp.invV (d2 := D) (as := [.ref 59]) (r := []) (t := (11, 0)) rfl rfl rfl rfl (WF.t hwk1 59 rfl) rfl rfl ⟨rfl, rfl⟩ (by omega) (g2 _ ?_)
  show Wp d 213 17 [some (.ref 59)] [] k2 Q
  refine Wp.seg 2 (pc1 := 20) (ls1 := [some (.ref 59)]) (st1 := [.int (15), .ref 59]) rfl ?_
  refine Wp.invV (d2 := D) (as := [.ref 59, .int (15)]) (r := []) (t := (11, 0)) rfl rfl rfl rfl (WF.t hwk2 59 rfl) rfl rfl ⟨rfl, rfl⟩ (by omega) (g3 _ ?_)
  show Wp d 213 23 [some (.ref 59)] [] k3 Q
  refine Wp.seg 1 (pc1 := 4) (ls1 := [some (.ref 59)]) (st1 := []) rfl ?_
  exact hQ
set_option maxHeartbeats 4000000 in
theorem t_mh1 {d : Nat} {Q : KO → Prop} {h : KH} (hw : WF h) {D : Nat} {r : Nat} {t : Int32} (h6 : h.2.2.1 59 6 = t) (hr : h.2.2.1 60 10 = Int32.ofNat r) (t5 : (5 : Int32) < t) (hd : D + 1 ≤ d) (hQ : Q (none, kwi h 59 10 (1 : Int32))) : Cl d 214 [.ref 59] h Q := by
  refine Cl.of (ls := [some (.ref 59), none]) rfl rfl ?_
  refine Wp.seg 3 (pc1 := 4) (ls1 := [some (.ref 59), none]) (st1 := [.ref 59, .int (4), .int (53)]) rfl ?_
  refine Wp.gr (t := (11, 0)) (v := some (60)) rfl (WF.t hw 59 rfl) rfl (WF.r hw 59 0 58 rfl) ?_
  show Wp d 214 7 [some (.ref 59), none] [.ref 60, .int (4), .int (53)] h Q
  refine Wp.seg 1 (pc1 := 9) (ls1 := [some (.ref 59), none]) (st1 := [.int (10), .ref 60, .int (4), .int (53)]) rfl ?_
  refine Wp.iald (j := 10) (k := 20) (n := 585) rfl (WF.t hw 60 rfl) rfl rfl (by decide) (by decide) ?_
  rw [show h.2.2.1 60 10 = Int32.ofNat r from hr]
  refine Wp.seg 5 (pc1 := 15) (ls1 := [some (.ref 59), some (.int ((53 : Int32) + ((4 : Int32) * (Int32.ofNat r))))]) (st1 := [.ref 59, .ref 59]) rfl ?_
  refine Wp.gi (t := (11, 0)) rfl (WF.t hw 59 rfl) (Or.inl rfl) ?_
  rw [show h.2.2.1 59 6 = t from h6]
  refine Wp.seg 1 (pc1 := 19) (ls1 := [some (.ref 59), some (.int ((53 : Int32) + ((4 : Int32) * (Int32.ofNat r))))]) (st1 := [.int (5), .int (t), .ref 59]) rfl ?_
  refine Wp.if2 rfl (fun c1 => ?_) (fun c1 => absurd (t5) c1)
  refine Wp.seg 2 (pc1 := 39) (ls1 := [some (.ref 59), some (.int ((53 : Int32) + ((4 : Int32) * (Int32.ofNat r))))]) (st1 := [.int (1), .ref 59]) rfl ?_
  refine Wp.pi (t := (11, 0)) rfl (WF.t hw 59 rfl) (Or.inr ⟨rfl, Or.inr rfl⟩) ?_
  refine Wp.seg 1 (pc1 := 43) (ls1 := [some (.ref 59), some (.int ((53 : Int32) + ((4 : Int32) * (Int32.ofNat r))))]) (st1 := [.ref 59]) rfl ?_
  refine Wp.gi (t := (11, 0)) rfl (WF.t hw 59 rfl) (Or.inr rfl) ?_
  rw [show (kwi h 59 10 (1 : Int32)).2.2.1 59 10 = 1 from kwi_s]
  refine Wp.if1 rfl (fun c2 => absurd c2 (show ¬ ((1 : Int32) = 0) by decide)) (fun c2 => ?_)
  exact Wp.retv rfl rfl hQ
set_option maxHeartbeats 4000000 in
theorem t_mh2 {d : Nat} {Q : KO → Prop} {h : KH} (hw : WF h) {D : Nat} {r : Nat} {t : Int32} (h6 : h.2.2.1 59 6 = t) (hr : h.2.2.1 60 10 = Int32.ofNat r) (t5 : ¬ (5 : Int32) < t) (r8 : Int32.ofNat r = 8) (hd : D + 1 ≤ d) (hQ : Q (none, kwi h 59 10 (1 : Int32))) : Cl d 214 [.ref 59] h Q := by
  refine Cl.of (ls := [some (.ref 59), none]) rfl rfl ?_
  refine Wp.seg 3 (pc1 := 4) (ls1 := [some (.ref 59), none]) (st1 := [.ref 59, .int (4), .int (53)]) rfl ?_
  refine Wp.gr (t := (11, 0)) (v := some (60)) rfl (WF.t hw 59 rfl) rfl (WF.r hw 59 0 58 rfl) ?_
  show Wp d 214 7 [some (.ref 59), none] [.ref 60, .int (4), .int (53)] h Q
  refine Wp.seg 1 (pc1 := 9) (ls1 := [some (.ref 59), none]) (st1 := [.int (10), .ref 60, .int (4), .int (53)]) rfl ?_
  refine Wp.iald (j := 10) (k := 20) (n := 585) rfl (WF.t hw 60 rfl) rfl rfl (by decide) (by decide) ?_
  rw [show h.2.2.1 60 10 = Int32.ofNat r from hr]
  refine Wp.seg 5 (pc1 := 15) (ls1 := [some (.ref 59), some (.int ((53 : Int32) + ((4 : Int32) * (Int32.ofNat r))))]) (st1 := [.ref 59, .ref 59]) rfl ?_
  refine Wp.gi (t := (11, 0)) rfl (WF.t hw 59 rfl) (Or.inl rfl) ?_
  rw [show h.2.2.1 59 6 = t from h6]
  refine Wp.seg 1 (pc1 := 19) (ls1 := [some (.ref 59), some (.int ((53 : Int32) + ((4 : Int32) * (Int32.ofNat r))))]) (st1 := [.int (5), .int (t), .ref 59]) rfl ?_
  refine Wp.if2 rfl (fun c1 => absurd c1 (t5)) (fun c1 => ?_)
  refine Wp.seg 1 (pc1 := 23) (ls1 := [some (.ref 59), some (.int ((53 : Int32) + ((4 : Int32) * (Int32.ofNat r))))]) (st1 := [.ref 59, .ref 59]) rfl ?_
  refine Wp.gr (t := (11, 0)) (v := some (60)) rfl (WF.t hw 59 rfl) rfl (WF.r hw 59 0 58 rfl) ?_
  show Wp d 214 26 [some (.ref 59), some (.int ((53 : Int32) + ((4 : Int32) * (Int32.ofNat r))))] [.ref 60, .ref 59] h Q
  refine Wp.seg 1 (pc1 := 28) (ls1 := [some (.ref 59), some (.int ((53 : Int32) + ((4 : Int32) * (Int32.ofNat r))))]) (st1 := [.int (10), .ref 60, .ref 59]) rfl ?_
  refine Wp.iald (j := 10) (k := 20) (n := 585) rfl (WF.t hw 60 rfl) rfl rfl (by decide) (by decide) ?_
  rw [show h.2.2.1 60 10 = Int32.ofNat r from hr]
  refine Wp.seg 1 (pc1 := 31) (ls1 := [some (.ref 59), some (.int ((53 : Int32) + ((4 : Int32) * (Int32.ofNat r))))]) (st1 := [.int (8), .int (Int32.ofNat r), .ref 59]) rfl ?_
  refine Wp.if2 rfl (fun c2 => absurd c2 (fun z => z r8)) (fun c2 => ?_)
  refine Wp.seg 2 (pc1 := 39) (ls1 := [some (.ref 59), some (.int ((53 : Int32) + ((4 : Int32) * (Int32.ofNat r))))]) (st1 := [.int (1), .ref 59]) rfl ?_
  refine Wp.pi (t := (11, 0)) rfl (WF.t hw 59 rfl) (Or.inr ⟨rfl, Or.inr rfl⟩) ?_
  refine Wp.seg 1 (pc1 := 43) (ls1 := [some (.ref 59), some (.int ((53 : Int32) + ((4 : Int32) * (Int32.ofNat r))))]) (st1 := [.ref 59]) rfl ?_
  refine Wp.gi (t := (11, 0)) rfl (WF.t hw 59 rfl) (Or.inr rfl) ?_
  rw [show (kwi h 59 10 (1 : Int32)).2.2.1 59 10 = 1 from kwi_s]
  refine Wp.if1 rfl (fun c3 => absurd c3 (show ¬ ((1 : Int32) = 0) by decide)) (fun c3 => ?_)
  exact Wp.retv rfl rfl hQ
theorem r53j (r j : Nat) : (53 : Int32) + 4 * Int32.ofNat r + Int32.ofNat j = Int32.ofNat (53 + 4 * r + j) := by
  rw [r53, ← Int32.ofNat_add]
set_option maxHeartbeats 4000000 in
theorem t_mh3 {d : Nat} {Q : KO → Prop} {h : KH} (hw : WF h) {k1 : KH} (hwk1 : WF k1) {D : Nat} {r : Nat} {t : Int32} (h6 : h.2.2.1 59 6 = t) (hr : h.2.2.1 60 10 = Int32.ofNat r) (t5 : ¬ (5 : Int32) < t) (r8 : ¬ Int32.ofNat r = 8) (rl : r < 8) {z : Nat} (h12 : h.2.2.1 59 12 = Int32.ofNat z) (g1 : ∀ Q : KO → Prop, Q (none, k1) → Cl D 207 [.ref 59] (kwi (kwi (kwi h 59 10 (0 : Int32)) 60 (53 + 4 * r) t) 60 (53 + 4 * r + 2) (Int32.ofNat z)) Q) (g2 : ∀ Q : KO → Prop, Q (some (.int 0), k1) → Cl D 208 [.ref 59, .int 14] k1 Q) (hd : D + 1 ≤ d) (hQ : Wp d 214 89 ([some (.ref 59), some (.int ((53 : Int32) + ((4 : Int32) * (Int32.ofNat r))))]) [] k1 Q) : Cl d 214 [.ref 59] h Q := by
  refine Cl.of (ls := [some (.ref 59), none]) rfl rfl ?_
  refine Wp.seg 3 (pc1 := 4) (ls1 := [some (.ref 59), none]) (st1 := [.ref 59, .int (4), .int (53)]) rfl ?_
  refine Wp.gr (t := (11, 0)) (v := some (60)) rfl (WF.t hw 59 rfl) rfl (WF.r hw 59 0 58 rfl) ?_
  show Wp d 214 7 [some (.ref 59), none] [.ref 60, .int (4), .int (53)] h Q
  refine Wp.seg 1 (pc1 := 9) (ls1 := [some (.ref 59), none]) (st1 := [.int (10), .ref 60, .int (4), .int (53)]) rfl ?_
  refine Wp.iald (j := 10) (k := 20) (n := 585) rfl (WF.t hw 60 rfl) rfl rfl (by decide) (by decide) ?_
  rw [show h.2.2.1 60 10 = Int32.ofNat r from hr]
  refine Wp.seg 5 (pc1 := 15) (ls1 := [some (.ref 59), some (.int ((53 : Int32) + ((4 : Int32) * (Int32.ofNat r))))]) (st1 := [.ref 59, .ref 59]) rfl ?_
  refine Wp.gi (t := (11, 0)) rfl (WF.t hw 59 rfl) (Or.inl rfl) ?_
  rw [show h.2.2.1 59 6 = t from h6]
  refine Wp.seg 1 (pc1 := 19) (ls1 := [some (.ref 59), some (.int ((53 : Int32) + ((4 : Int32) * (Int32.ofNat r))))]) (st1 := [.int (5), .int (t), .ref 59]) rfl ?_
  refine Wp.if2 rfl (fun c1 => absurd c1 (t5)) (fun c1 => ?_)
  refine Wp.seg 1 (pc1 := 23) (ls1 := [some (.ref 59), some (.int ((53 : Int32) + ((4 : Int32) * (Int32.ofNat r))))]) (st1 := [.ref 59, .ref 59]) rfl ?_
  refine Wp.gr (t := (11, 0)) (v := some (60)) rfl (WF.t hw 59 rfl) rfl (WF.r hw 59 0 58 rfl) ?_
  show Wp d 214 26 [some (.ref 59), some (.int ((53 : Int32) + ((4 : Int32) * (Int32.ofNat r))))] [.ref 60, .ref 59] h Q
  refine Wp.seg 1 (pc1 := 28) (ls1 := [some (.ref 59), some (.int ((53 : Int32) + ((4 : Int32) * (Int32.ofNat r))))]) (st1 := [.int (10), .ref 60, .ref 59]) rfl ?_
  refine Wp.iald (j := 10) (k := 20) (n := 585) rfl (WF.t hw 60 rfl) rfl rfl (by decide) (by decide) ?_
  rw [show h.2.2.1 60 10 = Int32.ofNat r from hr]
  refine Wp.seg 1 (pc1 := 31) (ls1 := [some (.ref 59), some (.int ((53 : Int32) + ((4 : Int32) * (Int32.ofNat r))))]) (st1 := [.int (8), .int (Int32.ofNat r), .ref 59]) rfl ?_
  refine Wp.if2 rfl (fun c2 => ?_) (fun c2 => absurd (r8) c2)
  refine Wp.seg 1 (pc1 := 39) (ls1 := [some (.ref 59), some (.int ((53 : Int32) + ((4 : Int32) * (Int32.ofNat r))))]) (st1 := [.int (0), .ref 59]) rfl ?_
  refine Wp.pi (t := (11, 0)) rfl (WF.t hw 59 rfl) (Or.inr ⟨rfl, Or.inl rfl⟩) ?_
  refine Wp.seg 1 (pc1 := 43) (ls1 := [some (.ref 59), some (.int ((53 : Int32) + ((4 : Int32) * (Int32.ofNat r))))]) (st1 := [.ref 59]) rfl ?_
  refine Wp.gi (t := (11, 0)) rfl (WF.t hw 59 rfl) (Or.inr rfl) ?_
  rw [show (kwi h 59 10 (0 : Int32)).2.2.1 59 10 = 0 from kwi_s]
  refine Wp.if1 rfl (fun c3 => ?_) (fun c3 => absurd (show (0 : Int32) = 0 by decide) c3)
  refine Wp.seg 1 (pc1 := 51) (ls1 := [some (.ref 59), some (.int ((53 : Int32) + ((4 : Int32) * (Int32.ofNat r))))]) (st1 := [.ref 59]) rfl ?_
  refine Wp.gr (t := (11, 0)) (v := some (60)) rfl (WF.t hw 59 rfl) rfl (WF.r hw 59 0 58 rfl) ?_
  show Wp d 214 54 [some (.ref 59), some (.int ((53 : Int32) + ((4 : Int32) * (Int32.ofNat r))))] [.ref 60] (kwi h 59 10 (0 : Int32)) Q
  refine Wp.seg 2 (pc1 := 56) (ls1 := [some (.ref 59), some (.int ((53 : Int32) + ((4 : Int32) * (Int32.ofNat r))))]) (st1 := [.ref 59, .int ((53 : Int32) + ((4 : Int32) * (Int32.ofNat r))), .ref 60]) rfl ?_
  refine Wp.gi (t := (11, 0)) rfl (WF.t hw 59 rfl) (Or.inl rfl) ?_
  rw [show (kwi h 59 10 (0 : Int32)).2.2.1 59 6 = t from ((kwi_o (by decide)).trans (rfl)).trans (h6)]
  refine Wp.iast (j := (53 + 4 * r)) (n := 585) rfl (WF.t hw 60 rfl) (r53 r) (by omega) (by decide) ?_
  refine Wp.seg 1 (pc1 := 61) (ls1 := [some (.ref 59), some (.int ((53 : Int32) + ((4 : Int32) * (Int32.ofNat r))))]) (st1 := [.ref 59]) rfl ?_
  refine Wp.gr (t := (11, 0)) (v := some (60)) rfl (WF.t hw 59 rfl) rfl (WF.r hw 59 0 58 rfl) ?_
  show Wp d 214 64 [some (.ref 59), some (.int ((53 : Int32) + ((4 : Int32) * (Int32.ofNat r))))] [.ref 60] (kwi (kwi h 59 10 (0 : Int32)) 60 ((53 + 4 * r)) t) Q
  refine Wp.seg 4 (pc1 := 68) (ls1 := [some (.ref 59), some (.int ((53 : Int32) + ((4 : Int32) * (Int32.ofNat r))))]) (st1 := [.ref 59, .int (((53 : Int32) + ((4 : Int32) * (Int32.ofNat r))) + (2 : Int32)), .ref 60]) rfl ?_
  refine Wp.gi (t := (11, 0)) rfl (WF.t hw 59 rfl) (Or.inl rfl) ?_
  rw [show (kwi (kwi h 59 10 (0 : Int32)) 60 ((53 + 4 * r)) t).2.2.1 59 12 = Int32.ofNat z from ((kwi_b (by decide)).trans ((kwi_o (by decide)).trans (rfl))).trans (h12)]
  refine Wp.iast (j := (53 + 4 * r + 2)) (n := 585) rfl (WF.t hw 60 rfl) (r53j r 2) (by omega) (by decide) ?_
  refine Wp.seg 1 (pc1 := 73) (ls1 := [some (.ref 59), some (.int ((53 : Int32) + ((4 : Int32) * (Int32.ofNat r))))]) (st1 := [.ref 59]) rfl ?_
  refine Wp.invV (d2 := D) (as := [.ref 59]) (r := []) (t := (11, 0)) rfl rfl rfl rfl (WF.t hw 59 rfl) rfl rfl ⟨rfl, rfl⟩ (by omega) (g1 _ ?_)
  show Wp d 214 76 [some (.ref 59), some (.int ((53 : Int32) + ((4 : Int32) * (Int32.ofNat r))))] [] k1 Q
  refine Wp.seg 2 (pc1 := 79) (ls1 := [some (.ref 59), some (.int ((53 : Int32) + ((4 : Int32) * (Int32.ofNat r))))]) (st1 := [.int (14), .ref 59]) rfl ?_
  refine Wp.invV (d2 := D) (as := [.ref 59, .int (14)]) (r := []) (t := (11, 0)) rfl rfl rfl rfl (WF.t hwk1 59 rfl) rfl rfl ⟨rfl, rfl⟩ (by omega) (g2 _ ?_)
  show Wp d 214 82 [some (.ref 59), some (.int ((53 : Int32) + ((4 : Int32) * (Int32.ofNat r))))] [.int (0)] k1 Q
  refine Wp.if1 rfl (fun c4 => ?_) (fun c4 => absurd (show (0 : Int32) = 0 by decide) c4)
  exact hQ
set_option maxHeartbeats 4000000 in
theorem t_mh4 {d : Nat} {Q : KO → Prop} {h : KH} (hw : WF h) {k1 : KH} (hwk1 : WF k1) {k2 : KH} (hwk2 : WF k2) {k3 : KH} (hwk3 : WF k3) {D : Nat} {r : Nat} {t : Int32} (h6 : h.2.2.1 59 6 = t) (hr : h.2.2.1 60 10 = Int32.ofNat r) (t5 : ¬ (5 : Int32) < t) (r8 : ¬ Int32.ofNat r = 8) (rl : r < 8) {z : Nat} (h12 : h.2.2.1 59 12 = Int32.ofNat z) (g1 : ∀ Q : KO → Prop, Q (none, k1) → Cl D 207 [.ref 59] (kwi (kwi (kwi h 59 10 (0 : Int32)) 60 (53 + 4 * r) t) 60 (53 + 4 * r + 2) (Int32.ofNat z)) Q) (g2 : ∀ Q : KO → Prop, Q (some (.int 1), k2) → Cl D 208 [.ref 59, .int 14] k1 Q) (g3 : ∀ Q : KO → Prop, Q (none, k3) → Cl D 213 [.ref 59] k2 Q) (hd : D + 1 ≤ d) (hQ : Wp d 214 89 ([some (.ref 59), some (.int ((53 : Int32) + ((4 : Int32) * (Int32.ofNat r))))]) [] k3 Q) : Cl d 214 [.ref 59] h Q := by
  refine Cl.of (ls := [some (.ref 59), none]) rfl rfl ?_
  refine Wp.seg 3 (pc1 := 4) (ls1 := [some (.ref 59), none]) (st1 := [.ref 59, .int (4), .int (53)]) rfl ?_
  refine Wp.gr (t := (11, 0)) (v := some (60)) rfl (WF.t hw 59 rfl) rfl (WF.r hw 59 0 58 rfl) ?_
  show Wp d 214 7 [some (.ref 59), none] [.ref 60, .int (4), .int (53)] h Q
  refine Wp.seg 1 (pc1 := 9) (ls1 := [some (.ref 59), none]) (st1 := [.int (10), .ref 60, .int (4), .int (53)]) rfl ?_
  refine Wp.iald (j := 10) (k := 20) (n := 585) rfl (WF.t hw 60 rfl) rfl rfl (by decide) (by decide) ?_
  rw [show h.2.2.1 60 10 = Int32.ofNat r from hr]
  refine Wp.seg 5 (pc1 := 15) (ls1 := [some (.ref 59), some (.int ((53 : Int32) + ((4 : Int32) * (Int32.ofNat r))))]) (st1 := [.ref 59, .ref 59]) rfl ?_
  refine Wp.gi (t := (11, 0)) rfl (WF.t hw 59 rfl) (Or.inl rfl) ?_
  rw [show h.2.2.1 59 6 = t from h6]
  refine Wp.seg 1 (pc1 := 19) (ls1 := [some (.ref 59), some (.int ((53 : Int32) + ((4 : Int32) * (Int32.ofNat r))))]) (st1 := [.int (5), .int (t), .ref 59]) rfl ?_
  refine Wp.if2 rfl (fun c1 => absurd c1 (t5)) (fun c1 => ?_)
  refine Wp.seg 1 (pc1 := 23) (ls1 := [some (.ref 59), some (.int ((53 : Int32) + ((4 : Int32) * (Int32.ofNat r))))]) (st1 := [.ref 59, .ref 59]) rfl ?_
  refine Wp.gr (t := (11, 0)) (v := some (60)) rfl (WF.t hw 59 rfl) rfl (WF.r hw 59 0 58 rfl) ?_
  show Wp d 214 26 [some (.ref 59), some (.int ((53 : Int32) + ((4 : Int32) * (Int32.ofNat r))))] [.ref 60, .ref 59] h Q
  refine Wp.seg 1 (pc1 := 28) (ls1 := [some (.ref 59), some (.int ((53 : Int32) + ((4 : Int32) * (Int32.ofNat r))))]) (st1 := [.int (10), .ref 60, .ref 59]) rfl ?_
  refine Wp.iald (j := 10) (k := 20) (n := 585) rfl (WF.t hw 60 rfl) rfl rfl (by decide) (by decide) ?_
  rw [show h.2.2.1 60 10 = Int32.ofNat r from hr]
  refine Wp.seg 1 (pc1 := 31) (ls1 := [some (.ref 59), some (.int ((53 : Int32) + ((4 : Int32) * (Int32.ofNat r))))]) (st1 := [.int (8), .int (Int32.ofNat r), .ref 59]) rfl ?_
  refine Wp.if2 rfl (fun c2 => ?_) (fun c2 => absurd (r8) c2)
  refine Wp.seg 1 (pc1 := 39) (ls1 := [some (.ref 59), some (.int ((53 : Int32) + ((4 : Int32) * (Int32.ofNat r))))]) (st1 := [.int (0), .ref 59]) rfl ?_
  refine Wp.pi (t := (11, 0)) rfl (WF.t hw 59 rfl) (Or.inr ⟨rfl, Or.inl rfl⟩) ?_
  refine Wp.seg 1 (pc1 := 43) (ls1 := [some (.ref 59), some (.int ((53 : Int32) + ((4 : Int32) * (Int32.ofNat r))))]) (st1 := [.ref 59]) rfl ?_
  refine Wp.gi (t := (11, 0)) rfl (WF.t hw 59 rfl) (Or.inr rfl) ?_
  rw [show (kwi h 59 10 (0 : Int32)).2.2.1 59 10 = 0 from kwi_s]
  refine Wp.if1 rfl (fun c3 => ?_) (fun c3 => absurd (show (0 : Int32) = 0 by decide) c3)
  refine Wp.seg 1 (pc1 := 51) (ls1 := [some (.ref 59), some (.int ((53 : Int32) + ((4 : Int32) * (Int32.ofNat r))))]) (st1 := [.ref 59]) rfl ?_
  refine Wp.gr (t := (11, 0)) (v := some (60)) rfl (WF.t hw 59 rfl) rfl (WF.r hw 59 0 58 rfl) ?_
  show Wp d 214 54 [some (.ref 59), some (.int ((53 : Int32) + ((4 : Int32) * (Int32.ofNat r))))] [.ref 60] (kwi h 59 10 (0 : Int32)) Q
  refine Wp.seg 2 (pc1 := 56) (ls1 := [some (.ref 59), some (.int ((53 : Int32) + ((4 : Int32) * (Int32.ofNat r))))]) (st1 := [.ref 59, .int ((53 : Int32) + ((4 : Int32) * (Int32.ofNat r))), .ref 60]) rfl ?_
  refine Wp.gi (t := (11, 0)) rfl (WF.t hw 59 rfl) (Or.inl rfl) ?_
  rw [show (kwi h 59 10 (0 : Int32)).2.2.1 59 6 = t from ((kwi_o (by decide)).trans (rfl)).trans (h6)]
  refine Wp.iast (j := (53 + 4 * r)) (n := 585) rfl (WF.t hw 60 rfl) (r53 r) (by omega) (by decide) ?_
  refine Wp.seg 1 (pc1 := 61) (ls1 := [some (.ref 59), some (.int ((53 : Int32) + ((4 : Int32) * (Int32.ofNat r))))]) (st1 := [.ref 59]) rfl ?_
  refine Wp.gr (t := (11, 0)) (v := some (60)) rfl (WF.t hw 59 rfl) rfl (WF.r hw 59 0 58 rfl) ?_
  show Wp d 214 64 [some (.ref 59), some (.int ((53 : Int32) + ((4 : Int32) * (Int32.ofNat r))))] [.ref 60] (kwi (kwi h 59 10 (0 : Int32)) 60 ((53 + 4 * r)) t) Q
  refine Wp.seg 4 (pc1 := 68) (ls1 := [some (.ref 59), some (.int ((53 : Int32) + ((4 : Int32) * (Int32.ofNat r))))]) (st1 := [.ref 59, .int (((53 : Int32) + ((4 : Int32) * (Int32.ofNat r))) + (2 : Int32)), .ref 60]) rfl ?_
  refine Wp.gi (t := (11, 0)) rfl (WF.t hw 59 rfl) (Or.inl rfl) ?_
  rw [show (kwi (kwi h 59 10 (0 : Int32)) 60 ((53 + 4 * r)) t).2.2.1 59 12 = Int32.ofNat z from ((kwi_b (by decide)).trans ((kwi_o (by decide)).trans (rfl))).trans (h12)]
  refine Wp.iast (j := (53 + 4 * r + 2)) (n := 585) rfl (WF.t hw 60 rfl) (r53j r 2) (by omega) (by decide) ?_
  refine Wp.seg 1 (pc1 := 73) (ls1 := [some (.ref 59), some (.int ((53 : Int32) + ((4 : Int32) * (Int32.ofNat r))))]) (st1 := [.ref 59]) rfl ?_
  refine Wp.invV (d2 := D) (as := [.ref 59]) (r := []) (t := (11, 0)) rfl rfl rfl rfl (WF.t hw 59 rfl) rfl rfl ⟨rfl, rfl⟩ (by omega) (g1 _ ?_)
  show Wp d 214 76 [some (.ref 59), some (.int ((53 : Int32) + ((4 : Int32) * (Int32.ofNat r))))] [] k1 Q
  refine Wp.seg 2 (pc1 := 79) (ls1 := [some (.ref 59), some (.int ((53 : Int32) + ((4 : Int32) * (Int32.ofNat r))))]) (st1 := [.int (14), .ref 59]) rfl ?_
  refine Wp.invV (d2 := D) (as := [.ref 59, .int (14)]) (r := []) (t := (11, 0)) rfl rfl rfl rfl (WF.t hwk1 59 rfl) rfl rfl ⟨rfl, rfl⟩ (by omega) (g2 _ ?_)
  show Wp d 214 82 [some (.ref 59), some (.int ((53 : Int32) + ((4 : Int32) * (Int32.ofNat r))))] [.int (1)] k2 Q
  refine Wp.if1 rfl (fun c4 => absurd c4 (show ¬ ((1 : Int32) = 0) by decide)) (fun c4 => ?_)
  refine Wp.seg 1 (pc1 := 86) (ls1 := [some (.ref 59), some (.int ((53 : Int32) + ((4 : Int32) * (Int32.ofNat r))))]) (st1 := [.ref 59]) rfl ?_
  refine Wp.invV (d2 := D) (as := [.ref 59]) (r := []) (t := (11, 0)) rfl rfl rfl rfl (WF.t hwk2 59 rfl) rfl rfl ⟨rfl, rfl⟩ (by omega) (g3 _ ?_)
  show Wp d 214 89 [some (.ref 59), some (.int ((53 : Int32) + ((4 : Int32) * (Int32.ofNat r))))] [] k3 Q
  exact hQ
set_option maxHeartbeats 4000000 in
theorem t_mh5 {d : Nat} {Q : KO → Prop} {h : KH} (hw : WF h) {D : Nat} {r z : Nat} {t : Int32} (rl : r < 8) (h6 : h.2.2.1 59 6 = t) (h12 : h.2.2.1 59 12 = Int32.ofNat z) (b0 : h.2.2.1 59 10 = 1) (hd : D + 1 ≤ d) (hQ : Q (none, kwi (kwi (kwi h 60 ((53 + 4 * r + 3)) (Int32.ofNat z)) 60 ((53 + 4 * r + 1)) (t - (6 : Int32))) 59 10 (1 : Int32))) : Wp d 214 89 [some (.ref 59), some (.int ((53 : Int32) + ((4 : Int32) * (Int32.ofNat r))))] [] h Q := by
  refine Wp.seg 1 (pc1 := 90) (ls1 := [some (.ref 59), some (.int ((53 : Int32) + ((4 : Int32) * (Int32.ofNat r))))]) (st1 := [.ref 59]) rfl ?_
  refine Wp.gr (t := (11, 0)) (v := some (60)) rfl (WF.t hw 59 rfl) rfl (WF.r hw 59 0 58 rfl) ?_
  show Wp d 214 93 [some (.ref 59), some (.int ((53 : Int32) + ((4 : Int32) * (Int32.ofNat r))))] [.ref 60] h Q
  refine Wp.seg 4 (pc1 := 97) (ls1 := [some (.ref 59), some (.int ((53 : Int32) + ((4 : Int32) * (Int32.ofNat r))))]) (st1 := [.ref 59, .int (((53 : Int32) + ((4 : Int32) * (Int32.ofNat r))) + (3 : Int32)), .ref 60]) rfl ?_
  refine Wp.gi (t := (11, 0)) rfl (WF.t hw 59 rfl) (Or.inl rfl) ?_
  rw [show h.2.2.1 59 12 = Int32.ofNat z from h12]
  refine Wp.iast (j := (53 + 4 * r + 3)) (n := 585) rfl (WF.t hw 60 rfl) (r53j r 3) (by omega) (by decide) ?_
  refine Wp.seg 1 (pc1 := 102) (ls1 := [some (.ref 59), some (.int ((53 : Int32) + ((4 : Int32) * (Int32.ofNat r))))]) (st1 := [.ref 59]) rfl ?_
  refine Wp.gr (t := (11, 0)) (v := some (60)) rfl (WF.t hw 59 rfl) rfl (WF.r hw 59 0 58 rfl) ?_
  show Wp d 214 105 [some (.ref 59), some (.int ((53 : Int32) + ((4 : Int32) * (Int32.ofNat r))))] [.ref 60] (kwi h 60 ((53 + 4 * r + 3)) (Int32.ofNat z)) Q
  refine Wp.seg 4 (pc1 := 109) (ls1 := [some (.ref 59), some (.int ((53 : Int32) + ((4 : Int32) * (Int32.ofNat r))))]) (st1 := [.ref 59, .int (((53 : Int32) + ((4 : Int32) * (Int32.ofNat r))) + (1 : Int32)), .ref 60]) rfl ?_
  refine Wp.gi (t := (11, 0)) rfl (WF.t hw 59 rfl) (Or.inl rfl) ?_
  rw [show (kwi h 60 ((53 + 4 * r + 3)) (Int32.ofNat z)).2.2.1 59 6 = t from ((kwi_b (by decide)).trans (rfl)).trans (h6)]
  refine Wp.seg 2 (pc1 := 115) (ls1 := [some (.ref 59), some (.int ((53 : Int32) + ((4 : Int32) * (Int32.ofNat r))))]) (st1 := [.int (t - (6 : Int32)), .int (((53 : Int32) + ((4 : Int32) * (Int32.ofNat r))) + (1 : Int32)), .ref 60]) rfl ?_
  refine Wp.iast (j := (53 + 4 * r + 1)) (n := 585) rfl (WF.t hw 60 rfl) (r53j r 1) (by omega) (by decide) ?_
  refine Wp.seg 2 (pc1 := 118) (ls1 := [some (.ref 59), some (.int ((53 : Int32) + ((4 : Int32) * (Int32.ofNat r))))]) (st1 := [.ref 59, .ref 59]) rfl ?_
  refine Wp.gi (t := (11, 0)) rfl (WF.t hw 59 rfl) (Or.inr rfl) ?_
  rw [show (kwi (kwi h 60 ((53 + 4 * r + 3)) (Int32.ofNat z)) 60 ((53 + 4 * r + 1)) (t - (6 : Int32))).2.2.1 59 10 = 1 from ((kwi_b (by decide)).trans ((kwi_b (by decide)).trans (rfl))).trans (b0)]
  refine Wp.if1 rfl (fun c1 => ?_) (fun c1 => absurd (show ¬ (1 : Int32) = 0 by decide) c1)
  refine Wp.seg 2 (pc1 := 143) (ls1 := [some (.ref 59), some (.int ((53 : Int32) + ((4 : Int32) * (Int32.ofNat r))))]) (st1 := [.int (1), .ref 59]) rfl ?_
  refine Wp.pi (t := (11, 0)) rfl (WF.t hw 59 rfl) (Or.inr ⟨rfl, Or.inr rfl⟩) ?_
  refine Wp.seg 1 (pc1 := 147) (ls1 := [some (.ref 59), some (.int ((53 : Int32) + ((4 : Int32) * (Int32.ofNat r))))]) (st1 := [.ref 59]) rfl ?_
  refine Wp.gi (t := (11, 0)) rfl (WF.t hw 59 rfl) (Or.inr rfl) ?_
  rw [show (kwi (kwi (kwi h 60 ((53 + 4 * r + 3)) (Int32.ofNat z)) 60 ((53 + 4 * r + 1)) (t - (6 : Int32))) 59 10 (1 : Int32)).2.2.1 59 10 = 1 from kwi_s]
  refine Wp.if1 rfl (fun c2 => ?_) (fun c2 => absurd (show ¬ (1 : Int32) = 0 by decide) c2)
  exact Wp.retv rfl rfl hQ
set_option maxHeartbeats 4000000 in
theorem t_mh6 {d : Nat} {Q : KO → Prop} {h : KH} (hw : WF h) {D : Nat} {r z : Nat} {t : Int32} (rl : r < 8) (h6 : h.2.2.1 59 6 = t) (h12 : h.2.2.1 59 12 = Int32.ofNat z) (b0 : h.2.2.1 59 10 = 0) (hin : ∀ Q : KO → Prop, Q (some (.int 0), kwi (kwi h 60 (53 + 4 * r + 3) (Int32.ofNat z)) 60 (53 + 4 * r + 1) (t - 6)) → Cl D 170 [.int t, .int 6, .int 8] (kwi (kwi h 60 (53 + 4 * r + 3) (Int32.ofNat z)) 60 (53 + 4 * r + 1) (t - 6)) Q) (hd : D + 1 ≤ d) (hQ : Q (none, kwi (kwi (kwi h 60 ((53 + 4 * r + 3)) (Int32.ofNat z)) 60 ((53 + 4 * r + 1)) (t - (6 : Int32))) 59 10 (1 : Int32))) : Wp d 214 89 [some (.ref 59), some (.int ((53 : Int32) + ((4 : Int32) * (Int32.ofNat r))))] [] h Q := by
  refine Wp.seg 1 (pc1 := 90) (ls1 := [some (.ref 59), some (.int ((53 : Int32) + ((4 : Int32) * (Int32.ofNat r))))]) (st1 := [.ref 59]) rfl ?_
  refine Wp.gr (t := (11, 0)) (v := some (60)) rfl (WF.t hw 59 rfl) rfl (WF.r hw 59 0 58 rfl) ?_
  show Wp d 214 93 [some (.ref 59), some (.int ((53 : Int32) + ((4 : Int32) * (Int32.ofNat r))))] [.ref 60] h Q
  refine Wp.seg 4 (pc1 := 97) (ls1 := [some (.ref 59), some (.int ((53 : Int32) + ((4 : Int32) * (Int32.ofNat r))))]) (st1 := [.ref 59, .int (((53 : Int32) + ((4 : Int32) * (Int32.ofNat r))) + (3 : Int32)), .ref 60]) rfl ?_
  refine Wp.gi (t := (11, 0)) rfl (WF.t hw 59 rfl) (Or.inl rfl) ?_
  rw [show h.2.2.1 59 12 = Int32.ofNat z from h12]
  refine Wp.iast (j := (53 + 4 * r + 3)) (n := 585) rfl (WF.t hw 60 rfl) (r53j r 3) (by omega) (by decide) ?_
  refine Wp.seg 1 (pc1 := 102) (ls1 := [some (.ref 59), some (.int ((53 : Int32) + ((4 : Int32) * (Int32.ofNat r))))]) (st1 := [.ref 59]) rfl ?_
  refine Wp.gr (t := (11, 0)) (v := some (60)) rfl (WF.t hw 59 rfl) rfl (WF.r hw 59 0 58 rfl) ?_
  show Wp d 214 105 [some (.ref 59), some (.int ((53 : Int32) + ((4 : Int32) * (Int32.ofNat r))))] [.ref 60] (kwi h 60 ((53 + 4 * r + 3)) (Int32.ofNat z)) Q
  refine Wp.seg 4 (pc1 := 109) (ls1 := [some (.ref 59), some (.int ((53 : Int32) + ((4 : Int32) * (Int32.ofNat r))))]) (st1 := [.ref 59, .int (((53 : Int32) + ((4 : Int32) * (Int32.ofNat r))) + (1 : Int32)), .ref 60]) rfl ?_
  refine Wp.gi (t := (11, 0)) rfl (WF.t hw 59 rfl) (Or.inl rfl) ?_
  rw [show (kwi h 60 ((53 + 4 * r + 3)) (Int32.ofNat z)).2.2.1 59 6 = t from ((kwi_b (by decide)).trans (rfl)).trans (h6)]
  refine Wp.seg 2 (pc1 := 115) (ls1 := [some (.ref 59), some (.int ((53 : Int32) + ((4 : Int32) * (Int32.ofNat r))))]) (st1 := [.int (t - (6 : Int32)), .int (((53 : Int32) + ((4 : Int32) * (Int32.ofNat r))) + (1 : Int32)), .ref 60]) rfl ?_
  refine Wp.iast (j := (53 + 4 * r + 1)) (n := 585) rfl (WF.t hw 60 rfl) (r53j r 1) (by omega) (by decide) ?_
  refine Wp.seg 2 (pc1 := 118) (ls1 := [some (.ref 59), some (.int ((53 : Int32) + ((4 : Int32) * (Int32.ofNat r))))]) (st1 := [.ref 59, .ref 59]) rfl ?_
  refine Wp.gi (t := (11, 0)) rfl (WF.t hw 59 rfl) (Or.inr rfl) ?_
  rw [show (kwi (kwi h 60 ((53 + 4 * r + 3)) (Int32.ofNat z)) 60 ((53 + 4 * r + 1)) (t - (6 : Int32))).2.2.1 59 10 = 0 from ((kwi_b (by decide)).trans ((kwi_b (by decide)).trans (rfl))).trans (b0)]
  refine Wp.if1 rfl (fun c1 => absurd c1 (show ¬ (¬ (0 : Int32) = 0) by decide)) (fun c1 => ?_)
  refine Wp.seg 1 (pc1 := 125) (ls1 := [some (.ref 59), some (.int ((53 : Int32) + ((4 : Int32) * (Int32.ofNat r))))]) (st1 := [.ref 59, .ref 59]) rfl ?_
  refine Wp.gi (t := (11, 0)) rfl (WF.t hw 59 rfl) (Or.inl rfl) ?_
  rw [show (kwi (kwi h 60 ((53 + 4 * r + 3)) (Int32.ofNat z)) 60 ((53 + 4 * r + 1)) (t - (6 : Int32))).2.2.1 59 6 = t from ((kwi_b (by decide)).trans ((kwi_b (by decide)).trans (rfl))).trans (h6)]
  refine Wp.seg 2 (pc1 := 132) (ls1 := [some (.ref 59), some (.int ((53 : Int32) + ((4 : Int32) * (Int32.ofNat r))))]) (st1 := [.int (8), .int (6), .int (t), .ref 59]) rfl ?_
  refine Wp.inv (d2 := D) (as := [.int (t), .int (6), .int (8)]) (r := [.ref 59]) rfl rfl rfl rfl rfl rfl (by omega) (hin _ ?_)
  show Wp d 214 135 [some (.ref 59), some (.int ((53 : Int32) + ((4 : Int32) * (Int32.ofNat r))))] [.int (0), .ref 59] (kwi (kwi h 60 ((53 + 4 * r + 3)) (Int32.ofNat z)) 60 ((53 + 4 * r + 1)) (t - (6 : Int32))) Q
  refine Wp.if1 rfl (fun c2 => absurd c2 (show ¬ (¬ (0 : Int32) = 0) by decide)) (fun c2 => ?_)
  refine Wp.seg 2 (pc1 := 143) (ls1 := [some (.ref 59), some (.int ((53 : Int32) + ((4 : Int32) * (Int32.ofNat r))))]) (st1 := [.int (1), .ref 59]) rfl ?_
  refine Wp.pi (t := (11, 0)) rfl (WF.t hw 59 rfl) (Or.inr ⟨rfl, Or.inr rfl⟩) ?_
  refine Wp.seg 1 (pc1 := 147) (ls1 := [some (.ref 59), some (.int ((53 : Int32) + ((4 : Int32) * (Int32.ofNat r))))]) (st1 := [.ref 59]) rfl ?_
  refine Wp.gi (t := (11, 0)) rfl (WF.t hw 59 rfl) (Or.inr rfl) ?_
  rw [show (kwi (kwi (kwi h 60 ((53 + 4 * r + 3)) (Int32.ofNat z)) 60 ((53 + 4 * r + 1)) (t - (6 : Int32))) 59 10 (1 : Int32)).2.2.1 59 10 = 1 from kwi_s]
  refine Wp.if1 rfl (fun c3 => ?_) (fun c3 => absurd (show ¬ (1 : Int32) = 0 by decide) c3)
  exact Wp.retv rfl rfl hQ
set_option maxHeartbeats 4000000 in
theorem t_mh7 {d : Nat} {Q : KO → Prop} {h : KH} (hw : WF h) {k1 : KH} (hwk1 : WF k1) {D : Nat} {r z : Nat} {t : Int32} (rl : r < 8) (h6 : h.2.2.1 59 6 = t) (h12 : h.2.2.1 59 12 = Int32.ofNat z) (b0 : h.2.2.1 59 10 = 0) (hin : ∀ Q : KO → Prop, Q (some (.int 1), kwi (kwi h 60 (53 + 4 * r + 3) (Int32.ofNat z)) 60 (53 + 4 * r + 1) (t - 6)) → Cl D 170 [.int t, .int 6, .int 8] (kwi (kwi h 60 (53 + 4 * r + 3) (Int32.ofNat z)) 60 (53 + 4 * r + 1) (t - 6)) Q) (g1 : ∀ Q : KO → Prop, Q (none, k1) → Cl D 207 [.ref 59] (kwi (kwi (kwi h 60 (53 + 4 * r + 3) (Int32.ofNat z)) 60 (53 + 4 * r + 1) (t - 6)) 59 10 (0 : Int32)) Q) (g2 : ∀ Q : KO → Prop, Q (some (.int 0), k1) → Cl D 208 [.ref 59, .int 24] k1 Q) (hr : k1.2.2.1 60 10 = Int32.ofNat r) (hd : D + 1 ≤ d) (hQ : Q (none, kwi (kwi k1 59 10 (1 : Int32)) 60 10 ((Int32.ofNat r) + (1 : Int32)))) : Wp d 214 89 [some (.ref 59), some (.int ((53 : Int32) + ((4 : Int32) * (Int32.ofNat r))))] [] h Q := by
  refine Wp.seg 1 (pc1 := 90) (ls1 := [some (.ref 59), some (.int ((53 : Int32) + ((4 : Int32) * (Int32.ofNat r))))]) (st1 := [.ref 59]) rfl ?_
  refine Wp.gr (t := (11, 0)) (v := some (60)) rfl (WF.t hw 59 rfl) rfl (WF.r hw 59 0 58 rfl) ?_
  show Wp d 214 93 [some (.ref 59), some (.int ((53 : Int32) + ((4 : Int32) * (Int32.ofNat r))))] [.ref 60] h Q
  refine Wp.seg 4 (pc1 := 97) (ls1 := [some (.ref 59), some (.int ((53 : Int32) + ((4 : Int32) * (Int32.ofNat r))))]) (st1 := [.ref 59, .int (((53 : Int32) + ((4 : Int32) * (Int32.ofNat r))) + (3 : Int32)), .ref 60]) rfl ?_
  refine Wp.gi (t := (11, 0)) rfl (WF.t hw 59 rfl) (Or.inl rfl) ?_
  rw [show h.2.2.1 59 12 = Int32.ofNat z from h12]
  refine Wp.iast (j := (53 + 4 * r + 3)) (n := 585) rfl (WF.t hw 60 rfl) (r53j r 3) (by omega) (by decide) ?_
  refine Wp.seg 1 (pc1 := 102) (ls1 := [some (.ref 59), some (.int ((53 : Int32) + ((4 : Int32) * (Int32.ofNat r))))]) (st1 := [.ref 59]) rfl ?_
  refine Wp.gr (t := (11, 0)) (v := some (60)) rfl (WF.t hw 59 rfl) rfl (WF.r hw 59 0 58 rfl) ?_
  show Wp d 214 105 [some (.ref 59), some (.int ((53 : Int32) + ((4 : Int32) * (Int32.ofNat r))))] [.ref 60] (kwi h 60 ((53 + 4 * r + 3)) (Int32.ofNat z)) Q
  refine Wp.seg 4 (pc1 := 109) (ls1 := [some (.ref 59), some (.int ((53 : Int32) + ((4 : Int32) * (Int32.ofNat r))))]) (st1 := [.ref 59, .int (((53 : Int32) + ((4 : Int32) * (Int32.ofNat r))) + (1 : Int32)), .ref 60]) rfl ?_
  refine Wp.gi (t := (11, 0)) rfl (WF.t hw 59 rfl) (Or.inl rfl) ?_
  rw [show (kwi h 60 ((53 + 4 * r + 3)) (Int32.ofNat z)).2.2.1 59 6 = t from ((kwi_b (by decide)).trans (rfl)).trans (h6)]
  refine Wp.seg 2 (pc1 := 115) (ls1 := [some (.ref 59), some (.int ((53 : Int32) + ((4 : Int32) * (Int32.ofNat r))))]) (st1 := [.int (t - (6 : Int32)), .int (((53 : Int32) + ((4 : Int32) * (Int32.ofNat r))) + (1 : Int32)), .ref 60]) rfl ?_
  refine Wp.iast (j := (53 + 4 * r + 1)) (n := 585) rfl (WF.t hw 60 rfl) (r53j r 1) (by omega) (by decide) ?_
  refine Wp.seg 2 (pc1 := 118) (ls1 := [some (.ref 59), some (.int ((53 : Int32) + ((4 : Int32) * (Int32.ofNat r))))]) (st1 := [.ref 59, .ref 59]) rfl ?_
  refine Wp.gi (t := (11, 0)) rfl (WF.t hw 59 rfl) (Or.inr rfl) ?_
  rw [show (kwi (kwi h 60 ((53 + 4 * r + 3)) (Int32.ofNat z)) 60 ((53 + 4 * r + 1)) (t - (6 : Int32))).2.2.1 59 10 = 0 from ((kwi_b (by decide)).trans ((kwi_b (by decide)).trans (rfl))).trans (b0)]
  refine Wp.if1 rfl (fun c1 => absurd c1 (show ¬ (¬ (0 : Int32) = 0) by decide)) (fun c1 => ?_)
  refine Wp.seg 1 (pc1 := 125) (ls1 := [some (.ref 59), some (.int ((53 : Int32) + ((4 : Int32) * (Int32.ofNat r))))]) (st1 := [.ref 59, .ref 59]) rfl ?_
  refine Wp.gi (t := (11, 0)) rfl (WF.t hw 59 rfl) (Or.inl rfl) ?_
  rw [show (kwi (kwi h 60 ((53 + 4 * r + 3)) (Int32.ofNat z)) 60 ((53 + 4 * r + 1)) (t - (6 : Int32))).2.2.1 59 6 = t from ((kwi_b (by decide)).trans ((kwi_b (by decide)).trans (rfl))).trans (h6)]
  refine Wp.seg 2 (pc1 := 132) (ls1 := [some (.ref 59), some (.int ((53 : Int32) + ((4 : Int32) * (Int32.ofNat r))))]) (st1 := [.int (8), .int (6), .int (t), .ref 59]) rfl ?_
  refine Wp.inv (d2 := D) (as := [.int (t), .int (6), .int (8)]) (r := [.ref 59]) rfl rfl rfl rfl rfl rfl (by omega) (hin _ ?_)
  show Wp d 214 135 [some (.ref 59), some (.int ((53 : Int32) + ((4 : Int32) * (Int32.ofNat r))))] [.int (1), .ref 59] (kwi (kwi h 60 ((53 + 4 * r + 3)) (Int32.ofNat z)) 60 ((53 + 4 * r + 1)) (t - (6 : Int32))) Q
  refine Wp.if1 rfl (fun c2 => ?_) (fun c2 => absurd (show ¬ (1 : Int32) = 0 by decide) c2)
  refine Wp.seg 1 (pc1 := 143) (ls1 := [some (.ref 59), some (.int ((53 : Int32) + ((4 : Int32) * (Int32.ofNat r))))]) (st1 := [.int (0), .ref 59]) rfl ?_
  refine Wp.pi (t := (11, 0)) rfl (WF.t hw 59 rfl) (Or.inr ⟨rfl, Or.inl rfl⟩) ?_
  refine Wp.seg 1 (pc1 := 147) (ls1 := [some (.ref 59), some (.int ((53 : Int32) + ((4 : Int32) * (Int32.ofNat r))))]) (st1 := [.ref 59]) rfl ?_
  refine Wp.gi (t := (11, 0)) rfl (WF.t hw 59 rfl) (Or.inr rfl) ?_
  rw [show (kwi (kwi (kwi h 60 ((53 + 4 * r + 3)) (Int32.ofNat z)) 60 ((53 + 4 * r + 1)) (t - (6 : Int32))) 59 10 (0 : Int32)).2.2.1 59 10 = 0 from kwi_s]
  refine Wp.if1 rfl (fun c3 => absurd c3 (show ¬ (¬ (0 : Int32) = 0) by decide)) (fun c3 => ?_)
  refine Wp.seg 1 (pc1 := 154) (ls1 := [some (.ref 59), some (.int ((53 : Int32) + ((4 : Int32) * (Int32.ofNat r))))]) (st1 := [.ref 59]) rfl ?_
  refine Wp.invV (d2 := D) (as := [.ref 59]) (r := []) (t := (11, 0)) rfl rfl rfl rfl (WF.t hw 59 rfl) rfl rfl ⟨rfl, rfl⟩ (by omega) (g1 _ ?_)
  show Wp d 214 157 [some (.ref 59), some (.int ((53 : Int32) + ((4 : Int32) * (Int32.ofNat r))))] [] k1 Q
  refine Wp.seg 3 (pc1 := 161) (ls1 := [some (.ref 59), some (.int ((53 : Int32) + ((4 : Int32) * (Int32.ofNat r))))]) (st1 := [.int (24), .ref 59, .ref 59]) rfl ?_
  refine Wp.invV (d2 := D) (as := [.ref 59, .int (24)]) (r := [.ref 59]) (t := (11, 0)) rfl rfl rfl rfl (WF.t hwk1 59 rfl) rfl rfl ⟨rfl, rfl⟩ (by omega) (g2 _ ?_)
  show Wp d 214 164 [some (.ref 59), some (.int ((53 : Int32) + ((4 : Int32) * (Int32.ofNat r))))] [.int (0), .ref 59] k1 Q
  refine Wp.if1 rfl (fun c4 => absurd c4 (show ¬ (¬ (0 : Int32) = 0) by decide)) (fun c4 => ?_)
  refine Wp.seg 2 (pc1 := 172) (ls1 := [some (.ref 59), some (.int ((53 : Int32) + ((4 : Int32) * (Int32.ofNat r))))]) (st1 := [.int (1), .ref 59]) rfl ?_
  refine Wp.pi (t := (11, 0)) rfl (WF.t hwk1 59 rfl) (Or.inr ⟨rfl, Or.inr rfl⟩) ?_
  refine Wp.seg 1 (pc1 := 176) (ls1 := [some (.ref 59), some (.int ((53 : Int32) + ((4 : Int32) * (Int32.ofNat r))))]) (st1 := [.ref 59]) rfl ?_
  refine Wp.gr (t := (11, 0)) (v := some (60)) rfl (WF.t hwk1 59 rfl) rfl (WF.r hwk1 59 0 58 rfl) ?_
  show Wp d 214 179 [some (.ref 59), some (.int ((53 : Int32) + ((4 : Int32) * (Int32.ofNat r))))] [.ref 60] (kwi k1 59 10 (1 : Int32)) Q
  refine Wp.seg 2 (pc1 := 182) (ls1 := [some (.ref 59), some (.int ((53 : Int32) + ((4 : Int32) * (Int32.ofNat r))))]) (st1 := [.int (10), .ref 60, .int (10), .ref 60]) rfl ?_
  refine Wp.iald (j := 10) (k := 20) (n := 585) rfl (WF.t hwk1 60 rfl) rfl rfl (by decide) (by decide) ?_
  rw [show (kwi k1 59 10 (1 : Int32)).2.2.1 60 10 = Int32.ofNat r from ((kwi_b (by decide)).trans (rfl)).trans (hr)]
  refine Wp.seg 2 (pc1 := 185) (ls1 := [some (.ref 59), some (.int ((53 : Int32) + ((4 : Int32) * (Int32.ofNat r))))]) (st1 := [.int ((Int32.ofNat r) + (1 : Int32)), .int (10), .ref 60]) rfl ?_
  refine Wp.iast (j := 10) (n := 585) rfl (WF.t hwk1 60 rfl) rfl (by decide) (by decide) ?_
  exact Wp.retv rfl rfl hQ
set_option maxHeartbeats 4000000 in
theorem t_mh8 {d : Nat} {Q : KO → Prop} {h : KH} (hw : WF h) {k1 : KH} (hwk1 : WF k1) {k2 : KH} (hwk2 : WF k2) {D : Nat} {r z : Nat} {t : Int32} (rl : r < 8) (h6 : h.2.2.1 59 6 = t) (h12 : h.2.2.1 59 12 = Int32.ofNat z) (b0 : h.2.2.1 59 10 = 0) (hin : ∀ Q : KO → Prop, Q (some (.int 1), kwi (kwi h 60 (53 + 4 * r + 3) (Int32.ofNat z)) 60 (53 + 4 * r + 1) (t - 6)) → Cl D 170 [.int t, .int 6, .int 8] (kwi (kwi h 60 (53 + 4 * r + 3) (Int32.ofNat z)) 60 (53 + 4 * r + 1) (t - 6)) Q) (g1 : ∀ Q : KO → Prop, Q (none, k1) → Cl D 207 [.ref 59] (kwi (kwi (kwi h 60 (53 + 4 * r + 3) (Int32.ofNat z)) 60 (53 + 4 * r + 1) (t - 6)) 59 10 (0 : Int32)) Q) (g2 : ∀ Q : KO → Prop, Q (some (.int 1), k2) → Cl D 208 [.ref 59, .int 24] k1 Q) (hr : k2.2.2.1 60 10 = Int32.ofNat r) (hd : D + 1 ≤ d) (hQ : Q (none, kwi (kwi k2 59 10 (0 : Int32)) 60 10 ((Int32.ofNat r) + (1 : Int32)))) : Wp d 214 89 [some (.ref 59), some (.int ((53 : Int32) + ((4 : Int32) * (Int32.ofNat r))))] [] h Q := by
  refine Wp.seg 1 (pc1 := 90) (ls1 := [some (.ref 59), some (.int ((53 : Int32) + ((4 : Int32) * (Int32.ofNat r))))]) (st1 := [.ref 59]) rfl ?_
  refine Wp.gr (t := (11, 0)) (v := some (60)) rfl (WF.t hw 59 rfl) rfl (WF.r hw 59 0 58 rfl) ?_
  show Wp d 214 93 [some (.ref 59), some (.int ((53 : Int32) + ((4 : Int32) * (Int32.ofNat r))))] [.ref 60] h Q
  refine Wp.seg 4 (pc1 := 97) (ls1 := [some (.ref 59), some (.int ((53 : Int32) + ((4 : Int32) * (Int32.ofNat r))))]) (st1 := [.ref 59, .int (((53 : Int32) + ((4 : Int32) * (Int32.ofNat r))) + (3 : Int32)), .ref 60]) rfl ?_
  refine Wp.gi (t := (11, 0)) rfl (WF.t hw 59 rfl) (Or.inl rfl) ?_
  rw [show h.2.2.1 59 12 = Int32.ofNat z from h12]
  refine Wp.iast (j := (53 + 4 * r + 3)) (n := 585) rfl (WF.t hw 60 rfl) (r53j r 3) (by omega) (by decide) ?_
  refine Wp.seg 1 (pc1 := 102) (ls1 := [some (.ref 59), some (.int ((53 : Int32) + ((4 : Int32) * (Int32.ofNat r))))]) (st1 := [.ref 59]) rfl ?_
  refine Wp.gr (t := (11, 0)) (v := some (60)) rfl (WF.t hw 59 rfl) rfl (WF.r hw 59 0 58 rfl) ?_
  show Wp d 214 105 [some (.ref 59), some (.int ((53 : Int32) + ((4 : Int32) * (Int32.ofNat r))))] [.ref 60] (kwi h 60 ((53 + 4 * r + 3)) (Int32.ofNat z)) Q
  refine Wp.seg 4 (pc1 := 109) (ls1 := [some (.ref 59), some (.int ((53 : Int32) + ((4 : Int32) * (Int32.ofNat r))))]) (st1 := [.ref 59, .int (((53 : Int32) + ((4 : Int32) * (Int32.ofNat r))) + (1 : Int32)), .ref 60]) rfl ?_
  refine Wp.gi (t := (11, 0)) rfl (WF.t hw 59 rfl) (Or.inl rfl) ?_
  rw [show (kwi h 60 ((53 + 4 * r + 3)) (Int32.ofNat z)).2.2.1 59 6 = t from ((kwi_b (by decide)).trans (rfl)).trans (h6)]
  refine Wp.seg 2 (pc1 := 115) (ls1 := [some (.ref 59), some (.int ((53 : Int32) + ((4 : Int32) * (Int32.ofNat r))))]) (st1 := [.int (t - (6 : Int32)), .int (((53 : Int32) + ((4 : Int32) * (Int32.ofNat r))) + (1 : Int32)), .ref 60]) rfl ?_
  refine Wp.iast (j := (53 + 4 * r + 1)) (n := 585) rfl (WF.t hw 60 rfl) (r53j r 1) (by omega) (by decide) ?_
  refine Wp.seg 2 (pc1 := 118) (ls1 := [some (.ref 59), some (.int ((53 : Int32) + ((4 : Int32) * (Int32.ofNat r))))]) (st1 := [.ref 59, .ref 59]) rfl ?_
  refine Wp.gi (t := (11, 0)) rfl (WF.t hw 59 rfl) (Or.inr rfl) ?_
  rw [show (kwi (kwi h 60 ((53 + 4 * r + 3)) (Int32.ofNat z)) 60 ((53 + 4 * r + 1)) (t - (6 : Int32))).2.2.1 59 10 = 0 from ((kwi_b (by decide)).trans ((kwi_b (by decide)).trans (rfl))).trans (b0)]
  refine Wp.if1 rfl (fun c1 => absurd c1 (show ¬ (¬ (0 : Int32) = 0) by decide)) (fun c1 => ?_)
  refine Wp.seg 1 (pc1 := 125) (ls1 := [some (.ref 59), some (.int ((53 : Int32) + ((4 : Int32) * (Int32.ofNat r))))]) (st1 := [.ref 59, .ref 59]) rfl ?_
  refine Wp.gi (t := (11, 0)) rfl (WF.t hw 59 rfl) (Or.inl rfl) ?_
  rw [show (kwi (kwi h 60 ((53 + 4 * r + 3)) (Int32.ofNat z)) 60 ((53 + 4 * r + 1)) (t - (6 : Int32))).2.2.1 59 6 = t from ((kwi_b (by decide)).trans ((kwi_b (by decide)).trans (rfl))).trans (h6)]
  refine Wp.seg 2 (pc1 := 132) (ls1 := [some (.ref 59), some (.int ((53 : Int32) + ((4 : Int32) * (Int32.ofNat r))))]) (st1 := [.int (8), .int (6), .int (t), .ref 59]) rfl ?_
  refine Wp.inv (d2 := D) (as := [.int (t), .int (6), .int (8)]) (r := [.ref 59]) rfl rfl rfl rfl rfl rfl (by omega) (hin _ ?_)
  show Wp d 214 135 [some (.ref 59), some (.int ((53 : Int32) + ((4 : Int32) * (Int32.ofNat r))))] [.int (1), .ref 59] (kwi (kwi h 60 ((53 + 4 * r + 3)) (Int32.ofNat z)) 60 ((53 + 4 * r + 1)) (t - (6 : Int32))) Q
  refine Wp.if1 rfl (fun c2 => ?_) (fun c2 => absurd (show ¬ (1 : Int32) = 0 by decide) c2)
  refine Wp.seg 1 (pc1 := 143) (ls1 := [some (.ref 59), some (.int ((53 : Int32) + ((4 : Int32) * (Int32.ofNat r))))]) (st1 := [.int (0), .ref 59]) rfl ?_
  refine Wp.pi (t := (11, 0)) rfl (WF.t hw 59 rfl) (Or.inr ⟨rfl, Or.inl rfl⟩) ?_
  refine Wp.seg 1 (pc1 := 147) (ls1 := [some (.ref 59), some (.int ((53 : Int32) + ((4 : Int32) * (Int32.ofNat r))))]) (st1 := [.ref 59]) rfl ?_
  refine Wp.gi (t := (11, 0)) rfl (WF.t hw 59 rfl) (Or.inr rfl) ?_
  rw [show (kwi (kwi (kwi h 60 ((53 + 4 * r + 3)) (Int32.ofNat z)) 60 ((53 + 4 * r + 1)) (t - (6 : Int32))) 59 10 (0 : Int32)).2.2.1 59 10 = 0 from kwi_s]
  refine Wp.if1 rfl (fun c3 => absurd c3 (show ¬ (¬ (0 : Int32) = 0) by decide)) (fun c3 => ?_)
  refine Wp.seg 1 (pc1 := 154) (ls1 := [some (.ref 59), some (.int ((53 : Int32) + ((4 : Int32) * (Int32.ofNat r))))]) (st1 := [.ref 59]) rfl ?_
  refine Wp.invV (d2 := D) (as := [.ref 59]) (r := []) (t := (11, 0)) rfl rfl rfl rfl (WF.t hw 59 rfl) rfl rfl ⟨rfl, rfl⟩ (by omega) (g1 _ ?_)
  show Wp d 214 157 [some (.ref 59), some (.int ((53 : Int32) + ((4 : Int32) * (Int32.ofNat r))))] [] k1 Q
  refine Wp.seg 3 (pc1 := 161) (ls1 := [some (.ref 59), some (.int ((53 : Int32) + ((4 : Int32) * (Int32.ofNat r))))]) (st1 := [.int (24), .ref 59, .ref 59]) rfl ?_
  refine Wp.invV (d2 := D) (as := [.ref 59, .int (24)]) (r := [.ref 59]) (t := (11, 0)) rfl rfl rfl rfl (WF.t hwk1 59 rfl) rfl rfl ⟨rfl, rfl⟩ (by omega) (g2 _ ?_)
  show Wp d 214 164 [some (.ref 59), some (.int ((53 : Int32) + ((4 : Int32) * (Int32.ofNat r))))] [.int (1), .ref 59] k2 Q
  refine Wp.if1 rfl (fun c4 => ?_) (fun c4 => absurd (show ¬ (1 : Int32) = 0 by decide) c4)
  refine Wp.seg 1 (pc1 := 172) (ls1 := [some (.ref 59), some (.int ((53 : Int32) + ((4 : Int32) * (Int32.ofNat r))))]) (st1 := [.int (0), .ref 59]) rfl ?_
  refine Wp.pi (t := (11, 0)) rfl (WF.t hwk2 59 rfl) (Or.inr ⟨rfl, Or.inl rfl⟩) ?_
  refine Wp.seg 1 (pc1 := 176) (ls1 := [some (.ref 59), some (.int ((53 : Int32) + ((4 : Int32) * (Int32.ofNat r))))]) (st1 := [.ref 59]) rfl ?_
  refine Wp.gr (t := (11, 0)) (v := some (60)) rfl (WF.t hwk2 59 rfl) rfl (WF.r hwk2 59 0 58 rfl) ?_
  show Wp d 214 179 [some (.ref 59), some (.int ((53 : Int32) + ((4 : Int32) * (Int32.ofNat r))))] [.ref 60] (kwi k2 59 10 (0 : Int32)) Q
  refine Wp.seg 2 (pc1 := 182) (ls1 := [some (.ref 59), some (.int ((53 : Int32) + ((4 : Int32) * (Int32.ofNat r))))]) (st1 := [.int (10), .ref 60, .int (10), .ref 60]) rfl ?_
  refine Wp.iald (j := 10) (k := 20) (n := 585) rfl (WF.t hwk2 60 rfl) rfl rfl (by decide) (by decide) ?_
  rw [show (kwi k2 59 10 (0 : Int32)).2.2.1 60 10 = Int32.ofNat r from ((kwi_b (by decide)).trans (rfl)).trans (hr)]
  refine Wp.seg 2 (pc1 := 185) (ls1 := [some (.ref 59), some (.int ((53 : Int32) + ((4 : Int32) * (Int32.ofNat r))))]) (st1 := [.int ((Int32.ofNat r) + (1 : Int32)), .int (10), .ref 60]) rfl ?_
  refine Wp.iast (j := 10) (n := 585) rfl (WF.t hwk2 60 rfl) rfl (by decide) (by decide) ?_
  exact Wp.retv rfl rfl hQ
set_option maxHeartbeats 4000000 in
theorem t_mR0 {d : Nat} {Q : KO → Prop} {h : KH} (hw : WF h) {k1 : KH} (hwk1 : WF k1) {k2 : KH} (hwk2 : WF k2) {D : Nat} (g1 : ∀ Q : KO → Prop, Q (none, k1) → Cl D 172 [.ref 59] h Q) (g2 : ∀ Q : KO → Prop, Q (none, k2) → Cl D 207 [.ref 59] (kwi (kwi (kwi (kwi (kwi k1 60 10 (0 : Int32)) 59 8 (0 : Int32)) 59 10 (0 : Int32)) 59 11 (0 : Int32)) 59 12 (0 : Int32)) Q) (hd : D + 1 ≤ d) (hQ : Wp d 215 36 ([some (.ref 59)]) [] k2 Q) : Cl d 215 [.ref 59] h Q := by
  refine Cl.of (ls := [some (.ref 59)]) rfl rfl ?_
  refine Wp.seg 1 (pc1 := 1) (ls1 := [some (.ref 59)]) (st1 := [.ref 59]) rfl ?_
  refine Wp.invV (d2 := D) (as := [.ref 59]) (r := []) (t := (11, 0)) rfl rfl rfl rfl (WF.t hw 59 rfl) rfl rfl ⟨rfl, rfl⟩ (by omega) (g1 _ ?_)
  show Wp d 215 4 [some (.ref 59)] [] k1 Q
  refine Wp.seg 1 (pc1 := 5) (ls1 := [some (.ref 59)]) (st1 := [.ref 59]) rfl ?_
  refine Wp.gr (t := (11, 0)) (v := some (60)) rfl (WF.t hwk1 59 rfl) rfl (WF.r hwk1 59 0 58 rfl) ?_
  show Wp d 215 8 [some (.ref 59)] [.ref 60] k1 Q
  refine Wp.seg 2 (pc1 := 11) (ls1 := [some (.ref 59)]) (st1 := [.int (0), .int (10), .ref 60]) rfl ?_
  refine Wp.iast (j := 10) (n := 585) rfl (WF.t hwk1 60 rfl) rfl (by decide) (by decide) ?_
  refine Wp.seg 2 (pc1 := 14) (ls1 := [some (.ref 59)]) (st1 := [.int (0), .ref 59]) rfl ?_
  refine Wp.pi (t := (11, 0)) rfl (WF.t hwk1 59 rfl) (Or.inl rfl) ?_
  refine Wp.seg 2 (pc1 := 19) (ls1 := [some (.ref 59)]) (st1 := [.int (0), .ref 59]) rfl ?_
  refine Wp.pi (t := (11, 0)) rfl (WF.t hwk1 59 rfl) (Or.inr ⟨rfl, Or.inl rfl⟩) ?_
  refine Wp.seg 2 (pc1 := 24) (ls1 := [some (.ref 59)]) (st1 := [.int (0), .ref 59]) rfl ?_
  refine Wp.pi (t := (11, 0)) rfl (WF.t hwk1 59 rfl) (Or.inl rfl) ?_
  refine Wp.seg 2 (pc1 := 29) (ls1 := [some (.ref 59)]) (st1 := [.int (0), .ref 59]) rfl ?_
  refine Wp.pi (t := (11, 0)) rfl (WF.t hwk1 59 rfl) (Or.inl rfl) ?_
  refine Wp.seg 1 (pc1 := 33) (ls1 := [some (.ref 59)]) (st1 := [.ref 59]) rfl ?_
  refine Wp.invV (d2 := D) (as := [.ref 59]) (r := []) (t := (11, 0)) rfl rfl rfl rfl (WF.t hwk1 59 rfl) rfl rfl ⟨rfl, rfl⟩ (by omega) (g2 _ ?_)
  show Wp d 215 36 [some (.ref 59)] [] k2 Q
  exact hQ
set_option maxHeartbeats 4000000 in
theorem t_mR1 {d : Nat} {Q : KO → Prop} {h : KH} (hw : WF h) {D : Nat} (b0 : h.2.2.1 59 10 = 1) (hd : D + 1 ≤ d) (hQ : Wp d 215 59 ([some (.ref 59)]) [] h Q) : Wp d 215 36 [some (.ref 59)] [] h Q := by
  refine Wp.seg 1 (pc1 := 37) (ls1 := [some (.ref 59)]) (st1 := [.ref 59]) rfl ?_
  refine Wp.gi (t := (11, 0)) rfl (WF.t hw 59 rfl) (Or.inr rfl) ?_
  rw [show h.2.2.1 59 10 = 1 from b0]
  refine Wp.if1 rfl (fun c1 => ?_) (fun c1 => absurd (show ¬ (1 : Int32) = 0 by decide) c1)
  exact hQ
set_option maxHeartbeats 4000000 in
theorem t_mR2 {d : Nat} {Q : KO → Prop} {h : KH} (hw : WF h) {D : Nat} {t : Int32} (b0 : h.2.2.1 59 10 = 0) (h6 : h.2.2.1 59 6 = t) (e : t = 25) (hd : D + 1 ≤ d) (hQ : Wp d 215 59 ([some (.ref 59)]) [] h Q) : Wp d 215 36 [some (.ref 59)] [] h Q := by
  refine Wp.seg 1 (pc1 := 37) (ls1 := [some (.ref 59)]) (st1 := [.ref 59]) rfl ?_
  refine Wp.gi (t := (11, 0)) rfl (WF.t hw 59 rfl) (Or.inr rfl) ?_
  rw [show h.2.2.1 59 10 = 0 from b0]
  refine Wp.if1 rfl (fun c1 => absurd c1 (show ¬ (¬ (0 : Int32) = 0) by decide)) (fun c1 => ?_)
  refine Wp.seg 1 (pc1 := 44) (ls1 := [some (.ref 59)]) (st1 := [.ref 59]) rfl ?_
  refine Wp.gi (t := (11, 0)) rfl (WF.t hw 59 rfl) (Or.inl rfl) ?_
  rw [show h.2.2.1 59 6 = t from h6]
  refine Wp.seg 1 (pc1 := 49) (ls1 := [some (.ref 59)]) (st1 := [.int (25), .int (t)]) rfl ?_
  refine Wp.if2 rfl (fun c2 => ?_) (fun c2 => absurd (e) c2)
  exact hQ
set_option maxHeartbeats 4000000 in
theorem t_mR3 {d : Nat} {Q : KO → Prop} {h : KH} (hw : WF h) {k1 : KH} (hwk1 : WF k1) {D : Nat} {t : Int32} (b0 : h.2.2.1 59 10 = 0) (h6 : h.2.2.1 59 6 = t) (e : ¬ t = 25) (g1 : ∀ Q : KO → Prop, Q (none, k1) → Cl D 214 [.ref 59] h Q) (hd : D + 1 ≤ d) (hQ : Wp d 215 36 ([some (.ref 59)]) [] k1 Q) : Wp d 215 36 [some (.ref 59)] [] h Q := by
  refine Wp.seg 1 (pc1 := 37) (ls1 := [some (.ref 59)]) (st1 := [.ref 59]) rfl ?_
  refine Wp.gi (t := (11, 0)) rfl (WF.t hw 59 rfl) (Or.inr rfl) ?_
  rw [show h.2.2.1 59 10 = 0 from b0]
  refine Wp.if1 rfl (fun c1 => absurd c1 (show ¬ (¬ (0 : Int32) = 0) by decide)) (fun c1 => ?_)
  refine Wp.seg 1 (pc1 := 44) (ls1 := [some (.ref 59)]) (st1 := [.ref 59]) rfl ?_
  refine Wp.gi (t := (11, 0)) rfl (WF.t hw 59 rfl) (Or.inl rfl) ?_
  rw [show h.2.2.1 59 6 = t from h6]
  refine Wp.seg 1 (pc1 := 49) (ls1 := [some (.ref 59)]) (st1 := [.int (25), .int (t)]) rfl ?_
  refine Wp.if2 rfl (fun c2 => absurd c2 (e)) (fun c2 => ?_)
  refine Wp.seg 1 (pc1 := 53) (ls1 := [some (.ref 59)]) (st1 := [.ref 59]) rfl ?_
  refine Wp.invV (d2 := D) (as := [.ref 59]) (r := []) (t := (11, 0)) rfl rfl rfl rfl (WF.t hw 59 rfl) rfl rfl ⟨rfl, rfl⟩ (by omega) (g1 _ ?_)
  show Wp d 215 56 [some (.ref 59)] [] k1 Q
  refine Wp.seg 1 (pc1 := 36) (ls1 := [some (.ref 59)]) (st1 := []) rfl ?_
  exact hQ
set_option maxHeartbeats 4000000 in
theorem t_mR4 {d : Nat} {Q : KO → Prop} {h : KH} (hw : WF h) {D : Nat} {x : Int32} (b0 : h.2.2.1 59 10 = 0) (hr : h.2.2.1 60 10 = x) (hd : D + 1 ≤ d) (hQ : Q (some (.int (x)), kwi h 59 5 (0 : Int32))) : Wp d 215 59 [some (.ref 59)] [] h Q := by
  refine Wp.seg 2 (pc1 := 61) (ls1 := [some (.ref 59)]) (st1 := [.int (0), .ref 59]) rfl ?_
  refine Wp.pi (t := (11, 0)) rfl (WF.t hw 59 rfl) (Or.inl rfl) ?_
  refine Wp.seg 1 (pc1 := 65) (ls1 := [some (.ref 59)]) (st1 := [.ref 59]) rfl ?_
  refine Wp.gi (t := (11, 0)) rfl (WF.t hw 59 rfl) (Or.inr rfl) ?_
  rw [show (kwi h 59 5 (0 : Int32)).2.2.1 59 10 = 0 from ((kwi_o (by decide)).trans (rfl)).trans (b0)]
  refine Wp.if1 rfl (fun c1 => ?_) (fun c1 => absurd (show (0 : Int32) = 0 by decide) c1)
  refine Wp.seg 1 (pc1 := 84) (ls1 := [some (.ref 59)]) (st1 := [.ref 59]) rfl ?_
  refine Wp.gr (t := (11, 0)) (v := some (60)) rfl (WF.t hw 59 rfl) rfl (WF.r hw 59 0 58 rfl) ?_
  show Wp d 215 87 [some (.ref 59)] [.ref 60] (kwi h 59 5 (0 : Int32)) Q
  refine Wp.seg 1 (pc1 := 89) (ls1 := [some (.ref 59)]) (st1 := [.int (10), .ref 60]) rfl ?_
  refine Wp.iald (j := 10) (k := 20) (n := 585) rfl (WF.t hw 60 rfl) rfl rfl (by decide) (by decide) ?_
  rw [show (kwi h 59 5 (0 : Int32)).2.2.1 60 10 = x from ((kwi_b (by decide)).trans (rfl)).trans (hr)]
  exact Wp.reti rfl rfl hQ
set_option maxHeartbeats 4000000 in
theorem t_mR5 {d : Nat} {Q : KO → Prop} {h : KH} (hw : WF h) {k1 : KH} (hwk1 : WF k1) {D : Nat} {y : Int32} (b0 : h.2.2.1 59 10 = 1) (g1 : ∀ Q : KO → Prop, Q (none, k1) → Cl D 173 [.ref 59] (kwi h 59 5 0) Q) (h7 : k1.2.2.1 59 7 = y) (hd : D + 1 ≤ d) (hQ : Q (some (.int ((-100 : Int32) - y)), k1)) : Wp d 215 59 [some (.ref 59)] [] h Q := by
  refine Wp.seg 2 (pc1 := 61) (ls1 := [some (.ref 59)]) (st1 := [.int (0), .ref 59]) rfl ?_
  refine Wp.pi (t := (11, 0)) rfl (WF.t hw 59 rfl) (Or.inl rfl) ?_
  refine Wp.seg 1 (pc1 := 65) (ls1 := [some (.ref 59)]) (st1 := [.ref 59]) rfl ?_
  refine Wp.gi (t := (11, 0)) rfl (WF.t hw 59 rfl) (Or.inr rfl) ?_
  rw [show (kwi h 59 5 (0 : Int32)).2.2.1 59 10 = 1 from ((kwi_o (by decide)).trans (rfl)).trans (b0)]
  refine Wp.if1 rfl (fun c1 => absurd c1 (show ¬ ((1 : Int32) = 0) by decide)) (fun c1 => ?_)
  refine Wp.seg 1 (pc1 := 72) (ls1 := [some (.ref 59)]) (st1 := [.ref 59]) rfl ?_
  refine Wp.invV (d2 := D) (as := [.ref 59]) (r := []) (t := (11, 0)) rfl rfl rfl rfl (WF.t hw 59 rfl) rfl rfl ⟨rfl, rfl⟩ (by omega) (g1 _ ?_)
  show Wp d 215 75 [some (.ref 59)] [] k1 Q
  refine Wp.seg 2 (pc1 := 78) (ls1 := [some (.ref 59)]) (st1 := [.ref 59, .int (-100)]) rfl ?_
  refine Wp.gi (t := (11, 0)) rfl (WF.t hwk1 59 rfl) (Or.inl rfl) ?_
  rw [show k1.2.2.1 59 7 = y from h7]
  refine Wp.seg 1 (pc1 := 82) (ls1 := [some (.ref 59)]) (st1 := [.int ((-100 : Int32) - y)]) rfl ?_
  exact Wp.reti rfl rfl hQ
