/-! KM: both sides: goAll: the loops -/
theorem ok_x {n : Nat} {x : Int32} (hn : n ≤ 6) (q : inB x 0 (n : Int) = true) : okT n (x - 1) := by
  obtain ⟨m, hm, rfl⟩ := inB_nat q
  have k : ∀ m, m < 7 → m = 0 ∨ Int32.ofNat m - 1 = Int32.ofNat (m - 1) := by decide +kernel
  rcases k m (by omega) with rfl | e
  · exact Or.inl (by decide)
  · by_cases z : m = 0
    · subst z
      exact Or.inl (by decide)
    · exact Or.inr ⟨m - 1, by omega, e⟩
def gaR (z : Nat) (it : Nat → Int32) (RL : List Rul) (n en : Nat) (w : Int32) : Nat → Nat → (Nat → Int32) → Nat → Int32 → Int32 × (Nat → Int32) × Nat
  | 0, _, A, dn, r => (r, A, dn)
  | k + 1, i, A, dn, r => if plB z (w + Int32.ofNat i) = true then (if inB (it (w + Int32.ofNat i).toNatClampNeg) 0 (n : Int) = true ∧ dn < en then gaR z it RL n en w k (i + 1) (goA RL A (it (w + Int32.ofNat i).toNatClampNeg - 1)) (dn + 1) (r + wA RL A (it (w + Int32.ofNat i).toNatClampNeg - 1)) else gaR z it RL n en w k (i + 1) A dn r) else (-12, A, dn)
theorem nn_of {j : Nat} (h : j < 40) : (Int32.ofNat j).toNatClampNeg = j := by
  have k : ∀ j, j < 40 → (Int32.ofNat j).toNatClampNeg = j := by decide +kernel
  exact k j h
theorem s_cgL {d : Nat} {Q : KO → Prop} {s N z : Nat} {it : Nat → Int32} {w : Int32} {RL : List Rul} {n c en : Nat} (hs : s < 4) (hN : N ≤ 20) (hz : z ≤ 40) (hd : 5 ≤ d) : ∀ (k i : Nat) (A : Nat → Int32) (dn : Nat) (r : Int32) (z7 : Option Value) (h : KH), i + k = N → WF h → cityOK h 1 A RL n c dn en → h.2.2.1 39 s = Int32.ofNat z → (∀ j, j < z → h.2.2.1 (41 + s) j = it j) → (∀ H, Fr (pC 1) noP h H → cityOK H 1 (gaR z it RL n en w k i A dn r).2.1 RL n c (gaR z it RL n en w k i A dn r).2.2 en → Q (some (.int (gaR z it RL n en w k i A dn r).1), H)) → Wp d 152 41 [some (.ref 0), some (.int (Int32.ofNat s)), some (.int (w)), some (.int (Int32.ofNat N)), some (.int (0)), some (.int (r)), some (.int (Int32.ofNat i)), z7] [] h Q := by
  intro k
  induction k with
  | zero =>
    intro i A dn r z7 h e hw hk h39 hit hQ
    exact t_cgl0 hw hs ((nle (by omega) (by omega)).mpr (by omega)) (by omega) (hQ h (Fr.refl h) hk)
  | succ k ih =>
    intro i A dn r z7 h e hw hk h39 hit hQ
    have ge : ¬ (Int32.ofNat N ≤ Int32.ofNat i) := fun c => absurd ((nle (by omega) (by omega)).mp c) (by omega)
    have ii : Int32.ofNat i + (1 : Int32) = Int32.ofNat (i + 1) := (Int32.ofNat_add i 1).symm
    unfold gaR at hQ
    rcases qp : plB z (w + Int32.ofNat i) with _ | _
    · rw [if_neg (by rw [qp]; decide)] at hQ
      exact t_cgl1 hw hs hz h39 ge qp (by omega) (hQ h (Fr.refl h) hk)
    obtain ⟨j, hj, ej⟩ := plB_lt qp
    rw [if_pos qp] at hQ
    simp only [ej, nn_of (show j < 40 by omega)] at hQ
    have hx := hit j hj
    rcases qx : inB (it j) 0 (n : Int) with _ | _
    · rw [if_neg (fun z => by rw [qx] at z; exact absurd z.1 (by decide))] at hQ
      refine t_cgl2 hw hs hz h39 ge qp (by omega) ej hx hk qx (by omega) ?_
      rw [ii]
      exact ih (i + 1) A dn r _ h (by omega) hw hk h39 hit hQ
    by_cases hlt : dn < en
    · rw [if_pos ⟨qx, hlt⟩] at hQ
      refine t_cgl4 hw hs hz h39 ge qp (by omega) ej hx hk qx hlt (ok_x hk.2.1.1 qx) hd (fun k f g => ?_)
      rw [ii]
      refine ih (i + 1) _ _ _ _ k (by omega) (f.wf hw (fun z => z)) g (by rw [f.2.2.1 39 (Or.inl (by unfold pC; omega))]; exact h39) (fun j hj => by rw [f.2.2.1 (41 + s) (Or.inl (by unfold pC; omega))]; exact hit j hj) (fun H fH gH => hQ H (f.trans fH) gH)
    · rw [if_neg (fun z => hlt z.2)] at hQ
      refine t_cgl3 hw hs hz h39 ge qp (by omega) ej hx hk qx hlt (by omega) ?_
      rw [ii]
      exact ih (i + 1) A dn r _ h (by omega) hw hk h39 hit hQ
theorem s_mgL {d : Nat} {Q : KO → Prop} {s N z : Nat} {it : Nat → Int32} {w : Int32} {RL : List Rul} {n c en : Nat} (hs : s < 4) (hN : N ≤ 20) (hz : z ≤ 40) (hd : 6 ≤ d) : ∀ (k i : Nat) (A : Nat → Int32) (dn : Nat) (r : Int32) (z7 : Option Value) (h : KH), i + k = N → WF h → refOK h A RL n c dn en → h.2.2.1 69 s = Int32.ofNat z → (∀ j, j < z → (h.2.2.2.1 70 (40 * s + j)).toInt32 = it j) → (∀ H, Fr pM noP h H → refOK H (gaR z it RL n en w k i A dn r).2.1 RL n c (gaR z it RL n en w k i A dn r).2.2 en → keepS (H.2.2.1 60) (h.2.2.1 60) → Q (some (.int (gaR z it RL n en w k i A dn r).1), H)) → Wp d 269 22 [some (.ref 59), some (.int (Int32.ofNat s)), some (.int (w)), some (.int (Int32.ofNat N)), some (.int (0)), some (.int (r)), some (.int (Int32.ofNat i)), z7] [] h Q := by
  intro k
  induction k with
  | zero =>
    intro i A dn r z7 h e hw hk h39 hit hQ
    exact t_mgl0 hw hs ((nle (by omega) (by omega)).mpr (by omega)) (by omega) (hQ h (Fr.refl h) hk (fun _ _ => rfl))
  | succ k ih =>
    intro i A dn r z7 h e hw hk h39 hit hQ
    have ge : ¬ (Int32.ofNat N ≤ Int32.ofNat i) := fun c => absurd ((nle (by omega) (by omega)).mp c) (by omega)
    have ii : Int32.ofNat i + (1 : Int32) = Int32.ofNat (i + 1) := (Int32.ofNat_add i 1).symm
    unfold gaR at hQ
    rcases qp : plB z (w + Int32.ofNat i) with _ | _
    · rw [if_neg (by rw [qp]; decide)] at hQ
      exact t_mgl1 hw hs hz h39 (by omega) ge qp (by omega) (hQ h (Fr.refl h) hk (fun _ _ => rfl))
    obtain ⟨j, hj, ej⟩ := plB_lt qp
    rw [if_pos qp] at hQ
    simp only [ej, nn_of (show j < 40 by omega)] at hQ
    have hx := hit j hj
    rcases qx : inB (it j) 0 (n : Int) with _ | _
    · rw [if_neg (fun z => by rw [qx] at z; exact absurd z.1 (by decide))] at hQ
      refine t_mgl2 hw hs hz h39 (by omega) ge qp (by omega) ej rfl hk (by rw [hx]; exact qx) (by omega) ?_
      rw [ii, Int32.add_zero]
      exact ih (i + 1) A dn r _ h (by omega) hw hk h39 hit hQ
    by_cases hlt : dn < en
    · rw [if_pos ⟨qx, hlt⟩] at hQ
      refine t_mgl4 hw hs hz h39 (by omega) ge qp (by omega) ej rfl hk (by rw [hx]; exact qx) hlt (by rw [hx]; exact ok_x hk.2.1.1 qx) hd ?_
      rw [hx]
      intro k f g e2
      rw [ii]
      refine ih (i + 1) _ _ _ _ k (by omega) (f.wf hw (fun z => z)) g (by rw [f.2.2.1 69 (Or.inl (by unfold pM; omega))]; exact h39) (fun j hj => by rw [f.2.1]; exact hit j hj) (fun H fH gH eH => hQ H (f.trans fH) gH (fun m hm => (eH m hm).trans (e2 m hm)))
    · rw [if_neg (fun z => hlt z.2)] at hQ
      refine t_mgl3 hw hs hz h39 (by omega) ge qp (by omega) ej rfl hk (by rw [hx]; exact qx) hlt (by omega) ?_
      rw [ii, Int32.add_zero]
      exact ih (i + 1) A dn r _ h (by omega) hw hk h39 hit hQ
/-- a change of the city on both sides -/
theorem JI_city {h : KH} (hi : Inv h) {Mc Mm dc dm : Nat} {ca ma : List Value} {v : Int32} {A B : Nat → Int32} {RL : List Rul} {n c dn en dn2 : Nat} (hk : both h A RL n c dn en) (h1 : Cl dc Mc ca h (mc v B RL n c dn2 en h)) (h2 : ∀ k, Mild h k → refOK k A RL n c dn en → Cl dm Mm ma k (mm v B RL n c dn2 en k)) (hr : ∃ RP, reps h (h.2.1 1 11) (h.2.2.1 60) RP) (hdc : dc ≤ 15 := by decide) (hdm : dm ≤ 15 := by decide) : JI h Mc ca Mm ma := by
  obtain ⟨RP, hr⟩ := hr
  have hw := hi.1
  refine ⟨v, (h1.depth hdc).post ?_⟩
  rintro o ⟨k, rfl, q1, q2, q3⟩
  refine ⟨k, rfl, ((h2 k q1 (refOK_eq hk.2 q3)).depth hdm).post ?_⟩
  rintro o2 ⟨k2, rfl, p1, p2, p3⟩
  have fm := q1.trans p1
  refine ⟨k2, rfl, ⟨fm.wf hw, ⟨B, RL, n, c, dn2, en, RP, ⟨copy_ok q2 p1.1 (by rw [cS_fr (p3 1 (by decide)) (p3 2 (by decide))]) (p1.1.2.2.2 1 10 (Or.inl (Or.inl (by unfold rQ; omega)))), p2⟩, ?_⟩, Oth_mild hi.2.2.1 fm, free_fr hi.2.2.2 fm.1 (by unfold rQ; omega)⟩, ?_, ?_, far_fr fm.1⟩
  · rw [fm.1.2.2.2 1 11 (Or.inl (Or.inl (by unfold rQ; omega)))]
    exact reps_fr hr fm.1 fm.2.1
  · rw [fm.1.2.1]
    omega
  · rw [fm.1.2.1]
    omega
theorem J_goAll {h : KH} (hi : Inv h) (v w m : Int32) : JI h 152 [.ref 0, .int v, .int w, .int m] 269 [.ref 59, .int v, .int w, .int m] := by
  have hw := hi.1
  obtain ⟨_, ⟨A, RL, n, c, dn, en, RP, hb, hr⟩, ho, hf⟩ := id hi
  rcases hq : inB v 0 3 with _ | _
  · exact JI_same (dc := 3) (dm := 4) hi (t_cga0 hw hq (Nat.le_refl _) rfl) (t_mga0 hw hq (Nat.le_refl _) rfl)
  obtain ⟨s, hs0, rfl⟩ := inB_nat (b := 3) hq
  have hs : s < 4 := by omega
  rcases hm : inB m 0 20 with _ | _
  · have nm : ¬ (0 ≤ m.toInt ∧ m.toInt ≤ 20) := of_decide_eq_false hm
    by_cases m0 : m < 0
    · exact JI_same (dc := 3) (dm := 4) hi (t_cga1 (so := 0) hw hs hq m0 (Nat.le_refl _) rfl) (t_mga1 (so := 0) hw hs hq hm (Nat.le_refl _) rfl)
    · have m1 : ¬ (m ≤ 20) := fun c => by
        have a1 := i32F (rfl : m.toInt = m.toInt) (show (0 : Int32).toInt = 0 from rfl) m0
        have a2 := i32L (rfl : m.toInt = m.toInt) (show (20 : Int32).toInt = 20 from rfl) c
        omega
      exact JI_same (dc := 3) (dm := 4) hi (t_cga2 (so := 0) hw hs hq m0 m1 (Nat.le_refl _) rfl) (t_mga1 (so := 0) hw hs hq hm (Nat.le_refl _) rfl)
  obtain ⟨N, hN, rfl⟩ := inB_nat (b := 20) hm
  have m0 : ¬ (Int32.ofNat N < 0) := nlt (by omega)
  have m1 : Int32.ofNat N ≤ 20 := (nle (b := 20) (by omega) (by omega)).mpr hN
  obtain ⟨s1, s2, s3, z, hz, s4, s5⟩ := ho.2.2.2.1 s hs
  obtain ⟨so, eso⟩ : ∃ so, h.2.2.1 38 s = so := ⟨_, rfl⟩
  have h68 := s1.symm
  have h69 := s2.symm.trans s4
  rw [eso] at h68 s3
  have sr := so_rng s3
  by_cases e1 : so = -1
  · have g : ¬ (0 ≤ so) := by rw [e1]; decide
    exact JI_same (dc := 3) (dm := 4) hi (t_cga3 hw hs eso hq m0 m1 e1 (Nat.le_refl _) rfl) (t_mga2 hw hs hq h68 hm g (Nat.le_refl _) rfl)
  have : so.toInt ≠ -1 := fun z => e1 (eqm1 z)
  have g : 0 ≤ so := (Int32.le_iff_toInt_le).mpr (show 0 ≤ so.toInt by omega)
  by_cases e2 : so = 0
  · refine JI_city (dc := 6) (dm := 7) (v := (gaR z (h.2.2.1 (41 + s)) RL n en w N 0 A dn 0).1) (B := (gaR z (h.2.2.1 (41 + s)) RL n en w N 0 A dn 0).2.1) (dn2 := (gaR z (h.2.2.1 (41 + s)) RL n en w N 0 A dn 0).2.2) hi hb ?_ (fun k fk hk => ?_) ⟨RP, hr⟩
    · refine t_cga5 hw hs eso hq m0 m1 e1 e2 (by decide) ?_
      exact s_cgL hs hN hz (by decide) N 0 A dn 0 none h (Nat.zero_add N) hw hb.1 s4 (fun _ _ => rfl) (fun H f gH => mc_i f gH)
    · have kw := fk.wf hw
      refine t_mga4 kw hs hq (by rw [fk.c (c := 68) (by omega)]; exact h68) hm g e2 (by decide) ?_
      exact s_mgL hs hN hz (by decide) N 0 A dn 0 none k (Nat.zero_add N) kw hk (by rw [fk.c (c := 69) (by omega)]; exact h69) (fun j hj => by rw [fk.1.2.1]; exact s5 j hj) (fun H f gH eH => ⟨H, rfl, mild_m f eH, gH, fun b hb => f.2.2.1 b (Or.inl (by unfold pM; omega))⟩)
  · exact JI_same (dc := 3) (dm := 4) hi (t_cga4 hw hs eso hq m0 m1 e1 e2 (Nat.le_refl _) rfl) (t_mga3 hw hs hq h68 hm g e2 (Nat.le_refl _) rfl)
