/-! KM: both sides: prove -/
theorem ok_dig {n L p j : Nat} (hn : n ≤ 6) (hp : p < (n + 1) ^ L) (hj : j < L) : okT n (Int32.ofNat ((digsR (n + 1) L p).getD j 0) - 1) := by
  have h1 : (digsR (n + 1) L p).getD j 0 < n + 1 := digsR_lt (Nat.succ_pos n) L p hp _ (by
    rw [List.getD_eq_getElem?_getD, List.getElem?_eq_getElem (by rw [digsR_len]; exact hj)]
    exact List.getElem_mem _)
  rcases e : (digsR (n + 1) L p).getD j 0 with _ | g
  · exact Or.inl (by decide)
  · rw [e] at h1
    refine Or.inr ⟨g, by omega, ?_⟩
    exact zidx ((zs (znat (n := g + 1) (by omega)) (n := 1) rfl (by omega)).trans (by omega))
theorem J_prove {h : KH} (hi : Inv h) (v : Int32) : JI h 142 [.ref 0, .int v] 259 [.ref 59, .int v] := by
  have hw := hi.1
  obtain ⟨_, ⟨A, RL, n, c, dn, en, RP, hb, hr⟩, ho, hf⟩ := id hi
  rcases hq : inB v 0 4 with _ | _
  · exact JI_same (dc := 11) (dm := 8) hi (t_cpv0 hw hq (Nat.le_refl _) rfl) (t_mpv0 hw hq (Nat.le_refl _) rfl)
  obtain ⟨m, hm, rfl⟩ := inB_nat (b := 4) hq
  have o7 := hb.2.2.1.2.2.2.2.2.2.1
  have hn := hb.2.2.1.1
  obtain ⟨L, eL⟩ : ∃ L, min m (en - dn) = L := ⟨_, rfl⟩
  have hL : L ≤ 4 := by omega
  have hLe : dn + L ≤ en := by omega
  obtain ⟨b3, p0, hp0, ed0⟩ := PL_best RL c n 0 (L := L) hL A
  refine ⟨Int32.ofNat L, t_cpv1 hw hb.1 hm hq (by decide) (fun k f g => ?_)⟩
  rw [eL] at g ⊢
  have kw : WF k := f.wf hw (by unfold pE; omega)
  have ck := city_fr hb.1 f (by unfold pE; omega) (by unfold pE; omega) (by unfold pE; omega)
  have f0 : Fr (fun c => c = 0) noP k (kwi k 0 7 (Int32.ofNat L)) := fr_kwi rfl (by decide)
  have ck0 := city_fr ck f0 (by omega) (by omega) (fun z => z)
  have g5 : firstR (k.2.2.1 13) (digsR (n + 1) L p0) := by
    rw [← ed0]
    exact g.2.2.2.2.1
  refine t_cpv2 (h := kwi k 0 7 (Int32.ofNat L)) (WF_i kw) (by decide) (fun k2 f2 e1 e2 e3 => ?_)
  have k2w : WF k2 := f2.wf (WF_i kw) (by decide)
  have ok0 : ∀ j, j < L → okT n (Int32.ofNat ((digsR (n + 1) L p0).getD j 0) - 1) := fun j hj => ok_dig hn hp0 hj
  have i13 : k2.2.2.1 13 = k.2.2.1 13 := by
    rw [f2.2.2.1 13 (Or.inl (by unfold pC; omega))]
    exact kwi_r (by decide)
  have i0 : k2.2.2.1 0 = (kwi k 0 7 (Int32.ofNat L)).2.2.1 0 := f2.2.2.1 0 (Or.inl (by unfold pC; omega))
  refine s_cpvL hL hLe ok0 (by decide) L 0 k2 none (Nat.zero_add L) k2w (by rw [i0]; exact kwi_s) (fun j hj => by rw [i13]; exact g5 j (by rw [digsR_len]; exact hj)) (copy_ok ck0 f2 e1 e2) (fun H fH a1 a2 => ?_)
  have fA : Fr (fun c => c = 0 ∨ (7 ≤ c ∧ c ≤ 28) ∨ (34 ≤ c ∧ c ≤ 37)) rQ h H := ((f.mono (P2 := fun c => c = 0 ∨ (7 ≤ c ∧ c ≤ 28) ∨ (34 ≤ c ∧ c ≤ 37)) (R2 := rQ) (fun c z => by unfold pE at z; omega) (fun c z => by unfold pE at z; unfold rQ; omega)).trans (f0.mono (fun c z => Or.inl z) (fun c z => absurd z (fun y => y)))).trans ((f2.mono (fun c z => by unfold pC at z; omega) (fun c z => by unfold rQ; omega)).trans (fH.mono (fun c z => by unfold pC at z; omega) (fun c z => absurd z (fun y => y))))
  have Hw : WF H := fA.wf hw (by unfold rQ; omega)
  have H0 : H.2.2.1 0 = (kwi k 0 7 (Int32.ofNat L)).2.2.1 0 := (fH.2.2.1 0 (Or.inl (by unfold pC; omega))).trans i0
  have h0 : k.2.2.1 0 = h.2.2.1 0 := f.2.2.1 0 (Or.inl (by unfold pE; omega))
  have mk := refOK_eq (k := H) hb.2 (fA.2.2.1 60 (Or.inl (by omega)))
  refine ⟨H, rfl, t_mpv1 Hw mk hm hq (by decide) (fun k3 f3 e60 e59 eB => ?_)⟩
  rw [eL] at eB ⊢
  obtain ⟨b1, b2⟩ := eB
  obtain ⟨b5, b6, p, hp, b8, b9⟩ := b2.resolve_left (fun z => by rw [z] at b3; exact absurd b3 (by decide))
  have edd : digsR (n + 1) L p0 = digsR (n + 1) L p := ed0.symm.trans b9
  rw [edd] at a1
  have ok1 : ∀ j, j < L → okT n (Int32.ofNat ((digsR (n + 1) L p).getD j 0) - 1) := fun j hj => ok_dig hn hp hj
  have k3w : WF k3 := f3.wf Hw (fun z => z)
  have mk3 := refOK_eq (k := k3) mk e60
  refine t_mpv2 k3w mk3 (by decide) (fun k4 f4 g4 => ?_)
  have k4w : WF k4 := f4.wf k3w (fun z => z)
  have i59 : k4.2.2.1 59 = k3.2.2.1 59 := f4.2.2.1 59 (Or.inl (by decide))
  refine s_mpvL hL hLe hp (mk3.2.1.2.1) ok1 (by decide) L 0 k4 (Nat.zero_add L) k4w (by rw [i59]; exact b8) g4 (fun Z fZ c1 c2 c3 c4 c5 => ?_)
  have fB : Fr (fun c => c = 59 ∨ c = 60 ∨ c = 62 ∨ c = 64 ∨ c = 67) noP H Z := (f3.mono (P2 := fun c => c = 59 ∨ c = 60 ∨ c = 62 ∨ c = 64 ∨ c = 67) (R2 := noP) (fun c z => by unfold pF at z; omega) (fun _ z => z)).trans ((f4.mono (fun c z => by omega) (fun _ z => z)).trans (fZ.mono (fun c z => by unfold pM at z; omega) (fun _ z => z)))
  have e60h : Z.2.2.1 60 = h.2.2.1 60 := c1.trans (e60.trans (fA.2.2.1 60 (Or.inl (by omega))))
  have fAB : Fr (fun c => c = 0 ∨ (7 ≤ c ∧ c ≤ 28) ∨ (34 ≤ c ∧ c ≤ 37) ∨ c = 59 ∨ c = 60 ∨ c = 62 ∨ c = 64 ∨ c = 67) rQ h Z := (fA.mono (fun c z => by omega) (fun _ z => z)).trans (fB.mono (fun c z => by omega) (fun _ z => absurd z (fun y => y)))
  have F : Fr (fun c => c = 0 ∨ (7 ≤ c ∧ c ≤ 28) ∨ (34 ≤ c ∧ c ≤ 37) ∨ c = 59 ∨ c = 62 ∨ c = 64 ∨ c = 67) rQ h Z := ⟨fAB.1, fAB.2.1, fun c hc => by
    by_cases e : c = 60
    · rw [e]; exact e60h
    · exact fAB.2.2.1 c (by omega), fAB.2.2.2⟩
  have z59 : ∀ q, q < 14 ∨ (17 < q ∧ q ≠ 20) → Z.2.2.1 59 q = h.2.2.1 59 q := fun q hq => by
    rw [c3 q (by omega), i59, e59 q (by omega), fA.2.2.1 59 (Or.inl (by omega))]
  have z0 : Z.2.2.1 0 = ku (h.2.2.1 0) 7 (Int32.ofNat L) := by
    rw [fB.2.2.1 0 (Or.inl (by omega)), H0, ← h0]
    exact ku_s k.2.2.1 0 (ku (k.2.2.1 0) 7 (Int32.ofNat L))
  obtain ⟨R, hR, h7, h20, hrw⟩ := ho.2.2.1
  refine ⟨Z, rfl, inv_ofR hi F (by omega) (by rw [z0]; exact ku_n _ _ (by decide)) (z59 3 (by omega)) ?_ ⟨L, hL, by rw [z0]; exact ku_s _ _ _, c2, fun q w hq hw3 => ?_⟩ (fun t ht => ?_) (fun t ht => ?_) ?_, ?_, ?_, far_fr F⟩
  · obtain ⟨T, hT⟩ := ho.2.1
    exact ⟨T, tape_fr hT F (by omega) (z59 5 (by omega))⟩
  · rw [fB.2.2.1 (34 + q) (Or.inl (by omega))]
    by_cases hqL : q < L
    · obtain ⟨x1, x2, x3⟩ := a1 q (Nat.zero_le q) hqL
      obtain ⟨y1, y2, y3⟩ := c4 q (Nat.zero_le q) hqL
      have w3 : w = 0 ∨ w = 1 ∨ w = 2 := by omega
      rcases w3 with rfl | rfl | rfl
      · exact x1.trans y1.symm
      · exact x2.trans y2.symm
      · exact x3.trans y3.symm
    · rw [a2 q (by omega), c5 (3 * q + w) (by omega), f4.2.2.1 67 (Or.inl (by decide)), f3.2.2.1 67 (Or.inl (by unfold pF; omega)), fA.2.2.1 67 (Or.inl (by omega)), f2.2.2.1 (34 + q) (Or.inl (by unfold pC; omega)), kwi_r (by omega), f.2.2.1 (34 + q) (Or.inl (by unfold pE; omega))]
      exact hrw q w hq hw3
  · exact sheet_fr ht (ho.2.2.2.1 t ht) F (by omega)
  · exact shelf_fr (ho.2.2.2.2.1 t ht) F (by omega)
  · exact trace_fr ho.2.2.2.2.2 F (by omega) (z59 29 (by omega))
  · rw [F.2.1]
    exact Nat.le_add_right _ _
  · rw [F.2.1]
    exact Nat.le_add_right _ _
