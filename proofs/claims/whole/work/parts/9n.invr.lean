/-! KM: all is kept, if the parts are: references of the working cities may change too -/
theorem inv_ofR {P : Nat → Prop} {h k : KH} (hi : Inv h) (f : Fr P rQ h k) (p : ¬ P 1 ∧ ¬ P 2 ∧ ¬ P 4 ∧ ¬ P 5 ∧ ¬ P 60 ∧ ¬ P 61) (e4 : k.2.2.1 0 4 = h.2.2.1 0 4) (e3 : k.2.2.1 59 3 = h.2.2.1 59 3) (t : ∃ T, tapeOK k T) (r : ∃ R, rowsOK k R) (s : ∀ s, s < 4 → sheetOK k s) (sh : ∀ s, s < 4 → shelfOK k s) (tr : traceOK k) : Inv k := by
  obtain ⟨hw, ⟨A, RL, n, c, dn, en, RP, hb, hr⟩, ho, hf⟩ := hi
  have kw : WF k := f.wf hw (by unfold rQ; omega)
  have c1 := city_fr hb.1 f p.1 p.2.1 (by unfold rQ; omega)
  have m1 := refOK_eq (k := k) hb.2 (f.2.2.1 60 (Or.inl p.2.2.2.2.1))
  have r1 : reps k (k.2.1 1 11) (k.2.2.1 60) RP := by
    rw [f.2.2.2 1 11 (Or.inl (Or.inl (by unfold rQ; omega)))]
    exact reps_fr hr f (fun m _ => by rw [f.2.2.1 60 (Or.inl p.2.2.2.2.1)])
  refine ⟨kw, ⟨A, RL, n, c, dn, en, RP, ⟨c1, m1⟩, r1⟩, ⟨?_, t, r, s, sh, tr⟩, free_fr hf f (by unfold rQ; omega)⟩
  have o1 := ho.1
  unfold keptOK at o1 ⊢
  rcases o1 with o1 | ⟨a1, a2, A4, RL4, n4, c4, dn4, en4, RP4, a3, a4, a5⟩
  · exact Or.inl ⟨e4.trans o1.1, e3.trans o1.2⟩
  · refine Or.inr ⟨e4.trans a1, e3.trans a2, A4, RL4, n4, c4, dn4, en4, RP4, city_fr a3 f p.2.2.1 p.2.2.2.1 (by unfold rQ; omega), ?_, ?_⟩
    · rw [f.2.2.1 61 (Or.inl p.2.2.2.2.2)]
      exact a4
    · rw [f.2.2.2 4 11 (Or.inl (Or.inl (by unfold rQ; omega))), f.2.2.1 61 (Or.inl p.2.2.2.2.2)]
      exact reps_fr a5 f (fun _ _ => rfl)
