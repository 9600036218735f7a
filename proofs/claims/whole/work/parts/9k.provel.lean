/-! KM: the class: prove, its loop -/
def apA (RL : List Rul) (ds : List Nat) (A : Nat → Int32) : Nat → Nat → Int32
  | 0 => A
  | j + 1 => goA RL (apA RL ds A j) (Int32.ofNat (ds.getD j 0) - 1)
theorem s_cpvL {d : Nat} {Q : KO → Prop} {RL : List Rul} {ds : List Nat} {A : Nat → Int32} {v : Int32} {L n c dn en : Nat} (hL : L ≤ 4) (hLe : dn + L ≤ en) (hok : ∀ j, j < L → okT n (Int32.ofNat (ds.getD j 0) - 1)) (hd : 5 ≤ d) : ∀ (m i : Nat) (h : KH) (z : Option Value), i + m = L → WF h → h.2.2.1 0 7 = Int32.ofNat L → (∀ j, j < L → h.2.2.1 13 j = Int32.ofNat (ds.getD j 0)) → cityOK h 7 (apA RL ds A i) RL n c (dn + i) en → (∀ H, Fr (fun c => pC 7 c ∨ (34 ≤ c ∧ c ≤ 37)) noP h H → (∀ j, i ≤ j → j < L → H.2.2.1 (34 + j) 0 = Int32.ofNat (ds.getD j 0) ∧ H.2.2.1 (34 + j) 1 = wA RL (apA RL ds A j) (Int32.ofNat (ds.getD j 0) - 1) ∧ H.2.2.1 (34 + j) 2 = shA c (apA RL ds A (j + 1))) → (∀ j, (j < i ∨ L ≤ j) → H.2.2.1 (34 + j) = h.2.2.1 (34 + j)) → Q (some (.int (Int32.ofNat L)), H)) → Wp d 142 46 [some (.ref 0), some (.int v), some (.int (Int32.ofNat i)), z] [] h Q := by
  intro m
  induction m with
  | zero =>
    intro i h z e hw h7 h13 hk hQ
    exact t_cpv3 hw h7 ((nle (by omega) (by omega)).mpr (by omega)) hd (hQ h (Fr.refl h) (fun j h1 h2 => by omega) (fun _ _ => rfl))
  | succ m ih =>
    intro i h z e hw h7 h13 hk hQ
    refine t_cpv4 hw h7 (fun c => absurd ((nle (by omega) (by omega)).mp c) (by omega)) (fun c => absurd ((nle (by omega) (by omega)).mp c) (by omega)) (by omega) (h13 i (by omega)) hk (by omega) (hok i (by omega)) hd (fun k f g => ?_)
    rw [show Int32.ofNat i + (1 : Int32) = Int32.ofNat (i + 1) from (Int32.ofNat_add i 1).symm]
    have f0 : Fr (fun c => pC 7 c ∨ (34 ≤ c ∧ c ≤ 37)) noP h (kwi h (34 + i) 0 (Int32.ofNat (ds.getD i 0))) := fr_kwi (Or.inr (by omega)) (by omega)
    have f1 : Fr (fun c => pC 7 c ∨ (34 ≤ c ∧ c ≤ 37)) noP (kwi h (34 + i) 0 (Int32.ofNat (ds.getD i 0))) k := f.mono (fun c z => Or.inl z) (fun _ z => z)
    obtain ⟨W, eW⟩ : ∃ W, wA RL (apA RL ds A i) (Int32.ofNat (ds.getD i 0) - 1) = W := ⟨_, rfl⟩
    obtain ⟨S, eS⟩ : ∃ S, shA c (goA RL (apA RL ds A i) (Int32.ofNat (ds.getD i 0) - 1)) = S := ⟨_, rfl⟩
    rw [eW, eS]
    have f2 : Fr (fun c => pC 7 c ∨ (34 ≤ c ∧ c ≤ 37)) noP k (kwi k (34 + i) 1 W) := fr_kwi (Or.inr (by omega)) (by omega)
    have f3 : Fr (fun c => pC 7 c ∨ (34 ≤ c ∧ c ≤ 37)) noP (kwi k (34 + i) 1 W) (kwi (kwi k (34 + i) 1 W) (34 + i) 2 S) := fr_kwi (Or.inr (by omega)) (by omega)
    have fk := f0.trans f1
    have ff := fk.trans (f2.trans f3)
    have r0 : k.2.2.1 (34 + i) 0 = Int32.ofNat (ds.getD i 0) := by
      rw [f.2.2.1 (34 + i) (Or.inl (by unfold pC; omega))]
      exact kwi_s
    have ro : ∀ j, j ≠ i → (kwi (kwi k (34 + i) 1 W) (34 + i) 2 S).2.2.1 (34 + j) = h.2.2.1 (34 + j) := fun j hj => by
      by_cases hb : 34 + j < 75
      · rw [kwi_r (by omega), kwi_r (by omega), f.2.2.1 (34 + j) (Or.inl (by unfold pC; omega)), kwi_r (by omega)]
      · exact ff.2.2.1 _ (Or.inr (by omega))
    refine ih (i + 1) _ _ (by omega) (ff.wf hw (fun z => z)) (by rw [ff.2.2.1 0 (Or.inl (by unfold pC; omega))]; exact h7) (fun j hj => by rw [ff.2.2.1 13 (Or.inl (by unfold pC; omega))]; exact h13 j hj) ?_ (fun H fH a1 a2 => ?_)
    · have g2 := city_fr g ((fr_kwi (P := fun c => c = 34 + i) (R := noP) (j := 1) (x := W) rfl (by omega)).trans (fr_kwi (P := fun c => c = 34 + i) (R := noP) (j := 2) (x := S) rfl (by omega))) (by omega) (by omega) (fun z => z)
      exact g2
    · refine hQ H (ff.trans fH) (fun j h1 h2 => ?_) (fun j hj => ?_)
      · by_cases ej : j = i
        · subst ej
          rw [a2 j (Or.inl (by omega))]
          refine ⟨?_, ?_, ?_⟩
          · rw [kwi_o (by decide), kwi_o (by decide)]
            exact r0
          · rw [kwi_o (by decide), kwi_s, eW]
          · rw [kwi_s]
            exact eS.symm
        · exact a1 j (by omega) h2
      · rw [a2 j (by omega), ro j (by omega)]
