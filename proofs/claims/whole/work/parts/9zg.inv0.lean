/-! KM: all holds at the start; the whole claim -/
theorem inv0 {H : KH} (hw : WF H) (i1 : H.2.2.1 1 = ku (ku (fun _ => 0) 6 12) 9 1) (i2 : H.2.2.1 2 = fun _ => 0) (i60 : H.2.2.1 60 = ku (ku (fun _ => 0) 0 12) 7 1) (r10 : H.2.1 1 10 = none) (r11 : H.2.1 1 11 = none) (r4 : H.2.1 4 10 = none) (r15 : H.2.1 0 15 = none) (z04 : H.2.2.1 0 4 = 0) (z07 : H.2.2.1 0 7 = 0) (z3 : H.2.2.1 59 3 = 0) (z5 : H.2.2.1 59 5 = 0) (z20 : H.2.2.1 59 20 = 0) (z29 : H.2.2.1 59 29 = 0) (t29 : H.2.2.1 29 1 = 0) (z34 : ∀ k, k < 4 → H.2.2.1 (34 + k) = fun _ => 0) (z67 : H.2.2.1 67 = fun _ => 0) (z38 : ∀ s, s < 4 → H.2.2.1 38 s = -1 ∧ H.2.2.1 68 s = -1 ∧ H.2.2.1 39 s = 0 ∧ H.2.2.1 69 s = 0 ∧ H.2.2.1 45 s = 2 ∧ H.2.2.1 71 s = 2) : Inv H := by
  have ag : agr (cS H.2.2.1 1) (H.2.2.1 60) := by
    intro m hm
    by_cases h11 : 11 ≤ m
    · obtain ⟨j, rfl⟩ : ∃ j, m = 11 + j := ⟨m - 11, by omega⟩
      rw [cS_hand, i2, i60, ku_n _ _ (by omega), ku_n _ _ (by omega)]
    · have h9 : m = 0 ∨ m = 1 ∨ m = 2 ∨ m = 3 ∨ m = 4 ∨ m = 5 ∨ m = 6 ∨ m = 7 ∨ m = 8 := by omega
      rcases h9 with rfl | rfl | rfl | rfl | rfl | rfl | rfl | rfl | rfl
      · exact (congrFun i1 6).trans (congrFun i60 0).symm
      · exact (congrFun i1 7).trans (congrFun i60 1).symm
      · exact (congrFun i1 2).trans (congrFun i60 2).symm
      · exact (congrFun i1 3).trans (congrFun i60 3).symm
      · exact (congrFun i1 4).trans (congrFun i60 4).symm
      · exact (congrFun i1 5).trans (congrFun i60 5).symm
      · exact (congrFun i1 8).trans (congrFun i60 6).symm
      · exact (congrFun i1 9).trans (congrFun i60 7).symm
      · exact (congrFun i1 1).trans (congrFun i60 8).symm
  have ok : okS (cS H.2.2.1 1) 0 0 0 12 := ⟨by decide, congrFun i1 1, by decide, congrFun i1 2, congrFun i1 7, congrFun i1 6, by decide, by decide, by decide, fun j hj => absurd hj (Nat.not_lt_zero j)⟩
  refine ⟨hw, ⟨nrm (cS H.2.2.1 1), [], 0, 0, 0, 12, [], ⟨⟨rfl, ok, [], Or.inl ⟨r10, rfl⟩, fun _ _ => rfl, rfl⟩, (agr_nrm ag).symm, okS_agr ag ok, congrFun i60 10, by decide, trivial⟩, r11, congrFun i60 9, by decide, trivial⟩, ⟨Or.inl ⟨z04, z3⟩, ⟨[], by decide, (fun b hb => by cases hb), t29, z5, fun i hi => absurd hi (Nat.not_lt_zero i)⟩, ⟨0, by decide, z07, z20, fun k w hk _ => ?_⟩, fun s hs => ?_, fun s hs => ?_, Or.inl ⟨r15, z29⟩⟩, fun a ha o e => ?_⟩
  · rw [z34 k hk, z67]
  · obtain ⟨a1, a2, a3, a4, a5, a6⟩ := z38 s hs
    exact ⟨a1.trans a2.symm, a3.trans a4.symm, by rw [a1]; decide, 0, by decide, a3, fun i hi => absurd hi (Nat.not_lt_zero i)⟩
  · obtain ⟨a1, a2, a3, a4, a5, a6⟩ := z38 s hs
    exact ⟨a5.trans a6.symm, Or.inl a5⟩
  · rcases ha with rfl | rfl
    · rw [r10] at e
      cases e
    · rw [r4] at e
      cases e
/-- all types, from a on -/
def tyL (H : KH) : Nat → List (Nat × Nat) → Prop
  | _, [] => True
  | a, t :: r => H.1 a = t ∧ tyL H (a + 1) r
theorem tyL_get {H : KH} : ∀ (l : List (Nat × Nat)) (a : Nat), tyL H a l → ∀ j, j < l.length → H.1 (a + j) = l.getD j (99, 0)
  | [], _, _, j, hj => absurd hj (Nat.not_lt_zero j)
  | t :: r, a, h, 0, _ => h.1
  | t :: r, a, h, j + 1, hj => by
    have := tyL_get r (a + 1) h.2 j (Nat.lt_of_succ_lt_succ hj)
    rw [show a + (j + 1) = a + 1 + j by omega]
    exact this
def rfL (H : KH) : List (Nat × Nat × Nat) → Prop
  | [] => True
  | q :: r => H.2.1 q.1 q.2.1 = some q.2.2 ∧ rfL H r
theorem rfL_get {H : KH} : ∀ (l : List (Nat × Nat × Nat)), rfL H l → ∀ q ∈ l, H.2.1 q.1 q.2.1 = some q.2.2
  | [], _, q, hq => by cases hq
  | t :: r, h, q, hq => by
    rcases List.mem_cons.mp hq with rfl | hq
    · exact h.1
    · exact rfL_get r h.2 q hq
