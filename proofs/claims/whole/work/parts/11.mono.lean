/-! KM: the counts never fall; stacks and arguments -/
def kle (h h1 : KH) : Prop := h.2.2.2.2.1 ≤ h1.2.2.2.2.1 ∧ h.2.2.2.2.2 ≤ h1.2.2.2.2.2
theorem kle.rf (h : KH) : kle h h := ⟨Nat.le_refl _, Nat.le_refl _⟩
theorem kle.tr {a b c : KH} (h1 : kle a b) (h2 : kle b c) : kle a c := ⟨Nat.le_trans h1.1 h2.1, Nat.le_trans h1.2 h2.2⟩
theorem kle_eq {h h1 : KH} (e : h1.2.2.2.2 = h.2.2.2.2) : kle h h1 := ⟨by rw [e]; exact Nat.le_refl _, by rw [e]; exact Nat.le_refl _⟩
theorem kgetf_h {k : Nat} {ts : List (Nat × Nat)} {st st1 : List Value} {h h1 : KH} (hh : kgetf k ts st h = some (st1, h1)) : h1 = h := by
  unfold kgetf at hh
  split at hh
  · split at hh <;> first | (cases hh; rfl) | cases hh
  · cases hh
theorem kputf_h {k : Nat} {ts : List (Nat × Nat)} {st st1 : List Value} {h h1 : KH} (hh : kputf k ts st h = some (st1, h1)) : h1.2.2.2.2 = h.2.2.2.2 := by
  unfold kputf at hh
  split at hh
  · split at hh
    · cases hh; rfl
    · rename_i x a r _ _
      cases hb : (decide (x = 0) || decide (x = 1)) with
      | false => rw [hb] at hh; cases hh
      | true => rw [hb] at hh; cases hh; rfl
    · cases hh
  · split at hh <;> first | (cases hh; rfl) | cases hh
  · split at hh <;> first | (cases hh; rfl) | cases hh
  · cases hh
theorem kcond {α : Type} {b : Bool} {x : α} {o : Option α} (h : cond b o none = some x) : b = true ∧ o = some x := by
  cases b with
  | true => exact ⟨rfl, h⟩
  | false => cases h
theorem kald_h {ks : List Nat} {st st1 : List Value} {h h1 : KH} (hh : kald ks st h = some (st1, h1)) : h1 = h := by
  unfold kald at hh
  split at hh
  · cases (kcond hh).2; rfl
  · cases hh
theorem kaldl_h {st st1 : List Value} {h h1 : KH} (hh : kaldl st h = some (st1, h1)) : h1 = h := by
  unfold kaldl at hh
  split at hh
  · cases (kcond hh).2; rfl
  · cases hh
theorem kaldr_h {st st1 : List Value} {h h1 : KH} (hh : kaldr st h = some (st1, h1)) : h1 = h := by
  unfold kaldr at hh
  split at hh
  · cases (kcond hh).2; rfl
  · cases hh
theorem kalen_h {st st1 : List Value} {h h1 : KH} (hh : kalen st h = some (st1, h1)) : h1 = h := by
  unfold kalen at hh
  split at hh
  · cases (kcond hh).2; rfl
  · cases hh
theorem kasti_h {st st1 : List Value} {h h1 : KH} (hh : kasti st h = some (st1, h1)) : h1.2.2.2.2 = h.2.2.2.2 := by
  unfold kasti at hh
  split at hh
  · cases (kcond hh).2; rfl
  · cases hh
theorem kastb_h {st st1 : List Value} {h h1 : KH} (hh : kastb st h = some (st1, h1)) : h1.2.2.2.2 = h.2.2.2.2 := by
  unfold kastb at hh
  split at hh
  · rename_i x i a r
    have h2 := (kcond hh).2
    cases hb : Nat.beq (h.1 a).1 21 with
    | true => rw [hb] at h2; cases h2; rfl
    | false =>
      rw [hb] at h2
      cases (kcond h2).2
      rfl
  · cases hh
theorem kastl_h {st st1 : List Value} {h h1 : KH} (hh : kastl st h = some (st1, h1)) : h1.2.2.2.2 = h.2.2.2.2 := by
  unfold kastl at hh
  split at hh
  · cases (kcond hh).2; rfl
  · cases hh
theorem kastr_h {st st1 : List Value} {h h1 : KH} (hh : kastr st h = some (st1, h1)) : h1.2.2.2.2 = h.2.2.2.2 := by
  unfold kastr at hh
  split at hh
  · cases (kcond hh).2; rfl
  · cases hh
theorem kmake_le (h : KH) (kind len sl : Nat) : kle h (kmake h kind len sl) := ⟨Nat.le_succ _, Nat.le_add_right _ _⟩
theorem knew_h {kind n : Nat} {st st1 : List Value} {h h1 : KH} (hh : knew kind n st h = some (st1, h1)) : kle h h1 := by
  unfold knew at hh
  cases (kcond hh).2
  exact kmake_le _ _ _ _
theorem knewa_h {kind : Nat} {st st1 : List Value} {h h1 : KH} (hh : knewa kind st h = some (st1, h1)) : kle h h1 := by
  unfold knewa at hh
  split at hh
  · cases (kcond hh).2
    exact kmake_le _ _ _ _
  · cases hh
theorem kmna_h {st st1 : List Value} {h h1 : KH} (hh : kmna st h = some (st1, h1)) : kle h h1 := by
  unfold kmna at hh
  split at hh
  · cases (kcond hh).2
    exact ⟨by simp only [kmakem]; omega, by simp only [kmakem]; omega⟩
  · cases hh
theorem kdiv_h {i : Instr} (hi : i = .idiv ∨ i = .irem) {tg : Nat} {ts : List (Nat × Nat)} {st st1 : List Value} {h h1 : KH} (hh : kheap i tg ts st h = some (st1, h1)) : h1 = h := by
  rcases hi with rfl | rfl
  · simp only [kheap] at hh
    split at hh
    · rename_i y x r
      by_cases hy : y = 0
      · simp [hy] at hh
      · simp only [hy, decide_false, cond_false] at hh
        cases hh
        rfl
    · cases hh
  · simp only [kheap] at hh
    split at hh
    · rename_i y x r
      by_cases hy : y = 0
      · simp [hy] at hh
      · simp only [hy, decide_false, cond_false] at hh
        cases hh
        rfl
    · cases hh
theorem kheap_le {i : Instr} {tg : Nat} {ts : List (Nat × Nat)} {st st1 : List Value} {h h1 : KH} (hh : kheap i tg ts st h = some (st1, h1)) : kle h h1 := by
  cases i with
  | getfield k => rw [kgetf_h hh]; exact kle.rf _
  | putfield k => exact kle_eq (kputf_h hh)
  | iaload => rw [kald_h hh]; exact kle.rf _
  | baload => rw [kald_h hh]; exact kle.rf _
  | laload => rw [kaldl_h hh]; exact kle.rf _
  | aaload => rw [kaldr_h hh]; exact kle.rf _
  | iastore => exact kle_eq (kasti_h hh)
  | bastore => exact kle_eq (kastb_h hh)
  | lastore => exact kle_eq (kastl_h hh)
  | aastore => exact kle_eq (kastr_h hh)
  | arraylength => rw [kalen_h hh]; exact kle.rf _
  | idiv => rw [kdiv_h (Or.inl rfl) hh]; exact kle.rf _
  | irem => rw [kdiv_h (Or.inr rfl) hh]; exact kle.rf _
  | new k =>
    simp only [kheap] at hh
    split at hh
    · exact knew_h hh
    · cases hh
  | newarray t => exact knewa_h hh
  | anewarray k => exact knewa_h hh
  | multianewarray a b => exact kmna_h hh
  | _ => cases hh
theorem kcopy_h {st r : List Value} {h h1 : KH} (hh : kcopy st h = some (r, h1)) : h1.2.2.2.2 = h.2.2.2.2 := by
  unfold kcopy at hh
  split at hh
  · cases (kcond hh).2; rfl
  · cases hh
theorem ktake_inv : ∀ {n : Nat} {st as r : List Value}, ktake n st = some (as, r) → st = as.reverse ++ r ∧ as.length = n
  | 0, st, as, r, h => by
    cases h
    exact ⟨rfl, rfl⟩
  | n + 1, [], as, r, h => by cases h
  | n + 1, v :: st, as, r, h => by
    simp only [ktake] at h
    cases hk : ktake n st with
    | none => rw [hk] at h; cases h
    | some q =>
      obtain ⟨as2, r2⟩ := q
      rw [hk] at h
      cases h
      obtain ⟨e1, e2⟩ := ktake_inv hk
      refine ⟨by rw [e1]; simp, by simp [e2]⟩
theorem kcats_sum (ro : Nat → Nat) : ∀ r : List Value, ((r.map (kcv ro)).map fun v => v.category).sum = kcats r
  | [] => rfl
  | v :: r => by
    have ih := kcats_sum ro r
    cases v <;> simp only [List.map_cons, List.sum_cons, ih, kcv, kcats] <;> rfl
theorem kgen_inv {cont : Nat → KL → List Value → KH → Option KO} {i : Instr} {nx tg : Nat} {w : Value} {ts : List (Nat × Nat)} {ls : KL} {st : List Value} {h : KH} {o : KO} (hq : kgen cont i nx tg w ts ls st h = some o) :
    (∃ ls1 st1, kpure i w ls st = some (ls1, st1) ∧ cont nx ls1 st1 h = some o) ∨ (∃ pc1 st1, kbr i nx tg ts st = some (pc1, st1) ∧ cont pc1 ls st1 h = some o) ∨ (∃ st1 h1, kheap i tg ts st h = some (st1, h1) ∧ cont nx ls st1 h1 = some o) := by
  unfold kgen at hq
  cases h1 : kpure i w ls st with
  | some q => obtain ⟨a, b⟩ := q; rw [h1] at hq; exact Or.inl ⟨a, b, rfl, hq⟩
  | none =>
    rw [h1] at hq
    cases h2 : kbr i nx tg ts st with
    | some q => obtain ⟨a, b⟩ := q; rw [h2] at hq; exact Or.inr (Or.inl ⟨a, b, rfl, hq⟩)
    | none =>
      rw [h2] at hq
      cases h3 : kheap i tg ts st h with
      | some q => obtain ⟨a, b⟩ := q; rw [h3] at hq; exact Or.inr (Or.inr ⟨a, b, rfl, hq⟩)
      | none => rw [h3] at hq; cases hq
theorem kinvk_inv {callf : Nat → List Value → KH → Option KO} {cont : Nat → KL → List Value → KH → Option KO} {nx tg : Nat} {w : Value} {ts : List (Nat × Nat)} {d : Nat} {ls : KL} {st : List Value} {h : KH} {o : KO} (hq : kinvk callf cont nx tg w ts d ls st h = some o) :
    (∃ k, w = .retAddr k) ∧ 0 < d ∧
      ((∃ z r h1, ts = [(98, z)] ∧ kcopy st h = some (r, h1) ∧ kcats r ≤ 8 ∧ cont nx ls r h1 = some o) ∨ (∃ z a r, ts = [(97, z)] ∧ st = .ref a :: r ∧ kcats r ≤ 8 ∧ cont nx ls r h = some o) ∨
       (∃ z n k r, ts = [(96, z)] ∧ st = .int n :: .int k :: r ∧ kcats r ≤ 8 ∧ 2 < d ∧ ¬ k < 0 ∧ k < n ∧ cont nx ls r h = some o) ∨
       (∃ z y x r, ts = [(94, z)] ∧ st = .int y :: .int x :: r ∧ kcats r ≤ 8 ∧ cont nx ls (.int (kmm z x y) :: r) h = some o) ∨
       (∃ as r M, ((∀ z, ts ≠ [(98, z)]) ∧ (∀ z, ts ≠ [(97, z)]) ∧ (∀ z, ts ≠ [(96, z)]) ∧ (∀ z, ts ≠ [(94, z)])) ∧ ktake tg st = some (as, r) ∧ kpick ts as h = some M ∧ kcats r ≤ 8 ∧ ((∃ v h1, callf M as h = some (some v, h1) ∧ cont nx ls (v :: r) h1 = some o) ∨ (∃ h1, callf M as h = some (none, h1) ∧ cont nx ls r h1 = some o)))) := by
  unfold kinvk at hq
  split at hq
  · rename_i k
    obtain ⟨hd, hq⟩ := kcond hq
    rw [Nat.blt_eq] at hd
    refine ⟨⟨k, rfl⟩, hd, ?_⟩
    split at hq
    · rename_i z
      split at hq
      · rename_i r h1 hc
        obtain ⟨h8, hq⟩ := kcond hq
        exact Or.inl ⟨_, r, h1, rfl, hc, Nat.le_of_ble_eq_true h8, hq⟩
      · cases hq
    · rename_i z
      split at hq
      · rename_i a r
        obtain ⟨h8, hq⟩ := kcond hq
        exact Or.inr (Or.inl ⟨_, a, r, rfl, rfl, Nat.le_of_ble_eq_true h8, hq⟩)
      · cases hq
    · split at hq
      · obtain ⟨h8, hq⟩ := kcond hq
        obtain ⟨h9, hq⟩ := kcond hq
        simp only [Bool.and_eq_true, decide_eq_true_eq] at h9
        obtain ⟨⟨h10, h11⟩, h12⟩ := h9
        rw [Nat.blt_eq] at h10
        exact Or.inr (Or.inr (Or.inl ⟨_, _, _, _, rfl, rfl, Nat.le_of_ble_eq_true h8, h10, h11, h12, hq⟩))
      · cases hq
    · split at hq
      · obtain ⟨h8, hq⟩ := kcond hq
        exact Or.inr (Or.inr (Or.inr (Or.inl ⟨_, _, _, _, rfl, rfl, Nat.le_of_ble_eq_true h8, hq⟩)))
      · cases hq
    · split at hq
      · rename_i as r hk
        split at hq
        · rename_i M hp
          obtain ⟨h8, hq⟩ := kcond hq
          refine Or.inr (Or.inr (Or.inr (Or.inr ⟨as, r, M, ⟨fun z q => ‹∀ (snd : Nat), ts = [(98, snd)] → False› z q, fun z q => ‹∀ (snd : Nat), ts = [(97, snd)] → False› z q, fun z q => ‹∀ (snd : Nat), ts = [(96, snd)] → False› z q, fun z q => ‹∀ (z : Nat), ts = [(94, z)] → False› z q⟩, hk, hp, Nat.le_of_ble_eq_true h8, ?_⟩)))
          split at hq
          · rename_i v h1 hc
            exact Or.inl ⟨v, h1, hc, hq⟩
          · rename_i h1 hc
            exact Or.inr ⟨h1, hc, hq⟩
          · cases hq
        · cases hq
      · cases hq
  · cases hq
/-- what a run does first, case by case -/
theorem kstep_inv {callf : Nat → List Value → KH → Option KO} {cont : Nat → KL → List Value → KH → Option KO} {rt : Nat} {i : Instr} {nx tg : Nat} {w : Value} {ts : List (Nat × Nat)} {d : Nat} {ls : KL} {st : List Value} {h : KH} {o : KO}
    (hs : kstep callf cont rt (i, nx, tg, w, ts) d ls st h = some o) :
    (i = .ireturn ∧ ∃ v, st = [.int v] ∧ kretok rt v = true ∧ o = (some (.int v), h)) ∨ (i = .return_ ∧ st = [] ∧ rt = 9 ∧ o = (none, h)) ∨ ((∃ k, i = .getstatic k) ∧ cont nx ls (w :: st) h = some o) ∨
    (((∃ k, i = .invokestatic k) ∨ (∃ k, i = .invokevirtual k) ∨ (∃ k, i = .invokespecial k)) ∧ (∃ k, w = .retAddr k) ∧ 0 < d ∧
      ((∃ z r h1, ts = [(98, z)] ∧ kcopy st h = some (r, h1) ∧ kcats r ≤ 8 ∧ cont nx ls r h1 = some o) ∨ (∃ z a r, ts = [(97, z)] ∧ st = .ref a :: r ∧ kcats r ≤ 8 ∧ cont nx ls r h = some o) ∨
       (∃ z n k r, ts = [(96, z)] ∧ st = .int n :: .int k :: r ∧ kcats r ≤ 8 ∧ 2 < d ∧ ¬ k < 0 ∧ k < n ∧ cont nx ls r h = some o) ∨
       (∃ z y x r, ts = [(94, z)] ∧ st = .int y :: .int x :: r ∧ kcats r ≤ 8 ∧ cont nx ls (.int (kmm z x y) :: r) h = some o) ∨
       (∃ as r M, ((∀ z, ts ≠ [(98, z)]) ∧ (∀ z, ts ≠ [(97, z)]) ∧ (∀ z, ts ≠ [(96, z)]) ∧ (∀ z, ts ≠ [(94, z)])) ∧ ktake tg st = some (as, r) ∧ kpick ts as h = some M ∧ kcats r ≤ 8 ∧ ((∃ v h1, callf M as h = some (some v, h1) ∧ cont nx ls (v :: r) h1 = some o) ∨ (∃ h1, callf M as h = some (none, h1) ∧ cont nx ls r h1 = some o))))) ∨
    ((∃ ls1 st1, kpure i w ls st = some (ls1, st1) ∧ cont nx ls1 st1 h = some o) ∨ (∃ pc1 st1, kbr i nx tg ts st = some (pc1, st1) ∧ cont pc1 ls st1 h = some o) ∨ (∃ st1 h1, kheap i tg ts st h = some (st1, h1) ∧ cont nx ls st1 h1 = some o)) := by
  cases i with
  | ireturn =>
    simp only [kstep] at hs
    split at hs
    · rename_i v
      obtain ⟨h1, h2⟩ := kcond hs
      cases h2
      exact Or.inl ⟨rfl, v, rfl, h1, rfl⟩
    · cases hs
  | return_ =>
    simp only [kstep] at hs
    split at hs
    · obtain ⟨h1, h2⟩ := kcond hs
      cases h2
      exact Or.inr (Or.inl ⟨rfl, rfl, Nat.eq_of_beq_eq_true h1, rfl⟩)
    · cases hs
  | getstatic k => exact Or.inr (Or.inr (Or.inl ⟨⟨k, rfl⟩, hs⟩))
  | invokestatic k => exact Or.inr (Or.inr (Or.inr (Or.inl ⟨Or.inl ⟨k, rfl⟩, kinvk_inv hs⟩)))
  | invokevirtual k => exact Or.inr (Or.inr (Or.inr (Or.inl ⟨Or.inr (Or.inl ⟨k, rfl⟩), kinvk_inv hs⟩)))
  | invokespecial k => exact Or.inr (Or.inr (Or.inr (Or.inl ⟨Or.inr (Or.inr ⟨k, rfl⟩), kinvk_inv hs⟩)))
  | _ => exact Or.inr (Or.inr (Or.inr (Or.inr (kgen_inv hs))))
theorem kx_le {pf : Nat → Nat → Option KE} {pl pr : Nat → Nat} : ∀ (n d M pc : Nat) (ls : KL) (st : List Value) (h : KH) (o : KO), kx pf pl pr n d M pc ls st h = some o → kle h o.2 := by
  intro n
  induction n with
  | zero => intro d M pc ls st h o hq; cases hq
  | succ n ih =>
    intro d M pc ls st h o hq
    cases he : pf M pc with
    | none =>
      exfalso
      have : (none : Option KO) = some o := by
        have e : kx pf pl pr (n + 1) d M pc ls st h = none := by
          show (match pf M pc with | some e => _ | none => none) = none
          rw [he]
        rw [← e]
        exact hq
      cases this
    | some e =>
      obtain ⟨i, nx, tg, w, ts⟩ := e
      rw [kx_succ he] at hq
      rcases kstep_inv hq with ⟨-, v, -, -, rfl⟩ | ⟨-, -, -, rfl⟩ | ⟨-, hq⟩ | ⟨-, -, -, hq⟩ | hq
      · exact kle.rf _
      · exact kle.rf _
      · exact ih _ _ _ _ _ _ _ hq
      · rcases hq with ⟨z, r, h1, -, hc, -, hq⟩ | ⟨z, a, r, -, -, -, hq⟩ | ⟨z, n2, k2, r, -, -, -, -, -, -, hq⟩ | ⟨z, y2, x2, r, -, -, -, hq⟩ | ⟨as, r, M2, -, -, -, -, hq⟩
        · exact (kle_eq (kcopy_h hc)).tr (ih _ _ _ _ _ _ _ hq)
        · exact ih _ _ _ _ _ _ _ hq
        · exact ih _ _ _ _ _ _ _ hq
        · exact ih _ _ _ _ _ _ _ hq
        · rcases hq with ⟨v, h1, hc, hq⟩ | ⟨h1, hc, hq⟩
          · exact kle.tr (ih _ _ _ _ _ _ _ (kcond hc).2) (ih _ _ _ _ _ _ _ hq)
          · exact kle.tr (ih _ _ _ _ _ _ _ (kcond hc).2) (ih _ _ _ _ _ _ _ hq)
      · rcases hq with ⟨ls1, st1, -, hq⟩ | ⟨pc1, st1, -, hq⟩ | ⟨st1, h1, hc, hq⟩
        · exact ih _ _ _ _ _ _ _ hq
        · exact ih _ _ _ _ _ _ _ hq
        · exact (kheap_le hc).tr (ih _ _ _ _ _ _ _ hq)
