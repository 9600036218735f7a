/-! KM: the script is never written -/
def fr30 (h h1 : KH) : Prop := (h.2.2.2.2.1 ≤ h1.2.2.2.2.1 ∧ ∀ c, c < h.2.2.2.2.1 → h1.1 c = h.1 c) ∧ ∀ c, 1000000000 ≤ c → (h.1 c).1 = 30 → h1.1 c = h.1 c ∧ h1.2.2.1 c = h.2.2.1 c
theorem ty_rf (h : KH) : h.2.2.2.2.1 ≤ h.2.2.2.2.1 ∧ ∀ c, c < h.2.2.2.2.1 → h.1 c = h.1 c := ⟨Nat.le_refl _, fun _ _ => rfl⟩
theorem fr30.rf (h : KH) : fr30 h h := ⟨ty_rf h, fun _ _ _ => ⟨rfl, rfl⟩⟩
theorem fr30.tr {a b c : KH} (h1 : fr30 a b) (h2 : fr30 b c) : fr30 a c := ⟨⟨Nat.le_trans h1.1.1 h2.1.1, fun q hq => (h2.1.2 q (Nat.lt_of_lt_of_le hq h1.1.1)).trans (h1.1.2 q hq)⟩, fun q hq e => by
  obtain ⟨x1, x2⟩ := h1.2 q hq e
  obtain ⟨y1, y2⟩ := h2.2 q hq (by rw [x1]; exact e)
  exact ⟨y1.trans x1, y2.trans x2⟩⟩
theorem kwi_30 {h : KH} {a j : Nat} {x : Int32} (n : (h.1 a).1 ≠ 30) : fr30 h (kwi h a j x) := ⟨ty_rf h, fun c _ e => ⟨rfl, kwi_r (fun z => n (by rw [← z]; exact e))⟩⟩
theorem kmake_30 {h : KH} {kind len sl : Nat} (n : h.2.2.2.2.1 < 900000000) : fr30 h (kmake h kind len sl) := ⟨⟨Nat.le_succ _, fun c hc => ku_n _ _ (by omega)⟩, fun c hc e => ⟨ku_n _ _ (by omega), ku_n _ _ (by omega)⟩⟩
theorem kputf_30 {k : Nat} {ts : List (Nat × Nat)} {st st1 : List Value} {h h1 : KH} (n : klook 30 ts = none) (hh : kputf k ts st h = some (st1, h1)) : fr30 h h1 := by
  unfold kputf at hh
  split at hh
  · rename_i x a r
    have na : ∀ b, klook (h.1 a).1 ts = some b → (h.1 a).1 ≠ 30 := fun b e z => by rw [z, n] at e; cases e
    split at hh
    · rename_i e
      cases hh
      exact kwi_30 (na _ e)
    · rename_i e
      cases (kcond hh).2
      exact kwi_30 (na _ e)
    · cases hh
  · split at hh
    · cases hh
      exact ⟨ty_rf h, fun c _ _ => ⟨rfl, rfl⟩⟩
    · cases hh
  · split at hh
    · cases hh
      exact ⟨ty_rf h, fun c _ _ => ⟨rfl, rfl⟩⟩
    · cases hh
  · cases hh
theorem kasti_30 {st st1 : List Value} {h h1 : KH} (hh : kasti st h = some (st1, h1)) : fr30 h h1 := by
  unfold kasti at hh
  split at hh
  · obtain ⟨e, f⟩ := kcond hh
    cases f
    rw [Bool.and_eq_true] at e
    exact kwi_30 (fun z => by rw [z] at e; exact absurd e.1 (by decide))
  · cases hh
theorem kastb_30 {st st1 : List Value} {h h1 : KH} (hh : kastb st h = some (st1, h1)) : fr30 h h1 := by
  unfold kastb at hh
  split at hh
  · rename_i x i a r
    have h2 := (kcond hh).2
    cases hb : Nat.beq (h.1 a).1 21 with
    | true =>
      rw [hb] at h2
      cases h2
      exact kwi_30 (fun z => by rw [z] at hb; exact absurd hb (by decide))
    | false =>
      rw [hb] at h2
      obtain ⟨e, f⟩ := kcond h2
      cases f
      rw [Bool.and_eq_true] at e
      exact kwi_30 (fun z => by rw [z] at e; exact absurd e.1 (by decide))
  · cases hh
theorem kastl_30 {st st1 : List Value} {h h1 : KH} (hh : kastl st h = some (st1, h1)) : fr30 h h1 := by
  unfold kastl at hh
  split at hh
  · cases (kcond hh).2
    exact ⟨ty_rf h, fun c _ _ => ⟨rfl, rfl⟩⟩
  · cases hh
theorem kastr_30 {st st1 : List Value} {h h1 : KH} (hh : kastr st h = some (st1, h1)) : fr30 h h1 := by
  unfold kastr at hh
  split at hh
  · cases (kcond hh).2
    exact ⟨ty_rf h, fun c _ _ => ⟨rfl, rfl⟩⟩
  · cases hh
theorem knew_30 {kind n : Nat} {st st1 : List Value} {h h1 : KH} (hh : knew kind n st h = some (st1, h1)) : fr30 h h1 := by
  unfold knew at hh
  obtain ⟨e, f⟩ := kcond hh
  cases f
  exact kmake_30 (Nat.blt_eq.mp e)
theorem knewa_30 {kind : Nat} {st st1 : List Value} {h h1 : KH} (hh : knewa kind st h = some (st1, h1)) : fr30 h h1 := by
  unfold knewa at hh
  split at hh
  · obtain ⟨e, f⟩ := kcond hh
    cases f
    rw [Bool.and_eq_true] at e
    exact kmake_30 (Nat.blt_eq.mp e.1)
  · cases hh
theorem kmna_30 {st st1 : List Value} {h h1 : KH} (hh : kmna st h = some (st1, h1)) : fr30 h h1 := by
  unfold kmna at hh
  split at hh
  · obtain ⟨e, f⟩ := kcond hh
    cases f
    rw [Bool.and_eq_true, Bool.and_eq_true] at e
    obtain ⟨⟨e1, e2⟩, e3⟩ := e
    have a1 := Nat.blt_eq.mp e1
    unfold kin at e2
    rw [Bool.and_eq_true] at e2
    have a2 := Nat.blt_eq.mp e2.2
    refine ⟨⟨by show h.2.2.2.2.1 ≤ h.2.2.2.2.1 + 1 + _; omega, fun c hc => ?_⟩, fun c hc _ => ⟨?_, ?_⟩⟩
    · show (if c = h.2.2.2.2.1 then _ else if h.2.2.2.2.1 < c ∧ c ≤ h.2.2.2.2.1 + _ then _ else h.1 c) = _
      rw [if_neg (by omega), if_neg (by omega)]
    · show (if c = h.2.2.2.2.1 then _ else if h.2.2.2.2.1 < c ∧ c ≤ h.2.2.2.2.1 + _ then _ else h.1 c) = _
      rw [if_neg (by omega), if_neg (by omega)]
    · show (if h.2.2.2.2.1 < c ∧ c ≤ h.2.2.2.2.1 + _ then _ else h.2.2.1 c) = _
      rw [if_neg (by omega)]
  · cases hh
theorem kcopy_30 {st r : List Value} {h h1 : KH} (hh : kcopy st h = some (r, h1)) : fr30 h h1 := by
  unfold kcopy at hh
  split at hh
  · obtain ⟨e, f⟩ := kcond hh
    cases f
    simp only [Bool.and_eq_true] at e
    obtain ⟨⟨⟨⟨⟨⟨e1, e2⟩, e3⟩, e4⟩, e5⟩, e6⟩, e7⟩ := e
    refine ⟨ty_rf h, fun c _ hc => ⟨rfl, ku_n _ _ (fun z => ?_)⟩⟩
    rw [← z, hc] at e2
    exact absurd e2 (by decide)
  · cases hh
theorem kheap_30 {i : Instr} {tg : Nat} {ts : List (Nat × Nat)} {st st1 : List Value} {h h1 : KH} (n : (∃ k, i = .putfield k) → klook 30 ts = none) (hh : kheap i tg ts st h = some (st1, h1)) : fr30 h h1 := by
  cases i with
  | getfield k => rw [kgetf_h hh]; exact fr30.rf _
  | putfield k => exact kputf_30 (n ⟨k, rfl⟩) hh
  | iaload => rw [kald_h hh]; exact fr30.rf _
  | baload => rw [kald_h hh]; exact fr30.rf _
  | laload => rw [kaldl_h hh]; exact fr30.rf _
  | aaload => rw [kaldr_h hh]; exact fr30.rf _
  | iastore => exact kasti_30 hh
  | bastore => exact kastb_30 hh
  | lastore => exact kastl_30 hh
  | aastore => exact kastr_30 hh
  | arraylength => rw [kalen_h hh]; exact fr30.rf _
  | idiv => rw [kdiv_h (Or.inl rfl) hh]; exact fr30.rf _
  | irem => rw [kdiv_h (Or.inr rfl) hh]; exact fr30.rf _
  | new k =>
    simp only [kheap] at hh
    split at hh
    · exact knew_30 hh
    · cases hh
  | newarray t => exact knewa_30 hh
  | anewarray k => exact knewa_30 hh
  | multianewarray a b => exact kmna_30 hh
  | _ => cases hh
theorem kx_30 {pf : Nat → Nat → Option KE} {pl pr : Nat → Nat} (hpf : ∀ M pc (e : KE), pf M pc = some e → (∃ k, e.1 = .putfield k) → klook 30 e.2.2.2.2 = none) : ∀ (n d M pc : Nat) (ls : KL) (st : List Value) (h : KH) (o : KO), kx pf pl pr n d M pc ls st h = some o → fr30 h o.2 := by
  intro n
  induction n with
  | zero => intro d M pc ls st h o hq; cases hq
  | succ n ih =>
    intro d M pc ls st h o hq
    cases he : pf M pc with
    | none =>
      exfalso
      have : (none : Option KO) = some o := by
        have e : kx pf pl pr (n + 1) d M pc ls st h = none := by
          show (match pf M pc with | some e => _ | none => none) = none
          rw [he]
        rw [← e]
        exact hq
      cases this
    | some e =>
      obtain ⟨i, nx, tg, w, ts⟩ := e
      have hp := hpf _ _ _ he
      rw [kx_succ he] at hq
      rcases kstep_inv hq with ⟨-, v, -, -, rfl⟩ | ⟨-, -, -, rfl⟩ | ⟨-, hq⟩ | ⟨-, -, -, hq⟩ | hq
      · exact fr30.rf _
      · exact fr30.rf _
      · exact ih _ _ _ _ _ _ _ hq
      · rcases hq with ⟨z, r, h1, -, hc, -, hq⟩ | ⟨z, a, r, -, -, -, hq⟩ | ⟨z, n2, k2, r, -, -, -, -, -, -, hq⟩ | ⟨z, y2, x2, r, -, -, -, hq⟩ | ⟨as, r, M2, -, -, -, -, hq⟩
        · exact (kcopy_30 hc).tr (ih _ _ _ _ _ _ _ hq)
        · exact ih _ _ _ _ _ _ _ hq
        · exact ih _ _ _ _ _ _ _ hq
        · exact ih _ _ _ _ _ _ _ hq
        · rcases hq with ⟨v, h1, hc, hq⟩ | ⟨h1, hc, hq⟩
          · exact fr30.tr (ih _ _ _ _ _ _ _ (kcond hc).2) (ih _ _ _ _ _ _ _ hq)
          · exact fr30.tr (ih _ _ _ _ _ _ _ (kcond hc).2) (ih _ _ _ _ _ _ _ hq)
      · rcases hq with ⟨ls1, st1, -, hq⟩ | ⟨pc1, st1, -, hq⟩ | ⟨st1, h1, hc, hq⟩
        · exact ih _ _ _ _ _ _ _ hq
        · exact ih _ _ _ _ _ _ _ hq
        · exact (kheap_30 hp hc).tr (ih _ _ _ _ _ _ _ hq)
theorem kput_30 (M pc : Nat) (e : KE) (h : kpf M pc = some e) (hp : ∃ k, e.1 = .putfield k) : klook 30 e.2.2.2.2 = none := by
  obtain ⟨len, _, hk⟩ := kG M pc e h
  obtain ⟨i, nx, tg, w, ts⟩ := e
  obtain ⟨k, rfl⟩ := hp
  have hh := hk.2.2.2.1
  cases hl : klook 30 ts with
  | none => rfl
  | some b =>
    exfalso
    obtain ⟨C, T, N, ref, e1, _⟩ := hh (30, b) (klook_mem hl)
    exact absurd (kCl_lt e1) (by show ¬ (30 < 12); decide)
/-- a call leaves the script as it was -/
theorem Cl.far {d M : Nat} {as : List Value} {h : KH} {Q : KO → Prop} (hc : Cl d M as h Q) : Cl d M as h (fun o => Q o ∧ fr30 h o.2) := by
  obtain ⟨h0, n, o, e, q⟩ := hc
  exact ⟨h0, n, o, e, q, kx_30 kput_30 _ _ _ _ _ _ _ _ e⟩
