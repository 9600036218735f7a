/-! KM: what is made anew -/
/-- of h nothing is changed in k; k may have more -/
def Al (h k : KH) : Prop := h.2.2.2.2.1 ≤ k.2.2.2.2.1 ∧ ∀ c, (c < h.2.2.2.2.1 ∨ 900000000 ≤ c) → k.1 c = h.1 c ∧ k.2.1 c = h.2.1 c ∧ k.2.2.1 c = h.2.2.1 c ∧ k.2.2.2.1 c = h.2.2.2.1 c
theorem far_al {h k : KH} (a : Al h k) : far h k := fun c hc => ⟨(a.2 c (Or.inr hc)).1, (a.2 c (Or.inr hc)).2.2.1⟩
theorem Al.refl (h : KH) : Al h h := ⟨Nat.le_refl _, fun _ _ => ⟨rfl, rfl, rfl, rfl⟩⟩
theorem Al.make {h k : KH} {kind len sl : Nat} (a : Al h k) (hn : k.2.2.2.2.1 < 900000000) : Al h (kmake k kind len sl) := by
  refine ⟨Nat.le_succ_of_le a.1, fun c hc => ?_⟩
  have e : c ≠ k.2.2.2.2.1 := by have := a.1; omega
  obtain ⟨a1, a2, a3, a4⟩ := a.2 c hc
  exact ⟨(ku_n _ _ e).trans a1, (ku_n _ _ e).trans a2, (ku_n _ _ e).trans a3, (ku_n _ _ e).trans a4⟩
theorem Al.kwi {h k : KH} {a j : Nat} {x : Int32} (A : Al h k) (h1 : h.2.2.2.2.1 ≤ a) (h2 : a < 900000000) : Al h (kwi k a j x) := by
  refine ⟨A.1, fun c hc => ?_⟩
  have e : c ≠ a := by omega
  obtain ⟨a1, a2, a3, a4⟩ := A.2 c hc
  exact ⟨a1, a2, (kwi_r e).trans a3, a4⟩
theorem Al.kwr {h k : KH} {a j : Nat} {x : Option Nat} (A : Al h k) (h1 : h.2.2.2.2.1 ≤ a) (h2 : a < 900000000) : Al h (kwr k a j x) := by
  refine ⟨A.1, fun c hc => ?_⟩
  have e : c ≠ a := by omega
  obtain ⟨a1, a2, a3, a4⟩ := A.2 c hc
  exact ⟨a1, (ku_n _ _ e).trans a2, a3, a4⟩
theorem Al.wf {h k : KH} (a : Al h k) (hw : WF h) : WF k := by
  obtain ⟨w1, w2, w3, w4, w5, w6, w7⟩ := hw
  have lt : ∀ q ∈ kRL, q.1 < 75 := by decide
  refine ⟨fun c hc => ?_, fun q hq => ?_, Nat.le_trans w3 a.1, ?_, ?_, ?_, ?_⟩
  · rw [(a.2 c (Or.inl (by omega))).1]
    exact w1 c hc
  · rw [(a.2 q.1 (Or.inl (by have := lt q hq; omega))).2.1]
    exact w2 q hq
  · rw [(a.2 _ (Or.inr (by decide))).1]
    exact w4
  · rw [(a.2 _ (Or.inr (by decide))).1]
    exact w5
  · rw [(a.2 _ (Or.inr (by decide))).2.1]
    exact w6
  · rw [(a.2 _ (Or.inr (by decide))).1]
    exact w7
theorem Al.i {h k : KH} (a : Al h k) (hw : WF h) {c : Nat} (hc : c < 75) : k.2.2.1 c = h.2.2.1 c := (a.2 c (Or.inl (Nat.lt_of_lt_of_le hc hw.2.2.1))).2.2.1
theorem Al.r {h k : KH} (a : Al h k) (hw : WF h) {c : Nat} (hc : c < 75) : k.2.1 c = h.2.1 c := (a.2 c (Or.inl (Nat.lt_of_lt_of_le hc hw.2.2.1))).2.1
theorem crul_al {h k : KH} {a : Nat} {RL : List Rul} (A : Al h k) (e : k.2.1 a 10 = h.2.1 a 10) (f : ∀ o, h.2.1 a 10 = some o → o + 4 < h.2.2.2.2.1) (hR : crul h a RL) : crul k a RL := by
  rcases hR with ⟨h1, h2⟩ | ⟨o, hr, L, hO, hq, hq8, hl⟩
  · exact Or.inl ⟨e.trans h1, h2⟩
  · have fo := f o hr
    obtain ⟨p1, p2, p3, p4, p5, p6, p7, p8, p9, p10, p11⟩ := hO
    have t : ∀ j, j < 5 → k.1 (o + j) = h.1 (o + j) := fun j hj => (A.2 _ (Or.inl (by omega))).1
    have r : k.2.1 o = h.2.1 o := (A.2 _ (Or.inl (by omega))).2.1
    have i : ∀ j, j < 5 → k.2.2.1 (o + j) = h.2.2.1 (o + j) := fun j hj => (A.2 _ (Or.inl (by omega))).2.2.1
    exact Or.inr ⟨o, e.trans hr, L, ⟨(t 0 (by decide)).trans p1, (t 1 (by decide)).trans p2, (t 2 (by decide)).trans p3, (t 3 (by decide)).trans p4, (t 4 (by decide)).trans p5, by rw [r]; exact p6, by rw [r]; exact p7, by rw [r]; exact p8, by rw [r]; exact p9, p10, p11⟩, by rw [show k.2.2.1 o = h.2.2.1 o from i 0 (by decide)]; exact hq, hq8, rulCR_congr (fun j hj => i j (by omega)) RL 0 0 hl⟩
theorem city_al {h k : KH} {a n c dn en : Nat} {A : Nat → Int32} {RL : List Rul} (hw : WF h) (al : Al h k) (ha : a + 1 < 75) (f : ∀ o, h.2.1 a 10 = some o → o + 4 < h.2.2.2.2.1) (hk : cityOK h a A RL n c dn en) : cityOK k a A RL n c dn en := by
  have e : cS k.2.2.1 a = cS h.2.2.1 a := by
    unfold cS
    rw [al.i hw (by omega : a < 75), al.i hw ha]
  obtain ⟨h1, h2, RLc, h3, h4⟩ := hk
  exact ⟨by rw [e]; exact h1, by rw [e]; exact h2, RLc, crul_al al (by rw [al.r hw (by omega)]) f h3, h4⟩
theorem reps_al {h k : KH} {v : Option Nat} {S : Nat → Int32} {RP : List (Nat × Nat × Nat)} (al : Al h k) (hr : reps h v S RP) : reps k v S RP :=
  ⟨crep_fr al.1 (fun c _ hc => (al.2 c (Or.inl hc)).1) (fun c i _ hc => by rw [(al.2 c (Or.inl hc)).2.1]) (fun c _ hc => (al.2 c (Or.inl hc)).2.2.1) RP v hr.1, hr.2⟩
theorem Inv_al {h k : KH} (hi : Inv h) (al : Al h k) : Inv k := by
  obtain ⟨hw, ⟨A, RL, n, c, dn, en, RP, hb, hr⟩, ⟨o1, ⟨T, o2⟩, ⟨R, o3⟩, o4, o5, o6⟩, hf⟩ := hi
  have i : ∀ c, c < 75 → k.2.2.1 c = h.2.2.1 c := fun c hc => al.i hw hc
  have r : ∀ c, c < 75 → k.2.1 c = h.2.1 c := fun c hc => al.r hw hc
  refine ⟨al.wf hw, ⟨A, RL, n, c, dn, en, RP, ⟨city_al hw al (by decide) (hf 1 (Or.inl rfl)) hb.1, refOK_eq hb.2 (i 60 (by decide))⟩, ?_⟩, ⟨?_, ⟨T, ?_⟩, ⟨R, ?_⟩, fun s hs => ?_, fun s hs => ?_, ?_⟩, fun a ha o e => ?_⟩
  · rw [i 60 (by decide), r 1 (by decide)]
    exact reps_al al hr
  · unfold keptOK at o1 ⊢
    rw [i 0 (by decide), i 59 (by decide), i 61 (by decide), r 4 (by decide)]
    rcases o1 with o1 | ⟨a1, a2, A4, RL4, n4, c4, dn4, en4, RP4, a3, a4, a5⟩
    · exact Or.inl o1
    · exact Or.inr ⟨a1, a2, A4, RL4, n4, c4, dn4, en4, RP4, city_al hw al (by decide) (hf 4 (Or.inr rfl)) a3, a4, reps_al al a5⟩
  · unfold tapeOK at o2 ⊢
    rw [i 29 (by decide), i 59 (by decide), i 30 (by decide), i 63 (by decide)]
    exact o2
  · unfold rowsOK at o3 ⊢
    rw [i 0 (by decide), i 59 (by decide), i 67 (by decide)]
    refine ⟨o3.1, o3.2.1, o3.2.2.1, fun q w hq hw2 => ?_⟩
    rw [i (34 + q) (by omega)]
    exact o3.2.2.2 q w hq hw2
  · have := o4 s hs
    unfold sheetOK at this ⊢
    rw [i 38 (by decide), i 39 (by decide), i 68 (by decide), i 69 (by decide), i (41 + s) (by omega), (al.2 70 (Or.inl (by have := hw.2.2.1; omega))).2.2.2]
    exact this
  · have := o5 s hs
    unfold shelfOK at this ⊢
    rw [i 45 (by decide), i 46 (by decide), i 47 (by decide), i 71 (by decide), i 72 (by decide), i 73 (by decide)]
    exact this
  · unfold traceOK at o6 ⊢
    rw [r 0 (by decide), i 59 (by decide), i 74 (by decide)]
    rcases o6 with o6 | ⟨t, g, b1, b2, b3, b4, b5, b6⟩
    · exact Or.inl o6
    · have ht := thing_le b1
      exact Or.inr ⟨t, g, b1, b2, b3, by rw [i t (by omega)]; exact b4, b5, fun q hq => by rw [i (t + 1) (by omega)]; exact b6 q hq⟩
  · have l := al.1
    rw [r a (by omega)] at e
    have := hf a ha o e
    omega
/-- new -/
theorem Wp.mk {d M pc : Nat} {ls : KL} {r : List Value} {h : KH} {Q : KO → Prop} {idx nx tg : Nat} {w : Value} {kind n : Nat} (he : kpf M pc = some (.new idx, nx, tg, w, [(kind, n)])) (hn : h.2.2.2.2.1 < 900000000) (hw : Wp d M nx ls (.ref h.2.2.2.2.1 :: r) (kmake h kind 0 n) Q) : Wp d M pc ls r h Q := by
  refine Wp.heap he (st1 := .ref h.2.2.2.2.1 :: r) (h1 := kmake h kind 0 n) ?_ hw
  show knew kind n r h = _
  unfold knew
  rw [show Nat.blt h.2.2.2.2.1 900000000 = true from Nat.blt_eq.mpr hn]
  rfl
