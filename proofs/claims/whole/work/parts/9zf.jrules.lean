/-! KM: both sides: rules are given -/
theorem NM_far {h k : KH} (f : far h k) (n : NM h) : NM k := ⟨fun i hi => by rw [(f _ (by decide)).2]; exact n.1 i hi, fun i hi => by rw [(f _ (by decide)).2]; exact n.2.1 i hi, by rw [(f _ (by decide)).2]; exact n.2.2⟩
theorem j_class {h : KH} {T : List Nat} {o : Nat} {R : Bool × Nat × List RRes} (hw : WF h) (nm : NM h) (hn : h.2.2.2.2.1 < 800000000) (t : tpO h T) (eo : h.2.2.2.2.1 = o) (eR : allT (tkC T) 8 0 = R) : ∃ h' k3 : KH, Al h h' ∧ Fr pSp noP h' k3 ∧ h'.2.2.2.2.1 = o + 5 ∧ h'.2.2.2.2.2 ≤ h.2.2.2.2.2 + 240 ∧ k3.2.2.1 29 1 = 0 ∧ (R.1 = true → rulO k3 o T.length ∧ k3.2.2.1 o 4 = Int32.ofNat R.2.2.length ∧ rulCR k3.2.2.1 o T.length 0 0 (R.2.2.map toRC) ∧ ∀ Q : KO → Prop, Q (some (.int (Int32.ofNat R.2.2.length)), kwr k3 1 10 (some o)) → Cl 30 110 [.ref 0] h Q) ∧ (R.1 = false → ∀ Q : KO → Prop, Q (some (.int ((-100 : Int32) - Int32.ofNat (tkB T R.2.1))), k3) → Cl 30 110 [.ref 0] h Q) := by
  have o75 : 75 ≤ o := by rw [← eo]; exact hw.2.2.1
  obtain ⟨hm, em⟩ : ∃ hm, kmake h 9 0 6 = hm := ⟨_, rfl⟩
  have al0 : Al h hm := by rw [← em]; exact (Al.refl h).make (by omega)
  have t0 : hm.1 o = (9, 0) := by rw [← em, ← eo]; exact ku_s _ _ _
  have n0 : hm.2.2.2.2.1 = o + 1 := by rw [← em, ← eo]; rfl
  have s0 : hm.2.2.2.2.2 = h.2.2.2.2.2 + 6 := by rw [← em]; rfl
  have i0 : hm.2.2.1 o = fun _ => 0 := by rw [← em, ← eo]; exact ku_s _ _ _
  have hT := t.1
  obtain ⟨O1, O2, O3, O4⟩ := ruN_o (h := hm) (L := T.length) t0 n0 o75 hT
  have al1 : Al h (ruN hm o T.length) := ruN_al al0 n0 (by omega) (by omega)
  have ini : ∀ Q : KO → Prop, Q (none, ruN hm o T.length) → Cl 18 74 [.ref o, .int (Int32.ofNat T.length)] hm Q := fun Q hQ => (s_rinit t0 n0 (by omega) hT hQ).depth (by decide)
  obtain ⟨hr, er⟩ : ∃ hr, ruN hm o T.length = hr := ⟨_, rfl⟩
  rw [er] at O1 O2 O3 O4 al1 ini
  have w0 := al0.wf hw
  have w1 := al1.wf hw
  have tp1 : tpO hr T := ⟨t.1, t.2.1, by rw [al1.i hw (by decide)]; exact t.2.2.1, fun i hi => by rw [al1.i hw (by decide)]; exact t.2.2.2 i hi⟩
  obtain ⟨x, ⟨k, N, ex, fs, cs, c1, c5, c6⟩, run2⟩ := (s_split (Q := fun x => ∃ k N, x = (none, k) ∧ Fr pSp noP hr k ∧ clO k T N ∧ k.2.2.1 29 1 = 0 ∧ k.2.2.1 29 5 = 0 ∧ k.2.2.1 29 6 = Int32.ofNat (tkC T 0)) w1 (NM_far (far_al al1) nm) tp1 (fun k N a b c d e => ⟨k, N, rfl, a, b, c, d, e⟩)).det
  subst ex
  have er2 : k.2.1 = hr.2.1 := by
    funext c i
    exact fs.2.2.2 c i (Or.inl (Or.inl (fun y => y)))
  have wk : WF k := fs.wf w1 (fun y => y)
  have NL := lvT_le cs.2.1
  have sC : stC k (tkC T) (tkB T) N o T.length := ⟨wk, ⟨cs.1, cs.2.1, cs.2.2.1, cs.2.2.2, fun j => ⟨tkC_lt T j, tkC_r T j⟩⟩, rulO_same O1 fs.1 er2, NL⟩
  have gk : gH k (tkC T) 0 = k := by
    unfold gH
    rw [kwi_id (show k.2.2.1 29 5 = Int32.ofNat 0 from c5), kwi_id c6]
  have io : k.2.2.1 o = fun _ => 0 := (fs.2.2.1 o (Or.inr o75)).trans (O2.trans i0)
  have lv0 : lvT (tkC T) 0 := fun j hj => absurd hj (Nat.not_lt_zero j)
  obtain ⟨k', g, run3⟩ := c_all 8 0 0 0 k rfl sC lv0 (Nat.le_refl _) (by rw [io]; rfl) (by rw [io]; rfl)
  have okA := allT_ok 8 0 lv0
  rw [eR] at g run3 okA
  rw [gk] at run3
  have qN := lv_N cs.2.2.1 okA.1
  have sK := sC.grR g.1
  have w3 : WF (gH k' (tkC T) R.2.1) := sK.1
  have rd : ∀ Q : KO → Prop, Q (some (.int (b32 R.1)), gH k' (tkC T) R.2.1) → Cl 18 63 [.ref 29, .ref o] k Q := fun Q hQ => t_ra0 (D := 17) wk (by decide) (run3 Q hQ)
  have h29 : hm.2.2.1 29 1 = Int32.ofNat T.length := by rw [al0.i hw (by decide)]; exact t.2.2.1
  have start : ∀ Q : KO → Prop, Wp 30 110 3 [some (.ref 0), none] [.ref o] hm Q → Cl 30 110 [.ref 0] h Q := fun Q hQ => by
    refine Cl.of (ls := [some (.ref 0), none]) rfl rfl ?_
    refine Wp.mk rfl (by omega) ?_
    rw [eo, em]
    exact hQ
  refine ⟨(hr.1, hr.2.1, fun a => if o ≤ a ∧ a ≤ o + 4 then k'.2.2.1 a else hr.2.2.1 a, hr.2.2.2), gH k' (tkC T) R.2.1, ⟨al1.1, fun c hc => ?_⟩, ⟨?_, ?_, fun c hc => ?_, fun c i hc => ?_⟩, O3, ?_, ?_, fun y => ⟨rulO_same (k := gH k' (tkC T) R.2.1) sK.2.2.1 rfl rfl, ?_, ?_, fun Q hQ => start Q ?_⟩, fun y Q hQ => start Q ?_⟩
  · obtain ⟨a1, a2, a3, a4⟩ := al1.2 c hc
    refine ⟨a1, a2, ?_, a4⟩
    show (if o ≤ c ∧ c ≤ o + 4 then k'.2.2.1 c else hr.2.2.1 c) = _
    rw [if_neg (by omega)]
    exact a3
  · exact g.1.1.trans fs.1
  · exact g.1.2.2.1.trans fs.2.1
  · have c29 : c ≠ 29 := fun e => by
      subst e
      exact hc.elim (fun z => z (Or.inl rfl)) (fun z => by omega)
    show (gH k' (tkC T) R.2.1).2.2.1 c = if o ≤ c ∧ c ≤ o + 4 then k'.2.2.1 c else hr.2.2.1 c
    rw [gH_o c29]
    by_cases q : o ≤ c ∧ c ≤ o + 4
    · rw [if_pos q]
    · rw [if_neg q, g.1.2.2.2 c (by omega)]
      exact fs.2.2.1 c hc
  · show k'.2.1 c i = hr.2.1 c i
    rw [g.1.2.1, er2]
  · show hr.2.2.2.2.2 ≤ _
    rw [O4, s0]
    omega
  · rw [gH_q (by decide) (by decide), g.1.2.2.2 29 (by omega)]
    exact c1
  · rw [gH_o (by omega), (g.2 y).1, Nat.zero_add]
  · exact rulCR_congr (fun j _ => gH_o (by omega)) _ _ _ (g.2 y).2.1
  · refine t_ru1 (h := hm) (k1 := hr) (k2 := k) (k3 := gH k' (tkC T) R.2.1) (D := 18) (L := T.length) w0 w1 wk w3 (rulO_same (k := gH k' (tkC T) R.2.1) sK.2.2.1 rfl rfl) h29 (by rw [gH_o (by omega), (g.2 y).1, Nat.zero_add]) ini (fun Q hQ => (run2 Q hQ).depth (by decide)) (fun Q hQ => rd Q (by rw [y]; exact hQ)) (by decide) hQ
  · refine t_ru0 (h := hm) (k1 := hr) (k2 := k) (k3 := gH k' (tkC T) R.2.1) (D := 18) (L := T.length) w0 w1 wk w3 h29 ini (fun Q hQ => (run2 Q hQ).depth (by decide)) (fun Q hQ => rd Q (by rw [y]; exact hQ)) (fun Q hQ => (t_fau (q := R.2.1) w3 gH_5 (by have := cs.1; omega) ?_ (Nat.le_refl _) hQ).depth (by decide)) (by decide) hQ
    rw [gH_o (by decide)]
    exact (sK.2.1.2.2.2.1 _ qN).2
def pMr : Nat → Prop := fun c => c = 59 ∨ c = 60 ∨ c = 62
theorem FRu.fr {z r : Nat} {h k : KH} (f : FRu z r h k) : Fr pMr noP h k := ⟨f.1, f.2.2.1, fun c hc => f.2.2.2.1 c (fun e => by subst e; exact hc.elim (fun z => z (Or.inl rfl)) (fun z => by omega)) (fun e => by subst e; exact hc.elim (fun z => z (Or.inr (Or.inl rfl))) (fun z => by omega)), fun c i _ => by rw [f.2.1]⟩
theorem j_ref {k : KH} {T : List Nat} {R : Bool × Nat × List RRes} (hw : WF k) (nm : NM k) (t : tpM k T) (eR : allT (tkC T) 8 0 = R) : ∃ k2 : KH, Fr pMr noP k k2 ∧ (∀ q, (q < 5 ∨ 12 < q) → k2.2.2.1 59 q = k.2.2.1 59 q) ∧ k2.2.2.1 59 5 = 0 ∧ (R.1 = true → (∀ j, j ≠ 10 → j < 53 → k2.2.2.1 60 j = k.2.2.1 60 j) ∧ rulesS (k2.2.2.1 60) (R.2.2.map toRM) ∧ ∀ Q : KO → Prop, Q (some (.int (Int32.ofNat R.2.2.length)), k2) → Cl 30 215 [.ref 59] k Q) ∧ (R.1 = false → (∀ m, m < 585 → k2.2.2.1 60 m = k.2.2.1 60 m) ∧ ∀ Q : KO → Prop, Q (some (.int ((-100 : Int32) - Int32.ofNat (tkB T R.2.1))), k2) → Cl 30 215 [.ref 59] k Q) := by
  obtain ⟨x, ⟨k1, ex, f1, e1⟩, run1⟩ := (s_thinks (Q := fun x => ∃ k1, x = (none, k1) ∧ Fr (fun c => c = 62) noP k k1 ∧ (∀ m, m < 585 → k1.2.2.1 62 m = k.2.2.1 60 m)) hw (Nat.le_refl _) (fun k1 a b _ => ⟨k1, rfl, a, b⟩)).det
  subst ex
  have w1 : WF k1 := f1.wf hw (fun y => y)
  have i59 : k1.2.2.1 59 = k.2.2.1 59 := f1.2.2.1 59 (Or.inl (by decide))
  have i60 : k1.2.2.1 60 = k.2.2.1 60 := f1.2.2.1 60 (Or.inl (by decide))
  have i63 : k1.2.2.1 63 = k.2.2.1 63 := f1.2.2.1 63 (Or.inl (by decide))
  have nm1 : NM k1 := NM_far (far_fr f1) nm
  obtain ⟨KB, eB⟩ : ∃ KB, kwi (kwi (kwi (kwi (kwi k1 60 10 (0 : Int32)) 59 8 (0 : Int32)) 59 10 (0 : Int32)) 59 11 (0 : Int32)) 59 12 (0 : Int32) = KB := ⟨_, rfl⟩
  have fB : FRu 0 0 k1 KB := by
    rw [← eB]
    exact (((((FRu.refl 0 0 k1).m (Or.inl rfl)).i (by decide) (by decide)).i (by decide) (by decide)).i (by decide) (by decide)).i (by decide) (by decide)
  have wB : WF KB := by rw [← eB]; exact w1
  have nB : NM KB := by rw [← eB]; exact NM_i (NM_i (NM_i (NM_i (NM_i nm1 (by decide)) (by decide)) (by decide)) (by decide)) (by decide)
  have tB : tpM KB T := ⟨t.1, t.2.1, by rw [fB.2.2.2.2.1 5 (by decide), i59]; exact t.2.2.1, fun i hi => by rw [fB.2.2.2.1 63 (by decide) (by decide), i63]; exact t.2.2.2 i hi⟩
  have b8 : KB.2.2.1 59 8 = Int32.ofNat 0 := by
    rw [← eB, kwi_o (by decide), kwi_o (by decide), kwi_o (by decide), kwi_s]
    rfl
  have b10 : KB.2.2.1 59 10 = 0 := by rw [← eB, kwi_o (by decide), kwi_o (by decide), kwi_s]
  have b11 : KB.2.2.1 59 11 = Int32.ofNat 0 := by
    rw [← eB, kwi_o (by decide), kwi_s]
    rfl
  have b12 : KB.2.2.1 59 12 = Int32.ofNat 0 := by
    rw [← eB, kwi_s]
    rfl
  have m10 : KB.2.2.1 60 10 = Int32.ofNat 0 := by
    rw [← eB, kwi_r (by decide), kwi_r (by decide), kwi_r (by decide), kwi_r (by decide), kwi_s]
    rfl
  obtain ⟨k2, f2, r2, run2⟩ := s_reads wB nB tB b8 (Nat.zero_le _)
  have o2 : ∀ j, (j < 6 ∨ 9 < j) → k2.2.2.1 59 j = KB.2.2.1 59 j := fun j hj => f2.2.2.2.2 j (fun y => by unfold rdF at y; omega)
  have lv0 : lvT (tkC T) 0 := fun j hj => absurd hj (Nat.not_lt_zero j)
  have s2 : msO k2 T 0 0 0 := ⟨f2.wf wB, f2.nm nB, f2.tp (by unfold rdF; omega) tB, r2, (o2 10 (by decide)).trans b10, (o2 11 (by decide)).trans b11, (o2 12 (by decide)).trans b12, lv0, Nat.le_refl _⟩
  obtain ⟨k3, g, run3⟩ := m_all 8 0 0 0 k2 rfl s2 (by rw [f2.2.2.2.1 60 (by decide)]; exact m10)
  have okA := allT_ok 8 0 lv0
  rw [eR] at g okA
  have f13 : FRu 0 0 k1 k3 := (fB.trans ((f2.fm 0 rdF_fm).u 0 (by decide))).trans g.1
  have F13 : Fr pMr noP k k3 := (f1.mono (fun c z => Or.inr (Or.inr z)) (fun _ z => z)).trans f13.fr
  have start : ∀ Q : KO → Prop, Wp 19 215 59 [some (.ref 59)] [] k3 Q → Cl 30 215 [.ref 59] k Q := fun Q hQ => t_mR0 (D := 18) hw w1 s2.1 (fun Q hQ => (run1 Q hQ).depth (by decide)) (fun Q hQ => by rw [eB]; exact (run2 Q hQ).depth (by decide)) (by decide) ((run3 Q hQ).depth (by decide))
  rcases eb : R.1 with _ | _
  · obtain ⟨z', bad⟩ := g.2.2 eb
    have w3 : WF (kwi k3 59 5 0) := bad.1
    obtain ⟨x, ⟨k4, ex, f4, e4⟩, run4⟩ := (s_putsBack (Q := fun x => ∃ k4, x = (none, k4) ∧ Fr (fun c => c = 60) noP (kwi k3 59 5 0) k4 ∧ (∀ m, m < 585 → k4.2.2.1 60 m = (kwi k3 59 5 0).2.2.1 62 m)) w3 (Nat.le_refl _) (fun k4 a b _ => ⟨k4, rfl, a, b⟩)).det
    subst ex
    have j59 : k4.2.2.1 59 = (kwi k3 59 5 0).2.2.1 59 := f4.2.2.1 59 (Or.inl (by decide))
    refine ⟨k4, (F13.trans (fr_kwi (Or.inl rfl) (by decide))).trans (f4.mono (fun c z => Or.inr (Or.inl z)) (fun _ z => z)), fun q hq => ?_, ?_, (fun y => by cases y), fun _ => ⟨fun m hm => ?_, fun Q hQ => start Q ?_⟩⟩
    · rw [j59, kwi_o (by omega), f13.2.2.2.2.1 q (by omega), i59]
    · rw [j59, kwi_s]
    · rw [e4 m hm, kwi_r (by decide), f13.2.2.2.1 62 (by decide) (by decide)]
      exact e1 m hm
    · exact t_mR5 (D := 18) bad.1 (f4.wf w3 (fun y => y)) bad.2.2.2.1 (fun Q hQ => (run4 Q hQ).depth (by decide)) (by rw [j59, kwi_o (by decide)]; exact bad.2.2.2.2.1) (Nat.le_refl _) hQ
  · obtain ⟨⟨zz, s3⟩, n3, ru3⟩ := g.2.1 eb
    rw [Nat.zero_add] at n3
    refine ⟨kwi k3 59 5 0, F13.trans (fr_kwi (Or.inl rfl) (by decide)), fun q hq => ?_, kwi_s, fun _ => ⟨fun j j10 j53 => ?_, ?_, fun Q hQ => start Q ?_⟩, fun y => by cases y⟩
    · rw [kwi_o (by omega), f13.2.2.2.2.1 q (by omega), i59]
    · rw [kwi_r (by decide), f13.2.2.2.2.2 j j10 (Or.inl (by omega)), i60]
    · rw [kwi_r (by decide)]
      exact ⟨by rw [n3, List.length_map], by rw [List.length_map]; exact okA.2.2.1, ru3⟩
    · exact t_mR4 (D := 18) s3.1 s3.2.2.2.2.1 n3 (Nat.le_refl _) hQ
/-- all is kept, if cities and what is theirs are -/
def pRu : Nat → Prop := fun c => c = 29 ∨ c = 31 ∨ c = 32 ∨ c = 59 ∨ c = 60 ∨ c = 62
theorem inv_rules {R : Nat → Prop} {h k : KH} (hi : Inv h) (f : Fr pRu R h k) (r1 : ∀ c, R c → c = 1) (e : ∀ q, (q < 5 ∨ 12 < q) → k.2.2.1 59 q = h.2.2.1 59 q) (e5 : k.2.2.1 59 5 = 0) (e1 : k.2.2.1 29 1 = 0) (hb : ∃ A RL n c dn en RP, both k A RL n c dn en ∧ reps k (k.2.1 1 11) (k.2.2.1 60) RP) (fo : freeOK k) : Inv k := by
  obtain ⟨hw, _, ho, _⟩ := hi
  have np : ∀ c, ¬ (c = 29 ∨ c = 31 ∨ c = 32 ∨ c = 59 ∨ c = 60 ∨ c = 62) → ¬ pRu c := fun c hc y => hc y
  have nR : ∀ c, c ≠ 1 → ¬ R c := fun c hc y => hc (r1 c y)
  have i0 : k.2.2.1 0 = h.2.2.1 0 := f.2.2.1 0 (Or.inl (np 0 (by omega)))
  refine ⟨f.wf hw (nR 0 (by decide)), hb, ⟨?_, ⟨[], ?_⟩, ?_, fun s hs => ?_, fun s hs => ?_, ?_⟩, fo⟩
  · have o1 := ho.1
    unfold keptOK at o1 ⊢
    rcases o1 with o1 | ⟨a1, a2, A4, RL4, n4, c4, dn4, en4, RP4, a3, a4, a5⟩
    · exact Or.inl ⟨by rw [i0]; exact o1.1, (e 3 (by decide)).trans o1.2⟩
    · refine Or.inr ⟨by rw [i0]; exact a1, (e 3 (by decide)).trans a2, A4, RL4, n4, c4, dn4, en4, RP4, city_fr a3 f (np 4 (by omega)) (np 5 (by omega)) (nR 4 (by decide)), ?_, ?_⟩
      · rw [f.2.2.1 61 (Or.inl (np 61 (by omega)))]
        exact a4
      · rw [f.2.2.2 4 11 (Or.inl (Or.inl (nR 4 (by decide)))), f.2.2.1 61 (Or.inl (np 61 (by omega)))]
        exact reps_fr a5 f (fun _ _ => rfl)
  · exact ⟨by decide, (fun b hb => by cases hb), e1, e5, fun i hi => absurd hi (Nat.not_lt_zero i)⟩
  · obtain ⟨r, hr⟩ := ho.2.2.1
    exact ⟨r, rows_fr hr f (fun c hc => by unfold pRu at hc; omega) (by rw [i0]) (e 20 (by decide))⟩
  · exact sheet_fr hs (ho.2.2.2.1 s hs) f (fun c hc => by unfold pRu at hc; omega)
  · exact shelf_fr (ho.2.2.2.2.1 s hs) f (fun c hc => by unfold pRu at hc; omega)
  · exact trace_fr ho.2.2.2.2.2 f (fun c hc => by unfold pRu at hc; omega) (e 29 (by decide))
theorem J_rules {h : KH} (hi : Inv h) (nm : NM h) (hn : h.2.2.2.2.1 < 800000000) : JIr h 110 [.ref 0] 215 [.ref 59] := by
  have hw := hi.1
  obtain ⟨T, hT, hb, t29, t59, tb⟩ := hi.2.2.1.2.1
  obtain ⟨o, eo⟩ : ∃ o, h.2.2.2.2.1 = o := ⟨_, rfl⟩
  have o75 : 75 ≤ o := by rw [← eo]; exact hw.2.2.1
  obtain ⟨R, eR⟩ : ∃ R, allT (tkC T) 8 0 = R := ⟨_, rfl⟩
  have okA := allT_ok (c := tkC T) 8 0 (fun j hj => absurd hj (Nat.not_lt_zero j))
  rw [eR] at okA
  obtain ⟨h', k3, al, fk, hn', hs', k29, gT, gF⟩ := j_class hw nm hn ⟨hT, hb, t29, fun i hi => (tb i hi).1⟩ eo eR
  have hi' : Inv h' := Inv_al hi al
  have w' := hi'.1
  have w3 : WF k3 := fk.wf w' (fun y => y)
  have tM : ∀ kk : KH, kk.2.2.1 = k3.2.2.1 → tpM kk T := fun kk ek => by
    refine ⟨hT, hb, ?_, fun i hi => ?_⟩
    · rw [ek, fk.2.2.1 59 (Or.inl (by unfold pSp; omega)), al.i hw (by decide)]
      exact t59
    · rw [ek, fk.2.2.1 63 (Or.inl (by unfold pSp; omega)), al.i hw (by decide)]
      exact (tb i hi).2
  have n3 : NM k3 := NM_far ((far_al al).tr (far_fr fk)) nm
  have m1 : ∀ c, pSp c → pRu c := fun c z => by unfold pSp at z; unfold pRu; omega
  have m2 : ∀ c, pMr c → pRu c := fun c z => by unfold pMr at z; unfold pRu; omega
  obtain ⟨⟨A, RL, n, c, dn, en, RP, ⟨hc, hm⟩, hr⟩, ho, hf⟩ := hi'.2
  rcases eb : R.1 with _ | _
  · obtain ⟨k2, f2, q2, q5, _, gM⟩ := j_ref w3 n3 (tM k3 rfl) eR
    obtain ⟨em, run⟩ := gM eb
    have F : Fr pRu noP h' k2 := (fk.mono m1 (fun _ z => z)).trans (f2.mono m2 (fun _ z => z))
    have s60 : ∀ m, m < 585 → k2.2.2.1 60 m = h'.2.2.1 60 m := fun m hm => (em m hm).trans (by rw [fk.2.2.1 60 (Or.inl (by unfold pSp; omega))])
    refine ⟨_, gF eb _ ⟨k3, rfl, run _ ⟨k2, rfl, ?_, ?_, ?_, (far_al al).tr (far_fr F)⟩⟩⟩
    · refine inv_rules hi' F (fun _ z => z.elim) (fun q hq => (q2 q hq).trans (by rw [fk.2.2.1 59 (Or.inl (by unfold pSp; omega))])) q5 (by rw [f2.2.2.1 29 (Or.inl (by unfold pMr; omega))]; exact k29) ⟨A, RL, n, c, dn, en, RP, ⟨city_fr hc F (by unfold pRu; omega) (by unfold pRu; omega) (fun z => z), refS_congr s60 hm⟩, reps_new hr F (F.2.2.2 1 11 (Or.inl (Or.inl (fun z => z)))) s60⟩ (free_fr hf F ⟨fun z => z, fun z => z⟩)
    · rw [F.2.1]
      omega
    · rw [F.2.1]
      exact hs'
  · obtain ⟨O1, O4, O5, run1⟩ := gT eb
    have fW : Fr noP (fun c => c = 1) k3 (kwr k3 1 10 (some o)) := ⟨rfl, rfl, fun _ _ => rfl, fun c i hc => by
      by_cases e : c = 1
      · subst e
        exact kwr_o (fun e2 => by subst e2; exact hc.elim (fun z => z.elim (fun y => y rfl) (fun y => by omega)) (fun z => z.1 rfl))
      · exact kwr_b e⟩
    have wW : WF (kwr k3 1 10 (some o)) := fW.wf w3 (by decide)
    obtain ⟨k2, f2, q2, q5, gM, _⟩ := j_ref wW (NM_far (far_fr fW) n3) (tM (kwr k3 1 10 (some o)) rfl) eR
    obtain ⟨em, ru, run⟩ := gM eb
    have F : Fr pRu (fun c => c = 1) h' k2 := ((fk.mono m1 (fun _ z => z.elim)).trans (fW.mono (fun _ z => z.elim) (fun _ z => z))).trans (f2.mono m2 (fun _ z => z.elim))
    have r2 : k2.2.1 = (kwr k3 1 10 (some o)).2.1 := by
      funext c i
      exact f2.2.2.2 c i (Or.inl (Or.inl (fun y => y)))
    have r11 : k2.2.1 1 11 = h'.2.1 1 11 := by
      rw [r2, kwr_o (by decide)]
      exact fk.2.2.2 1 11 (Or.inl (Or.inl (fun y => y)))
    have s60 : ∀ m, m ≠ 10 → m < 53 → k2.2.2.1 60 m = h'.2.2.1 60 m := fun m h1 h2 => (em m h1 h2).trans (by
      show k3.2.2.1 60 m = _
      rw [fk.2.2.1 60 (Or.inl (by unfold pSp; omega))])
    have ag : agr (h'.2.2.1 60) (k2.2.2.1 60) := fun m hm => (s60 m (by omega) (by omega)).symm
    have eS : cS k2.2.2.1 1 = cS h'.2.2.1 1 := cS_fr (F.2.2.1 1 (Or.inl (by unfold pRu; omega))) (F.2.2.1 (1 + 1) (Or.inl (by unfold pRu; omega)))
    have ek : ∀ j, j ≤ 4 → k2.2.2.1 (o + j) = k3.2.2.1 (o + j) := fun j _ => f2.2.2.1 (o + j) (Or.inr (by omega))
    have o1 : o ≠ 1 := by omega
    obtain ⟨p1, p2, p3, p4, p5, p6, p7, p8, p9, p10, p11⟩ := O1
    have O2 : rulO k2 o T.length := ⟨by rw [f2.1]; exact p1, by rw [f2.1]; exact p2, by rw [f2.1]; exact p3, by rw [f2.1]; exact p4, by rw [f2.1]; exact p5, by rw [r2, kwr_b o1]; exact p6, by rw [r2, kwr_b o1]; exact p7, by rw [r2, kwr_b o1]; exact p8, by rw [r2, kwr_b o1]; exact p9, p10, p11⟩
    have cr : crul k2 1 (R.2.2.map toRC) := Or.inr ⟨o, by rw [r2]; exact kwr_s, T.length, O2, by rw [show k2.2.2.1 o = k3.2.2.1 o from ek 0 (by decide), List.length_map]; exact O4, by rw [List.length_map]; exact okA.2.2.1, rulCR_congr ek _ _ _ O5⟩
    refine ⟨_, run1 _ ⟨_, rfl, run _ ⟨k2, rfl, ?_, ?_, ?_, (far_al al).tr (far_fr F)⟩⟩⟩
    · refine inv_rules hi' F (fun _ z => z) (fun q hq => (q2 q hq).trans (by
        show k3.2.2.1 59 q = _
        rw [fk.2.2.1 59 (Or.inl (by unfold pSp; omega))])) q5 (by rw [f2.2.2.1 29 (Or.inl (by unfold pMr; omega))]; exact k29) ⟨A, R.2.2.map toRM, n, c, dn, en, RP, ⟨⟨by rw [eS]; exact hc.1, by rw [eS]; exact hc.2.1, _, cr, okA.2.2.2, by rw [List.length_map, List.length_map]⟩, (agr_nrm ag).symm.trans hm.1, okS_agr ag hm.2.1, ru⟩, ?_⟩ ?_
      · obtain ⟨v1, v2, v3, v4⟩ := hr
        refine ⟨?_, by rw [s60 9 (by decide) (by decide)]; exact v2, v3, mrep_low RP (fun i h1 h2 => s60 i (by omega) (by omega)) v4⟩
        rw [r11]
        exact crep_fr (by rw [F.2.1]; exact Nat.le_refl _) (fun c _ _ => by rw [F.1]) (fun c i hc _ => F.2.2.2 c i (Or.inl (Or.inr hc))) (fun c hc _ => F.2.2.1 c (Or.inr hc)) RP _ v1
      · intro a ha q eq
        rw [F.2.1, hn']
        rcases ha with rfl | rfl
        · rw [r2, kwr_s] at eq
          injection eq with eq
          omega
        · rw [F.2.2.2 4 10 (Or.inl (Or.inl (by decide)))] at eq
          have := hf 4 (Or.inr rfl) q eq
          omega
    · rw [F.2.1]
      omega
    · rw [F.2.1]
      exact hs'
