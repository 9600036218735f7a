/-! KM: both sides: act -/
theorem kwr_kwr (h : KH) (a j : Nat) (x y : Option Nat) : kwr (kwr h a j x) a j y = kwr h a j y := by
  show (h.1, ku (ku h.2.1 a (ku (h.2.1 a) j x)) a (ku (ku h.2.1 a (ku (h.2.1 a) j x) a) j y), h.2.2.1, h.2.2.2.1, h.2.2.2.2) = _
  rw [ku_s, ku_u, ku_u]
  rfl
theorem kRL_15 : ∀ q ∈ kRL, q.1 = 0 → q.2.1 ≠ 15 := by decide
theorem WF_15 {h : KH} {v : Option Nat} (hw : WF h) : WF (kwr h 0 15 v) := by
  obtain ⟨w1, w2, w3, w4, w5, w6, w7⟩ := hw
  refine ⟨w1, fun q hq => ?_, w3, w4, w5, ?_, w7⟩
  · have h2 := w2 q hq
    by_cases e : q.1 = 0
    · rw [e] at h2 ⊢
      rw [kwr_o (kRL_15 q hq e)]
      exact h2
    · rw [kwr_b e]
      exact h2
  · rw [kwr_b (by decide)]
    exact w6
theorem city_15 {h : KH} {v : Option Nat} {a n c dn en : Nat} {A : Nat → Int32} {RL : List Rul} (ha : a ≠ 0) (k : cityOK h a A RL n c dn en) : cityOK (kwr h 0 15 v) a A RL n c dn en := by
  obtain ⟨k1, k2, RLc, k3, k4⟩ := k
  refine ⟨k1, k2, RLc, ?_, k4⟩
  rcases k3 with ⟨h1, h2⟩ | ⟨o, hr, L, hO, hq, hq8, hl⟩
  · exact Or.inl ⟨(kwr_b ha).trans h1, h2⟩
  · have ho : 75 ≤ o := hO.2.2.2.2.2.2.2.2.2.1
    have o0 : o ≠ 0 := by omega
    obtain ⟨p1, p2, p3, p4, p5, p6, p7, p8, p9, p10, p11⟩ := hO
    exact Or.inr ⟨o, (kwr_b ha).trans hr, L, ⟨p1, p2, p3, p4, p5, (kwr_b o0).trans p6, (kwr_b o0).trans p7, (kwr_b o0).trans p8, (kwr_b o0).trans p9, p10, p11⟩, hq, hq8, hl⟩
theorem reps_15 {h : KH} {v r : Option Nat} {S : Nat → Int32} {RP : List (Nat × Nat × Nat)} (hr : reps h r S RP) : reps (kwr h 0 15 v) r S RP :=
  ⟨crep_fr (h := h) (k := kwr h 0 15 v) (Nat.le_refl _) (fun _ _ _ => rfl) (fun c i hc _ => kwr_b (by omega)) (fun _ _ _ => rfl) RP r hr.1, hr.2⟩
theorem inv_act {P : Nat → Prop} {h z : KH} (v : Option Nat) (hi : Inv h) (f : Fr P noP (kwr h 0 15 v) z) (p : ∀ c, P c → (49 ≤ c ∧ c ≤ 58) ∨ c = 59 ∨ c = 74) (e : ∀ q, q < 29 → z.2.2.1 59 q = h.2.2.1 59 q) (tr : traceOK z) : Inv z := by
  obtain ⟨hw, ⟨A, RL, n, c, dn, en, RP, hb, hr⟩, ho, hf⟩ := hi
  have kw : WF z := f.wf (WF_15 hw) (fun y => y)
  have np : ∀ c, ¬ ((49 ≤ c ∧ c ≤ 58) ∨ c = 59 ∨ c = 74) → ¬ P c := fun c hc y => hc (p c y)
  have c1 := city_fr (city_15 (v := v) (by decide) hb.1) f (np 1 (by omega)) (np 2 (by omega)) (fun y => y)
  have i60 : z.2.2.1 60 = h.2.2.1 60 := f.2.2.1 60 (Or.inl (np 60 (by omega)))
  have r1 : reps z (z.2.1 1 11) (z.2.2.1 60) RP := by
    rw [f.2.2.2 1 11 (Or.inl (Or.inl (fun y => y))), kwr_b (by decide)]
    exact reps_fr (reps_15 (v := v) hr) f (fun m _ => by rw [i60])
  have i0 : z.2.2.1 0 = h.2.2.1 0 := f.2.2.1 0 (Or.inl (np 0 (by omega)))
  refine ⟨kw, ⟨A, RL, n, c, dn, en, RP, ⟨c1, refOK_eq hb.2 i60⟩, r1⟩, ⟨?_, ?_, ?_, fun s hs => ?_, fun s hs => ?_, tr⟩, fun a ha o eo => ?_⟩
  · have o1 := ho.1
    unfold keptOK at o1 ⊢
    rcases o1 with o1 | ⟨a1, a2, A4, RL4, n4, c4, dn4, en4, RP4, a3, a4, a5⟩
    · exact Or.inl ⟨by rw [i0]; exact o1.1, (e 3 (by decide)).trans o1.2⟩
    · refine Or.inr ⟨by rw [i0]; exact a1, (e 3 (by decide)).trans a2, A4, RL4, n4, c4, dn4, en4, RP4, city_fr (city_15 (v := v) (by decide) a3) f (np 4 (by omega)) (np 5 (by omega)) (fun y => y), ?_, ?_⟩
      · rw [f.2.2.1 61 (Or.inl (np 61 (by omega)))]
        exact a4
      · rw [f.2.2.2 4 11 (Or.inl (Or.inl (fun y => y))), kwr_b (by decide), f.2.2.1 61 (Or.inl (np 61 (by omega)))]
        exact reps_fr (reps_15 (v := v) a5) f (fun _ _ => rfl)
  · obtain ⟨T, hT⟩ := ho.2.1
    exact ⟨T, tape_fr (h := kwr h 0 15 v) hT f ⟨np 29 (by omega), np 30 (by omega), np 63 (by omega)⟩ (e 5 (by decide))⟩
  · obtain ⟨R, hR⟩ := ho.2.2.1
    exact ⟨R, rows_fr (h := kwr h 0 15 v) hR f (fun c hc => by have := p c hc; omega) (by rw [i0]; rfl) (e 20 (by decide))⟩
  · exact sheet_fr (h := kwr h 0 15 v) hs (ho.2.2.2.1 s hs) f (fun c hc => by have := p c hc; omega)
  · exact shelf_fr (h := kwr h 0 15 v) (ho.2.2.2.2.1 s hs) f (fun c hc => by have := p c hc; omega)
  · rw [f.2.1]
    refine hf a ha o ?_
    rw [← eo, f.2.2.2 a 10 (Or.inl (Or.inl (fun y => y))), kwr_b (by omega)]
theorem JI_act0 {h : KH} (hi : Inv h) {v w x : Int32} (hC : Wp 15 161 5 [some (.ref 0), some (.int v), some (.int w), some (.int x), none, none, none] [] (kwr h 0 15 none) (fun o => o = (some (.int 0), kwr h 0 15 none))) (hM : Wp 15 284 5 [some (.ref 59), some (.int v), some (.int w), some (.int x), none, none] [] (kwi (kwr h 0 15 none) 59 29 0) (fun o => o = (some (.int 0), kwi (kwr h 0 15 none) 59 29 0))) : JI h 161 [.ref 0, .int v, .int w, .int x] 284 [.ref 59, .int v, .int w, .int x] := by
  have hw := hi.1
  refine ⟨0, t_ac hw (by decide) (hC.post ?_)⟩
  rintro o rfl
  refine ⟨_, rfl, t_am (WF_15 hw) (by decide) (hM.post ?_)⟩
  rintro o2 rfl
  refine ⟨_, rfl, inv_act (P := fun c => c = 59) none hi (fr_kwi rfl (by decide)) (fun c hc => by omega) (fun q hq => by rw [kwi_o (by omega)]; rfl) (Or.inl ⟨(show (kwr h 0 15 none).2.1 0 15 = none from kwr_s), kwi_s⟩), Nat.le_add_right _ _, Nat.le_add_right _ _, ?_⟩
  intro c hc
  exact ⟨rfl, kwi_r (by omega)⟩
theorem JI_actH {h : KH} (hi : Inv h) {s i t : Nat} {w x a kI val : Int32} {L : List Int32} {p : Bool} (ht : thingA t) (hi6 : i < 6) (ca : h.2.2.1 2 (4 * i + 3) = a) (mk : h.2.2.1 60 (11 + 4 * i + 0) = kI) (ma : h.2.2.1 60 (11 + 4 * i + 3) = a)
    (hS : ∀ Q : KO → Prop, Wp 15 161 79 [some (.ref 0), some (.int (Int32.ofNat s)), some (.int w), some (.int x), some (.int (Int32.ofNat i)), some (.int kI), none] [] (kwr (kwr h 0 15 none) 0 15 (some t)) Q → Wp 15 161 5 [some (.ref 0), some (.int (Int32.ofNat s)), some (.int w), some (.int x), none, none, none] [] (kwr h 0 15 none) Q)
    (hC : ∀ (Q : KO → Prop) (H : KH), WF H → H.2.1 0 15 = some t → H.2.2.1 2 (4 * i + 3) = a → (∀ k1, Fr (pTh t) noP H k1 → thO k1 t [] false (Int32.ofNat i) a → ∀ k2, Fr (pTh t) noP k1 k2 → thO k2 t L p (Int32.ofNat i) a → Q (some (.int val), k2)) → Wp 15 161 79 [some (.ref 0), some (.int (Int32.ofNat s)), some (.int w), some (.int x), some (.int (Int32.ofNat i)), some (.int kI), none] [] H Q)
    (hT : ∀ (Q : KO → Prop) (H : KH), WF H → H.2.2.1 60 = h.2.2.1 60 → H.2.2.1 71 = h.2.2.1 71 → H.2.2.1 72 = h.2.2.1 72 → Wp 15 284 44 [some (.ref 59), some (.int (Int32.ofNat s)), some (.int w), some (.int x), some (.int (Int32.ofNat i)), none] [] (kwi H 59 30 0) Q → Wp 15 284 5 [some (.ref 59), some (.int (Int32.ofNat s)), some (.int w), some (.int x), none, none] [] H Q)
    (hM : ∀ (Q : KO → Prop) (H : KH), WF H → rsO H [] false i kI a → (∀ k1, FA H k1 → rsO k1 L p i kI a → Q (some (.int val), k1)) → Wp 15 284 44 [some (.ref 59), some (.int (Int32.ofNat s)), some (.int w), some (.int x), some (.int (Int32.ofNat i)), none] [] H Q) : JI h 161 [.ref 0, .int (Int32.ofNat s), .int w, .int x] 284 [.ref 59, .int (Int32.ofNat s), .int w, .int x] := by
  have hw := hi.1
  have tb : 49 ≤ t ∧ t ≤ 57 := thing_le ht
  refine ⟨val, t_ac hw (by decide) (hS _ ?_)⟩
  rw [kwr_kwr]
  refine hC _ _ (WF_15 hw) kwr_s ca (fun k1 f1 g1 k2 f2 g2 => ?_)
  have fk := f1.trans f2
  have k2w : WF k2 := fk.wf (WF_15 hw) (fun y => y)
  have i2 : ∀ c, c = 59 ∨ c = 60 ∨ c = 71 ∨ c = 72 ∨ c = 74 → k2.2.2.1 c = h.2.2.1 c := fun c hc => fk.2.2.1 c (Or.inl (by unfold pTh; omega))
  have i3 : ∀ c, c = 60 ∨ c = 71 ∨ c = 72 → (kwi k2 59 29 0).2.2.1 c = h.2.2.1 c := fun c hc => (kwi_r (by omega)).trans (i2 c (by omega))
  refine ⟨k2, rfl, t_am k2w (by decide) (hT _ _ (WF_i k2w) (i3 60 (by omega)) (i3 71 (by omega)) (i3 72 (by omega)) (hM _ _ (WF_i (WF_i k2w)) ⟨by decide, ?_, fun q hq => absurd hq (Nat.not_lt_zero q), kwi_s, hi6, ?_, ?_⟩ (fun z fz gz => ?_)))⟩
  · rw [kwi_o (by decide), kwi_s]
    rfl
  · rw [kwi_r (by decide), kwi_r (by decide), i2 60 (by omega)]
    exact mk
  · rw [kwi_r (by decide), kwi_r (by decide), i2 60 (by omega)]
    exact ma
  · have fA : Fr (fun c => pTh t c ∨ pTr c) noP (kwr h 0 15 (some t)) z := (fk.mono (fun c y => Or.inl y) (fun _ y => y)).trans ((((fr_kwi (P := pTr) (R := noP) (Or.inl rfl) (by decide)).trans (fr_kwi (Or.inl rfl) (by decide))).trans fz.1).mono (fun c y => Or.inr y) (fun _ y => y))
    have r15 : z.2.1 0 15 = some t := (fA.2.2.2 0 15 (Or.inl (Or.inl (fun y => y)))).trans kwr_s
    have it : ∀ c, c = t ∨ c = t + 1 → z.2.2.1 c = k2.2.2.1 c := fun c hc => by
      rw [fz.1.2.2.1 c (Or.inl (by unfold pTr; omega)), kwi_r (by omega), kwi_r (by omega)]
    refine ⟨z, rfl, inv_act (some t) hi fA (fun c hc => by unfold pTh pTr at hc; omega) (fun q hq => ?_) (Or.inr ⟨t, L.length, ht, r15, g2.1, by rw [it t (Or.inl rfl)]; exact g2.2.1, gz.2.1, fun q hq => ?_⟩), ?_, ?_, ?_⟩
    · rw [fz.2 q (Or.inl hq), kwi_o (by omega), kwi_o (by omega), i2 59 (by omega)]
    · rw [it (t + 1) (Or.inr rfl), g2.2.2.1 q hq, gz.2.2.1 q hq]
    · rw [fA.2.1]
      exact Nat.le_add_right _ _
    · rw [fA.2.1]
      exact Nat.le_add_right _ _
    · intro c hc
      exact ⟨by rw [fA.1]; rfl, fA.2.2.1 c (Or.inr (by omega))⟩
theorem J_actK1 {h : KH} (hi : Inv h) {s i : Nat} (hs : s < 4) (qs : inB (Int32.ofNat s) 0 3 = true) {x a : Int32} {A : Nat → Int32} {RL : List Rul} {n c dn en : Nat} (hb : both h A RL n c dn en) (h45 : h.2.2.1 45 s = 0) (h71 : h.2.2.1 71 s = 0) (hi6 : i < 6) (h46 : h.2.2.1 46 s = Int32.ofNat i) (h72 : h.2.2.1 72 s = Int32.ofNat i) (qx : inB (Int32.ofNat i) 0 ((n : Int) - 1) = true) (ni2 : 0 ≤ Int32.ofNat i) (ck : h.2.2.1 2 (4 * i + 0) = 1) (ca : h.2.2.1 2 (4 * i + 3) = a) (mk : h.2.2.1 60 (11 + 4 * i + 0) = 1) (ma : h.2.2.1 60 (11 + 4 * i + 3) = a) {q : Nat} (hq : q < 4) : JI h 161 [.ref 0, .int (Int32.ofNat s), .int (Int32.ofNat q), .int x] 284 [.ref 59, .int (Int32.ofNat s), .int (Int32.ofNat q), .int x] := by
  have hw := hi.1
  have cs : q = 0 ∨ q = 1 ∨ q = 2 ∨ q = 3 := by omega
  have hT : ∀ (w : Int32), inB w 0 3 = true → ∀ (Q : KO → Prop) (H : KH), WF H → H.2.2.1 60 = h.2.2.1 60 → H.2.2.1 71 = h.2.2.1 71 → H.2.2.1 72 = h.2.2.1 72 → Wp 15 284 44 [some (.ref 59), some (.int (Int32.ofNat s)), some (.int w), some (.int x), some (.int (Int32.ofNat i)), none] [] (kwi H 59 30 0) Q → Wp 15 284 5 [some (.ref 59), some (.int (Int32.ofNat s)), some (.int w), some (.int x), none, none] [] H Q := fun w q3 Q H Hw e60 e71 e72 hQ => t_am6 Hw hs qs q3 (refOK_eq hb.2 e60) (by rw [e71]; exact h71) (by rw [e72]; exact h72) qx (by decide) hQ
  have hS : ∀ (w : Int32), ¬ w < 0 → w ≤ 3 → ∀ Q : KO → Prop, Wp 15 161 79 [some (.ref 0), some (.int (Int32.ofNat s)), some (.int w), some (.int x), some (.int (Int32.ofNat i)), some (.int 1), none] [] (kwr (kwr h 0 15 none) 0 15 (some 49)) Q → Wp 15 161 5 [some (.ref 0), some (.int (Int32.ofNat s)), some (.int w), some (.int x), none, none, none] [] (kwr h 0 15 none) Q := fun w m0 m3 Q hQ => t_ac6_1 (WF_15 hw) hs qs m0 m3 (city_15 (by decide) hb.1) h45 hi6 h46 qx ni2 ck (by decide) hQ
  rcases cs with rfl | rfl | rfl | rfl
  · exact JI_actH hi (t := 49) (by unfold thingA; decide) hi6 ca mk ma (hS 0 (by decide) (by decide)) (fun Q H Hw r15 ha hQ => t_ad10 Hw hi6 r15 ha (by decide) hQ) (hT 0 (by decide)) (fun Q H Hw s0 hQ => t_ae10 Hw s0 (by decide) hQ)
  · exact JI_actH hi (t := 49) (by unfold thingA; decide) hi6 ca mk ma (hS 1 (by decide) (by decide)) (fun Q H Hw r15 ha hQ => t_ad11 Hw hi6 r15 ha (by decide) hQ) (hT 1 (by decide)) (fun Q H Hw s0 hQ => t_ae11 Hw s0 (by decide) hQ)
  · by_cases e0 : a - Int32.ofNat i = 0
    · exact JI_actH hi (t := 49) (by unfold thingA; decide) hi6 ca mk ma (hS 2 (by decide) (by decide)) (fun Q H Hw r15 ha hQ => t_ad120 Hw hi6 r15 ha e0 (by decide) hQ) (hT 2 (by decide)) (fun Q H Hw s0 hQ => t_ae120 Hw s0 e0 (by decide) hQ)
    · exact JI_actH hi (t := 49) (by unfold thingA; decide) hi6 ca mk ma (hS 2 (by decide) (by decide)) (fun Q H Hw r15 ha hQ => t_ad121 Hw hi6 r15 ha e0 (by decide) hQ) (hT 2 (by decide)) (fun Q H Hw s0 hQ => t_ae121 Hw s0 e0 (by decide) hQ)
  · by_cases e0 : a - Int32.ofNat i = 0
    · exact JI_actH hi (t := 49) (by unfold thingA; decide) hi6 ca mk ma (hS 3 (by decide) (by decide)) (fun Q H Hw r15 ha hQ => t_ad130 Hw hi6 r15 ha e0 (by decide) hQ) (hT 3 (by decide)) (fun Q H Hw s0 hQ => t_ae130 Hw s0 e0 (by decide) hQ)
    · exact JI_actH hi (t := 49) (by unfold thingA; decide) hi6 ca mk ma (hS 3 (by decide) (by decide)) (fun Q H Hw r15 ha hQ => t_ad131 Hw hi6 r15 ha e0 (by decide) hQ) (hT 3 (by decide)) (fun Q H Hw s0 hQ => t_ae131 Hw s0 e0 (by decide) hQ)
theorem J_actK2 {h : KH} (hi : Inv h) {s i : Nat} (hs : s < 4) (qs : inB (Int32.ofNat s) 0 3 = true) {x a : Int32} {A : Nat → Int32} {RL : List Rul} {n c dn en : Nat} (hb : both h A RL n c dn en) (h45 : h.2.2.1 45 s = 0) (h71 : h.2.2.1 71 s = 0) (hi6 : i < 6) (h46 : h.2.2.1 46 s = Int32.ofNat i) (h72 : h.2.2.1 72 s = Int32.ofNat i) (qx : inB (Int32.ofNat i) 0 ((n : Int) - 1) = true) (ni2 : 0 ≤ Int32.ofNat i) (ck : h.2.2.1 2 (4 * i + 0) = 2) (ca : h.2.2.1 2 (4 * i + 3) = a) (mk : h.2.2.1 60 (11 + 4 * i + 0) = 2) (ma : h.2.2.1 60 (11 + 4 * i + 3) = a) {q : Nat} (hq : q < 4) : JI h 161 [.ref 0, .int (Int32.ofNat s), .int (Int32.ofNat q), .int x] 284 [.ref 59, .int (Int32.ofNat s), .int (Int32.ofNat q), .int x] := by
  have hw := hi.1
  have cs : q = 0 ∨ q = 1 ∨ q = 2 ∨ q = 3 := by omega
  have hT : ∀ (w : Int32), inB w 0 3 = true → ∀ (Q : KO → Prop) (H : KH), WF H → H.2.2.1 60 = h.2.2.1 60 → H.2.2.1 71 = h.2.2.1 71 → H.2.2.1 72 = h.2.2.1 72 → Wp 15 284 44 [some (.ref 59), some (.int (Int32.ofNat s)), some (.int w), some (.int x), some (.int (Int32.ofNat i)), none] [] (kwi H 59 30 0) Q → Wp 15 284 5 [some (.ref 59), some (.int (Int32.ofNat s)), some (.int w), some (.int x), none, none] [] H Q := fun w q3 Q H Hw e60 e71 e72 hQ => t_am6 Hw hs qs q3 (refOK_eq hb.2 e60) (by rw [e71]; exact h71) (by rw [e72]; exact h72) qx (by decide) hQ
  have hS : ∀ (w : Int32), ¬ w < 0 → w ≤ 3 → ∀ Q : KO → Prop, Wp 15 161 79 [some (.ref 0), some (.int (Int32.ofNat s)), some (.int w), some (.int x), some (.int (Int32.ofNat i)), some (.int 2), none] [] (kwr (kwr h 0 15 none) 0 15 (some 51)) Q → Wp 15 161 5 [some (.ref 0), some (.int (Int32.ofNat s)), some (.int w), some (.int x), none, none, none] [] (kwr h 0 15 none) Q := fun w m0 m3 Q hQ => t_ac6_2 (WF_15 hw) hs qs m0 m3 (city_15 (by decide) hb.1) h45 hi6 h46 qx ni2 ck (by decide) hQ
  rcases cs with rfl | rfl | rfl | rfl
  · exact JI_actH hi (t := 51) (by unfold thingA; decide) hi6 ca mk ma (hS 0 (by decide) (by decide)) (fun Q H Hw r15 ha hQ => t_ad20 Hw hi6 r15 ha (by decide) hQ) (hT 0 (by decide)) (fun Q H Hw s0 hQ => t_ae20 Hw s0 (by decide) hQ)
  · exact JI_actH hi (t := 51) (by unfold thingA; decide) hi6 ca mk ma (hS 1 (by decide) (by decide)) (fun Q H Hw r15 ha hQ => t_ad21 Hw hi6 r15 ha (by decide) hQ) (hT 1 (by decide)) (fun Q H Hw s0 hQ => t_ae21 Hw s0 (by decide) hQ)
  · by_cases e0 : a - Int32.ofNat i = 0
    · exact JI_actH hi (t := 51) (by unfold thingA; decide) hi6 ca mk ma (hS 2 (by decide) (by decide)) (fun Q H Hw r15 ha hQ => t_ad220 Hw hi6 r15 ha e0 (by decide) hQ) (hT 2 (by decide)) (fun Q H Hw s0 hQ => t_ae220 Hw s0 e0 (by decide) hQ)
    · exact JI_actH hi (t := 51) (by unfold thingA; decide) hi6 ca mk ma (hS 2 (by decide) (by decide)) (fun Q H Hw r15 ha hQ => t_ad221 Hw hi6 r15 ha e0 (by decide) hQ) (hT 2 (by decide)) (fun Q H Hw s0 hQ => t_ae221 Hw s0 e0 (by decide) hQ)
  · by_cases e0 : a - Int32.ofNat i = 0
    · exact JI_actH hi (t := 51) (by unfold thingA; decide) hi6 ca mk ma (hS 3 (by decide) (by decide)) (fun Q H Hw r15 ha hQ => t_ad230 Hw hi6 r15 ha e0 (by decide) hQ) (hT 3 (by decide)) (fun Q H Hw s0 hQ => t_ae230 Hw s0 e0 (by decide) hQ)
    · exact JI_actH hi (t := 51) (by unfold thingA; decide) hi6 ca mk ma (hS 3 (by decide) (by decide)) (fun Q H Hw r15 ha hQ => t_ad231 Hw hi6 r15 ha e0 (by decide) hQ) (hT 3 (by decide)) (fun Q H Hw s0 hQ => t_ae231 Hw s0 e0 (by decide) hQ)
theorem J_actK3 {h : KH} (hi : Inv h) {s i : Nat} (hs : s < 4) (qs : inB (Int32.ofNat s) 0 3 = true) {x a : Int32} {A : Nat → Int32} {RL : List Rul} {n c dn en : Nat} (hb : both h A RL n c dn en) (h45 : h.2.2.1 45 s = 0) (h71 : h.2.2.1 71 s = 0) (hi6 : i < 6) (h46 : h.2.2.1 46 s = Int32.ofNat i) (h72 : h.2.2.1 72 s = Int32.ofNat i) (qx : inB (Int32.ofNat i) 0 ((n : Int) - 1) = true) (ni2 : 0 ≤ Int32.ofNat i) (ck : h.2.2.1 2 (4 * i + 0) = 3) (ca : h.2.2.1 2 (4 * i + 3) = a) (mk : h.2.2.1 60 (11 + 4 * i + 0) = 3) (ma : h.2.2.1 60 (11 + 4 * i + 3) = a) {q : Nat} (hq : q < 4) : JI h 161 [.ref 0, .int (Int32.ofNat s), .int (Int32.ofNat q), .int x] 284 [.ref 59, .int (Int32.ofNat s), .int (Int32.ofNat q), .int x] := by
  have hw := hi.1
  have cs : q = 0 ∨ q = 1 ∨ q = 2 ∨ q = 3 := by omega
  have hT : ∀ (w : Int32), inB w 0 3 = true → ∀ (Q : KO → Prop) (H : KH), WF H → H.2.2.1 60 = h.2.2.1 60 → H.2.2.1 71 = h.2.2.1 71 → H.2.2.1 72 = h.2.2.1 72 → Wp 15 284 44 [some (.ref 59), some (.int (Int32.ofNat s)), some (.int w), some (.int x), some (.int (Int32.ofNat i)), none] [] (kwi H 59 30 0) Q → Wp 15 284 5 [some (.ref 59), some (.int (Int32.ofNat s)), some (.int w), some (.int x), none, none] [] H Q := fun w q3 Q H Hw e60 e71 e72 hQ => t_am6 Hw hs qs q3 (refOK_eq hb.2 e60) (by rw [e71]; exact h71) (by rw [e72]; exact h72) qx (by decide) hQ
  have hS : ∀ (w : Int32), ¬ w < 0 → w ≤ 3 → ∀ Q : KO → Prop, Wp 15 161 79 [some (.ref 0), some (.int (Int32.ofNat s)), some (.int w), some (.int x), some (.int (Int32.ofNat i)), some (.int 3), none] [] (kwr (kwr h 0 15 none) 0 15 (some 53)) Q → Wp 15 161 5 [some (.ref 0), some (.int (Int32.ofNat s)), some (.int w), some (.int x), none, none, none] [] (kwr h 0 15 none) Q := fun w m0 m3 Q hQ => t_ac6_3 (WF_15 hw) hs qs m0 m3 (city_15 (by decide) hb.1) h45 hi6 h46 qx ni2 ck (by decide) hQ
  rcases cs with rfl | rfl | rfl | rfl
  · exact JI_actH hi (t := 53) (by unfold thingA; decide) hi6 ca mk ma (hS 0 (by decide) (by decide)) (fun Q H Hw r15 ha hQ => t_ad30 Hw hi6 r15 ha (by decide) hQ) (hT 0 (by decide)) (fun Q H Hw s0 hQ => t_ae30 Hw s0 (by decide) hQ)
  · exact JI_actH hi (t := 53) (by unfold thingA; decide) hi6 ca mk ma (hS 1 (by decide) (by decide)) (fun Q H Hw r15 ha hQ => t_ad31 Hw hi6 r15 ha (by decide) hQ) (hT 1 (by decide)) (fun Q H Hw s0 hQ => t_ae31 Hw s0 (by decide) hQ)
  · by_cases e0 : a - Int32.ofNat i = 0
    · exact JI_actH hi (t := 53) (by unfold thingA; decide) hi6 ca mk ma (hS 2 (by decide) (by decide)) (fun Q H Hw r15 ha hQ => t_ad320 Hw hi6 r15 ha e0 (by decide) hQ) (hT 2 (by decide)) (fun Q H Hw s0 hQ => t_ae320 Hw s0 e0 (by decide) hQ)
    · exact JI_actH hi (t := 53) (by unfold thingA; decide) hi6 ca mk ma (hS 2 (by decide) (by decide)) (fun Q H Hw r15 ha hQ => t_ad321 Hw hi6 r15 ha e0 (by decide) hQ) (hT 2 (by decide)) (fun Q H Hw s0 hQ => t_ae321 Hw s0 e0 (by decide) hQ)
  · by_cases e0 : a - Int32.ofNat i = 0
    · exact JI_actH hi (t := 53) (by unfold thingA; decide) hi6 ca mk ma (hS 3 (by decide) (by decide)) (fun Q H Hw r15 ha hQ => t_ad330 Hw hi6 r15 ha e0 (by decide) hQ) (hT 3 (by decide)) (fun Q H Hw s0 hQ => t_ae330 Hw s0 e0 (by decide) hQ)
    · exact JI_actH hi (t := 53) (by unfold thingA; decide) hi6 ca mk ma (hS 3 (by decide) (by decide)) (fun Q H Hw r15 ha hQ => t_ad331 Hw hi6 r15 ha e0 (by decide) hQ) (hT 3 (by decide)) (fun Q H Hw s0 hQ => t_ae331 Hw s0 e0 (by decide) hQ)
theorem J_actK4 {h : KH} (hi : Inv h) {s i : Nat} (hs : s < 4) (qs : inB (Int32.ofNat s) 0 3 = true) {x a : Int32} {A : Nat → Int32} {RL : List Rul} {n c dn en : Nat} (hb : both h A RL n c dn en) (h45 : h.2.2.1 45 s = 0) (h71 : h.2.2.1 71 s = 0) (hi6 : i < 6) (h46 : h.2.2.1 46 s = Int32.ofNat i) (h72 : h.2.2.1 72 s = Int32.ofNat i) (qx : inB (Int32.ofNat i) 0 ((n : Int) - 1) = true) (ni2 : 0 ≤ Int32.ofNat i) (ck : h.2.2.1 2 (4 * i + 0) = 4) (ca : h.2.2.1 2 (4 * i + 3) = a) (mk : h.2.2.1 60 (11 + 4 * i + 0) = 4) (ma : h.2.2.1 60 (11 + 4 * i + 3) = a) {q : Nat} (hq : q < 4) : JI h 161 [.ref 0, .int (Int32.ofNat s), .int (Int32.ofNat q), .int x] 284 [.ref 59, .int (Int32.ofNat s), .int (Int32.ofNat q), .int x] := by
  have hw := hi.1
  have cs : q = 0 ∨ q = 1 ∨ q = 2 ∨ q = 3 := by omega
  have hT : ∀ (w : Int32), inB w 0 3 = true → ∀ (Q : KO → Prop) (H : KH), WF H → H.2.2.1 60 = h.2.2.1 60 → H.2.2.1 71 = h.2.2.1 71 → H.2.2.1 72 = h.2.2.1 72 → Wp 15 284 44 [some (.ref 59), some (.int (Int32.ofNat s)), some (.int w), some (.int x), some (.int (Int32.ofNat i)), none] [] (kwi H 59 30 0) Q → Wp 15 284 5 [some (.ref 59), some (.int (Int32.ofNat s)), some (.int w), some (.int x), none, none] [] H Q := fun w q3 Q H Hw e60 e71 e72 hQ => t_am6 Hw hs qs q3 (refOK_eq hb.2 e60) (by rw [e71]; exact h71) (by rw [e72]; exact h72) qx (by decide) hQ
  have hS : ∀ (w : Int32), ¬ w < 0 → w ≤ 3 → ∀ Q : KO → Prop, Wp 15 161 79 [some (.ref 0), some (.int (Int32.ofNat s)), some (.int w), some (.int x), some (.int (Int32.ofNat i)), some (.int 4), none] [] (kwr (kwr h 0 15 none) 0 15 (some 55)) Q → Wp 15 161 5 [some (.ref 0), some (.int (Int32.ofNat s)), some (.int w), some (.int x), none, none, none] [] (kwr h 0 15 none) Q := fun w m0 m3 Q hQ => t_ac6_4 (WF_15 hw) hs qs m0 m3 (city_15 (by decide) hb.1) h45 hi6 h46 qx ni2 ck (by decide) hQ
  rcases cs with rfl | rfl | rfl | rfl
  · exact JI_actH hi (t := 55) (by unfold thingA; decide) hi6 ca mk ma (hS 0 (by decide) (by decide)) (fun Q H Hw r15 ha hQ => t_ad40 Hw hi6 r15 ha (by decide) hQ) (hT 0 (by decide)) (fun Q H Hw s0 hQ => t_ae40 Hw s0 (by decide) hQ)
  · exact JI_actH hi (t := 55) (by unfold thingA; decide) hi6 ca mk ma (hS 1 (by decide) (by decide)) (fun Q H Hw r15 ha hQ => t_ad41 Hw hi6 r15 ha (by decide) hQ) (hT 1 (by decide)) (fun Q H Hw s0 hQ => t_ae41 Hw s0 (by decide) hQ)
  · by_cases e0 : a - Int32.ofNat i = 0
    · exact JI_actH hi (t := 55) (by unfold thingA; decide) hi6 ca mk ma (hS 2 (by decide) (by decide)) (fun Q H Hw r15 ha hQ => t_ad420 Hw hi6 r15 ha e0 (by decide) hQ) (hT 2 (by decide)) (fun Q H Hw s0 hQ => t_ae420 Hw s0 e0 (by decide) hQ)
    · exact JI_actH hi (t := 55) (by unfold thingA; decide) hi6 ca mk ma (hS 2 (by decide) (by decide)) (fun Q H Hw r15 ha hQ => t_ad421 Hw hi6 r15 ha e0 (by decide) hQ) (hT 2 (by decide)) (fun Q H Hw s0 hQ => t_ae421 Hw s0 e0 (by decide) hQ)
  · by_cases e0 : a - Int32.ofNat i = 0
    · exact JI_actH hi (t := 55) (by unfold thingA; decide) hi6 ca mk ma (hS 3 (by decide) (by decide)) (fun Q H Hw r15 ha hQ => t_ad430 Hw hi6 r15 ha e0 (by decide) hQ) (hT 3 (by decide)) (fun Q H Hw s0 hQ => t_ae430 Hw s0 e0 (by decide) hQ)
    · exact JI_actH hi (t := 55) (by unfold thingA; decide) hi6 ca mk ma (hS 3 (by decide) (by decide)) (fun Q H Hw r15 ha hQ => t_ad431 Hw hi6 r15 ha e0 (by decide) hQ) (hT 3 (by decide)) (fun Q H Hw s0 hQ => t_ae431 Hw s0 e0 (by decide) hQ)
theorem J_actK5 {h : KH} (hi : Inv h) {s i : Nat} (hs : s < 4) (qs : inB (Int32.ofNat s) 0 3 = true) {x a : Int32} {A : Nat → Int32} {RL : List Rul} {n c dn en : Nat} (hb : both h A RL n c dn en) (h45 : h.2.2.1 45 s = 0) (h71 : h.2.2.1 71 s = 0) (hi6 : i < 6) (h46 : h.2.2.1 46 s = Int32.ofNat i) (h72 : h.2.2.1 72 s = Int32.ofNat i) (qx : inB (Int32.ofNat i) 0 ((n : Int) - 1) = true) (ni2 : 0 ≤ Int32.ofNat i) (ck : h.2.2.1 2 (4 * i + 0) = 5) (ca : h.2.2.1 2 (4 * i + 3) = a) (mk : h.2.2.1 60 (11 + 4 * i + 0) = 5) (ma : h.2.2.1 60 (11 + 4 * i + 3) = a) {q : Nat} (hq : q < 4) : JI h 161 [.ref 0, .int (Int32.ofNat s), .int (Int32.ofNat q), .int x] 284 [.ref 59, .int (Int32.ofNat s), .int (Int32.ofNat q), .int x] := by
  have hw := hi.1
  have cs : q = 0 ∨ q = 1 ∨ q = 2 ∨ q = 3 := by omega
  have hT : ∀ (w : Int32), inB w 0 3 = true → ∀ (Q : KO → Prop) (H : KH), WF H → H.2.2.1 60 = h.2.2.1 60 → H.2.2.1 71 = h.2.2.1 71 → H.2.2.1 72 = h.2.2.1 72 → Wp 15 284 44 [some (.ref 59), some (.int (Int32.ofNat s)), some (.int w), some (.int x), some (.int (Int32.ofNat i)), none] [] (kwi H 59 30 0) Q → Wp 15 284 5 [some (.ref 59), some (.int (Int32.ofNat s)), some (.int w), some (.int x), none, none] [] H Q := fun w q3 Q H Hw e60 e71 e72 hQ => t_am6 Hw hs qs q3 (refOK_eq hb.2 e60) (by rw [e71]; exact h71) (by rw [e72]; exact h72) qx (by decide) hQ
  have hS : ∀ (w : Int32), ¬ w < 0 → w ≤ 3 → ∀ Q : KO → Prop, Wp 15 161 79 [some (.ref 0), some (.int (Int32.ofNat s)), some (.int w), some (.int x), some (.int (Int32.ofNat i)), some (.int 5), none] [] (kwr (kwr h 0 15 none) 0 15 (some 57)) Q → Wp 15 161 5 [some (.ref 0), some (.int (Int32.ofNat s)), some (.int w), some (.int x), none, none, none] [] (kwr h 0 15 none) Q := fun w m0 m3 Q hQ => t_ac6_5 (WF_15 hw) hs qs m0 m3 (city_15 (by decide) hb.1) h45 hi6 h46 qx ni2 ck (by decide) hQ
  rcases cs with rfl | rfl | rfl | rfl
  · exact JI_actH hi (t := 57) (by unfold thingA; decide) hi6 ca mk ma (hS 0 (by decide) (by decide)) (fun Q H Hw r15 ha hQ => t_ad50 Hw hi6 r15 ha (by decide) hQ) (hT 0 (by decide)) (fun Q H Hw s0 hQ => t_ae50 Hw s0 (by decide) hQ)
  · exact JI_actH hi (t := 57) (by unfold thingA; decide) hi6 ca mk ma (hS 1 (by decide) (by decide)) (fun Q H Hw r15 ha hQ => t_ad51 Hw hi6 r15 ha (by decide) hQ) (hT 1 (by decide)) (fun Q H Hw s0 hQ => t_ae51 Hw s0 (by decide) hQ)
  · by_cases e0 : a - Int32.ofNat i = 0
    · exact JI_actH hi (t := 57) (by unfold thingA; decide) hi6 ca mk ma (hS 2 (by decide) (by decide)) (fun Q H Hw r15 ha hQ => t_ad520 Hw hi6 r15 ha e0 (by decide) hQ) (hT 2 (by decide)) (fun Q H Hw s0 hQ => t_ae520 Hw s0 e0 (by decide) hQ)
    · exact JI_actH hi (t := 57) (by unfold thingA; decide) hi6 ca mk ma (hS 2 (by decide) (by decide)) (fun Q H Hw r15 ha hQ => t_ad521 Hw hi6 r15 ha e0 (by decide) hQ) (hT 2 (by decide)) (fun Q H Hw s0 hQ => t_ae521 Hw s0 e0 (by decide) hQ)
  · by_cases e0 : a - Int32.ofNat i = 0
    · exact JI_actH hi (t := 57) (by unfold thingA; decide) hi6 ca mk ma (hS 3 (by decide) (by decide)) (fun Q H Hw r15 ha hQ => t_ad530 Hw hi6 r15 ha e0 (by decide) hQ) (hT 3 (by decide)) (fun Q H Hw s0 hQ => t_ae530 Hw s0 e0 (by decide) hQ)
    · exact JI_actH hi (t := 57) (by unfold thingA; decide) hi6 ca mk ma (hS 3 (by decide) (by decide)) (fun Q H Hw r15 ha hQ => t_ad531 Hw hi6 r15 ha e0 (by decide) hQ) (hT 3 (by decide)) (fun Q H Hw s0 hQ => t_ae531 Hw s0 e0 (by decide) hQ)
theorem J_act {h : KH} (hi : Inv h) (v w x : Int32) : JI h 161 [.ref 0, .int v, .int w, .int x] 284 [.ref 59, .int v, .int w, .int x] := by
  have hw := hi.1
  obtain ⟨_, ⟨A, RL, n, c, dn, en, RP, hb, hr⟩, ho, hf⟩ := id hi
  have W1 : WF (kwr h 0 15 none) := WF_15 hw
  have W2 : WF (kwi (kwr h 0 15 none) 59 29 0) := WF_i W1
  have n6 : n ≤ 6 := hb.2.2.1.1
  rcases hq : inB v 0 3 with _ | _
  · exact JI_act0 hi (t_ac0 W1 hq (by decide) rfl) (t_am0 W2 hq (by decide) rfl)
  obtain ⟨s, hs0, rfl⟩ := inB_nat (b := 3) hq
  have hs : s < 4 := by omega
  rcases h3 : inB w 0 3 with _ | _
  · have nm : ¬ (0 ≤ w.toInt ∧ w.toInt ≤ 3) := of_decide_eq_false h3
    by_cases m0 : w < 0
    · exact JI_act0 hi (t_ac1 W1 hs hq m0 (by decide) rfl) (t_am1 W2 hs hq h3 (by decide) rfl)
    · refine JI_act0 hi (t_ac2 W1 hs hq m0 (fun c => ?_) (by decide) rfl) (t_am1 W2 hs hq h3 (by decide) rfl)
      have a1 := i32F (rfl : w.toInt = w.toInt) (show (0 : Int32).toInt = 0 from rfl) m0
      have a2 := i32L (rfl : w.toInt = w.toInt) (show (3 : Int32).toInt = 3 from rfl) c
      omega
  obtain ⟨q, hq3, rfl⟩ := inB_nat (b := 3) h3
  have m0 : ¬ (Int32.ofNat q < 0) := nlt (by omega)
  have m3 : Int32.ofNat q ≤ 3 := (nle (b := 3) (by omega) (by omega)).mpr hq3
  obtain ⟨s1, s2⟩ := ho.2.2.2.2.1 s hs
  have m71 : (kwi (kwr h 0 15 none) 59 29 0).2.2.1 71 = h.2.2.1 71 := kwi_r (by decide)
  have m72 : (kwi (kwr h 0 15 none) 59 29 0).2.2.1 72 = h.2.2.1 72 := kwi_r (by decide)
  have m60 : (kwi (kwr h 0 15 none) 59 29 0).2.2.1 60 = h.2.2.1 60 := kwi_r (by decide)
  rcases s2 with e | ⟨e, e2⟩ | ⟨e, e2, e3, e4⟩
  · exact JI_act0 hi (t_ac4 W1 hs hq m0 m3 e (by decide) rfl) (t_am4 W2 hs hq h3 (by rw [m71]; exact s1.symm.trans e) (by decide) rfl)
  · rcases hx : inB (h.2.2.1 46 s) 0 ((n : Int) - 1) with _ | _
    · exact JI_act0 hi (t_ac5 W1 hs hq m0 m3 (city_15 (by decide) hb.1) e rfl hx (by decide) rfl) (t_am5 W2 hs hq h3 (refOK_eq hb.2 m60) (by rw [m71]; exact s1.symm.trans e) (by rw [m72]; exact e2.symm) hx (by decide) rfl)
    · obtain ⟨i, hin, ei⟩ := inB_lt hx
      rw [ei] at hx
      have ni2 : 0 ≤ Int32.ofNat i := nlt0 (by omega)
      have ca := c_get hb.1 (j := i) (w := 0) (by omega)
      have ca3 := c_get hb.1 (j := i) (w := 3) (by omega)
      have ma := m_get hb.2 (j := i) (w := 0) (by omega)
      have ma3 := m_get hb.2 (j := i) (w := 3) (by omega)
      obtain ⟨kk, _, _, _, g1, g2, _, _, _, g6, _⟩ := okA_hand hb.1.A hin
      have k5 : kk = 1 ∨ kk = 2 ∨ kk = 3 ∨ kk = 4 ∨ kk = 5 := by omega
      have h46 : h.2.2.1 46 s = Int32.ofNat i := ei
      have h72 : h.2.2.1 72 s = Int32.ofNat i := e2.symm.trans ei
      have h71 := s1.symm.trans e
      rcases k5 with rfl | rfl | rfl | rfl | rfl
      · exact J_actK1 hi hs hq hb e h71 (by omega) h46 h72 hx ni2 (ca.trans g6) ca3 (ma.trans g6) ma3 (by omega)
      · exact J_actK2 hi hs hq hb e h71 (by omega) h46 h72 hx ni2 (ca.trans g6) ca3 (ma.trans g6) ma3 (by omega)
      · exact J_actK3 hi hs hq hb e h71 (by omega) h46 h72 hx ni2 (ca.trans g6) ca3 (ma.trans g6) ma3 (by omega)
      · exact J_actK4 hi hs hq hb e h71 (by omega) h46 h72 hx ni2 (ca.trans g6) ca3 (ma.trans g6) ma3 (by omega)
      · exact J_actK5 hi hs hq hb e h71 (by omega) h46 h72 hx ni2 (ca.trans g6) ca3 (ma.trans g6) ma3 (by omega)
  · exact JI_act0 hi (t_ac3 W1 hs hq m0 m3 e (by decide) rfl) (t_am3 W2 hs hq h3 (by rw [m71]; exact s1.symm.trans e) (by decide) rfl)
