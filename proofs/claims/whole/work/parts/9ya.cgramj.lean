/-! KM: the class: the grammar -/
def gH (h : KH) (c : Nat → Nat) (q : Nat) : KH := kwi (kwi h 29 5 (Int32.ofNat q)) 29 6 (Int32.ofNat (c q))
theorem gH_6 {h : KH} {c : Nat → Nat} {q : Nat} : (gH h c q).2.2.1 29 6 = Int32.ofNat (c q) := kwi_s
theorem gH_5 {h : KH} {c : Nat → Nat} {q : Nat} : (gH h c q).2.2.1 29 5 = Int32.ofNat q := by
  unfold gH
  rw [kwi_o (by decide), kwi_s]
theorem gH_o {h : KH} {c : Nat → Nat} {q a : Nat} (ha : a ≠ 29) : (gH h c q).2.2.1 a = h.2.2.1 a := by
  unfold gH
  rw [kwi_r ha, kwi_r ha]
theorem gH_q {h : KH} {c : Nat → Nat} {q j : Nat} (h5 : j ≠ 5) (h6 : j ≠ 6) : (gH h c q).2.2.1 29 j = h.2.2.1 29 j := by
  unfold gH
  rw [kwi_o h6, kwi_o h5]
theorem ku_2 {α : Type} (f : Nat → α) {i j : Nat} (x y x2 y2 : α) (n : i ≠ j) : ku (ku (ku (ku f i x) j y) i x2) j y2 = ku (ku f i x2) j y2 := by
  funext m
  by_cases h1 : m = j
  · subst h1
    rw [ku_s, ku_s]
  · rw [ku_n _ _ h1, ku_n _ _ h1]
    by_cases h2 : m = i
    · subst h2
      rw [ku_s, ku_s]
    · rw [ku_n _ _ h2, ku_n _ _ h1, ku_n _ _ h2, ku_n _ _ h2]
theorem kwi_at (h : KH) (a k : Nat) (x : Int32) (F : Nat → Int32) : kwi (h.1, h.2.1, ku h.2.2.1 a F, h.2.2.2) a k x = (h.1, h.2.1, ku h.2.2.1 a (ku F k x), h.2.2.2) := by
  show (h.1, h.2.1, ku (ku h.2.2.1 a F) a (ku (ku h.2.2.1 a F a) k x), h.2.2.2.1, h.2.2.2.2) = _
  rw [ku_s, ku_u]
theorem gH_e (h : KH) (c : Nat → Nat) (q : Nat) : gH h c q = (h.1, h.2.1, ku h.2.2.1 29 (ku (ku (h.2.2.1 29) 5 (Int32.ofNat q)) 6 (Int32.ofNat (c q))), h.2.2.2) := kwi_at h 29 6 _ _
theorem gH_gH (h : KH) (c : Nat → Nat) (q p : Nat) : gH (gH h c q) c p = gH h c p := by
  have e : ∀ F : Nat → Int32, gH (h.1, h.2.1, ku h.2.2.1 29 F, h.2.2.2) c p = (h.1, h.2.1, ku h.2.2.1 29 (ku (ku F 5 (Int32.ofNat p)) 6 (Int32.ofNat (c p))), h.2.2.2) := fun F => by
    unfold gH
    rw [kwi_at, kwi_at]
  rw [gH_e h c q, e, gH_e h c p, ku_2 _ _ _ _ _ (by decide)]
theorem kwi_c {h : KH} {a b i j : Nat} {x y : Int32} (n : a ≠ b) : kwi (kwi h a i x) b j y = kwi (kwi h b j y) a i x := by
  show (h.1, h.2.1, ku (ku h.2.2.1 a (ku (h.2.2.1 a) i x)) b (ku (ku h.2.2.1 a (ku (h.2.2.1 a) i x) b) j y), h.2.2.2.1, h.2.2.2.2) = (h.1, h.2.1, ku (ku h.2.2.1 b (ku (h.2.2.1 b) j y)) a (ku (ku h.2.2.1 b (ku (h.2.2.1 b) j y) a) i x), h.2.2.2.1, h.2.2.2.2)
  rw [ku_n h.2.2.1 _ n.symm, ku_n h.2.2.1 _ n, ku_c _ _ _ n]
/-- a step is laid -/
def eH (h : KH) (o z : Nat) (x : Int32) : KH := kwi (kwi h (o + 4) z x) o 5 (Int32.ofNat (z + 1))
theorem eH_gH {h : KH} {c : Nat → Nat} {q o z : Nat} {x : Int32} (ho : 75 ≤ o) : eH (gH h c q) o z x = gH (eH h o z x) c q := by
  unfold eH gH
  rw [kwi_c (a := 29) (b := o + 4) (by omega), kwi_c (a := 29) (b := o + 4) (by omega), kwi_c (a := 29) (b := o) (by omega), kwi_c (a := 29) (b := o) (by omega)]
/-- the tokens stand ready: codes and places -/
def clP (h : KH) (c b : Nat → Nat) (N : Nat) : Prop := N ≤ 200 ∧ lvT c N ∧ c N = 26 ∧ (∀ j, j ≤ N → h.2.2.1 31 j = Int32.ofNat (c j) ∧ h.2.2.1 32 j = Int32.ofNat (b j)) ∧ ∀ j, c j < 10100 ∧ (c j ≤ 27 ∨ 100 ≤ c j)
def stC (h : KH) (c b : Nat → Nat) (N o L : Nat) : Prop := WF h ∧ clP h c b N ∧ rulO h o L ∧ N ≤ L
/-- only steps are laid, and how many is told -/
def GrE (o : Nat) (h k : KH) : Prop := k.1 = h.1 ∧ k.2.1 = h.2.1 ∧ k.2.2.2 = h.2.2.2 ∧ (∀ a, a ≠ o → a ≠ o + 4 → k.2.2.1 a = h.2.2.1 a) ∧ ∀ q, q ≠ 5 → k.2.2.1 o q = h.2.2.1 o q
theorem GrE.refl (o : Nat) (h : KH) : GrE o h h := ⟨rfl, rfl, rfl, fun _ _ _ => rfl, fun _ _ => rfl⟩
theorem GrE.trans {o : Nat} {h k l : KH} (f : GrE o h k) (g : GrE o k l) : GrE o h l := ⟨g.1.trans f.1, g.2.1.trans f.2.1, g.2.2.1.trans f.2.2.1, fun a h1 h2 => (g.2.2.2.1 a h1 h2).trans (f.2.2.2.1 a h1 h2), fun q h1 => (g.2.2.2.2 q h1).trans (f.2.2.2.2 q h1)⟩
theorem wf_same {h k : KH} (hw : WF h) (e1 : k.1 = h.1) (e2 : k.2.1 = h.2.1) (e3 : k.2.2.2 = h.2.2.2) : WF k := by
  obtain ⟨w1, w2, w3, w4, w5, w6, w7⟩ := hw
  exact ⟨fun a ha => by rw [e1]; exact w1 a ha, fun q hq => by rw [e2]; exact w2 q hq, by rw [e3]; exact w3, by rw [e1]; exact w4, by rw [e1]; exact w5, by rw [e2]; exact w6, by rw [e1]; exact w7⟩
theorem rulO_same {h k : KH} {o L : Nat} (hO : rulO h o L) (e1 : k.1 = h.1) (e2 : k.2.1 = h.2.1) : rulO k o L := by
  unfold rulO at hO ⊢
  rw [e1, e2]
  exact hO
theorem rulO_75 {h : KH} {o L : Nat} (hO : rulO h o L) : 75 ≤ o ∧ L ≤ 200 := hO.2.2.2.2.2.2.2.2.2
theorem stC.gr {h k : KH} {c b : Nat → Nat} {N o L : Nat} (s : stC h c b N o L) (g : GrE o h k) : stC k c b N o L := by
  have ho := (rulO_75 s.2.2.1).1
  refine ⟨wf_same s.1 g.1 g.2.1 g.2.2.1, ⟨s.2.1.1, s.2.1.2.1, s.2.1.2.2.1, fun j hj => ?_, s.2.1.2.2.2.2⟩, rulO_same s.2.2.1 g.1 g.2.1, s.2.2.2⟩
  rw [g.2.2.2.1 31 (by omega) (by omega), g.2.2.2.1 32 (by omega) (by omega)]
  exact s.2.1.2.2.2.1 j hj
theorem eH_gr {h : KH} {o z : Nat} {x : Int32} : GrE o h (eH h o z x) := by
  refine ⟨rfl, rfl, rfl, fun a h1 h2 => ?_, fun q hq => ?_⟩
  · unfold eH
    rw [kwi_r h1, kwi_r h2]
  · unfold eH
    rw [kwi_o hq, kwi_r (by omega)]
theorem eH_5 {h : KH} {o z : Nat} {x : Int32} : (eH h o z x).2.2.1 o 5 = Int32.ofNat (z + 1) := kwi_s
theorem eH_z {h : KH} {o z : Nat} {x : Int32} : (eH h o z x).2.2.1 (o + 4) z = x := by
  unfold eH
  rw [kwi_r (by omega), kwi_s]
theorem eH_j {h : KH} {o z j : Nat} {x : Int32} (hj : j ≠ z) : (eH h o z x).2.2.1 (o + 4) j = h.2.2.1 (o + 4) j := by
  unfold eH
  rw [kwi_r (by omega), kwi_o hj]
theorem lv_N {c : Nat → Nat} {N q : Nat} (hN : c N = 26) (h : lvT c q) : q ≤ N := by
  by_cases e : q ≤ N
  · exact e
  · exact absurd hN (h N (by omega))
theorem s_goOn {Q : KO → Prop} {h : KH} {c b : Nat → Nat} {N q : Nat} (hw : WF h) (cl : clP h c b N) (lv : lvT c q) (n26 : c q ≠ 26) (hQ : Q (none, gH h c (q + 1))) : Cl 0 62 [.ref 29] (gH h c q) Q := by
  obtain ⟨c1, c2, c3, c4, c5⟩ := cl
  have hq := lv_N c3 (lv.s n26)
  have hb := (c5 q).1
  have e31 : (gH h c q).2.2.1 31 (q + 1) = Int32.ofNat (c (q + 1)) := by
    rw [gH_o (by decide)]
    exact (c4 (q + 1) hq).1
  refine t_goon (h := gH h c q) hw gH_6 gH_5 (fun z => n26 ((neq2 (b := 26) (by omega) (by omega)).mp z)) (n200 (by omega)) (by omega) e31 (Nat.le_refl _) ?_
  rw [e31, show Int32.ofNat q + (1 : Int32) = Int32.ofNat (q + 1) from (Int32.ofNat_add q 1).symm]
  have := gH_gH h c q (q + 1)
  unfold gH at this hQ
  unfold gH
  rw [this]
  exact hQ
theorem s_valA {Q : KO → Prop} {h : KH} {c : Nat → Nat} {q : Nat} (hw : WF h) (hc : c q < 10100 ∧ (c q ≤ 27 ∨ 100 ≤ c q)) (hQ : Q (some (.int (if isVT (c q) = true then Int32.ofNat (uVT (c q)) else -1)), gH h c q)) : Cl 0 70 [.ref 29] (gH h c q) Q := by
  have l1 : ∀ k, k < 100000 → ((Int32.ofNat (c q) < Int32.ofNat k) ↔ c q < k) := fun k hk => nlt2 (by omega) hk
  have l2 : ∀ k, k < 100000 → ((Int32.ofNat k < Int32.ofNat (c q)) ↔ k < c q) := fun k hk => nlt2 hk (by omega)
  unfold isVT uVT at hQ
  by_cases h1 : 100 ≤ c q
  · rw [if_pos (by rw [Nat.ble_eq_true_of_le h1, Bool.or_true]), if_pos h1] at hQ
    refine t_va1 (h := gH h c q) hw gH_6 (fun z => by have := (l1 100 (by decide)).mp z; omega) (Nat.le_refl _) ?_
    rw [show Int32.ofNat (c q) - (100 : Int32) = Int32.ofNat (c q - 100) from zidx ((zs (znat (n := c q) (by omega)) (n := 100) rfl (by omega)).trans (by omega))]
    exact hQ
  · have a : Int32.ofNat (c q) < 100 := (l1 100 (by decide)).mpr (by omega)
    have nb : Nat.ble 100 (c q) = false := Bool.eq_false_iff.mpr (fun z => h1 (Nat.ble_eq.mp z))
    rw [nb, Bool.or_false] at hQ
    by_cases h2 : 13 ≤ c q
    · by_cases h3 : c q ≤ 17
      · rw [if_pos (by rw [Nat.ble_eq_true_of_le h2, Nat.ble_eq_true_of_le h3]; rfl), if_neg h1] at hQ
        refine t_va2 (h := gH h c q) hw gH_6 a (fun z => by have := (l1 13 (by decide)).mp z; omega) (fun z => by have := (l2 17 (by decide)).mp z; omega) (Nat.le_refl _) ?_
        rw [show (10000 : Int32) + Int32.ofNat (c q) - (13 : Int32) = Int32.ofNat (c q - 13 + 10000) from zidx ((zs (zc (m := 10000) rfl (znat (n := c q) (by omega)) (by omega)) (n := 13) rfl (by omega)).trans (by omega))]
        exact hQ
      · rw [if_neg (fun z => h3 (by simp only [Bool.and_eq_true, Nat.ble_eq] at z; exact z.2))] at hQ
        exact t_va4 (h := gH h c q) hw gH_6 a (fun z => by have := (l1 13 (by decide)).mp z; omega) ((l2 17 (by decide)).mpr (by omega)) (Nat.le_refl _) hQ
    · rw [if_neg (fun z => h2 (by simp only [Bool.and_eq_true, Nat.ble_eq] at z; exact z.1))] at hQ
      exact t_va3 (h := gH h c q) hw gH_6 a ((l1 13 (by decide)).mpr (by omega)) (Nat.le_refl _) hQ
theorem s_emit {Q : KO → Prop} {h : KH} {c : Nat → Nat} {q o L z : Nat} {x : Int32} (hw : WF h) (hO : rulO h o L) (hz : h.2.2.1 o 5 = Int32.ofNat z) (zl : z < L) (hQ : Q (none, gH (eH h o z x) c q)) : Cl 0 75 [.ref o, .int x] (gH h c q) Q := by
  obtain ⟨o75, hL⟩ := rulO_75 hO
  refine t_emit (h := gH h c q) hw hO (by rw [gH_o (by omega)]; exact hz) zl (fun y => by have := (nle2 (by omega) (by omega)).mp y; omega) hL o75 (Nat.le_refl _) ?_
  rw [show Int32.ofNat z + (1 : Int32) = Int32.ofNat (z + 1) from (Int32.ofNat_add z 1).symm]
  have := eH_gH (h := h) (c := c) (q := q) (z := z) (x := x) o75
  unfold eH at this hQ
  rw [this]
  exact hQ
theorem laidC_congr {C C2 : Nat → Int32} : ∀ {P : List Op} {k e : Nat}, (∀ j, k ≤ j → j < e → C2 j = C j) → laidC C k P e → laidC C2 k P e
  | [], _, _, _, h => h
  | (t, x, y) :: r, k, e, hc, h => by
    have hl := laidC_len h.2
    refine ⟨?_, laidC_congr (fun j h1 h2 => hc j (by omega) h2) h.2⟩
    rw [hc k (Nat.le_refl _) (by omega)]
    exact h.1
theorem laidC_app {C : Nat → Int32} : ∀ {P R : List Op} {k m e : Nat}, laidC C k P m → laidC C m R e → laidC C k (P ++ R) e
  | [], R, k, m, e, h, g => by
    have h : k = m := h
    rw [h]
    exact g
  | (t, x, y) :: r, R, k, m, e, h, g => ⟨h.1, laidC_app h.2 g⟩
/-- what a reader of the class leaves -/
def resO (h k : KH) (o z : Nat) (r : PRes) : Prop := GrE o h k ∧ (r.1 = true → k.2.2.1 o 5 = Int32.ofNat (z + r.2.2.1.length) ∧ laidC (k.2.2.1 (o + 4)) z r.2.2.1 (z + r.2.2.1.length) ∧ ∀ j, j < z → k.2.2.1 (o + 4) j = h.2.2.1 (o + 4) j)
def CPar (c b : Nat → Nat) (N o L D M : Nat) (as : List Value) (pre : Nat → Prop) (P : Nat → PRes) : Prop := ∀ h q z, stC h c b N o L → lvT c q → z ≤ q → h.2.2.1 o 5 = Int32.ofNat z → pre q → ∃ k, resO h k o z (P q) ∧ ∀ Q : KO → Prop, Q (some (.int (b32 (P q).1)), gH k c (P q).2.1) → Cl D M as (gH h c q) Q
theorem laidC_one {h : KH} {o z : Nat} {x : Int32} {t : Nat} {a b : Int32} (hx : (t ≤ 2 ∧ ∃ u v, u < 10005 ∧ v < 10005 ∧ x = encC t u v ∧ a = decV u ∧ b = decV v) ∨ (3 ≤ t ∧ t ≤ 5 ∧ x = opC t)) : laidC ((eH h o z x).2.2.1 (o + 4)) z [(t, a, b)] (z + 1) := by
  refine ⟨?_, rfl⟩
  rw [eH_z]
  exact hx
theorem c_cmp {c b : Nat → Nat} {N o L : Nat} : CPar c b N o L 1 69 [.ref 29, .ref o] (fun _ => True) (cmpT c) := by
  intro h q z s lv hz h5 _
  obtain ⟨hw, cl, hO, hNL⟩ := s
  have hcb := cl.2.2.2.2
  have hN := cl.2.2.1
  unfold cmpT
  by_cases h1 : isVT (c q) = true
  · have uv : ∀ j, isVT (c j) = true → uVT (c j) < 10005 := fun j hj => by
      have := (hcb j).1
      unfold uVT
      split
      · omega
      · unfold isVT at hj
        simp only [Bool.or_eq_true, Bool.and_eq_true, Nat.ble_eq] at hj
        omega
    have nn : ∀ j, isVT (c j) = true → 0 ≤ Int32.ofNat (uVT (c j)) := fun j hj => (Int32.le_iff_toInt_le).mpr (by rw [znat (by have := uv j hj; omega)]; exact Int.natCast_nonneg _)
    have v1 : ∀ Q : KO → Prop, Q (some (.int (Int32.ofNat (uVT (c q)))), gH h c q) → Cl 0 70 [.ref 29] (gH h c q) Q := fun Q hQ => s_valA hw (hcb q) (by rw [if_pos h1]; exact hQ)
    have g1 : ∀ Q : KO → Prop, Q (none, gH h c (q + 1)) → Cl 0 62 [.ref 29] (gH h c q) Q := fun Q hQ => s_goOn hw cl lv (isVT_n h1) hQ
    have l1 := lv.s (isVT_n h1)
    have b1 := (hcb (q + 1)).1
    have t20 : (Int32.ofNat (c (q + 1)) < 20) ↔ c (q + 1) < 20 := nlt2 (b := 20) (by omega) (by omega)
    have t22 : (Int32.ofNat (c (q + 1)) ≤ 22) ↔ c (q + 1) ≤ 22 := nle2 (b := 22) (by omega) (by omega)
    rw [if_pos h1]
    by_cases h2 : 20 ≤ c (q + 1) ∧ c (q + 1) ≤ 22
    · have n1 : c (q + 1) ≠ 26 := by omega
      have l2 := l1.s n1
      have g2 : ∀ Q : KO → Prop, Q (none, gH h c (q + 2)) → Cl 0 62 [.ref 29] (gH h c (q + 1)) Q := fun Q hQ => s_goOn hw cl l1 n1 hQ
      have lo : ¬ Int32.ofNat (c (q + 1)) < 20 := fun y => by have := t20.mp y; omega
      have hi := t22.mpr h2.2
      rw [if_pos h2]
      by_cases h3 : isVT (c (q + 2)) = true
      · have v2 : ∀ Q : KO → Prop, Q (some (.int (Int32.ofNat (uVT (c (q + 2))))), gH h c (q + 2)) → Cl 0 70 [.ref 29] (gH h c (q + 2)) Q := fun Q hQ => s_valA hw (hcb (q + 2)) (by rw [if_pos h3]; exact hQ)
        have g3 : ∀ Q : KO → Prop, Q (none, gH h c (q + 3)) → Cl 0 62 [.ref 29] (gH h c (q + 2)) Q := fun Q hQ => s_goOn hw cl l2 (isVT_n h3) hQ
        have l3 := lv_N hN (l2.s (isVT_n h3))
        rw [if_pos h3]
        have es : Int32.ofNat (c (q + 1)) - (20 : Int32) = Int32.ofNat (c (q + 1) - 20) := zidx ((zs (znat (n := c (q + 1)) (by omega)) (n := 20) rfl (by omega)).trans (by omega))
        refine ⟨eH h o z (encC (c (q + 1) - 20) (uVT (c q)) (uVT (c (q + 2)))), ⟨eH_gr, fun _ => ⟨eH_5, laidC_one (Or.inl ⟨by omega, _, _, uv q h1, uv (q + 2) h3, rfl, rfl, rfl⟩), fun j hj => eH_j (by omega)⟩⟩, fun Q hQ => ?_⟩
        exact t_rc5c (h := gH h c q) (k1 := gH h c (q + 1)) (k2 := gH h c (q + 2)) (k3 := gH h c (q + 3)) (k4 := gH (eH h o z (encC (c (q + 1) - 20) (uVT (c q)) (uVT (c (q + 2))))) c (q + 3)) hw hw hw hw hw hO (nn q h1) v1 g1 gH_6 lo hi g2 v2 (nn (q + 2) h3) g3 (fun Q hQ => t_cmps (Nat.le_refl _) (by rw [es]; exact hQ)) (fun Q hQ => s_emit hw hO h5 (by omega) hQ) (Nat.le_refl _) hQ
      · rw [if_neg h3]
        exact ⟨h, ⟨GrE.refl o h, fun y => by cases y⟩, fun Q hQ => t_rc4c (h := gH h c q) (k1 := gH h c (q + 1)) (k2 := gH h c (q + 2)) hw hw hw (nn q h1) v1 g1 gH_6 lo hi g2 (fun Q hQ => s_valA hw (hcb (q + 2)) (by rw [if_neg h3]; exact hQ)) (by decide) (Nat.le_refl _) hQ⟩
    · rw [if_neg h2]
      refine ⟨h, ⟨GrE.refl o h, fun y => by cases y⟩, fun Q hQ => ?_⟩
      by_cases h4 : c (q + 1) < 20
      · exact t_rc2c (h := gH h c q) (k1 := gH h c (q + 1)) hw hw (nn q h1) v1 g1 gH_6 (t20.mpr h4) (Nat.le_refl _) hQ
      · exact t_rc3c (h := gH h c q) (k1 := gH h c (q + 1)) hw hw (nn q h1) v1 g1 gH_6 (fun y => h4 (t20.mp y)) (fun y => h2 ⟨by omega, t22.mp y⟩) (Nat.le_refl _) hQ
  · rw [if_neg h1]
    exact ⟨h, ⟨GrE.refl o h, fun y => by cases y⟩, fun Q hQ => t_rc1c (h := gH h c q) hw (a := -1) (by decide) (fun Q hQ => s_valA hw (hcb q) (by rw [if_neg h1]; exact hQ)) (Nat.le_refl _) hQ⟩
