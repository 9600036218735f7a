/-! KM: the class: the grammar, rules -/
def GrR (o : Nat) (h k : KH) : Prop := k.1 = h.1 ∧ k.2.1 = h.2.1 ∧ k.2.2.2 = h.2.2.2 ∧ ∀ a, (a < o ∨ o + 4 < a) → k.2.2.1 a = h.2.2.1 a
theorem GrR.refl (o : Nat) (h : KH) : GrR o h h := ⟨rfl, rfl, rfl, fun _ _ => rfl⟩
theorem GrR.trans {o : Nat} {h k l : KH} (f : GrR o h k) (g : GrR o k l) : GrR o h l := ⟨g.1.trans f.1, g.2.1.trans f.2.1, g.2.2.1.trans f.2.2.1, fun a ha => (g.2.2.2 a ha).trans (f.2.2.2 a ha)⟩
theorem GrE.r {o : Nat} {h k : KH} (g : GrE o h k) : GrR o h k := ⟨g.1, g.2.1, g.2.2.1, fun a ha => g.2.2.2.1 a (by omega) (by omega)⟩
theorem stC.grR {h k : KH} {c b : Nat → Nat} {N o L : Nat} (s : stC h c b N o L) (g : GrR o h k) : stC k c b N o L := by
  have ho := (rulO_75 s.2.2.1).1
  refine ⟨wf_same s.1 g.1 g.2.1 g.2.2.1, ⟨s.2.1.1, s.2.1.2.1, s.2.1.2.2.1, fun j hj => ?_, s.2.1.2.2.2.2⟩, rulO_same s.2.2.1 g.1 g.2.1, s.2.2.2⟩
  rw [g.2.2.2 31 (by omega), g.2.2.2 32 (by omega)]
  exact s.2.1.2.2.2.1 j hj
/-- a rule is closed -/
def cH (h : KH) (o r : Nat) (x y z : Int32) : KH := kwi (kwi (kwi (kwi h (o + 1) r x) (o + 2) r y) (o + 3) r z) o 4 (Int32.ofNat (r + 1))
theorem cH_gH {h : KH} {c : Nat → Nat} {q o r : Nat} {x y z : Int32} (ho : 75 ≤ o) : cH (gH h c q) o r x y z = gH (cH h o r x y z) c q := by
  unfold cH gH
  rw [kwi_c (a := 29) (b := o + 1) (by omega), kwi_c (a := 29) (b := o + 1) (by omega), kwi_c (a := 29) (b := o + 2) (by omega), kwi_c (a := 29) (b := o + 2) (by omega), kwi_c (a := 29) (b := o + 3) (by omega), kwi_c (a := 29) (b := o + 3) (by omega), kwi_c (a := 29) (b := o) (by omega), kwi_c (a := 29) (b := o) (by omega)]
theorem cH_gr {h : KH} {o r : Nat} {x y z : Int32} : GrR o h (cH h o r x y z) := ⟨rfl, rfl, rfl, fun a ha => by
  unfold cH
  rw [kwi_r (by omega), kwi_r (by omega), kwi_r (by omega), kwi_r (by omega)]⟩
theorem cH_4 {h : KH} {o r : Nat} {x y z : Int32} : (cH h o r x y z).2.2.1 o 4 = Int32.ofNat (r + 1) := kwi_s
theorem cH_5 {h : KH} {o r : Nat} {x y z : Int32} : (cH h o r x y z).2.2.1 o 5 = h.2.2.1 o 5 := by
  unfold cH
  rw [kwi_o (by decide), kwi_r (by omega), kwi_r (by omega), kwi_r (by omega)]
theorem cH_c {h : KH} {o r : Nat} {x y z : Int32} : (cH h o r x y z).2.2.1 (o + 4) = h.2.2.1 (o + 4) := by
  unfold cH
  rw [kwi_r (by omega), kwi_r (by omega), kwi_r (by omega), kwi_r (by omega)]
theorem cH_1 {h : KH} {o r : Nat} {x y z : Int32} : (cH h o r x y z).2.2.1 (o + 1) = ku (h.2.2.1 (o + 1)) r x := by
  unfold cH
  rw [kwi_r (by omega), kwi_r (by omega), kwi_r (by omega)]
  exact ku_s _ _ _
theorem cH_2 {h : KH} {o r : Nat} {x y z : Int32} : (cH h o r x y z).2.2.1 (o + 2) = ku (h.2.2.1 (o + 2)) r y := by
  unfold cH
  rw [kwi_r (by omega), kwi_r (by omega)]
  show ku _ (o + 2) (ku ((kwi h (o + 1) r x).2.2.1 (o + 2)) r y) (o + 2) = _
  rw [ku_s, kwi_r (by omega)]
theorem cH_3 {h : KH} {o r : Nat} {x y z : Int32} : (cH h o r x y z).2.2.1 (o + 3) = ku (h.2.2.1 (o + 3)) r z := by
  unfold cH
  rw [kwi_r (by omega)]
  show ku _ (o + 3) (ku ((kwi (kwi h (o + 1) r x) (o + 2) r y).2.2.1 (o + 3)) r z) (o + 3) = _
  rw [ku_s, kwi_r (by omega), kwi_r (by omega)]
theorem s_close {Q : KO → Prop} {h : KH} {c : Nat → Nat} {q o L r z : Nat} {x y : Int32} (hw : WF h) (hO : rulO h o L) (h4 : h.2.2.1 o 4 = Int32.ofNat r) (r8 : r < 8) (hz : h.2.2.1 o 5 = Int32.ofNat z) (hQ : Q (none, gH (cH h o r x y (Int32.ofNat z)) c q)) : Cl 0 78 [.ref o, .int x, .int y] (gH h c q) Q := by
  obtain ⟨o75, hL⟩ := rulO_75 hO
  refine t_close (h := gH h c q) hw hO (by rw [gH_o (by omega)]; exact h4) r8 (by rw [gH_o (by omega)]; exact hz) (fun y => by have := (nle2 (a := 8) (by omega) (by omega)).mp y; omega) o75 (Nat.le_refl _) ?_
  rw [show Int32.ofNat r + (1 : Int32) = Int32.ofNat (r + 1) from (Int32.ofNat_add r 1).symm]
  have := cH_gH (h := h) (c := c) (q := q) (r := r) (x := x) (y := y) (z := Int32.ofNat z) o75
  unfold cH at this hQ
  rw [this]
  exact hQ
abbrev RRes : Type := Bool × Nat × Nat × Nat × List Op × List Op
def resR (h k : KH) (o r z : Nat) (R : RRes) : Prop := GrR o h k ∧ (R.1 = true → k.2.2.1 o 4 = Int32.ofNat (r + 1) ∧ k.2.2.1 o 5 = Int32.ofNat (z + R.2.2.2.2.1.length) ∧ k.2.2.1 (o + 1) r = Int32.ofNat R.2.2.1 ∧ k.2.2.1 (o + 2) r = Int32.ofNat R.2.2.2.1 ∧ k.2.2.1 (o + 3) r = Int32.ofNat (z + R.2.2.2.2.1.length) ∧ laidC (k.2.2.1 (o + 4)) z R.2.2.2.2.1 (z + R.2.2.2.2.1.length) ∧ (∀ j, j < z → k.2.2.1 (o + 4) j = h.2.2.1 (o + 4) j) ∧ ∀ j, j < r → k.2.2.1 (o + 1) j = h.2.2.1 (o + 1) j ∧ k.2.2.1 (o + 2) j = h.2.2.1 (o + 2) j ∧ k.2.2.1 (o + 3) j = h.2.2.1 (o + 3) j)
theorem c_ruleE {c b : Nat → Nat} {N o L D r z q kd : Nat} {h k : KH} {A B : List Op} (sh : stC h c b N o L) (gk : GrE o h k) (k5 : k.2.2.1 o 5 = Int32.ofNat (z + A.length)) (kA : laidC (k.2.2.1 (o + 4)) z A (z + A.length)) (kz : ∀ j, j < z → k.2.2.1 (o + 4) j = h.2.2.1 (o + 4) j) (h4 : h.2.2.1 o 4 = Int32.ofNat r) (r8 : r < 8) (lv : lvT c q) : ∃ k', resR h k' o r z (ruleE c kd q A B) ∧ ∀ Q : KO → Prop, Q (some (.int (b32 (ruleE c kd q A B).1)), gH k' c (ruleE c kd q A B).2.1) → Wp (D + 1) 64 40 [some (.ref 29), some (.ref o), some (.int (Int32.ofNat kd)), none] [] (gH k c q) Q := by
  have s := sh.gr gk
  obtain ⟨hw, cl, hO, hNL⟩ := id s
  have hb := (cl.2.2.2.2 q).1
  have hb1 := (cl.2.2.2.2 (q + 1)).1
  have l6 : (Int32.ofNat (c q) < 6) ↔ c q < 6 := nlt2 (b := 6) (by omega) (by omega)
  have u8 : (Int32.ofNat (c q) ≤ 8) ↔ c q ≤ 8 := nle2 (b := 8) (by omega) (by omega)
  have k4 : k.2.2.1 o 4 = Int32.ofNat r := (gk.2.2.2.2 4 (by decide)).trans h4
  unfold ruleE
  by_cases e1 : 6 ≤ c q ∧ c q ≤ 8
  · rw [if_pos e1]
    have n26 : c q ≠ 26 := by omega
    have lv1 := lv.s n26
    have lo : ¬ Int32.ofNat (c q) < 6 := fun y => by have := l6.mp y; omega
    have hi := u8.mpr e1.2
    have g1 : ∀ Q : KO → Prop, Q (none, gH k c (q + 1)) → Cl D 62 [.ref 29] (gH k c q) Q := fun Q hQ => (s_goOn hw cl lv n26 hQ).depth (Nat.zero_le _)
    by_cases e2 : c (q + 1) = 25
    · rw [if_pos e2]
      have g2 : ∀ Q : KO → Prop, Q (none, gH k c (q + 2)) → Cl D 62 [.ref 29] (gH k c (q + 1)) Q := fun Q hQ => (s_goOn hw cl lv1 (by omega) hQ).depth (Nat.zero_le _)
      have e6 : Int32.ofNat (c q) - (6 : Int32) = Int32.ofNat (c q - 6) := zidx ((zs (znat (n := c q) (by omega)) (n := 6) rfl (by omega)).trans (by omega))
      refine ⟨cH k o r (Int32.ofNat kd) (Int32.ofNat (c q - 6)) (Int32.ofNat (z + A.length)), ⟨gk.r.trans cH_gr, fun _ => ⟨cH_4, by rw [cH_5]; exact k5, by rw [cH_1]; exact ku_s _ _ _, by rw [cH_2]; exact ku_s _ _ _, by rw [cH_3]; exact ku_s _ _ _, by rw [cH_c]; exact kA, fun j hj => by rw [cH_c]; exact kz j hj, fun j hj => ?_⟩⟩, fun Q hQ => ?_⟩
      · rw [cH_1, cH_2, cH_3, ku_n _ _ (by omega), ku_n _ _ (by omega), ku_n _ _ (by omega), gk.2.2.2.1 (o + 1) (by omega) (by omega), gk.2.2.2.1 (o + 2) (by omega) (by omega), gk.2.2.2.1 (o + 3) (by omega) (by omega)]
        exact ⟨rfl, rfl, rfl⟩
      · exact t_rr7 (h := gH k c q) (k1 := gH k c (q + 1)) (k2 := gH k c (q + 2)) (k3 := gH (cH k o r (Int32.ofNat kd) (Int32.ofNat (c q - 6)) (Int32.ofNat (z + A.length))) c (q + 2)) hw hw hw hw hO gH_6 lo hi g1 gH_6 (by rw [e2]; rfl) g2 (fun Q hQ => (s_close hw hO k4 r8 k5 (by rw [← e6] at hQ; exact hQ)).depth (Nat.zero_le _)) (Nat.le_refl _) hQ
    · rw [if_neg e2]
      exact ⟨k, ⟨gk.r, fun y => by cases y⟩, fun Q hQ => t_rr6 (h := gH k c q) (k1 := gH k c (q + 1)) hw hw gH_6 lo hi g1 gH_6 (fun y => e2 ((neq2 (b := 25) (by omega) (by omega)).mp y)) (Nat.le_refl _) hQ⟩
  · rw [if_neg e1]
    refine ⟨k, ⟨gk.r, fun y => by cases y⟩, fun Q hQ => ?_⟩
    by_cases e3 : c q < 6
    · exact t_rr4 (h := gH k c q) (D := D) hw gH_6 (l6.mpr e3) (Nat.le_refl _) hQ
    · exact t_rr5 (h := gH k c q) (D := D) hw gH_6 (fun y => e3 (l6.mp y)) (fun y => e1 ⟨by omega, u8.mp y⟩) (Nat.le_refl _) hQ
theorem c_rule {c b : Nat → Nat} {N o L r z q : Nat} {h : KH} (s : stC h c b N o L) (lv : lvT c q) (hz : z ≤ q) (h5 : h.2.2.1 o 5 = Int32.ofNat z) (h4 : h.2.2.1 o 4 = Int32.ofNat r) (r8 : r < 8) : ∃ k', resR h k' o r z (ruleT c q) ∧ ∀ Q : KO → Prop, Q (some (.int (b32 (ruleT c q).1)), gH k' c (ruleT c q).2.1) → Cl 17 64 [.ref 29, .ref o] (gH h c q) Q := by
  obtain ⟨hw, cl, hO, hNL⟩ := id s
  have hb := (cl.2.2.2.2 q).1
  have hb1 := (cl.2.2.2.2 (q + 1)).1
  have x5 : (Int32.ofNat (c q) ≤ 5) ↔ c q ≤ 5 := nle2 (b := 5) (by omega) (by omega)
  unfold ruleT
  by_cases e1 : c q ≤ 5
  · rw [if_pos e1]
    have n26 : c q ≠ 26 := by omega
    have lv1 := lv.s n26
    have g1 : ∀ Q : KO → Prop, Q (none, gH h c (q + 1)) → Cl 16 62 [.ref 29] (gH h c q) Q := fun Q hQ => (s_goOn hw cl lv n26 hQ).depth (Nat.zero_le _)
    by_cases e2 : c (q + 1) = 9
    · rw [if_pos e2]
      have lv2 := lv1.s (by omega)
      have g2 : ∀ Q : KO → Prop, Q (none, gH h c (q + 2)) → Cl 16 62 [.ref 29] (gH h c (q + 1)) Q := fun Q hQ => (s_goOn hw cl lv1 (by omega) hQ).depth (Nat.zero_le _)
      have hc := c_cond (by decide) (by decide) (c_with (c := c) (b := b) (N := N) (o := o) (L := L) 3 (Nat.le_refl _)) (withT_ok (c := c) 3)
      obtain ⟨k, g, run⟩ := hc h (q + 2) z s lv2 (by omega) h5 trivial
      have sk := s.gr g.1
      have ok := condT_ok (d := 7) (by decide) (withT_ok (c := c) 3) lv2
      have e9 : Int32.ofNat (c (q + 1)) = 9 := by rw [e2]; rfl
      by_cases e3 : (condT c (withT c 3) (q + 2)).1 = true
      · rw [if_pos e3]
        rw [e3] at run
        obtain ⟨a1, a2, a3⟩ := g.2 e3
        obtain ⟨k', r', run'⟩ := c_ruleE (D := 16) (kd := c q) (B := (condT c (withT c 3) (q + 2)).2.2.2) s g.1 a1 a2 a3 h4 r8 ok.1
        exact ⟨k', r', fun Q hQ => t_rr31 (h := gH h c q) (k1 := gH h c (q + 1)) (k2 := gH h c (q + 2)) (k3 := gH k c (condT c (withT c 3) (q + 2)).2.1) hw hw hw sk.1 gH_6 (x5.mpr e1) g1 gH_6 e9 g2 run (by decide) (run' Q hQ)⟩
      · rw [if_neg e3]
        rw [Bool.eq_false_iff.mpr e3] at run
        exact ⟨k, ⟨g.1.r, fun y => by cases y⟩, fun Q hQ => t_rr30 (h := gH h c q) (k1 := gH h c (q + 1)) (k2 := gH h c (q + 2)) (k3 := gH k c (condT c (withT c 3) (q + 2)).2.1) hw hw hw sk.1 gH_6 (x5.mpr e1) g1 gH_6 e9 g2 run (by decide) hQ⟩
    · rw [if_neg e2]
      obtain ⟨k', r', run'⟩ := c_ruleE (D := 16) (kd := c q) (q := q + 1) (A := []) (B := []) s (GrE.refl o h) h5 (show laidC _ z [] z from rfl) (fun _ _ => rfl) h4 r8 lv1
      exact ⟨k', r', fun Q hQ => t_rr2 (h := gH h c q) (k1 := gH h c (q + 1)) hw hw gH_6 (x5.mpr e1) g1 gH_6 (fun y => e2 ((neq2 (b := 9) (by omega) (by omega)).mp y)) (by decide) (run' Q hQ)⟩
  · rw [if_neg e1]
    exact ⟨h, ⟨GrR.refl o h, fun y => by cases y⟩, fun Q hQ => t_rr1 (h := gH h c q) (D := 16) hw gH_6 (fun y => e1 (x5.mp y)) (by decide) hQ⟩
/-- a rule as it should be -/
def okRu (c : Nat → Nat) (q : Nat) (R : RRes) : Prop := lvT c R.2.1 ∧ q ≤ R.2.1 ∧ (R.1 = true → q < R.2.1 ∧ R.2.2.2.2.1.length + q ≤ R.2.1 ∧ lszT R.2.2.2.2.2 + q ≤ R.2.1 ∧ R.2.2.1 ≤ 5 ∧ R.2.2.2.1 ≤ 2 ∧ okC30 R.2.2.2.2.1 ∧ okC R.2.2.2.2.2 ∧ ∀ f, holdP f R.2.2.2.2.1 = holdP f R.2.2.2.2.2)
theorem ruleE_ok {c : Nat → Nat} {q q0 kd : Nat} {A B : List Op} (lv : lvT c q) (h0 : q0 < q) (l1 : A.length + q0 ≤ q) (l2 : lszT B + q0 ≤ q) (k5 : kd ≤ 5) (o1 : okC30 A) (o2 : okC B) (o3 : ∀ f, holdP f A = holdP f B) : okRu c q0 (ruleE c kd q A B) := by
  unfold ruleE
  by_cases e1 : 6 ≤ c q ∧ c q ≤ 8
  · rw [if_pos e1]
    have lv1 := lv.s (show c q ≠ 26 by omega)
    by_cases e2 : c (q + 1) = 25
    · rw [if_pos e2]
      exact ⟨lv1.s (by omega), by simp only []; omega, fun _ => ⟨by simp only []; omega, by simp only []; omega, by simp only []; omega, k5, by simp only []; omega, o1, o2, o3⟩⟩
    · rw [if_neg e2]
      exact ⟨lv1, by simp only []; omega, fun y => by cases y⟩
  · rw [if_neg e1]
    exact ⟨lv, by simp only []; omega, fun y => by cases y⟩
theorem ruleT_ok {c : Nat → Nat} {q : Nat} (lv : lvT c q) : okRu c q (ruleT c q) := by
  unfold ruleT
  by_cases e1 : c q ≤ 5
  · rw [if_pos e1]
    have lv1 := lv.s (show c q ≠ 26 by omega)
    by_cases e2 : c (q + 1) = 9
    · rw [if_pos e2]
      have ok := condT_ok (d := 7) (by decide) (withT_ok (c := c) 3) (show lvT c (q + 2) from lv1.s (by omega))
      by_cases e3 : (condT c (withT c 3) (q + 2)).1 = true
      · rw [if_pos e3]
        obtain ⟨a1, a2, a3, a4, a5, a6⟩ := ok.2.2 e3
        refine ruleE_ok ok.1 (by omega) (by omega) (by omega) e1 (Or.inr ?_) (Or.inr ?_) (fun f => a6.hold f)
        · have := a4 [] 0 (by decide) rfl
          rw [List.append_nil] at this
          exact this
        · have := a5 [] 0 (by decide) rfl
          rw [List.append_nil] at this
          exact this
      · rw [if_neg e3]
        exact ⟨ok.1, by have := ok.2.1; simp only []; omega, fun y => by cases y⟩
    · rw [if_neg e2]
      exact ruleE_ok lv1 (by omega) (by simp) (by simp [lszT]) e1 (Or.inl rfl) (Or.inl rfl) (fun f => rfl)
  · rw [if_neg e1]
    exact ⟨lv, Nat.le_refl _, fun y => by cases y⟩
/-- all rules, f more at most -/
def allT (c : Nat → Nat) : Nat → Nat → Bool × Nat × List RRes
  | 0, q => if c q = 26 then (true, q, []) else (false, q, [])
  | f + 1, q => if c q = 26 then (true, q, []) else if (ruleT c q).1 = true then ((allT c f (ruleT c q).2.1).1, (allT c f (ruleT c q).2.1).2.1, ruleT c q :: (allT c f (ruleT c q).2.1).2.2) else (false, (ruleT c q).2.1, [])
def toRC (R : RRes) : Rul := (Int32.ofNat R.2.2.1, Int32.ofNat R.2.2.2.1, R.2.2.2.2.1)
def toRM (R : RRes) : Rul := (Int32.ofNat R.2.2.1, Int32.ofNat R.2.2.2.1, R.2.2.2.2.2)
theorem allT_ok {c : Nat → Nat} : ∀ (f q : Nat), lvT c q → lvT c (allT c f q).2.1 ∧ q ≤ (allT c f q).2.1 ∧ (allT c f q).2.2.length ≤ f ∧ ∀ K g, willR K g ((allT c f q).2.2.map toRC) = willR K g ((allT c f q).2.2.map toRM)
  | 0, q, lv => by
    unfold allT
    by_cases e : c q = 26
    · rw [if_pos e]
      exact ⟨lv, Nat.le_refl _, Nat.le_refl _, fun _ _ => rfl⟩
    · rw [if_neg e]
      exact ⟨lv, Nat.le_refl _, Nat.le_refl _, fun _ _ => rfl⟩
  | f + 1, q, lv => by
    unfold allT
    by_cases e : c q = 26
    · rw [if_pos e]
      exact ⟨lv, Nat.le_refl _, Nat.zero_le _, fun _ _ => rfl⟩
    · rw [if_neg e]
      have ok := ruleT_ok lv
      by_cases e2 : (ruleT c q).1 = true
      · rw [if_pos e2]
        obtain ⟨a1, a2, a3, a4⟩ := allT_ok f (ruleT c q).2.1 ok.1
        refine ⟨a1, Nat.le_trans ok.2.1 a2, by rw [List.length_cons]; omega, fun K g => ?_⟩
        obtain ⟨_, _, _, _, _, _, _, b8⟩ := ok.2.2 e2
        simp only [List.map_cons]
        show willR K g (toRC (ruleT c q) :: _) = willR K g (toRM (ruleT c q) :: _)
        unfold toRC toRM willR
        rw [b8 g]
        have := a4 K g
        unfold toRC toRM at this
        rw [this]
      · rw [if_neg e2]
        exact ⟨ok.1, ok.2.1, Nat.zero_le _, fun _ _ => rfl⟩
def resA (h k : KH) (o L r z : Nat) (R : Bool × Nat × List RRes) : Prop := GrR o h k ∧ (R.1 = true → k.2.2.1 o 4 = Int32.ofNat (r + R.2.2.length) ∧ rulCR k.2.2.1 o L r z (R.2.2.map toRC) ∧ (∀ j, j < z → k.2.2.1 (o + 4) j = h.2.2.1 (o + 4) j) ∧ ∀ j, j < r → k.2.2.1 (o + 1) j = h.2.2.1 (o + 1) j ∧ k.2.2.1 (o + 2) j = h.2.2.1 (o + 2) j ∧ k.2.2.1 (o + 3) j = h.2.2.1 (o + 3) j)
theorem c_all {c b : Nat → Nat} {N o L : Nat} : ∀ (f r q z : Nat) (h : KH), r + f = 8 → stC h c b N o L → lvT c q → z ≤ q → h.2.2.1 o 5 = Int32.ofNat z → h.2.2.1 o 4 = Int32.ofNat r → ∃ k', resA h k' o L r z (allT c f q) ∧ ∀ Q : KO → Prop, Q (some (.int (b32 (allT c f q).1)), gH k' c (allT c f q).2.1) → Wp 18 63 2 [some (.ref 29), some (.ref o), some (.int (Int32.ofNat r))] [] (gH h c q) Q := by
  intro f
  induction f with
  | zero =>
    intro r q z h hr s lv hz h5 h4
    obtain ⟨hw, cl, hO, hNL⟩ := id s
    have hb := (cl.2.2.2.2 q).1
    unfold allT
    by_cases e : c q = 26
    · rw [if_pos e]
      exact ⟨h, ⟨GrR.refl o h, fun _ => ⟨h4, trivial, fun _ _ => rfl, fun _ _ => ⟨rfl, rfl, rfl⟩⟩⟩, fun Q hQ => t_ra1 (h := gH h c q) (D := 17) hw gH_6 (by rw [e]; rfl) (by decide) hQ⟩
    · rw [if_neg e]
      have r8 : r = 8 := by omega
      subst r8
      exact ⟨h, ⟨GrR.refl o h, fun y => by cases y⟩, fun Q hQ => t_ra2 (h := gH h c q) (D := 17) hw gH_6 (fun y => e ((neq2 (b := 26) (by omega) (by omega)).mp y)) (by decide) (by decide) (by decide) hQ⟩
  | succ f ih =>
    intro r q z h hr s lv hz h5 h4
    obtain ⟨hw, cl, hO, hNL⟩ := id s
    have hN := cl.2.2.1
    have hb := (cl.2.2.2.2 q).1
    have o75 := (rulO_75 hO).1
    unfold allT
    by_cases e : c q = 26
    · rw [if_pos e]
      exact ⟨h, ⟨GrR.refl o h, fun _ => ⟨h4, trivial, fun _ _ => rfl, fun _ _ => ⟨rfl, rfl, rfl⟩⟩⟩, fun Q hQ => t_ra1 (h := gH h c q) (D := 17) hw gH_6 (by rw [e]; rfl) (by decide) hQ⟩
    · rw [if_neg e]
      have ne : ¬ Int32.ofNat (c q) = 26 := fun y => e ((neq2 (b := 26) (by omega) (by omega)).mp y)
      have i8 : ¬ (8 : Int32) < Int32.ofNat r := fun y => by have := (nlt2 (a := 8) (by omega) (by omega)).mp y; omega
      have ie : ¬ Int32.ofNat r = 8 := fun y => by have := (neq2 (b := 8) (by omega) (by omega)).mp y; omega
      obtain ⟨k, g, run⟩ := c_rule s lv hz h5 h4 (by omega)
      have sk := s.grR g.1
      have ok := ruleT_ok lv
      by_cases e2 : (ruleT c q).1 = true
      · rw [if_pos e2]
        rw [e2] at run
        obtain ⟨x1, x2, x3, x4, x5, x6, x7, x8⟩ := g.2 e2
        obtain ⟨y1, y2, y3, y4, y5, y6, y7, y8⟩ := ok.2.2 e2
        have y0 := lv_N hN ok.1
        obtain ⟨k', g', run'⟩ := ih (r + 1) (ruleT c q).2.1 (z + (ruleT c q).2.2.2.2.1.length) k (by omega) sk ok.1 (by omega) x2 x1
        refine ⟨k', ⟨g.1.trans g'.1, fun w1 => ?_⟩, fun Q hQ => ?_⟩
        · obtain ⟨v1, v2, v3, v4⟩ := g'.2 w1
          refine ⟨by rw [v1, List.length_cons, show r + 1 + (allT c f (ruleT c q).2.1).2.2.length = r + ((allT c f (ruleT c q).2.1).2.2.length + 1) by omega], ?_, fun j hj => (v3 j (by omega)).trans (x7 j hj), fun j hj => ?_⟩
          · obtain ⟨t1, t2, t3⟩ := v4 r (by omega)
            refine ⟨t1.trans x3, t2.trans x4, ⟨z + (ruleT c q).2.2.2.2.1.length, t3.trans x5, by omega, laidC_congr (fun j h1 h2 => v3 j h2) x6, v2⟩, y6, ⟨(ruleT c q).2.2.1, by omega, rfl⟩, ?_⟩
            have d3 : (ruleT c q).2.2.2.1 = 0 ∨ (ruleT c q).2.2.2.1 = 1 ∨ (ruleT c q).2.2.2.1 = 2 := by omega
            rcases d3 with d | d | d
            · exact Or.inl (by rw [d]; rfl)
            · exact Or.inr (Or.inl (by rw [d]; rfl))
            · exact Or.inr (Or.inr (by rw [d]; rfl))
          · obtain ⟨t1, t2, t3⟩ := v4 j (by omega)
            obtain ⟨u1, u2, u3⟩ := x8 j hj
            exact ⟨t1.trans u1, t2.trans u2, t3.trans u3⟩
        · refine t_ra31 (h := gH h c q) (k1 := gH k c (ruleT c q).2.1) hw sk.1 gH_6 ne i8 ie run (by decide) ?_
          rw [show Int32.ofNat r + (1 : Int32) = Int32.ofNat (r + 1) from (Int32.ofNat_add r 1).symm]
          exact run' Q hQ
      · rw [if_neg e2]
        rw [Bool.eq_false_iff.mpr e2] at run
        exact ⟨k, ⟨g.1, fun y => by cases y⟩, fun Q hQ => t_ra30 (h := gH h c q) (k1 := gH k c (ruleT c q).2.1) hw sk.1 gH_6 ne i8 ie run (by decide) hQ⟩
