/-! KM: the reference: the grammar, rules -/
/-- nothing but the parser's fields, how many rules, rules from r on, and steps from z on is other -/
def FRu (z r : Nat) (h k : KH) : Prop := k.1 = h.1 ∧ k.2.1 = h.2.1 ∧ k.2.2.2 = h.2.2.2 ∧ (∀ a, a ≠ 59 → a ≠ 60 → k.2.2.1 a = h.2.2.1 a) ∧ (∀ q, (q < 6 ∨ 12 < q) → k.2.2.1 59 q = h.2.2.1 59 q) ∧ ∀ j, j ≠ 10 → (j < 53 + 4 * r ∨ (85 ≤ j ∧ j < 85 + z)) → k.2.2.1 60 j = h.2.2.1 60 j
theorem FRu.refl (z r : Nat) (h : KH) : FRu z r h h := ⟨rfl, rfl, rfl, fun _ _ _ => rfl, fun _ _ => rfl, fun _ _ _ => rfl⟩
theorem FRu.trans {z r : Nat} {h k l : KH} (f : FRu z r h k) (g : FRu z r k l) : FRu z r h l := ⟨g.1.trans f.1, g.2.1.trans f.2.1, g.2.2.1.trans f.2.2.1, fun a h1 h2 => (g.2.2.2.1 a h1 h2).trans (f.2.2.2.1 a h1 h2), fun q h1 => (g.2.2.2.2.1 q h1).trans (f.2.2.2.2.1 q h1), fun j h1 h2 => (g.2.2.2.2.2 j h1 h2).trans (f.2.2.2.2.2 j h1 h2)⟩
theorem FRu.mono {z r y s : Nat} {h k : KH} (f : FRu z r h k) (l1 : y ≤ z) (l2 : s ≤ r) : FRu y s h k := ⟨f.1, f.2.1, f.2.2.1, f.2.2.2.1, f.2.2.2.2.1, fun j h1 h2 => f.2.2.2.2.2 j h1 (by omega)⟩
theorem FMr.u {z : Nat} {h k : KH} (r : Nat) (f : FMr z h k) (hr : r ≤ 8) : FRu z r h k := ⟨f.1, f.2.1, f.2.2.1, f.2.2.2.1, f.2.2.2.2.1, fun j _ h2 => f.2.2.2.2.2 j (by omega)⟩
theorem FRu.m {z r : Nat} {h k : KH} {j : Nat} {x : Int32} (f : FRu z r h k) (hj : j = 10 ∨ (53 + 4 * r ≤ j ∧ j < 85)) : FRu z r h (kwi k 60 j x) := ⟨f.1, f.2.1, f.2.2.1, fun a h1 h2 => (kwi_r h2).trans (f.2.2.2.1 a h1 h2), fun q hq => by rw [kwi_r (by decide)]; exact f.2.2.2.2.1 q hq, fun i h1 h2 => (kwi_o (by omega)).trans (f.2.2.2.2.2 i h1 h2)⟩
theorem FRu.i {z r : Nat} {h k : KH} {j : Nat} {x : Int32} (f : FRu z r h k) (h1 : 6 ≤ j) (h2 : j ≤ 12) : FRu z r h (kwi k 59 j x) := ⟨f.1, f.2.1, f.2.2.1, fun a h1 h2 => (kwi_r h1).trans (f.2.2.2.1 a h1 h2), fun q hq => (kwi_o (by omega)).trans (f.2.2.2.2.1 q hq), fun i h1 h2 => by rw [kwi_r (by decide)]; exact f.2.2.2.2.2 i h1 h2⟩
theorem msO.m {h : KH} {T : List Nat} {q z op j : Nat} {x : Int32} (s : msO h T q z op) : msO (kwi h 60 j x) T q z op := by
  obtain ⟨s1, s2, s3, s4, s5, s6, s7, s8, s9⟩ := s
  have e : (kwi h 60 j x).2.2.1 59 = h.2.2.1 59 := kwi_r (by decide)
  refine ⟨s1, NM_i s2 (by decide), ⟨s3.1, s3.2.1, by rw [e]; exact s3.2.2.1, fun i hi => by rw [kwi_r (by decide)]; exact s3.2.2.2 i hi⟩, rdS_o s4 (fun i _ _ => by rw [e]), ?_, ?_, ?_, s8, s9⟩
  · rw [e]; exact s5
  · rw [e]; exact s6
  · rw [e]; exact s7
theorem mbO.m {h : KH} {T : List Nat} {q z j : Nat} {x : Int32} (s : mbO h T q z) : mbO (kwi h 60 j x) T q z := by
  obtain ⟨s1, s2, s3, s4, s5, s6, s7⟩ := s
  have e : (kwi h 60 j x).2.2.1 59 = h.2.2.1 59 := kwi_r (by decide)
  refine ⟨s1, NM_i s2 (by decide), ⟨s3.1, s3.2.1, by rw [e]; exact s3.2.2.1, fun i hi => by rw [kwi_r (by decide)]; exact s3.2.2.2 i hi⟩, ?_, ?_, ?_, s7⟩
  · rw [e]; exact s4
  · rw [e]; exact s5
  · rw [e]; exact s6
def resU (h k : KH) (T : List Nat) (r z : Nat) (R : RRes) : Prop := FRu z r h k ∧ (R.1 = true → msO k T R.2.1 (z + lszT R.2.2.2.2.2) 0 ∧ k.2.2.1 60 10 = Int32.ofNat (r + 1) ∧ k.2.2.1 60 (53 + 4 * r) = Int32.ofNat R.2.2.1 ∧ k.2.2.1 60 (53 + 4 * r + 1) = Int32.ofNat R.2.2.2.1 ∧ k.2.2.1 60 (53 + 4 * r + 2) = Int32.ofNat z ∧ k.2.2.1 60 (53 + 4 * r + 3) = Int32.ofNat (z + lszT R.2.2.2.2.2) ∧ laidS (k.2.2.1 60) (85 + z) R.2.2.2.2.2 (85 + z + lszT R.2.2.2.2.2)) ∧ (R.1 = false → ∃ z', mbO k T R.2.1 z')
/-- the end of a rule -/
theorem m_ruleE {T : List Nat} {r z q kd : Nat} {h k : KH} {A B : List Op} (r8 : r < 8) (fk : FRu z r h k) (s : msO k T q (z + lszT B) 0) (hr : k.2.2.1 60 10 = Int32.ofNat r) (e0 : k.2.2.1 60 (53 + 4 * r) = Int32.ofNat kd) (e2 : k.2.2.1 60 (53 + 4 * r + 2) = Int32.ofNat z) (lg : laidS (k.2.2.1 60) (85 + z) B (85 + z + lszT B)) : ∃ k', resU h k' T r z (ruleE (tkC T) kd q A B) ∧ ∀ Q : KO → Prop, Q (none, k') → Wp 18 214 89 [some (.ref 59), some (.int ((53 : Int32) + (4 : Int32) * Int32.ofNat r))] [] k Q := by
  have rk := rk_20 (tkC_r T q)
  have hl := rkT_lt (tkC T q)
  have t6 : k.2.2.1 59 6 = Int32.ofNat (rkT (tkC T q)) := s.2.2.2.1.1
  obtain ⟨K, eK⟩ : ∃ K, kwi (kwi k 60 (53 + 4 * r + 3) (Int32.ofNat (z + lszT B))) 60 (53 + 4 * r + 1) (Int32.ofNat (rkT (tkC T q)) - 6) = K := ⟨_, rfl⟩
  have sK : msO K T q (z + lszT B) 0 := by
    rw [← eK]
    exact s.m.m
  have fK : FRu z r h K := by
    rw [← eK]
    exact (fk.m (Or.inr (by omega))).m (Or.inr (by omega))
  have zr : (Int32.ofNat (rkT (tkC T q))).toInt = (rkT (tkC T q) : Int) := znat (by omega)
  unfold ruleE
  by_cases c1 : 6 ≤ tkC T q ∧ tkC T q ≤ 8
  · rw [if_pos c1]
    have ec : rkT (tkC T q) = tkC T q := rk.2.2.2.2.2.2.2.2.2.2.2.2.2.1 (by omega)
    have yi : inB (Int32.ofNat (rkT (tkC T q))) 6 8 = true := inB_t (by rw [zr]; omega)
    obtain ⟨k1, f1, s1, run1⟩ := s_adv sK (by omega)
    have k10 : kwi K 59 10 0 = K := kwi_id sK.2.2.2.2.1
    have m1 : k1.2.2.1 60 = K.2.2.1 60 := f1.2.2.2.1 60 (by decide)
    have K10 : K.2.2.1 60 10 = Int32.ofNat r := by
      rw [← eK, kwi_o (by omega), kwi_o (by omega)]
      exact hr
    have hin : ∀ Q : KO → Prop, Q (some (.int 1), kwi (kwi k 60 (53 + 4 * r + 3) (Int32.ofNat (z + lszT B))) 60 (53 + 4 * r + 1) (Int32.ofNat (rkT (tkC T q)) - 6)) → Cl 17 170 [.int (Int32.ofNat (rkT (tkC T q))), .int 6, .int 8] (kwi (kwi k 60 (53 + 4 * r + 3) (Int32.ofNat (z + lszT B))) 60 (53 + 4 * r + 1) (Int32.ofNat (rkT (tkC T q)) - 6)) Q := fun Q hQ => (s_inB (x := 6) (y := 8) rfl rfl (by rw [yi]; exact hQ)).depth (Nat.zero_le _)
    have g1 : ∀ Q : KO → Prop, Q (none, k1) → Cl 17 207 [.ref 59] (kwi (kwi (kwi k 60 (53 + 4 * r + 3) (Int32.ofNat (z + lszT B))) 60 (53 + 4 * r + 1) (Int32.ofNat (rkT (tkC T q)) - 6)) 59 10 0) Q := fun Q hQ => by
      rw [eK, k10]
      exact (run1 Q hQ).depth (by decide)
    have rr : Int32.ofNat r + (1 : Int32) = Int32.ofNat (r + 1) := (Int32.ofNat_add r 1).symm
    by_cases c2 : tkC T (q + 1) = 25
    · rw [if_pos c2]
      obtain ⟨k2, f2, s2, run2⟩ := s_pasY (x := 24) s1 ((rk_20 (tkC_r T (q + 1))).2.2.2.2.2.2.1.mpr c2) (by omega)
      have m2 : k2.2.2.1 60 = K.2.2.1 60 := (f2.2.2.2.1 60 (by decide)).trans m1
      have k20 : kwi k2 59 10 0 = k2 := kwi_id s2.2.2.2.2.1
      have s3 := s2.m (j := 10) (x := Int32.ofNat (r + 1))
      have f3 : FRu z r h (kwi k2 60 10 (Int32.ofNat (r + 1))) := ((fK.trans ((f1.fm z rdF_fm).u r (by omega))).trans ((f2.fm z rdF_fm).u r (by omega))).m (Or.inl rfl)
      refine ⟨kwi k2 60 10 (Int32.ofNat (r + 1)), ⟨f3, fun _ => ⟨s3, kwi_s, ?_, ?_, ?_, ?_, ?_⟩, fun y => by cases y⟩, fun Q hQ => ?_⟩
      · rw [kwi_o (by omega), m2, ← eK, kwi_o (by omega), kwi_o (by omega)]
        exact e0
      · rw [kwi_o (by omega), m2, ← eK, kwi_s, ec]
        show _ = Int32.ofNat (tkC T q - 6)
        exact zidx ((zs (znat (n := tkC T q) (by omega)) (n := 6) rfl (by omega)).trans (by omega))
      · rw [kwi_o (by omega), m2, ← eK, kwi_o (by omega), kwi_o (by omega)]
        exact e2
      · rw [kwi_o (by omega), m2, ← eK, kwi_o (by omega), kwi_s]
      · refine laidS_congr (fun m hm => ?_) (by omega) lg
        rw [kwi_o (by omega), m2, ← eK, kwi_o (by omega), kwi_o (by omega)]
      · refine t_mh8 (D := 17) s.1 s1.1 s2.1 r8 t6 s.2.2.2.2.2.2.1 s.2.2.2.2.1 hin g1 (fun Q hQ => (run2 Q hQ).depth (by decide)) (by rw [m2]; exact K10) (Nat.le_refl _) ?_
        rw [k20, rr]
        exact hQ
    · rw [if_neg c2]
      have bad := s1.bad.m (j := 10) (x := Int32.ofNat (r + 1))
      refine ⟨kwi (kwi k1 59 10 1) 60 10 (Int32.ofNat (r + 1)), ⟨((fK.trans ((f1.fm z rdF_fm).u r (by omega))).i (by decide) (by decide)).m (Or.inl rfl), (fun y => by cases y), fun _ => ⟨_, bad⟩⟩, fun Q hQ => ?_⟩
      refine t_mh7 (D := 17) s.1 s1.1 r8 t6 s.2.2.2.2.2.2.1 s.2.2.2.2.1 hin g1 (fun Q hQ => (s_pasN (x := 24) s1 (by decide) (fun y => c2 ((rk_20 (tkC_r T (q + 1))).2.2.2.2.2.2.1.mp y)) hQ).depth (by decide)) (by rw [m1]; exact K10) (Nat.le_refl _) ?_
      rw [rr]
      exact hQ
  · rw [if_neg c1]
    have ni : inB (Int32.ofNat (rkT (tkC T q))) 6 8 = false := inB_f (by
      rw [zr]
      intro y
      exact c1 (rk.2.2.2.2.2.2.2.2.2.2.2.1.mp (by omega)))
    refine ⟨kwi K 59 10 1, ⟨fK.i (by decide) (by decide), (fun y => by cases y), fun _ => ⟨_, sK.bad⟩⟩, fun Q hQ => ?_⟩
    refine t_mh6 (D := 17) s.1 r8 t6 s.2.2.2.2.2.2.1 s.2.2.2.2.1 (fun Q hQ => (s_inB (x := 6) (y := 8) rfl rfl (by rw [ni]; exact hQ)).depth (Nat.zero_le _)) (Nat.le_refl _) ?_
    rw [eK]
    exact hQ
theorem m_rule {T : List Nat} {r z q : Nat} {h : KH} (r8 : r < 8) (s : msO h T q z 0) (hr : h.2.2.1 60 10 = Int32.ofNat r) : ∃ k, resU h k T r z (ruleT (tkC T) q) ∧ ∀ Q : KO → Prop, Q (none, k) → Cl 18 214 [.ref 59] h Q := by
  have rk := rk_20 (tkC_r T q)
  have hl := rkT_lt (tkC T q)
  have t6 : h.2.2.1 59 6 = Int32.ofNat (rkT (tkC T q)) := s.2.2.2.1.1
  have t5 : ((5 : Int32) < Int32.ofNat (rkT (tkC T q))) ↔ 5 < rkT (tkC T q) := nlt2 (a := 5) (by decide) (by omega)
  unfold ruleT
  by_cases c1 : tkC T q ≤ 5
  · rw [if_pos c1]
    have ec : rkT (tkC T q) = tkC T q := rk.2.2.2.2.2.2.2.2.2.2.2.2.2.1 (by omega)
    have n5 : ¬ (5 : Int32) < Int32.ofNat (rkT (tkC T q)) := fun y => by have := t5.mp y; omega
    have n8 : ¬ Int32.ofNat r = 8 := fun y => by have := (neq2 (b := 8) (by omega) (by decide)).mp y; omega
    have k10 : kwi h 59 10 0 = h := kwi_id s.2.2.2.2.1
    obtain ⟨K, eK⟩ : ∃ K, kwi (kwi h 60 (53 + 4 * r) (Int32.ofNat (rkT (tkC T q)))) 60 (53 + 4 * r + 2) (Int32.ofNat z) = K := ⟨_, rfl⟩
    have sK : msO K T q z 0 := by
      rw [← eK]
      exact s.m.m
    have fK : FRu z r h K := by
      rw [← eK]
      exact ((FRu.refl z r h).m (Or.inr (by omega))).m (Or.inr (by omega))
    obtain ⟨k1, f1, s1, run1⟩ := s_adv sK (by omega)
    have g1 : ∀ Q : KO → Prop, Q (none, k1) → Cl 17 207 [.ref 59] (kwi (kwi (kwi h 59 10 0) 60 (53 + 4 * r) (Int32.ofNat (rkT (tkC T q)))) 60 (53 + 4 * r + 2) (Int32.ofNat z)) Q := fun Q hQ => by
      rw [k10, eK]
      exact (run1 Q hQ).depth (by decide)
    have m1 : k1.2.2.1 60 = K.2.2.1 60 := f1.2.2.2.1 60 (by decide)
    have f01 : FRu z r h k1 := fK.trans ((f1.fm z rdF_fm).u r (by omega))
    have K0 : K.2.2.1 60 (53 + 4 * r) = Int32.ofNat (tkC T q) := by
      rw [← eK, kwi_o (by omega), kwi_s, ec]
    have K2 : K.2.2.1 60 (53 + 4 * r + 2) = Int32.ofNat z := by rw [← eK, kwi_s]
    have K10 : K.2.2.1 60 10 = Int32.ofNat r := by
      rw [← eK, kwi_o (by omega), kwi_o (by omega)]
      exact hr
    by_cases c2 : tkC T (q + 1) = 9
    · rw [if_pos c2]
      obtain ⟨k2, f2, s2, run2⟩ := s_pasY (x := 14) s1 ((rk_20 (tkC_r T (q + 1))).2.2.2.2.2.2.2.2.1.mpr c2) (by omega)
      obtain ⟨k3, r3, run3⟩ := m_cond k2 (q + 2) z s2
      have m2 : k2.2.2.1 60 = K.2.2.1 60 := (f2.2.2.2.1 60 (by decide)).trans m1
      have f03 : FRu z r h k3 := (f01.trans ((f2.fm z rdF_fm).u r (by omega))).trans (r3.1.u r (by omega))
      have m3 : ∀ j, j < 85 → k3.2.2.1 60 j = K.2.2.1 60 j := fun j hj => (r3.1.2.2.2.2.2 j (by omega)).trans (by rw [m2])
      have g2 : ∀ Q : KO → Prop, Q (some (.int 1), k2) → Cl 17 208 [.ref 59, .int 14] k1 Q := fun Q hQ => (run2 Q hQ).depth (by decide)
      by_cases c3 : (condT (tkC T) (withT (tkC T) 3) (q + 2)).1 = true
      · rw [if_pos c3]
        obtain ⟨s3, lg⟩ := r3.2.1 c3
        obtain ⟨k', r', run'⟩ := m_ruleE (kd := tkC T q) (A := (condT (tkC T) (withT (tkC T) 3) (q + 2)).2.2.1) r8 f03 s3 ((m3 10 (by decide)).trans K10) ((m3 _ (by omega)).trans K0) ((m3 _ (by omega)).trans K2) lg
        exact ⟨k', r', fun Q hQ => t_mh4 (D := 17) s.1 s1.1 s2.1 s3.1 t6 hr n5 n8 r8 s.2.2.2.2.2.2.1 g1 g2 run3 (Nat.le_refl _) (run' Q hQ)⟩
      · rw [if_neg c3]
        obtain ⟨z', bad, _, _⟩ := r3.2.2 (Bool.eq_false_iff.mpr c3)
        have bad3 := (bad.m (j := 53 + 4 * r + 3) (x := Int32.ofNat z')).m (j := 53 + 4 * r + 1) (x := k3.2.2.1 59 6 - 6)
        have e10 : kwi (kwi (kwi k3 60 (53 + 4 * r + 3) (Int32.ofNat z')) 60 (53 + 4 * r + 1) (k3.2.2.1 59 6 - 6)) 59 10 1 = kwi (kwi k3 60 (53 + 4 * r + 3) (Int32.ofNat z')) 60 (53 + 4 * r + 1) (k3.2.2.1 59 6 - 6) := kwi_id bad3.2.2.2.1
        refine ⟨kwi (kwi k3 60 (53 + 4 * r + 3) (Int32.ofNat z')) 60 (53 + 4 * r + 1) (k3.2.2.1 59 6 - 6), ⟨(f03.m (Or.inr (by omega))).m (Or.inr (by omega)), (fun y => by cases y), fun _ => ⟨z', bad3⟩⟩, fun Q hQ => ?_⟩
        refine t_mh4 (D := 17) s.1 s1.1 s2.1 bad.1 t6 hr n5 n8 r8 s.2.2.2.2.2.2.1 g1 g2 run3 (Nat.le_refl _) (t_mh5 (D := 17) bad.1 r8 rfl bad.2.2.2.2.2.1 bad.2.2.2.1 (Nat.le_refl _) ?_)
        rw [e10]
        exact hQ
    · rw [if_neg c2]
      obtain ⟨k', r', run'⟩ := m_ruleE (kd := tkC T q) (A := []) (B := []) r8 f01 s1 (by rw [m1]; exact K10) (by rw [m1]; exact K0) (by rw [m1]; exact K2) rfl
      exact ⟨k', r', fun Q hQ => t_mh3 (D := 17) s.1 s1.1 t6 hr n5 n8 r8 s.2.2.2.2.2.2.1 g1 (fun Q hQ => (s_pasN (x := 14) s1 (by decide) (fun y => c2 ((rk_20 (tkC_r T (q + 1))).2.2.2.2.2.2.2.2.1.mp y)) hQ).depth (by decide)) (Nat.le_refl _) (run' Q hQ)⟩
  · rw [if_neg c1]
    have y5 : (5 : Int32) < Int32.ofNat (rkT (tkC T q)) := t5.mpr (by
      have := rk.2.2.2.2.2.2.2.2.2.2.1
      omega)
    exact ⟨kwi h 59 10 1, ⟨(FRu.refl z r h).i (by decide) (by decide), (fun y => by cases y), fun _ => ⟨_, s.bad⟩⟩, fun Q hQ => t_mh1 (D := 17) s.1 t6 hr y5 (Nat.le_refl _) hQ⟩
/-- what all rules leave -/
def resV (h k : KH) (T : List Nat) (r z : Nat) (R : Bool × Nat × List RRes) : Prop := FRu z r h k ∧ (R.1 = true → (∃ zz, msO k T R.2.1 zz 0) ∧ k.2.2.1 60 10 = Int32.ofNat (r + R.2.2.length) ∧ rulS (k.2.2.1 60) r (R.2.2.map toRM)) ∧ (R.1 = false → ∃ z', mbO k T R.2.1 z')
theorem m_all {T : List Nat} : ∀ (f r q z : Nat) (h : KH), r + f = 8 → msO h T q z 0 → h.2.2.1 60 10 = Int32.ofNat r → ∃ k, resV h k T r z (allT (tkC T) f q) ∧ ∀ Q : KO → Prop, Wp 19 215 59 [some (.ref 59)] [] k Q → Wp 19 215 36 [some (.ref 59)] [] h Q := by
  intro f
  have t25 : ∀ {q z : Nat} {h : KH}, msO h T q z 0 → ((Int32.ofNat (rkT (tkC T q)) = 25) ↔ tkC T q = 26) := fun {q z h} s => (neq2 (b := 25) (by have := rkT_lt (tkC T q); omega) (by decide)).trans (rk_20 (tkC_r T q)).2.2.2.2.2.2.2.1
  induction f with
  | zero =>
    intro r q z h hr s h10
    unfold allT
    by_cases e : tkC T q = 26
    · rw [if_pos e]
      exact ⟨h, ⟨FRu.refl z r h, fun _ => ⟨⟨z, s⟩, h10, trivial⟩, fun y => by cases y⟩, fun Q hQ => t_mR2 (D := 18) s.1 s.2.2.2.2.1 s.2.2.2.1.1 ((t25 s).mpr e) (Nat.le_refl _) hQ⟩
    · rw [if_neg e]
      have bad := s.bad
      have ne : ¬ Int32.ofNat (rkT (tkC T q)) = 25 := fun y => e ((t25 s).mp y)
      have r8 : Int32.ofNat r = 8 := by
        rw [show r = 8 by omega]
        rfl
      refine ⟨kwi h 59 10 1, ⟨(FRu.refl z r h).i (by decide) (by decide), (fun y => by cases y), fun _ => ⟨z, bad⟩⟩, fun Q hQ => t_mR3 (D := 18) s.1 bad.1 s.2.2.2.2.1 s.2.2.2.1.1 ne (fun Q hQ => ?_) (Nat.le_refl _) (t_mR1 (D := 18) bad.1 kwi_s (Nat.le_refl _) hQ)⟩
      by_cases t5 : (5 : Int32) < Int32.ofNat (rkT (tkC T q))
      · exact t_mh1 (D := 17) s.1 s.2.2.2.1.1 h10 t5 (Nat.le_refl _) hQ
      · exact t_mh2 (D := 17) s.1 s.2.2.2.1.1 h10 t5 r8 (Nat.le_refl _) hQ
  | succ f ih =>
    intro r q z h hr s h10
    unfold allT
    by_cases e : tkC T q = 26
    · rw [if_pos e]
      exact ⟨h, ⟨FRu.refl z r h, fun _ => ⟨⟨z, s⟩, h10, trivial⟩, fun y => by cases y⟩, fun Q hQ => t_mR2 (D := 18) s.1 s.2.2.2.2.1 s.2.2.2.1.1 ((t25 s).mpr e) (Nat.le_refl _) hQ⟩
    · rw [if_neg e]
      have ne : ¬ Int32.ofNat (rkT (tkC T q)) = 25 := fun y => e ((t25 s).mp y)
      obtain ⟨k, g, run⟩ := m_rule (show r < 8 by omega) s h10
      have ok := ruleT_ok s.2.2.2.2.2.2.2.1
      by_cases e2 : (ruleT (tkC T) q).1 = true
      · rw [if_pos e2]
        obtain ⟨x1, x2, x3, x4, x5, x6, x7⟩ := g.2.1 e2
        obtain ⟨y1, y2, y3, y4, y5, y6, y7, y8⟩ := ok.2.2 e2
        have q2l := lvT_le ok.1
        have hT := s.2.2.1.1
        have zq := s.2.2.2.2.2.2.2.2
        obtain ⟨k', g', run'⟩ := ih (r + 1) (ruleT (tkC T) q).2.1 (z + lszT (ruleT (tkC T) q).2.2.2.2.2) k (by omega) x1 x2
        refine ⟨k', ⟨g.1.trans (g'.1.mono (by omega) (by omega)), fun w1 => ?_, fun w1 => g'.2.2 w1⟩, fun Q hQ => t_mR3 (D := 18) s.1 x1.1 s.2.2.2.2.1 s.2.2.2.1.1 ne run (Nat.le_refl _) (run' Q hQ)⟩
        obtain ⟨v1, v2, v3⟩ := g'.2.1 w1
        have keep := g'.1.2.2.2.2.2
        refine ⟨v1, by rw [v2, List.length_cons, show r + 1 + (allT (tkC T) f (ruleT (tkC T) q).2.1).2.2.length = r + ((allT (tkC T) f (ruleT (tkC T) q).2.1).2.2.length + 1) by omega], ?_, ?_, ⟨z, z + lszT (ruleT (tkC T) q).2.2.2.2.2, ?_, ?_, by omega, ?_⟩, y7, v3⟩
        · exact (keep _ (by omega) (by omega)).trans x3
        · exact (keep _ (by omega) (by omega)).trans x4
        · exact (keep _ (by omega) (by omega)).trans x5
        · exact (keep _ (by omega) (by omega)).trans x6
        · rw [← Nat.add_assoc]
          exact laidS_congr2 (N := 85 + z + lszT (ruleT (tkC T) q).2.2.2.2.2) (fun m h1 h2 => keep m (by omega) (by omega)) (by omega) (Nat.le_refl _) x7
      · rw [if_neg e2]
        obtain ⟨z', bad⟩ := g.2.2 (Bool.eq_false_iff.mpr e2)
        exact ⟨k, ⟨g.1, (fun y => by cases y), fun _ => ⟨z', bad⟩⟩, fun Q hQ => t_mR3 (D := 18) s.1 bad.1 s.2.2.2.2.1 s.2.2.2.1.1 ne run (Nat.le_refl _) (t_mR1 (D := 18) bad.1 bad.2.2.2.1 (Nat.le_refl _) hQ)⟩
theorem Cl.det {d M : Nat} {as : List Value} {h : KH} {P : KO → Prop} (hc : Cl d M as h P) : ∃ o, P o ∧ ∀ Q : KO → Prop, Q o → Cl d M as h Q := by
  obtain ⟨h0, n, o, e, q⟩ := hc
  exact ⟨o, q, fun Q hQ => ⟨h0, n, o, e, hQ⟩⟩
