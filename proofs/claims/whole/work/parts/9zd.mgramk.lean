/-! KM: the reference: the grammar, conditions put together -/
def MSeg (T : List Nat) (D op : Nat) (P : Nat → PRes) : Prop := ∀ h q z, msO h T q z op → ∃ k, resM h k T q z op (P q) ∧ ∀ (n : Nat) (Q : KO → Prop), (∀ z2 z3 z4 : Option Value, Wp D 211 159 [some (.ref 59), some (.int (Int32.ofNat n)), z2, z3, z4] [] k Q) → Wp D 211 17 [some (.ref 59), some (.int (Int32.ofNat n)), none, none, none] [] h Q
def brT (c : Nat → Nat) (W : Nat → PRes) (q : Nat) : PRes := if c q = 23 then W q else cmpT c q
theorem tok22 {h : KH} {T : List Nat} {q z op : Nat} (s : msO h T q z op) : (Int32.ofNat (rkT (tkC T q)) = 22) ↔ tkC T q = 23 := by
  exact (neq2 (b := 22) (by have := rkT_lt (tkC T q); omega) (by decide)).trans (rk_20 (tkC_r T q)).2.1
theorem m_br0 {T : List Nat} : MSeg T 6 3 (brT (tkC T) (withT (tkC T) 0)) := fun h q z s => by
  obtain ⟨k, r, run⟩ := m_cmp s
  have e : brT (tkC T) (withT (tkC T) 0) q = cmpT (tkC T) q := by
    unfold brT
    by_cases e : tkC T q = 23
    · rw [if_pos e]
      unfold cmpT
      rw [if_neg (by rw [e]; decide)]
      rfl
    · rw [if_neg e]
  rw [e]
  refine ⟨k, r, fun n Q hQ => ?_⟩
  have nx := run 6 n Q (Nat.le_refl _) hQ
  by_cases t : Int32.ofNat (rkT (tkC T q)) = 22
  · exact t_moD2 (D := 5) s.1 s.2.2.2.1.1 s.2.2.2.2.2.1 t (by decide) (Nat.le_refl _) nx
  · exact t_moD1 (D := 5) s.1 s.2.2.2.1.1 t (Nat.le_refl _) nx
theorem m_brS {T : List Nat} {k Dc op : Nat} (hop : op + 1 + k = 3) (hD : 5 ≤ Dc) (hC : MPar T Dc 213 (op + 1) (condT (tkC T) (withT (tkC T) k))) : MSeg T (Dc + 1) op (brT (tkC T) (withT (tkC T) (k + 1))) := fun h q z s => by
  unfold brT
  by_cases e : tkC T q = 23
  · rw [if_pos e]
    have n26 : tkC T q ≠ 26 := by omega
    obtain ⟨k1, f1, s1, run1⟩ := s_pasY (x := 22) s ((rk_20 (tkC_r T q)).2.1.mpr e) n26
    have sp := s1.o11 (p := op + 1)
    obtain ⟨k2, r2, run2⟩ := hC _ (q + 1) z sp
    have ok := condT_ok (d := 2 * k + 1) (by omega) (withT_ok (c := tkC T) k) s1.2.2.2.2.2.2.2.1
    have f02 : FMr z h k2 := ((f1.fm z rdF_fm).i (j := 11) (x := Int32.ofNat (op + 1)) (by decide) (by decide)).trans r2.1
    have w2 : WF k2 := f02.wf s.1
    have t22 := (tok22 s).mpr e
    have p3 : ¬ (3 : Int32) ≤ Int32.ofNat op := fun y => by
      have := (nle2 (a := 3) (by decide) (by omega)).mp y
      omega
    have pp : Int32.ofNat op + (1 : Int32) = Int32.ofNat (op + 1) := (Int32.ofNat_add op 1).symm
    have pm : Int32.ofNat (op + 1) - (1 : Int32) = Int32.ofNat op := zidx ((zs (znat (n := op + 1) (by omega)) (n := 1) rfl (by omega)).trans (by omega))
    have g1 : ∀ Q : KO → Prop, Q (some (.int 1), k1) → Cl Dc 208 [.ref 59, .int 22] h Q := fun Q hQ => (run1 Q hQ).depth (by omega)
    have g2 : ∀ Q : KO → Prop, Q (none, k2) → Cl Dc 213 [.ref 59] (kwi k1 59 11 (Int32.ofNat op + 1)) Q := fun Q hQ => by
      rw [pp]
      exact run2 Q hQ
    unfold withT
    by_cases e1 : (condT (tkC T) (withT (tkC T) k) (q + 1)).1 = true
    · rw [if_pos e1]
      obtain ⟨sg, lg⟩ := r2.2.1 e1
      obtain ⟨a1, a2, a3, a4, a5, a6⟩ := ok.2.2 e1
      have b0 := sg.2.2.2.2.1
      have x11 := sg.2.2.2.2.2.1
      by_cases e2 : tkC T (condT (tkC T) (withT (tkC T) k) (q + 1)).2.1 = 24
      · rw [if_pos e2]
        obtain ⟨k3, f3, s3, run3⟩ := s_pasY (x := 23) sg ((rk_20 (tkC_r T _)).2.2.2.2.2.1.mpr e2) (by omega)
        have e0 : kwi k3 59 10 0 = k3 := kwi_id s3.2.2.2.2.1
        have s4 := s3.o11 (p := op)
        have ff : FMr z h (kwi k3 59 11 (Int32.ofNat op)) := (f02.trans (f3.fm z rdF_fm)).i (by decide) (by decide)
        refine ⟨kwi k3 59 11 (Int32.ofNat op), ⟨ff, fun _ => ⟨s4, ?_⟩, fun y => by cases y⟩, fun n Q hQ => ?_⟩
        · show laidS ((kwi k3 59 11 (Int32.ofNat op)).2.2.1 60) _ _ _
          rw [kwi_r (by decide), f3.2.2.2.1 60 (by decide)]
          exact lg
        · refine t_moB (D := Dc) s.1 s1.1 w2 s3.1 s.2.2.2.1.1 s.2.2.2.2.2.1 t22 p3 g1 (s1.2.2.2.2.2.1) g2 x11 b0 (fun Q hQ => (run3 Q hQ).depth (by omega)) s3.2.2.2.2.2.1 (Nat.le_refl _) ?_
          rw [e0, pm]
          exact hQ _ _ _
      · rw [if_neg e2]
        have bad := sg.bad.o11 (x := Int32.ofNat op)
        refine ⟨kwi (kwi k2 59 10 1) 59 11 (Int32.ofNat op), ⟨(f02.i (by decide) (by decide)).i (by decide) (by decide), (fun y => by cases y), fun _ => ⟨_, bad, Nat.le_add_right _ _, by simp only []; omega⟩⟩, fun n Q hQ => ?_⟩
        refine t_moC (D := Dc) s.1 s1.1 w2 s.2.2.2.1.1 s.2.2.2.2.2.1 t22 p3 g1 (s1.2.2.2.2.2.1) g2 x11 b0 (fun Q hQ => (s_pasN (x := 23) sg (by decide) (fun y => e2 ((rk_20 (tkC_r T _)).2.2.2.2.2.1.mp y)) hQ).depth (by omega)) (Nat.le_refl _) ?_
        rw [pm]
        exact hQ _ _ _
    · rw [if_neg e1]
      obtain ⟨z', bad, zz, lz⟩ := r2.2.2 (Bool.eq_false_iff.mpr e1)
      have e0 : kwi k2 59 10 1 = k2 := kwi_id bad.2.2.2.1
      have bad2 := bad.o11 (x := k2.2.2.1 59 11 - 1)
      refine ⟨kwi k2 59 11 (k2.2.2.1 59 11 - 1), ⟨f02.i (by decide) (by decide), (fun y => by cases y), fun _ => ⟨z', bad2, zz, by simp only []; omega⟩⟩, fun n Q hQ => ?_⟩
      refine t_moA (D := Dc) s.1 s1.1 w2 s.2.2.2.1.1 s.2.2.2.2.2.1 t22 p3 g1 (s1.2.2.2.2.2.1) g2 rfl bad.2.2.2.1 (Nat.le_refl _) ?_
      rw [e0]
      exact hQ _ _ _
  · rw [if_neg e]
    obtain ⟨k, r, run⟩ := m_cmp s
    exact ⟨k, r, fun n Q hQ => t_moD1 (D := Dc) s.1 s.2.2.2.1.1 (fun y => e ((tok22 s).mp y)) (Nat.le_refl _) (run (Dc + 1) n Q (by omega) hQ)⟩
theorem tk_200 {h : KH} {T : List Nat} {q z op : Nat} (s : msO h T q z op) (h2 : 200 ≤ q) : tkC T q = 26 := by
  by_cases e : tkC T q = 26
  · exact e
  · have := lvT_lt s.2.2.2.2.2.2.2.1 e
    have := s.2.2.1.1
    omega
theorem m_notL {T : List Nat} {op z D : Nat} (hD : 4 ≤ D) : ∀ (f n0 q : Nat) (h : KH), msO h T q z op → 200 ≤ f + q → ∃ k, FQ rdF h k ∧ msO k T (q + notT (tkC T) f q) z op ∧ ∀ Q : KO → Prop, Wp (D + 1) 211 17 [some (.ref 59), some (.int (Int32.ofNat (n0 + notT (tkC T) f q))), none, none, none] [] k Q → Wp (D + 1) 211 2 [some (.ref 59), some (.int (Int32.ofNat n0)), none, none, none] [] h Q := by
  intro f
  induction f with
  | zero =>
    intro n0 q h s hf
    have e26 := tk_200 s (by omega)
    exact ⟨h, FQ.refl _ h, s, fun Q hQ => t_mo1 (D := D) s.1 (fun Q hQ => (s_pasN (x := 17) s (by decide) (by rw [e26]; decide) hQ).depth hD) (Nat.le_refl _) hQ⟩
  | succ f ih =>
    intro n0 q h s hf
    by_cases e : tkC T q = 12
    · have en : notT (tkC T) (f + 1) q = notT (tkC T) f (q + 1) + 1 := if_pos e
      obtain ⟨k1, f1, s1, run1⟩ := s_pasY (x := 17) s ((rk_20 (tkC_r T q)).2.2.1.mpr e) (by omega)
      obtain ⟨k, f2, s2, run⟩ := ih (n0 + 1) (q + 1) k1 s1 (by omega)
      rw [en]
      refine ⟨k, f1.trans f2, by rw [show q + (notT (tkC T) f (q + 1) + 1) = q + 1 + notT (tkC T) f (q + 1) by omega]; exact s2, fun Q hQ => ?_⟩
      refine t_mo2 (D := D) s.1 s1.1 (fun Q hQ => (run1 Q hQ).depth hD) (Nat.le_refl _) ?_
      rw [show Int32.ofNat n0 + (1 : Int32) = Int32.ofNat (n0 + 1) from (Int32.ofNat_add n0 1).symm]
      refine run Q ?_
      rw [show n0 + 1 + notT (tkC T) f (q + 1) = n0 + (notT (tkC T) f (q + 1) + 1) by omega]
      exact hQ
    · have en : notT (tkC T) (f + 1) q = 0 := if_neg e
      rw [en]
      exact ⟨h, FQ.refl _ h, s, fun Q hQ => t_mo1 (D := D) s.1 (fun Q hQ => (s_pasN (x := 17) s (by decide) (fun y => e ((rk_20 (tkC_r T q)).2.2.1.mp y)) hQ).depth hD) (Nat.le_refl _) hQ⟩
theorem m_nots {T : List Nat} {op zz q2 n D : Nat} (l : zz + n ≤ q2) (q200 : q2 ≤ 200) : ∀ (m i : Nat) (k : KH), i + m = n → msO k T q2 (zz + i) op → ∃ k', FMr (zz + i) k k' ∧ msO k' T q2 (zz + n) op ∧ laidS (k'.2.2.1 60) (85 + zz + i) (List.replicate m (3, 0, 0)) (85 + zz + n) ∧ ∀ (Q : KO → Prop) (z3 z4 : Option Value), Q (none, k') → Wp (D + 1) 211 161 [some (.ref 59), some (.int (Int32.ofNat n)), some (.int (Int32.ofNat i)), z3, z4] [] k Q := by
  intro m
  induction m with
  | zero =>
    intro i k hi s
    obtain rfl : i = n := by omega
    exact ⟨k, FMr.refl _ k, s, rfl, fun Q z3 z4 hQ => t_mo3 (D := D) s.1 ((nle2 (by omega) (by omega)).mpr (Nat.le_refl _)) (Nat.le_refl _) hQ⟩
  | succ m ih =>
    intro i k hi s
    have s1 := s.st (x := 17) (by omega)
    obtain ⟨k', f, s', lg, run⟩ := ih (i + 1) (stM k (zz + i) 17) (by omega) s1
    refine ⟨k', stM_f.trans (f.mono (by omega)), s', Or.inr ⟨by decide, by decide, ?_, ?_⟩, fun Q z3 z4 hQ => ?_⟩
    · rw [f.2.2.2.2.2 (85 + zz + i) (by omega), show 85 + zz + i = 85 + (zz + i) by omega, stM_z]
      rfl
    · rw [show 85 + zz + i + 1 = 85 + zz + (i + 1) by omega]
      exact lg
    · refine t_mo5 (D := D) s.1 s1.1 (fun y => by have := (nle2 (by omega) (by omega)).mp y; omega) s.2.2.2.2.1 (fun Q hQ => (s_stp s.1 s.2.2.2.2.2.2.1 (by omega) hQ).depth (Nat.zero_le _)) (Nat.le_refl _) ?_
      rw [show Int32.ofNat i + (1 : Int32) = Int32.ofNat (i + 1) from (Int32.ofNat_add i 1).symm]
      exact run Q z3 z4 hQ
theorem m_one {T : List Nat} {D op dd : Nat} {W : Nat → PRes} (hD : 5 ≤ D) (hS : MSeg T (D + 1) op (brT (tkC T) W)) (okB : ∀ q, lvT (tkC T) q → okPR (tkC T) dd q (brT (tkC T) W q)) : MPar T (D + 1) 211 op (oneT (tkC T) W) := fun h q z s => by
  obtain ⟨k1, f1, s1, run1⟩ := m_notL (D := D) (by omega) 200 0 q h s (by omega)
  rw [Nat.zero_add] at run1
  show ∃ k, resM h k T q z op (oneN (notT (tkC T) 200 q) (brT (tkC T) W (q + notT (tkC T) 200 q))) ∧ _
  obtain ⟨n, en⟩ : ∃ n, notT (tkC T) 200 q = n := ⟨_, rfl⟩
  rw [en] at s1 run1 ⊢
  obtain ⟨k2, r2, run2⟩ := hS k1 (q + n) z s1
  have ok := okB (q + n) s1.2.2.2.2.2.2.2.1
  have f02 : FMr z h k2 := (f1.fm z rdF_fm).trans r2.1
  have hT := s.2.2.1.1
  have zq := s.2.2.2.2.2.2.2.2
  have q2l := lvT_le ok.1
  have nl := lvT_le s1.2.2.2.2.2.2.2.1
  have st : ∀ Q : KO → Prop, (∀ z3 z4 : Option Value, Wp (D + 1) 211 161 [some (.ref 59), some (.int (Int32.ofNat n)), some (.int (Int32.ofNat 0)), z3, z4] [] k2 Q) → Cl (D + 1) 211 [.ref 59] h Q := fun Q hQ => t_mo0 (D := D) s.1 (Nat.le_refl _) (run1 Q (run2 n Q (fun z2 z3 z4 => t_moN (D := D) (f02.wf s.1) (Nat.le_refl _) (hQ z3 z4))))
  by_cases e : (brT (tkC T) W (q + n)).1 = true
  · obtain ⟨sg, lg⟩ := r2.2.1 e
    obtain ⟨a1, a2, a3, a4, a5, a6⟩ := ok.2.2 e
    have l : z + lszT (brT (tkC T) W (q + n)).2.2.2 + n ≤ (brT (tkC T) W (q + n)).2.1 := by omega
    obtain ⟨k3, f3, s3, lr, run3⟩ := m_nots (D := D) l (by omega) n 0 k2 (Nat.zero_add n) sg
    have el : lszT (oneN n (brT (tkC T) W (q + n))).2.2.2 = lszT (brT (tkC T) W (q + n)).2.2.2 + n := by
      show lszT ((brT (tkC T) W (q + n)).2.2.2 ++ List.replicate n (3, 0, 0)) = _
      rw [lszT_app, lszT_rep]
    refine ⟨k3, ⟨f02.trans (f3.mono (by omega)), fun _ => ⟨?_, ?_⟩, fun y => absurd ((show (brT (tkC T) W (q + n)).1 = false from y).symm.trans e) (by decide)⟩, fun Q hQ => st Q (fun z3 z4 => ?_)⟩
    · rw [el, ← Nat.add_assoc]
      exact s3
    · rw [el, ← Nat.add_assoc]
      show laidS _ _ ((brT (tkC T) W (q + n)).2.2.2 ++ List.replicate n (3, 0, 0)) _
      refine laidS_app (laidS_fm f3 (by omega) (by omega) lg) ?_
      have lr2 := lr
      rw [Nat.add_zero] at lr2
      rw [show 85 + z + lszT (brT (tkC T) W (q + n)).2.2.2 = 85 + (z + lszT (brT (tkC T) W (q + n)).2.2.2) by omega]
      exact lr2
    · exact run3 Q z3 z4 hQ
  · have e := Bool.eq_false_iff.mpr e
    obtain ⟨z', bad, zz, lz⟩ := r2.2.2 e
    refine ⟨k2, ⟨f02, fun y => absurd (e.symm.trans (show (brT (tkC T) W (q + n)).1 = true from y)) (by decide), fun _ => ⟨z', bad, zz, ?_⟩⟩, fun Q hQ => st Q (fun z3 z4 => ?_)⟩
    · show z' + q ≤ z + (brT (tkC T) W (q + n)).2.1
      omega
    · by_cases n0 : n = 0
      · exact t_mo3 (D := D) bad.1 (by rw [n0]; decide) (Nat.le_refl _) hQ
      · exact t_mo4 (D := D) bad.1 (fun y => by have := (nle2 (by omega) (by omega)).mp y; omega) bad.2.2.2.1 (Nat.le_refl _) hQ
theorem m_alL {T : List Nat} {D d e q0 z op : Nat} {P : Nat → PRes} {h : KH} (hD : 4 ≤ D) (l : e + 1 ≤ d) (hP : MPar T D 211 op P) (okP : ∀ q, lvT (tkC T) q → okPR (tkC T) e q (P q)) (zq0 : z ≤ q0) : ∀ (f q : Nat) (A B : List Op) (k : KH), 200 ≤ f + q → FMr z h k → msO k T q (z + lszT B) op → laidS (k.2.2.1 60) (85 + z) B (85 + z + lszT B) → okPR (tkC T) d q0 (true, q, A, B) → ∃ k', resM h k' T q0 z op (seqL (tkC T) 4 11 P f q A B) ∧ ∀ Q : KO → Prop, Q (none, k') → Wp (D + 1) 212 4 [some (.ref 59)] [] k Q := by
  intro f
  induction f with
  | zero =>
    intro q A B k hf fk s lg ok
    have e26 := tk_200 s (by omega)
    exact ⟨k, ⟨fk, fun _ => ⟨s, lg⟩, fun y => by cases y⟩, fun Q hQ => t_ma1 (D := D) s.1 (fun Q hQ => (s_pasN (x := 16) s (by decide) (by rw [e26]; decide) hQ).depth hD) (Nat.le_refl _) hQ⟩
  | succ f ih =>
    intro q A B k hf fk s lg ok
    have hT := s.2.2.1.1
    have zq := s.2.2.2.2.2.2.2.2
    obtain ⟨lv, b2, b3⟩ := id ok
    obtain ⟨_, _, c2, _⟩ := b3 rfl
    simp only [] at lv b2 c2
    unfold seqL
    by_cases e1 : tkC T q = 11
    · rw [if_pos e1]
      obtain ⟨k1, f1, s1, run1⟩ := s_pasY (x := 16) s ((rk_20 (tkC_r T q)).2.2.2.1.mpr e1) (by omega)
      obtain ⟨k2, r2, run2⟩ := hP k1 (q + 1) (z + lszT B) s1
      have ok2 := okP (q + 1) s1.2.2.2.2.2.2.2.1
      have q2l := lvT_le ok2.1
      have f2 : FMr (z + lszT B) k k2 := (f1.fm (z + lszT B) rdF_fm).trans r2.1
      have g1 : ∀ Q : KO → Prop, Q (some (.int 1), k1) → Cl D 208 [.ref 59, .int 16] k Q := fun Q hQ => (run1 Q hQ).depth hD
      by_cases e2 : (P (q + 1)).1 = true
      · rw [if_pos e2]
        obtain ⟨s2, lg2⟩ := r2.2.1 e2
        obtain ⟨a1, a2, a3, a4, a5, a6⟩ := ok2.2.2 e2
        have s3 := s2.st (x := Int32.ofNat (20 - 4)) (by omega)
        have ell : lszT (B ++ ((P (q + 1)).2.2.2 ++ [(4, (0 : Int32), (0 : Int32))])) = lszT B + lszT (P (q + 1)).2.2.2 + 1 := by
          rw [lszT_app, lszT_app]
          have : lszT [(4, (0 : Int32), (0 : Int32))] = 1 := rfl
          rw [this]
          omega
        have okn := seqL_ok (c := tkC T) (d := d) (e := e) (t := 4) (x := 11) (P := P) (by decide) (by decide) l okP q0 1 q A B ok
        unfold seqL at okn
        rw [if_pos e1, if_pos e2] at okn
        obtain ⟨k', r', run'⟩ := ih (P (q + 1)).2.1 (A ++ ((P (q + 1)).2.2.1 ++ [(4, 0, 0)])) (B ++ ((P (q + 1)).2.2.2 ++ [(4, 0, 0)])) (stM k2 (z + lszT B + lszT (P (q + 1)).2.2.2) (Int32.ofNat (20 - 4))) (by omega) ((fk.trans (f2.mono (by omega))).trans (stM_f.mono (by omega))) (by rw [ell, ← Nat.add_assoc, ← Nat.add_assoc]; exact s3) (by
            rw [ell]
            have l1 := laidS_fm ((f2.mono (Nat.le_refl _)).trans ((stM_f (h := k2) (z := z + lszT B + lszT (P (q + 1)).2.2.2) (x := Int32.ofNat (20 - 4))).mono (by omega))) (by omega) (by omega) lg
            have l2 := laidS_fm (stM_f (h := k2) (z := z + lszT B + lszT (P (q + 1)).2.2.2) (x := Int32.ofNat (20 - 4))) (by omega) (by omega) lg2
            have l3 := laidS_one (h := k2) (z := z + lszT B + lszT (P (q + 1)).2.2.2) (t := 4) (a := 0) (b := 0) (by decide) (by decide)
            rw [show 85 + (z + lszT B) = 85 + z + lszT B by omega] at l2
            rw [show 85 + (z + lszT B + lszT (P (q + 1)).2.2.2) = 85 + z + lszT B + lszT (P (q + 1)).2.2.2 by omega] at l3
            rw [show 85 + z + (lszT B + lszT (P (q + 1)).2.2.2 + 1) = 85 + z + lszT B + lszT (P (q + 1)).2.2.2 + 1 by omega]
            exact laidS_app l1 (laidS_app l2 l3)) okn
        exact ⟨k', r', fun Q hQ => t_ma2 (D := D) s.1 s1.1 s2.1 s3.1 g1 run2 (fun Q hQ => (s_stp s2.1 s2.2.2.2.2.2.2.1 (by omega) hQ).depth (Nat.zero_le _)) (Nat.le_refl _) (run' Q hQ)⟩
      · rw [if_neg e2]
        obtain ⟨z', bad, zz, lz⟩ := r2.2.2 (Bool.eq_false_iff.mpr e2)
        have bad3 := bad.st (x := Int32.ofNat (20 - 4))
        refine ⟨stM k2 z' (Int32.ofNat (20 - 4)), ⟨?_, (fun y => by cases y), fun _ => ⟨z' + 1, bad3, by omega, by simp only []; omega⟩⟩, fun Q hQ => t_ma2 (D := D) s.1 s1.1 bad.1 bad3.1 g1 run2 (fun Q hQ => (s_stp bad.1 bad.2.2.2.2.2.1 (by omega) hQ).depth (Nat.zero_le _)) (Nat.le_refl _) (t_ma1 (D := D) bad3.1 (fun Q hQ => (s_pasB bad3 hQ).depth hD) (Nat.le_refl _) hQ)⟩
        exact (fk.trans (f2.mono (by omega))).trans (stM_f.mono (by omega))
    · rw [if_neg e1]
      exact ⟨k, ⟨fk, fun _ => ⟨s, lg⟩, fun y => by cases y⟩, fun Q hQ => t_ma1 (D := D) s.1 (fun Q hQ => (s_pasN (x := 16) s (by decide) (fun y => e1 ((rk_20 (tkC_r T q)).2.2.2.1.mp y)) hQ).depth hD) (Nat.le_refl _) hQ⟩
theorem m_al {T : List Nat} {D e op : Nat} {P : Nat → PRes} (hD : 4 ≤ D) (hP : MPar T D 211 op P) (okP : ∀ q, lvT (tkC T) q → okPR (tkC T) e q (P q)) : MPar T (D + 1) 212 op (seqT (tkC T) 4 11 P) := fun h q z s => by
  obtain ⟨k, r, run⟩ := hP h q z s
  have ok := okP q s.2.2.2.2.2.2.2.1
  have zq := s.2.2.2.2.2.2.2.2
  unfold seqT
  by_cases e1 : (P q).1 = true
  · rw [if_pos e1]
    obtain ⟨s1, lg⟩ := r.2.1 e1
    have okU := ok.up (Nat.le_succ e)
    obtain ⟨k', r', run'⟩ := m_alL (h := h) hD (Nat.le_refl (e + 1)) hP okP zq 200 (P q).2.1 (P q).2.2.1 (P q).2.2.2 k (by omega) r.1 s1 lg ⟨okU.1, okU.2.1, fun _ => okU.2.2 e1⟩
    exact ⟨k', r', fun Q hQ => t_ma0 (D := D) s.1 s1.1 run (Nat.le_refl _) (run' Q hQ)⟩
  · rw [if_neg e1]
    obtain ⟨z', bad, zz, lz⟩ := r.2.2 (Bool.eq_false_iff.mpr e1)
    exact ⟨k, ⟨r.1, (fun y => by cases y), fun _ => ⟨z', bad, zz, lz⟩⟩, fun Q hQ => t_ma0 (D := D) s.1 bad.1 run (Nat.le_refl _) (t_ma1 (D := D) bad.1 (fun Q hQ => (s_pasB bad hQ).depth hD) (Nat.le_refl _) hQ)⟩
theorem m_coL {T : List Nat} {D d e q0 z op : Nat} {P : Nat → PRes} {h : KH} (hD : 4 ≤ D) (l : e + 1 ≤ d) (hP : MPar T D 212 op P) (okP : ∀ q, lvT (tkC T) q → okPR (tkC T) e q (P q)) (zq0 : z ≤ q0) : ∀ (f q : Nat) (A B : List Op) (k : KH), 200 ≤ f + q → FMr z h k → msO k T q (z + lszT B) op → laidS (k.2.2.1 60) (85 + z) B (85 + z + lszT B) → okPR (tkC T) d q0 (true, q, A, B) → ∃ k', resM h k' T q0 z op (seqL (tkC T) 5 10 P f q A B) ∧ ∀ Q : KO → Prop, Q (none, k') → Wp (D + 1) 213 4 [some (.ref 59)] [] k Q := by
  intro f
  induction f with
  | zero =>
    intro q A B k hf fk s lg ok
    have e26 := tk_200 s (by omega)
    exact ⟨k, ⟨fk, fun _ => ⟨s, lg⟩, fun y => by cases y⟩, fun Q hQ => t_mc1 (D := D) s.1 (fun Q hQ => (s_pasN (x := 15) s (by decide) (by rw [e26]; decide) hQ).depth hD) (Nat.le_refl _) hQ⟩
  | succ f ih =>
    intro q A B k hf fk s lg ok
    have hT := s.2.2.1.1
    have zq := s.2.2.2.2.2.2.2.2
    obtain ⟨lv, b2, b3⟩ := id ok
    obtain ⟨_, _, c2, _⟩ := b3 rfl
    simp only [] at lv b2 c2
    unfold seqL
    by_cases e1 : tkC T q = 10
    · rw [if_pos e1]
      obtain ⟨k1, f1, s1, run1⟩ := s_pasY (x := 15) s ((rk_20 (tkC_r T q)).2.2.2.2.1.mpr e1) (by omega)
      obtain ⟨k2, r2, run2⟩ := hP k1 (q + 1) (z + lszT B) s1
      have ok2 := okP (q + 1) s1.2.2.2.2.2.2.2.1
      have q2l := lvT_le ok2.1
      have f2 : FMr (z + lszT B) k k2 := (f1.fm (z + lszT B) rdF_fm).trans r2.1
      have g1 : ∀ Q : KO → Prop, Q (some (.int 1), k1) → Cl D 208 [.ref 59, .int 15] k Q := fun Q hQ => (run1 Q hQ).depth hD
      by_cases e2 : (P (q + 1)).1 = true
      · rw [if_pos e2]
        obtain ⟨s2, lg2⟩ := r2.2.1 e2
        obtain ⟨a1, a2, a3, a4, a5, a6⟩ := ok2.2.2 e2
        have s3 := s2.st (x := Int32.ofNat (20 - 5)) (by omega)
        have ell : lszT (B ++ ((P (q + 1)).2.2.2 ++ [(5, (0 : Int32), (0 : Int32))])) = lszT B + lszT (P (q + 1)).2.2.2 + 1 := by
          rw [lszT_app, lszT_app]
          have : lszT [(5, (0 : Int32), (0 : Int32))] = 1 := rfl
          rw [this]
          omega
        have okn := seqL_ok (c := tkC T) (d := d) (e := e) (t := 5) (x := 10) (P := P) (by decide) (by decide) l okP q0 1 q A B ok
        unfold seqL at okn
        rw [if_pos e1, if_pos e2] at okn
        obtain ⟨k', r', run'⟩ := ih (P (q + 1)).2.1 (A ++ ((P (q + 1)).2.2.1 ++ [(5, 0, 0)])) (B ++ ((P (q + 1)).2.2.2 ++ [(5, 0, 0)])) (stM k2 (z + lszT B + lszT (P (q + 1)).2.2.2) (Int32.ofNat (20 - 5))) (by omega) ((fk.trans (f2.mono (by omega))).trans (stM_f.mono (by omega))) (by rw [ell, ← Nat.add_assoc, ← Nat.add_assoc]; exact s3) (by
            rw [ell]
            have l1 := laidS_fm ((f2.mono (Nat.le_refl _)).trans ((stM_f (h := k2) (z := z + lszT B + lszT (P (q + 1)).2.2.2) (x := Int32.ofNat (20 - 5))).mono (by omega))) (by omega) (by omega) lg
            have l2 := laidS_fm (stM_f (h := k2) (z := z + lszT B + lszT (P (q + 1)).2.2.2) (x := Int32.ofNat (20 - 5))) (by omega) (by omega) lg2
            have l3 := laidS_one (h := k2) (z := z + lszT B + lszT (P (q + 1)).2.2.2) (t := 5) (a := 0) (b := 0) (by decide) (by decide)
            rw [show 85 + (z + lszT B) = 85 + z + lszT B by omega] at l2
            rw [show 85 + (z + lszT B + lszT (P (q + 1)).2.2.2) = 85 + z + lszT B + lszT (P (q + 1)).2.2.2 by omega] at l3
            rw [show 85 + z + (lszT B + lszT (P (q + 1)).2.2.2 + 1) = 85 + z + lszT B + lszT (P (q + 1)).2.2.2 + 1 by omega]
            exact laidS_app l1 (laidS_app l2 l3)) okn
        exact ⟨k', r', fun Q hQ => t_mc2 (D := D) s.1 s1.1 s2.1 s3.1 g1 run2 (fun Q hQ => (s_stp s2.1 s2.2.2.2.2.2.2.1 (by omega) hQ).depth (Nat.zero_le _)) (Nat.le_refl _) (run' Q hQ)⟩
      · rw [if_neg e2]
        obtain ⟨z', bad, zz, lz⟩ := r2.2.2 (Bool.eq_false_iff.mpr e2)
        have bad3 := bad.st (x := Int32.ofNat (20 - 5))
        refine ⟨stM k2 z' (Int32.ofNat (20 - 5)), ⟨?_, (fun y => by cases y), fun _ => ⟨z' + 1, bad3, by omega, by simp only []; omega⟩⟩, fun Q hQ => t_mc2 (D := D) s.1 s1.1 bad.1 bad3.1 g1 run2 (fun Q hQ => (s_stp bad.1 bad.2.2.2.2.2.1 (by omega) hQ).depth (Nat.zero_le _)) (Nat.le_refl _) (t_mc1 (D := D) bad3.1 (fun Q hQ => (s_pasB bad3 hQ).depth hD) (Nat.le_refl _) hQ)⟩
        exact (fk.trans (f2.mono (by omega))).trans (stM_f.mono (by omega))
    · rw [if_neg e1]
      exact ⟨k, ⟨fk, fun _ => ⟨s, lg⟩, fun y => by cases y⟩, fun Q hQ => t_mc1 (D := D) s.1 (fun Q hQ => (s_pasN (x := 15) s (by decide) (fun y => e1 ((rk_20 (tkC_r T q)).2.2.2.2.1.mp y)) hQ).depth hD) (Nat.le_refl _) hQ⟩
theorem m_co {T : List Nat} {D e op : Nat} {P : Nat → PRes} (hD : 4 ≤ D) (hP : MPar T D 212 op P) (okP : ∀ q, lvT (tkC T) q → okPR (tkC T) e q (P q)) : MPar T (D + 1) 213 op (seqT (tkC T) 5 10 P) := fun h q z s => by
  obtain ⟨k, r, run⟩ := hP h q z s
  have ok := okP q s.2.2.2.2.2.2.2.1
  have zq := s.2.2.2.2.2.2.2.2
  unfold seqT
  by_cases e1 : (P q).1 = true
  · rw [if_pos e1]
    obtain ⟨s1, lg⟩ := r.2.1 e1
    have okU := ok.up (Nat.le_succ e)
    obtain ⟨k', r', run'⟩ := m_coL (h := h) hD (Nat.le_refl (e + 1)) hP okP zq 200 (P q).2.1 (P q).2.2.1 (P q).2.2.2 k (by omega) r.1 s1 lg ⟨okU.1, okU.2.1, fun _ => okU.2.2 e1⟩
    exact ⟨k', r', fun Q hQ => t_mc0 (D := D) s.1 s1.1 run (Nat.le_refl _) (run' Q hQ)⟩
  · rw [if_neg e1]
    obtain ⟨z', bad, zz, lz⟩ := r.2.2 (Bool.eq_false_iff.mpr e1)
    exact ⟨k, ⟨r.1, (fun y => by cases y), fun _ => ⟨z', bad, zz, lz⟩⟩, fun Q hQ => t_mc0 (D := D) s.1 bad.1 run (Nat.le_refl _) (t_mc1 (D := D) bad.1 (fun Q hQ => (s_pasB bad hQ).depth hD) (Nat.le_refl _) hQ)⟩
theorem brT_ok {c : Nat → Nat} {d : Nat} {W : Nat → PRes} (hd : 1 ≤ d) (hW : ∀ q, lvT c q → c q = 23 → okPR c d q (W q)) : ∀ q, lvT c q → okPR c d q (brT c W q) := fun q h => by
  unfold brT
  by_cases e : c q = 23
  · rw [if_pos e]
    exact hW q h e
  · rw [if_neg e]
    exact (cmpT_ok h).up hd
theorem m_oneK {T : List Nat} : ∀ k, k ≤ 3 → MPar T (3 * k + 6) 211 (3 - k) (oneT (tkC T) (withT (tkC T) k))
  | 0, _ => m_one (D := 5) (by decide) m_br0 (brT_ok (d := 1) (by decide) (fun q h e => (withT_ok 0 q h e)))
  | k + 1, hk => by
    have hc : MPar T (3 * k + 8) 213 (3 - (k + 1) + 1) (condT (tkC T) (withT (tkC T) k)) := by
      rw [show 3 - (k + 1) + 1 = 3 - k by omega]
      exact m_co (by omega) (m_al (by omega) (m_oneK k (by omega)) (fun q h => oneT_ok (d := 2 * k + 1) (by omega) (withT_ok k) h)) (fun q h => eachT_ok (d := 2 * k + 1) (by omega) (withT_ok k) h)
    exact m_one (D := 3 * k + 8) (by omega) (m_brS (by omega) (by omega) hc) (brT_ok (d := 2 * (k + 1) + 1) (by omega) (fun q h e => withT_ok (k + 1) q h e))
theorem m_cond {T : List Nat} : MPar T 17 213 0 (condT (tkC T) (withT (tkC T) 3)) :=
  m_co (by decide) (m_al (by decide) (m_oneK 3 (Nat.le_refl _)) (fun q h => oneT_ok (d := 7) (by decide) (withT_ok 3) h)) (fun q h => eachT_ok (d := 7) (by decide) (withT_ok 3) h)
