/-! KM: the class: the grammar, conditions -/
theorem resO_one {h k : KH} {c : Nat → Nat} {o d q n z : Nat} {r : PRes} (ok : okPR c d (q + n) r) (g : resO h k o z r) : resO h (if r.1 = true ∧ n % 2 = 1 then eH k o (z + r.2.2.1.length) (-3) else k) o z (oneN n r) := by
  by_cases e : r.1 = true ∧ n % 2 = 1
  · rw [if_pos e]
    obtain ⟨g1, g2, g3⟩ := g.2 e.1
    refine ⟨g.1.trans eH_gr, fun _ => ?_⟩
    have el : (oneN n r).2.2.1 = r.2.2.1 ++ [(3, 0, 0)] := by
      unfold oneN
      simp only []
      rw [if_pos e.2]
    have ell : (oneN n r).2.2.1.length = r.2.2.1.length + 1 := by
      rw [el, List.length_append]
      rfl
    refine ⟨by rw [ell]; exact eH_5, ?_, fun j hj => by rw [eH_j (by omega)]; exact g3 j hj⟩
    rw [ell, el]
    exact laidC_app (laidC_congr (fun j h1 h2 => eH_j (by omega)) g2) (laidC_one (Or.inr ⟨by decide, by decide, rfl⟩))
  · rw [if_neg e]
    refine ⟨g.1, fun (z1 : r.1 = true) => ?_⟩
    have en : ¬ n % 2 = 1 := fun y => e ⟨z1, y⟩
    have el : (oneN n r).2.2.1 = r.2.2.1 := by
      unfold oneN
      simp only []
      rw [if_neg en, List.append_nil]
    rw [el]
    exact g.2 z1
theorem s_notL {c b : Nat → Nat} {N o L D : Nat} {p : Int32} {Q : KO → Prop} {h : KH} (s : stC h c b N o L) : ∀ (f i q : Nat) (nb : Bool), f + i = 200 → lvT c q → (∀ x : Int32, Wp (D + 1) 67 42 [some (.ref 29), some (.ref o), some (.int p), some (.int (b32 (xor nb (decide (notT c f q % 2 = 1))))), some (.int x)] [] (gH h c (q + notT c f q)) Q) → Wp (D + 1) 67 5 [some (.ref 29), some (.ref o), some (.int p), some (.int (b32 nb)), some (.int (Int32.ofNat i))] [] (gH h c q) Q := by
  obtain ⟨hw, cl, hO, hNL⟩ := id s
  intro f
  induction f with
  | zero =>
    intro i q nb hi lv hQ
    have hQ := hQ (Int32.ofNat i)
    have e0 : notT c 0 q = 0 := rfl
    rw [e0, show decide (0 % 2 = 1) = false from rfl, Bool.xor_false] at hQ
    have hb := (cl.2.2.2.2 q).1
    have i2 : (200 : Int32) ≤ Int32.ofNat i := (nle2 (a := 200) (by omega) (by omega)).mpr (by omega)
    by_cases e : c q = 12
    · have e12 : Int32.ofNat (c q) = 12 := by rw [e]; rfl
      cases nb with
      | false => exact t_roB0 (h := gH h c q) (D := D) hw gH_6 e12 i2 (Nat.le_refl _) hQ
      | true => exact t_roB1 (h := gH h c q) (D := D) hw gH_6 e12 i2 (Nat.le_refl _) hQ
    · have e12 : ¬ Int32.ofNat (c q) = 12 := fun y => e ((neq2 (b := 12) (by omega) (by omega)).mp y)
      cases nb with
      | false => exact t_roA0 (h := gH h c q) (D := D) hw gH_6 e12 (Nat.le_refl _) hQ
      | true => exact t_roA1 (h := gH h c q) (D := D) hw gH_6 e12 (Nat.le_refl _) hQ
  | succ f ih =>
    intro i q nb hi lv hQ
    have hb := (cl.2.2.2.2 q).1
    have ii : Int32.ofNat i + (1 : Int32) = Int32.ofNat (i + 1) := (Int32.ofNat_add i 1).symm
    by_cases e : c q = 12
    · have e12 : Int32.ofNat (c q) = 12 := by rw [e]; rfl
      have i2 : ¬ (200 : Int32) ≤ Int32.ofNat i := n200 (by omega)
      have g1 : ∀ Q : KO → Prop, Q (none, gH h c (q + 1)) → Cl D 62 [.ref 29] (gH h c q) Q := fun Q hQ => (s_goOn hw cl lv (by omega) hQ).depth (Nat.zero_le _)
      have en : notT c (f + 1) q = notT c f (q + 1) + 1 := if_pos e
      have nx : Wp (D + 1) 67 5 [some (.ref 29), some (.ref o), some (.int p), some (.int (b32 (!nb))), some (.int (Int32.ofNat (i + 1)))] [] (gH h c (q + 1)) Q := by
        refine ih (i + 1) (q + 1) (!nb) (by omega) (lv.s (by omega)) (fun x => ?_)
        have := hQ x
        rw [en] at this
        rw [show q + 1 + notT c f (q + 1) = q + (notT c f (q + 1) + 1) by omega]
        have ex : xor (!nb) (decide (notT c f (q + 1) % 2 = 1)) = xor nb (decide ((notT c f (q + 1) + 1) % 2 = 1)) := by
          by_cases o1 : notT c f (q + 1) % 2 = 1
          · rw [decide_eq_true o1, decide_eq_false (by omega)]
            cases nb <;> rfl
          · rw [decide_eq_false o1, decide_eq_true (by omega)]
            cases nb <;> rfl
        rw [ex]
        exact this
      cases nb with
      | false => exact t_roC0 (h := gH h c q) (k1 := gH h c (q + 1)) (D := D) hw hw gH_6 e12 i2 g1 (Nat.le_refl _) (by rw [ii]; exact nx)
      | true => exact t_roC1 (h := gH h c q) (k1 := gH h c (q + 1)) (D := D) hw hw gH_6 e12 i2 g1 (Nat.le_refl _) (by rw [ii]; exact nx)
    · have e12 : ¬ Int32.ofNat (c q) = 12 := fun y => e ((neq2 (b := 12) (by omega) (by omega)).mp y)
      have hQ := hQ (Int32.ofNat i)
      have en : notT c (f + 1) q = 0 := if_neg e
      rw [en, show decide (0 % 2 = 1) = false from rfl, Bool.xor_false] at hQ
      cases nb with
      | false => exact t_roA0 (h := gH h c q) (D := D) hw gH_6 e12 (Nat.le_refl _) hQ
      | true => exact t_roA1 (h := gH h c q) (D := D) hw gH_6 e12 (Nat.le_refl _) hQ
theorem c_one {c b : Nat → Nat} {N o L D dd : Nat} {p : Int32} {W : Nat → PRes} (hD : 1 ≤ D) (hdd : 1 ≤ dd) (hW : CPar c b N o L D 68 [.ref 29, .ref o, .int p] (fun q => c q = 23) W) (okW : ∀ q, lvT c q → c q = 23 → okPR c dd q (W q)) : CPar c b N o L (D + 1) 67 [.ref 29, .ref o, .int p] (fun _ => True) (oneT c W) := by
  intro h q z s lv hz h5 _
  obtain ⟨hw, cl, hO, hNL⟩ := id s
  have hN := cl.2.2.1
  unfold oneT
  obtain ⟨n, en⟩ : ∃ n, notT c 200 q = n := ⟨_, rfl⟩
  have lv1 : lvT c (q + n) := by
    rw [← en]
    exact notT_lv 200 q lv
  rw [en]
  have hb := (cl.2.2.2.2 (q + n)).1
  have st : ∀ Q : KO → Prop, (∀ x : Int32, Wp (D + 1) 67 42 [some (.ref 29), some (.ref o), some (.int p), some (.int (b32 (decide (n % 2 = 1)))), some (.int x)] [] (gH h c (q + n)) Q) → Cl (D + 1) 67 [.ref 29, .ref o, .int p] (gH h c q) Q := fun Q hQ => by
    refine t_ro0 (h := gH h c q) (D := D) hw (Nat.le_refl _) (s_notL s 200 0 q false rfl lv (fun x => ?_))
    rw [en, Bool.false_xor]
    exact hQ x
  have fin : ∀ (r : PRes) (k : KH), okPR c dd (q + n) r → resO h k o z r → (∀ (Q : KO → Prop) (x : Int32) (nb : Bool), (r.1 = true ∧ nb = true → ∀ k2 : KH, WF k2 → (∀ Q2 : KO → Prop, Q2 (none, k2) → Cl D 75 [.ref o, .int (-3)] (gH k c r.2.1) Q2) → Q (some (.int 1), k2) → Wp (D + 1) 67 42 [some (.ref 29), some (.ref o), some (.int p), some (.int (b32 nb)), some (.int x)] [] (gH h c (q + n)) Q) ∧ (¬ (r.1 = true ∧ nb = true) → Q (some (.int (b32 r.1)), gH k c r.2.1) → Wp (D + 1) 67 42 [some (.ref 29), some (.ref o), some (.int p), some (.int (b32 nb)), some (.int x)] [] (gH h c (q + n)) Q)) → ∃ k', resO h k' o z (oneN n r) ∧ ∀ Q : KO → Prop, Q (some (.int (b32 (oneN n r).1)), gH k' c (oneN n r).2.1) → Cl (D + 1) 67 [.ref 29, .ref o, .int p] (gH h c q) Q := fun r k ok g run => by
    refine ⟨_, resO_one ok g, fun Q hQ => st Q (fun x => ?_)⟩
    have sk := s.gr g.1
    by_cases e : r.1 = true ∧ n % 2 = 1
    · rw [if_pos e] at hQ
      obtain ⟨g1, g2, g3⟩ := g.2 e.1
      obtain ⟨a1, a2, _⟩ := ok.2.2 e.1
      have a3 := lv_N hN ok.1
      have hQ : Q (some (.int 1), gH (eH k o (z + r.2.2.1.length) (-3)) c r.2.1) := by
        have e2 : (oneN n r).1 = true := e.1
        rw [e2] at hQ
        exact hQ
      exact (run Q x (decide (n % 2 = 1))).1 ⟨e.1, decide_eq_true e.2⟩ _ (show WF (gH (eH k o (z + r.2.2.1.length) (-3)) c r.2.1) from sk.1) (fun Q2 h2 => (s_emit sk.1 sk.2.2.1 g1 (by have := e.2; omega) h2).depth (Nat.zero_le _)) hQ
    · rw [if_neg e] at hQ
      exact (run Q x (decide (n % 2 = 1))).2 (fun y => e ⟨y.1, of_decide_eq_true y.2⟩) hQ
  by_cases e : c (q + n) = 23
  · rw [if_pos e]
    obtain ⟨k, g, run⟩ := hW h (q + n) z s lv1 (by omega) h5 e
    have hwk := (s.gr g.1).1
    have hOk := (s.gr g.1).2.2.1
    have c23 : Int32.ofNat (c (q + n)) = 23 := by rw [e]; rfl
    refine fin (W (q + n)) k (okW _ lv1 e) g (fun Q x nb => ⟨fun y k2 wk2 r2 hQ => ?_, fun y hQ => ?_⟩)
    · obtain ⟨y1, rfl⟩ := y
      rw [y1] at run
      exact t_roW11 (h := gH h c (q + n)) (k1 := gH k c (W (q + n)).2.1) (k2 := k2) hw hwk wk2 hOk gH_6 c23 run r2 (Nat.le_refl _) hQ
    · rcases r1 : (W (q + n)).1 with _ | _
      · rw [r1] at run hQ
        cases nb with
        | false => exact t_roW00 (h := gH h c (q + n)) (k1 := gH k c (W (q + n)).2.1) hw hwk gH_6 c23 run (Nat.le_refl _) hQ
        | true => exact t_roW10 (h := gH h c (q + n)) (k1 := gH k c (W (q + n)).2.1) hw hwk gH_6 c23 run (Nat.le_refl _) hQ
      · rw [r1] at run hQ
        cases nb with
        | false => exact t_roW01 (h := gH h c (q + n)) (k1 := gH k c (W (q + n)).2.1) hw hwk gH_6 c23 run (Nat.le_refl _) hQ
        | true => exact absurd ⟨r1, rfl⟩ y
  · rw [if_neg e]
    obtain ⟨k, g, run⟩ := c_cmp h (q + n) z s lv1 (by omega) h5 trivial
    have run : ∀ Q : KO → Prop, Q (some (.int (b32 (cmpT c (q + n)).1)), gH k c (cmpT c (q + n)).2.1) → Cl D 69 [.ref 29, .ref o] (gH h c (q + n)) Q := fun Q hQ => (run Q hQ).depth hD
    have hwk := (s.gr g.1).1
    have hOk := (s.gr g.1).2.2.1
    have c23 : ¬ Int32.ofNat (c (q + n)) = 23 := fun y => e ((neq2 (b := 23) (by omega) (by omega)).mp y)
    refine fin (cmpT c (q + n)) k ((cmpT_ok lv1).up hdd) g (fun Q x nb => ⟨fun y k2 wk2 r2 hQ => ?_, fun y hQ => ?_⟩)
    · obtain ⟨y1, rfl⟩ := y
      rw [y1] at run
      exact t_roK11 (h := gH h c (q + n)) (k1 := gH k c (cmpT c (q + n)).2.1) (k2 := k2) hw hwk wk2 hOk gH_6 c23 run r2 (Nat.le_refl _) hQ
    · rcases r1 : (cmpT c (q + n)).1 with _ | _
      · rw [r1] at run hQ
        cases nb with
        | false => exact t_roK00 (h := gH h c (q + n)) (k1 := gH k c (cmpT c (q + n)).2.1) hw hwk gH_6 c23 run (Nat.le_refl _) hQ
        | true => exact t_roK10 (h := gH h c (q + n)) (k1 := gH k c (cmpT c (q + n)).2.1) hw hwk gH_6 c23 run (Nat.le_refl _) hQ
      · rw [r1] at run hQ
        cases nb with
        | false => exact t_roK01 (h := gH h c (q + n)) (k1 := gH k c (cmpT c (q + n)).2.1) hw hwk gH_6 c23 run (Nat.le_refl _) hQ
        | true => exact absurd ⟨r1, rfl⟩ y
theorem s_eacL {c b : Nat → Nat} {N o L D d e q0 z : Nat} {p : Int32} {P : Nat → PRes} {h : KH} (sh : stC h c b N o L) (hz : z ≤ q0) (l : e + 1 ≤ d) (hP : CPar c b N o L D 67 [.ref 29, .ref o, .int p] (fun _ => True) P) (okP : ∀ q, lvT c q → okPR c e q (P q)) : ∀ (f i q : Nat) (A B : List Op) (k : KH), f + i = 200 → GrE o h k → k.2.2.1 o 5 = Int32.ofNat (z + A.length) → laidC (k.2.2.1 (o + 4)) z A (z + A.length) → (∀ j, j < z → k.2.2.1 (o + 4) j = h.2.2.1 (o + 4) j) → okPR c d q0 (true, q, A, B) → ∃ k', resO h k' o z (seqL c 4 11 P f q A B) ∧ ∀ Q : KO → Prop, Q (some (.int (b32 (seqL c 4 11 P f q A B).1)), gH k' c (seqL c 4 11 P f q A B).2.1) → Wp (D + 1) 66 13 [some (.ref 29), some (.ref o), some (.int p), some (.int (Int32.ofNat i))] [] (gH k c q) Q := by
  intro f
  induction f with
  | zero =>
    intro i q A B k hi gk k5 kA kz ok
    have s := sh.gr gk
    obtain ⟨hw, cl, hO, hNL⟩ := id s
    have hb := (cl.2.2.2.2 q).1
    refine ⟨k, ⟨gk, fun _ => ⟨k5, kA, kz⟩⟩, fun Q hQ => ?_⟩
    by_cases e1 : c q = 11
    · exact t_re3 (h := gH k c q) (D := D) hw gH_6 (by rw [e1]; rfl) ((nle2 (a := 200) (by omega) (by omega)).mpr (by omega)) (Nat.le_refl _) hQ
    · exact t_re2 (h := gH k c q) (D := D) hw gH_6 (fun y => e1 ((neq2 (b := 11) (by omega) (by omega)).mp y)) (Nat.le_refl _) hQ
  | succ f ih =>
    intro i q A B k hi gk k5 kA kz ok
    have s := sh.gr gk
    obtain ⟨hw, cl, hO, hNL⟩ := id s
    have hN := cl.2.2.1
    have hb := (cl.2.2.2.2 q).1
    have ii : Int32.ofNat i + (1 : Int32) = Int32.ofNat (i + 1) := (Int32.ofNat_add i 1).symm
    obtain ⟨lv, b2, b3⟩ := id ok
    obtain ⟨c1, c2, _⟩ := b3 rfl
    simp only [] at lv b2 c1 c2
    unfold seqL
    by_cases e1 : c q = 11
    · rw [if_pos e1]
      have n26 : c q ≠ 26 := by omega
      have lv1 := lv.s n26
      have i2 : ¬ (200 : Int32) ≤ Int32.ofNat i := n200 (by omega)
      have g1 : ∀ Q : KO → Prop, Q (none, gH k c (q + 1)) → Cl D 62 [.ref 29] (gH k c q) Q := fun Q hQ => (s_goOn hw cl lv n26 hQ).depth (Nat.zero_le _)
      obtain ⟨k2, r2, run2⟩ := hP k (q + 1) (z + A.length) s lv1 (by omega) k5 trivial
      have s2 := s.gr r2.1
      have ok2 := okP (q + 1) lv1
      have tn : Int32.ofNat (c q) = 11 := by rw [e1]; rfl
      by_cases e2 : (P (q + 1)).1 = true
      · rw [if_pos e2]
        rw [e2] at run2
        obtain ⟨x1, x2, x3⟩ := r2.2 e2
        obtain ⟨a1, a2, a3, a4, a5, a6⟩ := ok2.2.2 e2
        have a0 := lv_N hN ok2.1
        have ell : (A ++ ((P (q + 1)).2.2.1 ++ [(4, (0 : Int32), (0 : Int32))])).length = A.length + (P (q + 1)).2.2.1.length + 1 := by
          rw [List.length_append, List.length_append, List.length_cons, List.length_nil]
          omega
        have okn := seqL_ok (c := c) (d := d) (e := e) (t := 4) (x := 11) (P := P) (by decide) (by decide) l okP q0 1 q A B ok
        unfold seqL at okn
        rw [if_pos e1, if_pos e2] at okn
        obtain ⟨k3, r3, run3⟩ := ih (i + 1) (P (q + 1)).2.1 (A ++ ((P (q + 1)).2.2.1 ++ [(4, 0, 0)])) (B ++ ((P (q + 1)).2.2.2 ++ [(4, 0, 0)])) (eH k2 o (z + A.length + (P (q + 1)).2.2.1.length) (-1)) (by omega) ((gk.trans r2.1).trans eH_gr) (by rw [ell, ← Nat.add_assoc, ← Nat.add_assoc]; exact eH_5) (by
            rw [ell, ← Nat.add_assoc, ← Nat.add_assoc]
            refine laidC_app (laidC_congr (fun j h1 h2 => ?_) kA) (laidC_app (laidC_congr (fun j h1 h2 => eH_j (by omega)) x2) (laidC_one (Or.inr ⟨by decide, by decide, rfl⟩)))
            rw [eH_j (by omega)]
            exact x3 j h2) (fun j hj => by rw [eH_j (by omega), x3 j (by omega)]; exact kz j hj) okn
        refine ⟨k3, r3, fun Q hQ => ?_⟩
        refine t_re5 (h := gH k c q) (k1 := gH k c (q + 1)) (k2 := gH k2 c (P (q + 1)).2.1) (k3 := gH (eH k2 o (z + A.length + (P (q + 1)).2.2.1.length) (-1)) c (P (q + 1)).2.1) hw hw s2.1 s2.1 s2.2.2.1 gH_6 tn i2 g1 run2 (fun Q hQ => (s_emit s2.1 s2.2.2.1 x1 (by omega) hQ).depth (Nat.zero_le _)) (Nat.le_refl _) ?_
        rw [ii]
        exact run3 Q hQ
      · rw [if_neg e2]
        rw [Bool.eq_false_iff.mpr e2] at run2
        exact ⟨k2, ⟨gk.trans r2.1, fun y => by cases y⟩, fun Q hQ => t_re4 (h := gH k c q) (k1 := gH k c (q + 1)) (k2 := gH k2 c (P (q + 1)).2.1) hw hw s2.1 gH_6 tn i2 g1 run2 (Nat.le_refl _) hQ⟩
    · rw [if_neg e1]
      exact ⟨k, ⟨gk, fun _ => ⟨k5, kA, kz⟩⟩, fun Q hQ => t_re2 (h := gH k c q) (D := D) hw gH_6 (fun y => e1 ((neq2 (b := 11) (by omega) (by omega)).mp y)) (Nat.le_refl _) hQ⟩
theorem c_eac {c b : Nat → Nat} {N o L D e : Nat} {p : Int32} {P : Nat → PRes} (hP : CPar c b N o L D 67 [.ref 29, .ref o, .int p] (fun _ => True) P) (okP : ∀ q, lvT c q → okPR c e q (P q)) : CPar c b N o L (D + 1) 66 [.ref 29, .ref o, .int p] (fun _ => True) (seqT c 4 11 P) := by
  intro h q z s lv hz h5 _
  have hw := s.1
  obtain ⟨k, r, run⟩ := hP h q z s lv hz h5 trivial
  have sk := s.gr r.1
  have ok := okP q lv
  unfold seqT
  by_cases e1 : (P q).1 = true
  · rw [if_pos e1]
    rw [e1] at run
    obtain ⟨x1, x2, x3⟩ := r.2 e1
    have okU := ok.up (Nat.le_succ e)
    obtain ⟨k', r', run'⟩ := s_eacL s hz (Nat.le_refl (e + 1)) hP okP 200 0 (P q).2.1 (P q).2.2.1 (P q).2.2.2 k rfl r.1 x1 x2 x3 ⟨okU.1, okU.2.1, fun _ => okU.2.2 e1⟩
    exact ⟨k', r', fun Q hQ => t_re1 (h := gH h c q) (k1 := gH k c (P q).2.1) hw sk.1 run (Nat.le_refl _) (run' Q hQ)⟩
  · rw [if_neg e1]
    rw [Bool.eq_false_iff.mpr e1] at run
    exact ⟨k, ⟨r.1, fun y => by cases y⟩, fun Q hQ => t_re0 (h := gH h c q) (k1 := gH k c (P q).2.1) hw sk.1 run (Nat.le_refl _) hQ⟩
theorem s_conL {c b : Nat → Nat} {N o L D d e q0 z : Nat} {p : Int32} {P : Nat → PRes} {h : KH} (sh : stC h c b N o L) (hz : z ≤ q0) (l : e + 1 ≤ d) (hP : CPar c b N o L D 66 [.ref 29, .ref o, .int p] (fun _ => True) P) (okP : ∀ q, lvT c q → okPR c e q (P q)) : ∀ (f i q : Nat) (A B : List Op) (k : KH), f + i = 200 → GrE o h k → k.2.2.1 o 5 = Int32.ofNat (z + A.length) → laidC (k.2.2.1 (o + 4)) z A (z + A.length) → (∀ j, j < z → k.2.2.1 (o + 4) j = h.2.2.1 (o + 4) j) → okPR c d q0 (true, q, A, B) → ∃ k', resO h k' o z (seqL c 5 10 P f q A B) ∧ ∀ Q : KO → Prop, Q (some (.int (b32 (seqL c 5 10 P f q A B).1)), gH k' c (seqL c 5 10 P f q A B).2.1) → Wp (D + 1) 65 13 [some (.ref 29), some (.ref o), some (.int p), some (.int (Int32.ofNat i))] [] (gH k c q) Q := by
  intro f
  induction f with
  | zero =>
    intro i q A B k hi gk k5 kA kz ok
    have s := sh.gr gk
    obtain ⟨hw, cl, hO, hNL⟩ := id s
    have hb := (cl.2.2.2.2 q).1
    refine ⟨k, ⟨gk, fun _ => ⟨k5, kA, kz⟩⟩, fun Q hQ => ?_⟩
    by_cases e1 : c q = 10
    · exact t_rd3 (h := gH k c q) (D := D) hw gH_6 (by rw [e1]; rfl) ((nle2 (a := 200) (by omega) (by omega)).mpr (by omega)) (Nat.le_refl _) hQ
    · exact t_rd2 (h := gH k c q) (D := D) hw gH_6 (fun y => e1 ((neq2 (b := 10) (by omega) (by omega)).mp y)) (Nat.le_refl _) hQ
  | succ f ih =>
    intro i q A B k hi gk k5 kA kz ok
    have s := sh.gr gk
    obtain ⟨hw, cl, hO, hNL⟩ := id s
    have hN := cl.2.2.1
    have hb := (cl.2.2.2.2 q).1
    have ii : Int32.ofNat i + (1 : Int32) = Int32.ofNat (i + 1) := (Int32.ofNat_add i 1).symm
    obtain ⟨lv, b2, b3⟩ := id ok
    obtain ⟨c1, c2, _⟩ := b3 rfl
    simp only [] at lv b2 c1 c2
    unfold seqL
    by_cases e1 : c q = 10
    · rw [if_pos e1]
      have n26 : c q ≠ 26 := by omega
      have lv1 := lv.s n26
      have i2 : ¬ (200 : Int32) ≤ Int32.ofNat i := n200 (by omega)
      have g1 : ∀ Q : KO → Prop, Q (none, gH k c (q + 1)) → Cl D 62 [.ref 29] (gH k c q) Q := fun Q hQ => (s_goOn hw cl lv n26 hQ).depth (Nat.zero_le _)
      obtain ⟨k2, r2, run2⟩ := hP k (q + 1) (z + A.length) s lv1 (by omega) k5 trivial
      have s2 := s.gr r2.1
      have ok2 := okP (q + 1) lv1
      have tn : Int32.ofNat (c q) = 10 := by rw [e1]; rfl
      by_cases e2 : (P (q + 1)).1 = true
      · rw [if_pos e2]
        rw [e2] at run2
        obtain ⟨x1, x2, x3⟩ := r2.2 e2
        obtain ⟨a1, a2, a3, a4, a5, a6⟩ := ok2.2.2 e2
        have a0 := lv_N hN ok2.1
        have ell : (A ++ ((P (q + 1)).2.2.1 ++ [(5, (0 : Int32), (0 : Int32))])).length = A.length + (P (q + 1)).2.2.1.length + 1 := by
          rw [List.length_append, List.length_append, List.length_cons, List.length_nil]
          omega
        have okn := seqL_ok (c := c) (d := d) (e := e) (t := 5) (x := 10) (P := P) (by decide) (by decide) l okP q0 1 q A B ok
        unfold seqL at okn
        rw [if_pos e1, if_pos e2] at okn
        obtain ⟨k3, r3, run3⟩ := ih (i + 1) (P (q + 1)).2.1 (A ++ ((P (q + 1)).2.2.1 ++ [(5, 0, 0)])) (B ++ ((P (q + 1)).2.2.2 ++ [(5, 0, 0)])) (eH k2 o (z + A.length + (P (q + 1)).2.2.1.length) (-2)) (by omega) ((gk.trans r2.1).trans eH_gr) (by rw [ell, ← Nat.add_assoc, ← Nat.add_assoc]; exact eH_5) (by
            rw [ell, ← Nat.add_assoc, ← Nat.add_assoc]
            refine laidC_app (laidC_congr (fun j h1 h2 => ?_) kA) (laidC_app (laidC_congr (fun j h1 h2 => eH_j (by omega)) x2) (laidC_one (Or.inr ⟨by decide, by decide, rfl⟩)))
            rw [eH_j (by omega)]
            exact x3 j h2) (fun j hj => by rw [eH_j (by omega), x3 j (by omega)]; exact kz j hj) okn
        refine ⟨k3, r3, fun Q hQ => ?_⟩
        refine t_rd5 (h := gH k c q) (k1 := gH k c (q + 1)) (k2 := gH k2 c (P (q + 1)).2.1) (k3 := gH (eH k2 o (z + A.length + (P (q + 1)).2.2.1.length) (-2)) c (P (q + 1)).2.1) hw hw s2.1 s2.1 s2.2.2.1 gH_6 tn i2 g1 run2 (fun Q hQ => (s_emit s2.1 s2.2.2.1 x1 (by omega) hQ).depth (Nat.zero_le _)) (Nat.le_refl _) ?_
        rw [ii]
        exact run3 Q hQ
      · rw [if_neg e2]
        rw [Bool.eq_false_iff.mpr e2] at run2
        exact ⟨k2, ⟨gk.trans r2.1, fun y => by cases y⟩, fun Q hQ => t_rd4 (h := gH k c q) (k1 := gH k c (q + 1)) (k2 := gH k2 c (P (q + 1)).2.1) hw hw s2.1 gH_6 tn i2 g1 run2 (Nat.le_refl _) hQ⟩
    · rw [if_neg e1]
      exact ⟨k, ⟨gk, fun _ => ⟨k5, kA, kz⟩⟩, fun Q hQ => t_rd2 (h := gH k c q) (D := D) hw gH_6 (fun y => e1 ((neq2 (b := 10) (by omega) (by omega)).mp y)) (Nat.le_refl _) hQ⟩
theorem c_con {c b : Nat → Nat} {N o L D e : Nat} {p : Int32} {P : Nat → PRes} (hP : CPar c b N o L D 66 [.ref 29, .ref o, .int p] (fun _ => True) P) (okP : ∀ q, lvT c q → okPR c e q (P q)) : CPar c b N o L (D + 1) 65 [.ref 29, .ref o, .int p] (fun _ => True) (seqT c 5 10 P) := by
  intro h q z s lv hz h5 _
  have hw := s.1
  obtain ⟨k, r, run⟩ := hP h q z s lv hz h5 trivial
  have sk := s.gr r.1
  have ok := okP q lv
  unfold seqT
  by_cases e1 : (P q).1 = true
  · rw [if_pos e1]
    rw [e1] at run
    obtain ⟨x1, x2, x3⟩ := r.2 e1
    have okU := ok.up (Nat.le_succ e)
    obtain ⟨k', r', run'⟩ := s_conL s hz (Nat.le_refl (e + 1)) hP okP 200 0 (P q).2.1 (P q).2.2.1 (P q).2.2.2 k rfl r.1 x1 x2 x3 ⟨okU.1, okU.2.1, fun _ => okU.2.2 e1⟩
    exact ⟨k', r', fun Q hQ => t_rd1 (h := gH h c q) (k1 := gH k c (P q).2.1) hw sk.1 run (Nat.le_refl _) (run' Q hQ)⟩
  · rw [if_neg e1]
    rw [Bool.eq_false_iff.mpr e1] at run
    exact ⟨k, ⟨r.1, fun y => by cases y⟩, fun Q hQ => t_rd0 (h := gH h c q) (k1 := gH k c (P q).2.1) hw sk.1 run (Nat.le_refl _) hQ⟩
theorem c_cond {c b : Nat → Nat} {N o L D dd : Nat} {p : Int32} {W : Nat → PRes} (hD : 1 ≤ D) (hdd : 1 ≤ dd) (hW : CPar c b N o L D 68 [.ref 29, .ref o, .int p] (fun q => c q = 23) W) (okW : ∀ q, lvT c q → c q = 23 → okPR c dd q (W q)) : CPar c b N o L (D + 3) 65 [.ref 29, .ref o, .int p] (fun _ => True) (condT c W) :=
  c_con (c_eac (c_one hD hdd hW okW) (fun q hq => oneT_ok hdd okW hq)) (fun q hq => eachT_ok hdd okW hq)
theorem c_with {c b : Nat → Nat} {N o L : Nat} : ∀ k, k ≤ 3 → CPar c b N o L (4 * k + 1) 68 [.ref 29, .ref o, .int (Int32.ofNat (3 - k))] (fun q => c q = 23) (withT c k)
  | 0, _ => fun h q z s lv hz h5 _ => ⟨h, ⟨GrE.refl o h, fun y => by cases y⟩, fun Q hQ => t_rw1 (h := gH h c q) (D := 0) s.1 (by decide) (Nat.le_refl _) hQ⟩
  | k + 1, hk => fun h q z s lv hz h5 e => by
    obtain ⟨hw, cl, hO, hNL⟩ := id s
    have n26 : c q ≠ 26 := by omega
    have lv1 := lv.s n26
    have hc := c_cond (by omega) (by omega) (c_with (c := c) (b := b) (N := N) (o := o) (L := L) k (by omega)) (withT_ok (c := c) k)
    obtain ⟨k1, r, run⟩ := hc h (q + 1) z s lv1 (by omega) h5 trivial
    have sk := s.gr r.1
    have ok := condT_ok (d := 2 * k + 1) (by omega) (withT_ok (c := c) k) lv1
    have hb := (cl.2.2.2.2 (condT c (withT c k) (q + 1)).2.1).1
    have ep : Int32.ofNat (3 - (k + 1)) + 1 = Int32.ofNat (3 - k) := by
      rw [show 3 - k = 3 - (k + 1) + 1 by omega]
      exact (Int32.ofNat_add _ 1).symm
    have p3 : Int32.ofNat (3 - (k + 1)) < 3 := (nlt2 (b := 3) (by omega) (by omega)).mpr (by omega)
    have g1 : ∀ Q : KO → Prop, Q (none, gH h c (q + 1)) → Cl (4 * k + 4) 62 [.ref 29] (gH h c q) Q := fun Q hQ => (s_goOn hw cl lv n26 hQ).depth (Nat.zero_le _)
    rw [← ep] at run
    unfold withT
    by_cases e1 : (condT c (withT c k) (q + 1)).1 = true
    · rw [if_pos e1]
      rw [e1] at run
      by_cases e2 : c (condT c (withT c k) (q + 1)).2.1 = 24
      · rw [if_pos e2]
        exact ⟨k1, ⟨r.1, fun _ => r.2 e1⟩, fun Q hQ => t_rw4 (h := gH h c q) (k1 := gH h c (q + 1)) (k2 := gH k1 c (condT c (withT c k) (q + 1)).2.1) (k3 := gH k1 c ((condT c (withT c k) (q + 1)).2.1 + 1)) (D := 4 * k + 4) hw hw sk.1 sk.1 p3 g1 run gH_6 (by rw [e2]; rfl) (fun Q hQ => (s_goOn sk.1 sk.2.1 ok.1 (by omega) hQ).depth (Nat.zero_le _)) (by omega) hQ⟩
      · rw [if_neg e2]
        exact ⟨k1, ⟨r.1, fun y => by cases y⟩, fun Q hQ => t_rw3 (h := gH h c q) (k1 := gH h c (q + 1)) (k2 := gH k1 c (condT c (withT c k) (q + 1)).2.1) (D := 4 * k + 4) hw hw sk.1 p3 g1 run gH_6 (fun y => e2 ((neq2 (b := 24) (by omega) (by omega)).mp y)) (by omega) hQ⟩
    · rw [if_neg e1]
      rw [Bool.eq_false_iff.mpr e1] at run
      exact ⟨k1, ⟨r.1, fun y => by cases y⟩, fun Q hQ => t_rw2 (h := gH h c q) (k1 := gH h c (q + 1)) (k2 := gH k1 c (condT c (withT c k) (q + 1)).2.1) (D := 4 * k + 4) hw hw sk.1 p3 g1 run (by omega) hQ⟩
