/-! KM: the class, what comes behind an act, is the reference's -/
def fld (m : Nat) : Nat := match m with
  | 0 => 6
  | 1 => 7
  | 2 => 2
  | 3 => 3
  | 4 => 4
  | 5 => 5
  | 6 => 8
  | 7 => 9
  | 8 => 1
  | _ => 0
theorem cS_fld (I : Nat → Nat → Int32) (a : Nat) {m : Nat} (hm : m < 9) : cS I a m = I a (fld m) := by
  match m, hm with
  | 0, _ => rfl
  | 1, _ => rfl
  | 2, _ => rfl
  | 3, _ => rfl
  | 4, _ => rfl
  | 5, _ => rfl
  | 6, _ => rfl
  | 7, _ => rfl
  | 8, _ => rfl
  | m + 9, h => omega
theorem fld_inj : kall1 9 (fun i => kall1 9 (fun j => decide (i = j) || decide (fld i ≠ fld j))) = true := by decide +kernel
theorem cS_kwi (h : KH) (a : Nat) {m : Nat} (hm : m < 9) (x : Int32) : cS (kwi h a (fld m) x).2.2.1 a = ku (cS h.2.2.1 a) m x := by
  funext i
  have hI : (kwi h a (fld m) x).2.2.1 = ku h.2.2.1 a (ku (h.2.2.1 a) (fld m) x) := rfl
  by_cases h11 : 11 ≤ i
  · obtain ⟨j, rfl⟩ : ∃ j, i = 11 + j := ⟨i - 11, by omega⟩
    rw [cS_hand, hI, ku_n _ _ (show a + 1 ≠ a by omega), ku_n _ _ (by omega), cS_hand]
  · by_cases h9 : i < 9
    · rw [cS_fld _ _ h9, hI, ku_s]
      by_cases q : i = m
      · subst q; rw [ku_s, ku_s]
      · have e := kall1_ok (kall1_ok fld_inj h9) hm
        simp only [Bool.or_eq_true, decide_eq_true_eq] at e
        rw [ku_n _ _ q, cS_fld _ _ h9, ku_n _ _ (e.resolve_left q)]
    · rw [ku_n _ _ (by omega)]
      have h3 : i = 9 ∨ i = 10 := by omega
      rcases h3 with rfl | rfl <;> rfl
theorem s_setT {d : Nat} {Q : KO → Prop} {h : KH} (hw : WF h) {a c dn : Nat} {t : Int32} {z : Option Value} (ha : cityA a) (hd : 3 ≤ d) (hc : c < 12) (h2 : cS h.2.2.1 a 2 = Int32.ofNat c) (hdn : dn < 32) (h1 : cS h.2.2.1 a 1 = Int32.ofNat dn)
    (hQ : ∀ I, cS I a = tailS (cS h.2.2.1 a) → (∀ b, b ≠ a → I b = h.2.2.1 b) → Q (some (.int (shutS (cS h.2.2.1 a 2) (rainL (cS h.2.2.1 a)))), hI h I)) : Wp d 15 22 [some (.ref a), some (.int t), z] [] h Q := by
  have f5 : cS h.2.2.1 a 5 = h.2.2.1 a 5 := rfl
  have f1 : cS h.2.2.1 a 1 = h.2.2.1 a 7 := rfl
  have f3 : cS h.2.2.1 a 3 = h.2.2.1 a 3 := rfl
  have f4 : cS h.2.2.1 a 4 = h.2.2.1 a 4 := rfl
  have f6 : cS h.2.2.1 a 6 = h.2.2.1 a 8 := rfl
  have hb1 := bt_low (x := cS h.2.2.1 a 5) hdn
  have hb0 := bt_low0 (x := cS h.2.2.1 a 5) hdn
  rw [← h1] at hb1 hb0
  refine t_setT hw ha hc h2 hd ⟨fun q => ?_, fun q => ?_⟩
  · have e : rainL (cS h.2.2.1 a) = cS h.2.2.1 a 3 := by
      unfold rainL
      rw [if_neg (fun r => by have r1 := hb1.mp r; rw [hb0.mp q] at r1; cases r1)]
    have ep : f_bitCount (shutS (Int32.ofNat c) (h.2.2.1 a 3)) = worthS (cS h.2.2.1 a) := by
      unfold worthS
      rw [e, h2, pop_shut]
      rfl
    rw [ep]
    rw [e, h2] at hQ
    refine hQ _ ?_ (fun b hb => ?_)
    · show cS (kwi (kwi h a (fld 6) _) a (fld 1) _).2.2.1 a = _
      rw [cS_kwi _ _ (by decide), cS_kwi _ _ (by decide)]
      unfold tailS
      rw [e, ku_self]
      rfl
    · show ku _ a _ b = _
      rw [ku_n _ _ hb]
      exact ku_n _ _ hb
  · have e : rainL (cS h.2.2.1 a) = cS h.2.2.1 a 3 &&& cS h.2.2.1 a 4 := by
      unfold rainL
      rw [if_pos (hb1.mpr (by cases r : bt (cS h.2.2.1 a 5) dn with
        | true => rfl
        | false => exact absurd (hb0.mpr r) q))]
    have ep : f_bitCount (shutS (Int32.ofNat c) ((h.2.2.1 a 3) &&& (h.2.2.1 a 4))) = worthS (cS h.2.2.1 a) := by
      unfold worthS
      rw [e, h2, pop_shut]
      rfl
    rw [ep]
    rw [e, h2] at hQ
    refine hQ _ ?_ (fun b hb => ?_)
    · show cS (kwi (kwi (kwi h a (fld 3) _) a (fld 6) _) a (fld 1) _).2.2.1 a = _
      rw [cS_kwi _ _ (by decide), cS_kwi _ _ (by decide), cS_kwi _ _ (by decide)]
      unfold tailS
      rw [e]
      rfl
    · show ku _ a _ b = _
      rw [ku_n _ _ hb]
      show ku _ a _ b = _
      rw [ku_n _ _ hb]
      exact ku_n _ _ hb
