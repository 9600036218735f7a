/-! KM: the class, a hand obeys -/
theorem under01 (a b : Int32) : kretok (kmrc 34) (f_cUnder a b) = true := by
  have h : f_cUnder a b = 0 ∨ f_cUnder a b = 1 := by
    unfold f_cUnder
    repeat' split
    all_goals first | exact Or.inl rfl | exact Or.inr rfl
  rcases h with h | h <;> rw [h] <;> rfl
def f_cRubs (v : Int32) : Int32 := f_cUnder v (4 : Int32)
set_option maxHeartbeats 4000000 in
theorem s_cRubs {d : Nat} {Q : KO → Prop} {h : KH} {v : Int32} (hd : 1 ≤ d) (hQ : Q (some (.int (f_cRubs v)), h)) : Cl d 34 [.int (v)] h Q := by
  refine Cl.of (ls := [some (.int (v))]) rfl rfl ?_
  refine Wp.seg 2 (pc1 := 2) (ls1 := [some (.int (v))]) (st1 := [.int (4), .int (v)]) rfl ?_
  refine Wp.inv (d2 := 0) (as := [.int (v), .int (4)]) (r := []) rfl rfl rfl rfl rfl rfl (by omega) (s_cUnder (Nat.le_refl _) ?_)
  show Wp d 34 5 [some (.int (v))] [.int (f_cUnder v (4 : Int32))] h Q
  exact Wp.reti rfl (under01 _ _) (by unfold f_cRubs at hQ; exact hQ)
set_option maxHeartbeats 4000000 in
theorem t_obey {d : Nat} {Q : KO → Prop} {h : KH} (hw : WF h) {a : Nat} (ha : cityA a) {n k c f : Nat} {w y : Int32} (hn : n < 6) (hc2 : c < 12) (hk : h.2.2.1 (a + 1) (4 * n + 0) = Int32.ofNat k) (hc : h.2.2.1 (a + 1) (4 * n + 1) = Int32.ofNat c) (hf : h.2.2.1 (a + 1) (4 * n + 2) = Int32.ofNat f) (hy : h.2.2.1 (a + 1) (4 * n + 3) = y) (hd : 2 ≤ d) (hQ : (¬ w = (1 : Int32) → (w = (2 : Int32) → Q (none, kwi h a 3 ((h.2.2.1 a 3) &&& ((stE (f_cStrokes (Int32.ofNat k) (Int32.ofNat f)) c) ^^^ (-1 : Int32))))) ∧ (¬ (w = (2 : Int32)) → ((f_cRubs (Int32.ofNat k)) = 0 → (y < (f_cCosts (Int32.ofNat k)) → Q (none, h)) ∧ (¬ (y < (f_cCosts (Int32.ofNat k))) → Q (none, kwi (kwi h (a + 1) (4 * n + 3) (y - (f_cCosts (Int32.ofNat k)))) a 3 ((h.2.2.1 a 3) ||| (stE (f_cStrokes (Int32.ofNat k) (Int32.ofNat f)) c))))) ∧ (¬ ((f_cRubs (Int32.ofNat k)) = 0) → Q (none, kwi h a 3 ((h.2.2.1 a 3) &&& ((stE (f_cStrokes (Int32.ofNat k) (Int32.ofNat f)) c) ^^^ (-1 : Int32))))))) ∧ (¬ (¬ w = (1 : Int32)) → Q (none, h))) : Cl d 16 [.ref a, .int (Int32.ofNat n), .int (w)] h Q := by
  refine Cl.of (ls := [some (.ref a), some (.int (Int32.ofNat n)), some (.int (w)), none, none, none]) rfl rfl ?_
  refine Wp.seg 2 (pc1 := 2) (ls1 := [some (.ref a), some (.int (Int32.ofNat n)), some (.int (w)), none, none, none]) (st1 := [.int (1), .int (w)]) rfl ?_
  refine Wp.if2 rfl (fun (c1 : ¬ w = (1 : Int32)) => ?_) (fun (c1 : ¬ (¬ w = (1 : Int32))) => ?_)
  · refine Wp.seg 3 (pc1 := 9) (ls1 := [some (.ref a), some (.int (Int32.ofNat n)), some (.int (w)), none, none, none]) (st1 := [.int (0), .int (Int32.ofNat n), .ref a]) rfl ?_
    refine Wp.invV (d2 := 0) (as := [.ref a, .int (Int32.ofNat n), .int (0)]) (r := []) (t := (1, 0)) rfl rfl rfl rfl (cA_t hw ha) rfl rfl ⟨rfl, rfl⟩ (by omega) (s_cget hw ha (n := n) (w := 0) rfl (by omega) hk ?_)
    show Wp d 16 12 [some (.ref a), some (.int (Int32.ofNat n)), some (.int (w)), none, none, none] [.int (Int32.ofNat k)] h Q
    refine Wp.seg 4 (pc1 := 16) (ls1 := [some (.ref a), some (.int (Int32.ofNat n)), some (.int (w)), some (.int (Int32.ofNat k)), none, none]) (st1 := [.int (1), .int (Int32.ofNat n), .ref a]) rfl ?_
    refine Wp.invV (d2 := 0) (as := [.ref a, .int (Int32.ofNat n), .int (1)]) (r := []) (t := (1, 0)) rfl rfl rfl rfl (cA_t hw ha) rfl rfl ⟨rfl, rfl⟩ (by omega) (s_cget hw ha (n := n) (w := 1) rfl (by omega) hc ?_)
    show Wp d 16 19 [some (.ref a), some (.int (Int32.ofNat n)), some (.int (w)), some (.int (Int32.ofNat k)), none, none] [.int (Int32.ofNat c)] h Q
    refine Wp.seg 4 (pc1 := 23) (ls1 := [some (.ref a), some (.int (Int32.ofNat n)), some (.int (w)), some (.int (Int32.ofNat k)), none, none]) (st1 := [.int (2), .int (Int32.ofNat n), .ref a, .int (Int32.ofNat k), .int (Int32.ofNat c)]) rfl ?_
    refine Wp.invV (d2 := 0) (as := [.ref a, .int (Int32.ofNat n), .int (2)]) (r := [.int (Int32.ofNat k), .int (Int32.ofNat c)]) (t := (1, 0)) rfl rfl rfl rfl (cA_t hw ha) rfl rfl ⟨rfl, rfl⟩ (by omega) (s_cget hw ha (n := n) (w := 2) rfl (by omega) hf ?_)
    show Wp d 16 26 [some (.ref a), some (.int (Int32.ofNat n)), some (.int (w)), some (.int (Int32.ofNat k)), none, none] [.int (Int32.ofNat f), .int (Int32.ofNat k), .int (Int32.ofNat c)] h Q
    refine Wp.inv (d2 := 0) (as := [.int (Int32.ofNat k), .int (Int32.ofNat f)]) (r := [.int (Int32.ofNat c)]) rfl rfl rfl rfl rfl rfl (by omega) (s_cStrokes (Nat.le_refl _) ?_)
    show Wp d 16 29 [some (.ref a), some (.int (Int32.ofNat n)), some (.int (w)), some (.int (Int32.ofNat k)), none, none] [.int (f_cStrokes (Int32.ofNat k) (Int32.ofNat f)), .int (Int32.ofNat c)] h Q
    refine Wp.inv (d2 := 1) (as := [.int (Int32.ofNat c), .int (f_cStrokes (Int32.ofNat k) (Int32.ofNat f))]) (r := []) rfl rfl rfl rfl rfl rfl (by omega) (s_cedges (Nat.le_refl _) hc2 ?_)
    show Wp d 16 32 [some (.ref a), some (.int (Int32.ofNat n)), some (.int (w)), some (.int (Int32.ofNat k)), none, none] [.int (stE (f_cStrokes (Int32.ofNat k) (Int32.ofNat f)) c)] h Q
    refine Wp.seg 3 (pc1 := 36) (ls1 := [some (.ref a), some (.int (Int32.ofNat n)), some (.int (w)), some (.int (Int32.ofNat k)), some (.int (stE (f_cStrokes (Int32.ofNat k) (Int32.ofNat f)) c)), none]) (st1 := [.int (2), .int (w)]) rfl ?_
    refine Wp.if2 rfl (fun (c2 : w = (2 : Int32)) => ?_) (fun (c2 : ¬ (w = (2 : Int32))) => ?_)
    · refine Wp.seg 2 (pc1 := 48) (ls1 := [some (.ref a), some (.int (Int32.ofNat n)), some (.int (w)), some (.int (Int32.ofNat k)), some (.int (stE (f_cStrokes (Int32.ofNat k) (Int32.ofNat f)) c)), none]) (st1 := [.ref a, .ref a]) rfl ?_
      refine Wp.gi (t := (1, 0)) rfl (cA_t hw ha) (Or.inl rfl) ?_
      refine Wp.seg 4 (pc1 := 56) (ls1 := [some (.ref a), some (.int (Int32.ofNat n)), some (.int (w)), some (.int (Int32.ofNat k)), some (.int (stE (f_cStrokes (Int32.ofNat k) (Int32.ofNat f)) c)), none]) (st1 := [.int ((h.2.2.1 a 3) &&& ((stE (f_cStrokes (Int32.ofNat k) (Int32.ofNat f)) c) ^^^ (-1 : Int32))), .ref a]) rfl ?_
      refine Wp.pi (t := (1, 0)) rfl (cA_t hw ha) (Or.inl rfl) ?_
      exact Wp.retv rfl rfl ((hQ.1 c1).1 c2)
    · refine Wp.seg 1 (pc1 := 40) (ls1 := [some (.ref a), some (.int (Int32.ofNat n)), some (.int (w)), some (.int (Int32.ofNat k)), some (.int (stE (f_cStrokes (Int32.ofNat k) (Int32.ofNat f)) c)), none]) (st1 := [.int (Int32.ofNat k)]) rfl ?_
      refine Wp.inv (d2 := 1) (as := [.int (Int32.ofNat k)]) (r := []) rfl rfl rfl rfl rfl rfl (by omega) (s_cRubs (Nat.le_refl _) ?_)
      show Wp d 16 43 [some (.ref a), some (.int (Int32.ofNat n)), some (.int (w)), some (.int (Int32.ofNat k)), some (.int (stE (f_cStrokes (Int32.ofNat k) (Int32.ofNat f)) c)), none] [.int (f_cRubs (Int32.ofNat k))] h Q
      refine Wp.if1 rfl (fun (c3 : (f_cRubs (Int32.ofNat k)) = 0) => ?_) (fun (c3 : ¬ ((f_cRubs (Int32.ofNat k)) = 0)) => ?_)
      · refine Wp.seg 3 (pc1 := 63) (ls1 := [some (.ref a), some (.int (Int32.ofNat n)), some (.int (w)), some (.int (Int32.ofNat k)), some (.int (stE (f_cStrokes (Int32.ofNat k) (Int32.ofNat f)) c)), none]) (st1 := [.int (3), .int (Int32.ofNat n), .ref a]) rfl ?_
        refine Wp.invV (d2 := 0) (as := [.ref a, .int (Int32.ofNat n), .int (3)]) (r := []) (t := (1, 0)) rfl rfl rfl rfl (cA_t hw ha) rfl rfl ⟨rfl, rfl⟩ (by omega) (s_cget hw ha (n := n) (w := 3) rfl (by omega) hy ?_)
        show Wp d 16 66 [some (.ref a), some (.int (Int32.ofNat n)), some (.int (w)), some (.int (Int32.ofNat k)), some (.int (stE (f_cStrokes (Int32.ofNat k) (Int32.ofNat f)) c)), none] [.int (y)] h Q
        refine Wp.seg 3 (pc1 := 71) (ls1 := [some (.ref a), some (.int (Int32.ofNat n)), some (.int (w)), some (.int (Int32.ofNat k)), some (.int (stE (f_cStrokes (Int32.ofNat k) (Int32.ofNat f)) c)), some (.int (y))]) (st1 := [.int (Int32.ofNat k), .int (y)]) rfl ?_
        refine Wp.inv (d2 := 0) (as := [.int (Int32.ofNat k)]) (r := [.int (y)]) rfl rfl rfl rfl rfl rfl (by omega) (s_cCosts (Nat.le_refl _) ?_)
        show Wp d 16 74 [some (.ref a), some (.int (Int32.ofNat n)), some (.int (w)), some (.int (Int32.ofNat k)), some (.int (stE (f_cStrokes (Int32.ofNat k) (Int32.ofNat f)) c)), some (.int (y))] [.int (f_cCosts (Int32.ofNat k)), .int (y)] h Q
        refine Wp.if2 rfl (fun (c4 : y < (f_cCosts (Int32.ofNat k))) => ?_) (fun (c4 : ¬ (y < (f_cCosts (Int32.ofNat k)))) => ?_)
        · exact Wp.retv rfl rfl ((((hQ.1 c1).2 c2).1 c3).1 c4)
        · refine Wp.seg 5 (pc1 := 83) (ls1 := [some (.ref a), some (.int (Int32.ofNat n)), some (.int (w)), some (.int (Int32.ofNat k)), some (.int (stE (f_cStrokes (Int32.ofNat k) (Int32.ofNat f)) c)), some (.int (y))]) (st1 := [.int (Int32.ofNat k), .int (y), .int (3), .int (Int32.ofNat n), .ref a]) rfl ?_
          refine Wp.inv (d2 := 0) (as := [.int (Int32.ofNat k)]) (r := [.int (y), .int (3), .int (Int32.ofNat n), .ref a]) rfl rfl rfl rfl rfl rfl (by omega) (s_cCosts (Nat.le_refl _) ?_)
          show Wp d 16 86 [some (.ref a), some (.int (Int32.ofNat n)), some (.int (w)), some (.int (Int32.ofNat k)), some (.int (stE (f_cStrokes (Int32.ofNat k) (Int32.ofNat f)) c)), some (.int (y))] [.int (f_cCosts (Int32.ofNat k)), .int (y), .int (3), .int (Int32.ofNat n), .ref a] h Q
          refine Wp.seg 1 (pc1 := 87) (ls1 := [some (.ref a), some (.int (Int32.ofNat n)), some (.int (w)), some (.int (Int32.ofNat k)), some (.int (stE (f_cStrokes (Int32.ofNat k) (Int32.ofNat f)) c)), some (.int (y))]) (st1 := [.int (y - (f_cCosts (Int32.ofNat k))), .int (3), .int (Int32.ofNat n), .ref a]) rfl ?_
          refine Wp.invV (d2 := 0) (as := [.ref a, .int (Int32.ofNat n), .int (3), .int (y - (f_cCosts (Int32.ofNat k)))]) (r := []) (t := (1, 0)) rfl rfl rfl rfl (cA_t hw ha) rfl rfl ⟨rfl, rfl⟩ (by omega) (s_cput hw ha (n := n) (w := 3) rfl (by omega) ?_)
          show Wp d 16 90 [some (.ref a), some (.int (Int32.ofNat n)), some (.int (w)), some (.int (Int32.ofNat k)), some (.int (stE (f_cStrokes (Int32.ofNat k) (Int32.ofNat f)) c)), some (.int (y))] [.int (h.2.2.1 (a + 1) (4 * n + 3))] (kwi h (a + 1) (4 * n + 3) (y - (f_cCosts (Int32.ofNat k)))) Q
          refine Wp.seg 3 (pc1 := 93) (ls1 := [some (.ref a), some (.int (Int32.ofNat n)), some (.int (w)), some (.int (Int32.ofNat k)), some (.int (stE (f_cStrokes (Int32.ofNat k) (Int32.ofNat f)) c)), some (.int (y))]) (st1 := [.ref a, .ref a]) rfl ?_
          refine Wp.gi (t := (1, 0)) rfl (cA_t hw ha) (Or.inl rfl) ?_
          rw [show (kwi h (a + 1) (4 * n + 3) (y - (f_cCosts (Int32.ofNat k)))).2.2.1 a 3 = h.2.2.1 a 3 from congrFun (ku_n (k := a + 1) (j := a) h.2.2.1 _ (by omega)) 3]
          refine Wp.seg 2 (pc1 := 99) (ls1 := [some (.ref a), some (.int (Int32.ofNat n)), some (.int (w)), some (.int (Int32.ofNat k)), some (.int (stE (f_cStrokes (Int32.ofNat k) (Int32.ofNat f)) c)), some (.int (y))]) (st1 := [.int ((h.2.2.1 a 3) ||| (stE (f_cStrokes (Int32.ofNat k) (Int32.ofNat f)) c)), .ref a]) rfl ?_
          refine Wp.pi (t := (1, 0)) rfl (cA_t hw ha) (Or.inl rfl) ?_
          exact Wp.retv rfl rfl ((((hQ.1 c1).2 c2).1 c3).2 c4)
      · refine Wp.seg 2 (pc1 := 48) (ls1 := [some (.ref a), some (.int (Int32.ofNat n)), some (.int (w)), some (.int (Int32.ofNat k)), some (.int (stE (f_cStrokes (Int32.ofNat k) (Int32.ofNat f)) c)), none]) (st1 := [.ref a, .ref a]) rfl ?_
        refine Wp.gi (t := (1, 0)) rfl (cA_t hw ha) (Or.inl rfl) ?_
        refine Wp.seg 4 (pc1 := 56) (ls1 := [some (.ref a), some (.int (Int32.ofNat n)), some (.int (w)), some (.int (Int32.ofNat k)), some (.int (stE (f_cStrokes (Int32.ofNat k) (Int32.ofNat f)) c)), none]) (st1 := [.int ((h.2.2.1 a 3) &&& ((stE (f_cStrokes (Int32.ofNat k) (Int32.ofNat f)) c) ^^^ (-1 : Int32))), .ref a]) rfl ?_
        refine Wp.pi (t := (1, 0)) rfl (cA_t hw ha) (Or.inl rfl) ?_
        exact Wp.retv rfl rfl (((hQ.1 c1).2 c2).2 c3)
  · exact Wp.retv rfl rfl (hQ.2 c1)
theorem cS_f3 (I : Nat → Nat → Int32) (a : Nat) (x : Int32) : cS (ku I a (ku (I a) 3 x)) a = ku (cS I a) 3 x := by
  funext m
  by_cases hm : 11 ≤ m
  · obtain ⟨i, rfl⟩ : ∃ i, m = 11 + i := ⟨m - 11, by omega⟩
    rw [cS_hand, ku_n _ _ (show a + 1 ≠ a by omega), ku_n _ _ (by omega), cS_hand]
  · have h11 : m < 11 := by omega
    have e : ∀ j, ku I a (ku (I a) 3 x) a j = ku (I a) 3 x j := fun j => by rw [ku_s]
    by_cases q : m = 3
    · subst q
      rw [ku_s]
      show ku I a (ku (I a) 3 x) a 3 = x
      rw [e, ku_s]
    · rw [ku_n _ _ q]
      unfold cS
      rw [if_neg hm, if_neg hm]
      match m, h11, q with
      | 0, _, _ => exact (e 6).trans (ku_n _ _ (by decide))
      | 1, _, _ => exact (e 7).trans (ku_n _ _ (by decide))
      | 2, _, _ => exact (e 2).trans (ku_n _ _ (by decide))
      | 3, _, q => exact absurd rfl q
      | 4, _, _ => exact (e 4).trans (ku_n _ _ (by decide))
      | 5, _, _ => exact (e 5).trans (ku_n _ _ (by decide))
      | 6, _, _ => exact (e 8).trans (ku_n _ _ (by decide))
      | 7, _, _ => exact (e 9).trans (ku_n _ _ (by decide))
      | 8, _, _ => exact (e 1).trans (ku_n _ _ (by decide))
      | 9, _, _ => rfl
      | 10, _, _ => rfl
      | m + 11, h, _ => omega
theorem cS_putk (h : KH) (a j : Nat) (x : Int32) : cS (kwi h (a + 1) j x).2.2.1 a = ku (cS h.2.2.1 a) (11 + j) x := cS_put h.2.2.1 a j x
theorem s_obey {d : Nat} {Q : KO → Prop} {h : KH} (hw : WF h) {a n c : Nat} {w : Int32} (ha : cityA a) (hn : n < 6) (hd : 2 ≤ d) (hh : handOK (cS h.2.2.1 a) n) (hcc : c < 12) (hc : cS h.2.2.1 a (11 + 4 * n + 1) = Int32.ofNat c) (hwv : w = 0 ∨ w = 1 ∨ w = 2)
    (hQ : ∀ I, cS I a = actS (cS h.2.2.1 a) w (stE (f_strokesOf (cS h.2.2.1 a) n) c) n → (∀ b, b ≠ a → b ≠ a + 1 → I b = h.2.2.1 b) → Q (none, hI h I)) : Cl d 16 [.ref a, .int (Int32.ofNat n), .int w] h Q := by
  obtain ⟨kk, c2, f, ch, g1, g2, g3, g4, g5, g6, g7, g8, g9⟩ := hh
  obtain rfl : c = c2 := (oeq (by omega) (by omega)).mp (hc.symm.trans g7)
  have k6 := g6
  have k7 := g7
  have k8 := g8
  have k9 := g9
  rw [show 11 + 4 * n + 0 = 11 + (4 * n + 0) by omega, cS_hand] at k6
  rw [show 11 + 4 * n + 1 = 11 + (4 * n + 1) by omega, cS_hand] at k7
  rw [show 11 + 4 * n + 2 = 11 + (4 * n + 2) by omega, cS_hand] at k8
  rw [show 11 + 4 * n + 3 = 11 + (4 * n + 3) by omega, cS_hand] at k9
  have et := kall1_ok (kall1_ok kinds_ok (i := kk) (by omega)) (i := f) g4
  simp only [Bool.or_eq_true, Bool.and_eq_true, decide_eq_true_eq, beq_iff_eq, decide_eq_decide] at et
  rcases et with et | ⟨⟨⟨t1, t2⟩, t3⟩, t4⟩
  · omega
  have es : f_strokesOf (cS h.2.2.1 a) n = f_cStrokes (Int32.ofNat kk) (Int32.ofNat f) := by rw [g_strokesOf_eq, g6, g8, t1]
  have ec : f_costsOf (cS h.2.2.1 a) n = f_cCosts (Int32.ofNat kk) := by rw [g_costsOf_eq, g6, g8, t2]
  have er : f_doesRub (cS h.2.2.1 a) n = 0 ↔ f_cRubs (Int32.ofNat kk) = 0 := by rw [g_doesRub_eq, g6, g8]; exact t3
  have e3 : cS h.2.2.1 a 3 = h.2.2.1 a 3 := rfl
  unfold actS at hQ
  simp only [es, ec, er, g9, e3] at hQ
  have rub : (w = 2 ∨ (w = 0 ∧ ¬ f_cRubs (Int32.ofNat kk) = 0)) → Q (none, kwi h a 3 ((h.2.2.1 a 3) &&& ((stE (f_cStrokes (Int32.ofNat kk) (Int32.ofNat f)) c) ^^^ (-1 : Int32)))) := by
    intro q
    simp only [if_pos q] at hQ
    exact hQ _ (cS_f3 _ _ _) (fun b h1 h2 => ku_n _ _ h1)
  have nothing : ¬ (w = 2 ∨ (w = 0 ∧ ¬ f_cRubs (Int32.ofNat kk) = 0)) → ¬ (w = 0 ∧ f_cCosts (Int32.ofNat kk) ≤ Int32.ofNat ch) → Q (none, h) := by
    intro q q2
    simp only [if_neg q, if_neg q2] at hQ
    exact hQ h.2.2.1 rfl (fun b h1 h2 => rfl)
  have draw : ¬ (w = 2 ∨ (w = 0 ∧ ¬ f_cRubs (Int32.ofNat kk) = 0)) → (w = 0 ∧ f_cCosts (Int32.ofNat kk) ≤ Int32.ofNat ch) → Q (none, kwi (kwi h (a + 1) (4 * n + 3) (Int32.ofNat ch - f_cCosts (Int32.ofNat kk))) a 3 ((h.2.2.1 a 3) ||| (stE (f_cStrokes (Int32.ofNat kk) (Int32.ofNat f)) c))) := by
    intro q q2
    simp only [if_neg q, if_pos q2] at hQ
    refine hQ _ ?_ (fun b h1 h2 => ?_)
    · show cS (ku _ a (ku _ 3 _)) a = _
      rw [cS_f3, cS_putk, show 11 + 4 * n + 3 = 11 + (4 * n + 3) by omega]
    · show ku _ a _ b = _
      rw [ku_n _ _ h1]
      exact ku_n _ _ h2
  refine t_obey hw ha hn g3 k6 k7 k8 k9 hd ⟨fun w1 => ⟨fun w2 => rub (Or.inl w2), fun w2 => ?_⟩, fun w1 => ?_⟩
  · have w0 : w = 0 := by
      rcases hwv with h0 | h0 | h0
      · exact h0
      · exact absurd h0 w1
      · exact absurd h0 w2
    have nr : f_cRubs (Int32.ofNat kk) = 0 → ¬ (w = 2 ∨ (w = 0 ∧ ¬ f_cRubs (Int32.ofNat kk) = 0)) := fun z q => q.elim w2 (fun y => y.2 z)
    exact ⟨fun r0 => ⟨fun r1 => nothing (nr r0) (fun q => Int32.not_le.mpr r1 q.2), fun r1 => draw (nr r0) ⟨w0, Int32.not_lt.mp r1⟩⟩, fun r0 => rub (Or.inr ⟨w0, r0⟩)⟩
  · have w1' : w = 1 := Decidable.not_not.mp w1
    subst w1'
    exact nothing (fun q => q.elim (by decide) (fun z => absurd z.1 (by decide))) (fun q => absurd q.1 (by decide))
