/-! KM: the reference, a dusk goes by -/
theorem hS_kw (h : KH) (X : Nat → Int32) (j : Nat) (x : Int32) : kwi (hS h X) 60 j x = hS h (ku X j x) := by
  rw [hS_w, hS_g, hS_hS]
def handOK (S : Nat → Int32) (i : Nat) : Prop := ∃ k c f ch : Nat, 1 ≤ k ∧ k ≤ 5 ∧ c < 12 ∧ f < 4 ∧ ch ≤ 9 ∧ S (11 + 4 * i + 0) = Int32.ofNat k ∧ S (11 + 4 * i + 1) = Int32.ofNat c ∧ S (11 + 4 * i + 2) = Int32.ofNat f ∧ S (11 + 4 * i + 3) = Int32.ofNat ch
theorem kN_ok : kall1 48 (fun j => decide (kE.getD j 0 < 0) || (decide ((kN.getD j 0).toNatClampNeg < 12) && decide (kN.getD j 0 = Int32.ofNat (kN.getD j 0).toNatClampNeg))) = true := by decide +kernel
def turnN (k f : Nat) : Int32 := (Int32.ofNat f + f_turnsBy (Int32.ofNat k)) - (Int32.ofNat f + f_turnsBy (Int32.ofNat k)) / 4 * 4
theorem turn_ok : kall1 6 (fun k => kall1 4 (fun f => decide ((turnN k f).toNatClampNeg < 4) && decide (turnN k f = Int32.ofNat (turnN k f).toNatClampNeg))) = true := by decide +kernel
theorem handOK_other {S : Nat → Int32} {i j m : Nat} {x : Int32} (hm : m < 11 + 4 * i ∨ 11 + 4 * i + 3 < m) (h : handOK S i) : handOK (ku S m x) i := by
  obtain ⟨k, c, f, ch, h1, h2, h3, h4, h5, h6, h7, h8, h9⟩ := h
  refine ⟨k, c, f, ch, h1, h2, h3, h4, h5, ?_, ?_, ?_, ?_⟩
  · rw [ku_n _ _ (by omega)]; exact h6
  · rw [ku_n _ _ (by omega)]; exact h7
  · rw [ku_n _ _ (by omega)]; exact h8
  · rw [ku_n _ _ (by omega)]; exact h9
theorem walk_self {S : Nat → Int32} {i : Nat} (h : handOK S i) : handOK (walkS S i) i := by
  obtain ⟨k, c, f, ch, h1, h2, h3, h4, h5, h6, h7, h8, h9⟩ := h
  have ej : wjS S i = 4 * c + f := by
    unfold wjS
    rw [h7, h8, clamp_ofNat (by omega), clamp_ofNat (by omega)]
  unfold walkS
  rw [ej]
  split
  · rename_i q
    have e := kall1_ok kN_ok (i := 4 * c + f) (by omega)
    simp only [Bool.or_eq_true, Bool.and_eq_true, decide_eq_true_eq] at e
    rcases e with e | ⟨e1, e2⟩
    · exact absurd e (Int32.not_lt.mpr q.1)
    · refine ⟨k, _, f, ch, h1, h2, e1, h4, h5, ?_, ?_, ?_, ?_⟩
      · rw [ku_n _ _ (by omega)]; exact h6
      · rw [ku_s]; exact e2
      · rw [ku_n _ _ (by omega)]; exact h8
      · rw [ku_n _ _ (by omega)]; exact h9
  · have e := kall1_ok (kall1_ok turn_ok (i := k) (by omega)) (i := f) h4
    simp only [Bool.and_eq_true, decide_eq_true_eq] at e
    refine ⟨k, c, _, ch, h1, h2, h3, e.1, h5, ?_, ?_, ?_, ?_⟩
    · rw [ku_n _ _ (by omega)]; exact h6
    · rw [ku_n _ _ (by omega)]; exact h7
    · rw [ku_s, h8, h6]; exact e.2
    · rw [ku_n _ _ (by omega)]; exact h9
theorem walk_out {S : Nat → Int32} {i m : Nat} (hm : m < 11 + 4 * i ∨ 11 + 4 * i + 3 < m) : walkS S i m = S m := by
  unfold walkS
  split
  · exact ku_n _ _ (by omega)
  · exact ku_n _ _ (by omega)
theorem walk_other {S : Nat → Int32} {i j : Nat} (hij : j ≠ i) (h : handOK S j) : handOK (walkS S i) j := by
  obtain ⟨k, c, f, ch, h1, h2, h3, h4, h5, h6, h7, h8, h9⟩ := h
  refine ⟨k, c, f, ch, h1, h2, h3, h4, h5, ?_, ?_, ?_, ?_⟩
  · rw [walk_out (by omega)]; exact h6
  · rw [walk_out (by omega)]; exact h7
  · rw [walk_out (by omega)]; exact h8
  · rw [walk_out (by omega)]; exact h9
/-- the hands from i on walk, k of them -/
def walkL : Nat → Nat → (Nat → Int32) → Nat → Int32
  | 0, _, S => S
  | k + 1, i, S => walkL k (i + 1) (walkS S i)
theorem walkL_out : ∀ (k i m : Nat) (S : Nat → Int32), (m < 11 + 4 * i ∨ 11 + 4 * (i + k) ≤ m) → walkL k i S m = S m
  | 0, _, _, _, _ => rfl
  | k + 1, i, m, S, hm => by
    unfold walkL
    rw [walkL_out k (i + 1) m _ (by omega), walk_out (by omega)]
theorem walkL_ok : ∀ (k i : Nat) (S : Nat → Int32) (j : Nat), handOK S j → handOK (walkL k i S) j
  | 0, _, _, _, h => h
  | k + 1, i, S, j, h => by
    unfold walkL
    refine walkL_ok k (i + 1) _ j ?_
    by_cases q : j = i
    · subst q; exact walk_self h
    · exact walk_other q h
/-- what comes behind the hands' walks and the act: the rain, the worth, the score, the dusk -/
def rainL (S : Nat → Int32) : Int32 := if (S 5 >>> (S 1 &&& 31)) &&& 1 = 1 then S 3 &&& S 4 else S 3
def worthS (S : Nat → Int32) : Int32 := popS (shutS (S 2) (rainL S))
def tailS (S : Nat → Int32) : Nat → Int32 := ku (ku (ku S 3 (rainL S)) 6 (S 6 + worthS S)) 1 (S 1 + 1)
set_option maxHeartbeats 4000000 in
theorem t_goesT {d : Nat} {Q : KO → Prop} {h : KH} (hw : WF h) {t z : Int32} (hf1 : fixS (ku (h.2.2.1 60) 3 ((h.2.2.1 60 3) &&& (h.2.2.1 60 4)) 2) (ku (h.2.2.1 60) 3 ((h.2.2.1 60 3) &&& (h.2.2.1 60 4)) 3)) (hf2 : fixS (ku (h.2.2.1 60) 3 (h.2.2.1 60 3) 2) (ku (h.2.2.1 60) 3 (h.2.2.1 60 3) 3)) (hb1 : clrR 17 (f_shutNow ((hS h (ku (h.2.2.1 60) 3 ((h.2.2.1 60 3) &&& (h.2.2.1 60 4)))).2.2.1 60)) = 0) (hb2 : clrR 17 (f_shutNow ((hS h (ku (h.2.2.1 60) 3 (h.2.2.1 60 3))).2.2.1 60)) = 0) (hd : 4 ≤ d) (hQ : (¬ (((h.2.2.1 60 5) >>> ((h.2.2.1 60 1) &&& 31)) &&& (1 : Int32)) = (1 : Int32) → Q (some (.int (popS (f_shutNow ((hS h (ku (h.2.2.1 60) 3 (h.2.2.1 60 3))).2.2.1 60)))), hS h (ku (ku (ku (h.2.2.1 60) 3 (h.2.2.1 60 3)) 6 (((ku (h.2.2.1 60) 3 (h.2.2.1 60 3)) 6) + (popS (f_shutNow ((hS h (ku (h.2.2.1 60) 3 (h.2.2.1 60 3))).2.2.1 60))))) 1 (((ku (ku (h.2.2.1 60) 3 (h.2.2.1 60 3)) 6 (((ku (h.2.2.1 60) 3 (h.2.2.1 60 3)) 6) + (popS (f_shutNow ((hS h (ku (h.2.2.1 60) 3 (h.2.2.1 60 3))).2.2.1 60))))) 1) + (1 : Int32))))) ∧ (¬ (¬ (((h.2.2.1 60 5) >>> ((h.2.2.1 60 1) &&& 31)) &&& (1 : Int32)) = (1 : Int32)) → Q (some (.int (popS (f_shutNow ((hS h (ku (h.2.2.1 60) 3 ((h.2.2.1 60 3) &&& (h.2.2.1 60 4)))).2.2.1 60)))), hS h (ku (ku (ku (h.2.2.1 60) 3 ((h.2.2.1 60 3) &&& (h.2.2.1 60 4))) 6 (((ku (h.2.2.1 60) 3 ((h.2.2.1 60 3) &&& (h.2.2.1 60 4))) 6) + (popS (f_shutNow ((hS h (ku (h.2.2.1 60) 3 ((h.2.2.1 60 3) &&& (h.2.2.1 60 4)))).2.2.1 60))))) 1 (((ku (ku (h.2.2.1 60) 3 ((h.2.2.1 60 3) &&& (h.2.2.1 60 4))) 6 (((ku (h.2.2.1 60) 3 ((h.2.2.1 60 3) &&& (h.2.2.1 60 4))) 6) + (popS (f_shutNow ((hS h (ku (h.2.2.1 60) 3 ((h.2.2.1 60 3) &&& (h.2.2.1 60 4)))).2.2.1 60))))) 1) + (1 : Int32)))))) : Wp d 222 33 [some (.ref 59), some (.int (t)), some (.int (z))] [] h Q := by
  refine Wp.seg 1 (pc1 := 34) (ls1 := [some (.ref 59), some (.int (t)), some (.int (z))]) (st1 := [.ref 59]) rfl ?_
  refine Wp.gr (t := (11, 0)) (v := some (60)) rfl (WF.t hw 59 rfl) rfl (WF.r hw 59 0 58 rfl) ?_
  show Wp d 222 37 [some (.ref 59), some (.int (t)), some (.int (z))] [.ref 60] h Q
  refine Wp.seg 2 (pc1 := 39) (ls1 := [some (.ref 59), some (.int (t)), some (.int (z))]) (st1 := [.ref 59, .int (3), .ref 60]) rfl ?_
  refine Wp.gr (t := (11, 0)) (v := some (60)) rfl (WF.t hw 59 rfl) rfl (WF.r hw 59 0 58 rfl) ?_
  show Wp d 222 42 [some (.ref 59), some (.int (t)), some (.int (z))] [.ref 60, .int (3), .ref 60] h Q
  refine Wp.seg 1 (pc1 := 43) (ls1 := [some (.ref 59), some (.int (t)), some (.int (z))]) (st1 := [.int (5), .ref 60, .int (3), .ref 60]) rfl ?_
  refine Wp.iald (j := 5) (k := 20) (n := 585) rfl (WF.t hw 60 rfl) rfl rfl (by decide) (by decide) ?_
  refine Wp.seg 1 (pc1 := 45) (ls1 := [some (.ref 59), some (.int (t)), some (.int (z))]) (st1 := [.ref 59, .int (h.2.2.1 60 5), .int (3), .ref 60]) rfl ?_
  refine Wp.gr (t := (11, 0)) (v := some (60)) rfl (WF.t hw 59 rfl) rfl (WF.r hw 59 0 58 rfl) ?_
  show Wp d 222 48 [some (.ref 59), some (.int (t)), some (.int (z))] [.ref 60, .int (h.2.2.1 60 5), .int (3), .ref 60] h Q
  refine Wp.seg 1 (pc1 := 49) (ls1 := [some (.ref 59), some (.int (t)), some (.int (z))]) (st1 := [.int (1), .ref 60, .int (h.2.2.1 60 5), .int (3), .ref 60]) rfl ?_
  refine Wp.iald (j := 1) (k := 20) (n := 585) rfl (WF.t hw 60 rfl) rfl rfl (by decide) (by decide) ?_
  refine Wp.seg 4 (pc1 := 54) (ls1 := [some (.ref 59), some (.int (t)), some (.int (z))]) (st1 := [.int (1), .int (((h.2.2.1 60 5) >>> ((h.2.2.1 60 1) &&& 31)) &&& (1 : Int32)), .int (3), .ref 60]) rfl ?_
  refine Wp.if2 rfl (fun (c1 : ¬ (((h.2.2.1 60 5) >>> ((h.2.2.1 60 1) &&& 31)) &&& (1 : Int32)) = (1 : Int32)) => ?_) (fun (c1 : ¬ (¬ (((h.2.2.1 60 5) >>> ((h.2.2.1 60 1) &&& 31)) &&& (1 : Int32)) = (1 : Int32))) => ?_)
  · refine Wp.seg 1 (pc1 := 74) (ls1 := [some (.ref 59), some (.int (t)), some (.int (z))]) (st1 := [.ref 59, .int (3), .ref 60]) rfl ?_
    refine Wp.gr (t := (11, 0)) (v := some (60)) rfl (WF.t hw 59 rfl) rfl (WF.r hw 59 0 58 rfl) ?_
    show Wp d 222 77 [some (.ref 59), some (.int (t)), some (.int (z))] [.ref 60, .int (3), .ref 60] h Q
    refine Wp.seg 1 (pc1 := 78) (ls1 := [some (.ref 59), some (.int (t)), some (.int (z))]) (st1 := [.int (3), .ref 60, .int (3), .ref 60]) rfl ?_
    refine Wp.iald (j := 3) (k := 20) (n := 585) rfl (WF.t hw 60 rfl) rfl rfl (by decide) (by decide) ?_
    refine Wp.iast (j := 3) (n := 585) rfl (WF.t hw 60 rfl) rfl (by decide) (by decide) ?_
    rw [hS_w]
    refine Wp.seg 1 (pc1 := 81) (ls1 := [some (.ref 59), some (.int (t)), some (.int (z))]) (st1 := [.ref 59]) rfl ?_
    refine Wp.invV (d2 := 3) (as := [.ref 59]) (r := []) (t := (11, 0)) rfl rfl rfl rfl (WF.t hw 59 rfl) rfl rfl ⟨rfl, rfl⟩ (by omega) (s_shutNow (h := hS h (ku (h.2.2.1 60) 3 (h.2.2.1 60 3))) hw (by rw [hS_g]; exact hf2) (Nat.le_refl _) ?_)
    show Wp d 222 84 [some (.ref 59), some (.int (t)), some (.int (z))] [.int (f_shutNow ((hS h (ku (h.2.2.1 60) 3 (h.2.2.1 60 3))).2.2.1 60))] (hS h (ku (h.2.2.1 60) 3 (h.2.2.1 60 3))) Q
    refine Wp.inv (d2 := 0) (as := [.int (f_shutNow ((hS h (ku (h.2.2.1 60) 3 (h.2.2.1 60 3))).2.2.1 60))]) (r := []) rfl rfl rfl rfl rfl rfl (by omega) (s_bits (hb2) ?_)
    show Wp d 222 87 [some (.ref 59), some (.int (t)), some (.int (z))] [.int (popS (f_shutNow ((hS h (ku (h.2.2.1 60) 3 (h.2.2.1 60 3))).2.2.1 60)))] (hS h (ku (h.2.2.1 60) 3 (h.2.2.1 60 3))) Q
    refine Wp.seg 2 (pc1 := 89) (ls1 := [some (.ref 59), some (.int (t)), some (.int (popS (f_shutNow ((hS h (ku (h.2.2.1 60) 3 (h.2.2.1 60 3))).2.2.1 60))))]) (st1 := [.ref 59]) rfl ?_
    refine Wp.gr (t := (11, 0)) (v := some (60)) rfl (WF.t hw 59 rfl) rfl (WF.r hw 59 0 58 rfl) ?_
    show Wp d 222 92 [some (.ref 59), some (.int (t)), some (.int (popS (f_shutNow ((hS h (ku (h.2.2.1 60) 3 (h.2.2.1 60 3))).2.2.1 60))))] [.ref 60] (hS h (ku (h.2.2.1 60) 3 (h.2.2.1 60 3))) Q
    refine Wp.seg 2 (pc1 := 95) (ls1 := [some (.ref 59), some (.int (t)), some (.int (popS (f_shutNow ((hS h (ku (h.2.2.1 60) 3 (h.2.2.1 60 3))).2.2.1 60))))]) (st1 := [.int (6), .ref 60, .int (6), .ref 60]) rfl ?_
    refine Wp.iald (j := 6) (k := 20) (n := 585) rfl (WF.t hw 60 rfl) rfl rfl (by decide) (by decide) ?_
    rw [show (hS h (ku (h.2.2.1 60) 3 (h.2.2.1 60 3))).2.2.1 60 6 = (ku (h.2.2.1 60) 3 (h.2.2.1 60 3)) 6 from congrFun (hS_g _ _) _]
    refine Wp.seg 2 (pc1 := 98) (ls1 := [some (.ref 59), some (.int (t)), some (.int (popS (f_shutNow ((hS h (ku (h.2.2.1 60) 3 (h.2.2.1 60 3))).2.2.1 60))))]) (st1 := [.int (((ku (h.2.2.1 60) 3 (h.2.2.1 60 3)) 6) + (popS (f_shutNow ((hS h (ku (h.2.2.1 60) 3 (h.2.2.1 60 3))).2.2.1 60)))), .int (6), .ref 60]) rfl ?_
    refine Wp.iast (j := 6) (n := 585) rfl (WF.t hw 60 rfl) rfl (by decide) (by decide) ?_
    rw [hS_kw]
    refine Wp.seg 1 (pc1 := 100) (ls1 := [some (.ref 59), some (.int (t)), some (.int (popS (f_shutNow ((hS h (ku (h.2.2.1 60) 3 (h.2.2.1 60 3))).2.2.1 60))))]) (st1 := [.ref 59]) rfl ?_
    refine Wp.gr (t := (11, 0)) (v := some (60)) rfl (WF.t hw 59 rfl) rfl (WF.r hw 59 0 58 rfl) ?_
    show Wp d 222 103 [some (.ref 59), some (.int (t)), some (.int (popS (f_shutNow ((hS h (ku (h.2.2.1 60) 3 (h.2.2.1 60 3))).2.2.1 60))))] [.ref 60] (hS h (ku (ku (h.2.2.1 60) 3 (h.2.2.1 60 3)) 6 (((ku (h.2.2.1 60) 3 (h.2.2.1 60 3)) 6) + (popS (f_shutNow ((hS h (ku (h.2.2.1 60) 3 (h.2.2.1 60 3))).2.2.1 60)))))) Q
    refine Wp.seg 2 (pc1 := 105) (ls1 := [some (.ref 59), some (.int (t)), some (.int (popS (f_shutNow ((hS h (ku (h.2.2.1 60) 3 (h.2.2.1 60 3))).2.2.1 60))))]) (st1 := [.int (1), .ref 60, .int (1), .ref 60]) rfl ?_
    refine Wp.iald (j := 1) (k := 20) (n := 585) rfl (WF.t hw 60 rfl) rfl rfl (by decide) (by decide) ?_
    rw [show (hS h (ku (ku (h.2.2.1 60) 3 (h.2.2.1 60 3)) 6 (((ku (h.2.2.1 60) 3 (h.2.2.1 60 3)) 6) + (popS (f_shutNow ((hS h (ku (h.2.2.1 60) 3 (h.2.2.1 60 3))).2.2.1 60)))))).2.2.1 60 1 = (ku (ku (h.2.2.1 60) 3 (h.2.2.1 60 3)) 6 (((ku (h.2.2.1 60) 3 (h.2.2.1 60 3)) 6) + (popS (f_shutNow ((hS h (ku (h.2.2.1 60) 3 (h.2.2.1 60 3))).2.2.1 60))))) 1 from congrFun (hS_g _ _) _]
    refine Wp.seg 2 (pc1 := 108) (ls1 := [some (.ref 59), some (.int (t)), some (.int (popS (f_shutNow ((hS h (ku (h.2.2.1 60) 3 (h.2.2.1 60 3))).2.2.1 60))))]) (st1 := [.int (((ku (ku (h.2.2.1 60) 3 (h.2.2.1 60 3)) 6 (((ku (h.2.2.1 60) 3 (h.2.2.1 60 3)) 6) + (popS (f_shutNow ((hS h (ku (h.2.2.1 60) 3 (h.2.2.1 60 3))).2.2.1 60))))) 1) + (1 : Int32)), .int (1), .ref 60]) rfl ?_
    refine Wp.iast (j := 1) (n := 585) rfl (WF.t hw 60 rfl) rfl (by decide) (by decide) ?_
    rw [hS_kw]
    refine Wp.seg 1 (pc1 := 110) (ls1 := [some (.ref 59), some (.int (t)), some (.int (popS (f_shutNow ((hS h (ku (h.2.2.1 60) 3 (h.2.2.1 60 3))).2.2.1 60))))]) (st1 := [.int (popS (f_shutNow ((hS h (ku (h.2.2.1 60) 3 (h.2.2.1 60 3))).2.2.1 60)))]) rfl ?_
    exact Wp.reti rfl rfl (hQ.1 c1)
  · refine Wp.seg 1 (pc1 := 58) (ls1 := [some (.ref 59), some (.int (t)), some (.int (z))]) (st1 := [.ref 59, .int (3), .ref 60]) rfl ?_
    refine Wp.gr (t := (11, 0)) (v := some (60)) rfl (WF.t hw 59 rfl) rfl (WF.r hw 59 0 58 rfl) ?_
    show Wp d 222 61 [some (.ref 59), some (.int (t)), some (.int (z))] [.ref 60, .int (3), .ref 60] h Q
    refine Wp.seg 1 (pc1 := 62) (ls1 := [some (.ref 59), some (.int (t)), some (.int (z))]) (st1 := [.int (3), .ref 60, .int (3), .ref 60]) rfl ?_
    refine Wp.iald (j := 3) (k := 20) (n := 585) rfl (WF.t hw 60 rfl) rfl rfl (by decide) (by decide) ?_
    refine Wp.seg 1 (pc1 := 64) (ls1 := [some (.ref 59), some (.int (t)), some (.int (z))]) (st1 := [.ref 59, .int (h.2.2.1 60 3), .int (3), .ref 60]) rfl ?_
    refine Wp.gr (t := (11, 0)) (v := some (60)) rfl (WF.t hw 59 rfl) rfl (WF.r hw 59 0 58 rfl) ?_
    show Wp d 222 67 [some (.ref 59), some (.int (t)), some (.int (z))] [.ref 60, .int (h.2.2.1 60 3), .int (3), .ref 60] h Q
    refine Wp.seg 1 (pc1 := 68) (ls1 := [some (.ref 59), some (.int (t)), some (.int (z))]) (st1 := [.int (4), .ref 60, .int (h.2.2.1 60 3), .int (3), .ref 60]) rfl ?_
    refine Wp.iald (j := 4) (k := 20) (n := 585) rfl (WF.t hw 60 rfl) rfl rfl (by decide) (by decide) ?_
    refine Wp.seg 2 (pc1 := 79) (ls1 := [some (.ref 59), some (.int (t)), some (.int (z))]) (st1 := [.int ((h.2.2.1 60 3) &&& (h.2.2.1 60 4)), .int (3), .ref 60]) rfl ?_
    refine Wp.iast (j := 3) (n := 585) rfl (WF.t hw 60 rfl) rfl (by decide) (by decide) ?_
    rw [hS_w]
    refine Wp.seg 1 (pc1 := 81) (ls1 := [some (.ref 59), some (.int (t)), some (.int (z))]) (st1 := [.ref 59]) rfl ?_
    refine Wp.invV (d2 := 3) (as := [.ref 59]) (r := []) (t := (11, 0)) rfl rfl rfl rfl (WF.t hw 59 rfl) rfl rfl ⟨rfl, rfl⟩ (by omega) (s_shutNow (h := hS h (ku (h.2.2.1 60) 3 ((h.2.2.1 60 3) &&& (h.2.2.1 60 4)))) hw (by rw [hS_g]; exact hf1) (Nat.le_refl _) ?_)
    show Wp d 222 84 [some (.ref 59), some (.int (t)), some (.int (z))] [.int (f_shutNow ((hS h (ku (h.2.2.1 60) 3 ((h.2.2.1 60 3) &&& (h.2.2.1 60 4)))).2.2.1 60))] (hS h (ku (h.2.2.1 60) 3 ((h.2.2.1 60 3) &&& (h.2.2.1 60 4)))) Q
    refine Wp.inv (d2 := 0) (as := [.int (f_shutNow ((hS h (ku (h.2.2.1 60) 3 ((h.2.2.1 60 3) &&& (h.2.2.1 60 4)))).2.2.1 60))]) (r := []) rfl rfl rfl rfl rfl rfl (by omega) (s_bits (hb1) ?_)
    show Wp d 222 87 [some (.ref 59), some (.int (t)), some (.int (z))] [.int (popS (f_shutNow ((hS h (ku (h.2.2.1 60) 3 ((h.2.2.1 60 3) &&& (h.2.2.1 60 4)))).2.2.1 60)))] (hS h (ku (h.2.2.1 60) 3 ((h.2.2.1 60 3) &&& (h.2.2.1 60 4)))) Q
    refine Wp.seg 2 (pc1 := 89) (ls1 := [some (.ref 59), some (.int (t)), some (.int (popS (f_shutNow ((hS h (ku (h.2.2.1 60) 3 ((h.2.2.1 60 3) &&& (h.2.2.1 60 4)))).2.2.1 60))))]) (st1 := [.ref 59]) rfl ?_
    refine Wp.gr (t := (11, 0)) (v := some (60)) rfl (WF.t hw 59 rfl) rfl (WF.r hw 59 0 58 rfl) ?_
    show Wp d 222 92 [some (.ref 59), some (.int (t)), some (.int (popS (f_shutNow ((hS h (ku (h.2.2.1 60) 3 ((h.2.2.1 60 3) &&& (h.2.2.1 60 4)))).2.2.1 60))))] [.ref 60] (hS h (ku (h.2.2.1 60) 3 ((h.2.2.1 60 3) &&& (h.2.2.1 60 4)))) Q
    refine Wp.seg 2 (pc1 := 95) (ls1 := [some (.ref 59), some (.int (t)), some (.int (popS (f_shutNow ((hS h (ku (h.2.2.1 60) 3 ((h.2.2.1 60 3) &&& (h.2.2.1 60 4)))).2.2.1 60))))]) (st1 := [.int (6), .ref 60, .int (6), .ref 60]) rfl ?_
    refine Wp.iald (j := 6) (k := 20) (n := 585) rfl (WF.t hw 60 rfl) rfl rfl (by decide) (by decide) ?_
    rw [show (hS h (ku (h.2.2.1 60) 3 ((h.2.2.1 60 3) &&& (h.2.2.1 60 4)))).2.2.1 60 6 = (ku (h.2.2.1 60) 3 ((h.2.2.1 60 3) &&& (h.2.2.1 60 4))) 6 from congrFun (hS_g _ _) _]
    refine Wp.seg 2 (pc1 := 98) (ls1 := [some (.ref 59), some (.int (t)), some (.int (popS (f_shutNow ((hS h (ku (h.2.2.1 60) 3 ((h.2.2.1 60 3) &&& (h.2.2.1 60 4)))).2.2.1 60))))]) (st1 := [.int (((ku (h.2.2.1 60) 3 ((h.2.2.1 60 3) &&& (h.2.2.1 60 4))) 6) + (popS (f_shutNow ((hS h (ku (h.2.2.1 60) 3 ((h.2.2.1 60 3) &&& (h.2.2.1 60 4)))).2.2.1 60)))), .int (6), .ref 60]) rfl ?_
    refine Wp.iast (j := 6) (n := 585) rfl (WF.t hw 60 rfl) rfl (by decide) (by decide) ?_
    rw [hS_kw]
    refine Wp.seg 1 (pc1 := 100) (ls1 := [some (.ref 59), some (.int (t)), some (.int (popS (f_shutNow ((hS h (ku (h.2.2.1 60) 3 ((h.2.2.1 60 3) &&& (h.2.2.1 60 4)))).2.2.1 60))))]) (st1 := [.ref 59]) rfl ?_
    refine Wp.gr (t := (11, 0)) (v := some (60)) rfl (WF.t hw 59 rfl) rfl (WF.r hw 59 0 58 rfl) ?_
    show Wp d 222 103 [some (.ref 59), some (.int (t)), some (.int (popS (f_shutNow ((hS h (ku (h.2.2.1 60) 3 ((h.2.2.1 60 3) &&& (h.2.2.1 60 4)))).2.2.1 60))))] [.ref 60] (hS h (ku (ku (h.2.2.1 60) 3 ((h.2.2.1 60 3) &&& (h.2.2.1 60 4))) 6 (((ku (h.2.2.1 60) 3 ((h.2.2.1 60 3) &&& (h.2.2.1 60 4))) 6) + (popS (f_shutNow ((hS h (ku (h.2.2.1 60) 3 ((h.2.2.1 60 3) &&& (h.2.2.1 60 4)))).2.2.1 60)))))) Q
    refine Wp.seg 2 (pc1 := 105) (ls1 := [some (.ref 59), some (.int (t)), some (.int (popS (f_shutNow ((hS h (ku (h.2.2.1 60) 3 ((h.2.2.1 60 3) &&& (h.2.2.1 60 4)))).2.2.1 60))))]) (st1 := [.int (1), .ref 60, .int (1), .ref 60]) rfl ?_
    refine Wp.iald (j := 1) (k := 20) (n := 585) rfl (WF.t hw 60 rfl) rfl rfl (by decide) (by decide) ?_
    rw [show (hS h (ku (ku (h.2.2.1 60) 3 ((h.2.2.1 60 3) &&& (h.2.2.1 60 4))) 6 (((ku (h.2.2.1 60) 3 ((h.2.2.1 60 3) &&& (h.2.2.1 60 4))) 6) + (popS (f_shutNow ((hS h (ku (h.2.2.1 60) 3 ((h.2.2.1 60 3) &&& (h.2.2.1 60 4)))).2.2.1 60)))))).2.2.1 60 1 = (ku (ku (h.2.2.1 60) 3 ((h.2.2.1 60 3) &&& (h.2.2.1 60 4))) 6 (((ku (h.2.2.1 60) 3 ((h.2.2.1 60 3) &&& (h.2.2.1 60 4))) 6) + (popS (f_shutNow ((hS h (ku (h.2.2.1 60) 3 ((h.2.2.1 60 3) &&& (h.2.2.1 60 4)))).2.2.1 60))))) 1 from congrFun (hS_g _ _) _]
    refine Wp.seg 2 (pc1 := 108) (ls1 := [some (.ref 59), some (.int (t)), some (.int (popS (f_shutNow ((hS h (ku (h.2.2.1 60) 3 ((h.2.2.1 60 3) &&& (h.2.2.1 60 4)))).2.2.1 60))))]) (st1 := [.int (((ku (ku (h.2.2.1 60) 3 ((h.2.2.1 60 3) &&& (h.2.2.1 60 4))) 6 (((ku (h.2.2.1 60) 3 ((h.2.2.1 60 3) &&& (h.2.2.1 60 4))) 6) + (popS (f_shutNow ((hS h (ku (h.2.2.1 60) 3 ((h.2.2.1 60 3) &&& (h.2.2.1 60 4)))).2.2.1 60))))) 1) + (1 : Int32)), .int (1), .ref 60]) rfl ?_
    refine Wp.iast (j := 1) (n := 585) rfl (WF.t hw 60 rfl) rfl (by decide) (by decide) ?_
    rw [hS_kw]
    refine Wp.seg 1 (pc1 := 110) (ls1 := [some (.ref 59), some (.int (t)), some (.int (popS (f_shutNow ((hS h (ku (h.2.2.1 60) 3 ((h.2.2.1 60 3) &&& (h.2.2.1 60 4)))).2.2.1 60))))]) (st1 := [.int (popS (f_shutNow ((hS h (ku (h.2.2.1 60) 3 ((h.2.2.1 60 3) &&& (h.2.2.1 60 4)))).2.2.1 60)))]) rfl ?_
    exact Wp.reti rfl rfl (hQ.2 c1)
