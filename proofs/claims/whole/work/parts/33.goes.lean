/-! KM: the reference, a dusk goes by -/
theorem hS_kw (h : KH) (X : Nat → Int32) (j : Nat) (x : Int32) : kwi (hS h X) 60 j x = hS h (ku X j x) := by
  rw [hS_w, hS_g, hS_hS]
def handOK (S : Nat → Int32) (i : Nat) : Prop := ∃ k c f ch : Nat, 1 ≤ k ∧ k ≤ 5 ∧ c < 12 ∧ f < 4 ∧ ch ≤ 9 ∧ S (11 + 4 * i + 0) = Int32.ofNat k ∧ S (11 + 4 * i + 1) = Int32.ofNat c ∧ S (11 + 4 * i + 2) = Int32.ofNat f ∧ S (11 + 4 * i + 3) = Int32.ofNat ch
theorem kN_ok : kall1 48 (fun j => decide (kE.getD j 0 < 0) || (decide ((kN.getD j 0).toNatClampNeg < 12) && decide (kN.getD j 0 = Int32.ofNat (kN.getD j 0).toNatClampNeg))) = true := by decide +kernel
def turnN (k f : Nat) : Int32 := (Int32.ofNat f + f_turnsBy (Int32.ofNat k)) - (Int32.ofNat f + f_turnsBy (Int32.ofNat k)) / 4 * 4
theorem turn_ok : kall1 6 (fun k => kall1 4 (fun f => decide ((turnN k f).toNatClampNeg < 4) && decide (turnN k f = Int32.ofNat (turnN k f).toNatClampNeg))) = true := by decide +kernel
theorem handOK_other {S : Nat → Int32} {i j m : Nat} {x : Int32} (hm : m < 11 + 4 * i ∨ 11 + 4 * i + 3 < m) (h : handOK S i) : handOK (ku S m x) i := by
  obtain ⟨k, c, f, ch, h1, h2, h3, h4, h5, h6, h7, h8, h9⟩ := h
  refine ⟨k, c, f, ch, h1, h2, h3, h4, h5, ?_, ?_, ?_, ?_⟩
  · rw [ku_n _ _ (by omega)]; exact h6
  · rw [ku_n _ _ (by omega)]; exact h7
  · rw [ku_n _ _ (by omega)]; exact h8
  · rw [ku_n _ _ (by omega)]; exact h9
theorem walk_self {S : Nat → Int32} {i : Nat} (h : handOK S i) : handOK (walkS S i) i := by
  obtain ⟨k, c, f, ch, h1, h2, h3, h4, h5, h6, h7, h8, h9⟩ := h
  have ej : wjS S i = 4 * c + f := by
    unfold wjS
    rw [h7, h8, clamp_ofNat (by omega), clamp_ofNat (by omega)]
  unfold walkS
  rw [ej]
  split
  · rename_i q
    have e := kall1_ok kN_ok (i := 4 * c + f) (by omega)
    simp only [Bool.or_eq_true, Bool.and_eq_true, decide_eq_true_eq] at e
    rcases e with e | ⟨e1, e2⟩
    · exact absurd e (Int32.not_lt.mpr q.1)
    · refine ⟨k, _, f, ch, h1, h2, e1, h4, h5, ?_, ?_, ?_, ?_⟩
      · rw [ku_n _ _ (by omega)]; exact h6
      · rw [ku_s]; exact e2
      · rw [ku_n _ _ (by omega)]; exact h8
      · rw [ku_n _ _ (by omega)]; exact h9
  · have e := kall1_ok (kall1_ok turn_ok (i := k) (by omega)) (i := f) h4
    simp only [Bool.and_eq_true, decide_eq_true_eq] at e
    refine ⟨k, c, _, ch, h1, h2, h3, e.1, h5, ?_, ?_, ?_, ?_⟩
    · rw [ku_n _ _ (by omega)]; exact h6
    · rw [ku_n _ _ (by omega)]; exact h7
    · rw [ku_s, h8, h6]; exact e.2
    · rw [ku_n _ _ (by omega)]; exact h9
theorem walk_out {S : Nat → Int32} {i m : Nat} (hm : m < 11 + 4 * i ∨ 11 + 4 * i + 3 < m) : walkS S i m = S m := by
  unfold walkS
  split
  · exact ku_n _ _ (by omega)
  · exact ku_n _ _ (by omega)
theorem walk_other {S : Nat → Int32} {i j : Nat} (hij : j ≠ i) (h : handOK S j) : handOK (walkS S i) j := by
  obtain ⟨k, c, f, ch, h1, h2, h3, h4, h5, h6, h7, h8, h9⟩ := h
  refine ⟨k, c, f, ch, h1, h2, h3, h4, h5, ?_, ?_, ?_, ?_⟩
  · rw [walk_out (by omega)]; exact h6
  · rw [walk_out (by omega)]; exact h7
  · rw [walk_out (by omega)]; exact h8
  · rw [walk_out (by omega)]; exact h9
/-- the hands from i on walk, k of them -/
def walkL : Nat → Nat → (Nat → Int32) → Nat → Int32
  | 0, _, S => S
  | k + 1, i, S => walkL k (i + 1) (walkS S i)
theorem walkL_out : ∀ (k i m : Nat) (S : Nat → Int32), (m < 11 + 4 * i ∨ 11 + 4 * (i + k) ≤ m) → walkL k i S m = S m
  | 0, _, _, _, _ => rfl
  | k + 1, i, m, S, hm => by
    unfold walkL
    rw [walkL_out k (i + 1) m _ (by omega), walk_out (by omega)]
theorem walkL_ok : ∀ (k i : Nat) (S : Nat → Int32) (j : Nat), handOK S j → handOK (walkL k i S) j
  | 0, _, _, _, h => h
  | k + 1, i, S, j, h => by
    unfold walkL
    refine walkL_ok k (i + 1) _ j ?_
    by_cases q : j = i
    · subst q; exact walk_self h
    · exact walk_other q h
/-- what comes behind the hands' walks and the act: the rain, the worth, the score, the dusk -/
def rainL (S : Nat → Int32) : Int32 := if (S 5 >>> (S 1 &&& 31)) &&& 1 = 1 then S 3 &&& S 4 else S 3
def worthS (S : Nat → Int32) : Int32 := popS (shutS (S 2) (rainL S))
def tailS (S : Nat → Int32) : Nat → Int32 := ku (ku (ku S 3 (rainL S)) 6 (S 6 + worthS S)) 1 (S 1 + 1)
set_option maxHeartbeats 4000000 in
theorem t_goesT {d : Nat} {Q : KO → Prop} {h : KH} (hw : WF h) {t z : Int32} (hf1 : fixS (ku (h.2.2.1 60) 3 ((h.2.2.1 60 3) &&& (h.2.2.1 60 4)) 2) (ku (h.2.2.1 60) 3 ((h.2.2.1 60 3) &&& (h.2.2.1 60 4)) 3)) (hf2 : fixS (ku (h.2.2.1 60) 3 (h.2.2.1 60 3) 2) (ku (h.2.2.1 60) 3 (h.2.2.1 60 3) 3)) (hb1 : clrR 17 (f_shutNow ((hS h (ku (h.2.2.1 60) 3 ((h.2.2.1 60 3) &&& (h.2.2.1 60 4)))).2.2.1 60)) = 0) (hb2 : clrR 17 (f_shutNow ((hS h (ku (h.2.2.1 60) 3 (h.2.2.1 60 3))).2.2.1 60)) = 0) (hd : 4 ≤ d) (hQ : (¬ (((h.2.2.1 60 5) >>> ((h.2.2.1 60 1) &&& 31)) &&& (1 : Int32)) = (1 : Int32) → Q (some (.int (popS (f_shutNow ((hS h (ku (h.2.2.1 60) 3 (h.2.2.1 60 3))).2.2.1 60)))), hS h (ku (ku (ku (h.2.2.1 60) 3 (h.2.2.1 60 3)) 6 (((ku (h.2.2.1 60) 3 (h.2.2.1 60 3)) 6) + (popS (f_shutNow ((hS h (ku (h.2.2.1 60) 3 (h.2.2.1 60 3))).2.2.1 60))))) 1 (((ku (ku (h.2.2.1 60) 3 (h.2.2.1 60 3)) 6 (((ku (h.2.2.1 60) 3 (h.2.2.1 60 3)) 6) + (popS (f_shutNow ((hS h (ku (h.2.2.1 60) 3 (h.2.2.1 60 3))).2.2.1 60))))) 1) + (1 : Int32))))) ∧ (¬ (¬ (((h.2.2.1 60 5) >>> ((h.2.2.1 60 1) &&& 31)) &&& (1 : Int32)) = (1 : Int32)) → Q (some (.int (popS (f_shutNow ((hS h (ku (h.2.2.1 60) 3 ((h.2.2.1 60 3) &&& (h.2.2.1 60 4)))).2.2.1 60)))), hS h (ku (ku (ku (h.2.2.1 60) 3 ((h.2.2.1 60 3) &&& (h.2.2.1 60 4))) 6 (((ku (h.2.2.1 60) 3 ((h.2.2.1 60 3) &&& (h.2.2.1 60 4))) 6) + (popS (f_shutNow ((hS h (ku (h.2.2.1 60) 3 ((h.2.2.1 60 3) &&& (h.2.2.1 60 4)))).2.2.1 60))))) 1 (((ku (ku (h.2.2.1 60) 3 ((h.2.2.1 60 3) &&& (h.2.2.1 60 4))) 6 (((ku (h.2.2.1 60) 3 ((h.2.2.1 60 3) &&& (h.2.2.1 60 4))) 6) + (popS (f_shutNow ((hS h (ku (h.2.2.1 60) 3 ((h.2.2.1 60 3) &&& (h.2.2.1 60 4)))).2.2.1 60))))) 1) + (1 : Int32)))))) : Wp d 222 33 [some (.ref 59), some (.int (t)), some (.int (z))] [] h Q := by
  refine Wp.seg 1 (pc1 := 34) (ls1 := [some (.ref 59), some (.int (t)), some (.int (z))]) (st1 := [.ref 59]) rfl ?_
  refine Wp.gr (t := (11, 0)) (v := some (60)) rfl (WF.t hw 59 rfl) rfl (WF.r hw 59 0 58 rfl) ?_
  show Wp d 222 37 [some (.ref 59), some (.int (t)), some (.int (z))] [.ref 60] h Q
  refine Wp.seg 2 (pc1 := 39) (ls1 := [some (.ref 59), some (.int (t)), some (.int (z))]) (st1 := [.ref 59, .int (3), .ref 60]) rfl ?_
  refine Wp.gr (t := (11, 0)) (v := some (60)) rfl (WF.t hw 59 rfl) rfl (WF.r hw 59 0 58 rfl) ?_
  show Wp d 222 42 [some (.ref 59), some (.int (t)), some (.int (z))] [.ref 60, .int (3), .ref 60] h Q
  refine Wp.seg 1 (pc1 := 43) (ls1 := [some (.ref 59), some (.int (t)), some (.int (z))]) (st1 := [.int (5), .ref 60, .int (3), .ref 60]) rfl ?_
  refine Wp.iald (j := 5) (k := 20) (n := 585) rfl (WF.t hw 60 rfl) rfl rfl (by decide) (by decide) ?_
  refine Wp.seg 1 (pc1 := 45) (ls1 := [some (.ref 59), some (.int (t)), some (.int (z))]) (st1 := [.ref 59, .int (h.2.2.1 60 5), .int (3), .ref 60]) rfl ?_
  refine Wp.gr (t := (11, 0)) (v := some (60)) rfl (WF.t hw 59 rfl) rfl (WF.r hw 59 0 58 rfl) ?_
  show Wp d 222 48 [some (.ref 59), some (.int (t)), some (.int (z))] [.ref 60, .int (h.2.2.1 60 5), .int (3), .ref 60] h Q
  refine Wp.seg 1 (pc1 := 49) (ls1 := [some (.ref 59), some (.int (t)), some (.int (z))]) (st1 := [.int (1), .ref 60, .int (h.2.2.1 60 5), .int (3), .ref 60]) rfl ?_
  refine Wp.iald (j := 1) (k := 20) (n := 585) rfl (WF.t hw 60 rfl) rfl rfl (by decide) (by decide) ?_
  refine Wp.seg 4 (pc1 := 54) (ls1 := [some (.ref 59), some (.int (t)), some (.int (z))]) (st1 := [.int (1), .int (((h.2.2.1 60 5) >>> ((h.2.2.1 60 1) &&& 31)) &&& (1 : Int32)), .int (3), .ref 60]) rfl ?_
  refine Wp.if2 rfl (fun (c1 : ¬ (((h.2.2.1 60 5) >>> ((h.2.2.1 60 1) &&& 31)) &&& (1 : Int32)) = (1 : Int32)) => ?_) (fun (c1 : ¬ (¬ (((h.2.2.1 60 5) >>> ((h.2.2.1 60 1) &&& 31)) &&& (1 : Int32)) = (1 : Int32))) => ?_)
  · refine Wp.seg 1 (pc1 := 74) (ls1 := [some (.ref 59), some (.int (t)), some (.int (z))]) (st1 := [.ref 59, .int (3), .ref 60]) rfl ?_
    refine Wp.gr (t := (11, 0)) (v := some (60)) rfl (WF.t hw 59 rfl) rfl (WF.r hw 59 0 58 rfl) ?_
    show Wp d 222 77 [some (.ref 59), some (.int (t)), some (.int (z))] [.ref 60, .int (3), .ref 60] h Q
    refine Wp.seg 1 (pc1 := 78) (ls1 := [some (.ref 59), some (.int (t)), some (.int (z))]) (st1 := [.int (3), .ref 60, .int (3), .ref 60]) rfl ?_
    refine Wp.iald (j := 3) (k := 20) (n := 585) rfl (WF.t hw 60 rfl) rfl rfl (by decide) (by decide) ?_
    refine Wp.iast (j := 3) (n := 585) rfl (WF.t hw 60 rfl) rfl (by decide) (by decide) ?_
    rw [hS_w]
    refine Wp.seg 1 (pc1 := 81) (ls1 := [some (.ref 59), some (.int (t)), some (.int (z))]) (st1 := [.ref 59]) rfl ?_
    refine Wp.invV (d2 := 3) (as := [.ref 59]) (r := []) (t := (11, 0)) rfl rfl rfl rfl (WF.t hw 59 rfl) rfl rfl ⟨rfl, rfl⟩ (by omega) (s_shutNow (h := hS h (ku (h.2.2.1 60) 3 (h.2.2.1 60 3))) hw (by rw [hS_g]; exact hf2) (Nat.le_refl _) ?_)
    show Wp d 222 84 [some (.ref 59), some (.int (t)), some (.int (z))] [.int (f_shutNow ((hS h (ku (h.2.2.1 60) 3 (h.2.2.1 60 3))).2.2.1 60))] (hS h (ku (h.2.2.1 60) 3 (h.2.2.1 60 3))) Q
    refine Wp.inv (d2 := 0) (as := [.int (f_shutNow ((hS h (ku (h.2.2.1 60) 3 (h.2.2.1 60 3))).2.2.1 60))]) (r := []) rfl rfl rfl rfl rfl rfl (by omega) (s_bits (hb2) ?_)
    show Wp d 222 87 [some (.ref 59), some (.int (t)), some (.int (z))] [.int (popS (f_shutNow ((hS h (ku (h.2.2.1 60) 3 (h.2.2.1 60 3))).2.2.1 60)))] (hS h (ku (h.2.2.1 60) 3 (h.2.2.1 60 3))) Q
    refine Wp.seg 2 (pc1 := 89) (ls1 := [some (.ref 59), some (.int (t)), some (.int (popS (f_shutNow ((hS h (ku (h.2.2.1 60) 3 (h.2.2.1 60 3))).2.2.1 60))))]) (st1 := [.ref 59]) rfl ?_
    refine Wp.gr (t := (11, 0)) (v := some (60)) rfl (WF.t hw 59 rfl) rfl (WF.r hw 59 0 58 rfl) ?_
    show Wp d 222 92 [some (.ref 59), some (.int (t)), some (.int (popS (f_shutNow ((hS h (ku (h.2.2.1 60) 3 (h.2.2.1 60 3))).2.2.1 60))))] [.ref 60] (hS h (ku (h.2.2.1 60) 3 (h.2.2.1 60 3))) Q
    refine Wp.seg 2 (pc1 := 95) (ls1 := [some (.ref 59), some (.int (t)), some (.int (popS (f_shutNow ((hS h (ku (h.2.2.1 60) 3 (h.2.2.1 60 3))).2.2.1 60))))]) (st1 := [.int (6), .ref 60, .int (6), .ref 60]) rfl ?_
    refine Wp.iald (j := 6) (k := 20) (n := 585) rfl (WF.t hw 60 rfl) rfl rfl (by decide) (by decide) ?_
    rw [show (hS h (ku (h.2.2.1 60) 3 (h.2.2.1 60 3))).2.2.1 60 6 = (ku (h.2.2.1 60) 3 (h.2.2.1 60 3)) 6 from congrFun (hS_g _ _) _]
    refine Wp.seg 2 (pc1 := 98) (ls1 := [some (.ref 59), some (.int (t)), some (.int (popS (f_shutNow ((hS h (ku (h.2.2.1 60) 3 (h.2.2.1 60 3))).2.2.1 60))))]) (st1 := [.int (((ku (h.2.2.1 60) 3 (h.2.2.1 60 3)) 6) + (popS (f_shutNow ((hS h (ku (h.2.2.1 60) 3 (h.2.2.1 60 3))).2.2.1 60)))), .int (6), .ref 60]) rfl ?_
    refine Wp.iast (j := 6) (n := 585) rfl (WF.t hw 60 rfl) rfl (by decide) (by decide) ?_
    rw [hS_kw]
    refine Wp.seg 1 (pc1 := 100) (ls1 := [some (.ref 59), some (.int (t)), some (.int (popS (f_shutNow ((hS h (ku (h.2.2.1 60) 3 (h.2.2.1 60 3))).2.2.1 60))))]) (st1 := [.ref 59]) rfl ?_
    refine Wp.gr (t := (11, 0)) (v := some (60)) rfl (WF.t hw 59 rfl) rfl (WF.r hw 59 0 58 rfl) ?_
    show Wp d 222 103 [some (.ref 59), some (.int (t)), some (.int (popS (f_shutNow ((hS h (ku (h.2.2.1 60) 3 (h.2.2.1 60 3))).2.2.1 60))))] [.ref 60] (hS h (ku (ku (h.2.2.1 60) 3 (h.2.2.1 60 3)) 6 (((ku (h.2.2.1 60) 3 (h.2.2.1 60 3)) 6) + (popS (f_shutNow ((hS h (ku (h.2.2.1 60) 3 (h.2.2.1 60 3))).2.2.1 60)))))) Q
    refine Wp.seg 2 (pc1 := 105) (ls1 := [some (.ref 59), some (.int (t)), some (.int (popS (f_shutNow ((hS h (ku (h.2.2.1 60) 3 (h.2.2.1 60 3))).2.2.1 60))))]) (st1 := [.int (1), .ref 60, .int (1), .ref 60]) rfl ?_
    refine Wp.iald (j := 1) (k := 20) (n := 585) rfl (WF.t hw 60 rfl) rfl rfl (by decide) (by decide) ?_
    rw [show (hS h (ku (ku (h.2.2.1 60) 3 (h.2.2.1 60 3)) 6 (((ku (h.2.2.1 60) 3 (h.2.2.1 60 3)) 6) + (popS (f_shutNow ((hS h (ku (h.2.2.1 60) 3 (h.2.2.1 60 3))).2.2.1 60)))))).2.2.1 60 1 = (ku (ku (h.2.2.1 60) 3 (h.2.2.1 60 3)) 6 (((ku (h.2.2.1 60) 3 (h.2.2.1 60 3)) 6) + (popS (f_shutNow ((hS h (ku (h.2.2.1 60) 3 (h.2.2.1 60 3))).2.2.1 60))))) 1 from congrFun (hS_g _ _) _]
    refine Wp.seg 2 (pc1 := 108) (ls1 := [some (.ref 59), some (.int (t)), some (.int (popS (f_shutNow ((hS h (ku (h.2.2.1 60) 3 (h.2.2.1 60 3))).2.2.1 60))))]) (st1 := [.int (((ku (ku (h.2.2.1 60) 3 (h.2.2.1 60 3)) 6 (((ku (h.2.2.1 60) 3 (h.2.2.1 60 3)) 6) + (popS (f_shutNow ((hS h (ku (h.2.2.1 60) 3 (h.2.2.1 60 3))).2.2.1 60))))) 1) + (1 : Int32)), .int (1), .ref 60]) rfl ?_
    refine Wp.iast (j := 1) (n := 585) rfl (WF.t hw 60 rfl) rfl (by decide) (by decide) ?_
    rw [hS_kw]
    refine Wp.seg 1 (pc1 := 110) (ls1 := [some (.ref 59), some (.int (t)), some (.int (popS (f_shutNow ((hS h (ku (h.2.2.1 60) 3 (h.2.2.1 60 3))).2.2.1 60))))]) (st1 := [.int (popS (f_shutNow ((hS h (ku (h.2.2.1 60) 3 (h.2.2.1 60 3))).2.2.1 60)))]) rfl ?_
    exact Wp.reti rfl rfl (hQ.1 c1)
  · refine Wp.seg 1 (pc1 := 58) (ls1 := [some (.ref 59), some (.int (t)), some (.int (z))]) (st1 := [.ref 59, .int (3), .ref 60]) rfl ?_
    refine Wp.gr (t := (11, 0)) (v := some (60)) rfl (WF.t hw 59 rfl) rfl (WF.r hw 59 0 58 rfl) ?_
    show Wp d 222 61 [some (.ref 59), some (.int (t)), some (.int (z))] [.ref 60, .int (3), .ref 60] h Q
    refine Wp.seg 1 (pc1 := 62) (ls1 := [some (.ref 59), some (.int (t)), some (.int (z))]) (st1 := [.int (3), .ref 60, .int (3), .ref 60]) rfl ?_
    refine Wp.iald (j := 3) (k := 20) (n := 585) rfl (WF.t hw 60 rfl) rfl rfl (by decide) (by decide) ?_
    refine Wp.seg 1 (pc1 := 64) (ls1 := [some (.ref 59), some (.int (t)), some (.int (z))]) (st1 := [.ref 59, .int (h.2.2.1 60 3), .int (3), .ref 60]) rfl ?_
    refine Wp.gr (t := (11, 0)) (v := some (60)) rfl (WF.t hw 59 rfl) rfl (WF.r hw 59 0 58 rfl) ?_
    show Wp d 222 67 [some (.ref 59), some (.int (t)), some (.int (z))] [.ref 60, .int (h.2.2.1 60 3), .int (3), .ref 60] h Q
    refine Wp.seg 1 (pc1 := 68) (ls1 := [some (.ref 59), some (.int (t)), some (.int (z))]) (st1 := [.int (4), .ref 60, .int (h.2.2.1 60 3), .int (3), .ref 60]) rfl ?_
    refine Wp.iald (j := 4) (k := 20) (n := 585) rfl (WF.t hw 60 rfl) rfl rfl (by decide) (by decide) ?_
    refine Wp.seg 2 (pc1 := 79) (ls1 := [some (.ref 59), some (.int (t)), some (.int (z))]) (st1 := [.int ((h.2.2.1 60 3) &&& (h.2.2.1 60 4)), .int (3), .ref 60]) rfl ?_
    refine Wp.iast (j := 3) (n := 585) rfl (WF.t hw 60 rfl) rfl (by decide) (by decide) ?_
    rw [hS_w]
    refine Wp.seg 1 (pc1 := 81) (ls1 := [some (.ref 59), some (.int (t)), some (.int (z))]) (st1 := [.ref 59]) rfl ?_
    refine Wp.invV (d2 := 3) (as := [.ref 59]) (r := []) (t := (11, 0)) rfl rfl rfl rfl (WF.t hw 59 rfl) rfl rfl ⟨rfl, rfl⟩ (by omega) (s_shutNow (h := hS h (ku (h.2.2.1 60) 3 ((h.2.2.1 60 3) &&& (h.2.2.1 60 4)))) hw (by rw [hS_g]; exact hf1) (Nat.le_refl _) ?_)
    show Wp d 222 84 [some (.ref 59), some (.int (t)), some (.int (z))] [.int (f_shutNow ((hS h (ku (h.2.2.1 60) 3 ((h.2.2.1 60 3) &&& (h.2.2.1 60 4)))).2.2.1 60))] (hS h (ku (h.2.2.1 60) 3 ((h.2.2.1 60 3) &&& (h.2.2.1 60 4)))) Q
    refine Wp.inv (d2 := 0) (as := [.int (f_shutNow ((hS h (ku (h.2.2.1 60) 3 ((h.2.2.1 60 3) &&& (h.2.2.1 60 4)))).2.2.1 60))]) (r := []) rfl rfl rfl rfl rfl rfl (by omega) (s_bits (hb1) ?_)
    show Wp d 222 87 [some (.ref 59), some (.int (t)), some (.int (z))] [.int (popS (f_shutNow ((hS h (ku (h.2.2.1 60) 3 ((h.2.2.1 60 3) &&& (h.2.2.1 60 4)))).2.2.1 60)))] (hS h (ku (h.2.2.1 60) 3 ((h.2.2.1 60 3) &&& (h.2.2.1 60 4)))) Q
    refine Wp.seg 2 (pc1 := 89) (ls1 := [some (.ref 59), some (.int (t)), some (.int (popS (f_shutNow ((hS h (ku (h.2.2.1 60) 3 ((h.2.2.1 60 3) &&& (h.2.2.1 60 4)))).2.2.1 60))))]) (st1 := [.ref 59]) rfl ?_
    refine Wp.gr (t := (11, 0)) (v := some (60)) rfl (WF.t hw 59 rfl) rfl (WF.r hw 59 0 58 rfl) ?_
    show Wp d 222 92 [some (.ref 59), some (.int (t)), some (.int (popS (f_shutNow ((hS h (ku (h.2.2.1 60) 3 ((h.2.2.1 60 3) &&& (h.2.2.1 60 4)))).2.2.1 60))))] [.ref 60] (hS h (ku (h.2.2.1 60) 3 ((h.2.2.1 60 3) &&& (h.2.2.1 60 4)))) Q
    refine Wp.seg 2 (pc1 := 95) (ls1 := [some (.ref 59), some (.int (t)), some (.int (popS (f_shutNow ((hS h (ku (h.2.2.1 60) 3 ((h.2.2.1 60 3) &&& (h.2.2.1 60 4)))).2.2.1 60))))]) (st1 := [.int (6), .ref 60, .int (6), .ref 60]) rfl ?_
    refine Wp.iald (j := 6) (k := 20) (n := 585) rfl (WF.t hw 60 rfl) rfl rfl (by decide) (by decide) ?_
    rw [show (hS h (ku (h.2.2.1 60) 3 ((h.2.2.1 60 3) &&& (h.2.2.1 60 4)))).2.2.1 60 6 = (ku (h.2.2.1 60) 3 ((h.2.2.1 60 3) &&& (h.2.2.1 60 4))) 6 from congrFun (hS_g _ _) _]
    refine Wp.seg 2 (pc1 := 98) (ls1 := [some (.ref 59), some (.int (t)), some (.int (popS (f_shutNow ((hS h (ku (h.2.2.1 60) 3 ((h.2.2.1 60 3) &&& (h.2.2.1 60 4)))).2.2.1 60))))]) (st1 := [.int (((ku (h.2.2.1 60) 3 ((h.2.2.1 60 3) &&& (h.2.2.1 60 4))) 6) + (popS (f_shutNow ((hS h (ku (h.2.2.1 60) 3 ((h.2.2.1 60 3) &&& (h.2.2.1 60 4)))).2.2.1 60)))), .int (6), .ref 60]) rfl ?_
    refine Wp.iast (j := 6) (n := 585) rfl (WF.t hw 60 rfl) rfl (by decide) (by decide) ?_
    rw [hS_kw]
    refine Wp.seg 1 (pc1 := 100) (ls1 := [some (.ref 59), some (.int (t)), some (.int (popS (f_shutNow ((hS h (ku (h.2.2.1 60) 3 ((h.2.2.1 60 3) &&& (h.2.2.1 60 4)))).2.2.1 60))))]) (st1 := [.ref 59]) rfl ?_
    refine Wp.gr (t := (11, 0)) (v := some (60)) rfl (WF.t hw 59 rfl) rfl (WF.r hw 59 0 58 rfl) ?_
    show Wp d 222 103 [some (.ref 59), some (.int (t)), some (.int (popS (f_shutNow ((hS h (ku (h.2.2.1 60) 3 ((h.2.2.1 60 3) &&& (h.2.2.1 60 4)))).2.2.1 60))))] [.ref 60] (hS h (ku (ku (h.2.2.1 60) 3 ((h.2.2.1 60 3) &&& (h.2.2.1 60 4))) 6 (((ku (h.2.2.1 60) 3 ((h.2.2.1 60 3) &&& (h.2.2.1 60 4))) 6) + (popS (f_shutNow ((hS h (ku (h.2.2.1 60) 3 ((h.2.2.1 60 3) &&& (h.2.2.1 60 4)))).2.2.1 60)))))) Q
    refine Wp.seg 2 (pc1 := 105) (ls1 := [some (.ref 59), some (.int (t)), some (.int (popS (f_shutNow ((hS h (ku (h.2.2.1 60) 3 ((h.2.2.1 60 3) &&& (h.2.2.1 60 4)))).2.2.1 60))))]) (st1 := [.int (1), .ref 60, .int (1), .ref 60]) rfl ?_
    refine Wp.iald (j := 1) (k := 20) (n := 585) rfl (WF.t hw 60 rfl) rfl rfl (by decide) (by decide) ?_
    rw [show (hS h (ku (ku (h.2.2.1 60) 3 ((h.2.2.1 60 3) &&& (h.2.2.1 60 4))) 6 (((ku (h.2.2.1 60) 3 ((h.2.2.1 60 3) &&& (h.2.2.1 60 4))) 6) + (popS (f_shutNow ((hS h (ku (h.2.2.1 60) 3 ((h.2.2.1 60 3) &&& (h.2.2.1 60 4)))).2.2.1 60)))))).2.2.1 60 1 = (ku (ku (h.2.2.1 60) 3 ((h.2.2.1 60 3) &&& (h.2.2.1 60 4))) 6 (((ku (h.2.2.1 60) 3 ((h.2.2.1 60 3) &&& (h.2.2.1 60 4))) 6) + (popS (f_shutNow ((hS h (ku (h.2.2.1 60) 3 ((h.2.2.1 60 3) &&& (h.2.2.1 60 4)))).2.2.1 60))))) 1 from congrFun (hS_g _ _) _]
    refine Wp.seg 2 (pc1 := 108) (ls1 := [some (.ref 59), some (.int (t)), some (.int (popS (f_shutNow ((hS h (ku (h.2.2.1 60) 3 ((h.2.2.1 60 3) &&& (h.2.2.1 60 4)))).2.2.1 60))))]) (st1 := [.int (((ku (ku (h.2.2.1 60) 3 ((h.2.2.1 60 3) &&& (h.2.2.1 60 4))) 6 (((ku (h.2.2.1 60) 3 ((h.2.2.1 60 3) &&& (h.2.2.1 60 4))) 6) + (popS (f_shutNow ((hS h (ku (h.2.2.1 60) 3 ((h.2.2.1 60 3) &&& (h.2.2.1 60 4)))).2.2.1 60))))) 1) + (1 : Int32)), .int (1), .ref 60]) rfl ?_
    refine Wp.iast (j := 1) (n := 585) rfl (WF.t hw 60 rfl) rfl (by decide) (by decide) ?_
    rw [hS_kw]
    refine Wp.seg 1 (pc1 := 110) (ls1 := [some (.ref 59), some (.int (t)), some (.int (popS (f_shutNow ((hS h (ku (h.2.2.1 60) 3 ((h.2.2.1 60 3) &&& (h.2.2.1 60 4)))).2.2.1 60))))]) (st1 := [.int (popS (f_shutNow ((hS h (ku (h.2.2.1 60) 3 ((h.2.2.1 60 3) &&& (h.2.2.1 60 4)))).2.2.1 60)))]) rfl ?_
    exact Wp.reti rfl rfl (hQ.2 c1)
theorem s_goesT {d : Nat} {Q : KO → Prop} {h : KH} (hw : WF h) {t z : Int32} (hf : ∀ l, (l = h.2.2.1 60 3 ∨ l = (h.2.2.1 60 3) &&& (h.2.2.1 60 4)) → fixS (h.2.2.1 60 2) l ∧ clrR 17 (shutS (h.2.2.1 60 2) l) = 0) (hd : 4 ≤ d) (hQ : Q (some (.int (worthS (h.2.2.1 60))), hS h (tailS (h.2.2.1 60)))) : Wp d 222 33 [some (.ref 59), some (.int t), some (.int z)] [] h Q := by
  have e2 : ∀ l, ku (h.2.2.1 60) 3 l 2 = h.2.2.1 60 2 := fun l => ku_n _ _ (by decide)
  have e3 : ∀ l, ku (h.2.2.1 60) 3 l 3 = l := fun l => ku_s _ _ _
  have e6 : ∀ l, ku (h.2.2.1 60) 3 l 6 = h.2.2.1 60 6 := fun l => ku_n _ _ (by decide)
  have e1 : ∀ l y, ku (ku (h.2.2.1 60) 3 l) 6 y 1 = h.2.2.1 60 1 := fun l y => by rw [ku_n _ _ (by decide), ku_n _ _ (by decide)]
  have es : ∀ l, f_shutNow ((hS h (ku (h.2.2.1 60) 3 l)).2.2.1 60) = shutS (h.2.2.1 60 2) l := fun l => by
    rw [hS_g]
    unfold f_shutNow
    rw [e2, e3]
  refine t_goesT hw (by rw [e2, e3]; exact (hf _ (Or.inr rfl)).1) (by rw [e2, e3]; exact (hf _ (Or.inl rfl)).1) (by rw [es]; exact (hf _ (Or.inr rfl)).2) (by rw [es]; exact (hf _ (Or.inl rfl)).2) hd ⟨fun c => ?_, fun c => ?_⟩
  · rw [es, e6, e1]
    unfold worthS tailS worthS rainL at hQ
    rw [if_neg c] at hQ
    exact hQ
  · rw [es, e6, e1]
    unfold worthS tailS worthS rainL at hQ
    rw [if_pos (Decidable.not_not.mp c)] at hQ
    exact hQ
set_option maxHeartbeats 4000000 in
theorem t_goesW {d : Nat} {Q : KO → Prop} {h : KH} (hw : WF h) {t : Int32} {i n c f : Nat} (hi : i < n) (hn : n ≤ 6) (h1 : h.2.2.1 60 8 = Int32.ofNat n) (hc2 : c < 12) (hf2 : f < 4) (hc : h.2.2.1 60 (11 + 4 * i + 1) = Int32.ofNat c) (hf : h.2.2.1 60 (11 + 4 * i + 2) = Int32.ofNat f) (hd : 2 ≤ d) (hQ : Wp d 222 2 ([some (.ref 59), some (.int (t)), some (.int ((Int32.ofNat i) + 1))]) [] (hS h (walkS (h.2.2.1 60) i)) Q) : Wp d 222 2 [some (.ref 59), some (.int (t)), some (.int (Int32.ofNat i))] [] h Q := by
  refine Wp.seg 2 (pc1 := 4) (ls1 := [some (.ref 59), some (.int (t)), some (.int (Int32.ofNat i))]) (st1 := [.ref 59, .int (Int32.ofNat i)]) rfl ?_
  refine Wp.gr (t := (11, 0)) (v := some (60)) rfl (WF.t hw 59 rfl) rfl (WF.r hw 59 0 58 rfl) ?_
  show Wp d 222 7 [some (.ref 59), some (.int (t)), some (.int (Int32.ofNat i))] [.ref 60, .int (Int32.ofNat i)] h Q
  refine Wp.seg 1 (pc1 := 9) (ls1 := [some (.ref 59), some (.int (t)), some (.int (Int32.ofNat i))]) (st1 := [.int (8), .ref 60, .int (Int32.ofNat i)]) rfl ?_
  refine Wp.iald (j := 8) (k := 20) (n := 585) rfl (WF.t hw 60 rfl) rfl rfl (by decide) (by decide) ?_
  rw [show h.2.2.1 60 8 = Int32.ofNat n from h1]
  refine Wp.if2 rfl (fun c1 => absurd c1 (fun c => by have := (ole (by omega) (by omega)).mp c; omega)) (fun c1 => ?_)
  refine Wp.seg 2 (pc1 := 15) (ls1 := [some (.ref 59), some (.int (t)), some (.int (Int32.ofNat i))]) (st1 := [.int (Int32.ofNat i), .ref 59]) rfl ?_
  refine Wp.invV (d2 := 1) (as := [.ref 59, .int (Int32.ofNat i)]) (r := []) (t := (11, 0)) rfl rfl rfl rfl (WF.t hw 59 rfl) rfl rfl ⟨rfl, rfl⟩ (by omega) (s_walks hw (by omega) hc2 hf2 hc hf (Nat.le_refl _) ?_)
  show Wp d 222 18 [some (.ref 59), some (.int (t)), some (.int (Int32.ofNat i))] [] (hS h (walkS (h.2.2.1 60) i)) Q
  refine Wp.seg 2 (pc1 := 2) (ls1 := [some (.ref 59), some (.int (t)), some (.int ((Int32.ofNat i) + 1))]) (st1 := []) rfl ?_
  exact hQ
set_option maxHeartbeats 4000000 in
theorem t_goesX {d : Nat} {Q : KO → Prop} {h : KH} (hw : WF h) {t : Int32} {n : Nat} (h1 : h.2.2.1 60 8 = Int32.ofNat n) (ht : t < 0) (hd : 0 ≤ d) (hQ : Wp d 222 33 ([some (.ref 59), some (.int (t)), some (.int (Int32.ofNat n))]) [] h Q) : Wp d 222 2 [some (.ref 59), some (.int (t)), some (.int (Int32.ofNat n))] [] h Q := by
  refine Wp.seg 2 (pc1 := 4) (ls1 := [some (.ref 59), some (.int (t)), some (.int (Int32.ofNat n))]) (st1 := [.ref 59, .int (Int32.ofNat n)]) rfl ?_
  refine Wp.gr (t := (11, 0)) (v := some (60)) rfl (WF.t hw 59 rfl) rfl (WF.r hw 59 0 58 rfl) ?_
  show Wp d 222 7 [some (.ref 59), some (.int (t)), some (.int (Int32.ofNat n))] [.ref 60, .int (Int32.ofNat n)] h Q
  refine Wp.seg 1 (pc1 := 9) (ls1 := [some (.ref 59), some (.int (t)), some (.int (Int32.ofNat n))]) (st1 := [.int (8), .ref 60, .int (Int32.ofNat n)]) rfl ?_
  refine Wp.iald (j := 8) (k := 20) (n := 585) rfl (WF.t hw 60 rfl) rfl rfl (by decide) (by decide) ?_
  rw [show h.2.2.1 60 8 = Int32.ofNat n from h1]
  refine Wp.if2 rfl (fun c1 => ?_) (fun c1 => absurd (Int32.le_refl _) c1)
  refine Wp.seg 1 (pc1 := 25) (ls1 := [some (.ref 59), some (.int (t)), some (.int (Int32.ofNat n))]) (st1 := [.int (t)]) rfl ?_
  refine Wp.if1 rfl (fun c2 => ?_) (fun c2 => absurd (ht) c2)
  exact hQ
set_option maxHeartbeats 4000000 in
theorem t_goesA {d : Nat} {Q : KO → Prop} {h : KH} (hw : WF h) {n g c : Nat} {RL : List Rul} (h1 : h.2.2.1 60 8 = Int32.ofNat n) (hg : g < 6) (hR : rulesS (h.2.2.1 60) RL) (hc2 : c < 12) (hc : h.2.2.1 60 (11 + 4 * g + 1) = Int32.ofNat c) (hd : 5 ≤ d) (hQ : ∀ p : Nat → Int32, (Wp d 222 33 ([some (.ref 59), some (.int (Int32.ofNat g)), some (.int (Int32.ofNat n))]) [] (hG h (actS (h.2.2.1 60) (willS (h.2.2.1 60) RL g) (stE (f_strokesOf (h.2.2.1 60) g) c) g) p) Q)) : Wp d 222 2 [some (.ref 59), some (.int (Int32.ofNat g)), some (.int (Int32.ofNat n))] [] h Q := by
  refine Wp.seg 2 (pc1 := 4) (ls1 := [some (.ref 59), some (.int (Int32.ofNat g)), some (.int (Int32.ofNat n))]) (st1 := [.ref 59, .int (Int32.ofNat n)]) rfl ?_
  refine Wp.gr (t := (11, 0)) (v := some (60)) rfl (WF.t hw 59 rfl) rfl (WF.r hw 59 0 58 rfl) ?_
  show Wp d 222 7 [some (.ref 59), some (.int (Int32.ofNat g)), some (.int (Int32.ofNat n))] [.ref 60, .int (Int32.ofNat n)] h Q
  refine Wp.seg 1 (pc1 := 9) (ls1 := [some (.ref 59), some (.int (Int32.ofNat g)), some (.int (Int32.ofNat n))]) (st1 := [.int (8), .ref 60, .int (Int32.ofNat n)]) rfl ?_
  refine Wp.iald (j := 8) (k := 20) (n := 585) rfl (WF.t hw 60 rfl) rfl rfl (by decide) (by decide) ?_
  rw [show h.2.2.1 60 8 = Int32.ofNat n from h1]
  refine Wp.if2 rfl (fun c1 => ?_) (fun c1 => absurd (Int32.le_refl _) c1)
  refine Wp.seg 1 (pc1 := 25) (ls1 := [some (.ref 59), some (.int (Int32.ofNat g)), some (.int (Int32.ofNat n))]) (st1 := [.int (Int32.ofNat g)]) rfl ?_
  refine Wp.if1 rfl (fun c2 => absurd c2 (fun c => by have := (zlt (n := 0) (znat (n := g) (by omega)) rfl).mp c; omega)) (fun c2 => ?_)
  refine Wp.seg 2 (pc1 := 30) (ls1 := [some (.ref 59), some (.int (Int32.ofNat g)), some (.int (Int32.ofNat n))]) (st1 := [.int (Int32.ofNat g), .ref 59]) rfl ?_
  refine Wp.invV (d2 := 4) (as := [.ref 59, .int (Int32.ofNat g)]) (r := []) (t := (11, 0)) rfl rfl rfl rfl (WF.t hw 59 rfl) rfl rfl ⟨rfl, rfl⟩ (by omega) (s_acts hw hg hR hc2 hc (Nat.le_refl _) ?_)
  intro p
  show Wp d 222 33 [some (.ref 59), some (.int (Int32.ofNat g)), some (.int (Int32.ofNat n))] [] (hG h (actS (h.2.2.1 60) (willS (h.2.2.1 60) RL g) (stE (f_strokesOf (h.2.2.1 60) g) c) g) p) Q
  exact (hQ p)
set_option maxHeartbeats 4000000 in
theorem t_goes {d : Nat} {Q : KO → Prop} {h : KH} {t : Int32} (hd : 5 ≤ d) (hQ : Wp d 222 2 ([some (.ref 59), some (.int (t)), some (.int (0))]) [] h Q) : Cl d 222 [.ref 59, .int (t)] h Q := by
  refine Cl.of (ls := [some (.ref 59), some (.int (t)), none]) rfl rfl ?_
  refine Wp.seg 2 (pc1 := 2) (ls1 := [some (.ref 59), some (.int (t)), some (.int (0))]) (st1 := []) rfl ?_
  exact hQ
theorem laidS_congr {S S2 : Nat → Int32} (h : ∀ m, 85 ≤ m → S2 m = S m) : ∀ {P : List Op} {k e : Nat}, 85 ≤ k → laidS S k P e → laidS S2 k P e
  | [], _, _, _, hl => hl
  | (t, a, b) :: r, k, e, hk, hl => by
    rcases hl with ⟨l0, l1, l2, l3, l4⟩ | ⟨l0, l5, l1, l4⟩
    · exact Or.inl ⟨l0, by rw [h _ hk]; exact l1, by rw [h _ (by omega)]; exact l2, by rw [h _ (by omega)]; exact l3, laidS_congr h (by omega) l4⟩
    · exact Or.inr ⟨l0, l5, by rw [h _ hk]; exact l1, laidS_congr h (by omega) l4⟩
theorem rulS_congr {S S2 : Nat → Int32} (h : ∀ m, 53 ≤ m → S2 m = S m) : ∀ {RL : List Rul} {r : Nat}, rulS S r RL → rulS S2 r RL
  | [], _, hl => hl
  | (kd, wl, P) :: rest, r, hl => by
    obtain ⟨l1, l2, ⟨b, e, l3, l4, l5, l6⟩, l7, l8⟩ := hl
    exact ⟨by rw [h _ (by omega)]; exact l1, by rw [h _ (by omega)]; exact l2, ⟨b, e, by rw [h _ (by omega)]; exact l3, by rw [h _ (by omega)]; exact l4, l5, laidS_congr (fun m hm => h m (by omega)) (by omega) l6⟩, l7, rulS_congr h l8⟩
theorem rulesS_congr {S S2 : Nat → Int32} {RL : List Rul} (h : ∀ m, 53 ≤ m → S2 m = S m) (h10 : S2 10 = S 10) (hR : rulesS S RL) : rulesS S2 RL := ⟨by rw [h10]; exact hR.1, hR.2.1, rulS_congr h hR.2.2⟩
/-- the hands walk, one acts -/
def actedS (S : Nat → Int32) (RL : List Rul) (n : Nat) (t : Int32) : Nat → Int32 :=
  if t < 0 then walkL n 0 S else actS (walkL n 0 S) (willS (walkL n 0 S) RL t.toNatClampNeg) (stE (f_strokesOf (walkL n 0 S) t.toNatClampNeg) (walkL n 0 S (11 + 4 * t.toNatClampNeg + 1)).toNatClampNeg) t.toNatClampNeg
/-- a dusk goes by -/
def goS (S : Nat → Int32) (RL : List Rul) (n : Nat) (t : Int32) : Nat → Int32 := tailS (actedS S RL n t)
def goW (S : Nat → Int32) (RL : List Rul) (n : Nat) (t : Int32) : Int32 := worthS (actedS S RL n t)
theorem s_goesL {d : Nat} {Q : KO → Prop} {t : Int32} {n : Nat} (hd : 5 ≤ d) (hn : n ≤ 6) : ∀ (k i : Nat) (h : KH), i + k = n → WF h → h.2.2.1 60 8 = Int32.ofNat n → (∀ j, j < n → handOK (h.2.2.1 60) j) → Wp d 222 2 [some (.ref 59), some (.int t), some (.int (Int32.ofNat n))] [] (hS h (walkL k i (h.2.2.1 60))) Q → Wp d 222 2 [some (.ref 59), some (.int t), some (.int (Int32.ofNat i))] [] h Q
  | 0, i, h, hk, hw, h8, hh, hQ => by
    obtain rfl : i = n := hk
    have e : hS h (walkL 0 i (h.2.2.1 60)) = h := by
      show (h.1, h.2.1, ku h.2.2.1 60 (h.2.2.1 60), h.2.2.2) = h
      rw [ku_self]
    rw [e] at hQ
    exact hQ
  | k + 1, i, h, hk, hw, h8, hh, hQ => by
    obtain ⟨kk, c, f, ch, g1, g2, g3, g4, g5, g6, g7, g8, g9⟩ := hh i (by omega)
    refine t_goesW hw (n := n) (by omega) hn h8 g3 g4 g7 g8 (by omega) ?_
    have e1 : Int32.ofNat i + 1 = Int32.ofNat (i + 1) := ofadd i 1
    rw [e1]
    refine s_goesL hd hn k (i + 1) (hS h (walkS (h.2.2.1 60) i)) (by omega) hw ?_ (fun j hj => ?_) ?_
    · rw [hS_g, walk_out (by omega)]; exact h8
    · rw [hS_g]
      by_cases q : j = i
      · subst q; exact walk_self (hh j hj)
      · exact walk_other q (hh j hj)
    · rw [hS_g, hS_hS]
      exact hQ
theorem act_out {S : Nat → Int32} {w E : Int32} {g m : Nat} (h3 : m ≠ 3) (hm : m ≠ 11 + 4 * g + 3) : actS S w E g m = S m := by
  unfold actS
  split
  · exact ku_n _ _ h3
  · split
    · rw [ku_n _ _ h3, ku_n _ _ hm]
    · rfl
theorem hS_hG (h : KH) (S p S2 : Nat → Int32) : hS (hG h S p) S2 = hG h S2 p := by
  show (h.1, h.2.1, ku (ku (ku h.2.2.1 64 p) 60 S) 60 S2, h.2.2.2) = _
  rw [ku_u]
  rfl
theorem s_goes {d : Nat} {Q : KO → Prop} {h : KH} {t : Int32} {n : Nat} {RL : List Rul} (hw : WF h) (hd : 5 ≤ d) (hn : n ≤ 6) (h8 : h.2.2.1 60 8 = Int32.ofNat n) (hh : ∀ j, j < n → handOK (h.2.2.1 60) j) (hR : rulesS (h.2.2.1 60) RL) (ht : t < 0 ∨ ∃ g, g < n ∧ t = Int32.ofNat g)
    (hf : ∀ l, (l = actedS (h.2.2.1 60) RL n t 3 ∨ l = actedS (h.2.2.1 60) RL n t 3 &&& h.2.2.1 60 4) → fixS (h.2.2.1 60 2) l ∧ clrR 17 (shutS (h.2.2.1 60 2) l) = 0)
    (hQ : ∀ p, Q (some (.int (goW (h.2.2.1 60) RL n t)), hG h (goS (h.2.2.1 60) RL n t) p)) : Cl d 222 [.ref 59, .int t] h Q := by
  have w8 : (walkL n 0 (h.2.2.1 60)) 8 = Int32.ofNat n := by rw [walkL_out _ _ _ _ (by omega)]; exact h8
  refine t_goes hd (s_goesL hd hn n 0 h (by omega) hw h8 hh ?_)
  rcases ht with ht | ⟨g, hg, rfl⟩
  · have ea : actedS (h.2.2.1 60) RL n t = walkL n 0 (h.2.2.1 60) := if_pos ht
    unfold goW goS at hQ
    rw [ea] at hQ hf
    refine t_goesX (h := hS h (walkL n 0 (h.2.2.1 60))) hw (by rw [hS_g]; exact w8) ht (Nat.zero_le _) ?_
    refine s_goesT (h := hS h (walkL n 0 (h.2.2.1 60))) hw ?_ (by omega) ?_
    · rw [hS_g]
      rw [show walkL n 0 (h.2.2.1 60) 2 = h.2.2.1 60 2 from walkL_out _ _ _ _ (by omega), show walkL n 0 (h.2.2.1 60) 4 = h.2.2.1 60 4 from walkL_out _ _ _ _ (by omega)]
      exact hf
    · rw [hS_g, hS_hS, hG_hS]
      exact hQ _
  · have hlt : ¬ Int32.ofNat g < 0 := fun c => by
      have := (zlt (n := 0) (znat (n := g) (by omega)) rfl).mp c
      omega
    have ec : (Int32.ofNat g).toNatClampNeg = g := clamp_ofNat (by omega)
    obtain ⟨kk, c, f, ch, g1, g2, g3, g4, g5, g6, g7, g8, g9⟩ := walkL_ok n 0 _ g (hh g hg)
    have ea : actedS (h.2.2.1 60) RL n (Int32.ofNat g) = actS (walkL n 0 (h.2.2.1 60)) (willS (walkL n 0 (h.2.2.1 60)) RL g) (stE (f_strokesOf (walkL n 0 (h.2.2.1 60)) g) c) g := by
      unfold actedS
      rw [if_neg hlt, ec, g7, clamp_ofNat (by omega)]
    unfold goW goS at hQ
    rw [ea] at hQ hf
    refine t_goesA (h := hS h (walkL n 0 (h.2.2.1 60))) (RL := RL) (c := c) hw (by rw [hS_g]; exact w8) (by omega) ?_ g3 (by rw [hS_g]; exact g7) hd (fun p => ?_)
    · rw [hS_g]
      exact rulesS_congr (fun m hm => walkL_out _ _ _ _ (by omega)) (walkL_out _ _ _ _ (by omega)) hR
    · rw [hS_g]
      rw [show hG (hS h (walkL n 0 (h.2.2.1 60))) (actS (walkL n 0 (h.2.2.1 60)) (willS (walkL n 0 (h.2.2.1 60)) RL g) (stE (f_strokesOf (walkL n 0 (h.2.2.1 60)) g) c) g) p = hG h (actS (walkL n 0 (h.2.2.1 60)) (willS (walkL n 0 (h.2.2.1 60)) RL g) (stE (f_strokesOf (walkL n 0 (h.2.2.1 60)) g) c) g) p by rw [hG_hS, hG_G]]
      refine s_goesT (h := hG h _ p) hw ?_ (by omega) ?_
      · rw [hG_S]
        rw [show (actS (walkL n 0 (h.2.2.1 60)) (willS (walkL n 0 (h.2.2.1 60)) RL g) (stE (f_strokesOf (walkL n 0 (h.2.2.1 60)) g) c) g) 2 = h.2.2.1 60 2 by rw [act_out (by omega) (by omega), walkL_out _ _ _ _ (by omega)], show (actS (walkL n 0 (h.2.2.1 60)) (willS (walkL n 0 (h.2.2.1 60)) RL g) (stE (f_strokesOf (walkL n 0 (h.2.2.1 60)) g) c) g) 4 = h.2.2.1 60 4 by rw [act_out (by omega) (by omega), walkL_out _ _ _ _ (by omega)]]
        exact hf
      · rw [hG_S, hS_hG]
        exact hQ p
