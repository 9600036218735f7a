/-! KM: the class, hands walk -/
/-- the ints are others -/
def hI (h : KH) (I : Nat → Nat → Int32) : KH := (h.1, h.2.1, I, h.2.2.2)
/-- a city of the class, laid as the reference lays it -/
def cS (I : Nat → Nat → Int32) (a : Nat) : Nat → Int32 := fun m =>
  if 11 ≤ m then I (a + 1) (m - 11) else match m with
  | 0 => I a 6
  | 1 => I a 7
  | 2 => I a 2
  | 3 => I a 3
  | 4 => I a 4
  | 5 => I a 5
  | 6 => I a 8
  | 7 => I a 9
  | 8 => I a 1
  | _ => 0
theorem cS_hand (I : Nat → Nat → Int32) (a j : Nat) : cS I a (11 + j) = I (a + 1) j := by
  unfold cS
  rw [if_pos (by omega), show 11 + j - 11 = j by omega]
theorem cS_put (I : Nat → Nat → Int32) (a j : Nat) (x : Int32) : cS (ku I (a + 1) (ku (I (a + 1)) j x)) a = ku (cS I a) (11 + j) x := by
  funext m
  by_cases hm : 11 ≤ m
  · obtain ⟨i, rfl⟩ : ∃ i, m = 11 + i := ⟨m - 11, by omega⟩
    rw [cS_hand, ku_s]
    by_cases q : i = j
    · subst q; rw [ku_s, ku_s]
    · rw [ku_n _ _ q, ku_n _ _ (by omega), cS_hand]
  · rw [ku_n _ _ (by omega)]
    unfold cS
    rw [if_neg hm, if_neg hm]
    have e : ku I (a + 1) (ku (I (a + 1)) j x) a = I a := ku_n _ _ (by omega)
    simp only [e]
theorem cE_N : kall1 12 (fun c => kall1 4 (fun f => decide (f_cBeside (Int32.ofNat c) (Int32.ofNat f) < 0) == decide (kE.getD (4 * c + f) 0 < 0) && (decide (kE.getD (4 * c + f) 0 < 0) || (decide (f_cBeside (Int32.ofNat c) (Int32.ofNat f) = kN.getD (4 * c + f) 0) && decide (f_cEdge (Int32.ofNat c) (Int32.ofNat f) = kE.getD (4 * c + f) 0))))) = true := by decide +kernel
theorem cT_N : kall1 6 (fun k => kall1 4 (fun f => decide (f_cTurned (Int32.ofNat f) (f_cTurns (Int32.ofNat k)) = turnN k f))) = true := by decide +kernel
set_option maxHeartbeats 4000000 in
theorem t_cwB {d : Nat} {Q : KO → Prop} {h : KH} (hw : WF h) {a : Nat} (ha : cityA a) {n q k c f : Nat} {z2 z3 z4 z5 : Option Value} (y1 : kw2 (some z2) = false) (y2 : kw2 (some z3) = false) (y3 : kw2 (some z4) = false) (hn : n < q) (hq : q ≤ 6) (h1 : h.2.2.1 a 1 = Int32.ofNat q) (hk : h.2.2.1 (a + 1) (4 * n + 0) = Int32.ofNat k) (hc : h.2.2.1 (a + 1) (4 * n + 1) = Int32.ofNat c) (hf : h.2.2.1 (a + 1) (4 * n + 2) = Int32.ofNat f) (hd : 1 ≤ d) (hQ : ((f_cBeside (Int32.ofNat c) (Int32.ofNat f)) < 0 → Wp d 14 2 ([some (.ref a), some (.int ((Int32.ofNat n) + 1)), some (.int (Int32.ofNat k)), some (.int (Int32.ofNat c)), some (.int (Int32.ofNat f)), some (.int (f_cBeside (Int32.ofNat c) (Int32.ofNat f)))]) [] (kwi h (a + 1) (4 * n + 2) (f_cTurned (Int32.ofNat f) (f_cTurns (Int32.ofNat k)))) Q) ∧ (¬ ((f_cBeside (Int32.ofNat c) (Int32.ofNat f)) < 0) → ((Int32.ofNat k) = (5 : Int32) → Wp d 14 2 ([some (.ref a), some (.int ((Int32.ofNat n) + 1)), some (.int (Int32.ofNat k)), some (.int (Int32.ofNat c)), some (.int (Int32.ofNat f)), some (.int (f_cBeside (Int32.ofNat c) (Int32.ofNat f)))]) [] (kwi h (a + 1) (4 * n + 1) (f_cBeside (Int32.ofNat c) (Int32.ofNat f))) Q) ∧ (¬ ((Int32.ofNat k) = (5 : Int32)) → (¬ (((h.2.2.1 a 3) >>> ((f_cEdge (Int32.ofNat c) (Int32.ofNat f)) &&& 31)) &&& (1 : Int32)) = 0 → Wp d 14 2 ([some (.ref a), some (.int ((Int32.ofNat n) + 1)), some (.int (Int32.ofNat k)), some (.int (Int32.ofNat c)), some (.int (Int32.ofNat f)), some (.int (f_cBeside (Int32.ofNat c) (Int32.ofNat f)))]) [] (kwi h (a + 1) (4 * n + 2) (f_cTurned (Int32.ofNat f) (f_cTurns (Int32.ofNat k)))) Q) ∧ (¬ (¬ (((h.2.2.1 a 3) >>> ((f_cEdge (Int32.ofNat c) (Int32.ofNat f)) &&& 31)) &&& (1 : Int32)) = 0) → Wp d 14 2 ([some (.ref a), some (.int ((Int32.ofNat n) + 1)), some (.int (Int32.ofNat k)), some (.int (Int32.ofNat c)), some (.int (Int32.ofNat f)), some (.int (f_cBeside (Int32.ofNat c) (Int32.ofNat f)))]) [] (kwi h (a + 1) (4 * n + 1) (f_cBeside (Int32.ofNat c) (Int32.ofNat f))) Q)))) : Wp d 14 2 [some (.ref a), some (.int (Int32.ofNat n)), z2, z3, z4, z5] [] h Q := by
  refine Wp.seg 2 (pc1 := 4) (ls1 := [some (.ref a), some (.int (Int32.ofNat n)), z2, z3, z4, z5]) (st1 := [.ref a, .int (Int32.ofNat n)]) rfl ?_
  refine Wp.gi (t := (1, 0)) rfl (cA_t hw ha) (Or.inl rfl) ?_
  rw [show h.2.2.1 a 1 = Int32.ofNat q from h1]
  refine Wp.if2 rfl (fun c1 => absurd c1 (fun c => by have := (ole (by omega) (by omega)).mp c; omega)) (fun c1 => ?_)
  refine Wp.seg 3 (pc1 := 13) (ls1 := [some (.ref a), some (.int (Int32.ofNat n)), z2, z3, z4, z5]) (st1 := [.int (0), .int (Int32.ofNat n), .ref a]) rfl ?_
  refine Wp.invV (d2 := 0) (as := [.ref a, .int (Int32.ofNat n), .int (0)]) (r := []) (t := (1, 0)) rfl rfl rfl rfl (cA_t hw ha) rfl rfl ⟨rfl, rfl⟩ (by omega) (s_cget hw ha (n := n) (w := 0) rfl (by omega) hk ?_)
  show Wp d 14 16 [some (.ref a), some (.int (Int32.ofNat n)), z2, z3, z4, z5] [.int (Int32.ofNat k)] h Q
  refine Wp.seg 4 (pc1 := 20) (ls1 := [some (.ref a), some (.int (Int32.ofNat n)), some (.int (Int32.ofNat k)), z3, z4, z5]) (st1 := [.int (1), .int (Int32.ofNat n), .ref a]) rfl ?_
  refine Wp.invV (d2 := 0) (as := [.ref a, .int (Int32.ofNat n), .int (1)]) (r := []) (t := (1, 0)) rfl rfl rfl rfl (cA_t hw ha) rfl rfl ⟨rfl, rfl⟩ (by omega) (s_cget hw ha (n := n) (w := 1) rfl (by omega) hc ?_)
  show Wp d 14 23 [some (.ref a), some (.int (Int32.ofNat n)), some (.int (Int32.ofNat k)), z3, z4, z5] [.int (Int32.ofNat c)] h Q
  refine Wp.seg 4 (pc1 := 27) (ls1 := [some (.ref a), some (.int (Int32.ofNat n)), some (.int (Int32.ofNat k)), some (.int (Int32.ofNat c)), z4, z5]) (st1 := [.int (2), .int (Int32.ofNat n), .ref a]) rfl ?_
  refine Wp.invV (d2 := 0) (as := [.ref a, .int (Int32.ofNat n), .int (2)]) (r := []) (t := (1, 0)) rfl rfl rfl rfl (cA_t hw ha) rfl rfl ⟨rfl, rfl⟩ (by omega) (s_cget hw ha (n := n) (w := 2) rfl (by omega) hf ?_)
  show Wp d 14 30 [some (.ref a), some (.int (Int32.ofNat n)), some (.int (Int32.ofNat k)), some (.int (Int32.ofNat c)), z4, z5] [.int (Int32.ofNat f)] h Q
  refine Wp.seg 3 (pc1 := 35) (ls1 := [some (.ref a), some (.int (Int32.ofNat n)), some (.int (Int32.ofNat k)), some (.int (Int32.ofNat c)), some (.int (Int32.ofNat f)), z5]) (st1 := [.int (Int32.ofNat f), .int (Int32.ofNat c)]) rfl ?_
  refine Wp.inv (d2 := 0) (as := [.int (Int32.ofNat c), .int (Int32.ofNat f)]) (r := []) rfl rfl rfl rfl rfl rfl (by omega) (s_cBeside (Nat.le_refl _) ?_)
  show Wp d 14 38 [some (.ref a), some (.int (Int32.ofNat n)), some (.int (Int32.ofNat k)), some (.int (Int32.ofNat c)), some (.int (Int32.ofNat f)), z5] [.int (f_cBeside (Int32.ofNat c) (Int32.ofNat f))] h Q
  refine Wp.seg 2 (pc1 := 42) (ls1 := [some (.ref a), some (.int (Int32.ofNat n)), some (.int (Int32.ofNat k)), some (.int (Int32.ofNat c)), some (.int (Int32.ofNat f)), some (.int (f_cBeside (Int32.ofNat c) (Int32.ofNat f)))]) (st1 := [.int (f_cBeside (Int32.ofNat c) (Int32.ofNat f))]) rfl ?_
  refine Wp.if1 rfl (fun (c2 : (f_cBeside (Int32.ofNat c) (Int32.ofNat f)) < 0) => ?_) (fun (c2 : ¬ ((f_cBeside (Int32.ofNat c) (Int32.ofNat f)) < 0)) => ?_)
  · refine Wp.seg 5 (pc1 := 84) (ls1 := [some (.ref a), some (.int (Int32.ofNat n)), some (.int (Int32.ofNat k)), some (.int (Int32.ofNat c)), some (.int (Int32.ofNat f)), some (.int (f_cBeside (Int32.ofNat c) (Int32.ofNat f)))]) (st1 := [.int (Int32.ofNat k), .int (Int32.ofNat f), .int (2), .int (Int32.ofNat n), .ref a]) rfl ?_
    refine Wp.inv (d2 := 0) (as := [.int (Int32.ofNat k)]) (r := [.int (Int32.ofNat f), .int (2), .int (Int32.ofNat n), .ref a]) rfl rfl rfl rfl rfl rfl (by omega) (s_cTurns (Nat.le_refl _) ?_)
    show Wp d 14 87 [some (.ref a), some (.int (Int32.ofNat n)), some (.int (Int32.ofNat k)), some (.int (Int32.ofNat c)), some (.int (Int32.ofNat f)), some (.int (f_cBeside (Int32.ofNat c) (Int32.ofNat f)))] [.int (f_cTurns (Int32.ofNat k)), .int (Int32.ofNat f), .int (2), .int (Int32.ofNat n), .ref a] h Q
    refine Wp.inv (d2 := 0) (as := [.int (Int32.ofNat f), .int (f_cTurns (Int32.ofNat k))]) (r := [.int (2), .int (Int32.ofNat n), .ref a]) rfl rfl rfl rfl rfl rfl (by omega) (s_cTurned (Nat.le_refl _) ?_)
    show Wp d 14 90 [some (.ref a), some (.int (Int32.ofNat n)), some (.int (Int32.ofNat k)), some (.int (Int32.ofNat c)), some (.int (Int32.ofNat f)), some (.int (f_cBeside (Int32.ofNat c) (Int32.ofNat f)))] [.int (f_cTurned (Int32.ofNat f) (f_cTurns (Int32.ofNat k))), .int (2), .int (Int32.ofNat n), .ref a] h Q
    refine Wp.invV (d2 := 0) (as := [.ref a, .int (Int32.ofNat n), .int (2), .int (f_cTurned (Int32.ofNat f) (f_cTurns (Int32.ofNat k)))]) (r := []) (t := (1, 0)) rfl rfl rfl rfl (cA_t hw ha) rfl rfl ⟨rfl, rfl⟩ (by omega) (s_cput hw ha (n := n) (w := 2) rfl (by omega) ?_)
    show Wp d 14 93 [some (.ref a), some (.int (Int32.ofNat n)), some (.int (Int32.ofNat k)), some (.int (Int32.ofNat c)), some (.int (Int32.ofNat f)), some (.int (f_cBeside (Int32.ofNat c) (Int32.ofNat f)))] [.int (h.2.2.1 (a + 1) (4 * n + 2))] (kwi h (a + 1) (4 * n + 2) (f_cTurned (Int32.ofNat f) (f_cTurns (Int32.ofNat k)))) Q
    refine Wp.seg 3 (pc1 := 2) (ls1 := [some (.ref a), some (.int ((Int32.ofNat n) + 1)), some (.int (Int32.ofNat k)), some (.int (Int32.ofNat c)), some (.int (Int32.ofNat f)), some (.int (f_cBeside (Int32.ofNat c) (Int32.ofNat f)))]) (st1 := []) rfl ?_
    exact (hQ.1 c2)
  · refine Wp.seg 2 (pc1 := 47) (ls1 := [some (.ref a), some (.int (Int32.ofNat n)), some (.int (Int32.ofNat k)), some (.int (Int32.ofNat c)), some (.int (Int32.ofNat f)), some (.int (f_cBeside (Int32.ofNat c) (Int32.ofNat f)))]) (st1 := [.int (5), .int (Int32.ofNat k)]) rfl ?_
    refine Wp.if2 rfl (fun (c3 : (Int32.ofNat k) = (5 : Int32)) => ?_) (fun (c3 : ¬ ((Int32.ofNat k) = (5 : Int32))) => ?_)
    · refine Wp.seg 4 (pc1 := 71) (ls1 := [some (.ref a), some (.int (Int32.ofNat n)), some (.int (Int32.ofNat k)), some (.int (Int32.ofNat c)), some (.int (Int32.ofNat f)), some (.int (f_cBeside (Int32.ofNat c) (Int32.ofNat f)))]) (st1 := [.int (f_cBeside (Int32.ofNat c) (Int32.ofNat f)), .int (1), .int (Int32.ofNat n), .ref a]) rfl ?_
      refine Wp.invV (d2 := 0) (as := [.ref a, .int (Int32.ofNat n), .int (1), .int (f_cBeside (Int32.ofNat c) (Int32.ofNat f))]) (r := []) (t := (1, 0)) rfl rfl rfl rfl (cA_t hw ha) rfl rfl ⟨rfl, rfl⟩ (by omega) (s_cput hw ha (n := n) (w := 1) rfl (by omega) ?_)
      show Wp d 14 74 [some (.ref a), some (.int (Int32.ofNat n)), some (.int (Int32.ofNat k)), some (.int (Int32.ofNat c)), some (.int (Int32.ofNat f)), some (.int (f_cBeside (Int32.ofNat c) (Int32.ofNat f)))] [.int (h.2.2.1 (a + 1) (4 * n + 1))] (kwi h (a + 1) (4 * n + 1) (f_cBeside (Int32.ofNat c) (Int32.ofNat f))) Q
      refine Wp.seg 4 (pc1 := 2) (ls1 := [some (.ref a), some (.int ((Int32.ofNat n) + 1)), some (.int (Int32.ofNat k)), some (.int (Int32.ofNat c)), some (.int (Int32.ofNat f)), some (.int (f_cBeside (Int32.ofNat c) (Int32.ofNat f)))]) (st1 := []) rfl ?_
      exact ((hQ.2 c2).1 c3)
    · refine Wp.seg 1 (pc1 := 51) (ls1 := [some (.ref a), some (.int (Int32.ofNat n)), some (.int (Int32.ofNat k)), some (.int (Int32.ofNat c)), some (.int (Int32.ofNat f)), some (.int (f_cBeside (Int32.ofNat c) (Int32.ofNat f)))]) (st1 := [.ref a]) rfl ?_
      refine Wp.gi (t := (1, 0)) rfl (cA_t hw ha) (Or.inl rfl) ?_
      refine Wp.seg 2 (pc1 := 57) (ls1 := [some (.ref a), some (.int (Int32.ofNat n)), some (.int (Int32.ofNat k)), some (.int (Int32.ofNat c)), some (.int (Int32.ofNat f)), some (.int (f_cBeside (Int32.ofNat c) (Int32.ofNat f)))]) (st1 := [.int (Int32.ofNat f), .int (Int32.ofNat c), .int (h.2.2.1 a 3)]) rfl ?_
      refine Wp.inv (d2 := 0) (as := [.int (Int32.ofNat c), .int (Int32.ofNat f)]) (r := [.int (h.2.2.1 a 3)]) rfl rfl rfl rfl rfl rfl (by omega) (s_cEdge (Nat.le_refl _) ?_)
      show Wp d 14 60 [some (.ref a), some (.int (Int32.ofNat n)), some (.int (Int32.ofNat k)), some (.int (Int32.ofNat c)), some (.int (Int32.ofNat f)), some (.int (f_cBeside (Int32.ofNat c) (Int32.ofNat f)))] [.int (f_cEdge (Int32.ofNat c) (Int32.ofNat f)), .int (h.2.2.1 a 3)] h Q
      refine Wp.seg 3 (pc1 := 63) (ls1 := [some (.ref a), some (.int (Int32.ofNat n)), some (.int (Int32.ofNat k)), some (.int (Int32.ofNat c)), some (.int (Int32.ofNat f)), some (.int (f_cBeside (Int32.ofNat c) (Int32.ofNat f)))]) (st1 := [.int (((h.2.2.1 a 3) >>> ((f_cEdge (Int32.ofNat c) (Int32.ofNat f)) &&& 31)) &&& (1 : Int32))]) rfl ?_
      refine Wp.if1 rfl (fun (c4 : ¬ (((h.2.2.1 a 3) >>> ((f_cEdge (Int32.ofNat c) (Int32.ofNat f)) &&& 31)) &&& (1 : Int32)) = 0) => ?_) (fun (c4 : ¬ (¬ (((h.2.2.1 a 3) >>> ((f_cEdge (Int32.ofNat c) (Int32.ofNat f)) &&& 31)) &&& (1 : Int32)) = 0)) => ?_)
      · refine Wp.seg 5 (pc1 := 84) (ls1 := [some (.ref a), some (.int (Int32.ofNat n)), some (.int (Int32.ofNat k)), some (.int (Int32.ofNat c)), some (.int (Int32.ofNat f)), some (.int (f_cBeside (Int32.ofNat c) (Int32.ofNat f)))]) (st1 := [.int (Int32.ofNat k), .int (Int32.ofNat f), .int (2), .int (Int32.ofNat n), .ref a]) rfl ?_
        refine Wp.inv (d2 := 0) (as := [.int (Int32.ofNat k)]) (r := [.int (Int32.ofNat f), .int (2), .int (Int32.ofNat n), .ref a]) rfl rfl rfl rfl rfl rfl (by omega) (s_cTurns (Nat.le_refl _) ?_)
        show Wp d 14 87 [some (.ref a), some (.int (Int32.ofNat n)), some (.int (Int32.ofNat k)), some (.int (Int32.ofNat c)), some (.int (Int32.ofNat f)), some (.int (f_cBeside (Int32.ofNat c) (Int32.ofNat f)))] [.int (f_cTurns (Int32.ofNat k)), .int (Int32.ofNat f), .int (2), .int (Int32.ofNat n), .ref a] h Q
        refine Wp.inv (d2 := 0) (as := [.int (Int32.ofNat f), .int (f_cTurns (Int32.ofNat k))]) (r := [.int (2), .int (Int32.ofNat n), .ref a]) rfl rfl rfl rfl rfl rfl (by omega) (s_cTurned (Nat.le_refl _) ?_)
        show Wp d 14 90 [some (.ref a), some (.int (Int32.ofNat n)), some (.int (Int32.ofNat k)), some (.int (Int32.ofNat c)), some (.int (Int32.ofNat f)), some (.int (f_cBeside (Int32.ofNat c) (Int32.ofNat f)))] [.int (f_cTurned (Int32.ofNat f) (f_cTurns (Int32.ofNat k))), .int (2), .int (Int32.ofNat n), .ref a] h Q
        refine Wp.invV (d2 := 0) (as := [.ref a, .int (Int32.ofNat n), .int (2), .int (f_cTurned (Int32.ofNat f) (f_cTurns (Int32.ofNat k)))]) (r := []) (t := (1, 0)) rfl rfl rfl rfl (cA_t hw ha) rfl rfl ⟨rfl, rfl⟩ (by omega) (s_cput hw ha (n := n) (w := 2) rfl (by omega) ?_)
        show Wp d 14 93 [some (.ref a), some (.int (Int32.ofNat n)), some (.int (Int32.ofNat k)), some (.int (Int32.ofNat c)), some (.int (Int32.ofNat f)), some (.int (f_cBeside (Int32.ofNat c) (Int32.ofNat f)))] [.int (h.2.2.1 (a + 1) (4 * n + 2))] (kwi h (a + 1) (4 * n + 2) (f_cTurned (Int32.ofNat f) (f_cTurns (Int32.ofNat k)))) Q
        refine Wp.seg 3 (pc1 := 2) (ls1 := [some (.ref a), some (.int ((Int32.ofNat n) + 1)), some (.int (Int32.ofNat k)), some (.int (Int32.ofNat c)), some (.int (Int32.ofNat f)), some (.int (f_cBeside (Int32.ofNat c) (Int32.ofNat f)))]) (st1 := []) rfl ?_
        exact (((hQ.2 c2).2 c3).1 c4)
      · refine Wp.seg 4 (pc1 := 71) (ls1 := [some (.ref a), some (.int (Int32.ofNat n)), some (.int (Int32.ofNat k)), some (.int (Int32.ofNat c)), some (.int (Int32.ofNat f)), some (.int (f_cBeside (Int32.ofNat c) (Int32.ofNat f)))]) (st1 := [.int (f_cBeside (Int32.ofNat c) (Int32.ofNat f)), .int (1), .int (Int32.ofNat n), .ref a]) rfl ?_
        refine Wp.invV (d2 := 0) (as := [.ref a, .int (Int32.ofNat n), .int (1), .int (f_cBeside (Int32.ofNat c) (Int32.ofNat f))]) (r := []) (t := (1, 0)) rfl rfl rfl rfl (cA_t hw ha) rfl rfl ⟨rfl, rfl⟩ (by omega) (s_cput hw ha (n := n) (w := 1) rfl (by omega) ?_)
        show Wp d 14 74 [some (.ref a), some (.int (Int32.ofNat n)), some (.int (Int32.ofNat k)), some (.int (Int32.ofNat c)), some (.int (Int32.ofNat f)), some (.int (f_cBeside (Int32.ofNat c) (Int32.ofNat f)))] [.int (h.2.2.1 (a + 1) (4 * n + 1))] (kwi h (a + 1) (4 * n + 1) (f_cBeside (Int32.ofNat c) (Int32.ofNat f))) Q
        refine Wp.seg 4 (pc1 := 2) (ls1 := [some (.ref a), some (.int ((Int32.ofNat n) + 1)), some (.int (Int32.ofNat k)), some (.int (Int32.ofNat c)), some (.int (Int32.ofNat f)), some (.int (f_cBeside (Int32.ofNat c) (Int32.ofNat f)))]) (st1 := []) rfl ?_
        exact (((hQ.2 c2).2 c3).2 c4)
set_option maxHeartbeats 4000000 in
theorem t_cwE {d : Nat} {Q : KO → Prop} {h : KH} (hw : WF h) {a : Nat} (ha : cityA a) {q : Nat} {z2 z3 z4 z5 : Option Value} (h1 : h.2.2.1 a 1 = Int32.ofNat q) (hd : 0 ≤ d) (hQ : Q (none, h)) : Wp d 14 2 [some (.ref a), some (.int (Int32.ofNat q)), z2, z3, z4, z5] [] h Q := by
  refine Wp.seg 2 (pc1 := 4) (ls1 := [some (.ref a), some (.int (Int32.ofNat q)), z2, z3, z4, z5]) (st1 := [.ref a, .int (Int32.ofNat q)]) rfl ?_
  refine Wp.gi (t := (1, 0)) rfl (cA_t hw ha) (Or.inl rfl) ?_
  rw [show h.2.2.1 a 1 = Int32.ofNat q from h1]
  refine Wp.if2 rfl (fun c1 => ?_) (fun c1 => absurd (Int32.le_refl _) c1)
  exact Wp.retv rfl rfl hQ
set_option maxHeartbeats 4000000 in
theorem t_cw {d : Nat} {Q : KO → Prop} {h : KH} {a : Nat} (hd : 1 ≤ d) (hQ : Wp d 14 2 ([some (.ref a), some (.int (0)), none, none, none, none]) [] h Q) : Cl d 14 [.ref a] h Q := by
  refine Cl.of (ls := [some (.ref a), none, none, none, none, none]) rfl rfl ?_
  refine Wp.seg 2 (pc1 := 2) (ls1 := [some (.ref a), some (.int (0)), none, none, none, none]) (st1 := []) rfl ?_
  exact hQ
