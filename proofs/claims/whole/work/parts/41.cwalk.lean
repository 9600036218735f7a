/-! KM: the class, hands walk -/
/-- the ints are others -/
def hI (h : KH) (I : Nat → Nat → Int32) : KH := (h.1, h.2.1, I, h.2.2.2)
/-- a city of the class, laid as the reference lays it -/
def cS (I : Nat → Nat → Int32) (a : Nat) : Nat → Int32 := fun m =>
  if 11 ≤ m then I (a + 1) (m - 11) else match m with
  | 0 => I a 6
  | 1 => I a 7
  | 2 => I a 2
  | 3 => I a 3
  | 4 => I a 4
  | 5 => I a 5
  | 6 => I a 8
  | 7 => I a 9
  | 8 => I a 1
  | _ => 0
theorem cS_hand (I : Nat → Nat → Int32) (a j : Nat) : cS I a (11 + j) = I (a + 1) j := by
  unfold cS
  rw [if_pos (by omega), show 11 + j - 11 = j by omega]
theorem cS_put (I : Nat → Nat → Int32) (a j : Nat) (x : Int32) : cS (ku I (a + 1) (ku (I (a + 1)) j x)) a = ku (cS I a) (11 + j) x := by
  funext m
  by_cases hm : 11 ≤ m
  · obtain ⟨i, rfl⟩ : ∃ i, m = 11 + i := ⟨m - 11, by omega⟩
    rw [cS_hand, ku_s]
    by_cases q : i = j
    · subst q; rw [ku_s, ku_s]
    · rw [ku_n _ _ q, ku_n _ _ (by omega), cS_hand]
  · rw [ku_n _ _ (by omega)]
    unfold cS
    rw [if_neg hm, if_neg hm]
    have e : ku I (a + 1) (ku (I (a + 1)) j x) a = I a := ku_n _ _ (by omega)
    simp only [e]
theorem cE_N : kall1 12 (fun c => kall1 4 (fun f => decide (f_cBeside (Int32.ofNat c) (Int32.ofNat f) < 0) == decide (kE.getD (4 * c + f) 0 < 0) && (decide (kE.getD (4 * c + f) 0 < 0) || (decide (f_cBeside (Int32.ofNat c) (Int32.ofNat f) = kN.getD (4 * c + f) 0) && decide (f_cEdge (Int32.ofNat c) (Int32.ofNat f) = kE.getD (4 * c + f) 0))))) = true := by decide +kernel
theorem cT_N : kall1 6 (fun k => kall1 4 (fun f => decide (f_cTurned (Int32.ofNat f) (f_cTurns (Int32.ofNat k)) = turnN k f))) = true := by decide +kernel
set_option maxHeartbeats 4000000 in
theorem t_cwB {d : Nat} {Q : KO → Prop} {h : KH} (hw : WF h) {a : Nat} (ha : cityA a) {n q k c f : Nat} {z2 z3 z4 z5 : Option Value} (hn : n < q) (hq : q ≤ 6) (h1 : h.2.2.1 a 1 = Int32.ofNat q) (hk : h.2.2.1 (a + 1) (4 * n + 0) = Int32.ofNat k) (hc : h.2.2.1 (a + 1) (4 * n + 1) = Int32.ofNat c) (hf : h.2.2.1 (a + 1) (4 * n + 2) = Int32.ofNat f) (hd : 1 ≤ d) (hQ : ((f_cBeside (Int32.ofNat c) (Int32.ofNat f)) < 0 → Wp d 14 2 ([some (.ref a), some (.int ((Int32.ofNat n) + 1)), some (.int (Int32.ofNat k)), some (.int (Int32.ofNat c)), some (.int (Int32.ofNat f)), some (.int (f_cBeside (Int32.ofNat c) (Int32.ofNat f)))]) [] (kwi h (a + 1) (4 * n + 2) (f_cTurned (Int32.ofNat f) (f_cTurns (Int32.ofNat k)))) Q) ∧ (¬ ((f_cBeside (Int32.ofNat c) (Int32.ofNat f)) < 0) → ((Int32.ofNat k) = (5 : Int32) → Wp d 14 2 ([some (.ref a), some (.int ((Int32.ofNat n) + 1)), some (.int (Int32.ofNat k)), some (.int (Int32.ofNat c)), some (.int (Int32.ofNat f)), some (.int (f_cBeside (Int32.ofNat c) (Int32.ofNat f)))]) [] (kwi h (a + 1) (4 * n + 1) (f_cBeside (Int32.ofNat c) (Int32.ofNat f))) Q) ∧ (¬ ((Int32.ofNat k) = (5 : Int32)) → (¬ (((h.2.2.1 a 3) >>> ((f_cEdge (Int32.ofNat c) (Int32.ofNat f)) &&& 31)) &&& (1 : Int32)) = 0 → Wp d 14 2 ([some (.ref a), some (.int ((Int32.ofNat n) + 1)), some (.int (Int32.ofNat k)), some (.int (Int32.ofNat c)), some (.int (Int32.ofNat f)), some (.int (f_cBeside (Int32.ofNat c) (Int32.ofNat f)))]) [] (kwi h (a + 1) (4 * n + 2) (f_cTurned (Int32.ofNat f) (f_cTurns (Int32.ofNat k)))) Q) ∧ (¬ (¬ (((h.2.2.1 a 3) >>> ((f_cEdge (Int32.ofNat c) (Int32.ofNat f)) &&& 31)) &&& (1 : Int32)) = 0) → Wp d 14 2 ([some (.ref a), some (.int ((Int32.ofNat n) + 1)), some (.int (Int32.ofNat k)), some (.int (Int32.ofNat c)), some (.int (Int32.ofNat f)), some (.int (f_cBeside (Int32.ofNat c) (Int32.ofNat f)))]) [] (kwi h (a + 1) (4 * n + 1) (f_cBeside (Int32.ofNat c) (Int32.ofNat f))) Q)))) : Wp d 14 2 [some (.ref a), some (.int (Int32.ofNat n)), z2, z3, z4, z5] [] h Q := by
  refine Wp.seg 2 (pc1 := 4) (ls1 := [some (.ref a), some (.int (Int32.ofNat n)), z2, z3, z4, z5]) (st1 := [.ref a, .int (Int32.ofNat n)]) rfl ?_
  refine Wp.gi (t := (1, 0)) rfl (cA_t hw ha) (Or.inl rfl) ?_
  rw [show h.2.2.1 a 1 = Int32.ofNat q from h1]
  refine Wp.if2 rfl (fun c1 => absurd c1 (fun c => by have := (ole (by omega) (by omega)).mp c; omega)) (fun c1 => ?_)
  refine Wp.seg 3 (pc1 := 13) (ls1 := [some (.ref a), some (.int (Int32.ofNat n)), z2, z3, z4, z5]) (st1 := [.int (0), .int (Int32.ofNat n), .ref a]) rfl ?_
  refine Wp.invV (d2 := 0) (as := [.ref a, .int (Int32.ofNat n), .int (0)]) (r := []) (t := (1, 0)) rfl rfl rfl rfl (cA_t hw ha) rfl rfl ⟨rfl, rfl⟩ (by omega) (s_cget hw ha (n := n) (w := 0) rfl (by omega) hk ?_)
  show Wp d 14 16 [some (.ref a), some (.int (Int32.ofNat n)), z2, z3, z4, z5] [.int (Int32.ofNat k)] h Q
  refine Wp.seg 4 (pc1 := 20) (ls1 := [some (.ref a), some (.int (Int32.ofNat n)), some (.int (Int32.ofNat k)), z3, z4, z5]) (st1 := [.int (1), .int (Int32.ofNat n), .ref a]) rfl ?_
  refine Wp.invV (d2 := 0) (as := [.ref a, .int (Int32.ofNat n), .int (1)]) (r := []) (t := (1, 0)) rfl rfl rfl rfl (cA_t hw ha) rfl rfl ⟨rfl, rfl⟩ (by omega) (s_cget hw ha (n := n) (w := 1) rfl (by omega) hc ?_)
  show Wp d 14 23 [some (.ref a), some (.int (Int32.ofNat n)), some (.int (Int32.ofNat k)), z3, z4, z5] [.int (Int32.ofNat c)] h Q
  refine Wp.seg 4 (pc1 := 27) (ls1 := [some (.ref a), some (.int (Int32.ofNat n)), some (.int (Int32.ofNat k)), some (.int (Int32.ofNat c)), z4, z5]) (st1 := [.int (2), .int (Int32.ofNat n), .ref a]) rfl ?_
  refine Wp.invV (d2 := 0) (as := [.ref a, .int (Int32.ofNat n), .int (2)]) (r := []) (t := (1, 0)) rfl rfl rfl rfl (cA_t hw ha) rfl rfl ⟨rfl, rfl⟩ (by omega) (s_cget hw ha (n := n) (w := 2) rfl (by omega) hf ?_)
  show Wp d 14 30 [some (.ref a), some (.int (Int32.ofNat n)), some (.int (Int32.ofNat k)), some (.int (Int32.ofNat c)), z4, z5] [.int (Int32.ofNat f)] h Q
  refine Wp.seg 3 (pc1 := 35) (ls1 := [some (.ref a), some (.int (Int32.ofNat n)), some (.int (Int32.ofNat k)), some (.int (Int32.ofNat c)), some (.int (Int32.ofNat f)), z5]) (st1 := [.int (Int32.ofNat f), .int (Int32.ofNat c)]) rfl ?_
  refine Wp.inv (d2 := 0) (as := [.int (Int32.ofNat c), .int (Int32.ofNat f)]) (r := []) rfl rfl rfl rfl rfl rfl (by omega) (s_cBeside (Nat.le_refl _) ?_)
  show Wp d 14 38 [some (.ref a), some (.int (Int32.ofNat n)), some (.int (Int32.ofNat k)), some (.int (Int32.ofNat c)), some (.int (Int32.ofNat f)), z5] [.int (f_cBeside (Int32.ofNat c) (Int32.ofNat f))] h Q
  refine Wp.seg 2 (pc1 := 42) (ls1 := [some (.ref a), some (.int (Int32.ofNat n)), some (.int (Int32.ofNat k)), some (.int (Int32.ofNat c)), some (.int (Int32.ofNat f)), some (.int (f_cBeside (Int32.ofNat c) (Int32.ofNat f)))]) (st1 := [.int (f_cBeside (Int32.ofNat c) (Int32.ofNat f))]) rfl ?_
  refine Wp.if1 rfl (fun (c2 : (f_cBeside (Int32.ofNat c) (Int32.ofNat f)) < 0) => ?_) (fun (c2 : ¬ ((f_cBeside (Int32.ofNat c) (Int32.ofNat f)) < 0)) => ?_)
  · refine Wp.seg 5 (pc1 := 84) (ls1 := [some (.ref a), some (.int (Int32.ofNat n)), some (.int (Int32.ofNat k)), some (.int (Int32.ofNat c)), some (.int (Int32.ofNat f)), some (.int (f_cBeside (Int32.ofNat c) (Int32.ofNat f)))]) (st1 := [.int (Int32.ofNat k), .int (Int32.ofNat f), .int (2), .int (Int32.ofNat n), .ref a]) rfl ?_
    refine Wp.inv (d2 := 0) (as := [.int (Int32.ofNat k)]) (r := [.int (Int32.ofNat f), .int (2), .int (Int32.ofNat n), .ref a]) rfl rfl rfl rfl rfl rfl (by omega) (s_cTurns (Nat.le_refl _) ?_)
    show Wp d 14 87 [some (.ref a), some (.int (Int32.ofNat n)), some (.int (Int32.ofNat k)), some (.int (Int32.ofNat c)), some (.int (Int32.ofNat f)), some (.int (f_cBeside (Int32.ofNat c) (Int32.ofNat f)))] [.int (f_cTurns (Int32.ofNat k)), .int (Int32.ofNat f), .int (2), .int (Int32.ofNat n), .ref a] h Q
    refine Wp.inv (d2 := 0) (as := [.int (Int32.ofNat f), .int (f_cTurns (Int32.ofNat k))]) (r := [.int (2), .int (Int32.ofNat n), .ref a]) rfl rfl rfl rfl rfl rfl (by omega) (s_cTurned (Nat.le_refl _) ?_)
    show Wp d 14 90 [some (.ref a), some (.int (Int32.ofNat n)), some (.int (Int32.ofNat k)), some (.int (Int32.ofNat c)), some (.int (Int32.ofNat f)), some (.int (f_cBeside (Int32.ofNat c) (Int32.ofNat f)))] [.int (f_cTurned (Int32.ofNat f) (f_cTurns (Int32.ofNat k))), .int (2), .int (Int32.ofNat n), .ref a] h Q
    refine Wp.invV (d2 := 0) (as := [.ref a, .int (Int32.ofNat n), .int (2), .int (f_cTurned (Int32.ofNat f) (f_cTurns (Int32.ofNat k)))]) (r := []) (t := (1, 0)) rfl rfl rfl rfl (cA_t hw ha) rfl rfl ⟨rfl, rfl⟩ (by omega) (s_cput hw ha (n := n) (w := 2) rfl (by omega) ?_)
    show Wp d 14 93 [some (.ref a), some (.int (Int32.ofNat n)), some (.int (Int32.ofNat k)), some (.int (Int32.ofNat c)), some (.int (Int32.ofNat f)), some (.int (f_cBeside (Int32.ofNat c) (Int32.ofNat f)))] [.int (h.2.2.1 (a + 1) (4 * n + 2))] (kwi h (a + 1) (4 * n + 2) (f_cTurned (Int32.ofNat f) (f_cTurns (Int32.ofNat k)))) Q
    refine Wp.seg 3 (pc1 := 2) (ls1 := [some (.ref a), some (.int ((Int32.ofNat n) + 1)), some (.int (Int32.ofNat k)), some (.int (Int32.ofNat c)), some (.int (Int32.ofNat f)), some (.int (f_cBeside (Int32.ofNat c) (Int32.ofNat f)))]) (st1 := []) rfl ?_
    exact (hQ.1 c2)
  · refine Wp.seg 2 (pc1 := 47) (ls1 := [some (.ref a), some (.int (Int32.ofNat n)), some (.int (Int32.ofNat k)), some (.int (Int32.ofNat c)), some (.int (Int32.ofNat f)), some (.int (f_cBeside (Int32.ofNat c) (Int32.ofNat f)))]) (st1 := [.int (5), .int (Int32.ofNat k)]) rfl ?_
    refine Wp.if2 rfl (fun (c3 : (Int32.ofNat k) = (5 : Int32)) => ?_) (fun (c3 : ¬ ((Int32.ofNat k) = (5 : Int32))) => ?_)
    · refine Wp.seg 4 (pc1 := 71) (ls1 := [some (.ref a), some (.int (Int32.ofNat n)), some (.int (Int32.ofNat k)), some (.int (Int32.ofNat c)), some (.int (Int32.ofNat f)), some (.int (f_cBeside (Int32.ofNat c) (Int32.ofNat f)))]) (st1 := [.int (f_cBeside (Int32.ofNat c) (Int32.ofNat f)), .int (1), .int (Int32.ofNat n), .ref a]) rfl ?_
      refine Wp.invV (d2 := 0) (as := [.ref a, .int (Int32.ofNat n), .int (1), .int (f_cBeside (Int32.ofNat c) (Int32.ofNat f))]) (r := []) (t := (1, 0)) rfl rfl rfl rfl (cA_t hw ha) rfl rfl ⟨rfl, rfl⟩ (by omega) (s_cput hw ha (n := n) (w := 1) rfl (by omega) ?_)
      show Wp d 14 74 [some (.ref a), some (.int (Int32.ofNat n)), some (.int (Int32.ofNat k)), some (.int (Int32.ofNat c)), some (.int (Int32.ofNat f)), some (.int (f_cBeside (Int32.ofNat c) (Int32.ofNat f)))] [.int (h.2.2.1 (a + 1) (4 * n + 1))] (kwi h (a + 1) (4 * n + 1) (f_cBeside (Int32.ofNat c) (Int32.ofNat f))) Q
      refine Wp.seg 4 (pc1 := 2) (ls1 := [some (.ref a), some (.int ((Int32.ofNat n) + 1)), some (.int (Int32.ofNat k)), some (.int (Int32.ofNat c)), some (.int (Int32.ofNat f)), some (.int (f_cBeside (Int32.ofNat c) (Int32.ofNat f)))]) (st1 := []) rfl ?_
      exact ((hQ.2 c2).1 c3)
    · refine Wp.seg 1 (pc1 := 51) (ls1 := [some (.ref a), some (.int (Int32.ofNat n)), some (.int (Int32.ofNat k)), some (.int (Int32.ofNat c)), some (.int (Int32.ofNat f)), some (.int (f_cBeside (Int32.ofNat c) (Int32.ofNat f)))]) (st1 := [.ref a]) rfl ?_
      refine Wp.gi (t := (1, 0)) rfl (cA_t hw ha) (Or.inl rfl) ?_
      refine Wp.seg 2 (pc1 := 57) (ls1 := [some (.ref a), some (.int (Int32.ofNat n)), some (.int (Int32.ofNat k)), some (.int (Int32.ofNat c)), some (.int (Int32.ofNat f)), some (.int (f_cBeside (Int32.ofNat c) (Int32.ofNat f)))]) (st1 := [.int (Int32.ofNat f), .int (Int32.ofNat c), .int (h.2.2.1 a 3)]) rfl ?_
      refine Wp.inv (d2 := 0) (as := [.int (Int32.ofNat c), .int (Int32.ofNat f)]) (r := [.int (h.2.2.1 a 3)]) rfl rfl rfl rfl rfl rfl (by omega) (s_cEdge (Nat.le_refl _) ?_)
      show Wp d 14 60 [some (.ref a), some (.int (Int32.ofNat n)), some (.int (Int32.ofNat k)), some (.int (Int32.ofNat c)), some (.int (Int32.ofNat f)), some (.int (f_cBeside (Int32.ofNat c) (Int32.ofNat f)))] [.int (f_cEdge (Int32.ofNat c) (Int32.ofNat f)), .int (h.2.2.1 a 3)] h Q
      refine Wp.seg 3 (pc1 := 63) (ls1 := [some (.ref a), some (.int (Int32.ofNat n)), some (.int (Int32.ofNat k)), some (.int (Int32.ofNat c)), some (.int (Int32.ofNat f)), some (.int (f_cBeside (Int32.ofNat c) (Int32.ofNat f)))]) (st1 := [.int (((h.2.2.1 a 3) >>> ((f_cEdge (Int32.ofNat c) (Int32.ofNat f)) &&& 31)) &&& (1 : Int32))]) rfl ?_
      refine Wp.if1 rfl (fun (c4 : ¬ (((h.2.2.1 a 3) >>> ((f_cEdge (Int32.ofNat c) (Int32.ofNat f)) &&& 31)) &&& (1 : Int32)) = 0) => ?_) (fun (c4 : ¬ (¬ (((h.2.2.1 a 3) >>> ((f_cEdge (Int32.ofNat c) (Int32.ofNat f)) &&& 31)) &&& (1 : Int32)) = 0)) => ?_)
      · refine Wp.seg 5 (pc1 := 84) (ls1 := [some (.ref a), some (.int (Int32.ofNat n)), some (.int (Int32.ofNat k)), some (.int (Int32.ofNat c)), some (.int (Int32.ofNat f)), some (.int (f_cBeside (Int32.ofNat c) (Int32.ofNat f)))]) (st1 := [.int (Int32.ofNat k), .int (Int32.ofNat f), .int (2), .int (Int32.ofNat n), .ref a]) rfl ?_
        refine Wp.inv (d2 := 0) (as := [.int (Int32.ofNat k)]) (r := [.int (Int32.ofNat f), .int (2), .int (Int32.ofNat n), .ref a]) rfl rfl rfl rfl rfl rfl (by omega) (s_cTurns (Nat.le_refl _) ?_)
        show Wp d 14 87 [some (.ref a), some (.int (Int32.ofNat n)), some (.int (Int32.ofNat k)), some (.int (Int32.ofNat c)), some (.int (Int32.ofNat f)), some (.int (f_cBeside (Int32.ofNat c) (Int32.ofNat f)))] [.int (f_cTurns (Int32.ofNat k)), .int (Int32.ofNat f), .int (2), .int (Int32.ofNat n), .ref a] h Q
        refine Wp.inv (d2 := 0) (as := [.int (Int32.ofNat f), .int (f_cTurns (Int32.ofNat k))]) (r := [.int (2), .int (Int32.ofNat n), .ref a]) rfl rfl rfl rfl rfl rfl (by omega) (s_cTurned (Nat.le_refl _) ?_)
        show Wp d 14 90 [some (.ref a), some (.int (Int32.ofNat n)), some (.int (Int32.ofNat k)), some (.int (Int32.ofNat c)), some (.int (Int32.ofNat f)), some (.int (f_cBeside (Int32.ofNat c) (Int32.ofNat f)))] [.int (f_cTurned (Int32.ofNat f) (f_cTurns (Int32.ofNat k))), .int (2), .int (Int32.ofNat n), .ref a] h Q
        refine Wp.invV (d2 := 0) (as := [.ref a, .int (Int32.ofNat n), .int (2), .int (f_cTurned (Int32.ofNat f) (f_cTurns (Int32.ofNat k)))]) (r := []) (t := (1, 0)) rfl rfl rfl rfl (cA_t hw ha) rfl rfl ⟨rfl, rfl⟩ (by omega) (s_cput hw ha (n := n) (w := 2) rfl (by omega) ?_)
        show Wp d 14 93 [some (.ref a), some (.int (Int32.ofNat n)), some (.int (Int32.ofNat k)), some (.int (Int32.ofNat c)), some (.int (Int32.ofNat f)), some (.int (f_cBeside (Int32.ofNat c) (Int32.ofNat f)))] [.int (h.2.2.1 (a + 1) (4 * n + 2))] (kwi h (a + 1) (4 * n + 2) (f_cTurned (Int32.ofNat f) (f_cTurns (Int32.ofNat k)))) Q
        refine Wp.seg 3 (pc1 := 2) (ls1 := [some (.ref a), some (.int ((Int32.ofNat n) + 1)), some (.int (Int32.ofNat k)), some (.int (Int32.ofNat c)), some (.int (Int32.ofNat f)), some (.int (f_cBeside (Int32.ofNat c) (Int32.ofNat f)))]) (st1 := []) rfl ?_
        exact (((hQ.2 c2).2 c3).1 c4)
      · refine Wp.seg 4 (pc1 := 71) (ls1 := [some (.ref a), some (.int (Int32.ofNat n)), some (.int (Int32.ofNat k)), some (.int (Int32.ofNat c)), some (.int (Int32.ofNat f)), some (.int (f_cBeside (Int32.ofNat c) (Int32.ofNat f)))]) (st1 := [.int (f_cBeside (Int32.ofNat c) (Int32.ofNat f)), .int (1), .int (Int32.ofNat n), .ref a]) rfl ?_
        refine Wp.invV (d2 := 0) (as := [.ref a, .int (Int32.ofNat n), .int (1), .int (f_cBeside (Int32.ofNat c) (Int32.ofNat f))]) (r := []) (t := (1, 0)) rfl rfl rfl rfl (cA_t hw ha) rfl rfl ⟨rfl, rfl⟩ (by omega) (s_cput hw ha (n := n) (w := 1) rfl (by omega) ?_)
        show Wp d 14 74 [some (.ref a), some (.int (Int32.ofNat n)), some (.int (Int32.ofNat k)), some (.int (Int32.ofNat c)), some (.int (Int32.ofNat f)), some (.int (f_cBeside (Int32.ofNat c) (Int32.ofNat f)))] [.int (h.2.2.1 (a + 1) (4 * n + 1))] (kwi h (a + 1) (4 * n + 1) (f_cBeside (Int32.ofNat c) (Int32.ofNat f))) Q
        refine Wp.seg 4 (pc1 := 2) (ls1 := [some (.ref a), some (.int ((Int32.ofNat n) + 1)), some (.int (Int32.ofNat k)), some (.int (Int32.ofNat c)), some (.int (Int32.ofNat f)), some (.int (f_cBeside (Int32.ofNat c) (Int32.ofNat f)))]) (st1 := []) rfl ?_
        exact (((hQ.2 c2).2 c3).2 c4)
set_option maxHeartbeats 4000000 in
theorem t_cwE {d : Nat} {Q : KO → Prop} {h : KH} (hw : WF h) {a : Nat} (ha : cityA a) {q : Nat} {z2 z3 z4 z5 : Option Value} (h1 : h.2.2.1 a 1 = Int32.ofNat q) (hd : 0 ≤ d) (hQ : Q (none, h)) : Wp d 14 2 [some (.ref a), some (.int (Int32.ofNat q)), z2, z3, z4, z5] [] h Q := by
  refine Wp.seg 2 (pc1 := 4) (ls1 := [some (.ref a), some (.int (Int32.ofNat q)), z2, z3, z4, z5]) (st1 := [.ref a, .int (Int32.ofNat q)]) rfl ?_
  refine Wp.gi (t := (1, 0)) rfl (cA_t hw ha) (Or.inl rfl) ?_
  rw [show h.2.2.1 a 1 = Int32.ofNat q from h1]
  refine Wp.if2 rfl (fun c1 => ?_) (fun c1 => absurd (Int32.le_refl _) c1)
  exact Wp.retv rfl rfl hQ
set_option maxHeartbeats 4000000 in
theorem t_cw {d : Nat} {Q : KO → Prop} {h : KH} {a : Nat} (hd : 1 ≤ d) (hQ : Wp d 14 2 ([some (.ref a), some (.int (0)), none, none, none, none]) [] h Q) : Cl d 14 [.ref a] h Q := by
  refine Cl.of (ls := [some (.ref a), none, none, none, none, none]) rfl rfl ?_
  refine Wp.seg 2 (pc1 := 2) (ls1 := [some (.ref a), some (.int (0)), none, none, none, none]) (st1 := []) rfl ?_
  exact hQ
theorem hI_w (h : KH) (b j : Nat) (x : Int32) : kwi h b j x = hI h (ku h.2.2.1 b (ku (h.2.2.1 b) j x)) := rfl
set_option maxHeartbeats 2000000 in
theorem s_cwL {d : Nat} {Q : KO → Prop} {a q : Nat} (ha : cityA a) (hd : 1 ≤ d) (hq : q ≤ 6) : ∀ (k n : Nat) (h : KH) (z2 z3 z4 z5 : Option Value), n + k = q → WF h → h.2.2.1 a 1 = Int32.ofNat q → (∀ j, j < q → handOK (cS h.2.2.1 a) j) →
    (∀ I, cS I a = walkL k n (cS h.2.2.1 a) → (∀ b, b ≠ a + 1 → I b = h.2.2.1 b) → Q (none, hI h I)) → Wp d 14 2 [some (.ref a), some (.int (Int32.ofNat n)), z2, z3, z4, z5] [] h Q
  | 0, n, h, z2, z3, z4, z5, hk, hw, h1, hh, hQ => by
    obtain rfl : n = q := hk
    exact t_cwE hw ha h1 (Nat.zero_le _) (hQ h.2.2.1 rfl (fun _ _ => rfl))
  | k + 1, n, h, z2, z3, z4, z5, hk, hw, h1, hh, hQ => by
    obtain ⟨kk, c, f, ch, g1, g2, g3, g4, g5, g6, g7, g8, g9⟩ := hh n (by omega)
    rw [show 11 + 4 * n + 0 = 11 + (4 * n + 0) by omega] at g6
    rw [show 11 + 4 * n + 1 = 11 + (4 * n + 1) by omega] at g7
    rw [show 11 + 4 * n + 2 = 11 + (4 * n + 2) by omega] at g8
    have g6' := g6
    have g7' := g7
    have g8' := g8
    rw [cS_hand] at g6' g7' g8'
    have e1 : Int32.ofNat n + 1 = Int32.ofNat (n + 1) := ofadd n 1
    have c3 : cS h.2.2.1 a 3 = h.2.2.1 a 3 := rfl
    have ej : wjS (cS h.2.2.1 a) n = 4 * c + f := by
      unfold wjS
      rw [show 11 + 4 * n + 1 = 11 + (4 * n + 1) by omega, show 11 + 4 * n + 2 = 11 + (4 * n + 2) by omega, g7, g8, clamp_ofNat (by omega), clamp_ofNat (by omega)]
    have et := kall1_ok (kall1_ok cE_N (i := c) g3) (i := f) g4
    simp only [Bool.or_eq_true, Bool.and_eq_true, decide_eq_true_eq, beq_iff_eq, decide_eq_decide] at et
    obtain ⟨et1, et2⟩ := et
    have eu := of_decide_eq_true (kall1_ok (kall1_ok cT_N (i := kk) (by omega)) (i := f) g4)
    have go : ∀ (j : Nat) (x : Int32) (y2 y3 y4 y5 : Option Value), walkS (cS h.2.2.1 a) n = ku (cS h.2.2.1 a) (11 + (4 * n + j)) x → Wp d 14 2 [some (.ref a), some (.int (Int32.ofNat n + 1)), y2, y3, y4, y5] [] (kwi h (a + 1) (4 * n + j) x) Q := by
      intro j x y2 y3 y4 y5 hx
      have ex : cS (ku h.2.2.1 (a + 1) (ku (h.2.2.1 (a + 1)) (4 * n + j) x)) a = walkS (cS h.2.2.1 a) n := by rw [cS_put, hx]
      rw [e1, hI_w]
      refine s_cwL ha hd hq k (n + 1) (hI h _) y2 y3 y4 y5 (by omega) hw ?_ (fun i hi => ?_) (fun I i1 i2 => ?_)
      · show ku h.2.2.1 (a + 1) _ a 1 = _
        rw [ku_n _ _ (by omega)]
        exact h1
      · show handOK (cS (ku h.2.2.1 (a + 1) (ku (h.2.2.1 (a + 1)) (4 * n + j) x)) a) i
        rw [ex]
        by_cases q2 : i = n
        · subst q2; exact walk_self (hh i hi)
        · exact walk_other q2 (hh i hi)
      · refine hQ I ?_ (fun b hb => ?_)
        · rw [i1]
          show walkL k (n + 1) (cS (ku h.2.2.1 (a + 1) (ku (h.2.2.1 (a + 1)) (4 * n + j) x)) a) = _
          rw [ex]
          rfl
        · rw [i2 b hb]
          exact ku_n _ _ hb
    have no : ¬ (0 ≤ kE.getD (4 * c + f) 0 ∧ (cS h.2.2.1 a (11 + 4 * n + 0) = 5 ∨ ((cS h.2.2.1 a 3) >>> ((kE.getD (4 * c + f) 0) &&& 31)) &&& 1 = 0)) → walkS (cS h.2.2.1 a) n = ku (cS h.2.2.1 a) (11 + (4 * n + 2)) (f_cTurned (Int32.ofNat f) (f_cTurns (Int32.ofNat kk))) := by
      intro hh2
      unfold walkS
      rw [ej, if_neg hh2, eu]
      unfold turnN
      rw [show 11 + 4 * n + 2 = 11 + (4 * n + 2) by omega, show 11 + 4 * n + 0 = 11 + (4 * n + 0) by omega, g8, g6]
    have yes : (0 ≤ kE.getD (4 * c + f) 0 ∧ (cS h.2.2.1 a (11 + 4 * n + 0) = 5 ∨ ((cS h.2.2.1 a 3) >>> ((kE.getD (4 * c + f) 0) &&& 31)) &&& 1 = 0)) → walkS (cS h.2.2.1 a) n = ku (cS h.2.2.1 a) (11 + (4 * n + 1)) (f_cBeside (Int32.ofNat c) (Int32.ofNat f)) := by
      intro hh2
      unfold walkS
      rw [ej, if_pos hh2]
      rcases et2 with et2 | ⟨et2, -⟩
      · exact absurd et2 (Int32.not_lt.mpr hh2.1)
      · rw [et2]
        rfl
    have g0 : cS h.2.2.1 a (11 + 4 * n + 0) = Int32.ofNat kk := by
      rw [show 11 + 4 * n + 0 = 11 + (4 * n + 0) by omega]
      exact g6
    refine t_cwB hw ha (q := q) (by omega) hq h1 g6' g7' g8' hd ⟨fun c1 => go 2 _ _ _ _ _ (no (fun z => Int32.not_le.mpr (et1.mp c1) z.1)), fun c1 => ?_⟩
    have p1 : ¬ kE.getD (4 * c + f) 0 < 0 := fun z => c1 (et1.mpr z)
    have p2 : f_cEdge (Int32.ofNat c) (Int32.ofNat f) = kE.getD (4 * c + f) 0 := by
      rcases et2 with et2 | ⟨-, et2⟩
      · exact absurd et2 p1
      · exact et2
    rw [p2]
    exact ⟨fun c2 => go 1 _ _ _ _ _ (yes ⟨Int32.not_lt.mp p1, Or.inl (g0.trans c2)⟩), fun c2 => ⟨fun c3' => go 2 _ _ _ _ _ (no (fun z => z.2.elim (fun w => c2 (g0.symm.trans w)) c3')), fun c3' => go 1 _ _ _ _ _ (yes ⟨Int32.not_lt.mp p1, Or.inr (Decidable.not_not.mp c3')⟩)⟩⟩
theorem s_cwalk {d : Nat} {Q : KO → Prop} {h : KH} {a q : Nat} (hw : WF h) (ha : cityA a) (hd : 1 ≤ d) (hq : q ≤ 6) (h1 : h.2.2.1 a 1 = Int32.ofNat q) (hh : ∀ j, j < q → handOK (cS h.2.2.1 a) j) (hQ : ∀ I, cS I a = walkL q 0 (cS h.2.2.1 a) → (∀ b, b ≠ a + 1 → I b = h.2.2.1 b) → Q (none, hI h I)) : Cl d 14 [.ref a] h Q :=
  t_cw hd (s_cwL ha hd hq q 0 h _ _ _ _ (by omega) hw h1 hh hQ)
