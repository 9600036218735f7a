/-! KM: the class, a hand obeys -/
theorem under01 (a b : Int32) : kretok (kmrc 34) (f_cUnder a b) = true := by
  have h : f_cUnder a b = 0 ∨ f_cUnder a b = 1 := by
    unfold f_cUnder
    repeat' split
    all_goals first | exact Or.inl rfl | exact Or.inr rfl
  rcases h with h | h <;> rw [h] <;> rfl
def f_cRubs (v : Int32) : Int32 := f_cUnder v (4 : Int32)
set_option maxHeartbeats 4000000 in
theorem s_cRubs {d : Nat} {Q : KO → Prop} {h : KH} {v : Int32} (hd : 1 ≤ d) (hQ : Q (some (.int (f_cRubs v)), h)) : Cl d 34 [.int (v)] h Q := by
  refine Cl.of (ls := [some (.int (v))]) rfl rfl ?_
  refine Wp.seg 2 (pc1 := 2) (ls1 := [some (.int (v))]) (st1 := [.int (4), .int (v)]) rfl ?_
  refine Wp.inv (d2 := 0) (as := [.int (v), .int (4)]) (r := []) rfl rfl rfl rfl rfl rfl (by omega) (s_cUnder (Nat.le_refl _) ?_)
  show Wp d 34 5 [some (.int (v))] [.int (f_cUnder v (4 : Int32))] h Q
  exact Wp.reti rfl (under01 _ _) (by unfold f_cRubs at hQ; exact hQ)
set_option maxHeartbeats 4000000 in
theorem t_obey {d : Nat} {Q : KO → Prop} {h : KH} (hw : WF h) {a : Nat} (ha : cityA a) {n k c f : Nat} {w y : Int32} (hn : n < 6) (hc2 : c < 12) (hk : h.2.2.1 (a + 1) (4 * n + 0) = Int32.ofNat k) (hc : h.2.2.1 (a + 1) (4 * n + 1) = Int32.ofNat c) (hf : h.2.2.1 (a + 1) (4 * n + 2) = Int32.ofNat f) (hy : h.2.2.1 (a + 1) (4 * n + 3) = y) (hd : 2 ≤ d) (hQ : (¬ w = (1 : Int32) → (w = (2 : Int32) → Q (none, kwi h a 3 ((h.2.2.1 a 3) &&& ((stE (f_cStrokes (Int32.ofNat k) (Int32.ofNat f)) c) ^^^ (-1 : Int32))))) ∧ (¬ (w = (2 : Int32)) → ((f_cRubs (Int32.ofNat k)) = 0 → (y < (f_cCosts (Int32.ofNat k)) → Q (none, h)) ∧ (¬ (y < (f_cCosts (Int32.ofNat k))) → Q (none, kwi (kwi h (a + 1) (4 * n + 3) (y - (f_cCosts (Int32.ofNat k)))) a 3 ((h.2.2.1 a 3) ||| (stE (f_cStrokes (Int32.ofNat k) (Int32.ofNat f)) c))))) ∧ (¬ ((f_cRubs (Int32.ofNat k)) = 0) → Q (none, kwi h a 3 ((h.2.2.1 a 3) &&& ((stE (f_cStrokes (Int32.ofNat k) (Int32.ofNat f)) c) ^^^ (-1 : Int32))))))) ∧ (¬ (¬ w = (1 : Int32)) → Q (none, h))) : Cl d 16 [.ref a, .int (Int32.ofNat n), .int (w)] h Q := by
  refine Cl.of (ls := [some (.ref a), some (.int (Int32.ofNat n)), some (.int (w)), none, none, none]) rfl rfl ?_
  refine Wp.seg 2 (pc1 := 2) (ls1 := [some (.ref a), some (.int (Int32.ofNat n)), some (.int (w)), none, none, none]) (st1 := [.int (1), .int (w)]) rfl ?_
  refine Wp.if2 rfl (fun (c1 : ¬ w = (1 : Int32)) => ?_) (fun (c1 : ¬ (¬ w = (1 : Int32))) => ?_)
  · refine Wp.seg 3 (pc1 := 9) (ls1 := [some (.ref a), some (.int (Int32.ofNat n)), some (.int (w)), none, none, none]) (st1 := [.int (0), .int (Int32.ofNat n), .ref a]) rfl ?_
    refine Wp.invV (d2 := 0) (as := [.ref a, .int (Int32.ofNat n), .int (0)]) (r := []) (t := (1, 0)) rfl rfl rfl rfl (cA_t hw ha) rfl rfl ⟨rfl, rfl⟩ (by omega) (s_cget hw ha (n := n) (w := 0) rfl (by omega) hk ?_)
    show Wp d 16 12 [some (.ref a), some (.int (Int32.ofNat n)), some (.int (w)), none, none, none] [.int (Int32.ofNat k)] h Q
    refine Wp.seg 4 (pc1 := 16) (ls1 := [some (.ref a), some (.int (Int32.ofNat n)), some (.int (w)), some (.int (Int32.ofNat k)), none, none]) (st1 := [.int (1), .int (Int32.ofNat n), .ref a]) rfl ?_
    refine Wp.invV (d2 := 0) (as := [.ref a, .int (Int32.ofNat n), .int (1)]) (r := []) (t := (1, 0)) rfl rfl rfl rfl (cA_t hw ha) rfl rfl ⟨rfl, rfl⟩ (by omega) (s_cget hw ha (n := n) (w := 1) rfl (by omega) hc ?_)
    show Wp d 16 19 [some (.ref a), some (.int (Int32.ofNat n)), some (.int (w)), some (.int (Int32.ofNat k)), none, none] [.int (Int32.ofNat c)] h Q
    refine Wp.seg 4 (pc1 := 23) (ls1 := [some (.ref a), some (.int (Int32.ofNat n)), some (.int (w)), some (.int (Int32.ofNat k)), none, none]) (st1 := [.int (2), .int (Int32.ofNat n), .ref a, .int (Int32.ofNat k), .int (Int32.ofNat c)]) rfl ?_
    refine Wp.invV (d2 := 0) (as := [.ref a, .int (Int32.ofNat n), .int (2)]) (r := [.int (Int32.ofNat k), .int (Int32.ofNat c)]) (t := (1, 0)) rfl rfl rfl rfl (cA_t hw ha) rfl rfl ⟨rfl, rfl⟩ (by omega) (s_cget hw ha (n := n) (w := 2) rfl (by omega) hf ?_)
    show Wp d 16 26 [some (.ref a), some (.int (Int32.ofNat n)), some (.int (w)), some (.int (Int32.ofNat k)), none, none] [.int (Int32.ofNat f), .int (Int32.ofNat k), .int (Int32.ofNat c)] h Q
    refine Wp.inv (d2 := 0) (as := [.int (Int32.ofNat k), .int (Int32.ofNat f)]) (r := [.int (Int32.ofNat c)]) rfl rfl rfl rfl rfl rfl (by omega) (s_cStrokes (Nat.le_refl _) ?_)
    show Wp d 16 29 [some (.ref a), some (.int (Int32.ofNat n)), some (.int (w)), some (.int (Int32.ofNat k)), none, none] [.int (f_cStrokes (Int32.ofNat k) (Int32.ofNat f)), .int (Int32.ofNat c)] h Q
    refine Wp.inv (d2 := 1) (as := [.int (Int32.ofNat c), .int (f_cStrokes (Int32.ofNat k) (Int32.ofNat f))]) (r := []) rfl rfl rfl rfl rfl rfl (by omega) (s_cedges (Nat.le_refl _) hc2 ?_)
    show Wp d 16 32 [some (.ref a), some (.int (Int32.ofNat n)), some (.int (w)), some (.int (Int32.ofNat k)), none, none] [.int (stE (f_cStrokes (Int32.ofNat k) (Int32.ofNat f)) c)] h Q
    refine Wp.seg 3 (pc1 := 36) (ls1 := [some (.ref a), some (.int (Int32.ofNat n)), some (.int (w)), some (.int (Int32.ofNat k)), some (.int (stE (f_cStrokes (Int32.ofNat k) (Int32.ofNat f)) c)), none]) (st1 := [.int (2), .int (w)]) rfl ?_
    refine Wp.if2 rfl (fun (c2 : w = (2 : Int32)) => ?_) (fun (c2 : ¬ (w = (2 : Int32))) => ?_)
    · refine Wp.seg 2 (pc1 := 48) (ls1 := [some (.ref a), some (.int (Int32.ofNat n)), some (.int (w)), some (.int (Int32.ofNat k)), some (.int (stE (f_cStrokes (Int32.ofNat k) (Int32.ofNat f)) c)), none]) (st1 := [.ref a, .ref a]) rfl ?_
      refine Wp.gi (t := (1, 0)) rfl (cA_t hw ha) (Or.inl rfl) ?_
      refine Wp.seg 4 (pc1 := 56) (ls1 := [some (.ref a), some (.int (Int32.ofNat n)), some (.int (w)), some (.int (Int32.ofNat k)), some (.int (stE (f_cStrokes (Int32.ofNat k) (Int32.ofNat f)) c)), none]) (st1 := [.int ((h.2.2.1 a 3) &&& ((stE (f_cStrokes (Int32.ofNat k) (Int32.ofNat f)) c) ^^^ (-1 : Int32))), .ref a]) rfl ?_
      refine Wp.pi (t := (1, 0)) rfl (cA_t hw ha) (Or.inl rfl) ?_
      exact Wp.retv rfl rfl ((hQ.1 c1).1 c2)
    · refine Wp.seg 1 (pc1 := 40) (ls1 := [some (.ref a), some (.int (Int32.ofNat n)), some (.int (w)), some (.int (Int32.ofNat k)), some (.int (stE (f_cStrokes (Int32.ofNat k) (Int32.ofNat f)) c)), none]) (st1 := [.int (Int32.ofNat k)]) rfl ?_
      refine Wp.inv (d2 := 1) (as := [.int (Int32.ofNat k)]) (r := []) rfl rfl rfl rfl rfl rfl (by omega) (s_cRubs (Nat.le_refl _) ?_)
      show Wp d 16 43 [some (.ref a), some (.int (Int32.ofNat n)), some (.int (w)), some (.int (Int32.ofNat k)), some (.int (stE (f_cStrokes (Int32.ofNat k) (Int32.ofNat f)) c)), none] [.int (f_cRubs (Int32.ofNat k))] h Q
      refine Wp.if1 rfl (fun (c3 : (f_cRubs (Int32.ofNat k)) = 0) => ?_) (fun (c3 : ¬ ((f_cRubs (Int32.ofNat k)) = 0)) => ?_)
      · refine Wp.seg 3 (pc1 := 63) (ls1 := [some (.ref a), some (.int (Int32.ofNat n)), some (.int (w)), some (.int (Int32.ofNat k)), some (.int (stE (f_cStrokes (Int32.ofNat k) (Int32.ofNat f)) c)), none]) (st1 := [.int (3), .int (Int32.ofNat n), .ref a]) rfl ?_
        refine Wp.invV (d2 := 0) (as := [.ref a, .int (Int32.ofNat n), .int (3)]) (r := []) (t := (1, 0)) rfl rfl rfl rfl (cA_t hw ha) rfl rfl ⟨rfl, rfl⟩ (by omega) (s_cget hw ha (n := n) (w := 3) rfl (by omega) hy ?_)
        show Wp d 16 66 [some (.ref a), some (.int (Int32.ofNat n)), some (.int (w)), some (.int (Int32.ofNat k)), some (.int (stE (f_cStrokes (Int32.ofNat k) (Int32.ofNat f)) c)), none] [.int (y)] h Q
        refine Wp.seg 3 (pc1 := 71) (ls1 := [some (.ref a), some (.int (Int32.ofNat n)), some (.int (w)), some (.int (Int32.ofNat k)), some (.int (stE (f_cStrokes (Int32.ofNat k) (Int32.ofNat f)) c)), some (.int (y))]) (st1 := [.int (Int32.ofNat k), .int (y)]) rfl ?_
        refine Wp.inv (d2 := 0) (as := [.int (Int32.ofNat k)]) (r := [.int (y)]) rfl rfl rfl rfl rfl rfl (by omega) (s_cCosts (Nat.le_refl _) ?_)
        show Wp d 16 74 [some (.ref a), some (.int (Int32.ofNat n)), some (.int (w)), some (.int (Int32.ofNat k)), some (.int (stE (f_cStrokes (Int32.ofNat k) (Int32.ofNat f)) c)), some (.int (y))] [.int (f_cCosts (Int32.ofNat k)), .int (y)] h Q
        refine Wp.if2 rfl (fun (c4 : y < (f_cCosts (Int32.ofNat k))) => ?_) (fun (c4 : ¬ (y < (f_cCosts (Int32.ofNat k)))) => ?_)
        · exact Wp.retv rfl rfl ((((hQ.1 c1).2 c2).1 c3).1 c4)
        · refine Wp.seg 5 (pc1 := 83) (ls1 := [some (.ref a), some (.int (Int32.ofNat n)), some (.int (w)), some (.int (Int32.ofNat k)), some (.int (stE (f_cStrokes (Int32.ofNat k) (Int32.ofNat f)) c)), some (.int (y))]) (st1 := [.int (Int32.ofNat k), .int (y), .int (3), .int (Int32.ofNat n), .ref a]) rfl ?_
          refine Wp.inv (d2 := 0) (as := [.int (Int32.ofNat k)]) (r := [.int (y), .int (3), .int (Int32.ofNat n), .ref a]) rfl rfl rfl rfl rfl rfl (by omega) (s_cCosts (Nat.le_refl _) ?_)
          show Wp d 16 86 [some (.ref a), some (.int (Int32.ofNat n)), some (.int (w)), some (.int (Int32.ofNat k)), some (.int (stE (f_cStrokes (Int32.ofNat k) (Int32.ofNat f)) c)), some (.int (y))] [.int (f_cCosts (Int32.ofNat k)), .int (y), .int (3), .int (Int32.ofNat n), .ref a] h Q
          refine Wp.seg 1 (pc1 := 87) (ls1 := [some (.ref a), some (.int (Int32.ofNat n)), some (.int (w)), some (.int (Int32.ofNat k)), some (.int (stE (f_cStrokes (Int32.ofNat k) (Int32.ofNat f)) c)), some (.int (y))]) (st1 := [.int (y - (f_cCosts (Int32.ofNat k))), .int (3), .int (Int32.ofNat n), .ref a]) rfl ?_
          refine Wp.invV (d2 := 0) (as := [.ref a, .int (Int32.ofNat n), .int (3), .int (y - (f_cCosts (Int32.ofNat k)))]) (r := []) (t := (1, 0)) rfl rfl rfl rfl (cA_t hw ha) rfl rfl ⟨rfl, rfl⟩ (by omega) (s_cput hw ha (n := n) (w := 3) rfl (by omega) ?_)
          show Wp d 16 90 [some (.ref a), some (.int (Int32.ofNat n)), some (.int (w)), some (.int (Int32.ofNat k)), some (.int (stE (f_cStrokes (Int32.ofNat k) (Int32.ofNat f)) c)), some (.int (y))] [.int (h.2.2.1 (a + 1) (4 * n + 3))] (kwi h (a + 1) (4 * n + 3) (y - (f_cCosts (Int32.ofNat k)))) Q
          refine Wp.seg 3 (pc1 := 93) (ls1 := [some (.ref a), some (.int (Int32.ofNat n)), some (.int (w)), some (.int (Int32.ofNat k)), some (.int (stE (f_cStrokes (Int32.ofNat k) (Int32.ofNat f)) c)), some (.int (y))]) (st1 := [.ref a, .ref a]) rfl ?_
          refine Wp.gi (t := (1, 0)) rfl (cA_t hw ha) (Or.inl rfl) ?_
          rw [show (kwi h (a + 1) (4 * n + 3) (y - (f_cCosts (Int32.ofNat k)))).2.2.1 a 3 = h.2.2.1 a 3 from congrFun (ku_n (k := a + 1) (j := a) h.2.2.1 _ (by omega)) 3]
          refine Wp.seg 2 (pc1 := 99) (ls1 := [some (.ref a), some (.int (Int32.ofNat n)), some (.int (w)), some (.int (Int32.ofNat k)), some (.int (stE (f_cStrokes (Int32.ofNat k) (Int32.ofNat f)) c)), some (.int (y))]) (st1 := [.int ((h.2.2.1 a 3) ||| (stE (f_cStrokes (Int32.ofNat k) (Int32.ofNat f)) c)), .ref a]) rfl ?_
          refine Wp.pi (t := (1, 0)) rfl (cA_t hw ha) (Or.inl rfl) ?_
          exact Wp.retv rfl rfl ((((hQ.1 c1).2 c2).1 c3).2 c4)
      · refine Wp.seg 2 (pc1 := 48) (ls1 := [some (.ref a), some (.int (Int32.ofNat n)), some (.int (w)), some (.int (Int32.ofNat k)), some (.int (stE (f_cStrokes (Int32.ofNat k) (Int32.ofNat f)) c)), none]) (st1 := [.ref a, .ref a]) rfl ?_
        refine Wp.gi (t := (1, 0)) rfl (cA_t hw ha) (Or.inl rfl) ?_
        refine Wp.seg 4 (pc1 := 56) (ls1 := [some (.ref a), some (.int (Int32.ofNat n)), some (.int (w)), some (.int (Int32.ofNat k)), some (.int (stE (f_cStrokes (Int32.ofNat k) (Int32.ofNat f)) c)), none]) (st1 := [.int ((h.2.2.1 a 3) &&& ((stE (f_cStrokes (Int32.ofNat k) (Int32.ofNat f)) c) ^^^ (-1 : Int32))), .ref a]) rfl ?_
        refine Wp.pi (t := (1, 0)) rfl (cA_t hw ha) (Or.inl rfl) ?_
        exact Wp.retv rfl rfl (((hQ.1 c1).2 c2).2 c3)
  · exact Wp.retv rfl rfl (hQ.2 c1)
