/-! KM: the class, the edges that strokes tell; tables of kinds -/
set_option maxHeartbeats 4000000 in
theorem t_ceB {d : Nat} {Q : KO → Prop} {h : KH} {c j : Nat} {s x : Int32} (hj : j < 4) (hd : 1 ≤ d) (hQ : (((s >>> ((Int32.ofNat j) &&& 31)) &&& (1 : Int32)) = 0 → Wp d 29 4 ([some (.int (Int32.ofNat c)), some (.int (s)), some (.int (x)), some (.int ((Int32.ofNat j) + 1))]) [] h Q) ∧ (¬ (((s >>> ((Int32.ofNat j) &&& 31)) &&& (1 : Int32)) = 0) → ((f_cBeside (Int32.ofNat c) (Int32.ofNat j)) < 0 → Wp d 29 4 ([some (.int (Int32.ofNat c)), some (.int (s)), some (.int (x)), some (.int ((Int32.ofNat j) + 1))]) [] h Q) ∧ (¬ ((f_cBeside (Int32.ofNat c) (Int32.ofNat j)) < 0) → Wp d 29 4 ([some (.int (Int32.ofNat c)), some (.int (s)), some (.int (x ||| ((1 : Int32) <<< ((f_cEdge (Int32.ofNat c) (Int32.ofNat j)) &&& 31)))), some (.int ((Int32.ofNat j) + 1))]) [] h Q))) : Wp d 29 4 [some (.int (Int32.ofNat c)), some (.int (s)), some (.int (x)), some (.int (Int32.ofNat j))] [] h Q := by
  refine Wp.seg 2 (pc1 := 6) (ls1 := [some (.int (Int32.ofNat c)), some (.int (s)), some (.int (x)), some (.int (Int32.ofNat j))]) (st1 := [.int (4), .int (Int32.ofNat j)]) rfl ?_
  refine Wp.if2 rfl (fun c1 => absurd c1 (fun c => by have := (ole (a := 4) (by omega) (by omega)).mp c; omega)) (fun c1 => ?_)
  refine Wp.seg 5 (pc1 := 14) (ls1 := [some (.int (Int32.ofNat c)), some (.int (s)), some (.int (x)), some (.int (Int32.ofNat j))]) (st1 := [.int ((s >>> ((Int32.ofNat j) &&& 31)) &&& (1 : Int32))]) rfl ?_
  refine Wp.if1 rfl (fun (c2 : ((s >>> ((Int32.ofNat j) &&& 31)) &&& (1 : Int32)) = 0) => ?_) (fun (c2 : ¬ (((s >>> ((Int32.ofNat j) &&& 31)) &&& (1 : Int32)) = 0)) => ?_)
  · refine Wp.seg 2 (pc1 := 4) (ls1 := [some (.int (Int32.ofNat c)), some (.int (s)), some (.int (x)), some (.int ((Int32.ofNat j) + 1))]) (st1 := []) rfl ?_
    exact (hQ.1 c2)
  · refine Wp.seg 2 (pc1 := 19) (ls1 := [some (.int (Int32.ofNat c)), some (.int (s)), some (.int (x)), some (.int (Int32.ofNat j))]) (st1 := [.int (Int32.ofNat j), .int (Int32.ofNat c)]) rfl ?_
    refine Wp.inv (d2 := 0) (as := [.int (Int32.ofNat c), .int (Int32.ofNat j)]) (r := []) rfl rfl rfl rfl rfl rfl (by omega) (s_cBeside (Nat.le_refl _) ?_)
    show Wp d 29 22 [some (.int (Int32.ofNat c)), some (.int (s)), some (.int (x)), some (.int (Int32.ofNat j))] [.int (f_cBeside (Int32.ofNat c) (Int32.ofNat j))] h Q
    refine Wp.if1 rfl (fun (c3 : (f_cBeside (Int32.ofNat c) (Int32.ofNat j)) < 0) => ?_) (fun (c3 : ¬ ((f_cBeside (Int32.ofNat c) (Int32.ofNat j)) < 0)) => ?_)
    · refine Wp.seg 2 (pc1 := 4) (ls1 := [some (.int (Int32.ofNat c)), some (.int (s)), some (.int (x)), some (.int ((Int32.ofNat j) + 1))]) (st1 := []) rfl ?_
      exact ((hQ.2 c2).1 c3)
    · refine Wp.seg 4 (pc1 := 29) (ls1 := [some (.int (Int32.ofNat c)), some (.int (s)), some (.int (x)), some (.int (Int32.ofNat j))]) (st1 := [.int (Int32.ofNat j), .int (Int32.ofNat c), .int (1), .int (x)]) rfl ?_
      refine Wp.inv (d2 := 0) (as := [.int (Int32.ofNat c), .int (Int32.ofNat j)]) (r := [.int (1), .int (x)]) rfl rfl rfl rfl rfl rfl (by omega) (s_cEdge (Nat.le_refl _) ?_)
      show Wp d 29 32 [some (.int (Int32.ofNat c)), some (.int (s)), some (.int (x)), some (.int (Int32.ofNat j))] [.int (f_cEdge (Int32.ofNat c) (Int32.ofNat j)), .int (1), .int (x)] h Q
      refine Wp.seg 5 (pc1 := 4) (ls1 := [some (.int (Int32.ofNat c)), some (.int (s)), some (.int (x ||| ((1 : Int32) <<< ((f_cEdge (Int32.ofNat c) (Int32.ofNat j)) &&& 31)))), some (.int ((Int32.ofNat j) + 1))]) (st1 := []) rfl ?_
      exact ((hQ.2 c2).2 c3)
set_option maxHeartbeats 4000000 in
theorem t_ceE {d : Nat} {Q : KO → Prop} {h : KH} {c : Nat} {s x : Int32} (hd : 0 ≤ d) (hQ : Q (some (.int (x)), h)) : Wp d 29 4 [some (.int (Int32.ofNat c)), some (.int (s)), some (.int (x)), some (.int (4))] [] h Q := by
  refine Wp.seg 2 (pc1 := 6) (ls1 := [some (.int (Int32.ofNat c)), some (.int (s)), some (.int (x)), some (.int (4))]) (st1 := [.int (4), .int (4)]) rfl ?_
  refine Wp.if2 rfl (fun c1 => ?_) (fun c1 => absurd (Int32.le_refl _) c1)
  refine Wp.seg 1 (pc1 := 42) (ls1 := [some (.int (Int32.ofNat c)), some (.int (s)), some (.int (x)), some (.int (4))]) (st1 := [.int (x)]) rfl ?_
  exact Wp.reti rfl rfl hQ
set_option maxHeartbeats 4000000 in
theorem t_ce {d : Nat} {Q : KO → Prop} {h : KH} {c : Nat} {s : Int32} (hd : 1 ≤ d) (hQ : Wp d 29 4 ([some (.int (Int32.ofNat c)), some (.int (s)), some (.int (0)), some (.int (0))]) [] h Q) : Cl d 29 [.int (Int32.ofNat c), .int (s)] h Q := by
  refine Cl.of (ls := [some (.int (Int32.ofNat c)), some (.int (s)), none, none]) rfl rfl ?_
  refine Wp.seg 4 (pc1 := 4) (ls1 := [some (.int (Int32.ofNat c)), some (.int (s)), some (.int (0)), some (.int (0))]) (st1 := []) rfl ?_
  exact hQ
theorem or_0 (x : Int32) : x ||| 0 = x := bt_ext fun i _ => by rw [bt_or, bt_0, Bool.or_false]
theorem s_ceL {d : Nat} {Q : KO → Prop} {h : KH} (hd : 1 ≤ d) {c : Nat} {s : Int32} (hc : c < 12) : ∀ (k : Nat) (x : Int32), k ≤ 4 → Q (some (.int (stR s c k x)), h) → Wp d 29 4 [some (.int (Int32.ofNat c)), some (.int s), some (.int x), some (.int (Int32.ofNat (4 - k)))] [] h Q
  | 0, x, _, hQ => t_ceE (Nat.zero_le _) hQ
  | k + 1, x, hk, hQ => by
    have ej : 4 - (k + 1) = 3 - k := by omega
    have step : ∀ y : Int32, stS s c x (3 - k) = y → Wp d 29 4 [some (.int (Int32.ofNat c)), some (.int s), some (.int y), some (.int (Int32.ofNat (3 - k) + 1))] [] h Q := by
      intro y hy
      have e1 : Int32.ofNat (3 - k) + 1 = Int32.ofNat (4 - k) := by
        have := ofadd (3 - k) 1
        rw [show 3 - k + 1 = 4 - k by omega] at this
        exact this
      rw [e1]
      refine s_ceL hd hc k y (by omega) ?_
      rw [← hy]
      exact hQ
    rw [ej]
    have et := kall1_ok (kall1_ok cE_N (i := c) hc) (i := 3 - k) (by omega)
    simp only [Bool.or_eq_true, Bool.and_eq_true, decide_eq_true_eq, beq_iff_eq, decide_eq_decide] at et
    obtain ⟨et1, et2⟩ := et
    have hb1 := bt_low (x := s) (k := 3 - k) (by omega)
    have hb0 := bt_low0 (x := s) (k := 3 - k) (by omega)
    refine t_ceB (by omega) hd ⟨fun c1 => step _ ?_, fun c1 => ⟨fun c2 => step _ ?_, fun c2 => step _ ?_⟩⟩
    · unfold stS
      rw [if_neg (fun q => by have h1 := hb1.mp q.1; rw [hb0.mp c1] at h1; cases h1), or_0]
    · unfold stS
      rw [if_neg (fun q => (Int32.not_le.mpr (et1.mp c2)) q.2), or_0]
    · have p1 : ¬ kE.getD (4 * c + (3 - k)) 0 < 0 := fun z => c2 (et1.mpr z)
      have p2 : f_cEdge (Int32.ofNat c) (Int32.ofNat (3 - k)) = kE.getD (4 * c + (3 - k)) 0 := by
        rcases et2 with et2 | ⟨-, et2⟩
        · exact absurd et2 p1
        · exact et2
      have p3 : bt s (3 - k) = true := by
        cases e : bt s (3 - k) with
        | true => rfl
        | false => exact absurd (hb0.mpr e) c1
      unfold stS
      rw [if_pos ⟨hb1.mpr p3, Int32.not_lt.mp p1⟩, p2]
theorem s_cedges {d : Nat} {Q : KO → Prop} {h : KH} (hd : 1 ≤ d) {c : Nat} {s : Int32} (hc : c < 12) (hQ : Q (some (.int (stE s c)), h)) : Cl d 29 [.int (Int32.ofNat c), .int s] h Q := t_ce hd (s_ceL hd hc 4 0 (Nat.le_refl _) hQ)
theorem cnt_pop : kall1 4096 (fun n => decide (f_bitCount (Int32.ofNat n) = popS (Int32.ofNat n))) = true := by decide +kernel
theorem pop_shut (c l : Int32) : f_bitCount (shutS c l) = popS (shutS c l) := by
  unfold shutS
  obtain ⟨n, hn, e⟩ := and4095 (itS l 12 (1 <<< (c &&& 31)) ^^^ (-1))
  rw [e]
  exact of_decide_eq_true (kall1_ok cnt_pop hn)
def g_strokesOf (K F : Int32) : Int32 := if K = 1 then ((1 : Int32) <<< ((F) &&& 31)) ||| ((1 : Int32) <<< ((((F) + (2 : Int32)) - ((F) + (2 : Int32)) / (4 : Int32) * (4 : Int32)) &&& 31)) else if K = 2 then (15 : Int32) &&& (((1 : Int32) <<< ((((F) + (2 : Int32)) - ((F) + (2 : Int32)) / (4 : Int32) * (4 : Int32)) &&& 31)) ^^^ (-1 : Int32)) else if K = 3 then ((15 : Int32) &&& (((1 : Int32) <<< ((((F) + (2 : Int32)) - ((F) + (2 : Int32)) / (4 : Int32) * (4 : Int32)) &&& 31)) ^^^ (-1 : Int32))) &&& (((1 : Int32) <<< ((F) &&& 31)) ^^^ (-1 : Int32)) else if K = 4 then (1 : Int32) <<< ((F) &&& 31) else if K = 5 then (15 : Int32) else (1 : Int32) <<< ((F) &&& 31)
theorem g_strokesOf_eq (S : Nat → Int32) (n : Nat) : f_strokesOf S n = g_strokesOf (S (11 + 4 * n + 0)) (S (11 + 4 * n + 2)) := rfl
def g_costsOf (K F : Int32) : Int32 := if K = 1 then (2 : Int32) else if K = 2 then (3 : Int32) else if K = 3 then (2 : Int32) else if K = 4 then (0 : Int32) else if K = 5 then (0 : Int32) else (1 : Int32)
theorem g_costsOf_eq (S : Nat → Int32) (n : Nat) : f_costsOf S n = g_costsOf (S (11 + 4 * n + 0)) (S (11 + 4 * n + 2)) := rfl
def g_doesRub (K F : Int32) : Int32 := if (K) < (4 : Int32) then (0 : Int32) else (1 : Int32)
theorem g_doesRub_eq (S : Nat → Int32) (n : Nat) : f_doesRub S n = g_doesRub (S (11 + 4 * n + 0)) (S (11 + 4 * n + 2)) := rfl
theorem kinds_ok : kall1 6 (fun k => kall1 4 (fun f => decide (k = 0) || (decide (g_strokesOf (Int32.ofNat k) (Int32.ofNat f) = f_cStrokes (Int32.ofNat k) (Int32.ofNat f)) && decide (g_costsOf (Int32.ofNat k) (Int32.ofNat f) = f_cCosts (Int32.ofNat k)) && (decide (g_doesRub (Int32.ofNat k) (Int32.ofNat f) = 0) == decide (f_cUnder (Int32.ofNat k) 4 = 0)) && decide (f_turnsBy (Int32.ofNat k) = f_cTurns (Int32.ofNat k))))) = true := by decide +kernel
theorem under_ok : kall1 6 (fun k => kall1 6 (fun o => decide (k = 0) || decide (f_isUnder (Int32.ofNat k) (Int32.ofNat o) = f_cUnder (Int32.ofNat k) (Int32.ofNat o)))) = true := by decide +kernel
