/-! KM: the reference, the cells that are shut -/
def kE : List Int32 := [0, 9, -1, -1, 1, 10, 0, -1, 2, 11, 1, -1, -1, 12, 2, -1, 3, 13, -1, 9, 4, 14, 3, 10, 5, 15, 4, 11, -1, 16, 5, 12, 6, -1, -1, 13, 7, -1, 6, 14, 8, -1, 7, 15, -1, -1, 8, 16]
def kN : List Int32 := [1, 4, -1, -4, 2, 5, 0, -3, 3, 6, 1, -2, 4, 7, 2, -1, 5, 8, 3, 0, 6, 9, 4, 1, 7, 10, 5, 2, 8, 11, 6, 3, 9, 12, 7, 4, 10, 13, 8, 5, 11, 14, 9, 6, 12, 15, 10, 7]
theorem kE_all : kall1 48 (fun j => kpb 0 182 [Int32.ofNat j / 4, Int32.ofNat j - Int32.ofNat j / 4 * 4] (kE.getD j 0)) = true := by decide +kernel
theorem kN_all : kall1 48 (fun j => kpb 0 183 [Int32.ofNat j / 4, Int32.ofNat j - Int32.ofNat j / 4 * 4] (kN.getD j 0)) = true := by decide +kernel
theorem s_edgeJ {d : Nat} {Q : KO → Prop} {h : KH} {j : Nat} (hj : j < 48) (hQ : Q (some (.int (kE.getD j 0)), h)) : Cl d 182 [.int (Int32.ofNat j / 4), .int (Int32.ofNat j - Int32.ofNat j / 4 * 4)] h Q := (kpv_ok (kpb_ok (kall1_ok kE_all hj)) hQ).depth (Nat.zero_le _)
theorem s_nextJ {d : Nat} {Q : KO → Prop} {h : KH} {j : Nat} (hj : j < 48) (hQ : Q (some (.int (kN.getD j 0)), h)) : Cl d 183 [.int (Int32.ofNat j / 4), .int (Int32.ofNat j - Int32.ofNat j / 4 * 4)] h Q := (kpv_ok (kpb_ok (kall1_ok kN_all hj)) hQ).depth (Nat.zero_le _)
theorem kE_cf : kall1 48 (fun j => decide (Int32.ofNat (j / 4) = Int32.ofNat j / 4) && decide (Int32.ofNat (j % 4) = Int32.ofNat j - Int32.ofNat j / 4 * 4)) = true := by decide +kernel
theorem s_edge {d : Nat} {Q : KO → Prop} {h : KH} {c f : Nat} (hc : c < 12) (hf : f < 4) (hQ : Q (some (.int (kE.getD (4 * c + f) 0)), h)) : Cl d 182 [.int (Int32.ofNat c), .int (Int32.ofNat f)] h Q := by
  have hj : 4 * c + f < 48 := by omega
  have e := kall1_ok kE_cf hj
  simp only [Bool.and_eq_true, decide_eq_true_eq] at e
  have e1 := e.1
  have e2 := e.2
  rw [show (4 * c + f) / 4 = c by omega] at e1
  rw [show (4 * c + f) % 4 = f by omega] at e2
  rw [e1, e2]
  exact s_edgeJ hj hQ
theorem s_next {d : Nat} {Q : KO → Prop} {h : KH} {c f : Nat} (hc : c < 12) (hf : f < 4) (hQ : Q (some (.int (kN.getD (4 * c + f) 0)), h)) : Cl d 183 [.int (Int32.ofNat c), .int (Int32.ofNat f)] h Q := by
  have hj : 4 * c + f < 48 := by omega
  have e := kall1_ok kE_cf hj
  simp only [Bool.and_eq_true, decide_eq_true_eq] at e
  have e1 := e.1
  have e2 := e.2
  rw [show (4 * c + f) / 4 = c by omega] at e1
  rw [show (4 * c + f) % 4 = f by omega] at e2
  rw [e1, e2]
  exact s_nextJ hj hQ
def onwS (c l x : Int32) (j : Nat) : Int32 := x ||| (if (c >>> ((Int32.ofNat j / 4) &&& 31)) &&& 1 = 1 ∧ 0 ≤ kE.getD j 0 ∧ (l >>> (kE.getD j 0 &&& 31)) &&& 1 = 0 then 1 <<< (kN.getD j 0 &&& 31) else 0)
def onwR (c l : Int32) : Nat → Int32 → Int32
  | 0, x => x
  | k + 1, x => onwR c l k (onwS c l x (47 - k))
def onw (c l : Int32) : Int32 := onwR c l 48 c
set_option maxHeartbeats 4000000 in
theorem t_onwB {d : Nat} {Q : KO → Prop} {h : KH} {c l x : Int32} {j : Nat} {z : Option Value} (hj : j < 48) (hd : 1 ≤ d) (hQ : (¬ ((c >>> (((Int32.ofNat j) / (4 : Int32)) &&& 31)) &&& (1 : Int32)) = (1 : Int32) → Wp d 184 4 ([some (.int (c)), some (.int (l)), some (.int (x ||| (0 : Int32))), some (.int ((Int32.ofNat j) + 1)), some (.int (-1))]) [] h Q) ∧ (¬ (¬ ((c >>> (((Int32.ofNat j) / (4 : Int32)) &&& 31)) &&& (1 : Int32)) = (1 : Int32)) → ((kE.getD j 0) < 0 → Wp d 184 4 ([some (.int (c)), some (.int (l)), some (.int (x ||| (0 : Int32))), some (.int ((Int32.ofNat j) + 1)), some (.int (kE.getD j 0))]) [] h Q) ∧ (¬ ((kE.getD j 0) < 0) → (¬ ((l >>> ((kE.getD j 0) &&& 31)) &&& (1 : Int32)) = 0 → Wp d 184 4 ([some (.int (c)), some (.int (l)), some (.int (x ||| (0 : Int32))), some (.int ((Int32.ofNat j) + 1)), some (.int (kE.getD j 0))]) [] h Q) ∧ (¬ (¬ ((l >>> ((kE.getD j 0) &&& 31)) &&& (1 : Int32)) = 0) → Wp d 184 4 ([some (.int (c)), some (.int (l)), some (.int (x ||| ((1 : Int32) <<< ((kN.getD j 0) &&& 31)))), some (.int ((Int32.ofNat j) + 1)), some (.int (kE.getD j 0))]) [] h Q)))) : Wp d 184 4 [some (.int (c)), some (.int (l)), some (.int (x)), some (.int (Int32.ofNat j)), z] [] h Q := by
  refine Wp.seg 2 (pc1 := 7) (ls1 := [some (.int (c)), some (.int (l)), some (.int (x)), some (.int (Int32.ofNat j)), z]) (st1 := [.int (48), .int (Int32.ofNat j)]) rfl ?_
  refine Wp.if2 rfl (fun c1 => absurd c1 (fun q => by have := (zle (x := 48) (m := 48) rfl (znat (n := j) (by omega))).mp q; omega)) (fun c1 => ?_)
  refine Wp.seg 3 (pc1 := 13) (ls1 := [some (.int (c)), some (.int (l)), some (.int (x)), some (.int (Int32.ofNat j)), z]) (st1 := [.int (4), .int (Int32.ofNat j), .int (c)]) rfl ?_
  refine Wp.div rfl (by decide) ?_
  refine Wp.seg 4 (pc1 := 18) (ls1 := [some (.int (c)), some (.int (l)), some (.int (x)), some (.int (Int32.ofNat j)), z]) (st1 := [.int (1), .int ((c >>> (((Int32.ofNat j) / (4 : Int32)) &&& 31)) &&& (1 : Int32))]) rfl ?_
  refine Wp.if2 rfl (fun (c2 : ¬ ((c >>> (((Int32.ofNat j) / (4 : Int32)) &&& 31)) &&& (1 : Int32)) = (1 : Int32)) => ?_) (fun (c2 : ¬ (¬ ((c >>> (((Int32.ofNat j) / (4 : Int32)) &&& 31)) &&& (1 : Int32)) = (1 : Int32))) => ?_)
  · refine Wp.seg 4 (pc1 := 39) (ls1 := [some (.int (c)), some (.int (l)), some (.int (x)), some (.int (Int32.ofNat j)), some (.int (-1))]) (st1 := [.int (-1), .int (x)]) rfl ?_
    refine Wp.if1 rfl (fun c3 => ?_) (fun c3 => absurd (show (-1 : Int32) < 0 by decide) c3)
    refine Wp.seg 5 (pc1 := 4) (ls1 := [some (.int (c)), some (.int (l)), some (.int (x ||| (0 : Int32))), some (.int ((Int32.ofNat j) + 1)), some (.int (-1))]) (st1 := []) rfl ?_
    exact (hQ.1 c2)
  · refine Wp.seg 2 (pc1 := 23) (ls1 := [some (.int (c)), some (.int (l)), some (.int (x)), some (.int (Int32.ofNat j)), z]) (st1 := [.int (4), .int (Int32.ofNat j)]) rfl ?_
    refine Wp.div rfl (by decide) ?_
    refine Wp.seg 2 (pc1 := 26) (ls1 := [some (.int (c)), some (.int (l)), some (.int (x)), some (.int (Int32.ofNat j)), z]) (st1 := [.int (4), .int (Int32.ofNat j), .int ((Int32.ofNat j) / (4 : Int32))]) rfl ?_
    refine Wp.rem rfl (by decide) ?_
    refine Wp.inv (d2 := 0) (as := [.int ((Int32.ofNat j) / (4 : Int32)), .int ((Int32.ofNat j) - (Int32.ofNat j) / (4 : Int32) * (4 : Int32))]) (r := []) rfl rfl rfl rfl rfl rfl (by omega) (s_edgeJ hj ?_)
    show Wp d 184 30 [some (.int (c)), some (.int (l)), some (.int (x)), some (.int (Int32.ofNat j)), z] [.int (kE.getD j 0)] h Q
    refine Wp.seg 4 (pc1 := 39) (ls1 := [some (.int (c)), some (.int (l)), some (.int (x)), some (.int (Int32.ofNat j)), some (.int (kE.getD j 0))]) (st1 := [.int (kE.getD j 0), .int (x)]) rfl ?_
    refine Wp.if1 rfl (fun (c4 : (kE.getD j 0) < 0) => ?_) (fun (c4 : ¬ ((kE.getD j 0) < 0)) => ?_)
    · refine Wp.seg 5 (pc1 := 4) (ls1 := [some (.int (c)), some (.int (l)), some (.int (x ||| (0 : Int32))), some (.int ((Int32.ofNat j) + 1)), some (.int (kE.getD j 0))]) (st1 := []) rfl ?_
      exact ((hQ.2 c2).1 c4)
    · refine Wp.seg 5 (pc1 := 48) (ls1 := [some (.int (c)), some (.int (l)), some (.int (x)), some (.int (Int32.ofNat j)), some (.int (kE.getD j 0))]) (st1 := [.int ((l >>> ((kE.getD j 0) &&& 31)) &&& (1 : Int32)), .int (x)]) rfl ?_
      refine Wp.if1 rfl (fun (c5 : ¬ ((l >>> ((kE.getD j 0) &&& 31)) &&& (1 : Int32)) = 0) => ?_) (fun (c5 : ¬ (¬ ((l >>> ((kE.getD j 0) &&& 31)) &&& (1 : Int32)) = 0)) => ?_)
      · refine Wp.seg 5 (pc1 := 4) (ls1 := [some (.int (c)), some (.int (l)), some (.int (x ||| (0 : Int32))), some (.int ((Int32.ofNat j) + 1)), some (.int (kE.getD j 0))]) (st1 := []) rfl ?_
        exact (((hQ.2 c2).2 c4).1 c5)
      · refine Wp.seg 3 (pc1 := 54) (ls1 := [some (.int (c)), some (.int (l)), some (.int (x)), some (.int (Int32.ofNat j)), some (.int (kE.getD j 0))]) (st1 := [.int (4), .int (Int32.ofNat j), .int (1), .int (x)]) rfl ?_
        refine Wp.div rfl (by decide) ?_
        refine Wp.seg 2 (pc1 := 57) (ls1 := [some (.int (c)), some (.int (l)), some (.int (x)), some (.int (Int32.ofNat j)), some (.int (kE.getD j 0))]) (st1 := [.int (4), .int (Int32.ofNat j), .int ((Int32.ofNat j) / (4 : Int32)), .int (1), .int (x)]) rfl ?_
        refine Wp.rem rfl (by decide) ?_
        refine Wp.inv (d2 := 0) (as := [.int ((Int32.ofNat j) / (4 : Int32)), .int ((Int32.ofNat j) - (Int32.ofNat j) / (4 : Int32) * (4 : Int32))]) (r := [.int (1), .int (x)]) rfl rfl rfl rfl rfl rfl (by omega) (s_nextJ hj ?_)
        show Wp d 184 61 [some (.int (c)), some (.int (l)), some (.int (x)), some (.int (Int32.ofNat j)), some (.int (kE.getD j 0))] [.int (kN.getD j 0), .int (1), .int (x)] h Q
        refine Wp.seg 6 (pc1 := 4) (ls1 := [some (.int (c)), some (.int (l)), some (.int (x ||| ((1 : Int32) <<< ((kN.getD j 0) &&& 31)))), some (.int ((Int32.ofNat j) + 1)), some (.int (kE.getD j 0))]) (st1 := []) rfl ?_
        exact (((hQ.2 c2).2 c4).2 c5)
set_option maxHeartbeats 4000000 in
theorem t_onwE {d : Nat} {Q : KO → Prop} {h : KH} {c l x : Int32} {z : Option Value} (hd : 0 ≤ d) (hQ : Q (some (.int (x)), h)) : Wp d 184 4 [some (.int (c)), some (.int (l)), some (.int (x)), some (.int (48)), z] [] h Q := by
  refine Wp.seg 2 (pc1 := 7) (ls1 := [some (.int (c)), some (.int (l)), some (.int (x)), some (.int (48)), z]) (st1 := [.int (48), .int (48)]) rfl ?_
  refine Wp.if2 rfl (fun c1 => ?_) (fun c1 => absurd (Int32.le_refl _) c1)
  refine Wp.seg 1 (pc1 := 75) (ls1 := [some (.int (c)), some (.int (l)), some (.int (x)), some (.int (48)), z]) (st1 := [.int (x)]) rfl ?_
  exact Wp.reti rfl rfl hQ
set_option maxHeartbeats 4000000 in
theorem t_onw {d : Nat} {Q : KO → Prop} {h : KH} {c l : Int32} (hd : 1 ≤ d) (hQ : Wp d 184 4 ([some (.int (c)), some (.int (l)), some (.int (c)), some (.int (0)), none]) [] h Q) : Cl d 184 [.int (c), .int (l)] h Q := by
  refine Cl.of (ls := [some (.int (c)), some (.int (l)), none, none, none]) rfl rfl ?_
  refine Wp.seg 4 (pc1 := 4) (ls1 := [some (.int (c)), some (.int (l)), some (.int (c)), some (.int (0)), none]) (st1 := []) rfl ?_
  exact hQ
theorem s_onwR {d : Nat} {Q : KO → Prop} {h : KH} (hd : 1 ≤ d) {c l : Int32} : ∀ (k : Nat) (x : Int32) (z : Option Value), k ≤ 48 → Q (some (.int (onwR c l k x)), h) → Wp d 184 4 [some (.int c), some (.int l), some (.int x), some (.int (Int32.ofNat (48 - k))), z] [] h Q
  | 0, x, z, _, hQ => t_onwE (Nat.zero_le _) hQ
  | k + 1, x, z, hk, hQ => by
    have hj : 48 - (k + 1) < 48 := by omega
    have ej : 48 - (k + 1) = 47 - k := by omega
    have step : ∀ (y : Int32) (z2 : Option Value), onwS c l x (47 - k) = y → Wp d 184 4 [some (.int c), some (.int l), some (.int y), some (.int (Int32.ofNat (47 - k) + 1)), z2] [] h Q := by
      intro y z2 hy
      have e1 : Int32.ofNat (47 - k) + 1 = Int32.ofNat (48 - k) := by
        rw [show (1 : Int32) = Int32.ofNat 1 from rfl, ← Int32.ofNat_add, show 47 - k + 1 = 48 - k by omega]
      rw [e1]
      refine s_onwR hd k y z2 (by omega) ?_
      rw [← hy]
      exact hQ
    rw [ej] at hj ⊢
    refine t_onwB hj hd ⟨fun c1 => step _ _ ?_, fun c1 => ⟨fun c2 => step _ _ ?_, fun c2 => ⟨fun c3 => step _ _ ?_, fun c3 => step _ _ ?_⟩⟩⟩
    · unfold onwS
      rw [if_neg (fun q => c1 q.1)]
    · unfold onwS
      rw [if_neg (fun q => (Int32.not_le.mpr c2) q.2.1)]
    · unfold onwS
      rw [if_neg (fun q => c3 q.2.2)]
    · unfold onwS
      rw [if_pos ⟨Decidable.not_not.mp c1, Int32.not_lt.mp c2, Decidable.not_not.mp c3⟩]
theorem s_onw {d : Nat} {Q : KO → Prop} {h : KH} (hd : 1 ≤ d) {c l : Int32} (hQ : Q (some (.int (onw c l)), h)) : Cl d 184 [.int c, .int l] h Q := t_onw hd (s_onwR hd 48 c none (Nat.le_refl _) hQ)
