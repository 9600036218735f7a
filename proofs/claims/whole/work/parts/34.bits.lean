/-! sets as bits; twelve steps are enough -/
def bt (x : Int32) (i : Nat) : Bool := x.toBitVec.getLsbD i
theorem bt_or (x y : Int32) (i : Nat) : bt (x ||| y) i = (bt x i || bt y i) := by
  unfold bt
  rw [Int32.toBitVec_or, BitVec.getLsbD_or]
theorem bt_and (x y : Int32) (i : Nat) : bt (x &&& y) i = (bt x i && bt y i) := by
  unfold bt
  rw [Int32.toBitVec_and, BitVec.getLsbD_and]
theorem bt_0 (i : Nat) : bt 0 i = false := by
  unfold bt
  simp
theorem bt_ext {x y : Int32} (h : ∀ i, i < 32 → bt x i = bt y i) : x = y := by
  apply Int32.toBitVec_inj.mp
  apply BitVec.eq_of_getLsbD_eq
  intro i hi
  exact h i hi
theorem bt_hi {x : Int32} {i : Nat} (h : 32 ≤ i) : bt x i = false := by
  unfold bt
  exact BitVec.getLsbD_of_ge _ _ h
theorem bt_one : kall1 32 (fun k => kall1 32 (fun i => decide (bt ((1 : Int32) <<< (Int32.ofNat k &&& 31)) i = decide (i = k)))) = true := by decide +kernel
theorem bt_shl {k i : Nat} (hk : k < 32) : bt ((1 : Int32) <<< (Int32.ofNat k &&& 31)) i = decide (i = k) := by
  by_cases hi : i < 32
  · exact of_decide_eq_true (kall1_ok (kall1_ok bt_one hk) hi)
  · rw [bt_hi (by omega)]
    simp
    omega
/-- of the twelve cells alone -/
def ok12 (x : Int32) : Prop := ∀ i, 12 ≤ i → bt x i = false
def cnt (x : Int32) : Nat → Nat
  | 0 => 0
  | n + 1 => cnt x n + (if bt x n = true then 1 else 0)
theorem cnt_le (x : Int32) : ∀ n, cnt x n ≤ n
  | 0 => Nat.le_refl _
  | n + 1 => by
    have := cnt_le x n
    unfold cnt
    split <;> omega
theorem cnt_mono {x y : Int32} (h : ∀ i, bt x i = true → bt y i = true) : ∀ n, cnt x n ≤ cnt y n ∧ (cnt x n = cnt y n → ∀ i, i < n → bt x i = bt y i)
  | 0 => ⟨Nat.le_refl _, fun _ i hi => by omega⟩
  | n + 1 => by
    obtain ⟨h1, h2⟩ := cnt_mono h n
    have h3 := h n
    unfold cnt
    cases hx : bt x n with
    | true =>
      rw [h3 hx]
      refine ⟨by simp; omega, fun e i hi => ?_⟩
      simp at e
      by_cases q : i = n
      · subst q; rw [hx, h3 hx]
      · exact h2 (by omega) i (by omega)
    | false =>
      cases hy : bt y n with
      | true => exact ⟨by simp; omega, fun e => by simp at e; omega⟩
      | false =>
        refine ⟨by simp; omega, fun e i hi => ?_⟩
        simp at e
        by_cases q : i = n
        · subst q; rw [hx, hy]
        · exact h2 (by omega) i (by omega)
theorem cnt_lt {x y : Int32} (hx : ok12 x) (hy : ok12 y) (h : ∀ i, bt x i = true → bt y i = true) (hne : ¬ y = x) : cnt x 12 + 1 ≤ cnt y 12 := by
  obtain ⟨h1, h2⟩ := cnt_mono h 12
  by_cases e : cnt x 12 = cnt y 12
  · exfalso
    refine hne (bt_ext fun i _ => ?_)
    by_cases hi : i < 12
    · exact (h2 e i hi).symm
    · rw [hx i (by omega), hy i (by omega)]
  · omega
theorem onwS_sub (c l x : Int32) (j : Nat) {i : Nat} (h : bt x i = true) : bt (onwS c l x j) i = true := by
  unfold onwS
  rw [bt_or, h]
  rfl
theorem onwR_sub (c l : Int32) : ∀ (k : Nat) (x : Int32) {i : Nat}, bt x i = true → bt (onwR c l k x) i = true
  | 0, _, _, h => h
  | k + 1, x, _, h => by
    unfold onwR
    exact onwR_sub c l k _ (onwS_sub c l x _ h)
theorem onwS_ok (c l x : Int32) {j : Nat} (hj : j < 48) (h : ok12 x) : ok12 (onwS c l x j) := by
  intro i hi
  unfold onwS
  rw [bt_or, h i hi]
  split
  · rename_i q
    have e := kall1_ok kN_ok hj
    simp only [Bool.or_eq_true, Bool.and_eq_true, decide_eq_true_eq] at e
    rcases e with e | ⟨e1, e2⟩
    · exact absurd e (Int32.not_lt.mpr q.2.1)
    · rw [e2, bt_shl (by omega)]
      exact decide_eq_false (by omega)
  · rw [bt_0]
    rfl
theorem onwR_ok (c l : Int32) : ∀ (k : Nat) (x : Int32), k ≤ 48 → ok12 x → ok12 (onwR c l k x)
  | 0, _, _, h => h
  | k + 1, x, hk, h => by
    unfold onwR
    exact onwR_ok c l k _ (by omega) (onwS_ok c l x (by omega) h)
theorem it_grow (l : Int32) : ∀ (k : Nat) (c : Int32), ok12 c → onw (itS l k c) l = itS l k c ∨ cnt c 12 + k + 1 ≤ cnt (onw (itS l k c) l) 12
  | 0, c, h => by
    by_cases q : onw c l = c
    · exact Or.inl q
    · exact Or.inr (cnt_lt h (onwR_ok c l 48 c (Nat.le_refl _) h) (fun i hi => onwR_sub c l 48 c hi) q)
  | k + 1, c, h => by
    unfold itS
    by_cases q : onw c l = c
    · rw [q, itS_fix q]
      exact Or.inl q
    · have h2 := cnt_lt h (onwR_ok c l 48 c (Nat.le_refl _) h) (fun i hi => onwR_sub c l 48 c hi) q
      rcases it_grow l k (onw c l) (onwR_ok c l 48 c (Nat.le_refl _) h) with h3 | h3
      · exact Or.inl h3
      · refine Or.inr ?_
        have h4 : cnt c 12 + 1 ≤ cnt (onw c l) 12 := h2
        omega
theorem ok12_one {c : Nat} (hc : c < 12) : ok12 ((1 : Int32) <<< (Int32.ofNat c &&& 31)) := by
  intro i hi
  rw [bt_shl (by omega)]
  simp
  omega
theorem fixS_all {c : Nat} (hc : c < 12) (l : Int32) : fixS (Int32.ofNat c) l := by
  refine ⟨fun h => ?_, ?_⟩
  · have h1 := bt_shl (k := c) (i := c) (by omega)
    rw [h, bt_0] at h1
    simp at h1
  · rcases it_grow l 12 _ (ok12_one hc) with h | h
    · exact h
    · have := cnt_le (onw (itS l 12 ((1 : Int32) <<< (Int32.ofNat c &&& 31))) l) 12
      omega
theorem i32_self (x : Int32) : Int32.ofNat x.toBitVec.toNat = x := by
  apply Int32.toBitVec_inj.mp
  show BitVec.ofNat 32 x.toBitVec.toNat = x.toBitVec
  rw [BitVec.ofNat_toNat, BitVec.setWidth_eq]
theorem andN (x y : Int32) {N : Nat} (hx : x.toBitVec.toNat < N) : ∃ n, n < N ∧ x &&& y = Int32.ofNat n := by
  refine ⟨(x &&& y).toBitVec.toNat, ?_, (i32_self _).symm⟩
  rw [Int32.toBitVec_and, BitVec.toNat_and]
  exact Nat.lt_of_le_of_lt Nat.and_le_left hx
theorem and4095 (y : Int32) : ∃ n, n < 4096 ∧ (4095 : Int32) &&& y = Int32.ofNat n := andN _ _ (by decide)
theorem clr_4096 : kall1 4096 (fun n => decide (clrR 17 (Int32.ofNat n) = 0)) = true := by decide +kernel
theorem clr_shut (c0 l : Int32) : clrR 17 (shutS c0 l) = 0 := by
  unfold shutS
  obtain ⟨n, hn, e⟩ := and4095 (itS l 12 (1 <<< (c0 &&& 31)) ^^^ (-1))
  rw [e]
  exact of_decide_eq_true (kall1_ok clr_4096 hn)
