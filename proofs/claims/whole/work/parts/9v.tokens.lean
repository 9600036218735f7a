/-! KM: the text of the rules, for both sides: its tokens -/
def isLt (b : Nat) : Bool := Nat.ble 97 b && Nat.ble b 122
def isDg (b : Nat) : Bool := Nat.ble 48 b && Nat.ble b 57
def isBl (b : Nat) : Bool := Nat.beq b 32
def runF (T : List Nat) (p : Nat → Bool) : Nat → Nat → Nat
  | 0, i => i
  | f + 1, i => if i < T.length ∧ p (T.getD i 0) = true then runF T p f (i + 1) else i
/-- where a run of bytes ends -/
def runE (T : List Nat) (p : Nat → Bool) (i : Nat) : Nat := runF T p (T.length - i) i
theorem runE_y {T : List Nat} {p : Nat → Bool} {i : Nat} (h : i < T.length) (q : p (T.getD i 0) = true) : runE T p i = runE T p (i + 1) := by
  unfold runE
  rw [show T.length - i = (T.length - (i + 1)) + 1 by omega]
  exact if_pos ⟨h, q⟩
theorem runE_n {T : List Nat} {p : Nat → Bool} {i : Nat} (h : ¬ (i < T.length ∧ p (T.getD i 0) = true)) : runE T p i = i := by
  unfold runE
  cases T.length - i with
  | zero => rfl
  | succ f => exact if_neg h
theorem runE_b {T : List Nat} {p : Nat → Bool} : ∀ (m i : Nat), T.length - i = m → i ≤ runE T p i ∧ (i ≤ T.length → runE T p i ≤ T.length) ∧ (∀ j, i ≤ j → j < runE T p i → j < T.length ∧ p (T.getD j 0) = true) ∧ ¬ (runE T p i < T.length ∧ p (T.getD (runE T p i) 0) = true) := by
  intro m
  induction m with
  | zero =>
    intro i hi
    have h : ¬ (i < T.length ∧ p (T.getD i 0) = true) := fun z => by omega
    rw [runE_n h]
    exact ⟨Nat.le_refl _, id, fun j h1 h2 => by omega, h⟩
  | succ m ih =>
    intro i hi
    by_cases h : i < T.length ∧ p (T.getD i 0) = true
    · rw [runE_y h.1 h.2]
      obtain ⟨a, b, c, d⟩ := ih (i + 1) (by omega)
      refine ⟨by omega, fun _ => b (by omega), fun j h1 h2 => ?_, d⟩
      by_cases e : j = i
      · rw [e]
        exact h
      · exact c j (by omega) h2
    · rw [runE_n h]
      exact ⟨Nat.le_refl _, id, fun j h1 h2 => by omega, h⟩
theorem runE_le (T : List Nat) (p : Nat → Bool) (i : Nat) : i ≤ runE T p i := (runE_b _ i rfl).1
theorem runE_len {T : List Nat} (p : Nat → Bool) {i : Nat} (h : i ≤ T.length) : runE T p i ≤ T.length := (runE_b _ i rfl).2.1 h
theorem runE_stop (T : List Nat) (p : Nat → Bool) (i : Nat) : runE T p (runE T p i) = runE T p i := runE_n (runE_b _ i rfl).2.2.2
theorem runE_in {T : List Nat} {p : Nat → Bool} {i j : Nat} (h1 : i ≤ j) (h2 : j < runE T p i) : j < T.length ∧ p (T.getD j 0) = true := (runE_b _ i rfl).2.2.1 j h1 h2
/-- the words, as the class numbers them and as the reference does -/
def NMC : List (List Nat) := [[104, 97, 110, 100], [99, 104, 105, 108, 100], [103, 101, 110, 101, 114, 97, 108], [109, 111, 116, 104, 101, 114], [114, 117, 98, 98, 101, 114], [100, 111, 103], [100, 114, 97, 119], [114, 101, 115, 116], [114, 117, 98], [105, 102], [111, 114], [97, 110, 100], [110, 111, 116], [100, 117, 115, 107], [97, 116], [102, 97, 99, 105, 110, 103], [99, 104, 97, 108, 107], [110, 117, 109, 98, 101, 114]]
def NMR : List (List Nat) := [[104, 97, 110, 100], [99, 104, 105, 108, 100], [103, 101, 110, 101, 114, 97, 108], [109, 111, 116, 104, 101, 114], [114, 117, 98, 98, 101, 114], [100, 111, 103], [100, 114, 97, 119], [114, 101, 115, 116], [114, 117, 98], [100, 117, 115, 107], [97, 116], [102, 97, 99, 105, 110, 103], [99, 104, 97, 108, 107], [110, 117, 109, 98, 101, 114], [105, 102], [111, 114], [97, 110, 100], [110, 111, 116]]
def wIx : List (List Nat) → Nat → Nat → List Nat → Nat
  | [], _, z, _ => z
  | n :: r, k, z, W => if W = n then k else wIx r (k + 1) z W
/-- the reference's number of a token of the class -/
def rkT (c : Nat) : Nat := if c ≤ 8 then c else if c ≤ 12 then c + 5 else if c ≤ 17 then c - 4 else if c ≤ 19 then 99 else if c ≤ 22 then 21 else if c ≤ 27 then c - 1 else 20
theorem wIx_no {W : List Nat} {z : Nat} : ∀ (N : List (List Nat)) (k : Nat), W ∉ N → wIx N k z W = z
  | [], _, _ => rfl
  | n :: r, k, h => by
    unfold wIx
    rw [if_neg (fun e => h (by rw [e]; exact List.mem_cons_self))]
    exact wIx_no r (k + 1) (fun e => h (List.mem_cons_of_mem _ e))
theorem NM_perm : ∀ W, W ∈ NMC ↔ W ∈ NMR := by
  intro W
  simp only [NMC, NMR, List.mem_cons, List.not_mem_nil, or_false]
  constructor
  · rintro (h | h | h | h | h | h | h | h | h | h | h | h | h | h | h | h | h | h) <;> simp [h]
  · rintro (h | h | h | h | h | h | h | h | h | h | h | h | h | h | h | h | h | h) <;> simp [h]
theorem NM_rk : ∀ W ∈ NMC, rkT (wIx NMC 0 27 W) = wIx NMR 0 26 W := by decide
theorem rk_word (W : List Nat) : rkT (wIx NMC 0 27 W) = wIx NMR 0 26 W := by
  by_cases h : W ∈ NMC
  · exact NM_rk W h
  · rw [wIx_no _ _ h, wIx_no _ _ (fun z => h ((NM_perm W).mpr z))]
    rfl
theorem wIx_lt {W : List Nat} {z : Nat} : ∀ (N : List (List Nat)) (k : Nat), wIx N k z W = z ∨ wIx N k z W < k + N.length
  | [], _ => Or.inl rfl
  | n :: r, k => by
    unfold wIx
    by_cases e : W = n
    · rw [if_pos e]
      exact Or.inr (by rw [List.length_cons]; omega)
    · rw [if_neg e, List.length_cons]
      rcases wIx_lt (z := z) r (k + 1) with h | h
      · exact Or.inl h
      · exact Or.inr (by omega)
def sliT (T : List Nat) (i j : Nat) : List Nat := (T.drop i).take (j - i)
def sgT (b : Nat) : Nat := if b = 60 then 20 else if b = 61 then 21 else if b = 62 then 22 else if b = 40 then 23 else if b = 41 then 24 else if b = 59 then 25 else 27
def numT : List Nat → Nat → Nat
  | [], v => v
  | b :: r, v => numT r (10 * v + (b - 48))
/-- the token at a place: which, where it begins, where it ends -/
def tokT (T : List Nat) (i : Nat) : Nat × Nat × Nat :=
  if runE T isBl i < T.length then
    (if isLt (T.getD (runE T isBl i) 0) = true then (wIx NMC 0 27 (sliT T (runE T isBl i) (runE T isLt (runE T isBl i))), runE T isBl i, runE T isLt (runE T isBl i))
    else if isDg (T.getD (runE T isBl i) 0) = true then ((if runE T isDg (runE T isBl i) - runE T isBl i ≤ 4 then 100 + numT (sliT T (runE T isBl i) (runE T isDg (runE T isBl i))) 0 else 27), runE T isBl i, runE T isDg (runE T isBl i))
    else (sgT (T.getD (runE T isBl i) 0), runE T isBl i, runE T isBl i + 1))
  else (26, T.length, T.length)
def posT (T : List Nat) : Nat → Nat
  | 0 => 0
  | q + 1 => (tokT T (posT T q)).2.2
def tkC (T : List Nat) (q : Nat) : Nat := (tokT T (posT T q)).1
def tkB (T : List Nat) (q : Nat) : Nat := (tokT T (posT T q)).2.1
theorem numT_lt : ∀ (W : List Nat) (v : Nat), (∀ b ∈ W, b ≤ 57) → numT W v < 10 ^ W.length * (v + 1)
  | [], v, _ => by
    show v < 10 ^ 0 * (v + 1)
    omega
  | b :: r, v, h => by
    have h1 := h b List.mem_cons_self
    have h2 := numT_lt r (10 * v + (b - 48)) (fun x hx => h x (List.mem_cons_of_mem _ hx))
    show numT r (10 * v + (b - 48)) < 10 ^ (r.length + 1) * (v + 1)
    refine Nat.lt_of_lt_of_le h2 ?_
    rw [Nat.pow_succ, Nat.mul_assoc]
    exact Nat.mul_le_mul_left _ (by omega)
theorem sli_get {T : List Nat} {i j x : Nat} (hx : x < j - i) (hj : j ≤ T.length) : (sliT T i j).getD x 0 = T.getD (i + x) 0 := by
  unfold sliT
  rw [List.getD_eq_getElem?_getD, List.getD_eq_getElem?_getD, List.getElem?_take_of_lt hx, List.getElem?_drop]
theorem sli_mem {T : List Nat} {i j : Nat} {p : Nat → Bool} (h : ∀ k, i ≤ k → k < j → p (T.getD k 0) = true) (hj : j ≤ T.length) : ∀ b ∈ sliT T i j, p b = true := by
  intro b hb
  obtain ⟨k, hk, rfl⟩ := List.mem_iff_getElem.mp hb
  have hl : k < j - i := by
    have : k < ((T.drop i).take (j - i)).length := hk
    rw [List.length_take] at this
    omega
  have e : (sliT T i j)[k] = T.getD (i + k) 0 := by
    have := sli_get (T := T) (i := i) (j := j) hl hj
    rw [List.getD_eq_getElem?_getD, List.getElem?_eq_getElem hk] at this
    exact this
  rw [e]
  exact h (i + k) (by omega) (by omega)
theorem sli_len {T : List Nat} {i j : Nat} (hj : j ≤ T.length) : (sliT T i j).length = j - i := by
  unfold sliT
  rw [List.length_take, List.length_drop]
  omega
theorem sgT_le (b : Nat) : sgT b ≤ 27 ∧ sgT b ≠ 26 := by
  unfold sgT
  repeat' split
  all_goals decide
theorem tokT_c (T : List Nat) (i : Nat) : (tokT T i).1 < 10100 ∧ ((tokT T i).1 ≤ 27 ∨ 100 ≤ (tokT T i).1) ∧ ((tokT T i).1 = 26 ↔ ¬ runE T isBl i < T.length) := by
  unfold tokT
  by_cases h : runE T isBl i < T.length
  · rw [if_pos h]
    by_cases h1 : isLt (T.getD (runE T isBl i) 0) = true
    · rw [if_pos h1]
      rcases wIx_lt (z := 27) (W := sliT T (runE T isBl i) (runE T isLt (runE T isBl i))) NMC 0 with e | e
      · simp only [e]
        exact ⟨by decide, Or.inl (by decide), by omega⟩
      · have e2 : wIx NMC 0 27 (sliT T (runE T isBl i) (runE T isLt (runE T isBl i))) < 18 := e
        simp only []
        exact ⟨by omega, Or.inl (by omega), by omega⟩
    · rw [if_neg h1]
      by_cases h2 : isDg (T.getD (runE T isBl i) 0) = true
      · rw [if_pos h2]
        by_cases h3 : runE T isDg (runE T isBl i) - runE T isBl i ≤ 4
        · have hn := numT_lt (sliT T (runE T isBl i) (runE T isDg (runE T isBl i))) 0 (fun b hb => by
            have := sli_mem (p := isDg) (fun k h1 h2 => (runE_in h1 h2).2) (runE_len isDg (Nat.le_of_lt h)) b hb
            simp only [isDg, Bool.and_eq_true, Nat.ble_eq] at this
            exact this.2)
          rw [sli_len (runE_len isDg (Nat.le_of_lt h))] at hn
          have hp : 10 ^ (runE T isDg (runE T isBl i) - runE T isBl i) ≤ 10 ^ 4 := Nat.pow_le_pow_right (by decide) h3
          simp only [if_pos h3]
          exact ⟨by omega, Or.inr (by omega), by omega⟩
        · simp only [if_neg h3]
          exact ⟨by decide, Or.inl (by decide), by omega⟩
      · rw [if_neg h2]
        have := sgT_le (T.getD (runE T isBl i) 0)
        simp only []
        exact ⟨by omega, Or.inl this.1, by omega⟩
  · rw [if_neg h]
    exact ⟨show 26 < 10100 by decide, Or.inl (show 26 ≤ 27 by decide), by simp [h]⟩
theorem tokT_p {T : List Nat} {i : Nat} (hi : i ≤ T.length) : (tokT T i).2.2 ≤ T.length ∧ i ≤ (tokT T i).2.2 ∧ ((tokT T i).1 ≠ 26 → i < (tokT T i).2.2) ∧ (tokT T i).2.1 ≤ T.length := by
  have hb := runE_le T isBl i
  have hc := (tokT_c T i).2.2
  revert hc
  unfold tokT
  by_cases h : runE T isBl i < T.length
  · rw [if_pos h]
    by_cases h1 : isLt (T.getD (runE T isBl i) 0) = true
    · rw [if_pos h1]
      intro _
      have e := runE_y (p := isLt) h h1
      have h2 := runE_le T isLt (runE T isBl i + 1)
      have h3 := runE_len isLt (T := T) (i := runE T isBl i + 1) h
      simp only []
      rw [e]
      exact ⟨h3, by omega, fun _ => by omega, by omega⟩
    · rw [if_neg h1]
      by_cases h2 : isDg (T.getD (runE T isBl i) 0) = true
      · rw [if_pos h2]
        intro _
        have e := runE_y (p := isDg) h h2
        have h3 := runE_le T isDg (runE T isBl i + 1)
        have h4 := runE_len isDg (T := T) (i := runE T isBl i + 1) h
        simp only []
        rw [e]
        exact ⟨h4, by omega, fun _ => by omega, by omega⟩
      · rw [if_neg h2]
        intro _
        simp only []
        exact ⟨h, by omega, fun _ => by omega, by omega⟩
  · rw [if_neg h]
    intro hc
    exact ⟨Nat.le_refl _, hi, fun z => absurd rfl z, Nat.le_refl _⟩
theorem posT_le (T : List Nat) : ∀ q, posT T q ≤ T.length
  | 0 => Nat.zero_le _
  | q + 1 => (tokT_p (posT_le T q)).1
theorem tkC_lt (T : List Nat) (q : Nat) : tkC T q < 10100 := (tokT_c T _).1
theorem tkC_r (T : List Nat) (q : Nat) : tkC T q ≤ 27 ∨ 100 ≤ tkC T q := (tokT_c T _).2.1
theorem tkB_le (T : List Nat) (q : Nat) : tkB T q ≤ T.length := (tokT_p (posT_le T q)).2.2.2
/-- no end as yet -/
def lvT (c : Nat → Nat) (q : Nat) : Prop := ∀ j, j < q → c j ≠ 26
theorem lvT.s {c : Nat → Nat} {q : Nat} (h : lvT c q) (n : c q ≠ 26) : lvT c (q + 1) := fun j hj => by
  by_cases e : j = q
  · rw [e]; exact n
  · exact h j (by omega)
theorem lvT_pos {T : List Nat} : ∀ q, lvT (tkC T) q → q ≤ posT T q
  | 0, _ => Nat.le_refl _
  | q + 1, h => by
    have h1 := lvT_pos q (fun j hj => h j (by omega))
    have h2 := (tokT_p (posT_le T q)).2.2.1 (h q (by omega))
    show q + 1 ≤ (tokT T (posT T q)).2.2
    omega
theorem lvT_le {T : List Nat} {q : Nat} (h : lvT (tkC T) q) : q ≤ T.length := Nat.le_trans (lvT_pos q h) (posT_le T q)
theorem lvT_lt {T : List Nat} {q : Nat} (h : lvT (tkC T) q) (n : tkC T q ≠ 26) : q < T.length := lvT_le (h.s n)
/-- how many tokens there are -/
theorem tk_end (T : List Nat) : ∃ N, lvT (tkC T) N ∧ tkC T N = 26 ∧ N ≤ T.length := by
  have h : ∀ m q, T.length + 1 - q = m → lvT (tkC T) q → ∃ N, lvT (tkC T) N ∧ tkC T N = 26 ∧ N ≤ T.length := by
    intro m
    induction m with
    | zero =>
      intro q e hq
      have := lvT_le hq
      omega
    | succ m ih =>
      intro q e hq
      by_cases h26 : tkC T q = 26
      · exact ⟨q, hq, h26, lvT_le hq⟩
      · exact ih (q + 1) (by omega) (hq.s h26)
  exact h _ 0 rfl (fun j hj => absurd hj (Nat.not_lt_zero j))
theorem lvT_N {T : List Nat} {N q : Nat} (hN : tkC T N = 26) (h : lvT (tkC T) q) : q ≤ N := by
  by_cases e : q ≤ N
  · exact e
  · exact absurd hN (h N (by omega))
