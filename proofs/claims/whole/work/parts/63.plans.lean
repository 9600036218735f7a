/-! plans by number and by turns -/
def foldN {σ : Type} (f : σ → Nat → σ) : Nat → Nat → σ → σ
  | 0, _, s => s
  | k + 1, p, s => foldN f k (p + 1) (f s p)
theorem foldN_add {σ : Type} (f : σ → Nat → σ) : ∀ (k l p : Nat) (s : σ), foldN f (k + l) p s = foldN f l (p + k) (foldN f k p s)
  | 0, l, p, s => by rw [Nat.zero_add]; rfl
  | k + 1, l, p, s => by
    rw [Nat.succ_add]
    show foldN f (k + l) (p + 1) (f s p) = foldN f l (p + (k + 1)) (foldN f k (p + 1) (f s p))
    rw [foldN_add f k l (p + 1), show p + 1 + k = p + (k + 1) by omega]
theorem foldN_congr {σ : Type} {f g : σ → Nat → σ} : ∀ (k p : Nat) (s : σ), (∀ q s, p ≤ q → q < p + k → f s q = g s q) → foldN f k p s = foldN g k p s
  | 0, _, _, _ => rfl
  | k + 1, p, s, h => by
    show foldN f k (p + 1) (f s p) = foldN g k (p + 1) (g s p)
    rw [h p s (Nat.le_refl _) (by omega)]
    exact foldN_congr k (p + 1) _ (fun q s h1 h2 => h q s (by omega) (by omega))
theorem foldN_shift {σ : Type} (f : σ → Nat → σ) (j : Nat) : ∀ (k p : Nat) (s : σ), foldN f k (p + j) s = foldN (fun s q => f s (q + j)) k p s
  | 0, _, _ => rfl
  | k + 1, p, s => by
    show foldN f k (p + j + 1) (f s (p + j)) = foldN (fun s q => f s (q + j)) k (p + 1) (f s (p + j))
    rw [show p + j + 1 = p + 1 + j by omega, foldN_shift f j k (p + 1)]
theorem foldN_mul {σ : Type} (f : σ → Nat → σ) (m : Nat) : ∀ (b p : Nat) (s : σ), foldN f (b * m) (p * m) s = foldN (fun s a => foldN (fun s q => f s (q + a * m)) m 0 s) b p s
  | 0, p, s => by rw [Nat.zero_mul]; rfl
  | b + 1, p, s => by
    rw [Nat.succ_mul, Nat.add_comm (b * m) m, foldN_add]
    show _ = foldN (fun s a => foldN (fun s q => f s (q + a * m)) m 0 s) b (p + 1) (foldN (fun s q => f s (q + p * m)) m 0 s)
    rw [← foldN_mul f m b (p + 1), show p * m + m = (p + 1) * m by rw [Nat.succ_mul]]
    have e := foldN_shift f (p * m) m 0 s
    rw [Nat.zero_add] at e
    rw [e]
/-- a plan of L acts below b, by its number -/
def digsR (b : Nat) : Nat → Nat → List Nat
  | 0, _ => []
  | L + 1, p => p / b ^ L :: digsR b L (p % b ^ L)
theorem digsR_len (b : Nat) : ∀ (L p : Nat), (digsR b L p).length = L
  | 0, _ => rfl
  | L + 1, p => by
    show (digsR b L (p % b ^ L)).length + 1 = L + 1
    rw [digsR_len]
theorem digsR_cons {b K a q : Nat} (hq : q < b ^ K) : digsR b (K + 1) (q + a * b ^ K) = a :: digsR b K q := by
  have hp : 0 < b ^ K := by omega
  show (q + a * b ^ K) / b ^ K :: digsR b K ((q + a * b ^ K) % b ^ K) = _
  rw [Nat.add_mul_div_right _ _ hp, Nat.div_eq_of_lt hq, Nat.zero_add, Nat.add_mul_mod_self_right, Nat.mod_eq_of_lt hq]
theorem digsR_get {b : Nat} (hb : 0 < b) : ∀ (L p k : Nat), k < L → p < b ^ L → (digsR b L p).getD k 0 = p / b ^ (L - 1 - k) % b
  | 0, p, k, hk, hp => by omega
  | L + 1, p, 0, hk, hp => by
    show p / b ^ L = _
    rw [show L + 1 - 1 - 0 = L by omega, Nat.mod_eq_of_lt]
    exact Nat.div_lt_of_lt_mul (by rw [← Nat.pow_succ]; exact hp)
  | L + 1, p, k + 1, hk, hp => by
    show (p / b ^ L :: digsR b L (p % b ^ L)).getD (k + 1) 0 = _
    rw [List.getD_cons_succ, digsR_get hb L (p % b ^ L) k (by omega) (Nat.mod_lt _ (Nat.pow_pos hb))]
    have e : b ^ L = b ^ (L - 1 - k) * b ^ (k + 1) := by rw [← Nat.pow_add, show L - 1 - k + (k + 1) = L by omega]
    rw [e, Nat.mod_mul_right_div_self, Nat.mod_mod_of_dvd _ (Nat.dvd_of_pow_dvd (Nat.succ_le_succ (Nat.zero_le k)) (Nat.dvd_refl _)), show L + 1 - 1 - (k + 1) = L - 1 - k by omega]
theorem digsR_lt {b : Nat} (hb : 0 < b) : ∀ (L p : Nat), p < b ^ L → ∀ a ∈ digsR b L p, a < b
  | 0, p, hp, a, ha => by cases ha
  | L + 1, p, hp, a, ha => by
    rcases List.mem_cons.mp ha with rfl | ha
    · exact Nat.div_lt_of_lt_mul (by rw [← Nat.pow_succ]; exact hp)
    · exact digsR_lt hb L (p % b ^ L) (Nat.mod_lt _ (Nat.pow_pos hb)) a ha
/-- the hand that an act tells -/
def actT (a : Nat) : Int32 := Int32.ofNat a - 1
theorem actT_ok {n a : Nat} (h : a ≤ n) (hn : n ≤ 6) : okT n (actT a) := by
  unfold actT
  by_cases q : a = 0
  · subst q
    exact Or.inl (by decide)
  · refine Or.inr ⟨a - 1, by omega, ?_⟩
    exact zidx ((zs (znat (n := a) (by omega)) (n := 1) rfl (by omega)).trans (by omega))
/-- what a row of acts is worth, how many of them tell a hand, what is shut behind it -/
def outc (RL : List Rul) (c : Nat) : List Nat → (Nat → Int32) → Int32 → Int32 → Int32 → Int32 × Int32 × Int32
  | [], _, s, t, sh => (s, t, sh)
  | a :: ps, A, s, t, _ => outc RL c ps (goA RL A (actT a)) (s + wA RL A (actT a)) (if a = 0 then t else t + 1) (shA c (goA RL A (actT a)))
abbrev WSt : Type := Int32 × Int32 × Int32 × Int32 × List Nat
/-- most, how many, fewest, ever shut, the first: with one plan more -/
def weighS (set : Int32) (st : WSt) (o : Int32 × Int32 × Int32) (plan : List Nat) : WSt :=
  (if st.1 < o.1 then o.1 else st.1, if st.1 < o.1 then 1 else if o.1 = st.1 then st.2.1 + 1 else st.2.1, if o.2.2 &&& set = set ∧ o.2.1 < st.2.2.1 then o.2.1 else st.2.2.1, st.2.2.2.1 ||| o.2.2, if st.1 < o.1 then plan else st.2.2.2.2)
/-- all plans of K acts more, by turns -/
def cW (RL : List Rul) (c n : Nat) (set : Int32) : Nat → List Nat → (Nat → Int32) → Int32 → Int32 → Int32 → WSt → WSt
  | 0, pre, _, s, t, sh, st => weighS set st (s, t, sh) pre
  | K + 1, pre, A, s, t, _, st => foldN (fun st a => cW RL c n set K (pre ++ [a]) (goA RL A (actT a)) (s + wA RL A (actT a)) (if a = 0 then t else t + 1) (shA c (goA RL A (actT a))) st) (n + 1) 0 st
theorem cW_num (RL : List Rul) (c n : Nat) (set : Int32) : ∀ (K : Nat) (pre : List Nat) (A : Nat → Int32) (s t sh : Int32) (st : WSt), cW RL c n set K pre A s t sh st = foldN (fun st p => weighS set st (outc RL c (digsR (n + 1) K p) A s t sh) (pre ++ digsR (n + 1) K p)) ((n + 1) ^ K) 0 st
  | 0, pre, A, s, t, sh, st => by
    show weighS set st (s, t, sh) pre = weighS set st (s, t, sh) (pre ++ [])
    rw [List.append_nil]
  | K + 1, pre, A, s, t, sh, st => by
    have h0 := foldN_mul (fun st p => weighS set st (outc RL c (digsR (n + 1) (K + 1) p) A s t sh) (pre ++ digsR (n + 1) (K + 1) p)) ((n + 1) ^ K) (n + 1) 0 st
    rw [Nat.zero_mul] at h0
    rw [Nat.pow_succ, Nat.mul_comm, h0]
    show foldN _ (n + 1) 0 st = _
    refine foldN_congr (n + 1) 0 st (fun a st _ _ => ?_)
    rw [cW_num RL c n set K]
    refine foldN_congr _ 0 st (fun q st _ hq => ?_)
    rw [digsR_cons (by omega), List.append_assoc]
    rfl
theorem outc_pos (RL : List Rul) (c : Nat) : ∀ (ps : List Nat) (A : Nat → Int32) (s t sh : Int32), 0 ≤ s.toInt → s.toInt + 12 * ps.length ≤ 1000 → 0 ≤ (outc RL c ps A s t sh).1.toInt
  | [], A, s, t, sh, h0, h1 => h0
  | a :: ps, A, s, t, sh, h0, h1 => by
    have hw := wA_12 RL A (actT a)
    have w0 : 0 ≤ (wA RL A (actT a)).toInt := (zle rfl rfl).mp hw.1
    have w1 : (wA RL A (actT a)).toInt ≤ 12 := (zle rfl rfl).mp hw.2
    have hl : (a :: ps).length = ps.length + 1 := rfl
    have e : (s + wA RL A (actT a)).toInt = s.toInt + (wA RL A (actT a)).toInt := zc rfl rfl (by omega)
    exact outc_pos RL c ps _ _ _ _ (by omega) (by omega)
theorem outc_told (RL : List Rul) (c : Nat) : ∀ (ps : List Nat) (A : Nat → Int32) (s sh : Int32) (k : Nat), k + ps.length ≤ 4 → ∃ j, j ≤ 4 ∧ (outc RL c ps A s (Int32.ofNat k) sh).2.1 = Int32.ofNat j
  | [], A, s, sh, k, h => ⟨k, by simpa using h, rfl⟩
  | a :: ps, A, s, sh, k, h => by
    have hl : (a :: ps).length = ps.length + 1 := rfl
    unfold outc
    by_cases q : a = 0
    · rw [if_pos q]
      exact outc_told RL c ps _ _ _ k (by omega)
    · rw [if_neg q, show Int32.ofNat k + 1 = Int32.ofNat (k + 1) from ofadd k 1]
      exact outc_told RL c ps _ _ _ (k + 1) (by omega)
