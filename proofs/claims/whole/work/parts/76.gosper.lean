/-! how many bits; the next greater set of as many -/
def popF : Nat → Nat → Nat
  | 0, _ => 0
  | k + 1, n => n % 2 + popF k (n / 2)
theorem popF_0 : ∀ k, popF k 0 = 0
  | 0 => rfl
  | k + 1 => by
    show 0 % 2 + popF k (0 / 2) = 0
    rw [show 0 / 2 = 0 from rfl, popF_0 k]
theorem popF_le : ∀ k n, popF k n ≤ k
  | 0, _ => Nat.le_refl _
  | k + 1, n => by
    have := popF_le k (n / 2)
    show n % 2 + popF k (n / 2) ≤ k + 1
    omega
theorem popF_split : ∀ (j k b a : Nat), a < 2 ^ j → popF (j + k) (2 ^ j * b + a) = popF j a + popF k b
  | 0, k, b, a, h => by
    have : a = 0 := by omega
    subst this
    rw [Nat.zero_add, Nat.pow_zero, Nat.one_mul, Nat.add_zero]
    show popF k b = 0 + popF k b
    omega
  | j + 1, k, b, a, h => by
    have h2 : a / 2 < 2 ^ j := by
      rw [Nat.pow_succ] at h
      omega
    have e1 : (2 ^ (j + 1) * b + a) % 2 = a % 2 := by
      rw [Nat.pow_succ, Nat.mul_assoc, Nat.mul_comm (2 ^ j), Nat.mul_assoc]
      omega
    have e2 : (2 ^ (j + 1) * b + a) / 2 = 2 ^ j * b + a / 2 := by
      rw [Nat.pow_succ, Nat.mul_assoc, Nat.mul_comm 2 b, ← Nat.mul_assoc]
      omega
    rw [show j + 1 + k = (j + k) + 1 by omega]
    show (2 ^ (j + 1) * b + a) % 2 + popF (j + k) ((2 ^ (j + 1) * b + a) / 2) = (a % 2 + popF j (a / 2)) + popF k b
    rw [e1, e2, popF_split j k b (a / 2) h2]
    omega
theorem popF_full : ∀ (k t : Nat), t < 2 ^ k → popF k t = k → t = 2 ^ k - 1
  | 0, t, h, _ => by
    have : t = 0 := by omega
    subst this
    rfl
  | k + 1, t, h, e => by
    have h1 : t % 2 + popF k (t / 2) = k + 1 := e
    have h2 := popF_le k (t / 2)
    rw [Nat.pow_succ] at h ⊢
    have h3 := popF_full k (t / 2) (by omega) (by omega)
    omega
theorem popF_all : ∀ k, popF k (2 ^ k - 1) = k
  | 0 => rfl
  | k + 1 => by
    have hp : 0 < 2 ^ k := Nat.pow_pos (by decide)
    show (2 ^ (k + 1) - 1) % 2 + popF k ((2 ^ (k + 1) - 1) / 2) = k + 1
    rw [Nat.pow_succ, show (2 ^ k * 2 - 1) / 2 = 2 ^ k - 1 by omega, popF_all k]
    omega
theorem popF_pos : ∀ (k t : Nat), t < 2 ^ k → 0 < t → 0 < popF k t
  | 0, t, h, h0 => by omega
  | k + 1, t, h, h0 => by
    show 0 < t % 2 + popF k (t / 2)
    rw [Nat.pow_succ] at h
    by_cases q : t / 2 = 0
    · omega
    · have := popF_pos k (t / 2) (by omega) (by omega)
      omega
theorem popF_small : ∀ (k j t : Nat), t < 2 ^ j → popF (j + k) t = popF j t := by
  intro k j t h
  have := popF_split j k 0 t h
  rw [Nat.mul_zero, Nat.zero_add, popF_0] at this
  omega
/-- a set as its parts: P, a 0, o ones, z zeros -/
def gsS (P o z : Nat) : Nat := 2 ^ (z + o) * (2 * P) + 2 ^ z * (2 ^ o - 1)
def gsN (P o z : Nat) : Nat := 2 ^ (z + o) * (2 * P + 1) + (2 ^ (o - 1) - 1)
theorem gs_odd : ∀ (f q : Nat), q < f → ∃ P o, 0 < o ∧ 2 * q + 1 = 2 ^ o * (2 * P) + (2 ^ o - 1)
  | 0, q, h => by omega
  | f + 1, q, h => by
    by_cases hq : q % 2 = 0
    · exact ⟨q / 2, 1, by decide, by omega⟩
    · obtain ⟨P, o, h1, h2⟩ := gs_odd f (q / 2) (by omega)
      refine ⟨P, o + 1, by omega, ?_⟩
      have hp : 0 < 2 ^ o := Nat.pow_pos (by decide)
      have e : 2 ^ (o + 1) * (2 * P) = 2 * (2 ^ o * (2 * P)) := by rw [Nat.pow_succ, Nat.mul_comm (2 ^ o) 2, Nat.mul_assoc]
      rw [e, Nat.pow_succ]
      omega
theorem gs_ex : ∀ (f s : Nat), s < f → 0 < s → ∃ P o z, 0 < o ∧ s = gsS P o z
  | 0, s, h, _ => by omega
  | f + 1, s, h, h0 => by
    by_cases hs : s % 2 = 1
    · obtain ⟨P, o, h1, h2⟩ := gs_odd (s / 2 + 1) (s / 2) (by omega)
      refine ⟨P, o, 0, h1, ?_⟩
      unfold gsS
      rw [Nat.zero_add, Nat.pow_zero, Nat.one_mul]
      omega
    · obtain ⟨P, o, z, h1, h2⟩ := gs_ex f (s / 2) (by omega) (by omega)
      refine ⟨P, o, z + 1, h1, ?_⟩
      have e1 : 2 ^ (z + 1 + o) * (2 * P) = 2 * (2 ^ (z + o) * (2 * P)) := by rw [show z + 1 + o = (z + o) + 1 by omega, Nat.pow_succ, Nat.mul_comm (2 ^ (z + o)) 2, Nat.mul_assoc]
      have e2 : 2 ^ (z + 1) * (2 ^ o - 1) = 2 * (2 ^ z * (2 ^ o - 1)) := by rw [Nat.pow_succ, Nat.mul_comm (2 ^ z) 2, Nat.mul_assoc]
      unfold gsS at h2 ⊢
      rw [e1, e2]
      omega
theorem gs_low {o z : Nat} (ho : 0 < o) : 2 ^ z * (2 ^ o - 1) < 2 ^ (z + o) := by
  have h1 : 0 < 2 ^ o := Nat.pow_pos (by decide)
  have h2 : 0 < 2 ^ z := Nat.pow_pos (by decide)
  rw [Nat.pow_add, Nat.mul_sub, Nat.mul_one]
  have : 2 ^ z ≤ 2 ^ z * 2 ^ o := Nat.le_mul_of_pos_right _ h1
  omega
theorem gs_lowN {o z : Nat} (ho : 0 < o) : 2 ^ (o - 1) - 1 < 2 ^ (z + o) := by
  have h1 : 2 ^ (o - 1) ≤ 2 ^ (z + o) := Nat.pow_le_pow_right (by decide) (by omega)
  have : 0 < 2 ^ (o - 1) := Nat.pow_pos (by decide)
  omega
theorem gs_pop {P o z k : Nat} (ho : 0 < o) : popF (z + o + k) (gsS P o z) = o + popF k (2 * P) := by
  unfold gsS
  rw [popF_split _ _ _ _ (gs_low ho)]
  have e : popF (z + o) (2 ^ z * (2 ^ o - 1)) = popF z 0 + popF o (2 ^ o - 1) := by
    have := popF_split z o (2 ^ o - 1) 0 (Nat.pow_pos (by decide))
    rw [Nat.add_zero] at this
    exact this
  rw [e, popF_0, popF_all]
  omega
/-- a greater one of as many is not below the next -/
theorem gs_next {P o z T : Nat} (ho : 0 < o) (hs : gsS P o z < 131072) (hT : T < 131072) (h1 : gsS P o z < T) (h2 : popF 17 T = popF 17 (gsS P o z)) : gsN P o z ≤ T := by
  have hp : 0 < 2 ^ (z + o) := Nat.pow_pos (by decide)
  have hpz : 0 < 2 ^ z := Nat.pow_pos (by decide)
  have hpo : 0 < 2 ^ o := Nat.pow_pos (by decide)
  have hge : 2 ^ z * (2 ^ o - 1) ≤ gsS P o z := Nat.le_add_left _ _
  have hge2 : 2 ^ (z + o) - 2 ^ z ≤ gsS P o z := by
    have : 2 ^ z * (2 ^ o - 1) = 2 ^ (z + o) - 2 ^ z := by rw [Nat.mul_sub, Nat.mul_one, Nat.pow_add]
    omega
  have hm : z + o ≤ 17 := by
    refine Nat.le_of_not_lt fun hlt => ?_
    have e1 : 2 ^ 18 ≤ 2 ^ (z + o) := Nat.pow_le_pow_right (by decide) (by omega)
    have e2 : 2 ^ (z + o) = 2 * 2 ^ (z + o - 1) := by
      rw [show z + o = (z + o - 1) + 1 by omega, Nat.pow_succ, Nat.mul_comm]
      rfl
    have e3 : 2 ^ z ≤ 2 ^ (z + o - 1) := Nat.pow_le_pow_right (by decide) (by omega)
    omega
  obtain ⟨k, hk⟩ : ∃ k, 17 = z + o + k := ⟨17 - (z + o), by omega⟩
  refine Nat.le_of_not_lt fun h3 => ?_
  have hT1 : T = 2 ^ (z + o) * (T / 2 ^ (z + o)) + T % 2 ^ (z + o) := (Nat.div_add_mod _ _).symm
  have hr : T % 2 ^ (z + o) < 2 ^ (z + o) := Nat.mod_lt _ hp
  generalize T / 2 ^ (z + o) = t1 at hT1
  generalize T % 2 ^ (z + o) = t0 at hT1 hr
  have hlo : 2 * P ≤ t1 := by
    refine Nat.le_of_not_lt fun hlt => ?_
    have : 2 ^ (z + o) * (t1 + 1) ≤ 2 ^ (z + o) * (2 * P) := Nat.mul_le_mul_left _ (by omega)
    rw [Nat.mul_succ] at this
    unfold gsS at h1
    omega
  have hhi : t1 ≤ 2 * P + 1 := by
    refine Nat.le_of_not_lt fun hlt => ?_
    have : 2 ^ (z + o) * (2 * P + 1 + 1) ≤ 2 ^ (z + o) * t1 := Nat.mul_le_mul_left _ (by omega)
    rw [Nat.mul_succ] at this
    have := gs_lowN (z := z) ho
    unfold gsN at h3
    omega
  have hpt : popF 17 T = popF (z + o) t0 + popF k t1 := by
    rw [hk, hT1]
    exact popF_split _ _ _ _ hr
  have hps : popF 17 (gsS P o z) = o + popF k (2 * P) := by
    rw [hk]
    exact gs_pop ho
  have ht : t1 = 2 * P ∨ t1 = 2 * P + 1 := by omega
  rcases ht with rfl | rfl
  · -- the same above: more ones below
    have h4 : 2 ^ z * (2 ^ o - 1) < t0 := by
      unfold gsS at h1
      omega
    have e0 : t0 = 2 ^ z * (t0 / 2 ^ z) + t0 % 2 ^ z := (Nat.div_add_mod _ _).symm
    have hrz : t0 % 2 ^ z < 2 ^ z := Nat.mod_lt _ hpz
    generalize t0 / 2 ^ z = q at e0
    generalize t0 % 2 ^ z = r at e0 hrz
    have q1 : q < 2 ^ o := by
      refine Nat.lt_of_not_le fun hle => ?_
      have : 2 ^ z * 2 ^ o ≤ 2 ^ z * q := Nat.mul_le_mul_left _ hle
      rw [← Nat.pow_add] at this
      omega
    have q2 : 2 ^ o - 1 ≤ q := by
      refine Nat.le_of_not_lt fun hlt => ?_
      have : 2 ^ z * (q + 1) ≤ 2 ^ z * (2 ^ o - 1) := Nat.mul_le_mul_left _ hlt
      rw [Nat.mul_succ] at this
      omega
    have q3 : q = 2 ^ o - 1 := by omega
    subst q3
    have r1 : 0 < r := by omega
    have ep : popF (z + o) t0 = popF z r + o := by
      rw [e0, popF_split _ _ _ _ hrz, popF_all]
    have := popF_pos z r hrz r1
    omega
  · -- one more above: fewer below
    have h4 : t0 < 2 ^ (o - 1) - 1 := by
      unfold gsN at h3
      omega
    have e1 : z + o = (o - 1) + (z + 1) := by omega
    have ep : popF (z + o) t0 = popF (o - 1) t0 := by
      rw [e1]
      exact popF_small _ _ _ (by omega)
    have h5 := popF_le (o - 1) t0
    have h6 : popF (o - 1) t0 ≠ o - 1 := fun e => by
      have := popF_full (o - 1) t0 (by omega) e
      omega
    have e3 : popF k (2 * P + 1) ≤ 1 + popF k (2 * P) := by
      match k with
      | 0 => exact Nat.zero_le _
      | k + 1 =>
        show (2 * P + 1) % 2 + popF k ((2 * P + 1) / 2) ≤ 1 + ((2 * P) % 2 + popF k (2 * P / 2))
        rw [show (2 * P + 1) / 2 = P by omega, show 2 * P / 2 = P by omega]
        omega
    omega
theorem gs_nextp {P o z : Nat} (ho : 0 < o) (hs : gsS P o z < 131072) (hN : gsN P o z < 131072) : popF 17 (gsN P o z) = popF 17 (gsS P o z) ∧ gsS P o z < gsN P o z := by
  have hp : 0 < 2 ^ (z + o) := Nat.pow_pos (by decide)
  have hlt : gsS P o z < gsN P o z := by
    have := gs_low (z := z) ho
    unfold gsS gsN
    rw [Nat.mul_add, Nat.mul_one]
    omega
  refine ⟨?_, hlt⟩
  have hm : z + o < 17 := by
    refine Nat.lt_of_not_le fun hle => ?_
    have e1 : 2 ^ 17 ≤ 2 ^ (z + o) := Nat.pow_le_pow_right (by decide) hle
    have e2 : 2 ^ (z + o) ≤ 2 ^ (z + o) * (2 * P + 1) := Nat.le_mul_of_pos_right _ (by omega)
    unfold gsN at hN
    omega
  obtain ⟨k, hk⟩ : ∃ k, 17 = z + o + (k + 1) := ⟨17 - (z + o) - 1, by omega⟩
  have hps : popF 17 (gsS P o z) = o + popF (k + 1) (2 * P) := by
    rw [hk]
    exact gs_pop ho
  have hpn : popF 17 (gsN P o z) = popF (z + o) (2 ^ (o - 1) - 1) + popF (k + 1) (2 * P + 1) := by
    rw [hk]
    exact popF_split _ _ _ _ (gs_lowN ho)
  have e1 : z + o = (o - 1) + (z + 1) := by omega
  have hp1 : 0 < 2 ^ (o - 1) := Nat.pow_pos (by decide)
  have ep : popF (z + o) (2 ^ (o - 1) - 1) = o - 1 := by
    rw [e1, popF_small _ _ _ (by omega), popF_all]
  have e3 : popF (k + 1) (2 * P + 1) = 1 + popF (k + 1) (2 * P) := by
    show (2 * P + 1) % 2 + popF k ((2 * P + 1) / 2) = 1 + ((2 * P) % 2 + popF k (2 * P / 2))
    rw [show (2 * P + 1) / 2 = P by omega, show 2 * P / 2 = P by omega]
    omega
  omega
