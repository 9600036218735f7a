/-! the reference's step to the next set; the host's count of bits -/
theorem tb_s {P o z i : Nat} (ho : 0 < o) : (gsS P o z).testBit i = if i < z + o then decide (z ≤ i) else (2 * P).testBit (i - (z + o)) := by
  unfold gsS
  rw [Nat.testBit_two_pow_mul_add _ (gs_low ho)]
  by_cases h : i < z + o
  · rw [if_pos h, if_pos h]
    have e := Nat.testBit_two_pow_mul_add (2 ^ o - 1) (i := z) (b := 0) (Nat.pow_pos (by decide)) i
    rw [Nat.add_zero] at e
    rw [e]
    by_cases hz : i < z
    · rw [if_pos hz, Nat.zero_testBit]
      simp; omega
    · rw [if_neg hz, Nat.testBit_two_pow_sub_one]
      simp; omega
  · rw [if_neg h, if_neg h]
theorem tb_h {P m i : Nat} : (2 ^ m * (2 * P + 1)).testBit i = if i < m then false else (2 * P + 1).testBit (i - m) := by
  have e := Nat.testBit_two_pow_mul_add (2 * P + 1) (i := m) (b := 0) (Nat.pow_pos (by decide)) i
  rw [Nat.add_zero] at e
  rw [e]
  by_cases h : i < m
  · rw [if_pos h, if_pos h, Nat.zero_testBit]
  · rw [if_neg h, if_neg h]
theorem tb_n {P o z i : Nat} (ho : 0 < o) : (gsN P o z).testBit i = if i < z + o then decide (i < o - 1) else (2 * P + 1).testBit (i - (z + o)) := by
  unfold gsN
  rw [Nat.testBit_two_pow_mul_add _ (gs_lowN ho)]
  by_cases h : i < z + o
  · rw [if_pos h, if_pos h, Nat.testBit_two_pow_sub_one]
  · rw [if_neg h, if_neg h]
theorem tb_2 {P j : Nat} (hj : 0 < j) : (2 * P + 1).testBit j = (2 * P).testBit j := by
  obtain ⟨k, rfl⟩ : ∃ k, j = k + 1 := ⟨j - 1, by omega⟩
  rw [Nat.testBit_succ, Nat.testBit_succ, show (2 * P + 1) / 2 = P by omega, show 2 * P / 2 = P by omega]
theorem gs_m {P o z : Nat} (ho : 0 < o) (hs : gsS P o z < 131072) : z + o ≤ 17 := by
  have hge : 2 ^ z * (2 ^ o - 1) ≤ gsS P o z := Nat.le_add_left _ _
  have hge2 : 2 ^ z * (2 ^ o - 1) = 2 ^ (z + o) - 2 ^ z := by rw [Nat.mul_sub, Nat.mul_one, Nat.pow_add]
  refine Nat.le_of_not_lt fun hlt => ?_
  have e1 : 2 ^ 18 ≤ 2 ^ (z + o) := Nat.pow_le_pow_right (by decide) (by omega)
  have e2 : 2 ^ (z + o) = 2 * 2 ^ (z + o - 1) := by
    rw [show z + o = (z + o - 1) + 1 by omega, Nat.pow_succ, Nat.mul_comm]
    rfl
  have e3 : 2 ^ z ≤ 2 ^ (z + o - 1) := Nat.pow_le_pow_right (by decide) (by omega)
  omega
theorem bt_neg (x : Int32) {i : Nat} (hi : i < 32) : bt (-x) i = (bt x i ^^ decide (∃ j, j < i ∧ bt x j = true)) := by
  unfold bt
  rw [Int32.toBitVec_neg, BitVec.getLsbD_neg]
  simp [hi]
theorem gos_low {P o z : Nat} (ho : 0 < o) (hs : gsS P o z < 131072) : Int32.ofNat (gsS P o z) &&& -(Int32.ofNat (gsS P o z)) = Int32.ofNat (2 ^ z) := by
  have hm := gs_m ho hs
  refine bt_ext fun i hi => ?_
  rw [bt_and, bt_neg _ hi, bt_of hi, bt_of hi, Nat.testBit_two_pow]
  by_cases h1 : i < z
  · rw [tb_s ho, if_pos (by omega), decide_eq_false (p := z ≤ i) (by omega), decide_eq_false (p := z = i) (by omega)]
    rfl
  · by_cases h2 : i = z
    · subst h2
      rw [tb_s ho, if_pos (by omega), decide_eq_true (Nat.le_refl _), decide_eq_false (p := ∃ j, _), decide_eq_true rfl]
      · rfl
      · rintro ⟨j, hj, hb⟩
        rw [bt_of (by omega), tb_s ho, if_pos (by omega), decide_eq_false (by omega)] at hb
        cases hb
    · rw [decide_eq_true (p := ∃ j, _), decide_eq_false (p := z = i) (by omega)]
      · cases (gsS P o z).testBit i <;> rfl
      · refine ⟨z, by omega, ?_⟩
        rw [bt_of (by omega), tb_s ho, if_pos (by omega), decide_eq_true (Nat.le_refl _)]
theorem pop_low : kall1 18 (fun z => decide (popS (Int32.ofNat (2 ^ z) - 1) = Int32.ofNat z) && decide (clrR 17 (Int32.ofNat (2 ^ z) - 1) = 0)) = true := by decide +kernel
theorem sh_31 : kall1 32 (fun k => decide (((Int32.ofNat k).toUInt32 &&& Int32.toUInt32 31).toBitVec % 32 = BitVec.ofNat 32 k)) = true := by decide +kernel
theorem bt_kus (x : Int32) {k : Nat} (hk : k < 32) (i : Nat) : bt (kushr x (Int32.ofNat k)) i = bt x (i + k) := by
  have e : (kushr x (Int32.ofNat k)).toBitVec = x.toBitVec >>> k := by
    show (x.toUInt32 >>> ((Int32.ofNat k).toUInt32 &&& Int32.toUInt32 31)).toBitVec = _
    rw [UInt32.toBitVec_shiftRight, of_decide_eq_true (kall1_ok sh_31 hk), BitVec.ushiftRight_eq', BitVec.toNat_ofNat, Nat.mod_eq_of_lt (by omega)]
    rfl
  unfold bt
  rw [e, BitVec.getLsbD_ushiftRight, Nat.add_comm]
/-- the step -/
def gosN (x : Int32) : Int32 := (x + (x &&& -x)) ||| kushr ((x + (x &&& -x)) ^^^ x) (2 + popS ((x &&& -x) - 1))
theorem gos_ok {P o z : Nat} (ho : 0 < o) (hs : gsS P o z < 131072) : gosN (Int32.ofNat (gsS P o z)) = Int32.ofNat (gsN P o z) ∧ clrR 17 ((Int32.ofNat (gsS P o z) &&& -(Int32.ofNat (gsS P o z))) - 1) = 0 ∧ ¬ (Int32.ofNat (gsS P o z) &&& -(Int32.ofNat (gsS P o z))) = 0 := by
  have hm := gs_m ho hs
  have hl := gos_low ho hs
  have hp := kall1_ok pop_low (i := z) (by omega)
  simp only [Bool.and_eq_true, decide_eq_true_eq] at hp
  have hpz : 0 < 2 ^ z := Nat.pow_pos (by decide)
  have hz17 : 2 ^ z ≤ 2 ^ 17 := Nat.pow_le_pow_right (by decide) (by omega)
  have hH : gsS P o z + 2 ^ z = 2 ^ (z + o) * (2 * P + 1) := by
    have h2 : 2 ^ z * (2 ^ o - 1) = 2 ^ (z + o) - 2 ^ z := by rw [Nat.mul_sub, Nat.mul_one, Nat.pow_add]
    have h3 : 2 ^ z ≤ 2 ^ (z + o) := Nat.pow_le_pow_right (by decide) (by omega)
    unfold gsS
    rw [h2, Nat.mul_add, Nat.mul_one]
    omega
  refine ⟨?_, by rw [hl]; exact hp.2, fun e => ?_⟩
  · unfold gosN
    rw [hl, hp.1, ofadd, hH, show (2 : Int32) + Int32.ofNat z = Int32.ofNat (2 + z) from ofadd 2 z]
    refine bt_ext fun i hi => ?_
    rw [bt_or, bt_kus _ (by omega), bt_xor, bt_of hi, bt_of hi, tb_h, tb_n ho]
    by_cases hj : i + (2 + z) < 32
    · rw [bt_of hj, bt_of hj, tb_h, tb_s ho]
      by_cases h1 : i + (2 + z) < z + o
      · rw [if_pos h1, if_pos h1, decide_eq_true (by omega), if_pos (by omega), if_pos (by omega), decide_eq_true (by omega)]
        rfl
      · rw [if_neg h1, if_neg h1]
        by_cases h2 : i + (2 + z) = z + o
        · rw [show i + (2 + z) - (z + o) = 0 by omega, if_pos (by omega), if_pos (by omega), decide_eq_true (by omega)]
          simp [Nat.testBit_zero]
        · rw [tb_2 (j := i + (2 + z) - (z + o)) (by omega), Bool.xor_self, Bool.or_false]
          by_cases h3 : i < z + o
          · rw [if_pos h3, if_pos h3, decide_eq_false (by omega)]
          · rw [if_neg h3, if_neg h3]
    · rw [bt_hi (by omega), bt_hi (by omega)]
      by_cases h3 : i < z + o
      · rw [if_pos h3, if_pos h3, decide_eq_false (by omega)]
        rfl
      · rw [if_neg h3, if_neg h3]
        simp
  · rw [hl] at e
    have := (oeq (b := 0) (by omega) (by decide)).mp e
    omega
/-! the count of bits -/
def bcN (n : Nat) : Nat :=
  let v1 := n - ((n >>> 1) &&& 1431655765)
  let v2 := (v1 &&& 858993459) + ((v1 >>> 2) &&& 858993459)
  let v3 := (v2 + (v2 >>> 4)) &&& 252645135
  let v4 := v3 + (v3 >>> 8)
  let v5 := v4 + (v4 >>> 16)
  v5 &&& 63
theorem oand {a b : Nat} : Int32.ofNat a &&& Int32.ofNat b = Int32.ofNat (a &&& b) := by
  refine bt_ext fun i hi => ?_
  rw [bt_and, bt_of hi, bt_of hi, bt_of hi, Nat.testBit_and]
theorem okus {a k : Nat} (ha : a < 4294967296) (hk : k < 32) : kushr (Int32.ofNat a) (Int32.ofNat k) = Int32.ofNat (a >>> k) := by
  refine bt_ext fun i hi => ?_
  rw [bt_kus _ hk, bt_of hi, Nat.testBit_shiftRight, Nat.add_comm]
  by_cases h : k + i < 32
  · rw [bt_of h]
  · rw [bt_hi (by omega)]
    symm
    apply Nat.testBit_lt_two_pow
    exact Nat.lt_of_lt_of_le ha (show 2 ^ 32 ≤ 2 ^ (k + i) from Nat.pow_le_pow_right (by decide) (by omega))
theorem and_lt (a : Nat) {b N : Nat} (h : b < N) : a &&& b < N := Nat.lt_of_le_of_lt Nat.and_le_right h
theorem bc_nat {n : Nat} (hn : n < 4294967296) : f_bitCount (Int32.ofNat n) = Int32.ofNat (bcN n) := by
  have k1 : kushr (Int32.ofNat n) 1 = Int32.ofNat (n >>> 1) := okus (k := 1) hn (by decide)
  have le1 : (n >>> 1) &&& 1431655765 ≤ n := Nat.le_trans Nat.and_le_left (by rw [Nat.shiftRight_eq_div_pow]; exact Nat.div_le_self _ _)
  have e1 : Int32.ofNat n - ((kushr (Int32.ofNat n) 1) &&& (1431655765 : Int32)) = Int32.ofNat (n - ((n >>> 1) &&& 1431655765)) := by
    rw [k1, show (1431655765 : Int32) = Int32.ofNat 1431655765 from rfl, oand]
    exact (Int32.ofNat_sub _ _ le1).symm
  have b1 : n - ((n >>> 1) &&& 1431655765) < 4294967296 := by omega
  unfold f_bitCount bcN
  simp only [e1]
  generalize n - ((n >>> 1) &&& 1431655765) = v1 at b1
  have k2 : kushr (Int32.ofNat v1) 2 = Int32.ofNat (v1 >>> 2) := okus (k := 2) b1 (by decide)
  have e2 : ((Int32.ofNat v1) &&& (858993459 : Int32)) + ((kushr (Int32.ofNat v1) 2) &&& (858993459 : Int32)) = Int32.ofNat ((v1 &&& 858993459) + ((v1 >>> 2) &&& 858993459)) := by
    rw [k2, show (858993459 : Int32) = Int32.ofNat 858993459 from rfl, oand, oand, ofadd]
  have b2 : (v1 &&& 858993459) + ((v1 >>> 2) &&& 858993459) < 2000000000 := by
    have h1 := and_lt v1 (show 858993459 < 858993460 by decide)
    have h2 := and_lt (v1 >>> 2) (show 858993459 < 858993460 by decide)
    omega
  simp only [e2]
  generalize (v1 &&& 858993459) + ((v1 >>> 2) &&& 858993459) = v2 at b2
  have k3 : kushr (Int32.ofNat v2) 4 = Int32.ofNat (v2 >>> 4) := okus (k := 4) (by omega) (by decide)
  have e3 : ((Int32.ofNat v2) + (kushr (Int32.ofNat v2) 4)) &&& (252645135 : Int32) = Int32.ofNat ((v2 + (v2 >>> 4)) &&& 252645135) := by
    rw [k3, ofadd, show (252645135 : Int32) = Int32.ofNat 252645135 from rfl, oand]
  have b3 := and_lt (v2 + (v2 >>> 4)) (show 252645135 < 252645136 by decide)
  simp only [e3]
  generalize (v2 + (v2 >>> 4)) &&& 252645135 = v3 at b3
  have k4 : kushr (Int32.ofNat v3) 8 = Int32.ofNat (v3 >>> 8) := okus (k := 8) (by omega) (by decide)
  have e4 : (Int32.ofNat v3) + (kushr (Int32.ofNat v3) 8) = Int32.ofNat (v3 + (v3 >>> 8)) := by rw [k4, ofadd]
  have b4 : v3 + (v3 >>> 8) < 600000000 := by
    have : v3 >>> 8 ≤ v3 := by rw [Nat.shiftRight_eq_div_pow]; exact Nat.div_le_self _ _
    omega
  simp only [e4]
  generalize v3 + (v3 >>> 8) = v4 at b4
  have k5 : kushr (Int32.ofNat v4) 16 = Int32.ofNat (v4 >>> 16) := okus (k := 16) (by omega) (by decide)
  rw [k5, ofadd, show (63 : Int32) = Int32.ofNat 63 from rfl, oand]
