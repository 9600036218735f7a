/-! the count of bits, checked number by number -/
def bcK (a : Nat) : Bool := kall1 4096 (fun b => Nat.beq (bcN (a * 4096 + b)) (popF 17 (a * 4096 + b)))
theorem bc_0 : bcK 0 = true := by decide +kernel
theorem bc_1 : bcK 1 = true := by decide +kernel
theorem bc_2 : bcK 2 = true := by decide +kernel
theorem bc_3 : bcK 3 = true := by decide +kernel
theorem bc_4 : bcK 4 = true := by decide +kernel
theorem bc_5 : bcK 5 = true := by decide +kernel
theorem bc_6 : bcK 6 = true := by decide +kernel
theorem bc_7 : bcK 7 = true := by decide +kernel
theorem bc_8 : bcK 8 = true := by decide +kernel
theorem bc_9 : bcK 9 = true := by decide +kernel
theorem bc_10 : bcK 10 = true := by decide +kernel
theorem bc_11 : bcK 11 = true := by decide +kernel
theorem bc_12 : bcK 12 = true := by decide +kernel
theorem bc_13 : bcK 13 = true := by decide +kernel
theorem bc_14 : bcK 14 = true := by decide +kernel
theorem bc_15 : bcK 15 = true := by decide +kernel
theorem bc_16 : bcK 16 = true := by decide +kernel
theorem bc_17 : bcK 17 = true := by decide +kernel
theorem bc_18 : bcK 18 = true := by decide +kernel
theorem bc_19 : bcK 19 = true := by decide +kernel
theorem bc_20 : bcK 20 = true := by decide +kernel
theorem bc_21 : bcK 21 = true := by decide +kernel
theorem bc_22 : bcK 22 = true := by decide +kernel
theorem bc_23 : bcK 23 = true := by decide +kernel
theorem bc_24 : bcK 24 = true := by decide +kernel
theorem bc_25 : bcK 25 = true := by decide +kernel
theorem bc_26 : bcK 26 = true := by decide +kernel
theorem bc_27 : bcK 27 = true := by decide +kernel
theorem bc_28 : bcK 28 = true := by decide +kernel
theorem bc_29 : bcK 29 = true := by decide +kernel
theorem bc_30 : bcK 30 = true := by decide +kernel
theorem bc_31 : bcK 31 = true := by decide +kernel
theorem bc_all {a : Nat} (ha : a < 32) : bcK a = true := by
  match a, ha with
  | 0, _ => exact bc_0
  | 1, _ => exact bc_1
  | 2, _ => exact bc_2
  | 3, _ => exact bc_3
  | 4, _ => exact bc_4
  | 5, _ => exact bc_5
  | 6, _ => exact bc_6
  | 7, _ => exact bc_7
  | 8, _ => exact bc_8
  | 9, _ => exact bc_9
  | 10, _ => exact bc_10
  | 11, _ => exact bc_11
  | 12, _ => exact bc_12
  | 13, _ => exact bc_13
  | 14, _ => exact bc_14
  | 15, _ => exact bc_15
  | 16, _ => exact bc_16
  | 17, _ => exact bc_17
  | 18, _ => exact bc_18
  | 19, _ => exact bc_19
  | 20, _ => exact bc_20
  | 21, _ => exact bc_21
  | 22, _ => exact bc_22
  | 23, _ => exact bc_23
  | 24, _ => exact bc_24
  | 25, _ => exact bc_25
  | 26, _ => exact bc_26
  | 27, _ => exact bc_27
  | 28, _ => exact bc_28
  | 29, _ => exact bc_29
  | 30, _ => exact bc_30
  | 31, _ => exact bc_31
  | a + 32, h => omega
theorem bc_pop {n : Nat} (hn : n < 131072) : f_bitCount (Int32.ofNat n) = Int32.ofNat (popF 17 n) := by
  rw [bc_nat (by omega)]
  have h := kall1_ok (bc_all (a := n / 4096) (by omega)) (i := n % 4096) (Nat.mod_lt _ (by decide))
  rw [show n / 4096 * 4096 + n % 4096 = n by omega] at h
  rw [Nat.eq_of_beq_eq_true h]
