/-! the count of bits, checked number by number -/
theorem bc_all : kall1 32 (fun a => kall1 4096 (fun b => Nat.beq (bcN (a * 4096 + b)) (popF 17 (a * 4096 + b)))) = true := by decide +kernel
theorem bc_pop {n : Nat} (hn : n < 131072) : f_bitCount (Int32.ofNat n) = Int32.ofNat (popF 17 n) := by
  rw [bc_nat (by omega)]
  have h := kall1_ok (kall1_ok bc_all (i := n / 4096) (by omega)) (i := n % 4096) (Nat.mod_lt _ (by decide))
  rw [show n / 4096 * 4096 + n % 4096 = n by omega] at h
  rw [Nat.eq_of_beq_eq_true h]
