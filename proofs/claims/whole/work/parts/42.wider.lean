/-! the class's step is the reference's -/
theorem bt_shr1 : kall1 32 (fun k => decide ((Int32.ofNat k &&& 31).toBitVec = BitVec.ofNat 32 k)) = true := by decide +kernel
theorem bt_shlk {x : Int32} {k i : Nat} (hk : k < 32) : bt (x <<< (Int32.ofNat k &&& 31)) i = (decide (i < 32) && (!decide (i < k) && bt x (i - k))) := by
  unfold bt
  have e := of_decide_eq_true (kall1_ok bt_shr1 hk)
  rw [Int32.toBitVec_shiftLeft, e]
  have e2 : (BitVec.ofNat 32 k).smod 32 = BitVec.ofNat 32 k := of_decide_eq_true (kall1_ok (by decide +kernel : kall1 32 (fun k => decide ((BitVec.ofNat 32 k).smod 32 = BitVec.ofNat 32 k)) = true) hk)
  rw [e2, BitVec.shiftLeft_eq', BitVec.toNat_ofNat, Nat.mod_eq_of_lt (by omega), BitVec.getLsbD_shiftLeft]
  simp [Bool.and_assoc]
theorem bt_shrk {x : Int32} {k i : Nat} (hk : k < 32) (hi : k + i < 32) : bt (x >>> (Int32.ofNat k &&& 31)) i = bt x (k + i) := by
  unfold bt
  have e := of_decide_eq_true (kall1_ok bt_shr1 hk)
  rw [Int32.toBitVec_shiftRight, e]
  have e2 : (BitVec.ofNat 32 k).smod 32 = BitVec.ofNat 32 k := of_decide_eq_true (kall1_ok (by decide +kernel : kall1 32 (fun k => decide ((BitVec.ofNat 32 k).smod 32 = BitVec.ofNat 32 k)) = true) hk)
  rw [e2, BitVec.sshiftRight', BitVec.toNat_ofNat, Nat.mod_eq_of_lt (by omega), BitVec.getLsbD_sshiftRight]
  simp [hi]
  omega
theorem bt_1 : kall1 32 (fun i => decide (bt 1 i = decide (i = 0))) = true := by decide +kernel
theorem bt_low {x : Int32} {k : Nat} (hk : k < 32) : ((x >>> (Int32.ofNat k &&& 31)) &&& 1 = 1) ↔ bt x k = true := by
  constructor
  · intro h
    have h1 := congrArg (fun z => bt z 0) h
    simp only [bt_and] at h1
    rw [bt_shrk hk (by omega), of_decide_eq_true (kall1_ok bt_1 (i := 0) (by omega))] at h1
    simpa using h1
  · intro h
    refine bt_ext fun i hi => ?_
    rw [bt_and, of_decide_eq_true (kall1_ok bt_1 hi)]
    by_cases q : i = 0
    · subst q
      rw [bt_shrk hk (by omega)]
      simp [h]
    · simp [q]
theorem bt_low0 {x : Int32} {k : Nat} (hk : k < 32) : ((x >>> (Int32.ofNat k &&& 31)) &&& 1 = 0) ↔ bt x k = false := by
  have h := bt_low (x := x) hk
  constructor
  · intro h0
    cases e : bt x k with
    | false => rfl
    | true =>
      have := h.mpr e
      rw [h0] at this
      exact absurd this (by decide)
  · intro h0
    refine bt_ext fun i hi => ?_
    rw [bt_and, bt_0, of_decide_eq_true (kall1_ok bt_1 hi)]
    by_cases q : i = 0
    · subst q
      rw [bt_shrk hk (by omega)]
      simp [h0]
    · simp [q]
