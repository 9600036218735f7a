/-! the class's step is the reference's -/
theorem bt_shr1 : kall1 32 (fun k => decide ((Int32.ofNat k &&& 31).toBitVec = BitVec.ofNat 32 k)) = true := by decide +kernel
theorem bt_shlk {x : Int32} {k i : Nat} (hk : k < 32) : bt (x <<< (Int32.ofNat k &&& 31)) i = (decide (i < 32) && (!decide (i < k) && bt x (i - k))) := by
  unfold bt
  have e := of_decide_eq_true (kall1_ok bt_shr1 hk)
  rw [Int32.toBitVec_shiftLeft, e]
  have e2 : (BitVec.ofNat 32 k).smod 32 = BitVec.ofNat 32 k := of_decide_eq_true (kall1_ok (by decide +kernel : kall1 32 (fun k => decide ((BitVec.ofNat 32 k).smod 32 = BitVec.ofNat 32 k)) = true) hk)
  rw [e2, BitVec.shiftLeft_eq', BitVec.toNat_ofNat, Nat.mod_eq_of_lt (by omega), BitVec.getLsbD_shiftLeft]
  simp [Bool.and_assoc]
theorem bt_shrk {x : Int32} {k i : Nat} (hk : k < 32) (hi : k + i < 32) : bt (x >>> (Int32.ofNat k &&& 31)) i = bt x (k + i) := by
  unfold bt
  have e := of_decide_eq_true (kall1_ok bt_shr1 hk)
  rw [Int32.toBitVec_shiftRight, e]
  have e2 : (BitVec.ofNat 32 k).smod 32 = BitVec.ofNat 32 k := of_decide_eq_true (kall1_ok (by decide +kernel : kall1 32 (fun k => decide ((BitVec.ofNat 32 k).smod 32 = BitVec.ofNat 32 k)) = true) hk)
  rw [e2, BitVec.sshiftRight', BitVec.toNat_ofNat, Nat.mod_eq_of_lt (by omega), BitVec.getLsbD_sshiftRight]
  simp [hi]
  omega
theorem bt_1 : kall1 32 (fun i => decide (bt 1 i = decide (i = 0))) = true := by decide +kernel
theorem bt_low {x : Int32} {k : Nat} (hk : k < 32) : ((x >>> (Int32.ofNat k &&& 31)) &&& 1 = 1) ↔ bt x k = true := by
  constructor
  · intro h
    have h1 := congrArg (fun z => bt z 0) h
    simp only [bt_and] at h1
    rw [bt_shrk hk (by omega), of_decide_eq_true (kall1_ok bt_1 (i := 0) (by omega))] at h1
    simpa using h1
  · intro h
    refine bt_ext fun i hi => ?_
    rw [bt_and, of_decide_eq_true (kall1_ok bt_1 hi)]
    by_cases q : i = 0
    · subst q
      rw [bt_shrk hk (by omega)]
      simp [h]
    · simp [q]
theorem bt_low0 {x : Int32} {k : Nat} (hk : k < 32) : ((x >>> (Int32.ofNat k &&& 31)) &&& 1 = 0) ↔ bt x k = false := by
  have h := bt_low (x := x) hk
  constructor
  · intro h0
    cases e : bt x k with
    | false => rfl
    | true =>
      have := h.mpr e
      rw [h0] at this
      exact absurd this (by decide)
  · intro h0
    refine bt_ext fun i hi => ?_
    rw [bt_and, bt_0, of_decide_eq_true (kall1_ok bt_1 hi)]
    by_cases q : i = 0
    · subst q
      rw [bt_shrk hk (by omega)]
      simp [h0]
    · simp [q]
def kEn (j : Nat) : Nat := (kE.getD j 0).toNatClampNeg
def kNn (j : Nat) : Nat := (kN.getD j 0).toNatClampNeg
theorem kEN_ok : kall1 48 (fun j => decide (kE.getD j 0 < 0) || (decide (kEn j < 17) && decide (kE.getD j 0 = Int32.ofNat (kEn j)) && decide (kNn j < 12) && decide (kN.getD j 0 = Int32.ofNat (kNn j)))) = true := by decide +kernel
/-- a step by which i is come to -/
def hit (p q : Nat → Bool) (j i : Nat) : Bool := decide (0 ≤ kE.getD j 0 ∧ i = kNn j) && (p (j / 4) && !(q (kEn j)))
def hitR (p q : Nat → Bool) (i : Nat) : Nat → Bool
  | 0 => false
  | k + 1 => hit p q (47 - k) i || hitR p q i k
theorem onwS_bt (c l x : Int32) {j : Nat} (hj : j < 48) (i : Nat) : bt (onwS c l x j) i = (bt x i || hit (bt c) (bt l) j i) := by
  have e0 := kall1_ok kE_cf hj
  simp only [Bool.and_eq_true, decide_eq_true_eq] at e0
  have e := kall1_ok kEN_ok hj
  simp only [Bool.or_eq_true, Bool.and_eq_true, decide_eq_true_eq] at e
  unfold onwS
  rw [bt_or]
  congr 1
  rcases e with e | ⟨⟨⟨e1, e2⟩, e3⟩, e4⟩
  · have h1 : ¬ 0 ≤ kE.getD j 0 := Int32.not_le.mpr e
    rw [if_neg (fun z => h1 z.2.1), bt_0]
    unfold hit
    rw [decide_eq_false (fun z => h1 z.1)]
    rfl
  · have hc : (c >>> ((Int32.ofNat j / 4) &&& 31)) &&& 1 = 1 ↔ bt c (j / 4) = true := by
      rw [← e0.1]
      exact bt_low (by omega)
    have hl : (l >>> ((kE.getD j 0) &&& 31)) &&& 1 = 0 ↔ bt l (kEn j) = false := by
      rw [e2]
      exact bt_low0 (by omega)
    unfold hit
    by_cases q : (c >>> ((Int32.ofNat j / 4) &&& 31)) &&& 1 = 1 ∧ 0 ≤ kE.getD j 0 ∧ (l >>> ((kE.getD j 0) &&& 31)) &&& 1 = 0
    · rw [if_pos q, e4, bt_shl (by omega), hc.mp q.1, hl.mp q.2.2]
      simp only [q.2.1, true_and, Bool.not_false, Bool.and_self, Bool.and_true]
    · rw [if_neg q, bt_0]
      cases hb : (bt c (j / 4) && !(bt l (kEn j))) with
      | false => simp
      | true =>
        simp only [Bool.and_eq_true, Bool.not_eq_true'] at hb
        by_cases z : 0 ≤ kE.getD j 0
        · exact absurd ⟨hc.mpr hb.1, z, hl.mpr hb.2⟩ q
        · rw [decide_eq_false (fun w => z w.1)]
          rfl
theorem onwR_bt (c l : Int32) (i : Nat) : ∀ (k : Nat) (x : Int32), k ≤ 48 → bt (onwR c l k x) i = (bt x i || hitR (bt c) (bt l) i k)
  | 0, x, _ => by simp [onwR, hitR]
  | k + 1, x, hk => by
    unfold onwR hitR
    rw [onwR_bt c l i k _ (by omega), onwS_bt c l x (by omega), Bool.or_assoc]
theorem onw_bt (c l : Int32) (i : Nat) : bt (onw c l) i = (bt c i || hitR (bt c) (bt l) i 48) := onwR_bt c l i 48 c (Nat.le_refl _)
theorem bs1 (x : Int32) (i : Nat) : bt (x <<< ((1 : Int32) &&& 31)) i = (decide (i < 32) && (!decide (i < 1) && bt x (i - 1))) := bt_shlk (k := 1) (by decide)
theorem bs2 (x : Int32) (i : Nat) : bt (x <<< ((2 : Int32) &&& 31)) i = (decide (i < 32) && (!decide (i < 2) && bt x (i - 2))) := bt_shlk (k := 2) (by decide)
theorem bs4 (x : Int32) (i : Nat) : bt (x <<< ((4 : Int32) &&& 31)) i = (decide (i < 32) && (!decide (i < 4) && bt x (i - 4))) := bt_shlk (k := 4) (by decide)
theorem br1 (x : Int32) {i : Nat} (hi : 1 + i < 32) : bt (x >>> ((1 : Int32) &&& 31)) i = bt x (1 + i) := bt_shrk (k := 1) (by decide) hi
theorem br4 (x : Int32) {i : Nat} (hi : 4 + i < 32) : bt (x >>> ((4 : Int32) &&& 31)) i = bt x (4 + i) := bt_shrk (k := 4) (by decide) hi
theorem br9 (x : Int32) {i : Nat} (hi : 9 + i < 32) : bt (x >>> ((9 : Int32) &&& 31)) i = bt x (9 + i) := bt_shrk (k := 9) (by decide) hi
theorem bt_m1 : kall1 32 (fun i => bt (-1) i) = true := by decide +kernel
theorem bt_not (x : Int32) {i : Nat} (hi : i < 32) : bt (x ^^^ (-1)) i = !(bt x i) := by
  have h := kall1_ok bt_m1 hi
  unfold bt at h ⊢
  rw [Int32.toBitVec_xor, BitVec.getLsbD_xor, h]
  cases x.toBitVec.getLsbD i <;> rfl
def bRm : Nat := 7 + 56 * 2 + 448 * 4
theorem bk7 : kall1 32 (fun i => bt 7 i == decide (i < 3)) = true := by decide +kernel
theorem bk56 : kall1 32 (fun i => bt 56 i == (decide (3 ≤ i) && decide (i < 6))) = true := by decide +kernel
theorem bk448 : kall1 32 (fun i => bt 448 i == (decide (6 ≤ i) && decide (i < 9))) = true := by decide +kernel
theorem bk255 : kall1 32 (fun i => bt 255 i == decide (i < 8)) = true := by decide +kernel
theorem bR (l : Int32) {j : Nat} (hj : j < 32) : bt (f_cRight l) j = ((!(bt l j) && decide (j < 3)) || (!decide (j < 1) && (!(bt l (j - 1)) && (decide (3 ≤ j - 1) && decide (j - 1 < 6)))) || (!decide (j < 2) && (!(bt l (j - 2)) && (decide (6 ≤ j - 2) && decide (j - 2 < 9))))) := by
  unfold f_cRight
  rw [bt_or, bt_or, bt_and, bs1, bs2, bt_and, bt_and, bt_not l hj, bt_not l (show j - 1 < 32 by omega), bt_not l (show j - 2 < 32 by omega), eq_of_beq (kall1_ok bk7 hj), eq_of_beq (kall1_ok bk56 (show j - 1 < 32 by omega)), eq_of_beq (kall1_ok bk448 (show j - 2 < 32 by omega)), decide_eq_true hj]
  simp only [Bool.true_and]
theorem bD (l : Int32) {j : Nat} (hj : j < 8) : bt (f_cDown l) j = !(bt l (9 + j)) := by
  unfold f_cDown
  rw [bt_and, br9 _ (by omega), bt_not l (by omega), eq_of_beq (kall1_ok bk255 (show j < 32 by omega)), decide_eq_true hj, Bool.and_true]
theorem bD0 (l : Int32) {j : Nat} (hj : j < 32) (h8 : 8 ≤ j) : bt (f_cDown l) j = false := by
  unfold f_cDown
  rw [bt_and, eq_of_beq (kall1_ok bk255 hj), decide_eq_false (by omega), Bool.and_false]
theorem bW (c r q : Int32) {i : Nat} (hi : i < 32) (h1 : ok12 c) (hr : ∀ j, 11 ≤ j → j < 32 → bt r j = false) (hq : ∀ j, 8 ≤ j → j < 32 → bt q j = false) : bt (f_cWider c r q) i = (bt c i || (!decide (i < 1) && (bt c (i - 1) && bt r (i - 1))) || (bt c (i + 1) && bt r i) || (!decide (i < 4) && (bt c (i - 4) && bt q (i - 4))) || (bt c (i + 4) && bt q i)) := by
  have e1 : (bt (c >>> ((1 : Int32) &&& 31)) i && bt r i) = (bt c (i + 1) && bt r i) := by
    by_cases h : i < 11
    · rw [br1 _ (by omega), Nat.add_comm]
    · rw [hr i (by omega) hi, Bool.and_false, Bool.and_false]
  have e4 : (bt (c >>> ((4 : Int32) &&& 31)) i && bt q i) = (bt c (i + 4) && bt q i) := by
    by_cases h : i < 8
    · rw [br4 _ (by omega), Nat.add_comm]
    · rw [hq i (by omega) hi, Bool.and_false, Bool.and_false]
  unfold f_cWider
  rw [bt_or, bt_or, bt_or, bt_or, bs1, bs4, bt_and, bt_and, bt_and, bt_and, decide_eq_true hi, e1, e4]
  simp only [Bool.true_and]
theorem bR0 (l : Int32) : ∀ j, 11 ≤ j → j < 32 → bt (f_cRight l) j = false := by
  intro j h1 h2
  rw [bR l h2, decide_eq_false (show ¬ j < 3 by omega), decide_eq_false (show ¬ j - 1 < 6 by omega), decide_eq_false (show ¬ j - 2 < 9 by omega)]
  simp
theorem hit_0 (p q : Nat → Bool) : hitR p q 0 48 = ((p 1 && !(q 0)) || ((p 4 && !(q 9)) || false)) := rfl
theorem wid_0 {c l : Int32} (h : ok12 c) : bt (f_cWider c (f_cRight l) (f_cDown l)) 0 = bt (onw c l) 0 := by
  rw [onw_bt, hit_0, bW c _ _ (by decide) h (bR0 l) (fun j h1 h2 => bD0 l h2 h1)]
  simp [bR, bD, bD0, Bool.or_comm, Bool.or_left_comm, Bool.or_assoc, h 12 (by decide), h 13 (by decide), h 14 (by decide), h 15 (by decide)]
theorem hit_1 (p q : Nat → Bool) : hitR p q 1 48 = ((p 0 && !(q 0)) || ((p 2 && !(q 1)) || ((p 5 && !(q 10)) || false))) := rfl
theorem wid_1 {c l : Int32} (h : ok12 c) : bt (f_cWider c (f_cRight l) (f_cDown l)) 1 = bt (onw c l) 1 := by
  rw [onw_bt, hit_1, bW c _ _ (by decide) h (bR0 l) (fun j h1 h2 => bD0 l h2 h1)]
  simp [bR, bD, bD0, Bool.or_comm, Bool.or_left_comm, Bool.or_assoc, h 12 (by decide), h 13 (by decide), h 14 (by decide), h 15 (by decide)]
theorem hit_2 (p q : Nat → Bool) : hitR p q 2 48 = ((p 1 && !(q 1)) || ((p 3 && !(q 2)) || ((p 6 && !(q 11)) || false))) := rfl
theorem wid_2 {c l : Int32} (h : ok12 c) : bt (f_cWider c (f_cRight l) (f_cDown l)) 2 = bt (onw c l) 2 := by
  rw [onw_bt, hit_2, bW c _ _ (by decide) h (bR0 l) (fun j h1 h2 => bD0 l h2 h1)]
  simp [bR, bD, bD0, Bool.or_comm, Bool.or_left_comm, Bool.or_assoc, h 12 (by decide), h 13 (by decide), h 14 (by decide), h 15 (by decide)]
theorem hit_3 (p q : Nat → Bool) : hitR p q 3 48 = ((p 2 && !(q 2)) || ((p 7 && !(q 12)) || false)) := rfl
theorem wid_3 {c l : Int32} (h : ok12 c) : bt (f_cWider c (f_cRight l) (f_cDown l)) 3 = bt (onw c l) 3 := by
  rw [onw_bt, hit_3, bW c _ _ (by decide) h (bR0 l) (fun j h1 h2 => bD0 l h2 h1)]
  simp [bR, bD, bD0, Bool.or_comm, Bool.or_left_comm, Bool.or_assoc, h 12 (by decide), h 13 (by decide), h 14 (by decide), h 15 (by decide)]
theorem hit_4 (p q : Nat → Bool) : hitR p q 4 48 = ((p 0 && !(q 9)) || ((p 5 && !(q 3)) || ((p 8 && !(q 13)) || false))) := rfl
theorem wid_4 {c l : Int32} (h : ok12 c) : bt (f_cWider c (f_cRight l) (f_cDown l)) 4 = bt (onw c l) 4 := by
  rw [onw_bt, hit_4, bW c _ _ (by decide) h (bR0 l) (fun j h1 h2 => bD0 l h2 h1)]
  simp [bR, bD, bD0, Bool.or_comm, Bool.or_left_comm, Bool.or_assoc, h 12 (by decide), h 13 (by decide), h 14 (by decide), h 15 (by decide)]
theorem hit_5 (p q : Nat → Bool) : hitR p q 5 48 = ((p 1 && !(q 10)) || ((p 4 && !(q 3)) || ((p 6 && !(q 4)) || ((p 9 && !(q 14)) || false)))) := rfl
theorem wid_5 {c l : Int32} (h : ok12 c) : bt (f_cWider c (f_cRight l) (f_cDown l)) 5 = bt (onw c l) 5 := by
  rw [onw_bt, hit_5, bW c _ _ (by decide) h (bR0 l) (fun j h1 h2 => bD0 l h2 h1)]
  simp [bR, bD, bD0, Bool.or_comm, Bool.or_left_comm, Bool.or_assoc, h 12 (by decide), h 13 (by decide), h 14 (by decide), h 15 (by decide)]
theorem hit_6 (p q : Nat → Bool) : hitR p q 6 48 = ((p 2 && !(q 11)) || ((p 5 && !(q 4)) || ((p 7 && !(q 5)) || ((p 10 && !(q 15)) || false)))) := rfl
theorem wid_6 {c l : Int32} (h : ok12 c) : bt (f_cWider c (f_cRight l) (f_cDown l)) 6 = bt (onw c l) 6 := by
  rw [onw_bt, hit_6, bW c _ _ (by decide) h (bR0 l) (fun j h1 h2 => bD0 l h2 h1)]
  simp [bR, bD, bD0, Bool.or_comm, Bool.or_left_comm, Bool.or_assoc, h 12 (by decide), h 13 (by decide), h 14 (by decide), h 15 (by decide)]
theorem hit_7 (p q : Nat → Bool) : hitR p q 7 48 = ((p 3 && !(q 12)) || ((p 6 && !(q 5)) || ((p 11 && !(q 16)) || false))) := rfl
theorem wid_7 {c l : Int32} (h : ok12 c) : bt (f_cWider c (f_cRight l) (f_cDown l)) 7 = bt (onw c l) 7 := by
  rw [onw_bt, hit_7, bW c _ _ (by decide) h (bR0 l) (fun j h1 h2 => bD0 l h2 h1)]
  simp [bR, bD, bD0, Bool.or_comm, Bool.or_left_comm, Bool.or_assoc, h 12 (by decide), h 13 (by decide), h 14 (by decide), h 15 (by decide)]
theorem hit_8 (p q : Nat → Bool) : hitR p q 8 48 = ((p 4 && !(q 13)) || ((p 9 && !(q 6)) || false)) := rfl
theorem wid_8 {c l : Int32} (h : ok12 c) : bt (f_cWider c (f_cRight l) (f_cDown l)) 8 = bt (onw c l) 8 := by
  rw [onw_bt, hit_8, bW c _ _ (by decide) h (bR0 l) (fun j h1 h2 => bD0 l h2 h1)]
  simp [bR, bD, bD0, Bool.or_comm, Bool.or_left_comm, Bool.or_assoc, h 12 (by decide), h 13 (by decide), h 14 (by decide), h 15 (by decide)]
theorem hit_9 (p q : Nat → Bool) : hitR p q 9 48 = ((p 5 && !(q 14)) || ((p 8 && !(q 6)) || ((p 10 && !(q 7)) || false))) := rfl
theorem wid_9 {c l : Int32} (h : ok12 c) : bt (f_cWider c (f_cRight l) (f_cDown l)) 9 = bt (onw c l) 9 := by
  rw [onw_bt, hit_9, bW c _ _ (by decide) h (bR0 l) (fun j h1 h2 => bD0 l h2 h1)]
  simp [bR, bD, bD0, Bool.or_comm, Bool.or_left_comm, Bool.or_assoc, h 12 (by decide), h 13 (by decide), h 14 (by decide), h 15 (by decide)]
theorem hit_10 (p q : Nat → Bool) : hitR p q 10 48 = ((p 6 && !(q 15)) || ((p 9 && !(q 7)) || ((p 11 && !(q 8)) || false))) := rfl
theorem wid_10 {c l : Int32} (h : ok12 c) : bt (f_cWider c (f_cRight l) (f_cDown l)) 10 = bt (onw c l) 10 := by
  rw [onw_bt, hit_10, bW c _ _ (by decide) h (bR0 l) (fun j h1 h2 => bD0 l h2 h1)]
  simp [bR, bD, bD0, Bool.or_comm, Bool.or_left_comm, Bool.or_assoc, h 12 (by decide), h 13 (by decide), h 14 (by decide), h 15 (by decide)]
theorem hit_11 (p q : Nat → Bool) : hitR p q 11 48 = ((p 7 && !(q 16)) || ((p 10 && !(q 8)) || false)) := rfl
theorem wid_11 {c l : Int32} (h : ok12 c) : bt (f_cWider c (f_cRight l) (f_cDown l)) 11 = bt (onw c l) 11 := by
  rw [onw_bt, hit_11, bW c _ _ (by decide) h (bR0 l) (fun j h1 h2 => bD0 l h2 h1)]
  simp [bR, bD, bD0, Bool.or_comm, Bool.or_left_comm, Bool.or_assoc, h 12 (by decide), h 13 (by decide), h 14 (by decide), h 15 (by decide)]
theorem wid_hi {c l : Int32} (h : ok12 c) {i : Nat} (hi : i < 32) (h12 : 12 ≤ i) : bt (f_cWider c (f_cRight l) (f_cDown l)) i = false := by
  rw [bW c _ _ hi h (bR0 l) (fun j h1 h2 => bD0 l h2 h1), h i h12, h (i + 1) (by omega), h (i + 4) (by omega), bR0 l (i - 1) (by omega) (by omega), bD0 l (show i - 4 < 32 by omega) (by omega)]
  simp
theorem wider_onw {c : Int32} (h : ok12 c) (l : Int32) : f_cWider c (f_cRight l) (f_cDown l) = onw c l := by
  refine bt_ext fun i hi => ?_
  by_cases h12 : 12 ≤ i
  · rw [wid_hi h hi h12]
    exact (onwR_ok c l 48 c (Nat.le_refl _) h i h12).symm
  · match i, h12 with
    | 0, _ => exact wid_0 h
    | 1, _ => exact wid_1 h
    | 2, _ => exact wid_2 h
    | 3, _ => exact wid_3 h
    | 4, _ => exact wid_4 h
    | 5, _ => exact wid_5 h
    | 6, _ => exact wid_6 h
    | 7, _ => exact wid_7 h
    | 8, _ => exact wid_8 h
    | 9, _ => exact wid_9 h
    | 10, _ => exact wid_10 h
    | 11, _ => exact wid_11 h
    | i + 12, h12 => exact absurd (by omega) h12
set_option maxHeartbeats 4000000 in
theorem t_csB {d : Nat} {Q : KO → Prop} {h : KH} {c0 l x : Int32} {j : Nat} {z : Option Value} (hj : j < 12) (hd : 1 ≤ d) (hQ : (¬ (f_cWider x (f_cRight l) (f_cDown l)) = x → Wp d 22 18 ([some (.int (c0)), some (.int (l)), some (.int (f_cRight l)), some (.int (f_cDown l)), some (.int (f_cWider x (f_cRight l) (f_cDown l))), some (.int ((Int32.ofNat j) + 1)), some (.int (f_cWider x (f_cRight l) (f_cDown l)))]) [] h Q) ∧ (¬ (¬ (f_cWider x (f_cRight l) (f_cDown l)) = x) → Q (some (.int ((4095 : Int32) &&& (x ^^^ (-1 : Int32)))), h))) : Wp d 22 18 [some (.int (c0)), some (.int (l)), some (.int (f_cRight l)), some (.int (f_cDown l)), some (.int (x)), some (.int (Int32.ofNat j)), z] [] h Q := by
  refine Wp.seg 2 (pc1 := 22) (ls1 := [some (.int (c0)), some (.int (l)), some (.int (f_cRight l)), some (.int (f_cDown l)), some (.int (x)), some (.int (Int32.ofNat j)), z]) (st1 := [.int (12), .int (Int32.ofNat j)]) rfl ?_
  refine Wp.if2 rfl (fun c1 => absurd c1 (fun c => by have := (ole (a := 12) (by omega) (by omega)).mp c; omega)) (fun c1 => ?_)
  refine Wp.seg 3 (pc1 := 29) (ls1 := [some (.int (c0)), some (.int (l)), some (.int (f_cRight l)), some (.int (f_cDown l)), some (.int (x)), some (.int (Int32.ofNat j)), z]) (st1 := [.int (f_cDown l), .int (f_cRight l), .int (x)]) rfl ?_
  refine Wp.inv (d2 := 0) (as := [.int (x), .int (f_cRight l), .int (f_cDown l)]) (r := []) rfl rfl rfl rfl rfl rfl (by omega) (s_cWider (Nat.le_refl _) ?_)
  show Wp d 22 32 [some (.int (c0)), some (.int (l)), some (.int (f_cRight l)), some (.int (f_cDown l)), some (.int (x)), some (.int (Int32.ofNat j)), z] [.int (f_cWider x (f_cRight l) (f_cDown l))] h Q
  refine Wp.seg 3 (pc1 := 38) (ls1 := [some (.int (c0)), some (.int (l)), some (.int (f_cRight l)), some (.int (f_cDown l)), some (.int (x)), some (.int (Int32.ofNat j)), some (.int (f_cWider x (f_cRight l) (f_cDown l)))]) (st1 := [.int (x), .int (f_cWider x (f_cRight l) (f_cDown l))]) rfl ?_
  refine Wp.if2 rfl (fun (c2 : ¬ (f_cWider x (f_cRight l) (f_cDown l)) = x) => ?_) (fun (c2 : ¬ (¬ (f_cWider x (f_cRight l) (f_cDown l)) = x)) => ?_)
  · refine Wp.seg 4 (pc1 := 18) (ls1 := [some (.int (c0)), some (.int (l)), some (.int (f_cRight l)), some (.int (f_cDown l)), some (.int (f_cWider x (f_cRight l) (f_cDown l))), some (.int ((Int32.ofNat j) + 1)), some (.int (f_cWider x (f_cRight l) (f_cDown l)))]) (st1 := []) rfl ?_
    exact (hQ.1 c2)
  · refine Wp.seg 6 (pc1 := 62) (ls1 := [some (.int (c0)), some (.int (l)), some (.int (f_cRight l)), some (.int (f_cDown l)), some (.int (x)), some (.int (Int32.ofNat j)), some (.int (f_cWider x (f_cRight l) (f_cDown l)))]) (st1 := [.int ((4095 : Int32) &&& (x ^^^ (-1 : Int32)))]) rfl ?_
    exact Wp.reti rfl rfl (hQ.2 c2)
set_option maxHeartbeats 4000000 in
theorem t_csE {d : Nat} {Q : KO → Prop} {h : KH} {c0 l x : Int32} {z : Option Value} (hd : 0 ≤ d) (hQ : Q (some (.int ((4095 : Int32) &&& (x ^^^ (-1 : Int32)))), h)) : Wp d 22 18 [some (.int (c0)), some (.int (l)), some (.int (f_cRight l)), some (.int (f_cDown l)), some (.int (x)), some (.int (12)), z] [] h Q := by
  refine Wp.seg 2 (pc1 := 22) (ls1 := [some (.int (c0)), some (.int (l)), some (.int (f_cRight l)), some (.int (f_cDown l)), some (.int (x)), some (.int (12)), z]) (st1 := [.int (12), .int (12)]) rfl ?_
  refine Wp.if2 rfl (fun c1 => ?_) (fun c1 => absurd (Int32.le_refl _) c1)
  refine Wp.seg 5 (pc1 := 62) (ls1 := [some (.int (c0)), some (.int (l)), some (.int (f_cRight l)), some (.int (f_cDown l)), some (.int (x)), some (.int (12)), z]) (st1 := [.int ((4095 : Int32) &&& (x ^^^ (-1 : Int32)))]) rfl ?_
  exact Wp.reti rfl rfl hQ
set_option maxHeartbeats 4000000 in
theorem t_cs {d : Nat} {Q : KO → Prop} {h : KH} {c0 l : Int32} (hd : 1 ≤ d) (hQ : Wp d 22 18 ([some (.int (c0)), some (.int (l)), some (.int (f_cRight l)), some (.int (f_cDown l)), some (.int ((1 : Int32) <<< (c0 &&& 31))), some (.int (0)), none]) [] h Q) : Cl d 22 [.int (c0), .int (l)] h Q := by
  refine Cl.of (ls := [some (.int (c0)), some (.int (l)), none, none, none, none, none]) rfl rfl ?_
  refine Wp.seg 1 (pc1 := 1) (ls1 := [some (.int (c0)), some (.int (l)), none, none, none, none, none]) (st1 := [.int (l)]) rfl ?_
  refine Wp.inv (d2 := 0) (as := [.int (l)]) (r := []) rfl rfl rfl rfl rfl rfl (by omega) (s_cRight (Nat.le_refl _) ?_)
  show Wp d 22 4 [some (.int (c0)), some (.int (l)), none, none, none, none, none] [.int (f_cRight l)] h Q
  refine Wp.seg 2 (pc1 := 6) (ls1 := [some (.int (c0)), some (.int (l)), some (.int (f_cRight l)), none, none, none, none]) (st1 := [.int (l)]) rfl ?_
  refine Wp.inv (d2 := 0) (as := [.int (l)]) (r := []) rfl rfl rfl rfl rfl rfl (by omega) (s_cDown (Nat.le_refl _) ?_)
  show Wp d 22 9 [some (.int (c0)), some (.int (l)), some (.int (f_cRight l)), none, none, none, none] [.int (f_cDown l)] h Q
  refine Wp.seg 7 (pc1 := 18) (ls1 := [some (.int (c0)), some (.int (l)), some (.int (f_cRight l)), some (.int (f_cDown l)), some (.int ((1 : Int32) <<< (c0 &&& 31))), some (.int (0)), none]) (st1 := []) rfl ?_
  exact hQ
theorem s_csL {d : Nat} {Q : KO → Prop} {h : KH} (hd : 1 ≤ d) {c0 l : Int32} : ∀ (k : Nat) (x : Int32) (z : Option Value), k ≤ 12 → ok12 x → Q (some (.int ((4095 : Int32) &&& (itS l k x ^^^ (-1)))), h) → Wp d 22 18 [some (.int c0), some (.int l), some (.int (f_cRight l)), some (.int (f_cDown l)), some (.int x), some (.int (Int32.ofNat (12 - k))), z] [] h Q
  | 0, x, z, _, _, hQ => t_csE (Nat.zero_le _) hQ
  | k + 1, x, z, hk, hx, hQ => by
    have ej : 12 - (k + 1) = 11 - k := by omega
    rw [ej]
    refine t_csB (by omega) hd ?_
    rw [wider_onw hx]
    refine ⟨fun c => ?_, fun c => ?_⟩
    · have e1 : Int32.ofNat (11 - k) + 1 = Int32.ofNat (12 - k) := by
        have := ofadd (11 - k) 1
        rw [show 11 - k + 1 = 12 - k by omega] at this
        exact this
      rw [e1]
      exact s_csL hd k (onw x l) _ (by omega) (onwR_ok x l 48 x (Nat.le_refl _) hx) hQ
    · have e : onw x l = x := Decidable.not_not.mp c
      rw [itS_fix e] at hQ
      exact hQ
theorem s_cshut {d : Nat} {Q : KO → Prop} {h : KH} (hd : 1 ≤ d) {c : Nat} {l : Int32} (hc : c < 12) (hQ : Q (some (.int (shutS (Int32.ofNat c) l)), h)) : Cl d 22 [.int (Int32.ofNat c), .int l] h Q :=
  t_cs hd (s_csL hd 12 _ _ (Nat.le_refl _) (ok12_one hc) hQ)
