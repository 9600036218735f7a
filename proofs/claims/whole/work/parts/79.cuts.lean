/-! cuts: the fewest edges are those that leave some set round home -/
def eAl : List Nat := [0, 1, 2, 4, 5, 6, 8, 9, 10, 0, 1, 2, 3, 4, 5, 6, 7]
def eBl : List Nat := [1, 2, 3, 5, 6, 7, 9, 10, 11, 4, 5, 6, 7, 8, 9, 10, 11]
def eA (e : Nat) : Nat := eAl.getD e 0
def eB (e : Nat) : Nat := eBl.getD e 0
theorem bs9 (x : Int32) (i : Nat) : bt (x <<< ((9 : Int32) &&& 31)) i = (decide (i < 32) && (!decide (i < 9) && bt x (i - 9))) := bt_shlk (k := 9) (by decide)
theorem br2 (x : Int32) {i : Nat} (hi : 2 + i < 32) : bt (x >>> ((2 : Int32) &&& 31)) i = bt x (2 + i) := bt_shrk (k := 2) (by decide) hi
theorem bk7' {i : Nat} (h : i < 32) : bt 7 i = decide (i < 3) := by simpa using kall1_ok bk7 h
theorem bk56' {i : Nat} (h : i < 32) : bt 56 i = (decide (3 ≤ i) && decide (i < 6)) := by simpa using kall1_ok bk56 h
theorem bk448' {i : Nat} (h : i < 32) : bt 448 i = (decide (6 ≤ i) && decide (i < 9)) := by simpa using kall1_ok bk448 h
theorem bk255' {i : Nat} (h : i < 32) : bt 255 i = decide (i < 8) := by simpa using kall1_ok bk255 h
theorem lv_raw (c : Int32) {e : Nat} (he : e < 17) : bt (f_cLeaving c) e = ((((bt c e ^^ bt c (1 + e)) && decide (e < 3)) || ((bt c (1 + e) ^^ bt c (1 + (1 + e))) && (decide (3 ≤ e) && decide (e < 6)))) || ((bt c (2 + e) ^^ bt c (1 + (2 + e))) && (decide (6 ≤ e) && decide (e < 9))) || (!decide (e < 9) && ((bt c (e - 9) ^^ bt c (4 + (e - 9))) && decide (e - 9 < 8)))) := by
  unfold f_cLeaving
  rw [bt_or, bt_or, bt_or, bt_and, bt_and, bt_and, bs9, bt_and, br1 _ (by omega), br2 _ (by omega), bt_xor, bt_xor, bt_xor, bt_xor, br1 _ (by omega), br1 _ (by omega), br1 _ (by omega), br4 _ (by omega), bk7' (by omega), bk56' (by omega), bk448' (by omega), bk255' (by omega), decide_eq_true (p := e < 32) (by omega), Bool.true_and]
theorem lv_bt (c : Int32) {e : Nat} (he : e < 17) : bt (f_cLeaving c) e = (bt c (eA e) ^^ bt c (eB e)) := by
  rw [lv_raw c he]
  have h17 : e = 0 ∨ e = 1 ∨ e = 2 ∨ e = 3 ∨ e = 4 ∨ e = 5 ∨ e = 6 ∨ e = 7 ∨ e = 8 ∨ e = 9 ∨ e = 10 ∨ e = 11 ∨ e = 12 ∨ e = 13 ∨ e = 14 ∨ e = 15 ∨ e = 16 := by omega
  rcases h17 with rfl | rfl | rfl | rfl | rfl | rfl | rfl | rfl | rfl | rfl | rfl | rfl | rfl | rfl | rfl | rfl | rfl <;> simp [eA, eB, eAl, eBl]
theorem lv_hi (c : Int32) {e : Nat} (he : e < 32) (h : 17 ≤ e) : bt (f_cLeaving c) e = false := by
  unfold f_cLeaving
  rw [bt_or, bt_or, bt_or, bt_and, bt_and, bt_and, bs9, bt_and, bk7' he, bk56' he, bk448' he, bk255' (by omega), decide_eq_false (p := e < 3) (by omega), decide_eq_false (p := e < 6) (by omega), decide_eq_false (p := e < 9) (by omega), decide_eq_false (p := e - 9 < 8) (by omega)]
  simp
theorem hitR_ex (p q : Nat → Bool) (i : Nat) : ∀ k, k ≤ 48 → (hitR p q i k = true ↔ ∃ j, 48 - k ≤ j ∧ j < 48 ∧ hit p q j i = true)
  | 0, _ => by
    constructor
    · intro h
      cases h
    · rintro ⟨j, h1, h2, -⟩
      omega
  | k + 1, hk => by
    have ih := hitR_ex p q i k (by omega)
    show (hit p q (47 - k) i || hitR p q i k) = true ↔ _
    rw [Bool.or_eq_true, ih]
    constructor
    · rintro (h | ⟨j, h1, h2, h3⟩)
      · exact ⟨47 - k, by omega, by omega, h⟩
      · exact ⟨j, by omega, h2, h3⟩
    · rintro ⟨j, h1, h2, h3⟩
      by_cases e : j = 47 - k
      · subst e
        exact Or.inl h3
      · exact Or.inr ⟨j, by omega, h2, h3⟩
theorem onw_ex (c l : Int32) (i : Nat) : bt (onw c l) i = true ↔ bt c i = true ∨ ∃ j, j < 48 ∧ 0 ≤ kE.getD j 0 ∧ i = kNn j ∧ bt c (j / 4) = true ∧ bt l (kEn j) = false := by
  rw [onw_bt, Bool.or_eq_true, hitR_ex _ _ _ 48 (Nat.le_refl _)]
  constructor
  · rintro (h | ⟨j, -, h2, h3⟩)
    · exact Or.inl h
    · unfold hit at h3
      simp only [Bool.and_eq_true, decide_eq_true_eq, Bool.not_eq_true'] at h3
      exact Or.inr ⟨j, h2, h3.1.1, h3.1.2, h3.2.1, h3.2.2⟩
  · rintro (h | ⟨j, h1, h2, h3, h4, h5⟩)
    · exact Or.inl h
    · refine Or.inr ⟨j, by omega, h1, ?_⟩
      unfold hit
      simp only [Bool.and_eq_true, decide_eq_true_eq, Bool.not_eq_true']
      exact ⟨⟨h2, h3⟩, h4, h5⟩
theorem jT1 : kall1 48 (fun j => decide (kE.getD j 0 < 0) || (decide (j / 4 = eA (kEn j) ∧ kNn j = eB (kEn j)) || decide (j / 4 = eB (kEn j) ∧ kNn j = eA (kEn j)))) = true := by decide +kernel
theorem jT2 : kall1 17 (fun e => (List.range 48).any (fun j => decide (0 ≤ kE.getD j 0 ∧ kEn j = e ∧ j / 4 = eA e ∧ kNn j = eB e)) && (List.range 48).any (fun j => decide (0 ≤ kE.getD j 0 ∧ kEn j = e ∧ j / 4 = eB e ∧ kNn j = eA e))) = true := by decide +kernel
/-- who stays on a side whose leaving edges are lines, stays -/
theorem stay {x l : Int32} (hl : ∀ e, e < 17 → bt (f_cLeaving x) e = true → bt l e = true) {y : Int32} (hy : ∀ i, bt y i = true → bt x i = true) : ∀ i, bt (onw y l) i = true → bt x i = true := by
  intro i hi
  rcases (onw_ex y l i).mp hi with h | ⟨j, h1, h2, h3, h4, h5⟩
  · exact hy i h
  · have hx := hy _ h4
    have hj := kall1_ok jT1 h1
    simp only [Bool.or_eq_true, decide_eq_true_eq] at hj
    have hj2 := hj.resolve_left (Int32.not_lt.mpr h2)
    have he : kEn j < 17 := by
      have := kall1_ok kEN_ok h1
      simp only [Bool.or_eq_true, Bool.and_eq_true, decide_eq_true_eq] at this
      exact (this.resolve_left (Int32.not_lt.mpr h2)).1.1.1
    cases e : bt x i with
    | true => rfl
    | false =>
      have hlv : bt (f_cLeaving x) (kEn j) = true := by
        rw [lv_bt x he]
        rcases hj2 with ⟨a1, a2⟩ | ⟨a1, a2⟩
        · rw [← a1, ← a2, ← h3, hx, e]
          rfl
        · rw [← a1, ← a2, ← h3, hx, e]
          rfl
      rw [hl _ he hlv] at h5
      cases h5
theorem stayL {x l : Int32} (hl : ∀ e, e < 17 → bt (f_cLeaving x) e = true → bt l e = true) : ∀ (k : Nat) (y : Int32), (∀ i, bt y i = true → bt x i = true) → ∀ i, bt (itS l k y) i = true → bt x i = true
  | 0, y, hy => hy
  | k + 1, y, hy => stayL hl k (onw y l) (stay hl hy)
theorem itS_ok (l : Int32) : ∀ (k : Nat) (y : Int32), ok12 y → ok12 (itS l k y)
  | 0, _, h => h
  | k + 1, y, h => itS_ok l k (onw y l) (ok12_onw h)
theorem itS_sub (l : Int32) : ∀ (k : Nat) (y : Int32) (i : Nat), bt y i = true → bt (itS l k y) i = true
  | 0, _, _, h => h
  | k + 1, y, i, h => itS_sub l k (onw y l) i ((onw_ex y l i).mpr (Or.inl h))
theorem b4095 : kall1 32 (fun i => bt 4095 i == decide (i < 12)) = true := by decide +kernel
theorem shut_bt (c0 l : Int32) {i : Nat} (hi : i < 12) : bt (shutS c0 l) i = !(bt (itS l 12 (1 <<< (c0 &&& 31))) i) := by
  unfold shutS
  have := kall1_ok b4095 (i := i) (by omega)
  rw [bt_and, bt_not _ (by omega), show bt 4095 i = true by simpa [hi] using this]
  rfl
/-- a cut -/
def inF (c : Nat) (l : Int32) (cell T : Nat) : Prop := Int32.ofNat T &&& l = 0 ∧ bt (shutS (Int32.ofNat c) (l ||| Int32.ofNat T)) cell = true
/-- the edges that leave a side, that are no lines yet -/
def lvI (l : Int32) (s : Nat) : Int32 := f_cLeaving (Int32.ofNat s) &&& (l ^^^ (-1))
def lvN (l : Int32) (s : Nat) : Nat := (lvI l s).toBitVec.toNat
theorem lv_n (l : Int32) (s : Nat) : Int32.ofNat (lvN l s) = lvI l s := i32_self _
theorem lvI_bt (l : Int32) (s : Nat) {e : Nat} (he : e < 32) : bt (lvI l s) e = (bt (f_cLeaving (Int32.ofNat s)) e && !(bt l e)) := by
  unfold lvI
  rw [bt_and, bt_not _ he]
theorem lvN_lt (l : Int32) (s : Nat) : lvN l s < 131072 := by
  show lvN l s < 2 ^ 17
  refine Nat.lt_pow_two_of_testBit _ fun i hi => ?_
  by_cases h : i < 32
  · have e : (lvN l s).testBit i = bt (lvI l s) i := rfl
    rw [e, lvI_bt l s h, lv_hi _ h hi]
    rfl
  · exact Nat.testBit_lt_two_pow (Nat.lt_of_lt_of_le (lvI l s).toBitVec.isLt (Nat.pow_le_pow_right (by decide) (by omega)))
def vS (c cell s : Nat) : Prop := s.testBit c = true ∧ s.testBit cell = false
theorem cutA {c cell s : Nat} {l : Int32} (hc : c < 12) (hcl : cell < 12) (h : vS c cell s) : inF c l cell (lvN l s) := by
  unfold inF
  rw [lv_n]
  refine ⟨bt_ext fun i hi => ?_, ?_⟩
  · rw [bt_and, lvI_bt l s hi, bt_0]
    cases bt l i <;> simp
  · rw [shut_bt _ _ hcl]
    have hl : ∀ e, e < 17 → bt (f_cLeaving (Int32.ofNat s)) e = true → bt (l ||| lvI l s) e = true := by
      intro e he h1
      rw [bt_or, lvI_bt l s (by omega), h1]
      cases bt l e <;> rfl
    have hst := stayL hl 12 ((1 : Int32) <<< (Int32.ofNat c &&& 31)) (fun i hi => by
      rw [bt_shl (by omega)] at hi
      have := of_decide_eq_true hi
      subst this
      rw [bt_of (by omega)]
      exact h.1) cell
    cases e : bt (itS (l ||| lvI l s) 12 (1 <<< (Int32.ofNat c &&& 31))) cell with
    | false => rfl
    | true =>
      have := hst e
      rw [bt_of (by omega), h.2] at this
      cases this
theorem ok12_lt {x : Int32} (h : ok12 x) : x.toBitVec.toNat < 4096 := by
  show x.toBitVec.toNat < 2 ^ 12
  refine Nat.lt_pow_two_of_testBit _ fun i hi => ?_
  exact h i hi
theorem cutB {c cell T : Nat} {l : Int32} (hc : c < 12) (hcl : cell < 12) (h : inF c l cell T) : ∃ s, s < 4096 ∧ vS c cell s ∧ ∀ i, (lvN l s).testBit i = true → T.testBit i = true := by
  obtain ⟨h1, h2⟩ := h
  rw [shut_bt _ _ hcl] at h2
  have hfix := (fixS_all hc (l ||| Int32.ofNat T)).2
  have hR := itS_ok (l ||| Int32.ofNat T) 12 _ (ok12_one hc)
  have hin := itS_sub (l ||| Int32.ofNat T) 12 ((1 : Int32) <<< (Int32.ofNat c &&& 31)) c (by rw [bt_shl (by omega)]; exact decide_eq_true rfl)
  generalize itS (l ||| Int32.ofNat T) 12 (1 <<< (Int32.ofNat c &&& 31)) = R at h2 hfix hR hin
  refine ⟨R.toBitVec.toNat, ok12_lt hR, ⟨hin, ?_⟩, fun i hi => ?_⟩
  · have e : R.toBitVec.toNat.testBit cell = bt R cell := rfl
    rw [e]
    simpa using h2
  · have hlt := lvN_lt l R.toBitVec.toNat
    have hi17 : i < 17 := by
      refine Nat.lt_of_not_le fun hle => ?_
      have : (lvN l R.toBitVec.toNat).testBit i = false := Nat.testBit_lt_two_pow (Nat.lt_of_lt_of_le hlt (show 2 ^ 17 ≤ 2 ^ i from Nat.pow_le_pow_right (by decide) hle))
      rw [this] at hi
      cases hi
    have e : (lvN l R.toBitVec.toNat).testBit i = bt (lvI l R.toBitVec.toNat) i := rfl
    rw [e, lvI_bt l _ (by omega), i32_self, lv_bt R hi17, Bool.and_eq_true, Bool.not_eq_true'] at hi
    obtain ⟨g1, g2⟩ := hi
    have hb : bt (l ||| Int32.ofNat T) i = true := by
      cases hb : bt (l ||| Int32.ofNat T) i with
      | true => rfl
      | false =>
        exfalso
        have hj := kall1_ok jT2 hi17
        simp only [Bool.and_eq_true, List.any_eq_true, decide_eq_true_eq] at hj
        obtain ⟨⟨j, j0, j1, j2, j3, j4⟩, ⟨k, k0, k1, k2, k3, k4⟩⟩ := hj
        have jl := List.mem_range.mp j0
        have kl := List.mem_range.mp k0
        cases ha : bt R (eA i) with
        | true =>
          have hB : bt R (eB i) = false := by
            rw [ha] at g1
            simpa using g1
          have := (onw_ex R (l ||| Int32.ofNat T) (eB i)).mpr (Or.inr ⟨j, jl, j1, j4.symm, by rw [j3]; exact ha, by rw [j2]; exact hb⟩)
          rw [hfix, hB] at this
          cases this
        | false =>
          have hB : bt R (eB i) = true := by
            rw [ha] at g1
            simpa using g1
          have := (onw_ex R (l ||| Int32.ofNat T) (eA i)).mpr (Or.inr ⟨k, kl, k1, k4.symm, by rw [k3]; exact hB, by rw [k2]; exact hb⟩)
          rw [hfix, ha] at this
          cases this
    rw [bt_or, g2, Bool.false_or, bt_of (by omega)] at hb
    exact hb
theorem popF_sub : ∀ (k a b : Nat), (∀ i, a.testBit i = true → b.testBit i = true) → popF k a ≤ popF k b ∧ (a < 2 ^ k → b < 2 ^ k → popF k a = popF k b → a = b)
  | 0, a, b, h => ⟨Nat.le_refl _, fun h1 h2 _ => by
    have e1 : a = 0 := by omega
    have e2 : b = 0 := by omega
    rw [e1, e2]⟩
  | k + 1, a, b, h => by
    have h0 : a % 2 ≤ b % 2 := by
      have := h 0
      rw [Nat.testBit_zero, Nat.testBit_zero] at this
      by_cases q : a % 2 = 1
      · have q2 := of_decide_eq_true (this (decide_eq_true q))
        omega
      · omega
    have ih := popF_sub k (a / 2) (b / 2) (fun i hi => by
      rw [← Nat.testBit_succ] at hi ⊢
      exact h (i + 1) hi)
    have ea : popF (k + 1) a = a % 2 + popF k (a / 2) := rfl
    have eb : popF (k + 1) b = b % 2 + popF k (b / 2) := rfl
    refine ⟨by omega, fun h1 h2 h3 => ?_⟩
    rw [Nat.pow_succ] at h1 h2
    have := ih.2 (by omega) (by omega) (by omega)
    omega
def lexle (a b : Nat) : Prop := popF 17 a < popF 17 b ∨ (popF 17 a = popF 17 b ∧ a ≤ b)
theorem lexle_trans {a b c : Nat} (h : lexle a b) (g : lexle b c) : lexle a c := by
  unfold lexle at *
  omega
theorem lexle_tot (a b : Nat) : lexle a b ∨ lexle b a := by
  unfold lexle
  omega
def better (a b : Nat) : Prop := popF 17 a < popF 17 b ∨ (popF 17 a = popF 17 b ∧ a < b)
/-- side by side -/
noncomputable def cutF (c cell : Nat) (l : Int32) : Nat → Nat → Nat → Nat
  | 0, _, b => b
  | k + 1, s, b => cutF c cell l k (s + 1) (if s.testBit c = true ∧ s.testBit cell = false then (if popF 17 (lvN l s) < popF 17 b ∨ (popF 17 (lvN l s) = popF 17 b ∧ lvN l s < b) then lvN l s else b) else b)
theorem cutF_inv {c cell : Nat} {l : Int32} : ∀ (k s b : Nat), (b = 131071 ∨ ∃ t, t < s ∧ vS c cell t ∧ b = lvN l t) → (∀ t, t < s → vS c cell t → lexle b (lvN l t)) →
    (cutF c cell l k s b = 131071 ∨ ∃ t, t < s + k ∧ vS c cell t ∧ cutF c cell l k s b = lvN l t) ∧ ∀ t, t < s + k → vS c cell t → lexle (cutF c cell l k s b) (lvN l t)
  | 0, s, b, h1, h2 => ⟨h1, h2⟩
  | k + 1, s, b, h1, h2 => by
    unfold cutF
    rw [show s + (k + 1) = s + 1 + k by omega]
    refine cutF_inv k (s + 1) _ ?_ ?_
    · split
      · rename_i q
        split
        · exact Or.inr ⟨s, by omega, q, rfl⟩
        · exact h1.imp id (fun ⟨t, t1, t2, t3⟩ => ⟨t, by omega, t2, t3⟩)
      · exact h1.imp id (fun ⟨t, t1, t2, t3⟩ => ⟨t, by omega, t2, t3⟩)
    · intro t ht hv
      by_cases e : t = s
      · subst e
        rw [if_pos (show t.testBit c = true ∧ t.testBit cell = false from hv)]
        split
        · exact Or.inr ⟨rfl, Nat.le_refl _⟩
        · rename_i q
          unfold lexle
          omega
      · have h3 := h2 t (by omega) hv
        split
        · split
          · rename_i q
            refine lexle_trans ?_ h3
            unfold lexle
            omega
          · exact h3
        · exact h3
/-- the class's cut -/
noncomputable def cutN (c cell : Nat) (l : Int32) : Nat := cutF c cell l 4096 0 131071
theorem cut_ok {c cell : Nat} {l : Int32} (hc : c < 12) (hcl : cell < 12) (hne : c ≠ cell) : inF c l cell (cutN c cell l) ∧ cutN c cell l < 131072 ∧ ∀ T, T < 131072 → inF c l cell T → lexle (cutN c cell l) T := by
  have h := cutF_inv (c := c) (cell := cell) (l := l) 4096 0 131071 (Or.inl rfl) (fun t ht => by omega)
  have hv : vS c cell (2 ^ c) := ⟨by rw [Nat.testBit_two_pow]; exact decide_eq_true rfl, by rw [Nat.testBit_two_pow]; exact decide_eq_false hne⟩
  have h4 : 2 ^ c < 4096 := Nat.pow_lt_pow_right (a := 2) (n := 12) (by decide) hc
  have hm : ∃ t, t < 4096 ∧ vS c cell t ∧ cutN c cell l = lvN l t := by
    rcases h.1 with e | ⟨t, h1, h2, h3⟩
    · have h5 := h.2 (2 ^ c) (by omega) hv
      refine ⟨2 ^ c, h4, hv, ?_⟩
      show cutF c cell l 4096 0 131071 = _
      rw [e] at h5 ⊢
      have e17 : popF 17 131071 = 17 := rfl
      have h6 := popF_le 17 (lvN l (2 ^ c))
      unfold lexle at h5
      have h7 := popF_full 17 (lvN l (2 ^ c)) (lvN_lt l (2 ^ c)) (by omega)
      omega
    · exact ⟨t, by omega, h2, h3⟩
  obtain ⟨t, t1, t2, t3⟩ := hm
  refine ⟨by rw [t3]; exact cutA hc hcl t2, by rw [t3]; exact lvN_lt l t, fun T hT hF => ?_⟩
  obtain ⟨s, s1, s2, s3⟩ := cutB hc hcl hF
  have h5 := h.2 s (by omega) s2
  refine lexle_trans h5 ?_
  obtain ⟨p1, p2⟩ := popF_sub 17 (lvN l s) T s3
  unfold lexle
  by_cases q : popF 17 (lvN l s) = popF 17 T
  · have := p2 (lvN_lt l s) hT q
    omega
  · omega
