/-! KM: the class, what a hand will -/
theorem kwi_b {H : KH} {a b i j : Nat} {x : Int32} (h : b ≠ a) : (kwi H a j x).2.2.1 b i = H.2.2.1 b i := by
  show ku H.2.2.1 a (ku (H.2.2.1 a) j x) b i = _
  rw [ku_n _ _ h]
/-- a told RULES of the class, at the object o: its rows lie behind it -/
def rulO (h : KH) (o L : Nat) : Prop := h.1 o = (9, 0) ∧ h.1 (o + 1) = (20, 8) ∧ h.1 (o + 2) = (20, 8) ∧ h.1 (o + 3) = (20, 8) ∧ h.1 (o + 4) = (20, L) ∧ h.2.1 o 0 = some (o + 1) ∧ h.2.1 o 1 = some (o + 2) ∧ h.2.1 o 2 = some (o + 3) ∧ h.2.1 o 3 = some (o + 4) ∧ 75 ≤ o ∧ L ≤ 200
def encC (t u v : Nat) : Int32 := (Int32.ofNat u ||| (Int32.ofNat v) <<< ((14 : Int32) &&& 31)) ||| (Int32.ofNat t) <<< ((28 : Int32) &&& 31)
def decV (v : Nat) : Int32 := if v < 10000 then Int32.ofNat v else -(Int32.ofNat (v - 9999))
def opC (t : Nat) : Int32 := if t = 3 then -3 else if t = 4 then -1 else -2
def laidC (C : Nat → Int32) : Nat → List Op → Nat → Prop
  | k, [], e => k = e
  | k, (t, x, y) :: r, e => ((t ≤ 2 ∧ ∃ u v, u < 10005 ∧ v < 10005 ∧ C k = encC t u v ∧ x = decV u ∧ y = decV v) ∨ (3 ≤ t ∧ t ≤ 5 ∧ C k = opC t)) ∧ laidC C (k + 1) r e
theorem laidC_len {C : Nat → Int32} : ∀ {P : List Op} {k e : Nat}, laidC C k P e → k + P.length = e
  | [], k, e, h => h
  | (t, x, y) :: r, k, e, h => by
    have := laidC_len h.2
    show k + (r.length + 1) = e
    omega
def okC30 (P : List Op) : Prop := P = [] ∨ okP 30 P 0
/-- rules from the r-th on, the next condition begins at b -/
def rulCR (I : Nat → Nat → Int32) (o L : Nat) : Nat → Nat → List Rul → Prop
  | _, _, [] => True
  | r, b, (kd, wl, P) :: rest => I (o + 1) r = kd ∧ I (o + 2) r = wl ∧ (∃ e, I (o + 3) r = Int32.ofNat e ∧ e ≤ L ∧ laidC (I (o + 4)) b P e ∧ rulCR I o L (r + 1) e rest) ∧ okC30 P ∧ (∃ k, k < 6 ∧ kd = Int32.ofNat k) ∧ (wl = 0 ∨ wl = 1 ∨ wl = 2)
def rulC (h : KH) (o : Nat) (RL : List Rul) : Prop := ∃ L, rulO h o L ∧ h.2.2.1 o 4 = Int32.ofNat RL.length ∧ RL.length ≤ 8 ∧ rulCR h.2.2.1 o L 0 0 RL
/-- the rules that a city of the class has -/
def crul (h : KH) (a : Nat) (RL : List Rul) : Prop := (h.2.1 a 10 = none ∧ RL = []) ∨ ∃ o, h.2.1 a 10 = some o ∧ rulC h o RL
/-! bits of the words of a condition -/
theorem bt_of {n i : Nat} (hi : i < 32) : bt (Int32.ofNat n) i = n.testBit i := by
  show (BitVec.ofNat 32 n).getLsbD i = _
  rw [BitVec.getLsbD_ofNat]
  simp [hi]
theorem bt_ofhi {n i : Nat} (h : n < 2 ^ i) : bt (Int32.ofNat n) i = false := by
  by_cases hi : i < 32
  · rw [bt_of hi]
    exact Nat.testBit_lt_two_pow h
  · exact bt_hi (by omega)
theorem bt_hi2 {n i : Nat} (j : Nat) (h : n < 2 ^ j) (hj : j ≤ i) : bt (Int32.ofNat n) i = false := bt_ofhi (Nat.lt_of_lt_of_le h (Nat.pow_le_pow_right (by decide) hj))
theorem m16383 : kall1 32 (fun i => bt 16383 i == decide (i < 14)) = true := by decide +kernel
theorem bt_m14 {i : Nat} (h : i < 32) : bt 16383 i = decide (i < 14) := by
  have := kall1_ok m16383 h
  simpa using this
theorem bs14 (x : Int32) (i : Nat) : bt (x <<< ((14 : Int32) &&& 31)) i = (decide (i < 32) && (!decide (i < 14) && bt x (i - 14))) := bt_shlk (k := 14) (by decide)
theorem bs28 (x : Int32) (i : Nat) : bt (x <<< ((28 : Int32) &&& 31)) i = (decide (i < 32) && (!decide (i < 28) && bt x (i - 28))) := bt_shlk (k := 28) (by decide)
theorem bt_shrX {x : Int32} {k i : Nat} (hk : k < 32) (h31 : bt x 31 = false) (hi : i < 32) : bt (x >>> (Int32.ofNat k &&& 31)) i = bt x (k + i) := by
  by_cases h : k + i < 32
  · exact bt_shrk hk h
  · rw [bt_hi (x := x) (i := k + i) (by omega)]
    unfold bt at h31 ⊢
    have e := of_decide_eq_true (kall1_ok bt_shr1 hk)
    rw [Int32.toBitVec_shiftRight, e]
    have e2 : (BitVec.ofNat 32 k).smod 32 = BitVec.ofNat 32 k := of_decide_eq_true (kall1_ok (by decide +kernel : kall1 32 (fun k => decide ((BitVec.ofNat 32 k).smod 32 = BitVec.ofNat 32 k)) = true) hk)
    rw [e2, BitVec.sshiftRight', BitVec.toNat_ofNat, Nat.mod_eq_of_lt (by omega), BitVec.getLsbD_sshiftRight]
    have hm : x.toBitVec.msb = false := by
      rw [BitVec.msb_eq_getLsbD_last]
      exact h31
    simp [hm, h]
theorem enc_bt {t u v i : Nat} (hi : i < 32) : bt (encC t u v) i = ((bt (Int32.ofNat u) i || (!decide (i < 14) && bt (Int32.ofNat v) (i - 14))) || (!decide (i < 28) && bt (Int32.ofNat t) (i - 28))) := by
  unfold encC
  rw [bt_or, bt_or, bs14, bs28]
  simp [hi]
theorem enc_31 {t u v : Nat} (ht : t ≤ 2) (hu : u < 16384) (hv : v < 16384) : bt (encC t u v) 31 = false := by
  rw [enc_bt (by decide), bt_hi2 14 hu (by decide), bt_hi2 (n := v) (i := 31 - 14) 14 hv (by decide), bt_hi2 (n := t) (i := 31 - 28) 2 (by omega) (by decide)]
  rfl
theorem enc_u {t u v : Nat} (hu : u < 16384) : encC t u v &&& 16383 = Int32.ofNat u := by
  refine bt_ext fun i hi => ?_
  rw [bt_and, enc_bt hi, bt_m14 hi]
  by_cases h : i < 14
  · simp [h, show i < 28 by omega]
  · rw [bt_hi2 (i := i) 14 hu (by omega)]
    simp [h]
theorem enc_v {t u v : Nat} (ht : t ≤ 2) (hu : u < 16384) (hv : v < 16384) : (encC t u v >>> ((14 : Int32) &&& 31)) &&& 16383 = Int32.ofNat v := by
  refine bt_ext fun i hi => ?_
  rw [bt_and, bt_m14 hi, show bt (encC t u v >>> ((14 : Int32) &&& 31)) i = bt (encC t u v) (14 + i) from bt_shrX (k := 14) (by decide) (enc_31 ht hu hv) hi]
  by_cases h : i < 14
  · rw [enc_bt (by omega), bt_hi2 14 hu (by omega), show 14 + i - 14 = i by omega]
    simp [h, show 14 + i < 28 by omega]
  · rw [bt_hi2 (n := v) (i := i) 14 hv (by omega)]
    simp [h]
theorem enc_t {t u v : Nat} (ht : t ≤ 2) (hu : u < 16384) (hv : v < 16384) : encC t u v >>> ((28 : Int32) &&& 31) = Int32.ofNat t := by
  refine bt_ext fun i hi => ?_
  rw [show bt (encC t u v >>> ((28 : Int32) &&& 31)) i = bt (encC t u v) (28 + i) from bt_shrX (k := 28) (by decide) (enc_31 ht hu hv) hi]
  by_cases h : i < 4
  · rw [enc_bt (by omega), bt_hi2 14 hu (by omega), bt_hi2 (n := v) 14 hv (by omega), show 28 + i - 28 = i by omega]
    simp [show ¬ 28 + i < 28 by omega]
  · rw [bt_hi (by omega), bt_hi2 (n := t) (i := i) 2 (by omega) (by omega)]
theorem enc_n {t u v : Nat} (ht : t ≤ 2) (hu : u < 16384) (hv : v < 16384) {x : Int32} (hx : bt x 31 = true) : ¬ encC t u v = x := fun e => by
  have := enc_31 ht hu hv
  rw [e, hx] at this
  cases this
/-! values -/
theorem vlt {cd : Int32} {v : Nat} (hv : cd &&& 16383 = Int32.ofNat v) (h1 : v < 10000) : (cd &&& 16383) - 10000 < 0 := by
  rw [hv]
  exact (zlt (zs (znat (n := v) (by omega)) (n := 10000) rfl (by omega)) (n := 0) rfl).mpr (by omega)
theorem vnl {cd : Int32} {v : Nat} (hv : cd &&& 16383 = Int32.ofNat v) (h1 : 10000 ≤ v) (h2 : v < 10005) : ¬ (cd &&& 16383) - 10000 < 0 := by
  rw [hv]
  intro c
  have := (zlt (zs (znat (n := v) (by omega)) (n := 10000) rfl (by omega)) (n := 0) rfl).mp c
  omega
theorem vix {cd : Int32} {v : Nat} (hv : cd &&& 16383 = Int32.ofNat v) (h1 : 10000 ≤ v) (h2 : v < 10005) : (cd &&& 16383) - 10000 = Int32.ofNat (v - 10000) := by
  rw [hv]
  exact zidx ((zs (znat (n := v) (by omega)) (n := 10000) rfl (by omega)).trans (by omega))
theorem vnge {cd : Int32} {v : Nat} (hv : cd &&& 16383 = Int32.ofNat v) (h1 : 10000 ≤ v) (h2 : v < 10005) : ¬ Int32.ofNat 5 ≤ (cd &&& 16383) - 10000 := by
  rw [vix hv h1 h2]
  intro c
  have := (ole (by omega) (by omega)).mp c
  omega
set_option maxHeartbeats 4000000 in
theorem t_valN {d : Nat} {Q : KO → Prop} {h : KH} {a : Nat} {cd : Int32} {v : Nat} (hv : cd &&& 16383 = Int32.ofNat v) (h1 : v < 10000) (hd : 0 ≤ d) (hQ : Q (some (.int (cd &&& (16383 : Int32))), h)) : Cl d 20 [.ref a, .int (cd)] h Q := by
  refine Cl.of (ls := [some (.ref a), some (.int (cd)), none, none]) rfl rfl ?_
  refine Wp.seg 9 (pc1 := 13) (ls1 := [some (.ref a), some (.int (cd)), some (.int (cd &&& (16383 : Int32))), some (.int ((cd &&& (16383 : Int32)) - (10000 : Int32)))]) (st1 := [.int ((cd &&& (16383 : Int32)) - (10000 : Int32))]) rfl ?_
  refine Wp.if1 rfl (fun c1 => ?_) (fun c1 => absurd (vlt hv h1) c1)
  refine Wp.seg 1 (pc1 := 35) (ls1 := [some (.ref a), some (.int (cd)), some (.int (cd &&& (16383 : Int32))), some (.int ((cd &&& (16383 : Int32)) - (10000 : Int32)))]) (st1 := [.int (cd &&& (16383 : Int32))]) rfl ?_
  exact Wp.reti rfl rfl hQ
set_option maxHeartbeats 4000000 in
theorem t_valF {d : Nat} {Q : KO → Prop} {h : KH} (hw : WF h) {a : Nat} (ha : cityA a) {cd : Int32} {v : Nat} (hv : cd &&& 16383 = Int32.ofNat v) (h1 : 10000 ≤ v) (h2 : v < 10005) (hd : 0 ≤ d) (hQ : Q (some (.int (h.2.2.1 (a + 2) ((v - 10000)))), h)) : Cl d 20 [.ref a, .int (cd)] h Q := by
  refine Cl.of (ls := [some (.ref a), some (.int (cd)), none, none]) rfl rfl ?_
  refine Wp.seg 9 (pc1 := 13) (ls1 := [some (.ref a), some (.int (cd)), some (.int (cd &&& (16383 : Int32))), some (.int ((cd &&& (16383 : Int32)) - (10000 : Int32)))]) (st1 := [.int ((cd &&& (16383 : Int32)) - (10000 : Int32))]) rfl ?_
  refine Wp.if1 rfl (fun c1 => absurd c1 (vnl hv h1 h2)) (fun c1 => ?_)
  refine Wp.seg 2 (pc1 := 18) (ls1 := [some (.ref a), some (.int (cd)), some (.int (cd &&& (16383 : Int32))), some (.int ((cd &&& (16383 : Int32)) - (10000 : Int32)))]) (st1 := [.ref a, .int ((cd &&& (16383 : Int32)) - (10000 : Int32))]) rfl ?_
  refine Wp.gr (t := (1, 0)) (v := some (a + 2)) rfl (cA_t hw ha) rfl (cA_r12 hw ha) ?_
  show Wp d 20 21 [some (.ref a), some (.int (cd)), some (.int (cd &&& (16383 : Int32))), some (.int ((cd &&& (16383 : Int32)) - (10000 : Int32)))] [.ref (a + 2), .int ((cd &&& (16383 : Int32)) - (10000 : Int32))] h Q
  refine Wp.alen (n := 5) (k := 20) rfl (cA_t2 hw ha) rfl ?_
  refine Wp.if2 rfl (fun c2 => absurd c2 (vnge hv h1 h2)) (fun c2 => ?_)
  refine Wp.seg 1 (pc1 := 26) (ls1 := [some (.ref a), some (.int (cd)), some (.int (cd &&& (16383 : Int32))), some (.int ((cd &&& (16383 : Int32)) - (10000 : Int32)))]) (st1 := [.ref a]) rfl ?_
  refine Wp.gr (t := (1, 0)) (v := some (a + 2)) rfl (cA_t hw ha) rfl (cA_r12 hw ha) ?_
  show Wp d 20 29 [some (.ref a), some (.int (cd)), some (.int (cd &&& (16383 : Int32))), some (.int ((cd &&& (16383 : Int32)) - (10000 : Int32)))] [.ref (a + 2)] h Q
  refine Wp.seg 1 (pc1 := 30) (ls1 := [some (.ref a), some (.int (cd)), some (.int (cd &&& (16383 : Int32))), some (.int ((cd &&& (16383 : Int32)) - (10000 : Int32)))]) (st1 := [.int ((cd &&& (16383 : Int32)) - (10000 : Int32)), .ref (a + 2)]) rfl ?_
  refine Wp.iald (j := (v - 10000)) (k := 20) (n := 5) rfl (cA_t2 hw ha) rfl (vix hv h1 h2) (by omega) (by decide) ?_
  refine Wp.seg 1 (pc1 := 35) (ls1 := [some (.ref a), some (.int (cd)), some (.int (cd &&& (16383 : Int32))), some (.int ((cd &&& (16383 : Int32)) - (10000 : Int32)))]) (st1 := [.int (h.2.2.1 (a + 2) ((v - 10000)))]) rfl ?_
  exact Wp.reti rfl rfl hQ
def cval (F : Nat → Int32) (v : Nat) : Int32 := if v < 10000 then Int32.ofNat v else F (v - 10000)
theorem s_val {d : Nat} {Q : KO → Prop} {h : KH} (hw : WF h) {a : Nat} (ha : cityA a) {cd : Int32} {v : Nat} (hv : cd &&& 16383 = Int32.ofNat v) (h2 : v < 10005) (hQ : Q (some (.int (cval (h.2.2.1 (a + 2)) v)), h)) : Cl d 20 [.ref a, .int cd] h Q := by
  unfold cval at hQ
  by_cases h1 : v < 10000
  · rw [if_pos h1] at hQ
    exact t_valN hv h1 (Nat.zero_le _) (by rw [hv]; exact hQ)
  · rw [if_neg h1] at hQ
    exact t_valF hw ha hv (by omega) h2 (Nat.zero_le _) hQ
def f_cTruth (v x y : Int32) : Int32 := if v >>> ((28 : Int32) &&& 31) = 0 then if y ≤ x then (0 : Int32) else (1 : Int32) else if v >>> ((28 : Int32) &&& 31) = 1 then if ¬ x = y then (0 : Int32) else (1 : Int32) else if x ≤ y then (0 : Int32) else (1 : Int32)
set_option maxHeartbeats 4000000 in
theorem s_cTruth {d : Nat} {Q : KO → Prop} {h : KH} {v x y : Int32} (hd : 0 ≤ d) (hQ : Q (some (.int (f_cTruth v x y)), h)) : Cl d 77 [.int (v), .int (x), .int (y)] h Q := by
  refine Cl.of (ls := [some (.int (v)), some (.int (x)), some (.int (y))]) rfl rfl ?_
  refine Wp.seg 3 (pc1 := 4) (ls1 := [some (.int (v)), some (.int (x)), some (.int (y))]) (st1 := [.int (v >>> ((28 : Int32) &&& 31))]) rfl ?_
  refine Wp.lsw rfl ?_
  refine ⟨fun c1 => ?_, fun c1 => ?_⟩
  · have c1 : v >>> ((28 : Int32) &&& 31) = 0 := c1
    show Wp d 77 32 [some (.int (v)), some (.int (x)), some (.int (y))] [] h Q
    refine Wp.seg 2 (pc1 := 34) (ls1 := [some (.int (v)), some (.int (x)), some (.int (y))]) (st1 := [.int (y), .int (x)]) rfl ?_
    refine Wp.if2 rfl (fun (c2 : y ≤ x) => ?_) (fun (c2 : ¬ (y ≤ x)) => ?_)
    · refine Wp.seg 1 (pc1 := 42) (ls1 := [some (.int (v)), some (.int (x)), some (.int (y))]) (st1 := [.int (0)]) rfl ?_
      exact Wp.reti rfl rfl (by unfold f_cTruth at hQ; rw [if_pos c1] at hQ; rw [if_pos c2] at hQ; exact hQ)
    · refine Wp.seg 2 (pc1 := 42) (ls1 := [some (.int (v)), some (.int (x)), some (.int (y))]) (st1 := [.int (1)]) rfl ?_
      exact Wp.reti rfl rfl (by unfold f_cTruth at hQ; rw [if_pos c1] at hQ; rw [if_neg c2] at hQ; exact hQ)
  have c1 : ¬ (v >>> ((28 : Int32) &&& 31)) = 0 := c1
  refine ⟨fun c3 => ?_, fun c3 => ?_⟩
  · have c3 : v >>> ((28 : Int32) &&& 31) = 1 := c3
    show Wp d 77 43 [some (.int (v)), some (.int (x)), some (.int (y))] [] h Q
    refine Wp.seg 2 (pc1 := 45) (ls1 := [some (.int (v)), some (.int (x)), some (.int (y))]) (st1 := [.int (y), .int (x)]) rfl ?_
    refine Wp.if2 rfl (fun (c4 : ¬ x = y) => ?_) (fun (c4 : ¬ (¬ x = y)) => ?_)
    · refine Wp.seg 1 (pc1 := 53) (ls1 := [some (.int (v)), some (.int (x)), some (.int (y))]) (st1 := [.int (0)]) rfl ?_
      exact Wp.reti rfl rfl (by unfold f_cTruth at hQ; rw [if_neg c1] at hQ; rw [if_pos c3] at hQ; rw [if_pos c4] at hQ; exact hQ)
    · refine Wp.seg 2 (pc1 := 53) (ls1 := [some (.int (v)), some (.int (x)), some (.int (y))]) (st1 := [.int (1)]) rfl ?_
      exact Wp.reti rfl rfl (by unfold f_cTruth at hQ; rw [if_neg c1] at hQ; rw [if_pos c3] at hQ; rw [if_neg c4] at hQ; exact hQ)
  have c3 : ¬ (v >>> ((28 : Int32) &&& 31)) = 1 := c3
  show Wp d 77 54 [some (.int (v)), some (.int (x)), some (.int (y))] [] h Q
  refine Wp.seg 2 (pc1 := 56) (ls1 := [some (.int (v)), some (.int (x)), some (.int (y))]) (st1 := [.int (y), .int (x)]) rfl ?_
  refine Wp.if2 rfl (fun (c5 : x ≤ y) => ?_) (fun (c5 : ¬ (x ≤ y)) => ?_)
  · refine Wp.seg 1 (pc1 := 64) (ls1 := [some (.int (v)), some (.int (x)), some (.int (y))]) (st1 := [.int (0)]) rfl ?_
    exact Wp.reti rfl rfl (by unfold f_cTruth at hQ; rw [if_neg c1] at hQ; rw [if_neg c3] at hQ; rw [if_pos c5] at hQ; exact hQ)
  · refine Wp.seg 2 (pc1 := 64) (ls1 := [some (.int (v)), some (.int (x)), some (.int (y))]) (st1 := [.int (1)]) rfl ?_
    exact Wp.reti rfl rfl (by unfold f_cTruth at hQ; rw [if_neg c1] at hQ; rw [if_neg c3] at hQ; rw [if_neg c5] at hQ; exact hQ)
theorem truth_cmp {t u v : Nat} (ht : t ≤ 2) (hu : u < 16384) (hv : v < 16384) (x y : Int32) : f_cTruth (encC t u v) x y = b32 (cmpB t x y) := by
  have h3 : t = 0 ∨ t = 1 ∨ t = 2 := by omega
  unfold f_cTruth
  rw [enc_t ht hu hv]
  unfold cmpB
  rcases h3 with rfl | rfl | rfl
  · by_cases q : x < y
    · have q2 : ¬ y ≤ x := Int32.not_le.mpr q
      simp [q, q2, b32]
    · have q2 : y ≤ x := Int32.not_lt.mp q
      simp [q, q2, b32]
  · by_cases q : x = y
    · simp [q, b32]
    · simp [q, b32]
  · by_cases q : y < x
    · have q2 : ¬ x ≤ y := Int32.not_le.mpr q
      simp [q, q2, b32]
    · have q2 : x ≤ y := Int32.not_lt.mp q
      simp [q, q2, b32]
set_option maxHeartbeats 4000000 in
theorem t_learn {d : Nat} {Q : KO → Prop} {h : KH} (hw : WF h) {a : Nat} (ha : cityA a) {n : Nat} (hn : n < 6) (hd : 1 ≤ d) (hQ : Q (none, kwi (kwi (kwi (kwi (kwi h (a + 2) 0 (h.2.2.1 a 7)) (a + 2) 1 (h.2.2.1 (a + 1) (4 * n + 1))) (a + 2) 2 (h.2.2.1 (a + 1) (4 * n + 2))) (a + 2) 3 (h.2.2.1 (a + 1) (4 * n + 3))) (a + 2) 4 (Int32.ofNat n))) : Cl d 18 [.ref a, .int (Int32.ofNat n)] h Q := by
  refine Cl.of (ls := [some (.ref a), some (.int (Int32.ofNat n))]) rfl rfl ?_
  refine Wp.seg 1 (pc1 := 1) (ls1 := [some (.ref a), some (.int (Int32.ofNat n))]) (st1 := [.ref a]) rfl ?_
  refine Wp.gr (t := (1, 0)) (v := some (a + 2)) rfl (cA_t hw ha) rfl (cA_r12 hw ha) ?_
  show Wp d 18 4 [some (.ref a), some (.int (Int32.ofNat n))] [.ref (a + 2)] h Q
  refine Wp.seg 2 (pc1 := 6) (ls1 := [some (.ref a), some (.int (Int32.ofNat n))]) (st1 := [.ref a, .int (0), .ref (a + 2)]) rfl ?_
  refine Wp.gi (t := (1, 0)) rfl (cA_t hw ha) (Or.inl rfl) ?_
  refine Wp.iast (j := 0) (n := 5) rfl (cA_t2 hw ha) rfl (by decide) (by decide) ?_
  refine Wp.seg 1 (pc1 := 11) (ls1 := [some (.ref a), some (.int (Int32.ofNat n))]) (st1 := [.ref a]) rfl ?_
  refine Wp.gr (t := (1, 0)) (v := some (a + 2)) rfl (cA_t hw ha) rfl (cA_r12 hw ha) ?_
  show Wp d 18 14 [some (.ref a), some (.int (Int32.ofNat n))] [.ref (a + 2)] (kwi h (a + 2) 0 (h.2.2.1 a 7)) Q
  refine Wp.seg 4 (pc1 := 18) (ls1 := [some (.ref a), some (.int (Int32.ofNat n))]) (st1 := [.int (1), .int (Int32.ofNat n), .ref a, .int (1), .ref (a + 2)]) rfl ?_
  refine Wp.invV (d2 := 0) (as := [.ref a, .int (Int32.ofNat n), .int (1)]) (r := [.int (1), .ref (a + 2)]) (t := (1, 0)) rfl rfl rfl rfl (cA_t hw ha) rfl rfl ⟨rfl, rfl⟩ (by omega) (s_cget (h := kwi h (a + 2) 0 (h.2.2.1 a 7)) hw ha (n := n) (w := 1) rfl (by omega) ((kwi_b (by omega)).trans (rfl)) ?_)
  show Wp d 18 21 [some (.ref a), some (.int (Int32.ofNat n))] [.int (h.2.2.1 (a + 1) (4 * n + 1)), .int (1), .ref (a + 2)] (kwi h (a + 2) 0 (h.2.2.1 a 7)) Q
  refine Wp.iast (j := 1) (n := 5) rfl (cA_t2 hw ha) rfl (by decide) (by decide) ?_
  refine Wp.seg 1 (pc1 := 23) (ls1 := [some (.ref a), some (.int (Int32.ofNat n))]) (st1 := [.ref a]) rfl ?_
  refine Wp.gr (t := (1, 0)) (v := some (a + 2)) rfl (cA_t hw ha) rfl (cA_r12 hw ha) ?_
  show Wp d 18 26 [some (.ref a), some (.int (Int32.ofNat n))] [.ref (a + 2)] (kwi (kwi h (a + 2) 0 (h.2.2.1 a 7)) (a + 2) 1 (h.2.2.1 (a + 1) (4 * n + 1))) Q
  refine Wp.seg 4 (pc1 := 30) (ls1 := [some (.ref a), some (.int (Int32.ofNat n))]) (st1 := [.int (2), .int (Int32.ofNat n), .ref a, .int (2), .ref (a + 2)]) rfl ?_
  refine Wp.invV (d2 := 0) (as := [.ref a, .int (Int32.ofNat n), .int (2)]) (r := [.int (2), .ref (a + 2)]) (t := (1, 0)) rfl rfl rfl rfl (cA_t hw ha) rfl rfl ⟨rfl, rfl⟩ (by omega) (s_cget (h := kwi (kwi h (a + 2) 0 (h.2.2.1 a 7)) (a + 2) 1 (h.2.2.1 (a + 1) (4 * n + 1))) hw ha (n := n) (w := 2) rfl (by omega) ((kwi_b (by omega)).trans ((kwi_b (by omega)).trans (rfl))) ?_)
  show Wp d 18 33 [some (.ref a), some (.int (Int32.ofNat n))] [.int (h.2.2.1 (a + 1) (4 * n + 2)), .int (2), .ref (a + 2)] (kwi (kwi h (a + 2) 0 (h.2.2.1 a 7)) (a + 2) 1 (h.2.2.1 (a + 1) (4 * n + 1))) Q
  refine Wp.iast (j := 2) (n := 5) rfl (cA_t2 hw ha) rfl (by decide) (by decide) ?_
  refine Wp.seg 1 (pc1 := 35) (ls1 := [some (.ref a), some (.int (Int32.ofNat n))]) (st1 := [.ref a]) rfl ?_
  refine Wp.gr (t := (1, 0)) (v := some (a + 2)) rfl (cA_t hw ha) rfl (cA_r12 hw ha) ?_
  show Wp d 18 38 [some (.ref a), some (.int (Int32.ofNat n))] [.ref (a + 2)] (kwi (kwi (kwi h (a + 2) 0 (h.2.2.1 a 7)) (a + 2) 1 (h.2.2.1 (a + 1) (4 * n + 1))) (a + 2) 2 (h.2.2.1 (a + 1) (4 * n + 2))) Q
  refine Wp.seg 4 (pc1 := 42) (ls1 := [some (.ref a), some (.int (Int32.ofNat n))]) (st1 := [.int (3), .int (Int32.ofNat n), .ref a, .int (3), .ref (a + 2)]) rfl ?_
  refine Wp.invV (d2 := 0) (as := [.ref a, .int (Int32.ofNat n), .int (3)]) (r := [.int (3), .ref (a + 2)]) (t := (1, 0)) rfl rfl rfl rfl (cA_t hw ha) rfl rfl ⟨rfl, rfl⟩ (by omega) (s_cget (h := kwi (kwi (kwi h (a + 2) 0 (h.2.2.1 a 7)) (a + 2) 1 (h.2.2.1 (a + 1) (4 * n + 1))) (a + 2) 2 (h.2.2.1 (a + 1) (4 * n + 2))) hw ha (n := n) (w := 3) rfl (by omega) ((kwi_b (by omega)).trans ((kwi_b (by omega)).trans ((kwi_b (by omega)).trans (rfl)))) ?_)
  show Wp d 18 45 [some (.ref a), some (.int (Int32.ofNat n))] [.int (h.2.2.1 (a + 1) (4 * n + 3)), .int (3), .ref (a + 2)] (kwi (kwi (kwi h (a + 2) 0 (h.2.2.1 a 7)) (a + 2) 1 (h.2.2.1 (a + 1) (4 * n + 1))) (a + 2) 2 (h.2.2.1 (a + 1) (4 * n + 2))) Q
  refine Wp.iast (j := 3) (n := 5) rfl (cA_t2 hw ha) rfl (by decide) (by decide) ?_
  refine Wp.seg 1 (pc1 := 47) (ls1 := [some (.ref a), some (.int (Int32.ofNat n))]) (st1 := [.ref a]) rfl ?_
  refine Wp.gr (t := (1, 0)) (v := some (a + 2)) rfl (cA_t hw ha) rfl (cA_r12 hw ha) ?_
  show Wp d 18 50 [some (.ref a), some (.int (Int32.ofNat n))] [.ref (a + 2)] (kwi (kwi (kwi (kwi h (a + 2) 0 (h.2.2.1 a 7)) (a + 2) 1 (h.2.2.1 (a + 1) (4 * n + 1))) (a + 2) 2 (h.2.2.1 (a + 1) (4 * n + 2))) (a + 2) 3 (h.2.2.1 (a + 1) (4 * n + 3))) Q
  refine Wp.seg 2 (pc1 := 52) (ls1 := [some (.ref a), some (.int (Int32.ofNat n))]) (st1 := [.int (Int32.ofNat n), .int (4), .ref (a + 2)]) rfl ?_
  refine Wp.iast (j := 4) (n := 5) rfl (cA_t2 hw ha) rfl (by decide) (by decide) ?_
  exact Wp.retv rfl rfl hQ
/-- what a hand that is told knows -/
def knowF (F S : Nat → Int32) (n : Nat) : Prop := F 0 = S 1 ∧ F 1 = S (11 + 4 * n + 1) ∧ F 2 = S (11 + 4 * n + 2) ∧ F 3 = S (11 + 4 * n + 3) ∧ F 4 = Int32.ofNat n
theorem s_learn {d : Nat} {Q : KO → Prop} {h : KH} (hw : WF h) {a : Nat} (ha : cityA a) {n : Nat} (hn : n < 6) (hd : 1 ≤ d) (hQ : ∀ I : Nat → Nat → Int32, (∀ b, b ≠ a + 2 → I b = h.2.2.1 b) → knowF (I (a + 2)) (cS h.2.2.1 a) n → Q (none, hI h I)) : Cl d 18 [.ref a, .int (Int32.ofNat n)] h Q := by
  refine t_learn hw ha hn hd ?_
  refine hQ _ (fun b hb => ?_) ⟨?_, ?_, ?_, ?_, ?_⟩
  · show ku _ (a + 2) _ b = _
    rw [ku_n _ _ hb]
    show ku _ (a + 2) _ b = _
    rw [ku_n _ _ hb]
    show ku _ (a + 2) _ b = _
    rw [ku_n _ _ hb]
    show ku _ (a + 2) _ b = _
    rw [ku_n _ _ hb]
    exact ku_n _ _ hb
  · exact (kwi_o (by decide)).trans ((kwi_o (by decide)).trans ((kwi_o (by decide)).trans ((kwi_o (by decide)).trans kwi_s)))
  · refine (kwi_o (by decide)).trans ((kwi_o (by decide)).trans ((kwi_o (by decide)).trans (kwi_s.trans ?_)))
    rw [show 11 + 4 * n + 1 = 11 + (4 * n + 1) by omega, cS_hand]
  · refine (kwi_o (by decide)).trans ((kwi_o (by decide)).trans (kwi_s.trans ?_))
    rw [show 11 + 4 * n + 2 = 11 + (4 * n + 2) by omega, cS_hand]
  · refine (kwi_o (by decide)).trans (kwi_s.trans ?_)
    rw [show 11 + 4 * n + 3 = 11 + (4 * n + 3) by omega, cS_hand]
  · exact kwi_s
theorem dec_fact {k : Nat} (hk : k < 5) : decV (10000 + k) = -(Int32.ofNat (k + 1)) := by
  unfold decV
  rw [if_neg (by omega), show 10000 + k - 9999 = k + 1 by omega]
theorem cval_fact {F S : Nat → Int32} {n v : Nat} (hF : knowF F S n) (hv : v < 10005) : cval F v = f_factOf S n (decV v) := by
  by_cases h : v < 10000
  · unfold cval decV
    rw [if_pos h, if_pos h]
    unfold f_factOf
    have hn : ∀ k : Nat, 0 < k → k < 6 → ¬ Int32.ofNat v = -(Int32.ofNat k) := by
      intro k k0 k6 e
      have e1 := znat (n := v) (by omega)
      rw [e] at e1
      have h6 : k = 1 ∨ k = 2 ∨ k = 3 ∨ k = 4 ∨ k = 5 := by omega
      rcases h6 with rfl | rfl | rfl | rfl | rfl
      · exact absurd (show (-(Int32.ofNat 1)).toInt = -1 from rfl) (by omega)
      · exact absurd (show (-(Int32.ofNat 2)).toInt = -2 from rfl) (by omega)
      · exact absurd (show (-(Int32.ofNat 3)).toInt = -3 from rfl) (by omega)
      · exact absurd (show (-(Int32.ofNat 4)).toInt = -4 from rfl) (by omega)
      · exact absurd (show (-(Int32.ofNat 5)).toInt = -5 from rfl) (by omega)
    exact ((if_neg (hn 5 (by decide) (by decide))).trans ((if_neg (hn 4 (by decide) (by decide))).trans ((if_neg (hn 3 (by decide) (by decide))).trans ((if_neg (hn 2 (by decide) (by decide))).trans (if_neg (hn 1 (by decide) (by decide))))))).symm
  · obtain ⟨k, rfl⟩ : ∃ k, v = 10000 + k := ⟨v - 10000, by omega⟩
    obtain ⟨f0, f1, f2, f3, f4⟩ := hF
    rw [dec_fact (by omega)]
    unfold cval
    rw [if_neg (by omega), show 10000 + k - 10000 = k by omega]
    have h5 : k = 0 ∨ k = 1 ∨ k = 2 ∨ k = 3 ∨ k = 4 := by omega
    rcases h5 with rfl | rfl | rfl | rfl | rfl
    · rw [f0]; rfl
    · rw [f1]; rfl
    · rw [f2]; rfl
    · rw [f3]; rfl
    · rw [f4]; rfl
