/-! KM: the reference: what a plan is worth -/
set_option maxHeartbeats 4000000 in
theorem t_mon1 {d : Nat} {Q : KO → Prop} {h : KH} (hw : WF h) {A : Nat → Int32} {RL : List Rul} {n c dn en : Nat} (hk : refOK h A RL n c dn en) {m : Nat} (hd : 0 ≤ d) (hQ : ((Int32.ofNat m) ≤ ((Int32.ofNat en) - (Int32.ofNat dn)) → Q (some (.int (Int32.ofNat m)), h)) ∧ (¬ ((Int32.ofNat m) ≤ ((Int32.ofNat en) - (Int32.ofNat dn))) → Q (some (.int ((Int32.ofNat en) - (Int32.ofNat dn))), h))) : Cl d 235 [.ref 59, .int (Int32.ofNat m)] h Q := by
  refine Cl.of (ls := [some (.ref 59), some (.int (Int32.ofNat m)), none]) rfl rfl ?_
  refine Wp.seg 1 (pc1 := 1) (ls1 := [some (.ref 59), some (.int (Int32.ofNat m)), none]) (st1 := [.ref 59]) rfl ?_
  refine Wp.gr (t := (11, 0)) (v := some (60)) rfl (WF.t hw 59 rfl) rfl (WF.r hw 59 0 58 rfl) ?_
  show Wp d 235 4 [some (.ref 59), some (.int (Int32.ofNat m)), none] [.ref 60] h Q
  refine Wp.seg 1 (pc1 := 5) (ls1 := [some (.ref 59), some (.int (Int32.ofNat m)), none]) (st1 := [.int (0), .ref 60]) rfl ?_
  refine Wp.iald (j := 0) (k := 20) (n := 585) rfl (WF.t hw 60 rfl) rfl rfl (by decide) (by decide) ?_
  rw [show h.2.2.1 60 0 = Int32.ofNat en from hk.2.1.2.2.2.2.2.1]
  refine Wp.seg 1 (pc1 := 7) (ls1 := [some (.ref 59), some (.int (Int32.ofNat m)), none]) (st1 := [.ref 59, .int (Int32.ofNat en)]) rfl ?_
  refine Wp.gr (t := (11, 0)) (v := some (60)) rfl (WF.t hw 59 rfl) rfl (WF.r hw 59 0 58 rfl) ?_
  show Wp d 235 10 [some (.ref 59), some (.int (Int32.ofNat m)), none] [.ref 60, .int (Int32.ofNat en)] h Q
  refine Wp.seg 1 (pc1 := 11) (ls1 := [some (.ref 59), some (.int (Int32.ofNat m)), none]) (st1 := [.int (1), .ref 60, .int (Int32.ofNat en)]) rfl ?_
  refine Wp.iald (j := 1) (k := 20) (n := 585) rfl (WF.t hw 60 rfl) rfl rfl (by decide) (by decide) ?_
  rw [show h.2.2.1 60 1 = Int32.ofNat dn from hk.2.1.2.2.2.2.1]
  refine Wp.seg 4 (pc1 := 16) (ls1 := [some (.ref 59), some (.int (Int32.ofNat m)), some (.int ((Int32.ofNat en) - (Int32.ofNat dn)))]) (st1 := [.int (Int32.ofNat m), .int ((Int32.ofNat en) - (Int32.ofNat dn))]) rfl ?_
  refine Wp.if2 rfl (fun (c1 : (Int32.ofNat m) ≤ ((Int32.ofNat en) - (Int32.ofNat dn))) => ?_) (fun (c1 : ¬ ((Int32.ofNat m) ≤ ((Int32.ofNat en) - (Int32.ofNat dn)))) => ?_)
  · refine Wp.seg 1 (pc1 := 24) (ls1 := [some (.ref 59), some (.int (Int32.ofNat m)), some (.int ((Int32.ofNat en) - (Int32.ofNat dn)))]) (st1 := [.int (Int32.ofNat m)]) rfl ?_
    exact Wp.reti rfl rfl (hQ.1 c1)
  · refine Wp.seg 2 (pc1 := 24) (ls1 := [some (.ref 59), some (.int (Int32.ofNat m)), some (.int ((Int32.ofNat en) - (Int32.ofNat dn)))]) (st1 := [.int ((Int32.ofNat en) - (Int32.ofNat dn))]) rfl ?_
    exact Wp.reti rfl rfl (hQ.2 c1)
theorem r_months {d : Nat} {Q : KO → Prop} {h : KH} (hw : WF h) {A : Nat → Int32} {RL : List Rul} {n c dn en : Nat} (hk : refOK h A RL n c dn en) {m : Nat} (hm : m ≤ 4) (hQ : Q (some (.int (Int32.ofNat (min m (en - dn)))), h)) : Cl d 235 [.ref 59, .int (Int32.ofNat m)] h Q := by
  obtain ⟨o1, o2, o3, o4, o5, o6, o7, o8, o9, o10⟩ := hk.2.1
  have es : Int32.ofNat en - Int32.ofNat dn = Int32.ofNat (en - dn) := zidx ((zs (znat (n := en) (by omega)) (znat (n := dn) (by omega)) (by omega)).trans (by omega))
  refine t_mon1 hw hk (Nat.zero_le _) ?_
  rw [es]
  refine ⟨fun c1 => ?_, fun c1 => ?_⟩
  · have := (ole (by omega) (by omega)).mp c1
    rw [show min m (en - dn) = m by omega] at hQ
    exact hQ
  · have := mt (ole (a := m) (b := en - dn) (by omega) (by omega)).mpr c1
    rw [show min m (en - dn) = en - dn by omega] at hQ
    exact hQ
set_option maxHeartbeats 4000000 in
theorem t_poB2 {d : Nat} {Q : KO → Prop} {h : KH} (hw : WF h) {A : Nat → Int32} {RL : List Rul} {n c dn en : Nat} (hk : refOK h A RL n c dn en) {m i : Nat} {x : Int32} (hm : m ≤ 4) (hi : i < min m (en - dn)) (hd : 1 ≤ d) (hQ : Wp d 236 4 ([some (.ref 59), some (.int (Int32.ofNat m)), some (.int (x * ((Int32.ofNat n) + (1 : Int32)))), some (.int ((Int32.ofNat i) + 1))]) [] h Q) : Wp d 236 4 [some (.ref 59), some (.int (Int32.ofNat m)), some (.int (x)), some (.int (Int32.ofNat i))] [] h Q := by
  refine Wp.seg 3 (pc1 := 7) (ls1 := [some (.ref 59), some (.int (Int32.ofNat m)), some (.int (x)), some (.int (Int32.ofNat i))]) (st1 := [.int (Int32.ofNat m), .ref 59, .int (Int32.ofNat i)]) rfl ?_
  refine Wp.invV (d2 := 0) (as := [.ref 59, .int (Int32.ofNat m)]) (r := [.int (Int32.ofNat i)]) (t := (11, 0)) rfl rfl rfl rfl (WF.t hw 59 rfl) rfl rfl ⟨rfl, rfl⟩ (by omega) (r_months hw hk hm ?_)
  show Wp d 236 10 [some (.ref 59), some (.int (Int32.ofNat m)), some (.int (x)), some (.int (Int32.ofNat i))] [.int (Int32.ofNat (min m (en - dn))), .int (Int32.ofNat i)] h Q
  refine Wp.if2 rfl (fun c1 => absurd c1 (fun c => by have := (ole (by omega) (by omega)).mp c; omega)) (fun c1 => ?_)
  refine Wp.seg 2 (pc1 := 15) (ls1 := [some (.ref 59), some (.int (Int32.ofNat m)), some (.int (x)), some (.int (Int32.ofNat i))]) (st1 := [.ref 59, .int (x)]) rfl ?_
  refine Wp.gr (t := (11, 0)) (v := some (60)) rfl (WF.t hw 59 rfl) rfl (WF.r hw 59 0 58 rfl) ?_
  show Wp d 236 18 [some (.ref 59), some (.int (Int32.ofNat m)), some (.int (x)), some (.int (Int32.ofNat i))] [.ref 60, .int (x)] h Q
  refine Wp.seg 1 (pc1 := 20) (ls1 := [some (.ref 59), some (.int (Int32.ofNat m)), some (.int (x)), some (.int (Int32.ofNat i))]) (st1 := [.int (8), .ref 60, .int (x)]) rfl ?_
  refine Wp.iald (j := 8) (k := 20) (n := 585) rfl (WF.t hw 60 rfl) rfl rfl (by decide) (by decide) ?_
  rw [show h.2.2.1 60 8 = Int32.ofNat n from hk.2.1.2.1]
  refine Wp.seg 6 (pc1 := 4) (ls1 := [some (.ref 59), some (.int (Int32.ofNat m)), some (.int (x * ((Int32.ofNat n) + (1 : Int32)))), some (.int ((Int32.ofNat i) + 1))]) (st1 := []) rfl ?_
  exact hQ
set_option maxHeartbeats 4000000 in
theorem t_poE2 {d : Nat} {Q : KO → Prop} {h : KH} (hw : WF h) {A : Nat → Int32} {RL : List Rul} {n c dn en : Nat} (hk : refOK h A RL n c dn en) {m : Nat} {x : Int32} (hm : m ≤ 4) (hd : 1 ≤ d) (hQ : Q (some (.int (x)), h)) : Wp d 236 4 [some (.ref 59), some (.int (Int32.ofNat m)), some (.int (x)), some (.int (Int32.ofNat (min m (en - dn))))] [] h Q := by
  refine Wp.seg 3 (pc1 := 7) (ls1 := [some (.ref 59), some (.int (Int32.ofNat m)), some (.int (x)), some (.int (Int32.ofNat (min m (en - dn))))]) (st1 := [.int (Int32.ofNat m), .ref 59, .int (Int32.ofNat (min m (en - dn)))]) rfl ?_
  refine Wp.invV (d2 := 0) (as := [.ref 59, .int (Int32.ofNat m)]) (r := [.int (Int32.ofNat (min m (en - dn)))]) (t := (11, 0)) rfl rfl rfl rfl (WF.t hw 59 rfl) rfl rfl ⟨rfl, rfl⟩ (by omega) (r_months hw hk hm ?_)
  show Wp d 236 10 [some (.ref 59), some (.int (Int32.ofNat m)), some (.int (x)), some (.int (Int32.ofNat (min m (en - dn))))] [.int (Int32.ofNat (min m (en - dn))), .int (Int32.ofNat (min m (en - dn)))] h Q
  refine Wp.if2 rfl (fun c1 => ?_) (fun c1 => absurd (Int32.le_refl _) c1)
  refine Wp.seg 1 (pc1 := 32) (ls1 := [some (.ref 59), some (.int (Int32.ofNat m)), some (.int (x)), some (.int (Int32.ofNat (min m (en - dn))))]) (st1 := [.int (x)]) rfl ?_
  exact Wp.reti rfl rfl hQ
set_option maxHeartbeats 4000000 in
theorem t_po2 {d : Nat} {Q : KO → Prop} {h : KH} {m : Int32} (hd : 1 ≤ d) (hQ : Wp d 236 4 ([some (.ref 59), some (.int (m)), some (.int (1)), some (.int (0))]) [] h Q) : Cl d 236 [.ref 59, .int (m)] h Q := by
  refine Cl.of (ls := [some (.ref 59), some (.int (m)), none, none]) rfl rfl ?_
  refine Wp.seg 4 (pc1 := 4) (ls1 := [some (.ref 59), some (.int (m)), some (.int (1)), some (.int (0))]) (st1 := []) rfl ?_
  exact hQ
theorem pow_le {n L : Nat} (hn : n ≤ 6) (hL : L ≤ 4) : (n + 1) ^ L ≤ 2401 := by
  have h1 : (n + 1) ^ L ≤ 7 ^ L := Nat.pow_le_pow_left (by omega) L
  have h2 : (7 : Nat) ^ L ≤ 7 ^ 4 := Nat.pow_le_pow_right (by decide) hL
  omega
theorem r_plansL {d : Nat} {Q : KO → Prop} {h : KH} (hw : WF h) {A : Nat → Int32} {RL : List Rul} {n c dn en : Nat} (hk : refOK h A RL n c dn en) {m : Nat} (hm : m ≤ 4) (hd : 1 ≤ d) : ∀ (j i : Nat), i + j = min m (en - dn) → Q (some (.int (Int32.ofNat ((n + 1) ^ (min m (en - dn))))), h) → Wp d 236 4 [some (.ref 59), some (.int (Int32.ofNat m)), some (.int (Int32.ofNat ((n + 1) ^ i))), some (.int (Int32.ofNat i))] [] h Q
  | 0, i, hij, hQ => by
    obtain rfl : i = min m (en - dn) := hij
    exact t_poE2 hw hk hm hd hQ
  | j + 1, i, hij, hQ => by
    refine t_poB2 hw hk hm (by omega) hd ?_
    rw [show Int32.ofNat i + 1 = Int32.ofNat (i + 1) from ofadd i 1, show Int32.ofNat n + 1 = Int32.ofNat (n + 1) from ofadd n 1, ← Int32.ofNat_mul, ← Nat.pow_succ]
    exact r_plansL hw hk hm hd j (i + 1) (by omega) hQ
theorem r_plans {d : Nat} {Q : KO → Prop} {h : KH} (hw : WF h) {A : Nat → Int32} {RL : List Rul} {n c dn en : Nat} (hk : refOK h A RL n c dn en) {m : Nat} (hm : m ≤ 4) (hd : 1 ≤ d) (hQ : Q (some (.int (Int32.ofNat ((n + 1) ^ (min m (en - dn))))), h)) : Cl d 236 [.ref 59, .int (Int32.ofNat m)] h Q :=
  t_po2 hd (r_plansL hw hk hm hd (min m (en - dn)) 0 (by omega) hQ)
set_option maxHeartbeats 4000000 in
theorem t_dgB {d : Nat} {Q : KO → Prop} {h : KH} {p k x : Int32} {b L i : Nat} (hi : i < L) (hL : L ≤ 4) (hb0 : ¬ Int32.ofNat b = 0) (hd : 0 ≤ d) (hQ : Wp d 237 8 ([some (.int (p)), some (.int (Int32.ofNat b)), some (.int (k)), some (.int (Int32.ofNat L)), some (.int (x / (Int32.ofNat b))), some (.int ((Int32.ofNat i) + 1))]) [] h Q) : Wp d 237 8 [some (.int (p)), some (.int (Int32.ofNat b)), some (.int (k)), some (.int (Int32.ofNat L)), some (.int (x)), some (.int (Int32.ofNat i))] [] h Q := by
  refine Wp.seg 2 (pc1 := 11) (ls1 := [some (.int (p)), some (.int (Int32.ofNat b)), some (.int (k)), some (.int (Int32.ofNat L)), some (.int (x)), some (.int (Int32.ofNat i))]) (st1 := [.int (Int32.ofNat L), .int (Int32.ofNat i)]) rfl ?_
  refine Wp.if2 rfl (fun c1 => absurd c1 (fun c => by have := (ole (by omega) (by omega)).mp c; omega)) (fun c1 => ?_)
  refine Wp.seg 2 (pc1 := 17) (ls1 := [some (.int (p)), some (.int (Int32.ofNat b)), some (.int (k)), some (.int (Int32.ofNat L)), some (.int (x)), some (.int (Int32.ofNat i))]) (st1 := [.int (Int32.ofNat b), .int (x)]) rfl ?_
  refine Wp.div rfl (hb0) ?_
  refine Wp.seg 3 (pc1 := 8) (ls1 := [some (.int (p)), some (.int (Int32.ofNat b)), some (.int (k)), some (.int (Int32.ofNat L)), some (.int (x / (Int32.ofNat b))), some (.int ((Int32.ofNat i) + 1))]) (st1 := []) rfl ?_
  exact hQ
set_option maxHeartbeats 4000000 in
theorem t_dgE {d : Nat} {Q : KO → Prop} {h : KH} {p k x L i : Int32} {b : Nat} (hi : L ≤ i) (hb0 : ¬ Int32.ofNat b = 0) (hd : 0 ≤ d) (hQ : Q (some (.int (x - x / (Int32.ofNat b) * (Int32.ofNat b))), h)) : Wp d 237 8 [some (.int (p)), some (.int (Int32.ofNat b)), some (.int (k)), some (.int (L)), some (.int (x)), some (.int (i))] [] h Q := by
  refine Wp.seg 2 (pc1 := 11) (ls1 := [some (.int (p)), some (.int (Int32.ofNat b)), some (.int (k)), some (.int (L)), some (.int (x)), some (.int (i))]) (st1 := [.int (L), .int (i)]) rfl ?_
  refine Wp.if2 rfl (fun c1 => ?_) (fun c1 => absurd (hi) c1)
  refine Wp.seg 2 (pc1 := 29) (ls1 := [some (.int (p)), some (.int (Int32.ofNat b)), some (.int (k)), some (.int (L)), some (.int (x)), some (.int (i))]) (st1 := [.int (Int32.ofNat b), .int (x)]) rfl ?_
  refine Wp.rem rfl (hb0) ?_
  exact Wp.reti rfl rfl hQ
set_option maxHeartbeats 4000000 in
theorem t_dg {d : Nat} {Q : KO → Prop} {h : KH} {p b k L : Int32} (hd : 0 ≤ d) (hQ : Wp d 237 8 ([some (.int (p)), some (.int (b)), some (.int (k)), some (.int (L)), some (.int (p)), some (.int (k + (1 : Int32)))]) [] h Q) : Cl d 237 [.int (p), .int (b), .int (k), .int (L)] h Q := by
  refine Cl.of (ls := [some (.int (p)), some (.int (b)), some (.int (k)), some (.int (L)), none, none]) rfl rfl ?_
  refine Wp.seg 6 (pc1 := 8) (ls1 := [some (.int (p)), some (.int (b)), some (.int (k)), some (.int (L)), some (.int (p)), some (.int (k + (1 : Int32)))]) (st1 := []) rfl ?_
  exact hQ
theorem odiv {p q : Nat} (hp : p < 65536) (hq2 : q < 65536) : Int32.ofNat p / Int32.ofNat q = Int32.ofNat (p / q) := by
  have hle : p / q ≤ p := Nat.div_le_self p q
  refine zidx ?_
  rw [Int32.toInt_div, znat (by omega), znat (by omega), ← Int.ofNat_tdiv]
  generalize p / q = m at hle ⊢
  rw [Int.bmod_def]
  omega
theorem r_digitL {d : Nat} {Q : KO → Prop} {h : KH} {p k : Int32} {b L : Nat} (hL : L ≤ 4) (hb : 0 < b) (hb7 : b ≤ 7) : ∀ (j i x : Nat), i + j = L → x < 65536 → Q (some (.int (Int32.ofNat (x / b ^ j % b))), h) → Wp d 237 8 [some (.int p), some (.int (Int32.ofNat b)), some (.int k), some (.int (Int32.ofNat L)), some (.int (Int32.ofNat x)), some (.int (Int32.ofNat i))] [] h Q
  | 0, i, x, hij, hx, hQ => by
    obtain rfl : i = L := hij
    have hb0 : ¬ Int32.ofNat b = 0 := fun z => by have := (oeq (b := 0) (by omega) (by decide)).mp z; omega
    refine t_dgE (Int32.le_refl _) hb0 (Nat.zero_le _) ?_
    rw [orem hx hb (by omega)]
    rw [Nat.pow_zero, Nat.div_one] at hQ
    exact hQ
  | j + 1, i, x, hij, hx, hQ => by
    have hb0 : ¬ Int32.ofNat b = 0 := fun z => by have := (oeq (b := 0) (by omega) (by decide)).mp z; omega
    have hle : x / b ≤ x := Nat.div_le_self x b
    refine t_dgB (by omega) hL hb0 (Nat.zero_le _) ?_
    rw [odiv hx (by omega), show Int32.ofNat i + 1 = Int32.ofNat (i + 1) from ofadd i 1]
    refine r_digitL hL hb hb7 j (i + 1) (x / b) (by omega) (by omega) ?_
    rw [Nat.div_div_eq_div_mul, Nat.mul_comm, ← Nat.pow_succ]
    exact hQ
theorem r_digit {d : Nat} {Q : KO → Prop} {h : KH} {p b k L : Nat} (hp : p < 65536) (hb : 0 < b) (hb7 : b ≤ 7) (hL : L ≤ 4) (hk : k < L) (hQ : Q (some (.int (Int32.ofNat (p / b ^ (L - 1 - k) % b))), h)) : Cl d 237 [.int (Int32.ofNat p), .int (Int32.ofNat b), .int (Int32.ofNat k), .int (Int32.ofNat L)] h Q := by
  refine t_dg (Nat.zero_le _) ?_
  rw [show Int32.ofNat k + 1 = Int32.ofNat (k + 1) from ofadd k 1]
  exact r_digitL hL hb hb7 (L - 1 - k) (k + 1) p (by omega) hp hQ
theorem r_dig {d : Nat} {Q : KO → Prop} {h : KH} {p n k L : Nat} {bi : Int32} (hbi : bi = Int32.ofNat (n + 1)) (hn : n ≤ 6) (hL : L ≤ 4) (hk : k < L) (hp : p < (n + 1) ^ L) (hQ : Q (some (.int (Int32.ofNat ((digsR (n + 1) L p).getD k 0))), h)) : Cl d 237 [.int (Int32.ofNat p), .int bi, .int (Int32.ofNat k), .int (Int32.ofNat L)] h Q := by
  have h24 := pow_le hn hL
  subst hbi
  rw [digsR_get (Nat.succ_pos n) L p k hk hp] at hQ
  exact r_digit (by omega) (Nat.succ_pos n) (by omega) hL hk hQ
theorem drop_get {ps : List Nat} {k : Nat} (h : k < ps.length) : ps.drop k = ps.getD k 0 :: ps.drop (k + 1) := by
  rw [List.drop_eq_getElem_cons h]
  congr 1
  simp [h]
set_option maxHeartbeats 4000000 in
theorem t_woB {d : Nat} {Q : KO → Prop} {h : KH} (hw : WF h) {A : Nat → Int32} {RL : List Rul} {n c dn en : Nat} (hk : refOK h A RL n c dn en) {p L i : Nat} {s : Int32} (hn : n ≤ 6) (hL : L ≤ 4) (hi : i < L) (hp : p < (n + 1) ^ L) (hlt : dn < en) (hgl : ((digsR (n + 1) L p).getD i 0) ≤ n) (hd : 6 ≤ d) (hQ : ∀ k, Fr pM noP h k → refOK k (goA RL A (actT ((digsR (n + 1) L p).getD i 0))) RL n c (dn + 1) en → keepS (k.2.2.1 60) (h.2.2.1 60) → (Wp d 238 16 ([some (.ref 59), some (.int (Int32.ofNat p)), some (.int (Int32.ofNat L)), some (.int ((Int32.ofNat n) + (1 : Int32))), some (.int (s + (wA RL A (actT ((digsR (n + 1) L p).getD i 0))))), some (.int ((Int32.ofNat i) + 1))]) [] k Q)) : Wp d 238 16 [some (.ref 59), some (.int (Int32.ofNat p)), some (.int (Int32.ofNat L)), some (.int ((Int32.ofNat n) + (1 : Int32))), some (.int (s)), some (.int (Int32.ofNat i))] [] h Q := by
  refine Wp.seg 2 (pc1 := 19) (ls1 := [some (.ref 59), some (.int (Int32.ofNat p)), some (.int (Int32.ofNat L)), some (.int ((Int32.ofNat n) + (1 : Int32))), some (.int (s)), some (.int (Int32.ofNat i))]) (st1 := [.int (Int32.ofNat L), .int (Int32.ofNat i)]) rfl ?_
  refine Wp.if2 rfl (fun c1 => absurd c1 (fun c => by have := (ole (by omega) (by omega)).mp c; omega)) (fun c1 => ?_)
  refine Wp.seg 6 (pc1 := 30) (ls1 := [some (.ref 59), some (.int (Int32.ofNat p)), some (.int (Int32.ofNat L)), some (.int ((Int32.ofNat n) + (1 : Int32))), some (.int (s)), some (.int (Int32.ofNat i))]) (st1 := [.int (Int32.ofNat L), .int (Int32.ofNat i), .int ((Int32.ofNat n) + (1 : Int32)), .int (Int32.ofNat p), .ref 59, .int (s)]) rfl ?_
  refine Wp.inv (d2 := 0) (as := [.int (Int32.ofNat p), .int ((Int32.ofNat n) + (1 : Int32)), .int (Int32.ofNat i), .int (Int32.ofNat L)]) (r := [.ref 59, .int (s)]) rfl rfl rfl rfl rfl rfl (by omega) (r_dig (n := n) (ofadd n 1) hn hL hi hp ?_)
  show Wp d 238 33 [some (.ref 59), some (.int (Int32.ofNat p)), some (.int (Int32.ofNat L)), some (.int ((Int32.ofNat n) + (1 : Int32))), some (.int (s)), some (.int (Int32.ofNat i))] [.int (Int32.ofNat ((digsR (n + 1) L p).getD i 0)), .ref 59, .int (s)] h Q
  refine Wp.seg 2 (pc1 := 35) (ls1 := [some (.ref 59), some (.int (Int32.ofNat p)), some (.int (Int32.ofNat L)), some (.int ((Int32.ofNat n) + (1 : Int32))), some (.int (s)), some (.int (Int32.ofNat i))]) (st1 := [.int ((Int32.ofNat ((digsR (n + 1) L p).getD i 0)) - (1 : Int32)), .ref 59, .int (s)]) rfl ?_
  refine Wp.invV (d2 := 5) (as := [.ref 59, .int ((Int32.ofNat ((digsR (n + 1) L p).getD i 0)) - (1 : Int32))]) (r := [.int (s)]) (t := (11, 0)) rfl rfl rfl rfl (WF.t hw 59 rfl) rfl rfl ⟨rfl, rfl⟩ (by omega) (s_goesF (t := actT ((digsR (n + 1) L p).getD i 0)) hw hk hlt (actT_ok hgl hn) (Nat.le_refl _) ?_)
  intro k f g e0
  show Wp d 238 38 [some (.ref 59), some (.int (Int32.ofNat p)), some (.int (Int32.ofNat L)), some (.int ((Int32.ofNat n) + (1 : Int32))), some (.int (s)), some (.int (Int32.ofNat i))] [.int (wA RL A (actT ((digsR (n + 1) L p).getD i 0))), .int (s)] k Q
  refine Wp.seg 4 (pc1 := 16) (ls1 := [some (.ref 59), some (.int (Int32.ofNat p)), some (.int (Int32.ofNat L)), some (.int ((Int32.ofNat n) + (1 : Int32))), some (.int (s + (wA RL A (actT ((digsR (n + 1) L p).getD i 0))))), some (.int ((Int32.ofNat i) + 1))]) (st1 := []) rfl ?_
  exact (hQ k f g e0)
theorem refTh_59 {h : KH} {S A : Nat → Int32} {RL : List Rul} {n c dn en j : Nat} {x : Int32} (hk : refTh h S A RL n c dn en) : refTh (kwi h 59 j x) S A RL n c dn en := by
  have e : (kwi h 59 j x).2.2.1 60 = h.2.2.1 60 := kwi_r (by decide)
  have e2 : (kwi h 59 j x).2.2.1 62 = h.2.2.1 62 := kwi_r (by decide)
  exact ⟨refOK_eq hk.1 e, fun i hi => by rw [e2]; exact hk.2.1 i hi, by rw [e]; exact hk.2.2⟩
set_option maxHeartbeats 4000000 in
theorem t_woE {d : Nat} {Q : KO → Prop} {h : KH} (hw : WF h) {S A : Nat → Int32} {RL : List Rul} {n c dn en : Nat} (hk : refTh h S A RL n c dn en) {L : Nat} {p b s : Int32} (hd : 4 ≤ d) (hQ : ∀ k, Fr (fun c => c = 60) noP (kwi h 59 14 (shA c A)) k → k.2.2.1 60 = S → (Q (some (.int (s)), k))) : Wp d 238 16 [some (.ref 59), some (.int (p)), some (.int (Int32.ofNat L)), some (.int (b)), some (.int (s)), some (.int (Int32.ofNat L))] [] h Q := by
  refine Wp.seg 2 (pc1 := 19) (ls1 := [some (.ref 59), some (.int (p)), some (.int (Int32.ofNat L)), some (.int (b)), some (.int (s)), some (.int (Int32.ofNat L))]) (st1 := [.int (Int32.ofNat L), .int (Int32.ofNat L)]) rfl ?_
  refine Wp.if2 rfl (fun c1 => ?_) (fun c1 => absurd (Int32.le_refl _) c1)
  refine Wp.seg 2 (pc1 := 49) (ls1 := [some (.ref 59), some (.int (p)), some (.int (Int32.ofNat L)), some (.int (b)), some (.int (s)), some (.int (Int32.ofNat L))]) (st1 := [.ref 59, .ref 59]) rfl ?_
  refine Wp.invV (d2 := 3) (as := [.ref 59]) (r := [.ref 59]) (t := (11, 0)) rfl rfl rfl rfl (WF.t hw 59 rfl) rfl rfl ⟨rfl, rfl⟩ (by omega) (r_shut hw hk.1 (Nat.le_refl _) ?_)
  show Wp d 238 52 [some (.ref 59), some (.int (p)), some (.int (Int32.ofNat L)), some (.int (b)), some (.int (s)), some (.int (Int32.ofNat L))] [.int (shA c A), .ref 59] h Q
  refine Wp.pi (t := (11, 0)) rfl (WF.t hw 59 rfl) (Or.inl rfl) ?_
  refine Wp.seg 1 (pc1 := 56) (ls1 := [some (.ref 59), some (.int (p)), some (.int (Int32.ofNat L)), some (.int (b)), some (.int (s)), some (.int (Int32.ofNat L))]) (st1 := [.ref 59]) rfl ?_
  refine Wp.invV (d2 := 1) (as := [.ref 59]) (r := []) (t := (11, 0)) rfl rfl rfl rfl (WF.t hw 59 rfl) rfl rfl ⟨rfl, rfl⟩ (by omega) (r_back (h := kwi h 59 14 (shA c A)) hw (refTh_59 hk) (Nat.le_refl _) ?_)
  intro k f e
  show Wp d 238 59 [some (.ref 59), some (.int (p)), some (.int (Int32.ofNat L)), some (.int (b)), some (.int (s)), some (.int (Int32.ofNat L))] [] k Q
  refine Wp.seg 1 (pc1 := 61) (ls1 := [some (.ref 59), some (.int (p)), some (.int (Int32.ofNat L)), some (.int (b)), some (.int (s)), some (.int (Int32.ofNat L))]) (st1 := [.int (s)]) rfl ?_
  exact Wp.reti rfl rfl (hQ k f e)
set_option maxHeartbeats 4000000 in
theorem t_wo {d : Nat} {Q : KO → Prop} {h : KH} (hw : WF h) {A : Nat → Int32} {RL : List Rul} {n c dn en : Nat} (hk : refOK h A RL n c dn en) {p L : Int32} (hd : 6 ≤ d) (hQ : Wp d 238 16 ([some (.ref 59), some (.int (p)), some (.int (L)), some (.int ((Int32.ofNat n) + (1 : Int32))), some (.int (0)), some (.int (0))]) [] h Q) : Cl d 238 [.ref 59, .int (p), .int (L)] h Q := by
  refine Cl.of (ls := [some (.ref 59), some (.int (p)), some (.int (L)), none, none, none]) rfl rfl ?_
  refine Wp.seg 1 (pc1 := 1) (ls1 := [some (.ref 59), some (.int (p)), some (.int (L)), none, none, none]) (st1 := [.ref 59]) rfl ?_
  refine Wp.gr (t := (11, 0)) (v := some (60)) rfl (WF.t hw 59 rfl) rfl (WF.r hw 59 0 58 rfl) ?_
  show Wp d 238 4 [some (.ref 59), some (.int (p)), some (.int (L)), none, none, none] [.ref 60] h Q
  refine Wp.seg 1 (pc1 := 6) (ls1 := [some (.ref 59), some (.int (p)), some (.int (L)), none, none, none]) (st1 := [.int (8), .ref 60]) rfl ?_
  refine Wp.iald (j := 8) (k := 20) (n := 585) rfl (WF.t hw 60 rfl) rfl rfl (by decide) (by decide) ?_
  rw [show h.2.2.1 60 8 = Int32.ofNat n from hk.2.1.2.1]
  refine Wp.seg 7 (pc1 := 16) (ls1 := [some (.ref 59), some (.int (p)), some (.int (L)), some (.int ((Int32.ofNat n) + (1 : Int32))), some (.int (0)), some (.int (0))]) (st1 := []) rfl ?_
  exact hQ
theorem outc_nil (RL : List Rul) (c : Nat) (A : Nat → Int32) (s t sh : Int32) : outc RL c [] A s t sh = (s, t, sh) := rfl
theorem outc_cons (RL : List Rul) (c a : Nat) (ps : List Nat) (A : Nat → Int32) (s t sh : Int32) : outc RL c (a :: ps) A s t sh = outc RL c ps (goA RL A (actT a)) (s + wA RL A (actT a)) (if a = 0 then t else t + 1) (shA c (goA RL A (actT a))) := rfl
def pN : Nat → Prop := fun c => c = 59 ∨ c = 60 ∨ c = 64
theorem r_worthL {d : Nat} {Q : KO → Prop} {S : Nat → Int32} {RL : List Rul} {n c en p L : Nat} (hn : n ≤ 6) (hL : L ≤ 4) (hp : p < (n + 1) ^ L) (hd : 6 ≤ d) : ∀ (j i dn : Nat) (A : Nat → Int32) (s t : Int32) (h : KH), i + j = L → WF h → refTh h S A RL n c dn en → dn + j ≤ en →
    (∀ k, Fr pN noP h k → k.2.2.1 60 = S → k.2.2.1 59 14 = (outc RL c ((digsR (n + 1) L p).drop i) A s t (shA c A)).2.2 → (∀ x, x ≠ 14 → k.2.2.1 59 x = h.2.2.1 59 x) → Q (some (.int (outc RL c ((digsR (n + 1) L p).drop i) A s t (shA c A)).1), k)) →
    Wp d 238 16 [some (.ref 59), some (.int (Int32.ofNat p)), some (.int (Int32.ofNat L)), some (.int (Int32.ofNat n + 1)), some (.int s), some (.int (Int32.ofNat i))] [] h Q := by
  intro j
  induction j with
  | zero =>
    intro i dn A s t h hij hw hk hdn hQ
    have hiL : i = L := hij
    subst hiL
    rw [List.drop_of_length_le (by rw [digsR_len]; exact Nat.le_refl _), outc_nil] at hQ
    refine t_woE hw hk (by omega) (fun k f e => hQ k (Fr.trans (fr_kwi (Or.inl rfl) (by decide)) (f.mono (fun c z => Or.inr (Or.inl z)) (fun _ z => z))) e ?_ (fun x hx => ?_))
    · rw [f.2.2.1 59 (Or.inl (by decide))]
      exact kwi_s
    · rw [f.2.2.1 59 (Or.inl (by decide))]
      exact kwi_o hx
  | succ j ih =>
    intro i dn A s t h hij hw hk hdn hQ
    have hlen : i < (digsR (n + 1) L p).length := by rw [digsR_len]; omega
    have hgl : (digsR (n + 1) L p).getD i 0 ≤ n := by
      have e : (digsR (n + 1) L p).getD i 0 = (digsR (n + 1) L p)[i] := by simp [hlen]
      have := digsR_lt (Nat.succ_pos n) L p hp _ (List.getElem_mem hlen)
      omega
    rw [drop_get hlen, outc_cons] at hQ
    refine t_woB hw hk.1 hn hL (by omega) hp (by omega) hgl hd (fun k f g e0 => ?_)
    rw [show Int32.ofNat i + 1 = Int32.ofNat (i + 1) from ofadd i 1]
    refine ih (i + 1) (dn + 1) _ _ (if (digsR (n + 1) L p).getD i 0 = 0 then t else t + 1) k (by omega) (f.wf hw (fun z => z)) (hk.next f pM62 g e0) (by omega) (fun k2 f2 e2 e3 e4 => hQ k2 (Fr.trans (f.mono (fun c z => by unfold pM at z; unfold pN; omega) (fun _ z => z)) f2) e2 e3 (fun x hx => ?_))
    rw [e4 x hx, f.2.2.1 59 (Or.inl (by unfold pM; decide))]
theorem r_worth {d : Nat} {Q : KO → Prop} {h : KH} (hw : WF h) {S A : Nat → Int32} {RL : List Rul} {n c dn en p L : Nat} (hk : refTh h S A RL n c dn en) (hL : L ≤ 4) (hp : p < (n + 1) ^ L) (hdn : dn + L ≤ en) (hd : 6 ≤ d)
    (hQ : ∀ k, Fr pN noP h k → k.2.2.1 60 = S → k.2.2.1 59 14 = (outc RL c (digsR (n + 1) L p) A 0 0 (shA c A)).2.2 → (∀ x, x ≠ 14 → k.2.2.1 59 x = h.2.2.1 59 x) → Q (some (.int (outc RL c (digsR (n + 1) L p) A 0 0 (shA c A)).1), k)) : Cl d 238 [.ref 59, .int (Int32.ofNat p), .int (Int32.ofNat L)] h Q :=
  t_wo hw hk.1 hd (r_worthL hk.1.2.1.1 hL hp hd L 0 dn A 0 0 h (by omega) hw hk hdn hQ)
