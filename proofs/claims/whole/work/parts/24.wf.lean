/-! KM: the memory after the constructors; more rules -/
def kTL : List (Nat × Nat) := [(10, 0), (1, 0), (20, 24), (20, 5), (1, 0), (20, 24), (20, 5), (1, 0), (20, 24), (20, 5), (5, 0), (24, 5), (20, 4), (20, 4), (1, 0), (20, 24), (20, 5), (1, 0), (20, 24), (20, 5), (1, 0), (20, 24), (20, 5), (1, 0), (20, 24), (20, 5), (1, 0), (20, 24), (20, 5), (6, 0), (21, 200), (20, 201), (20, 201), (26, 4), (20, 3), (20, 3), (20, 3), (20, 3), (20, 4), (20, 4), (26, 4), (20, 40), (20, 40), (20, 40), (20, 40), (20, 4), (20, 4), (20, 4), (25, 6), (0, 0), (20, 30), (3, 0), (20, 30), (4, 0), (20, 30), (8, 0), (20, 30), (2, 0), (20, 30), (11, 0), (20, 585), (20, 585), (20, 585), (20, 200), (22, 100), (20, 2340), (20, 585), (20, 12), (20, 4), (20, 4), (23, 160), (20, 4), (20, 4), (20, 4), (20, 30)]
def kRL : List (Nat × Nat × Nat) := [(0, 0, 1), (0, 1, 4), (0, 2, 7), (0, 3, 10), (0, 5, 29), (0, 6, 33), (0, 8, 38), (0, 9, 39), (0, 10, 40), (0, 11, 45), (0, 12, 46), (0, 13, 47), (0, 14, 48), (1, 0, 2), (1, 12, 3), (4, 0, 5), (4, 12, 6), (7, 0, 8), (7, 12, 9), (10, 0, 11), (10, 1, 12), (10, 2, 13), (11, 0, 14), (11, 1, 17), (11, 2, 20), (11, 3, 23), (11, 4, 26), (14, 0, 15), (14, 12, 16), (17, 0, 18), (17, 12, 19), (20, 0, 21), (20, 12, 22), (23, 0, 24), (23, 12, 25), (26, 0, 27), (26, 12, 28), (29, 0, 30), (29, 2, 31), (29, 3, 32), (33, 0, 34), (33, 1, 35), (33, 2, 36), (33, 3, 37), (40, 0, 41), (40, 1, 42), (40, 2, 43), (40, 3, 44), (48, 1, 49), (48, 2, 51), (48, 3, 53), (48, 4, 55), (48, 5, 57), (49, 0, 50), (51, 0, 52), (53, 0, 54), (55, 0, 56), (57, 0, 58), (59, 0, 60), (59, 1, 61), (59, 2, 62), (59, 4, 63), (59, 13, 64), (59, 18, 65), (59, 19, 66), (59, 21, 67), (59, 22, 68), (59, 23, 69), (59, 24, 70), (59, 25, 71), (59, 26, 72), (59, 27, 73), (59, 28, 74)]
/-- what never changes once both are made; (0, 15) is 'latest', a City's 10 and 11 are its rules and reports -/
def WF (h : KH) : Prop := (∀ a, a < 75 → h.1 a = kTL.getD a (99, 0)) ∧ (∀ q ∈ kRL, h.2.1 q.1 q.2.1 = some q.2.2) ∧ 75 ≤ h.2.2.2.2.1 ∧ h.1 1000000000 = (30, 126) ∧ h.1 1000000001 = (31, 0) ∧ h.2.1 1000000001 0 = some 1000000002 ∧ h.1 1000000002 = (32, 93)
theorem WF.t {h : KH} (hw : WF h) (a : Nat) {t : Nat × Nat} (e : kTL[a]? = some t) : h.1 a = t := by
  have h1 : a < kTL.length := (List.getElem?_eq_some_iff.mp e).1
  rw [hw.1 a h1, List.getD_eq_getElem?_getD, e]
  rfl
theorem WF.r {h : KH} (hw : WF h) (a k : Nat) {b : Nat} (i : Nat) (e : kRL[i]? = some (a, k, b)) : h.2.1 a k = some b := hw.2.1 _ (List.mem_of_getElem? e)
def b32 (b : Bool) : Int32 := cond b 1 0
theorem b32_01 (b : Bool) : b32 b = 0 ∨ b32 b = 1 := by cases b <;> first | exact Or.inl rfl | exact Or.inr rfl
theorem b32_0 {b : Bool} : b32 b = 0 ↔ b = false := by cases b <;> decide
theorem b32_1 {b : Bool} : b32 b = 1 ↔ b = true := by cases b <;> decide
theorem kret_b32 {M : Nat} (b : Bool) (hM : kmrc M = 1 := by rfl) : kretok (kmrc M) (b32 b) = true := by rw [hM]; cases b <;> rfl
theorem bfT {X : Bool} (h : X = false) : ¬ X = true := by rw [h]; decide
section WPS
variable {d M pc : Nat} {ls : KL} {st r : List Value} {h : KH} {Q : KO → Prop}
theorem Wp.ifz {off : Int} {nx tg : Nat} {w : Value} {ts : List (Nat × Nat)} {X : Bool} (he : kpf M pc = some (.ifCond .eq off, nx, tg, w, ts)) (h1 : X = false → Wp d M tg ls r h Q) (h2 : X = true → Wp d M nx ls r h Q) : Wp d M pc ls (.int (b32 X) :: r) h Q :=
  Wp.if1 he (fun q => h1 (b32_0.mp q)) (fun q => h2 (by cases X with
    | true => rfl
    | false => exact absurd rfl q))
theorem Wp.ifnz {off : Int} {nx tg : Nat} {w : Value} {ts : List (Nat × Nat)} {X : Bool} (he : kpf M pc = some (.ifCond .ne off, nx, tg, w, ts)) (h1 : X = true → Wp d M tg ls r h Q) (h2 : X = false → Wp d M nx ls r h Q) : Wp d M pc ls (.int (b32 X) :: r) h Q :=
  Wp.if1 he (fun q => h1 (by cases X with
    | true => rfl
    | false => exact absurd rfl q)) (fun q => h2 (by cases X with
    | false => rfl
    | true => exact absurd (show ¬ b32 true = 0 by decide) q))
def kvirt (ts : List (Nat × Nat)) : Bool := match ts with
  | [(99, _)] => false
  | [(95, _)] => false
  | _ => true
theorem kpick_virt {ts : List (Nat × Nat)} {a M2 : Nat} {as : List Value} {t : Nat × Nat} (hv : kvirt ts = true) (ht : h.1 a = t) (hk : klook t.1 ts = some M2) : kpick ts (.ref a :: as) h = some M2 := by
  unfold kpick
  split
  · cases hv
  · cases hv
  · simp only [ht, hk]
theorem Wp.invV {i : Instr} {nx tg k M2 d2 a : Nat} {t : Nat × Nat} {ts : List (Nat × Nat)} {as as2 : List Value} (he : kpf M pc = some (i, nx, tg, .retAddr k, ts)) (hi : kinvB i = true) (hts : kspec ts = true) (hk : ktake tg st = some (as, r)) (ht : h.1 a = t) (has : as = .ref a :: as2) (hv : kvirt ts = true) (hp : klook t.1 ts = some M2 ∧ Nat.ble (kcats r) 8 = true) (hd : d2 < d) (hc : Cl d2 M2 as h (fun o => Wp d M nx ls (o.1.toList ++ r) o.2 Q)) : Wp d M pc ls st h Q :=
  Wp.inv he hi hts hk (by rw [has]; exact kpick_virt hv ht hp.1) hp.2 hd hc
/-- ints as integers -/
theorem zc {x y : Int32} {m n : Int} (hx : x.toInt = m) (hy : y.toInt = n) (hb : -2147483648 ≤ m + n ∧ m + n ≤ 2147483647) : (x + y).toInt = m + n := by
  rw [Int32.toInt_add, hx, hy, Int.bmod_def]
  omega
theorem zs {x y : Int32} {m n : Int} (hx : x.toInt = m) (hy : y.toInt = n) (hb : -2147483648 ≤ m - n ∧ m - n ≤ 2147483647) : (x - y).toInt = m - n := by
  rw [Int32.toInt_sub, hx, hy, Int.bmod_def]
  omega
theorem zm {x y : Int32} {m n : Int} (hx : x.toInt = m) (hy : y.toInt = n) (hb : -2147483648 ≤ m * n ∧ m * n ≤ 2147483647) : (x * y).toInt = m * n := by
  rw [Int32.toInt_mul, hx, hy, Int.bmod_def]
  omega
theorem zidx {x : Int32} {j : Nat} (hx : x.toInt = (j : Int)) : x = Int32.ofNat j := by
  have h1 := Int32.toInt_lt x
  apply Int32.toInt_inj.mp
  rw [hx, kofNat_toInt (by omega)]
theorem znat {n : Nat} (h : n < 2147483648) : (Int32.ofNat n).toInt = (n : Int) := kofNat_toInt (by omega)
theorem zlt {x y : Int32} {m n : Int} (hx : x.toInt = m) (hy : y.toInt = n) : x < y ↔ m < n := by rw [Int32.lt_iff_toInt_lt, hx, hy]
theorem zle {x y : Int32} {m n : Int} (hx : x.toInt = m) (hy : y.toInt = n) : x ≤ y ↔ m ≤ n := by rw [Int32.le_iff_toInt_le, hx, hy]
theorem zeq {x y : Int32} {m n : Int} (hx : x.toInt = m) (hy : y.toInt = n) : x = y ↔ m = n := by rw [← Int32.toInt_inj, hx, hy]
end WPS
