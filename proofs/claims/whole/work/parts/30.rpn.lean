/-! KM: the reference, a rule's condition -/
theorem ofadd (k m : Nat) : Int32.ofNat k + Int32.ofNat m = Int32.ofNat (k + m) := (Int32.ofNat_add k m).symm
theorem ofdec (k : Nat) : Int32.ofNat (k + 1) + -1 = Int32.ofNat k := by
  rw [← ofadd, Int32.add_assoc]
  show Int32.ofNat k + 0 = _
  rw [Int32.add_zero]
theorem ofdec2 (k : Nat) : Int32.ofNat (k + 1) - 1 = Int32.ofNat k := by
  rw [← ofadd]
  show Int32.ofNat k + 1 - 1 = _
  rw [Int32.add_sub_cancel]
theorem ofdec3 (k : Nat) : Int32.ofNat (k + 2) + -1 - 1 = Int32.ofNat k := by
  rw [ofdec, ofdec2]
theorem olt {a b : Nat} (ha : a < 2147483648) (hb : b < 2147483648) : Int32.ofNat a < Int32.ofNat b ↔ a < b := by
  rw [zlt (znat ha) (znat hb)]
  omega
theorem ole {a b : Nat} (ha : a < 2147483648) (hb : b < 2147483648) : Int32.ofNat a ≤ Int32.ofNat b ↔ a ≤ b := by
  rw [zle (znat ha) (znat hb)]
  omega
theorem oeq {a b : Nat} (ha : a < 2147483648) (hb : b < 2147483648) : Int32.ofNat a = Int32.ofNat b ↔ a = b := by
  rw [zeq (znat ha) (znat hb)]
  omega
/-- the pile is another one -/
def hPl (h : KH) (p : Nat → Int32) : KH := (h.1, h.2.1, ku h.2.2.1 64 p, h.2.2.2)
theorem hPl_w (h : KH) (j : Nat) (x : Int32) : kwi h 64 j x = hPl h (ku (h.2.2.1 64) j x) := rfl
theorem hPl_hPl (h : KH) (p q : Nat → Int32) : hPl (hPl h p) q = hPl h q := by
  show (h.1, h.2.1, ku (ku h.2.2.1 64 p) 64 q, h.2.2.2) = _
  rw [ku_u]
  rfl
theorem hPl_S (h : KH) (p : Nat → Int32) : (hPl h p).2.2.1 60 = h.2.2.1 60 := ku_n (k := 64) (j := 60) h.2.2.1 p (by decide)
theorem hPl_p (h : KH) (p : Nat → Int32) : (hPl h p).2.2.1 64 = p := ku_s h.2.2.1 64 p
def f_isSo (s a b : Int32) : Int32 := if ¬ s = (60 : Int32) then if ¬ s = (61 : Int32) then if a ≤ b then (0 : Int32) else (1 : Int32) else if ¬ a = b then (0 : Int32) else (1 : Int32) else if b ≤ a then (0 : Int32) else (1 : Int32)
set_option maxHeartbeats 4000000 in
theorem s_isSo {d : Nat} {Q : KO → Prop} {h : KH} {s a b : Int32} (hd : 0 ≤ d) (hQ : Q (some (.int (f_isSo s a b)), h)) : Cl d 217 [.int (s), .int (a), .int (b)] h Q := by
  refine Cl.of (ls := [some (.int (s)), some (.int (a)), some (.int (b))]) rfl rfl ?_
  refine Wp.seg 2 (pc1 := 3) (ls1 := [some (.int (s)), some (.int (a)), some (.int (b))]) (st1 := [.int (60), .int (s)]) rfl ?_
  refine Wp.if2 rfl (fun (c1 : ¬ s = (60 : Int32)) => ?_) (fun (c1 : ¬ (¬ s = (60 : Int32))) => ?_)
  · refine Wp.seg 2 (pc1 := 22) (ls1 := [some (.int (s)), some (.int (a)), some (.int (b))]) (st1 := [.int (61), .int (s)]) rfl ?_
    refine Wp.if2 rfl (fun (c2 : ¬ s = (61 : Int32)) => ?_) (fun (c2 : ¬ (¬ s = (61 : Int32))) => ?_)
    · refine Wp.seg 2 (pc1 := 40) (ls1 := [some (.int (s)), some (.int (a)), some (.int (b))]) (st1 := [.int (b), .int (a)]) rfl ?_
      refine Wp.if2 rfl (fun (c3 : a ≤ b) => ?_) (fun (c3 : ¬ (a ≤ b)) => ?_)
      · refine Wp.seg 1 (pc1 := 48) (ls1 := [some (.int (s)), some (.int (a)), some (.int (b))]) (st1 := [.int (0)]) rfl ?_
        exact Wp.reti rfl rfl (by unfold f_isSo at hQ; rw [if_pos c1] at hQ; rw [if_pos c2] at hQ; rw [if_pos c3] at hQ; exact hQ)
      · refine Wp.seg 2 (pc1 := 48) (ls1 := [some (.int (s)), some (.int (a)), some (.int (b))]) (st1 := [.int (1)]) rfl ?_
        exact Wp.reti rfl rfl (by unfold f_isSo at hQ; rw [if_pos c1] at hQ; rw [if_pos c2] at hQ; rw [if_neg c3] at hQ; exact hQ)
    · refine Wp.seg 2 (pc1 := 27) (ls1 := [some (.int (s)), some (.int (a)), some (.int (b))]) (st1 := [.int (b), .int (a)]) rfl ?_
      refine Wp.if2 rfl (fun (c4 : ¬ a = b) => ?_) (fun (c4 : ¬ (¬ a = b)) => ?_)
      · refine Wp.seg 2 (pc1 := 48) (ls1 := [some (.int (s)), some (.int (a)), some (.int (b))]) (st1 := [.int (0)]) rfl ?_
        exact Wp.reti rfl rfl (by unfold f_isSo at hQ; rw [if_pos c1] at hQ; rw [if_neg c2] at hQ; rw [if_pos c4] at hQ; exact hQ)
      · refine Wp.seg 2 (pc1 := 48) (ls1 := [some (.int (s)), some (.int (a)), some (.int (b))]) (st1 := [.int (1)]) rfl ?_
        exact Wp.reti rfl rfl (by unfold f_isSo at hQ; rw [if_pos c1] at hQ; rw [if_neg c2] at hQ; rw [if_neg c4] at hQ; exact hQ)
  · refine Wp.seg 2 (pc1 := 8) (ls1 := [some (.int (s)), some (.int (a)), some (.int (b))]) (st1 := [.int (b), .int (a)]) rfl ?_
    refine Wp.if2 rfl (fun (c5 : b ≤ a) => ?_) (fun (c5 : ¬ (b ≤ a)) => ?_)
    · refine Wp.seg 2 (pc1 := 48) (ls1 := [some (.int (s)), some (.int (a)), some (.int (b))]) (st1 := [.int (0)]) rfl ?_
      exact Wp.reti rfl rfl (by unfold f_isSo at hQ; rw [if_neg c1] at hQ; rw [if_pos c5] at hQ; exact hQ)
    · refine Wp.seg 2 (pc1 := 48) (ls1 := [some (.int (s)), some (.int (a)), some (.int (b))]) (st1 := [.int (1)]) rfl ?_
      exact Wp.reti rfl rfl (by unfold f_isSo at hQ; rw [if_neg c1] at hQ; rw [if_neg c5] at hQ; exact hQ)
def f_factOf (S : Nat → Int32) (n : Nat) (v : Int32) : Int32 := if v = (-5) then Int32.ofNat n else if v = (-4) then S (11 + 4 * n + 3) else if v = (-3) then S (11 + 4 * n + 2) else if v = (-2) then S (11 + 4 * n + 1) else if v = (-1) then S 1 else v
set_option maxHeartbeats 4000000 in
theorem s_factOf {d : Nat} {Q : KO → Prop} {h : KH} (hw : WF h) {n : Nat} (hn : n < 6) {v : Int32} (hd : 1 ≤ d) (hQ : Q (some (.int (f_factOf (h.2.2.1 60) n v)), h)) : Cl d 216 [.ref 59, .int (Int32.ofNat n), .int (v)] h Q := by
  refine Cl.of (ls := [some (.ref 59), some (.int (Int32.ofNat n)), some (.int (v))]) rfl rfl ?_
  refine Wp.seg 1 (pc1 := 1) (ls1 := [some (.ref 59), some (.int (Int32.ofNat n)), some (.int (v))]) (st1 := [.int (v)]) rfl ?_
  refine Wp.tsw rfl ?_
  refine ⟨fun c1 => ?_, fun c1 => ?_⟩
  · have c1 : v = (-5) := c1
    show Wp d 216 64 [some (.ref 59), some (.int (Int32.ofNat n)), some (.int (v))] [] h Q
    refine Wp.seg 1 (pc1 := 65) (ls1 := [some (.ref 59), some (.int (Int32.ofNat n)), some (.int (v))]) (st1 := [.int (Int32.ofNat n)]) rfl ?_
    exact Wp.reti rfl rfl (by unfold f_factOf at hQ; rw [if_pos c1] at hQ; exact hQ)
  have c1 : ¬ v = (-5) := c1
  refine ⟨fun c2 => ?_, fun c2 => ?_⟩
  · have c2 : v = (-4) := c2
    show Wp d 216 57 [some (.ref 59), some (.int (Int32.ofNat n)), some (.int (v))] [] h Q
    refine Wp.seg 3 (pc1 := 60) (ls1 := [some (.ref 59), some (.int (Int32.ofNat n)), some (.int (v))]) (st1 := [.int (3), .int (Int32.ofNat n), .ref 59]) rfl ?_
    refine Wp.invV (d2 := 0) (as := [.ref 59, .int (Int32.ofNat n), .int (3)]) (r := []) (t := (11, 0)) rfl rfl rfl rfl (WF.t hw 59 rfl) rfl rfl ⟨rfl, rfl⟩ (by omega) (s_of hw (n := n) (w := 3) rfl (by omega) ?_)
    show Wp d 216 63 [some (.ref 59), some (.int (Int32.ofNat n)), some (.int (v))] [.int (h.2.2.1 60 (11 + 4 * n + 3))] h Q
    exact Wp.reti rfl rfl (by unfold f_factOf at hQ; rw [if_neg c1] at hQ; rw [if_pos c2] at hQ; exact hQ)
  have c2 : ¬ v = (-4) := c2
  refine ⟨fun c3 => ?_, fun c3 => ?_⟩
  · have c3 : v = (-3) := c3
    show Wp d 216 50 [some (.ref 59), some (.int (Int32.ofNat n)), some (.int (v))] [] h Q
    refine Wp.seg 3 (pc1 := 53) (ls1 := [some (.ref 59), some (.int (Int32.ofNat n)), some (.int (v))]) (st1 := [.int (2), .int (Int32.ofNat n), .ref 59]) rfl ?_
    refine Wp.invV (d2 := 0) (as := [.ref 59, .int (Int32.ofNat n), .int (2)]) (r := []) (t := (11, 0)) rfl rfl rfl rfl (WF.t hw 59 rfl) rfl rfl ⟨rfl, rfl⟩ (by omega) (s_of hw (n := n) (w := 2) rfl (by omega) ?_)
    show Wp d 216 56 [some (.ref 59), some (.int (Int32.ofNat n)), some (.int (v))] [.int (h.2.2.1 60 (11 + 4 * n + 2))] h Q
    exact Wp.reti rfl rfl (by unfold f_factOf at hQ; rw [if_neg c1] at hQ; rw [if_neg c2] at hQ; rw [if_pos c3] at hQ; exact hQ)
  have c3 : ¬ v = (-3) := c3
  refine ⟨fun c4 => ?_, fun c4 => ?_⟩
  · have c4 : v = (-2) := c4
    show Wp d 216 43 [some (.ref 59), some (.int (Int32.ofNat n)), some (.int (v))] [] h Q
    refine Wp.seg 3 (pc1 := 46) (ls1 := [some (.ref 59), some (.int (Int32.ofNat n)), some (.int (v))]) (st1 := [.int (1), .int (Int32.ofNat n), .ref 59]) rfl ?_
    refine Wp.invV (d2 := 0) (as := [.ref 59, .int (Int32.ofNat n), .int (1)]) (r := []) (t := (11, 0)) rfl rfl rfl rfl (WF.t hw 59 rfl) rfl rfl ⟨rfl, rfl⟩ (by omega) (s_of hw (n := n) (w := 1) rfl (by omega) ?_)
    show Wp d 216 49 [some (.ref 59), some (.int (Int32.ofNat n)), some (.int (v))] [.int (h.2.2.1 60 (11 + 4 * n + 1))] h Q
    exact Wp.reti rfl rfl (by unfold f_factOf at hQ; rw [if_neg c1] at hQ; rw [if_neg c2] at hQ; rw [if_neg c3] at hQ; rw [if_pos c4] at hQ; exact hQ)
  have c4 : ¬ v = (-2) := c4
  refine ⟨fun c5 => ?_, fun c5 => ?_⟩
  · have c5 : v = (-1) := c5
    show Wp d 216 36 [some (.ref 59), some (.int (Int32.ofNat n)), some (.int (v))] [] h Q
    refine Wp.seg 1 (pc1 := 37) (ls1 := [some (.ref 59), some (.int (Int32.ofNat n)), some (.int (v))]) (st1 := [.ref 59]) rfl ?_
    refine Wp.gr (t := (11, 0)) (v := some (60)) rfl (WF.t hw 59 rfl) rfl (WF.r hw 59 0 58 rfl) ?_
    show Wp d 216 40 [some (.ref 59), some (.int (Int32.ofNat n)), some (.int (v))] [.ref 60] h Q
    refine Wp.seg 1 (pc1 := 41) (ls1 := [some (.ref 59), some (.int (Int32.ofNat n)), some (.int (v))]) (st1 := [.int (1), .ref 60]) rfl ?_
    refine Wp.iald (j := 1) (k := 20) (n := 585) rfl (WF.t hw 60 rfl) rfl rfl (by decide) (by decide) ?_
    exact Wp.reti rfl rfl (by unfold f_factOf at hQ; rw [if_neg c1] at hQ; rw [if_neg c2] at hQ; rw [if_neg c3] at hQ; rw [if_neg c4] at hQ; rw [if_pos c5] at hQ; exact hQ)
  have c5 : ¬ v = (-1) := c5
  show Wp d 216 66 [some (.ref 59), some (.int (Int32.ofNat n)), some (.int (v))] [] h Q
  refine Wp.seg 1 (pc1 := 67) (ls1 := [some (.ref 59), some (.int (Int32.ofNat n)), some (.int (v))]) (st1 := [.int (v)]) rfl ?_
  exact Wp.reti rfl rfl (by unfold f_factOf at hQ; rw [if_neg c1] at hQ; rw [if_neg c2] at hQ; rw [if_neg c3] at hQ; rw [if_neg c4] at hQ; rw [if_neg c5] at hQ; exact hQ)
/-- a condition's steps: kind, two values; kinds 0 to 2 are comparisons, 3 not, 4 and, 5 or -/
abbrev Op : Type := Nat × Int32 × Int32
def laidS (S : Nat → Int32) : Nat → List Op → Nat → Prop
  | k, [], e => k = e
  | k, (t, a, b) :: r, e => (t ≤ 2 ∧ S k = Int32.ofNat (60 + t) ∧ S (k + 1) = a ∧ S (k + 2) = b ∧ laidS S (k + 3) r e) ∨ (3 ≤ t ∧ t ≤ 5 ∧ S k = Int32.ofNat (20 - t) ∧ laidS S (k + 1) r e)
theorem laidS_le {S : Nat → Int32} : ∀ {P : List Op} {k e : Nat}, laidS S k P e → k ≤ e
  | [], k, e, h => Nat.le_of_eq h
  | (t, a, b) :: r, k, e, h => by
    rcases h with ⟨-, -, -, -, h⟩ | ⟨-, -, -, h⟩
    · have := laidS_le h
      omega
    · have := laidS_le h
      omega
def cmpB (t : Nat) (x y : Int32) : Bool := match t with
  | 0 => decide (x < y)
  | 1 => decide (x = y)
  | _ => decide (y < x)
theorem isSo_cmp {t : Nat} (ht : t ≤ 2) (x y : Int32) : f_isSo (Int32.ofNat (60 + t)) x y = b32 (cmpB t x y) := by
  have h3 : t = 0 ∨ t = 1 ∨ t = 2 := by omega
  unfold f_isSo cmpB
  rcases h3 with rfl | rfl | rfl
  · by_cases q : x < y
    · have q2 : ¬ y ≤ x := Int32.not_le.mpr q
      simp [q, q2, b32]
    · have q2 : y ≤ x := Int32.not_lt.mp q
      simp [q, q2, b32]
  · by_cases q : x = y
    · simp [q, b32]
    · simp [q, b32]
  · by_cases q : y < x
    · have q2 : ¬ x ≤ y := Int32.not_le.mpr q
      simp [q, q2, b32]
    · have q2 : x ≤ y := Int32.not_lt.mp q
      simp [q, q2, b32]
/-- what the steps make of a pile, the latest first -/
def evP (f : Int32 → Int32) : List Op → List Bool → List Bool
  | [], s => s
  | (t, a, b) :: r, s => match t, s with
    | 3, x :: s => evP f r ((!x) :: s)
    | 4, y :: x :: s => evP f r ((x && y) :: s)
    | 5, y :: x :: s => evP f r ((x || y) :: s)
    | 3, [] => []
    | 4, _ => []
    | 5, _ => []
    | t, s => evP f r (cmpB t (f a) (f b) :: s)
/-- steps that never miss anything on the pile; at most m lie there; one at the end -/
def okP (m : Nat) : List Op → Nat → Prop
  | [], n => n = 1
  | (t, _, _) :: r, n => (t ≤ 2 ∧ n < m ∧ okP m r (n + 1)) ∨ (t = 3 ∧ 1 ≤ n ∧ okP m r n) ∨ ((t = 4 ∨ t = 5) ∧ 2 ≤ n ∧ okP m r (n - 1))
def pileR (p : Nat → Int32) : List Bool → Prop
  | [] => True
  | b :: s => p s.length = b32 b ∧ pileR p s
theorem pileR_up {p : Nat → Int32} {x : Int32} : ∀ {s : List Bool} {j : Nat}, s.length ≤ j → pileR p s → pileR (ku p j x) s
  | [], _, _, _ => trivial
  | b :: s, j, hj, h => by
    have hj2 : s.length + 1 ≤ j := hj
    exact ⟨by rw [ku_n p x (by omega)]; exact h.1, pileR_up (by omega) h.2⟩
set_option maxHeartbeats 4000000 in
theorem t_hNot {d : Nat} {Q : KO → Prop} {h : KH} (hw : WF h) {g k e q : Nat} {rule s : Int32} {z : Option Value} (hg : g < 6) (hke : k < e) (he : e < 583) {b : Bool} (hq : q + 1 ≤ 100) (h1 : h.2.2.1 60 k = 17) (h2 : h.2.2.1 64 q = b32 b) (hd : 2 ≤ d) (hQ : (b = true → Wp d 218 42 ([some (.ref 59), some (.int (Int32.ofNat g)), some (.int (rule)), some (.int (Int32.ofNat (q + 1))), some (.int ((Int32.ofNat k) + 1)), some (.int (Int32.ofNat e)), some (.int (s)), some (.int (17))]) [] (kwi h 64 q (0 : Int32)) Q) ∧ (b = false → Wp d 218 42 ([some (.ref 59), some (.int (Int32.ofNat g)), some (.int (rule)), some (.int (Int32.ofNat (q + 1))), some (.int ((Int32.ofNat k) + 1)), some (.int (Int32.ofNat e)), some (.int (s)), some (.int (17))]) [] (kwi h 64 q (1 : Int32)) Q)) : Wp d 218 42 [some (.ref 59), some (.int (Int32.ofNat g)), some (.int (rule)), some (.int (Int32.ofNat (q + 1))), some (.int (Int32.ofNat k)), some (.int (Int32.ofNat e)), some (.int (s)), z] [] h Q := by
  refine Wp.seg 2 (pc1 := 46) (ls1 := [some (.ref 59), some (.int (Int32.ofNat g)), some (.int (rule)), some (.int (Int32.ofNat (q + 1))), some (.int (Int32.ofNat k)), some (.int (Int32.ofNat e)), some (.int (s)), z]) (st1 := [.int (Int32.ofNat e), .int (Int32.ofNat k)]) rfl ?_
  refine Wp.if2 rfl (fun c1 => absurd c1 (fun c => by have := (ole (by omega) (by omega)).mp c; omega)) (fun c1 => ?_)
  refine Wp.seg 1 (pc1 := 50) (ls1 := [some (.ref 59), some (.int (Int32.ofNat g)), some (.int (rule)), some (.int (Int32.ofNat (q + 1))), some (.int (Int32.ofNat k)), some (.int (Int32.ofNat e)), some (.int (s)), z]) (st1 := [.ref 59]) rfl ?_
  refine Wp.gr (t := (11, 0)) (v := some (60)) rfl (WF.t hw 59 rfl) rfl (WF.r hw 59 0 58 rfl) ?_
  show Wp d 218 53 [some (.ref 59), some (.int (Int32.ofNat g)), some (.int (rule)), some (.int (Int32.ofNat (q + 1))), some (.int (Int32.ofNat k)), some (.int (Int32.ofNat e)), some (.int (s)), z] [.ref 60] h Q
  refine Wp.seg 1 (pc1 := 55) (ls1 := [some (.ref 59), some (.int (Int32.ofNat g)), some (.int (rule)), some (.int (Int32.ofNat (q + 1))), some (.int (Int32.ofNat k)), some (.int (Int32.ofNat e)), some (.int (s)), z]) (st1 := [.int (Int32.ofNat k), .ref 60]) rfl ?_
  refine Wp.iald (j := k) (k := 20) (n := 585) rfl (WF.t hw 60 rfl) rfl rfl ((by omega)) (by decide) ?_
  rw [show h.2.2.1 60 k = 17 from h1]
  refine Wp.seg 3 (pc1 := 62) (ls1 := [some (.ref 59), some (.int (Int32.ofNat g)), some (.int (rule)), some (.int (Int32.ofNat (q + 1))), some (.int (Int32.ofNat k)), some (.int (Int32.ofNat e)), some (.int (s)), some (.int (17))]) (st1 := [.int (17), .int (17)]) rfl ?_
  refine Wp.if2 rfl (fun c2 => absurd c2 (show ¬ (¬ (17 : Int32) = (17 : Int32)) by decide)) (fun c2 => ?_)
  refine Wp.seg 1 (pc1 := 66) (ls1 := [some (.ref 59), some (.int (Int32.ofNat g)), some (.int (rule)), some (.int (Int32.ofNat (q + 1))), some (.int (Int32.ofNat k)), some (.int (Int32.ofNat e)), some (.int (s)), some (.int (17))]) (st1 := [.ref 59]) rfl ?_
  refine Wp.gr (t := (11, 0)) (v := some (64)) rfl (WF.t hw 59 rfl) rfl (WF.r hw 59 13 62 rfl) ?_
  show Wp d 218 69 [some (.ref 59), some (.int (Int32.ofNat g)), some (.int (rule)), some (.int (Int32.ofNat (q + 1))), some (.int (Int32.ofNat k)), some (.int (Int32.ofNat e)), some (.int (s)), some (.int (17))] [.ref 64] h Q
  refine Wp.seg 4 (pc1 := 73) (ls1 := [some (.ref 59), some (.int (Int32.ofNat g)), some (.int (rule)), some (.int (Int32.ofNat (q + 1))), some (.int (Int32.ofNat k)), some (.int (Int32.ofNat e)), some (.int (s)), some (.int (17))]) (st1 := [.ref 59, .int ((Int32.ofNat (q + 1)) - (1 : Int32)), .ref 64]) rfl ?_
  refine Wp.gr (t := (11, 0)) (v := some (64)) rfl (WF.t hw 59 rfl) rfl (WF.r hw 59 13 62 rfl) ?_
  show Wp d 218 76 [some (.ref 59), some (.int (Int32.ofNat g)), some (.int (rule)), some (.int (Int32.ofNat (q + 1))), some (.int (Int32.ofNat k)), some (.int (Int32.ofNat e)), some (.int (s)), some (.int (17))] [.ref 64, .int ((Int32.ofNat (q + 1)) - (1 : Int32)), .ref 64] h Q
  refine Wp.seg 3 (pc1 := 79) (ls1 := [some (.ref 59), some (.int (Int32.ofNat g)), some (.int (rule)), some (.int (Int32.ofNat (q + 1))), some (.int (Int32.ofNat k)), some (.int (Int32.ofNat e)), some (.int (s)), some (.int (17))]) (st1 := [.int ((Int32.ofNat (q + 1)) - (1 : Int32)), .ref 64, .int ((Int32.ofNat (q + 1)) - (1 : Int32)), .ref 64]) rfl ?_
  refine Wp.bald (j := q) (k := 22) (n := 100) rfl (WF.t hw 64 rfl) rfl (ofdec2 q) ((by omega)) (by decide) ?_
  rw [show h.2.2.1 64 q = b32 b from h2]
  refine Wp.ifnz rfl (fun (c3 : b = true) => ?_) (fun (c3 : b = false) => ?_)
  · refine Wp.seg 1 (pc1 := 88) (ls1 := [some (.ref 59), some (.int (Int32.ofNat g)), some (.int (rule)), some (.int (Int32.ofNat (q + 1))), some (.int (Int32.ofNat k)), some (.int (Int32.ofNat e)), some (.int (s)), some (.int (17))]) (st1 := [.int (0), .int ((Int32.ofNat (q + 1)) - (1 : Int32)), .ref 64]) rfl ?_
    refine Wp.zast (j := q) (n := 100) rfl (WF.t hw 64 rfl) (ofdec2 q) ((by omega)) (by decide) (Or.inl rfl) ?_
    refine Wp.seg 3 (pc1 := 42) (ls1 := [some (.ref 59), some (.int (Int32.ofNat g)), some (.int (rule)), some (.int (Int32.ofNat (q + 1))), some (.int ((Int32.ofNat k) + 1)), some (.int (Int32.ofNat e)), some (.int (s)), some (.int (17))]) (st1 := []) rfl ?_
    exact (hQ.1 c3)
  · refine Wp.seg 2 (pc1 := 88) (ls1 := [some (.ref 59), some (.int (Int32.ofNat g)), some (.int (rule)), some (.int (Int32.ofNat (q + 1))), some (.int (Int32.ofNat k)), some (.int (Int32.ofNat e)), some (.int (s)), some (.int (17))]) (st1 := [.int (1), .int ((Int32.ofNat (q + 1)) - (1 : Int32)), .ref 64]) rfl ?_
    refine Wp.zast (j := q) (n := 100) rfl (WF.t hw 64 rfl) (ofdec2 q) ((by omega)) (by decide) (Or.inr rfl) ?_
    refine Wp.seg 3 (pc1 := 42) (ls1 := [some (.ref 59), some (.int (Int32.ofNat g)), some (.int (rule)), some (.int (Int32.ofNat (q + 1))), some (.int ((Int32.ofNat k) + 1)), some (.int (Int32.ofNat e)), some (.int (s)), some (.int (17))]) (st1 := []) rfl ?_
    exact (hQ.2 c3)
set_option maxHeartbeats 4000000 in
theorem t_hAnd {d : Nat} {Q : KO → Prop} {h : KH} (hw : WF h) {g k e q : Nat} {rule s : Int32} {z : Option Value} (hg : g < 6) (hke : k < e) (he : e < 583) {b c : Bool} (hq : q + 2 ≤ 100) (h1 : h.2.2.1 60 k = 16) (h2 : h.2.2.1 64 q = b32 b) (h3 : h.2.2.1 64 (q + 1) = b32 c) (hd : 2 ≤ d) (hQ : (b = false → Wp d 218 42 ([some (.ref 59), some (.int (Int32.ofNat g)), some (.int (rule)), some (.int ((Int32.ofNat (q + 2)) + (-1))), some (.int ((Int32.ofNat k) + 1)), some (.int (Int32.ofNat e)), some (.int (s)), some (.int (16))]) [] (kwi h 64 q (0 : Int32)) Q) ∧ (b = true → (c = false → Wp d 218 42 ([some (.ref 59), some (.int (Int32.ofNat g)), some (.int (rule)), some (.int ((Int32.ofNat (q + 2)) + (-1))), some (.int ((Int32.ofNat k) + 1)), some (.int (Int32.ofNat e)), some (.int (s)), some (.int (16))]) [] (kwi h 64 q (0 : Int32)) Q) ∧ (c = true → Wp d 218 42 ([some (.ref 59), some (.int (Int32.ofNat g)), some (.int (rule)), some (.int ((Int32.ofNat (q + 2)) + (-1))), some (.int ((Int32.ofNat k) + 1)), some (.int (Int32.ofNat e)), some (.int (s)), some (.int (16))]) [] (kwi h 64 q (1 : Int32)) Q))) : Wp d 218 42 [some (.ref 59), some (.int (Int32.ofNat g)), some (.int (rule)), some (.int (Int32.ofNat (q + 2))), some (.int (Int32.ofNat k)), some (.int (Int32.ofNat e)), some (.int (s)), z] [] h Q := by
  refine Wp.seg 2 (pc1 := 46) (ls1 := [some (.ref 59), some (.int (Int32.ofNat g)), some (.int (rule)), some (.int (Int32.ofNat (q + 2))), some (.int (Int32.ofNat k)), some (.int (Int32.ofNat e)), some (.int (s)), z]) (st1 := [.int (Int32.ofNat e), .int (Int32.ofNat k)]) rfl ?_
  refine Wp.if2 rfl (fun c1 => absurd c1 (fun c => by have := (ole (by omega) (by omega)).mp c; omega)) (fun c1 => ?_)
  refine Wp.seg 1 (pc1 := 50) (ls1 := [some (.ref 59), some (.int (Int32.ofNat g)), some (.int (rule)), some (.int (Int32.ofNat (q + 2))), some (.int (Int32.ofNat k)), some (.int (Int32.ofNat e)), some (.int (s)), z]) (st1 := [.ref 59]) rfl ?_
  refine Wp.gr (t := (11, 0)) (v := some (60)) rfl (WF.t hw 59 rfl) rfl (WF.r hw 59 0 58 rfl) ?_
  show Wp d 218 53 [some (.ref 59), some (.int (Int32.ofNat g)), some (.int (rule)), some (.int (Int32.ofNat (q + 2))), some (.int (Int32.ofNat k)), some (.int (Int32.ofNat e)), some (.int (s)), z] [.ref 60] h Q
  refine Wp.seg 1 (pc1 := 55) (ls1 := [some (.ref 59), some (.int (Int32.ofNat g)), some (.int (rule)), some (.int (Int32.ofNat (q + 2))), some (.int (Int32.ofNat k)), some (.int (Int32.ofNat e)), some (.int (s)), z]) (st1 := [.int (Int32.ofNat k), .ref 60]) rfl ?_
  refine Wp.iald (j := k) (k := 20) (n := 585) rfl (WF.t hw 60 rfl) rfl rfl ((by omega)) (by decide) ?_
  rw [show h.2.2.1 60 k = 16 from h1]
  refine Wp.seg 3 (pc1 := 62) (ls1 := [some (.ref 59), some (.int (Int32.ofNat g)), some (.int (rule)), some (.int (Int32.ofNat (q + 2))), some (.int (Int32.ofNat k)), some (.int (Int32.ofNat e)), some (.int (s)), some (.int (16))]) (st1 := [.int (17), .int (16)]) rfl ?_
  refine Wp.if2 rfl (fun c2 => ?_) (fun c2 => absurd (show ¬ (16 : Int32) = (17 : Int32) by decide) c2)
  refine Wp.seg 2 (pc1 := 99) (ls1 := [some (.ref 59), some (.int (Int32.ofNat g)), some (.int (rule)), some (.int (Int32.ofNat (q + 2))), some (.int (Int32.ofNat k)), some (.int (Int32.ofNat e)), some (.int (s)), some (.int (16))]) (st1 := [.int (16), .int (16)]) rfl ?_
  refine Wp.if2 rfl (fun c3 => ?_) (fun c3 => absurd (show (16 : Int32) = (16 : Int32) by decide) c3)
  refine Wp.seg 2 (pc1 := 113) (ls1 := [some (.ref 59), some (.int (Int32.ofNat g)), some (.int (rule)), some (.int ((Int32.ofNat (q + 2)) + (-1))), some (.int (Int32.ofNat k)), some (.int (Int32.ofNat e)), some (.int (s)), some (.int (16))]) (st1 := [.ref 59]) rfl ?_
  refine Wp.gr (t := (11, 0)) (v := some (64)) rfl (WF.t hw 59 rfl) rfl (WF.r hw 59 13 62 rfl) ?_
  show Wp d 218 116 [some (.ref 59), some (.int (Int32.ofNat g)), some (.int (rule)), some (.int ((Int32.ofNat (q + 2)) + (-1))), some (.int (Int32.ofNat k)), some (.int (Int32.ofNat e)), some (.int (s)), some (.int (16))] [.ref 64] h Q
  refine Wp.seg 5 (pc1 := 123) (ls1 := [some (.ref 59), some (.int (Int32.ofNat g)), some (.int (rule)), some (.int ((Int32.ofNat (q + 2)) + (-1))), some (.int (Int32.ofNat k)), some (.int (Int32.ofNat e)), some (.int (s)), some (.int (16))]) (st1 := [.int (16), .int (16), .int (((Int32.ofNat (q + 2)) + (-1)) - (1 : Int32)), .ref 64]) rfl ?_
  refine Wp.if2 rfl (fun c4 => absurd c4 (show ¬ (¬ (16 : Int32) = (16 : Int32)) by decide)) (fun c4 => ?_)
  refine Wp.seg 1 (pc1 := 127) (ls1 := [some (.ref 59), some (.int (Int32.ofNat g)), some (.int (rule)), some (.int ((Int32.ofNat (q + 2)) + (-1))), some (.int (Int32.ofNat k)), some (.int (Int32.ofNat e)), some (.int (s)), some (.int (16))]) (st1 := [.ref 59, .int (((Int32.ofNat (q + 2)) + (-1)) - (1 : Int32)), .ref 64]) rfl ?_
  refine Wp.gr (t := (11, 0)) (v := some (64)) rfl (WF.t hw 59 rfl) rfl (WF.r hw 59 13 62 rfl) ?_
  show Wp d 218 130 [some (.ref 59), some (.int (Int32.ofNat g)), some (.int (rule)), some (.int ((Int32.ofNat (q + 2)) + (-1))), some (.int (Int32.ofNat k)), some (.int (Int32.ofNat e)), some (.int (s)), some (.int (16))] [.ref 64, .int (((Int32.ofNat (q + 2)) + (-1)) - (1 : Int32)), .ref 64] h Q
  refine Wp.seg 3 (pc1 := 133) (ls1 := [some (.ref 59), some (.int (Int32.ofNat g)), some (.int (rule)), some (.int ((Int32.ofNat (q + 2)) + (-1))), some (.int (Int32.ofNat k)), some (.int (Int32.ofNat e)), some (.int (s)), some (.int (16))]) (st1 := [.int (((Int32.ofNat (q + 2)) + (-1)) - (1 : Int32)), .ref 64, .int (((Int32.ofNat (q + 2)) + (-1)) - (1 : Int32)), .ref 64]) rfl ?_
  refine Wp.bald (j := q) (k := 22) (n := 100) rfl (WF.t hw 64 rfl) rfl (ofdec3 q) ((by omega)) (by decide) ?_
  rw [show h.2.2.1 64 q = b32 b from h2]
  refine Wp.ifz rfl (fun (c5 : b = false) => ?_) (fun (c5 : b = true) => ?_)
  · refine Wp.seg 2 (pc1 := 179) (ls1 := [some (.ref 59), some (.int (Int32.ofNat g)), some (.int (rule)), some (.int ((Int32.ofNat (q + 2)) + (-1))), some (.int (Int32.ofNat k)), some (.int (Int32.ofNat e)), some (.int (s)), some (.int (16))]) (st1 := [.int (0), .int (((Int32.ofNat (q + 2)) + (-1)) - (1 : Int32)), .ref 64]) rfl ?_
    refine Wp.zast (j := q) (n := 100) rfl (WF.t hw 64 rfl) (ofdec3 q) ((by omega)) (by decide) (Or.inl rfl) ?_
    refine Wp.seg 3 (pc1 := 42) (ls1 := [some (.ref 59), some (.int (Int32.ofNat g)), some (.int (rule)), some (.int ((Int32.ofNat (q + 2)) + (-1))), some (.int ((Int32.ofNat k) + 1)), some (.int (Int32.ofNat e)), some (.int (s)), some (.int (16))]) (st1 := []) rfl ?_
    exact (hQ.1 c5)
  · refine Wp.seg 1 (pc1 := 138) (ls1 := [some (.ref 59), some (.int (Int32.ofNat g)), some (.int (rule)), some (.int ((Int32.ofNat (q + 2)) + (-1))), some (.int (Int32.ofNat k)), some (.int (Int32.ofNat e)), some (.int (s)), some (.int (16))]) (st1 := [.ref 59, .int (((Int32.ofNat (q + 2)) + (-1)) - (1 : Int32)), .ref 64]) rfl ?_
    refine Wp.gr (t := (11, 0)) (v := some (64)) rfl (WF.t hw 59 rfl) rfl (WF.r hw 59 13 62 rfl) ?_
    show Wp d 218 141 [some (.ref 59), some (.int (Int32.ofNat g)), some (.int (rule)), some (.int ((Int32.ofNat (q + 2)) + (-1))), some (.int (Int32.ofNat k)), some (.int (Int32.ofNat e)), some (.int (s)), some (.int (16))] [.ref 64, .int (((Int32.ofNat (q + 2)) + (-1)) - (1 : Int32)), .ref 64] h Q
    refine Wp.seg 1 (pc1 := 142) (ls1 := [some (.ref 59), some (.int (Int32.ofNat g)), some (.int (rule)), some (.int ((Int32.ofNat (q + 2)) + (-1))), some (.int (Int32.ofNat k)), some (.int (Int32.ofNat e)), some (.int (s)), some (.int (16))]) (st1 := [.int ((Int32.ofNat (q + 2)) + (-1)), .ref 64, .int (((Int32.ofNat (q + 2)) + (-1)) - (1 : Int32)), .ref 64]) rfl ?_
    refine Wp.bald (j := (q + 1)) (k := 22) (n := 100) rfl (WF.t hw 64 rfl) rfl (ofdec (q + 1)) ((by omega)) (by decide) ?_
    rw [show h.2.2.1 64 ((q + 1)) = b32 c from h3]
    refine Wp.ifz rfl (fun (c6 : c = false) => ?_) (fun (c6 : c = true) => ?_)
    · refine Wp.seg 2 (pc1 := 179) (ls1 := [some (.ref 59), some (.int (Int32.ofNat g)), some (.int (rule)), some (.int ((Int32.ofNat (q + 2)) + (-1))), some (.int (Int32.ofNat k)), some (.int (Int32.ofNat e)), some (.int (s)), some (.int (16))]) (st1 := [.int (0), .int (((Int32.ofNat (q + 2)) + (-1)) - (1 : Int32)), .ref 64]) rfl ?_
      refine Wp.zast (j := q) (n := 100) rfl (WF.t hw 64 rfl) (ofdec3 q) ((by omega)) (by decide) (Or.inl rfl) ?_
      refine Wp.seg 3 (pc1 := 42) (ls1 := [some (.ref 59), some (.int (Int32.ofNat g)), some (.int (rule)), some (.int ((Int32.ofNat (q + 2)) + (-1))), some (.int ((Int32.ofNat k) + 1)), some (.int (Int32.ofNat e)), some (.int (s)), some (.int (16))]) (st1 := []) rfl ?_
      exact ((hQ.2 c5).1 c6)
    · refine Wp.seg 2 (pc1 := 179) (ls1 := [some (.ref 59), some (.int (Int32.ofNat g)), some (.int (rule)), some (.int ((Int32.ofNat (q + 2)) + (-1))), some (.int (Int32.ofNat k)), some (.int (Int32.ofNat e)), some (.int (s)), some (.int (16))]) (st1 := [.int (1), .int (((Int32.ofNat (q + 2)) + (-1)) - (1 : Int32)), .ref 64]) rfl ?_
      refine Wp.zast (j := q) (n := 100) rfl (WF.t hw 64 rfl) (ofdec3 q) ((by omega)) (by decide) (Or.inr rfl) ?_
      refine Wp.seg 3 (pc1 := 42) (ls1 := [some (.ref 59), some (.int (Int32.ofNat g)), some (.int (rule)), some (.int ((Int32.ofNat (q + 2)) + (-1))), some (.int ((Int32.ofNat k) + 1)), some (.int (Int32.ofNat e)), some (.int (s)), some (.int (16))]) (st1 := []) rfl ?_
      exact ((hQ.2 c5).2 c6)
set_option maxHeartbeats 4000000 in
theorem t_hOr {d : Nat} {Q : KO → Prop} {h : KH} (hw : WF h) {g k e q : Nat} {rule s : Int32} {z : Option Value} (hg : g < 6) (hke : k < e) (he : e < 583) {b c : Bool} (hq : q + 2 ≤ 100) (h1 : h.2.2.1 60 k = 15) (h2 : h.2.2.1 64 q = b32 b) (h3 : h.2.2.1 64 (q + 1) = b32 c) (hd : 2 ≤ d) (hQ : (b = true → Wp d 218 42 ([some (.ref 59), some (.int (Int32.ofNat g)), some (.int (rule)), some (.int ((Int32.ofNat (q + 2)) + (-1))), some (.int ((Int32.ofNat k) + 1)), some (.int (Int32.ofNat e)), some (.int (s)), some (.int (15))]) [] (kwi h 64 q (1 : Int32)) Q) ∧ (b = false → (c = false → Wp d 218 42 ([some (.ref 59), some (.int (Int32.ofNat g)), some (.int (rule)), some (.int ((Int32.ofNat (q + 2)) + (-1))), some (.int ((Int32.ofNat k) + 1)), some (.int (Int32.ofNat e)), some (.int (s)), some (.int (15))]) [] (kwi h 64 q (0 : Int32)) Q) ∧ (c = true → Wp d 218 42 ([some (.ref 59), some (.int (Int32.ofNat g)), some (.int (rule)), some (.int ((Int32.ofNat (q + 2)) + (-1))), some (.int ((Int32.ofNat k) + 1)), some (.int (Int32.ofNat e)), some (.int (s)), some (.int (15))]) [] (kwi h 64 q (1 : Int32)) Q))) : Wp d 218 42 [some (.ref 59), some (.int (Int32.ofNat g)), some (.int (rule)), some (.int (Int32.ofNat (q + 2))), some (.int (Int32.ofNat k)), some (.int (Int32.ofNat e)), some (.int (s)), z] [] h Q := by
  refine Wp.seg 2 (pc1 := 46) (ls1 := [some (.ref 59), some (.int (Int32.ofNat g)), some (.int (rule)), some (.int (Int32.ofNat (q + 2))), some (.int (Int32.ofNat k)), some (.int (Int32.ofNat e)), some (.int (s)), z]) (st1 := [.int (Int32.ofNat e), .int (Int32.ofNat k)]) rfl ?_
  refine Wp.if2 rfl (fun c1 => absurd c1 (fun c => by have := (ole (by omega) (by omega)).mp c; omega)) (fun c1 => ?_)
  refine Wp.seg 1 (pc1 := 50) (ls1 := [some (.ref 59), some (.int (Int32.ofNat g)), some (.int (rule)), some (.int (Int32.ofNat (q + 2))), some (.int (Int32.ofNat k)), some (.int (Int32.ofNat e)), some (.int (s)), z]) (st1 := [.ref 59]) rfl ?_
  refine Wp.gr (t := (11, 0)) (v := some (60)) rfl (WF.t hw 59 rfl) rfl (WF.r hw 59 0 58 rfl) ?_
  show Wp d 218 53 [some (.ref 59), some (.int (Int32.ofNat g)), some (.int (rule)), some (.int (Int32.ofNat (q + 2))), some (.int (Int32.ofNat k)), some (.int (Int32.ofNat e)), some (.int (s)), z] [.ref 60] h Q
  refine Wp.seg 1 (pc1 := 55) (ls1 := [some (.ref 59), some (.int (Int32.ofNat g)), some (.int (rule)), some (.int (Int32.ofNat (q + 2))), some (.int (Int32.ofNat k)), some (.int (Int32.ofNat e)), some (.int (s)), z]) (st1 := [.int (Int32.ofNat k), .ref 60]) rfl ?_
  refine Wp.iald (j := k) (k := 20) (n := 585) rfl (WF.t hw 60 rfl) rfl rfl ((by omega)) (by decide) ?_
  rw [show h.2.2.1 60 k = 15 from h1]
  refine Wp.seg 3 (pc1 := 62) (ls1 := [some (.ref 59), some (.int (Int32.ofNat g)), some (.int (rule)), some (.int (Int32.ofNat (q + 2))), some (.int (Int32.ofNat k)), some (.int (Int32.ofNat e)), some (.int (s)), some (.int (15))]) (st1 := [.int (17), .int (15)]) rfl ?_
  refine Wp.if2 rfl (fun c2 => ?_) (fun c2 => absurd (show ¬ (15 : Int32) = (17 : Int32) by decide) c2)
  refine Wp.seg 2 (pc1 := 99) (ls1 := [some (.ref 59), some (.int (Int32.ofNat g)), some (.int (rule)), some (.int (Int32.ofNat (q + 2))), some (.int (Int32.ofNat k)), some (.int (Int32.ofNat e)), some (.int (s)), some (.int (15))]) (st1 := [.int (16), .int (15)]) rfl ?_
  refine Wp.if2 rfl (fun c3 => absurd c3 (show ¬ ((15 : Int32) = (16 : Int32)) by decide)) (fun c3 => ?_)
  refine Wp.seg 2 (pc1 := 106) (ls1 := [some (.ref 59), some (.int (Int32.ofNat g)), some (.int (rule)), some (.int (Int32.ofNat (q + 2))), some (.int (Int32.ofNat k)), some (.int (Int32.ofNat e)), some (.int (s)), some (.int (15))]) (st1 := [.int (15), .int (15)]) rfl ?_
  refine Wp.if2 rfl (fun c4 => absurd c4 (show ¬ (¬ (15 : Int32) = (15 : Int32)) by decide)) (fun c4 => ?_)
  refine Wp.seg 2 (pc1 := 113) (ls1 := [some (.ref 59), some (.int (Int32.ofNat g)), some (.int (rule)), some (.int ((Int32.ofNat (q + 2)) + (-1))), some (.int (Int32.ofNat k)), some (.int (Int32.ofNat e)), some (.int (s)), some (.int (15))]) (st1 := [.ref 59]) rfl ?_
  refine Wp.gr (t := (11, 0)) (v := some (64)) rfl (WF.t hw 59 rfl) rfl (WF.r hw 59 13 62 rfl) ?_
  show Wp d 218 116 [some (.ref 59), some (.int (Int32.ofNat g)), some (.int (rule)), some (.int ((Int32.ofNat (q + 2)) + (-1))), some (.int (Int32.ofNat k)), some (.int (Int32.ofNat e)), some (.int (s)), some (.int (15))] [.ref 64] h Q
  refine Wp.seg 5 (pc1 := 123) (ls1 := [some (.ref 59), some (.int (Int32.ofNat g)), some (.int (rule)), some (.int ((Int32.ofNat (q + 2)) + (-1))), some (.int (Int32.ofNat k)), some (.int (Int32.ofNat e)), some (.int (s)), some (.int (15))]) (st1 := [.int (16), .int (15), .int (((Int32.ofNat (q + 2)) + (-1)) - (1 : Int32)), .ref 64]) rfl ?_
  refine Wp.if2 rfl (fun c5 => ?_) (fun c5 => absurd (show ¬ (15 : Int32) = (16 : Int32) by decide) c5)
  refine Wp.seg 1 (pc1 := 155) (ls1 := [some (.ref 59), some (.int (Int32.ofNat g)), some (.int (rule)), some (.int ((Int32.ofNat (q + 2)) + (-1))), some (.int (Int32.ofNat k)), some (.int (Int32.ofNat e)), some (.int (s)), some (.int (15))]) (st1 := [.ref 59, .int (((Int32.ofNat (q + 2)) + (-1)) - (1 : Int32)), .ref 64]) rfl ?_
  refine Wp.gr (t := (11, 0)) (v := some (64)) rfl (WF.t hw 59 rfl) rfl (WF.r hw 59 13 62 rfl) ?_
  show Wp d 218 158 [some (.ref 59), some (.int (Int32.ofNat g)), some (.int (rule)), some (.int ((Int32.ofNat (q + 2)) + (-1))), some (.int (Int32.ofNat k)), some (.int (Int32.ofNat e)), some (.int (s)), some (.int (15))] [.ref 64, .int (((Int32.ofNat (q + 2)) + (-1)) - (1 : Int32)), .ref 64] h Q
  refine Wp.seg 3 (pc1 := 161) (ls1 := [some (.ref 59), some (.int (Int32.ofNat g)), some (.int (rule)), some (.int ((Int32.ofNat (q + 2)) + (-1))), some (.int (Int32.ofNat k)), some (.int (Int32.ofNat e)), some (.int (s)), some (.int (15))]) (st1 := [.int (((Int32.ofNat (q + 2)) + (-1)) - (1 : Int32)), .ref 64, .int (((Int32.ofNat (q + 2)) + (-1)) - (1 : Int32)), .ref 64]) rfl ?_
  refine Wp.bald (j := q) (k := 22) (n := 100) rfl (WF.t hw 64 rfl) rfl (ofdec3 q) ((by omega)) (by decide) ?_
  rw [show h.2.2.1 64 q = b32 b from h2]
  refine Wp.ifnz rfl (fun (c6 : b = true) => ?_) (fun (c6 : b = false) => ?_)
  · refine Wp.seg 2 (pc1 := 179) (ls1 := [some (.ref 59), some (.int (Int32.ofNat g)), some (.int (rule)), some (.int ((Int32.ofNat (q + 2)) + (-1))), some (.int (Int32.ofNat k)), some (.int (Int32.ofNat e)), some (.int (s)), some (.int (15))]) (st1 := [.int (1), .int (((Int32.ofNat (q + 2)) + (-1)) - (1 : Int32)), .ref 64]) rfl ?_
    refine Wp.zast (j := q) (n := 100) rfl (WF.t hw 64 rfl) (ofdec3 q) ((by omega)) (by decide) (Or.inr rfl) ?_
    refine Wp.seg 3 (pc1 := 42) (ls1 := [some (.ref 59), some (.int (Int32.ofNat g)), some (.int (rule)), some (.int ((Int32.ofNat (q + 2)) + (-1))), some (.int ((Int32.ofNat k) + 1)), some (.int (Int32.ofNat e)), some (.int (s)), some (.int (15))]) (st1 := []) rfl ?_
    exact (hQ.1 c6)
  · refine Wp.seg 1 (pc1 := 166) (ls1 := [some (.ref 59), some (.int (Int32.ofNat g)), some (.int (rule)), some (.int ((Int32.ofNat (q + 2)) + (-1))), some (.int (Int32.ofNat k)), some (.int (Int32.ofNat e)), some (.int (s)), some (.int (15))]) (st1 := [.ref 59, .int (((Int32.ofNat (q + 2)) + (-1)) - (1 : Int32)), .ref 64]) rfl ?_
    refine Wp.gr (t := (11, 0)) (v := some (64)) rfl (WF.t hw 59 rfl) rfl (WF.r hw 59 13 62 rfl) ?_
    show Wp d 218 169 [some (.ref 59), some (.int (Int32.ofNat g)), some (.int (rule)), some (.int ((Int32.ofNat (q + 2)) + (-1))), some (.int (Int32.ofNat k)), some (.int (Int32.ofNat e)), some (.int (s)), some (.int (15))] [.ref 64, .int (((Int32.ofNat (q + 2)) + (-1)) - (1 : Int32)), .ref 64] h Q
    refine Wp.seg 1 (pc1 := 170) (ls1 := [some (.ref 59), some (.int (Int32.ofNat g)), some (.int (rule)), some (.int ((Int32.ofNat (q + 2)) + (-1))), some (.int (Int32.ofNat k)), some (.int (Int32.ofNat e)), some (.int (s)), some (.int (15))]) (st1 := [.int ((Int32.ofNat (q + 2)) + (-1)), .ref 64, .int (((Int32.ofNat (q + 2)) + (-1)) - (1 : Int32)), .ref 64]) rfl ?_
    refine Wp.bald (j := (q + 1)) (k := 22) (n := 100) rfl (WF.t hw 64 rfl) rfl (ofdec (q + 1)) ((by omega)) (by decide) ?_
    rw [show h.2.2.1 64 ((q + 1)) = b32 c from h3]
    refine Wp.ifz rfl (fun (c7 : c = false) => ?_) (fun (c7 : c = true) => ?_)
    · refine Wp.seg 1 (pc1 := 179) (ls1 := [some (.ref 59), some (.int (Int32.ofNat g)), some (.int (rule)), some (.int ((Int32.ofNat (q + 2)) + (-1))), some (.int (Int32.ofNat k)), some (.int (Int32.ofNat e)), some (.int (s)), some (.int (15))]) (st1 := [.int (0), .int (((Int32.ofNat (q + 2)) + (-1)) - (1 : Int32)), .ref 64]) rfl ?_
      refine Wp.zast (j := q) (n := 100) rfl (WF.t hw 64 rfl) (ofdec3 q) ((by omega)) (by decide) (Or.inl rfl) ?_
      refine Wp.seg 3 (pc1 := 42) (ls1 := [some (.ref 59), some (.int (Int32.ofNat g)), some (.int (rule)), some (.int ((Int32.ofNat (q + 2)) + (-1))), some (.int ((Int32.ofNat k) + 1)), some (.int (Int32.ofNat e)), some (.int (s)), some (.int (15))]) (st1 := []) rfl ?_
      exact ((hQ.2 c6).1 c7)
    · refine Wp.seg 2 (pc1 := 179) (ls1 := [some (.ref 59), some (.int (Int32.ofNat g)), some (.int (rule)), some (.int ((Int32.ofNat (q + 2)) + (-1))), some (.int (Int32.ofNat k)), some (.int (Int32.ofNat e)), some (.int (s)), some (.int (15))]) (st1 := [.int (1), .int (((Int32.ofNat (q + 2)) + (-1)) - (1 : Int32)), .ref 64]) rfl ?_
      refine Wp.zast (j := q) (n := 100) rfl (WF.t hw 64 rfl) (ofdec3 q) ((by omega)) (by decide) (Or.inr rfl) ?_
      refine Wp.seg 3 (pc1 := 42) (ls1 := [some (.ref 59), some (.int (Int32.ofNat g)), some (.int (rule)), some (.int ((Int32.ofNat (q + 2)) + (-1))), some (.int ((Int32.ofNat k) + 1)), some (.int (Int32.ofNat e)), some (.int (s)), some (.int (15))]) (st1 := []) rfl ?_
      exact ((hQ.2 c6).2 c7)
set_option maxHeartbeats 4000000 in
theorem t_hCmp {d : Nat} {Q : KO → Prop} {h : KH} (hw : WF h) {g k e q : Nat} {rule s : Int32} {z : Option Value} (hg : g < 6) (hke : k < e) (he : e < 583) {w : Int32} (hq : q < 100) (h1 : h.2.2.1 60 k = w) (w1 : ¬ w = 17) (w2 : ¬ w = 16) (w3 : ¬ w = 15) (h01 : f_isSo w (f_factOf (h.2.2.1 60) g (h.2.2.1 60 (k + 1))) (f_factOf (h.2.2.1 60) g (h.2.2.1 60 (k + 2))) = 0 ∨ f_isSo w (f_factOf (h.2.2.1 60) g (h.2.2.1 60 (k + 1))) (f_factOf (h.2.2.1 60) g (h.2.2.1 60 (k + 2))) = 1) (hd : 2 ≤ d) (hQ : Wp d 218 42 ([some (.ref 59), some (.int (Int32.ofNat g)), some (.int (rule)), some (.int ((Int32.ofNat q) + 1)), some (.int ((Int32.ofNat k) + 3)), some (.int (Int32.ofNat e)), some (.int (s)), some (.int (w))]) [] (kwi h 64 q (f_isSo w (f_factOf (h.2.2.1 60) g (h.2.2.1 60 ((k + 1)))) (f_factOf (h.2.2.1 60) g (h.2.2.1 60 ((k + 2)))))) Q) : Wp d 218 42 [some (.ref 59), some (.int (Int32.ofNat g)), some (.int (rule)), some (.int (Int32.ofNat q)), some (.int (Int32.ofNat k)), some (.int (Int32.ofNat e)), some (.int (s)), z] [] h Q := by
  refine Wp.seg 2 (pc1 := 46) (ls1 := [some (.ref 59), some (.int (Int32.ofNat g)), some (.int (rule)), some (.int (Int32.ofNat q)), some (.int (Int32.ofNat k)), some (.int (Int32.ofNat e)), some (.int (s)), z]) (st1 := [.int (Int32.ofNat e), .int (Int32.ofNat k)]) rfl ?_
  refine Wp.if2 rfl (fun c1 => absurd c1 (fun c => by have := (ole (by omega) (by omega)).mp c; omega)) (fun c1 => ?_)
  refine Wp.seg 1 (pc1 := 50) (ls1 := [some (.ref 59), some (.int (Int32.ofNat g)), some (.int (rule)), some (.int (Int32.ofNat q)), some (.int (Int32.ofNat k)), some (.int (Int32.ofNat e)), some (.int (s)), z]) (st1 := [.ref 59]) rfl ?_
  refine Wp.gr (t := (11, 0)) (v := some (60)) rfl (WF.t hw 59 rfl) rfl (WF.r hw 59 0 58 rfl) ?_
  show Wp d 218 53 [some (.ref 59), some (.int (Int32.ofNat g)), some (.int (rule)), some (.int (Int32.ofNat q)), some (.int (Int32.ofNat k)), some (.int (Int32.ofNat e)), some (.int (s)), z] [.ref 60] h Q
  refine Wp.seg 1 (pc1 := 55) (ls1 := [some (.ref 59), some (.int (Int32.ofNat g)), some (.int (rule)), some (.int (Int32.ofNat q)), some (.int (Int32.ofNat k)), some (.int (Int32.ofNat e)), some (.int (s)), z]) (st1 := [.int (Int32.ofNat k), .ref 60]) rfl ?_
  refine Wp.iald (j := k) (k := 20) (n := 585) rfl (WF.t hw 60 rfl) rfl rfl ((by omega)) (by decide) ?_
  rw [show h.2.2.1 60 k = w from h1]
  refine Wp.seg 3 (pc1 := 62) (ls1 := [some (.ref 59), some (.int (Int32.ofNat g)), some (.int (rule)), some (.int (Int32.ofNat q)), some (.int (Int32.ofNat k)), some (.int (Int32.ofNat e)), some (.int (s)), some (.int (w))]) (st1 := [.int (17), .int (w)]) rfl ?_
  refine Wp.if2 rfl (fun c2 => ?_) (fun c2 => absurd (w1) c2)
  refine Wp.seg 2 (pc1 := 99) (ls1 := [some (.ref 59), some (.int (Int32.ofNat g)), some (.int (rule)), some (.int (Int32.ofNat q)), some (.int (Int32.ofNat k)), some (.int (Int32.ofNat e)), some (.int (s)), some (.int (w))]) (st1 := [.int (16), .int (w)]) rfl ?_
  refine Wp.if2 rfl (fun c3 => absurd c3 (w2)) (fun c3 => ?_)
  refine Wp.seg 2 (pc1 := 106) (ls1 := [some (.ref 59), some (.int (Int32.ofNat g)), some (.int (rule)), some (.int (Int32.ofNat q)), some (.int (Int32.ofNat k)), some (.int (Int32.ofNat e)), some (.int (s)), some (.int (w))]) (st1 := [.int (15), .int (w)]) rfl ?_
  refine Wp.if2 rfl (fun c4 => ?_) (fun c4 => absurd (w3) c4)
  refine Wp.seg 1 (pc1 := 187) (ls1 := [some (.ref 59), some (.int (Int32.ofNat g)), some (.int (rule)), some (.int (Int32.ofNat q)), some (.int (Int32.ofNat k)), some (.int (Int32.ofNat e)), some (.int (s)), some (.int (w))]) (st1 := [.ref 59]) rfl ?_
  refine Wp.gr (t := (11, 0)) (v := some (64)) rfl (WF.t hw 59 rfl) rfl (WF.r hw 59 13 62 rfl) ?_
  show Wp d 218 190 [some (.ref 59), some (.int (Int32.ofNat g)), some (.int (rule)), some (.int (Int32.ofNat q)), some (.int (Int32.ofNat k)), some (.int (Int32.ofNat e)), some (.int (s)), some (.int (w))] [.ref 64] h Q
  refine Wp.seg 5 (pc1 := 196) (ls1 := [some (.ref 59), some (.int (Int32.ofNat g)), some (.int (rule)), some (.int (Int32.ofNat q)), some (.int (Int32.ofNat k)), some (.int (Int32.ofNat e)), some (.int (s)), some (.int (w))]) (st1 := [.ref 59, .int (Int32.ofNat g), .ref 59, .int (w), .int (Int32.ofNat q), .ref 64]) rfl ?_
  refine Wp.gr (t := (11, 0)) (v := some (60)) rfl (WF.t hw 59 rfl) rfl (WF.r hw 59 0 58 rfl) ?_
  show Wp d 218 199 [some (.ref 59), some (.int (Int32.ofNat g)), some (.int (rule)), some (.int (Int32.ofNat q)), some (.int (Int32.ofNat k)), some (.int (Int32.ofNat e)), some (.int (s)), some (.int (w))] [.ref 60, .int (Int32.ofNat g), .ref 59, .int (w), .int (Int32.ofNat q), .ref 64] h Q
  refine Wp.seg 3 (pc1 := 203) (ls1 := [some (.ref 59), some (.int (Int32.ofNat g)), some (.int (rule)), some (.int (Int32.ofNat q)), some (.int (Int32.ofNat k)), some (.int (Int32.ofNat e)), some (.int (s)), some (.int (w))]) (st1 := [.int ((Int32.ofNat k) + (1 : Int32)), .ref 60, .int (Int32.ofNat g), .ref 59, .int (w), .int (Int32.ofNat q), .ref 64]) rfl ?_
  refine Wp.iald (j := (k + 1)) (k := 20) (n := 585) rfl (WF.t hw 60 rfl) rfl (ofadd k 1) ((by omega)) (by decide) ?_
  refine Wp.invV (d2 := 1) (as := [.ref 59, .int (Int32.ofNat g), .int (h.2.2.1 60 ((k + 1)))]) (r := [.int (w), .int (Int32.ofNat q), .ref 64]) (t := (11, 0)) rfl rfl rfl rfl (WF.t hw 59 rfl) rfl rfl ⟨rfl, rfl⟩ (by omega) (s_factOf hw hg (Nat.le_refl _) ?_)
  show Wp d 218 207 [some (.ref 59), some (.int (Int32.ofNat g)), some (.int (rule)), some (.int (Int32.ofNat q)), some (.int (Int32.ofNat k)), some (.int (Int32.ofNat e)), some (.int (s)), some (.int (w))] [.int (f_factOf (h.2.2.1 60) g (h.2.2.1 60 ((k + 1)))), .int (w), .int (Int32.ofNat q), .ref 64] h Q
  refine Wp.seg 3 (pc1 := 210) (ls1 := [some (.ref 59), some (.int (Int32.ofNat g)), some (.int (rule)), some (.int (Int32.ofNat q)), some (.int (Int32.ofNat k)), some (.int (Int32.ofNat e)), some (.int (s)), some (.int (w))]) (st1 := [.ref 59, .int (Int32.ofNat g), .ref 59, .int (f_factOf (h.2.2.1 60) g (h.2.2.1 60 ((k + 1)))), .int (w), .int (Int32.ofNat q), .ref 64]) rfl ?_
  refine Wp.gr (t := (11, 0)) (v := some (60)) rfl (WF.t hw 59 rfl) rfl (WF.r hw 59 0 58 rfl) ?_
  show Wp d 218 213 [some (.ref 59), some (.int (Int32.ofNat g)), some (.int (rule)), some (.int (Int32.ofNat q)), some (.int (Int32.ofNat k)), some (.int (Int32.ofNat e)), some (.int (s)), some (.int (w))] [.ref 60, .int (Int32.ofNat g), .ref 59, .int (f_factOf (h.2.2.1 60) g (h.2.2.1 60 ((k + 1)))), .int (w), .int (Int32.ofNat q), .ref 64] h Q
  refine Wp.seg 3 (pc1 := 217) (ls1 := [some (.ref 59), some (.int (Int32.ofNat g)), some (.int (rule)), some (.int (Int32.ofNat q)), some (.int (Int32.ofNat k)), some (.int (Int32.ofNat e)), some (.int (s)), some (.int (w))]) (st1 := [.int ((Int32.ofNat k) + (2 : Int32)), .ref 60, .int (Int32.ofNat g), .ref 59, .int (f_factOf (h.2.2.1 60) g (h.2.2.1 60 ((k + 1)))), .int (w), .int (Int32.ofNat q), .ref 64]) rfl ?_
  refine Wp.iald (j := (k + 2)) (k := 20) (n := 585) rfl (WF.t hw 60 rfl) rfl (ofadd k 2) ((by omega)) (by decide) ?_
  refine Wp.invV (d2 := 1) (as := [.ref 59, .int (Int32.ofNat g), .int (h.2.2.1 60 ((k + 2)))]) (r := [.int (f_factOf (h.2.2.1 60) g (h.2.2.1 60 ((k + 1)))), .int (w), .int (Int32.ofNat q), .ref 64]) (t := (11, 0)) rfl rfl rfl rfl (WF.t hw 59 rfl) rfl rfl ⟨rfl, rfl⟩ (by omega) (s_factOf hw hg (Nat.le_refl _) ?_)
  show Wp d 218 221 [some (.ref 59), some (.int (Int32.ofNat g)), some (.int (rule)), some (.int (Int32.ofNat q)), some (.int (Int32.ofNat k)), some (.int (Int32.ofNat e)), some (.int (s)), some (.int (w))] [.int (f_factOf (h.2.2.1 60) g (h.2.2.1 60 ((k + 2)))), .int (f_factOf (h.2.2.1 60) g (h.2.2.1 60 ((k + 1)))), .int (w), .int (Int32.ofNat q), .ref 64] h Q
  refine Wp.inv (d2 := 0) (as := [.int (w), .int (f_factOf (h.2.2.1 60) g (h.2.2.1 60 ((k + 1)))), .int (f_factOf (h.2.2.1 60) g (h.2.2.1 60 ((k + 2))))]) (r := [.int (Int32.ofNat q), .ref 64]) rfl rfl rfl rfl rfl rfl (by omega) (s_isSo (Nat.le_refl _) ?_)
  show Wp d 218 224 [some (.ref 59), some (.int (Int32.ofNat g)), some (.int (rule)), some (.int (Int32.ofNat q)), some (.int (Int32.ofNat k)), some (.int (Int32.ofNat e)), some (.int (s)), some (.int (w))] [.int (f_isSo w (f_factOf (h.2.2.1 60) g (h.2.2.1 60 ((k + 1)))) (f_factOf (h.2.2.1 60) g (h.2.2.1 60 ((k + 2))))), .int (Int32.ofNat q), .ref 64] h Q
  refine Wp.zast (j := q) (n := 100) rfl (WF.t hw 64 rfl) rfl ((by omega)) (by decide) (h01) ?_
  refine Wp.seg 3 (pc1 := 42) (ls1 := [some (.ref 59), some (.int (Int32.ofNat g)), some (.int (rule)), some (.int ((Int32.ofNat q) + 1)), some (.int ((Int32.ofNat k) + 3)), some (.int (Int32.ofNat e)), some (.int (s)), some (.int (w))]) (st1 := []) rfl ?_
  exact hQ
theorem hPl_self (h : KH) : hPl h (h.2.2.1 64) = h := by
  unfold hPl
  rw [ku_self]
theorem evP_cmp {f : Int32 → Int32} {t : Nat} (ht : t ≤ 2) (a b : Int32) (r : List Op) (s : List Bool) : evP f ((t, a, b) :: r) s = evP f r (cmpB t (f a) (f b) :: s) := by
  have h3 : t = 0 ∨ t = 1 ∨ t = 2 := by omega
  rcases h3 with rfl | rfl | rfl
  · cases s <;> rfl
  · cases s <;> rfl
  · cases s <;> rfl
set_option maxHeartbeats 4000000 in
theorem s_hLoop {d : Nat} {Q : KO → Prop} {g e : Nat} {rule s : Int32} {S : Nat → Int32} (hd : 2 ≤ d) (hg : g < 6) (he : e < 583) : ∀ (P : List Op) (k : Nat) (st : List Bool) (h : KH) (z : Option Value), WF h → h.2.2.1 60 = S → laidS S k P e → okP 100 P st.length → st.length ≤ 100 → pileR (h.2.2.1 64) st →
    (∀ (p : Nat → Int32) (b : Bool) (z : Option Value), evP (f_factOf S g) P st = [b] → p 0 = b32 b → Wp d 218 42 [some (.ref 59), some (.int (Int32.ofNat g)), some (.int rule), some (.int (Int32.ofNat 1)), some (.int (Int32.ofNat e)), some (.int (Int32.ofNat e)), some (.int s), z] [] (hPl h p) Q) →
    Wp d 218 42 [some (.ref 59), some (.int (Int32.ofNat g)), some (.int rule), some (.int (Int32.ofNat st.length)), some (.int (Int32.ofNat k)), some (.int (Int32.ofNat e)), some (.int s), z] [] h Q
  | [], k, st, h, z, hw, hS, hl, hok, hlen0, hp, hQ => by
    obtain rfl : k = e := hl
    have h1 : st.length = 1 := hok
    match st, h1 with
    | [b], _ =>
      have := hQ (h.2.2.1 64) b z rfl hp.1
      rw [hPl_self] at this
      exact this
  | (t, a, b) :: r, k, st, h, z, hw, hS, hl, hok, hlen0, hp, hQ => by
    subst hS
    have go : ∀ (x : Bool) (s2 : List Bool) (k2 : Nat) (nx kx2 : Int32) (z2 : Option Value) (q : Nat), nx = Int32.ofNat (s2.length + 1) → kx2 = Int32.ofNat k2 → q = s2.length → laidS (h.2.2.1 60) k2 r e → okP 100 r (s2.length + 1) → s2.length + 1 ≤ 100 → pileR (h.2.2.1 64) s2 → evP (f_factOf (h.2.2.1 60) g) ((t, a, b) :: r) st = evP (f_factOf (h.2.2.1 60) g) r (x :: s2) →
        Wp d 218 42 [some (.ref 59), some (.int (Int32.ofNat g)), some (.int rule), some (.int nx), some (.int kx2), some (.int (Int32.ofNat e)), some (.int s), z2] [] (kwi h 64 q (b32 x)) Q := by
      intro x s2 k2 nx kx2 z2 q e1 e2 e3 hl2 hok2 hle2 hp2 hev
      subst e1
      subst e2
      subst e3
      rw [hPl_w]
      refine s_hLoop hd hg he r k2 (x :: s2) (hPl h (ku (h.2.2.1 64) s2.length (b32 x))) z2 hw (hPl_S _ _) hl2 hok2 hle2 ?_ ?_
      · rw [hPl_p]
        exact ⟨ku_s _ _ _, pileR_up (Nat.le_refl _) hp2⟩
      · intro p y z3 q1 q2
        rw [hPl_hPl]
        exact hQ p y z3 (hev.trans q1) q2
    rcases hl with ⟨ht, l1, l2, l3, l4⟩ | ⟨ht1, ht2, l1, l4⟩
    · have hke := laidS_le l4
      rcases hok with ⟨-, o1, o2⟩ | ⟨o1, -⟩ | ⟨o1, -⟩
      · have ev := evP_cmp (f := f_factOf (h.2.2.1 60) g) ht a b r st
        have ec := isSo_cmp ht (f_factOf (h.2.2.1 60) g a) (f_factOf (h.2.2.1 60) g b)
        refine t_hCmp hw hg (by omega) he o1 l1 (fun q => ?_) (fun q => ?_) (fun q => ?_) ?_ hd ?_
        · have := (oeq (a := 60 + t) (b := 17) (by omega) (by omega)).mp q
          omega
        · have := (oeq (a := 60 + t) (b := 16) (by omega) (by omega)).mp q
          omega
        · have := (oeq (a := 60 + t) (b := 15) (by omega) (by omega)).mp q
          omega
        · rw [l2, l3, ec]
          exact b32_01 _
        · rw [l2, l3, ec]
          exact go _ st (k + 3) _ _ _ _ (ofadd _ 1) (ofadd _ 3) rfl l4 o2 (by omega) hp ev
      · omega
      · omega
    · have hke := laidS_le l4
      rcases hok with ⟨o1, -⟩ | ⟨rfl, o1, o2⟩ | ⟨o0, o1, o2⟩
      · omega
      · match st, hp, o1, o2, hlen0 with
        | x :: s2, hp, o1, o2, hlen0 =>
          refine t_hNot (q := s2.length) (b := x) hw hg (by omega) he ?_ l1 hp.1 hd ⟨fun c => ?_, fun c => ?_⟩
          · exact hlen0
          · subst c
            exact go false s2 (k + 1) _ _ _ _ rfl (ofadd _ 1) rfl l4 o2 hlen0 hp.2 rfl
          · subst c
            exact go true s2 (k + 1) _ _ _ _ rfl (ofadd _ 1) rfl l4 o2 hlen0 hp.2 rfl
      · match st, hp, o1, o2, hlen0 with
        | y :: x :: s2, hp, o1, o2, hlen0 =>
          have hy : h.2.2.1 64 (s2.length + 1) = b32 y := hp.1
          have hx : h.2.2.1 64 s2.length = b32 x := hp.2.1
          have o3 : okP 100 r (s2.length + 1) := o2
          have hlen : s2.length + 2 ≤ 100 := hlen0
          rcases o0 with rfl | rfl
          · refine t_hAnd (q := s2.length) (b := x) (c := y) hw hg (by omega) he hlen l1 hx hy hd ⟨fun c => ?_, fun c => ⟨fun c2 => ?_, fun c2 => ?_⟩⟩
            · subst c
              exact go false s2 (k + 1) _ _ _ _ (ofdec _) (ofadd _ 1) rfl l4 o3 (by omega) hp.2.2 (by cases y <;> rfl)
            · subst c c2
              exact go false s2 (k + 1) _ _ _ _ (ofdec _) (ofadd _ 1) rfl l4 o3 (by omega) hp.2.2 rfl
            · subst c c2
              exact go true s2 (k + 1) _ _ _ _ (ofdec _) (ofadd _ 1) rfl l4 o3 (by omega) hp.2.2 rfl
          · refine t_hOr (q := s2.length) (b := x) (c := y) hw hg (by omega) he hlen l1 hx hy hd ⟨fun c => ?_, fun c => ⟨fun c2 => ?_, fun c2 => ?_⟩⟩
            · subst c
              exact go true s2 (k + 1) _ _ _ _ (ofdec _) (ofadd _ 1) rfl l4 o3 (by omega) hp.2.2 (by cases y <;> rfl)
            · subst c c2
              exact go false s2 (k + 1) _ _ _ _ (ofdec _) (ofadd _ 1) rfl l4 o3 (by omega) hp.2.2 rfl
            · subst c c2
              exact go true s2 (k + 1) _ _ _ _ (ofdec _) (ofadd _ 1) rfl l4 o3 (by omega) hp.2.2 rfl
set_option maxHeartbeats 4000000 in
theorem t_isHolding {d : Nat} {Q : KO → Prop} {h : KH} (hw : WF h) {g r b e : Nat} (hr : r + 3 < 585) (h1 : h.2.2.1 60 (r + 2) = Int32.ofNat b) (h2 : h.2.2.1 60 (r + 3) = Int32.ofNat e) (hd : 2 ≤ d) (hQ : (¬ ((85 : Int32) + (Int32.ofNat b)) = ((85 : Int32) + (Int32.ofNat e)) → Wp d 218 42 ([some (.ref 59), some (.int (Int32.ofNat g)), some (.int (Int32.ofNat r)), some (.int (0)), some (.int ((85 : Int32) + (Int32.ofNat b))), some (.int ((85 : Int32) + (Int32.ofNat e))), some (.int (0)), none]) [] h Q) ∧ (¬ (¬ ((85 : Int32) + (Int32.ofNat b)) = ((85 : Int32) + (Int32.ofNat e))) → Wp d 218 42 ([some (.ref 59), some (.int (Int32.ofNat g)), some (.int (Int32.ofNat r)), some (.int (0)), some (.int ((85 : Int32) + (Int32.ofNat b))), some (.int ((85 : Int32) + (Int32.ofNat e))), some (.int (1)), none]) [] h Q)) : Cl d 218 [.ref 59, .int (Int32.ofNat g), .int (Int32.ofNat r)] h Q := by
  refine Cl.of (ls := [some (.ref 59), some (.int (Int32.ofNat g)), some (.int (Int32.ofNat r)), none, none, none, none, none]) rfl rfl ?_
  refine Wp.seg 4 (pc1 := 5) (ls1 := [some (.ref 59), some (.int (Int32.ofNat g)), some (.int (Int32.ofNat r)), some (.int (0)), none, none, none, none]) (st1 := [.ref 59, .int (85)]) rfl ?_
  refine Wp.gr (t := (11, 0)) (v := some (60)) rfl (WF.t hw 59 rfl) rfl (WF.r hw 59 0 58 rfl) ?_
  show Wp d 218 8 [some (.ref 59), some (.int (Int32.ofNat g)), some (.int (Int32.ofNat r)), some (.int (0)), none, none, none, none] [.ref 60, .int (85)] h Q
  refine Wp.seg 3 (pc1 := 11) (ls1 := [some (.ref 59), some (.int (Int32.ofNat g)), some (.int (Int32.ofNat r)), some (.int (0)), none, none, none, none]) (st1 := [.int ((Int32.ofNat r) + (2 : Int32)), .ref 60, .int (85)]) rfl ?_
  refine Wp.iald (j := (r + 2)) (k := 20) (n := 585) rfl (WF.t hw 60 rfl) rfl (ofadd r 2) ((by omega)) (by decide) ?_
  rw [show h.2.2.1 60 ((r + 2)) = Int32.ofNat b from h1]
  refine Wp.seg 4 (pc1 := 18) (ls1 := [some (.ref 59), some (.int (Int32.ofNat g)), some (.int (Int32.ofNat r)), some (.int (0)), some (.int ((85 : Int32) + (Int32.ofNat b))), none, none, none]) (st1 := [.ref 59, .int (85)]) rfl ?_
  refine Wp.gr (t := (11, 0)) (v := some (60)) rfl (WF.t hw 59 rfl) rfl (WF.r hw 59 0 58 rfl) ?_
  show Wp d 218 21 [some (.ref 59), some (.int (Int32.ofNat g)), some (.int (Int32.ofNat r)), some (.int (0)), some (.int ((85 : Int32) + (Int32.ofNat b))), none, none, none] [.ref 60, .int (85)] h Q
  refine Wp.seg 3 (pc1 := 24) (ls1 := [some (.ref 59), some (.int (Int32.ofNat g)), some (.int (Int32.ofNat r)), some (.int (0)), some (.int ((85 : Int32) + (Int32.ofNat b))), none, none, none]) (st1 := [.int ((Int32.ofNat r) + (3 : Int32)), .ref 60, .int (85)]) rfl ?_
  refine Wp.iald (j := (r + 3)) (k := 20) (n := 585) rfl (WF.t hw 60 rfl) rfl (ofadd r 3) ((by omega)) (by decide) ?_
  rw [show h.2.2.1 60 ((r + 3)) = Int32.ofNat e from h2]
  refine Wp.seg 4 (pc1 := 32) (ls1 := [some (.ref 59), some (.int (Int32.ofNat g)), some (.int (Int32.ofNat r)), some (.int (0)), some (.int ((85 : Int32) + (Int32.ofNat b))), some (.int ((85 : Int32) + (Int32.ofNat e))), none, none]) (st1 := [.int ((85 : Int32) + (Int32.ofNat e)), .int ((85 : Int32) + (Int32.ofNat b))]) rfl ?_
  refine Wp.if2 rfl (fun (c1 : ¬ ((85 : Int32) + (Int32.ofNat b)) = ((85 : Int32) + (Int32.ofNat e))) => ?_) (fun (c1 : ¬ (¬ ((85 : Int32) + (Int32.ofNat b)) = ((85 : Int32) + (Int32.ofNat e)))) => ?_)
  · refine Wp.seg 2 (pc1 := 42) (ls1 := [some (.ref 59), some (.int (Int32.ofNat g)), some (.int (Int32.ofNat r)), some (.int (0)), some (.int ((85 : Int32) + (Int32.ofNat b))), some (.int ((85 : Int32) + (Int32.ofNat e))), some (.int (0)), none]) (st1 := []) rfl ?_
    exact (hQ.1 c1)
  · refine Wp.seg 3 (pc1 := 42) (ls1 := [some (.ref 59), some (.int (Int32.ofNat g)), some (.int (Int32.ofNat r)), some (.int (0)), some (.int ((85 : Int32) + (Int32.ofNat b))), some (.int ((85 : Int32) + (Int32.ofNat e))), some (.int (1)), none]) (st1 := []) rfl ?_
    exact (hQ.2 c1)
set_option maxHeartbeats 4000000 in
theorem t_holdE0 {d : Nat} {Q : KO → Prop} {h : KH} (hw : WF h) {g e : Nat} {rule n : Int32} {z : Option Value} {b : Bool} (h1 : h.2.2.1 64 0 = b32 b) (hd : 0 ≤ d) (hQ : (b = false → Q (some (.int (0)), h)) ∧ (b = true → Q (some (.int (1)), h))) : Wp d 218 42 [some (.ref 59), some (.int (Int32.ofNat g)), some (.int (rule)), some (.int (n)), some (.int (Int32.ofNat e)), some (.int (Int32.ofNat e)), some (.int (0)), z] [] h Q := by
  refine Wp.seg 2 (pc1 := 46) (ls1 := [some (.ref 59), some (.int (Int32.ofNat g)), some (.int (rule)), some (.int (n)), some (.int (Int32.ofNat e)), some (.int (Int32.ofNat e)), some (.int (0)), z]) (st1 := [.int (Int32.ofNat e), .int (Int32.ofNat e)]) rfl ?_
  refine Wp.if2 rfl (fun c1 => ?_) (fun c1 => absurd (Int32.le_refl _) c1)
  refine Wp.seg 1 (pc1 := 236) (ls1 := [some (.ref 59), some (.int (Int32.ofNat g)), some (.int (rule)), some (.int (n)), some (.int (Int32.ofNat e)), some (.int (Int32.ofNat e)), some (.int (0)), z]) (st1 := [.int (0)]) rfl ?_
  refine Wp.if1 rfl (fun c2 => absurd c2 (show ¬ (¬ (0 : Int32) = 0) by decide)) (fun c2 => ?_)
  refine Wp.seg 1 (pc1 := 240) (ls1 := [some (.ref 59), some (.int (Int32.ofNat g)), some (.int (rule)), some (.int (n)), some (.int (Int32.ofNat e)), some (.int (Int32.ofNat e)), some (.int (0)), z]) (st1 := [.ref 59]) rfl ?_
  refine Wp.gr (t := (11, 0)) (v := some (64)) rfl (WF.t hw 59 rfl) rfl (WF.r hw 59 13 62 rfl) ?_
  show Wp d 218 243 [some (.ref 59), some (.int (Int32.ofNat g)), some (.int (rule)), some (.int (n)), some (.int (Int32.ofNat e)), some (.int (Int32.ofNat e)), some (.int (0)), z] [.ref 64] h Q
  refine Wp.seg 1 (pc1 := 244) (ls1 := [some (.ref 59), some (.int (Int32.ofNat g)), some (.int (rule)), some (.int (n)), some (.int (Int32.ofNat e)), some (.int (Int32.ofNat e)), some (.int (0)), z]) (st1 := [.int (0), .ref 64]) rfl ?_
  refine Wp.bald (j := 0) (k := 22) (n := 100) rfl (WF.t hw 64 rfl) rfl rfl (by decide) (by decide) ?_
  rw [show h.2.2.1 64 0 = b32 b from h1]
  refine Wp.ifz rfl (fun (c3 : b = false) => ?_) (fun (c3 : b = true) => ?_)
  · refine Wp.seg 1 (pc1 := 253) (ls1 := [some (.ref 59), some (.int (Int32.ofNat g)), some (.int (rule)), some (.int (n)), some (.int (Int32.ofNat e)), some (.int (Int32.ofNat e)), some (.int (0)), z]) (st1 := [.int (0)]) rfl ?_
    exact Wp.reti rfl rfl (hQ.1 c3)
  · refine Wp.seg 2 (pc1 := 253) (ls1 := [some (.ref 59), some (.int (Int32.ofNat g)), some (.int (rule)), some (.int (n)), some (.int (Int32.ofNat e)), some (.int (Int32.ofNat e)), some (.int (0)), z]) (st1 := [.int (1)]) rfl ?_
    exact Wp.reti rfl rfl (hQ.2 c3)
set_option maxHeartbeats 4000000 in
theorem t_holdE1 {d : Nat} {Q : KO → Prop} {h : KH} {g e : Nat} {rule n : Int32} {z : Option Value} (hd : 0 ≤ d) (hQ : Q (some (.int (1)), h)) : Wp d 218 42 [some (.ref 59), some (.int (Int32.ofNat g)), some (.int (rule)), some (.int (n)), some (.int (Int32.ofNat e)), some (.int (Int32.ofNat e)), some (.int (1)), z] [] h Q := by
  refine Wp.seg 2 (pc1 := 46) (ls1 := [some (.ref 59), some (.int (Int32.ofNat g)), some (.int (rule)), some (.int (n)), some (.int (Int32.ofNat e)), some (.int (Int32.ofNat e)), some (.int (1)), z]) (st1 := [.int (Int32.ofNat e), .int (Int32.ofNat e)]) rfl ?_
  refine Wp.if2 rfl (fun c1 => ?_) (fun c1 => absurd (Int32.le_refl _) c1)
  refine Wp.seg 1 (pc1 := 236) (ls1 := [some (.ref 59), some (.int (Int32.ofNat g)), some (.int (rule)), some (.int (n)), some (.int (Int32.ofNat e)), some (.int (Int32.ofNat e)), some (.int (1)), z]) (st1 := [.int (1)]) rfl ?_
  refine Wp.if1 rfl (fun c2 => ?_) (fun c2 => absurd (show ¬ (1 : Int32) = 0 by decide) c2)
  refine Wp.seg 2 (pc1 := 253) (ls1 := [some (.ref 59), some (.int (Int32.ofNat g)), some (.int (rule)), some (.int (n)), some (.int (Int32.ofNat e)), some (.int (Int32.ofNat e)), some (.int (1)), z]) (st1 := [.int (1)]) rfl ?_
  exact Wp.reti rfl rfl hQ
/-- whether a condition holds; without steps it does -/
def holdP (f : Int32 → Int32) (P : List Op) : Bool := match evP f P [] with
  | [b] => b
  | _ => true
/-- a condition as it should be -/
def okC (P : List Op) : Prop := P = [] ∨ okP 100 P 0
theorem evP_one {f : Int32 → Int32} {m : Nat} : ∀ {P : List Op} {st : List Bool}, okP m P st.length → ∃ b, evP f P st = [b]
  | [], st, h => by
    have h1 : st.length = 1 := h
    match st, h1 with
    | [b], _ => exact ⟨b, rfl⟩
  | (t, a, b) :: r, st, h => by
    rcases h with ⟨o1, o2, o3⟩ | ⟨rfl, o1, o2⟩ | ⟨o0, o1, o2⟩
    · rw [evP_cmp o1]
      exact evP_one (st := _ :: st) o3
    · match st, o1, o2 with
      | x :: s2, o1, o2 => exact evP_one (st := (!x) :: s2) o2
    · match st, o1, o2 with
      | y :: x :: s2, o1, o2 =>
        rcases o0 with rfl | rfl
        · exact evP_one (st := (x && y) :: s2) o2
        · exact evP_one (st := (x || y) :: s2) o2
theorem s_isHolding {d : Nat} {Q : KO → Prop} {h : KH} {g r b e : Nat} {P : List Op} (hw : WF h) (hg : g < 6) (hd : 2 ≤ d) (hr : r + 3 < 585) (h1 : h.2.2.1 60 (r + 2) = Int32.ofNat b) (h2 : h.2.2.1 60 (r + 3) = Int32.ofNat e) (he : 85 + e < 583) (hl : laidS (h.2.2.1 60) (85 + b) P (85 + e)) (hok : okC P)
    (hQ : ∀ p, Q (some (.int (b32 (holdP (f_factOf (h.2.2.1 60) g) P))), hPl h p)) : Cl d 218 [.ref 59, .int (Int32.ofNat g), .int (Int32.ofNat r)] h Q := by
  have hle := laidS_le hl
  have e1 : (85 : Int32) + Int32.ofNat b = Int32.ofNat (85 + b) := ofadd 85 b
  have e2 : (85 : Int32) + Int32.ofNat e = Int32.ofNat (85 + e) := ofadd 85 e
  refine t_isHolding hw hr h1 h2 hd ⟨fun c => ?_, fun c => ?_⟩
  · rw [e1, e2] at c ⊢
    have hne : ¬ 85 + b = 85 + e := fun q => c (by rw [q])
    have hok2 : okP 100 P 0 := by
      rcases hok with rfl | hok
      · exact absurd hl hne
      · exact hok
    refine s_hLoop (S := h.2.2.1 60) hd hg he P (85 + b) [] h none hw rfl hl hok2 (by decide) trivial (fun p x z q1 q2 => ?_)
    have hh := hQ p
    unfold holdP at hh
    rw [q1] at hh
    refine t_holdE0 (h := hPl h p) (b := x) hw (by rw [hPl_p]; exact q2) (Nat.zero_le _) ⟨fun c => ?_, fun c => ?_⟩
    · subst c; exact hh
    · subst c; exact hh
  · have c2 := Decidable.not_not.mp c
    rw [e1, e2] at c2 ⊢
    have c3 := (oeq (by omega) (by omega)).mp c2
    have hP : P = [] := by
      match P, hl with
      | [], _ => rfl
      | (t, a, b2) :: r2, hl =>
        exfalso
        rcases hl with ⟨-, -, -, -, l4⟩ | ⟨-, -, -, l4⟩
        · have := laidS_le l4
          omega
        · have := laidS_le l4
          omega
    subst hP
    rw [c3]
    have hh := hQ (h.2.2.1 64)
    rw [hPl_self] at hh
    exact t_holdE1 (Nat.zero_le _) hh
