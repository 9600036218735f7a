/-! KM: the reference, readers of a hand -/
theorem i32i (a b c : Nat) : (Int32.ofNat a + Int32.ofNat b * Int32.ofNat c : Int32) = Int32.ofNat (a + b * c) := by rw [← Int32.ofNat_mul, ← Int32.ofNat_add]
theorem hidx (n w : Nat) : (11 : Int32) + 4 * Int32.ofNat n + Int32.ofNat w = Int32.ofNat (11 + 4 * n + w) := by
  rw [show (11 : Int32) = Int32.ofNat 11 from rfl, show (4 : Int32) = Int32.ofNat 4 from rfl, ← Int32.ofNat_mul, ← Int32.ofNat_add, ← Int32.ofNat_add]
theorem s_of {d : Nat} {Q : KO → Prop} {h : KH} (hw : WF h) {n w : Nat} {wi : Int32} (hwi : wi = Int32.ofNat w) (hj : 11 + 4 * n + w < 585) (hQ : Q (some (.int (h.2.2.1 60 (11 + 4 * n + w))), h)) : Cl d 178 [.ref 59, .int (Int32.ofNat n), .int wi] h Q :=
  t_of hw (by rw [hwi]; exact hidx n w) hj (Nat.zero_le _) hQ
theorem s_put {d : Nat} {Q : KO → Prop} {h : KH} (hw : WF h) {n w : Nat} {wi x : Int32} (hwi : wi = Int32.ofNat w) (hj : 11 + 4 * n + w < 585) (hQ : Q (none, kwi h 60 (11 + 4 * n + w) x)) : Cl d 179 [.ref 59, .int (Int32.ofNat n), .int wi, .int x] h Q :=
  t_put hw (by rw [hwi]; exact hidx n w) hj (Nat.zero_le _) hQ
def f_in (v a b : Int32) : Int32 := if v < a then (0 : Int32) else if b < v then (0 : Int32) else (1 : Int32)
set_option maxHeartbeats 4000000 in
theorem s_in {d : Nat} {Q : KO → Prop} {h : KH} {v a b : Int32} (hd : 0 ≤ d) (hQ : Q (some (.int (f_in v a b)), h)) : Cl d 170 [.int (v), .int (a), .int (b)] h Q := by
  refine Cl.of (ls := [some (.int (v)), some (.int (a)), some (.int (b))]) rfl rfl ?_
  refine Wp.seg 2 (pc1 := 2) (ls1 := [some (.int (v)), some (.int (a)), some (.int (b))]) (st1 := [.int (a), .int (v)]) rfl ?_
  refine Wp.if2 rfl (fun (c1 : v < a) => ?_) (fun (c1 : ¬ (v < a)) => ?_)
  · refine Wp.seg 1 (pc1 := 15) (ls1 := [some (.int (v)), some (.int (a)), some (.int (b))]) (st1 := [.int (0)]) rfl ?_
    exact Wp.reti rfl rfl (by unfold f_in at hQ; rw [if_pos c1] at hQ; exact hQ)
  · refine Wp.seg 2 (pc1 := 7) (ls1 := [some (.int (v)), some (.int (a)), some (.int (b))]) (st1 := [.int (b), .int (v)]) rfl ?_
    refine Wp.if2 rfl (fun (c2 : b < v) => ?_) (fun (c2 : ¬ (b < v)) => ?_)
    · refine Wp.seg 1 (pc1 := 15) (ls1 := [some (.int (v)), some (.int (a)), some (.int (b))]) (st1 := [.int (0)]) rfl ?_
      exact Wp.reti rfl rfl (by unfold f_in at hQ; rw [if_neg c1] at hQ; rw [if_pos c2] at hQ; exact hQ)
    · refine Wp.seg 2 (pc1 := 15) (ls1 := [some (.int (v)), some (.int (a)), some (.int (b))]) (st1 := [.int (1)]) rfl ?_
      exact Wp.reti rfl rfl (by unfold f_in at hQ; rw [if_neg c1] at hQ; rw [if_neg c2] at hQ; exact hQ)
def f_costsOf (S : Nat → Int32) (n : Nat) : Int32 := if S (11 + 4 * n + 0) = 1 then (2 : Int32) else if S (11 + 4 * n + 0) = 2 then (3 : Int32) else if S (11 + 4 * n + 0) = 3 then (2 : Int32) else if S (11 + 4 * n + 0) = 4 then (0 : Int32) else if S (11 + 4 * n + 0) = 5 then (0 : Int32) else (1 : Int32)
set_option maxHeartbeats 4000000 in
theorem s_costsOf {d : Nat} {Q : KO → Prop} {h : KH} (hw : WF h) {n : Nat} (hn : n < 6) (hd : 1 ≤ d) (hQ : Q (some (.int (f_costsOf (h.2.2.1 60) n)), h)) : Cl d 188 [.ref 59, .int (Int32.ofNat n)] h Q := by
  refine Cl.of (ls := [some (.ref 59), some (.int (Int32.ofNat n))]) rfl rfl ?_
  refine Wp.seg 3 (pc1 := 3) (ls1 := [some (.ref 59), some (.int (Int32.ofNat n))]) (st1 := [.int (0), .int (Int32.ofNat n), .ref 59]) rfl ?_
  refine Wp.invV (d2 := 0) (as := [.ref 59, .int (Int32.ofNat n), .int (0)]) (r := []) (t := (11, 0)) rfl rfl rfl rfl (WF.t hw 59 rfl) rfl rfl ⟨rfl, rfl⟩ (by omega) (s_of hw (n := n) (w := 0) rfl (by omega) ?_)
  show Wp d 188 6 [some (.ref 59), some (.int (Int32.ofNat n))] [.int (h.2.2.1 60 (11 + 4 * n + 0))] h Q
  refine Wp.tsw rfl ?_
  refine ⟨fun c1 => ?_, fun c1 => ?_⟩
  · have c1 : h.2.2.1 60 (11 + 4 * n + 0) = 1 := c1
    show Wp d 188 40 [some (.ref 59), some (.int (Int32.ofNat n))] [] h Q
    refine Wp.seg 1 (pc1 := 41) (ls1 := [some (.ref 59), some (.int (Int32.ofNat n))]) (st1 := [.int (2)]) rfl ?_
    exact Wp.reti rfl rfl (by unfold f_costsOf at hQ; rw [if_pos c1] at hQ; exact hQ)
  have c1 : ¬ (h.2.2.1 60 (11 + 4 * n + 0)) = 1 := c1
  refine ⟨fun c2 => ?_, fun c2 => ?_⟩
  · have c2 : h.2.2.1 60 (11 + 4 * n + 0) = 2 := c2
    show Wp d 188 42 [some (.ref 59), some (.int (Int32.ofNat n))] [] h Q
    refine Wp.seg 1 (pc1 := 43) (ls1 := [some (.ref 59), some (.int (Int32.ofNat n))]) (st1 := [.int (3)]) rfl ?_
    exact Wp.reti rfl rfl (by unfold f_costsOf at hQ; rw [if_neg c1] at hQ; rw [if_pos c2] at hQ; exact hQ)
  have c2 : ¬ (h.2.2.1 60 (11 + 4 * n + 0)) = 2 := c2
  refine ⟨fun c3 => ?_, fun c3 => ?_⟩
  · have c3 : h.2.2.1 60 (11 + 4 * n + 0) = 3 := c3
    show Wp d 188 40 [some (.ref 59), some (.int (Int32.ofNat n))] [] h Q
    refine Wp.seg 1 (pc1 := 41) (ls1 := [some (.ref 59), some (.int (Int32.ofNat n))]) (st1 := [.int (2)]) rfl ?_
    exact Wp.reti rfl rfl (by unfold f_costsOf at hQ; rw [if_neg c1] at hQ; rw [if_neg c2] at hQ; rw [if_pos c3] at hQ; exact hQ)
  have c3 : ¬ (h.2.2.1 60 (11 + 4 * n + 0)) = 3 := c3
  refine ⟨fun c4 => ?_, fun c4 => ?_⟩
  · have c4 : h.2.2.1 60 (11 + 4 * n + 0) = 4 := c4
    show Wp d 188 44 [some (.ref 59), some (.int (Int32.ofNat n))] [] h Q
    refine Wp.seg 1 (pc1 := 45) (ls1 := [some (.ref 59), some (.int (Int32.ofNat n))]) (st1 := [.int (0)]) rfl ?_
    exact Wp.reti rfl rfl (by unfold f_costsOf at hQ; rw [if_neg c1] at hQ; rw [if_neg c2] at hQ; rw [if_neg c3] at hQ; rw [if_pos c4] at hQ; exact hQ)
  have c4 : ¬ (h.2.2.1 60 (11 + 4 * n + 0)) = 4 := c4
  refine ⟨fun c5 => ?_, fun c5 => ?_⟩
  · have c5 : h.2.2.1 60 (11 + 4 * n + 0) = 5 := c5
    show Wp d 188 44 [some (.ref 59), some (.int (Int32.ofNat n))] [] h Q
    refine Wp.seg 1 (pc1 := 45) (ls1 := [some (.ref 59), some (.int (Int32.ofNat n))]) (st1 := [.int (0)]) rfl ?_
    exact Wp.reti rfl rfl (by unfold f_costsOf at hQ; rw [if_neg c1] at hQ; rw [if_neg c2] at hQ; rw [if_neg c3] at hQ; rw [if_neg c4] at hQ; rw [if_pos c5] at hQ; exact hQ)
  have c5 : ¬ (h.2.2.1 60 (11 + 4 * n + 0)) = 5 := c5
  show Wp d 188 46 [some (.ref 59), some (.int (Int32.ofNat n))] [] h Q
  refine Wp.seg 1 (pc1 := 47) (ls1 := [some (.ref 59), some (.int (Int32.ofNat n))]) (st1 := [.int (1)]) rfl ?_
  exact Wp.reti rfl rfl (by unfold f_costsOf at hQ; rw [if_neg c1] at hQ; rw [if_neg c2] at hQ; rw [if_neg c3] at hQ; rw [if_neg c4] at hQ; rw [if_neg c5] at hQ; exact hQ)
def f_strokesOf (S : Nat → Int32) (n : Nat) : Int32 := if S (11 + 4 * n + 0) = 1 then ((1 : Int32) <<< ((S (11 + 4 * n + 2)) &&& 31)) ||| ((1 : Int32) <<< ((((S (11 + 4 * n + 2)) + (2 : Int32)) - ((S (11 + 4 * n + 2)) + (2 : Int32)) / (4 : Int32) * (4 : Int32)) &&& 31)) else if S (11 + 4 * n + 0) = 2 then (15 : Int32) &&& (((1 : Int32) <<< ((((S (11 + 4 * n + 2)) + (2 : Int32)) - ((S (11 + 4 * n + 2)) + (2 : Int32)) / (4 : Int32) * (4 : Int32)) &&& 31)) ^^^ (-1 : Int32)) else if S (11 + 4 * n + 0) = 3 then ((15 : Int32) &&& (((1 : Int32) <<< ((((S (11 + 4 * n + 2)) + (2 : Int32)) - ((S (11 + 4 * n + 2)) + (2 : Int32)) / (4 : Int32) * (4 : Int32)) &&& 31)) ^^^ (-1 : Int32))) &&& (((1 : Int32) <<< ((S (11 + 4 * n + 2)) &&& 31)) ^^^ (-1 : Int32)) else if S (11 + 4 * n + 0) = 4 then (1 : Int32) <<< ((S (11 + 4 * n + 2)) &&& 31) else if S (11 + 4 * n + 0) = 5 then (15 : Int32) else (1 : Int32) <<< ((S (11 + 4 * n + 2)) &&& 31)
set_option maxHeartbeats 4000000 in
theorem s_strokesOf {d : Nat} {Q : KO → Prop} {h : KH} (hw : WF h) {n : Nat} (hn : n < 6) (hd : 1 ≤ d) (hQ : Q (some (.int (f_strokesOf (h.2.2.1 60) n)), h)) : Cl d 187 [.ref 59, .int (Int32.ofNat n)] h Q := by
  refine Cl.of (ls := [some (.ref 59), some (.int (Int32.ofNat n)), none, none]) rfl rfl ?_
  refine Wp.seg 4 (pc1 := 4) (ls1 := [some (.ref 59), some (.int (Int32.ofNat n)), none, none]) (st1 := [.int (2), .int (Int32.ofNat n), .ref 59, .int (1)]) rfl ?_
  refine Wp.invV (d2 := 0) (as := [.ref 59, .int (Int32.ofNat n), .int (2)]) (r := [.int (1)]) (t := (11, 0)) rfl rfl rfl rfl (WF.t hw 59 rfl) rfl rfl ⟨rfl, rfl⟩ (by omega) (s_of hw (n := n) (w := 2) rfl (by omega) ?_)
  show Wp d 187 7 [some (.ref 59), some (.int (Int32.ofNat n)), none, none] [.int (h.2.2.1 60 (11 + 4 * n + 2)), .int (1)] h Q
  refine Wp.seg 6 (pc1 := 13) (ls1 := [some (.ref 59), some (.int (Int32.ofNat n)), some (.int ((1 : Int32) <<< ((h.2.2.1 60 (11 + 4 * n + 2)) &&& 31))), none]) (st1 := [.int (2), .int (Int32.ofNat n), .ref 59, .int (1)]) rfl ?_
  refine Wp.invV (d2 := 0) (as := [.ref 59, .int (Int32.ofNat n), .int (2)]) (r := [.int (1)]) (t := (11, 0)) rfl rfl rfl rfl (WF.t hw 59 rfl) rfl rfl ⟨rfl, rfl⟩ (by omega) (s_of hw (n := n) (w := 2) rfl (by omega) ?_)
  show Wp d 187 16 [some (.ref 59), some (.int (Int32.ofNat n)), some (.int ((1 : Int32) <<< ((h.2.2.1 60 (11 + 4 * n + 2)) &&& 31))), none] [.int (h.2.2.1 60 (11 + 4 * n + 2)), .int (1)] h Q
  refine Wp.seg 3 (pc1 := 19) (ls1 := [some (.ref 59), some (.int (Int32.ofNat n)), some (.int ((1 : Int32) <<< ((h.2.2.1 60 (11 + 4 * n + 2)) &&& 31))), none]) (st1 := [.int (4), .int ((h.2.2.1 60 (11 + 4 * n + 2)) + (2 : Int32)), .int (1)]) rfl ?_
  refine Wp.rem rfl (by decide) ?_
  refine Wp.seg 5 (pc1 := 25) (ls1 := [some (.ref 59), some (.int (Int32.ofNat n)), some (.int ((1 : Int32) <<< ((h.2.2.1 60 (11 + 4 * n + 2)) &&& 31))), some (.int ((1 : Int32) <<< ((((h.2.2.1 60 (11 + 4 * n + 2)) + (2 : Int32)) - ((h.2.2.1 60 (11 + 4 * n + 2)) + (2 : Int32)) / (4 : Int32) * (4 : Int32)) &&& 31)))]) (st1 := [.int (0), .int (Int32.ofNat n), .ref 59]) rfl ?_
  refine Wp.invV (d2 := 0) (as := [.ref 59, .int (Int32.ofNat n), .int (0)]) (r := []) (t := (11, 0)) rfl rfl rfl rfl (WF.t hw 59 rfl) rfl rfl ⟨rfl, rfl⟩ (by omega) (s_of hw (n := n) (w := 0) rfl (by omega) ?_)
  show Wp d 187 28 [some (.ref 59), some (.int (Int32.ofNat n)), some (.int ((1 : Int32) <<< ((h.2.2.1 60 (11 + 4 * n + 2)) &&& 31))), some (.int ((1 : Int32) <<< ((((h.2.2.1 60 (11 + 4 * n + 2)) + (2 : Int32)) - ((h.2.2.1 60 (11 + 4 * n + 2)) + (2 : Int32)) / (4 : Int32) * (4 : Int32)) &&& 31)))] [.int (h.2.2.1 60 (11 + 4 * n + 0))] h Q
  refine Wp.tsw rfl ?_
  refine ⟨fun c1 => ?_, fun c1 => ?_⟩
  · have c1 : h.2.2.1 60 (11 + 4 * n + 0) = 1 := c1
    show Wp d 187 64 [some (.ref 59), some (.int (Int32.ofNat n)), some (.int ((1 : Int32) <<< ((h.2.2.1 60 (11 + 4 * n + 2)) &&& 31))), some (.int ((1 : Int32) <<< ((((h.2.2.1 60 (11 + 4 * n + 2)) + (2 : Int32)) - ((h.2.2.1 60 (11 + 4 * n + 2)) + (2 : Int32)) / (4 : Int32) * (4 : Int32)) &&& 31)))] [] h Q
    refine Wp.seg 3 (pc1 := 67) (ls1 := [some (.ref 59), some (.int (Int32.ofNat n)), some (.int ((1 : Int32) <<< ((h.2.2.1 60 (11 + 4 * n + 2)) &&& 31))), some (.int ((1 : Int32) <<< ((((h.2.2.1 60 (11 + 4 * n + 2)) + (2 : Int32)) - ((h.2.2.1 60 (11 + 4 * n + 2)) + (2 : Int32)) / (4 : Int32) * (4 : Int32)) &&& 31)))]) (st1 := [.int (((1 : Int32) <<< ((h.2.2.1 60 (11 + 4 * n + 2)) &&& 31)) ||| ((1 : Int32) <<< ((((h.2.2.1 60 (11 + 4 * n + 2)) + (2 : Int32)) - ((h.2.2.1 60 (11 + 4 * n + 2)) + (2 : Int32)) / (4 : Int32) * (4 : Int32)) &&& 31)))]) rfl ?_
    exact Wp.reti rfl rfl (by unfold f_strokesOf at hQ; rw [if_pos c1] at hQ; exact hQ)
  have c1 : ¬ (h.2.2.1 60 (11 + 4 * n + 0)) = 1 := c1
  refine ⟨fun c2 => ?_, fun c2 => ?_⟩
  · have c2 : h.2.2.1 60 (11 + 4 * n + 0) = 2 := c2
    show Wp d 187 68 [some (.ref 59), some (.int (Int32.ofNat n)), some (.int ((1 : Int32) <<< ((h.2.2.1 60 (11 + 4 * n + 2)) &&& 31))), some (.int ((1 : Int32) <<< ((((h.2.2.1 60 (11 + 4 * n + 2)) + (2 : Int32)) - ((h.2.2.1 60 (11 + 4 * n + 2)) + (2 : Int32)) / (4 : Int32) * (4 : Int32)) &&& 31)))] [] h Q
    refine Wp.seg 5 (pc1 := 74) (ls1 := [some (.ref 59), some (.int (Int32.ofNat n)), some (.int ((1 : Int32) <<< ((h.2.2.1 60 (11 + 4 * n + 2)) &&& 31))), some (.int ((1 : Int32) <<< ((((h.2.2.1 60 (11 + 4 * n + 2)) + (2 : Int32)) - ((h.2.2.1 60 (11 + 4 * n + 2)) + (2 : Int32)) / (4 : Int32) * (4 : Int32)) &&& 31)))]) (st1 := [.int ((15 : Int32) &&& (((1 : Int32) <<< ((((h.2.2.1 60 (11 + 4 * n + 2)) + (2 : Int32)) - ((h.2.2.1 60 (11 + 4 * n + 2)) + (2 : Int32)) / (4 : Int32) * (4 : Int32)) &&& 31)) ^^^ (-1 : Int32)))]) rfl ?_
    exact Wp.reti rfl rfl (by unfold f_strokesOf at hQ; rw [if_neg c1] at hQ; rw [if_pos c2] at hQ; exact hQ)
  have c2 : ¬ (h.2.2.1 60 (11 + 4 * n + 0)) = 2 := c2
  refine ⟨fun c3 => ?_, fun c3 => ?_⟩
  · have c3 : h.2.2.1 60 (11 + 4 * n + 0) = 3 := c3
    show Wp d 187 75 [some (.ref 59), some (.int (Int32.ofNat n)), some (.int ((1 : Int32) <<< ((h.2.2.1 60 (11 + 4 * n + 2)) &&& 31))), some (.int ((1 : Int32) <<< ((((h.2.2.1 60 (11 + 4 * n + 2)) + (2 : Int32)) - ((h.2.2.1 60 (11 + 4 * n + 2)) + (2 : Int32)) / (4 : Int32) * (4 : Int32)) &&& 31)))] [] h Q
    refine Wp.seg 9 (pc1 := 85) (ls1 := [some (.ref 59), some (.int (Int32.ofNat n)), some (.int ((1 : Int32) <<< ((h.2.2.1 60 (11 + 4 * n + 2)) &&& 31))), some (.int ((1 : Int32) <<< ((((h.2.2.1 60 (11 + 4 * n + 2)) + (2 : Int32)) - ((h.2.2.1 60 (11 + 4 * n + 2)) + (2 : Int32)) / (4 : Int32) * (4 : Int32)) &&& 31)))]) (st1 := [.int (((15 : Int32) &&& (((1 : Int32) <<< ((((h.2.2.1 60 (11 + 4 * n + 2)) + (2 : Int32)) - ((h.2.2.1 60 (11 + 4 * n + 2)) + (2 : Int32)) / (4 : Int32) * (4 : Int32)) &&& 31)) ^^^ (-1 : Int32))) &&& (((1 : Int32) <<< ((h.2.2.1 60 (11 + 4 * n + 2)) &&& 31)) ^^^ (-1 : Int32)))]) rfl ?_
    exact Wp.reti rfl rfl (by unfold f_strokesOf at hQ; rw [if_neg c1] at hQ; rw [if_neg c2] at hQ; rw [if_pos c3] at hQ; exact hQ)
  have c3 : ¬ (h.2.2.1 60 (11 + 4 * n + 0)) = 3 := c3
  refine ⟨fun c4 => ?_, fun c4 => ?_⟩
  · have c4 : h.2.2.1 60 (11 + 4 * n + 0) = 4 := c4
    show Wp d 187 89 [some (.ref 59), some (.int (Int32.ofNat n)), some (.int ((1 : Int32) <<< ((h.2.2.1 60 (11 + 4 * n + 2)) &&& 31))), some (.int ((1 : Int32) <<< ((((h.2.2.1 60 (11 + 4 * n + 2)) + (2 : Int32)) - ((h.2.2.1 60 (11 + 4 * n + 2)) + (2 : Int32)) / (4 : Int32) * (4 : Int32)) &&& 31)))] [] h Q
    refine Wp.seg 1 (pc1 := 90) (ls1 := [some (.ref 59), some (.int (Int32.ofNat n)), some (.int ((1 : Int32) <<< ((h.2.2.1 60 (11 + 4 * n + 2)) &&& 31))), some (.int ((1 : Int32) <<< ((((h.2.2.1 60 (11 + 4 * n + 2)) + (2 : Int32)) - ((h.2.2.1 60 (11 + 4 * n + 2)) + (2 : Int32)) / (4 : Int32) * (4 : Int32)) &&& 31)))]) (st1 := [.int ((1 : Int32) <<< ((h.2.2.1 60 (11 + 4 * n + 2)) &&& 31))]) rfl ?_
    exact Wp.reti rfl rfl (by unfold f_strokesOf at hQ; rw [if_neg c1] at hQ; rw [if_neg c2] at hQ; rw [if_neg c3] at hQ; rw [if_pos c4] at hQ; exact hQ)
  have c4 : ¬ (h.2.2.1 60 (11 + 4 * n + 0)) = 4 := c4
  refine ⟨fun c5 => ?_, fun c5 => ?_⟩
  · have c5 : h.2.2.1 60 (11 + 4 * n + 0) = 5 := c5
    show Wp d 187 86 [some (.ref 59), some (.int (Int32.ofNat n)), some (.int ((1 : Int32) <<< ((h.2.2.1 60 (11 + 4 * n + 2)) &&& 31))), some (.int ((1 : Int32) <<< ((((h.2.2.1 60 (11 + 4 * n + 2)) + (2 : Int32)) - ((h.2.2.1 60 (11 + 4 * n + 2)) + (2 : Int32)) / (4 : Int32) * (4 : Int32)) &&& 31)))] [] h Q
    refine Wp.seg 1 (pc1 := 88) (ls1 := [some (.ref 59), some (.int (Int32.ofNat n)), some (.int ((1 : Int32) <<< ((h.2.2.1 60 (11 + 4 * n + 2)) &&& 31))), some (.int ((1 : Int32) <<< ((((h.2.2.1 60 (11 + 4 * n + 2)) + (2 : Int32)) - ((h.2.2.1 60 (11 + 4 * n + 2)) + (2 : Int32)) / (4 : Int32) * (4 : Int32)) &&& 31)))]) (st1 := [.int (15)]) rfl ?_
    exact Wp.reti rfl rfl (by unfold f_strokesOf at hQ; rw [if_neg c1] at hQ; rw [if_neg c2] at hQ; rw [if_neg c3] at hQ; rw [if_neg c4] at hQ; rw [if_pos c5] at hQ; exact hQ)
  have c5 : ¬ (h.2.2.1 60 (11 + 4 * n + 0)) = 5 := c5
  show Wp d 187 89 [some (.ref 59), some (.int (Int32.ofNat n)), some (.int ((1 : Int32) <<< ((h.2.2.1 60 (11 + 4 * n + 2)) &&& 31))), some (.int ((1 : Int32) <<< ((((h.2.2.1 60 (11 + 4 * n + 2)) + (2 : Int32)) - ((h.2.2.1 60 (11 + 4 * n + 2)) + (2 : Int32)) / (4 : Int32) * (4 : Int32)) &&& 31)))] [] h Q
  refine Wp.seg 1 (pc1 := 90) (ls1 := [some (.ref 59), some (.int (Int32.ofNat n)), some (.int ((1 : Int32) <<< ((h.2.2.1 60 (11 + 4 * n + 2)) &&& 31))), some (.int ((1 : Int32) <<< ((((h.2.2.1 60 (11 + 4 * n + 2)) + (2 : Int32)) - ((h.2.2.1 60 (11 + 4 * n + 2)) + (2 : Int32)) / (4 : Int32) * (4 : Int32)) &&& 31)))]) (st1 := [.int ((1 : Int32) <<< ((h.2.2.1 60 (11 + 4 * n + 2)) &&& 31))]) rfl ?_
  exact Wp.reti rfl rfl (by unfold f_strokesOf at hQ; rw [if_neg c1] at hQ; rw [if_neg c2] at hQ; rw [if_neg c3] at hQ; rw [if_neg c4] at hQ; rw [if_neg c5] at hQ; exact hQ)
def f_doesRub (S : Nat → Int32) (n : Nat) : Int32 := if (S (11 + 4 * n + 0)) < (4 : Int32) then (0 : Int32) else (1 : Int32)
set_option maxHeartbeats 4000000 in
theorem s_doesRub {d : Nat} {Q : KO → Prop} {h : KH} (hw : WF h) {n : Nat} (hn : n < 6) (hd : 1 ≤ d) (hQ : Q (some (.int (f_doesRub (h.2.2.1 60) n)), h)) : Cl d 190 [.ref 59, .int (Int32.ofNat n)] h Q := by
  refine Cl.of (ls := [some (.ref 59), some (.int (Int32.ofNat n))]) rfl rfl ?_
  refine Wp.seg 3 (pc1 := 3) (ls1 := [some (.ref 59), some (.int (Int32.ofNat n))]) (st1 := [.int (0), .int (Int32.ofNat n), .ref 59]) rfl ?_
  refine Wp.invV (d2 := 0) (as := [.ref 59, .int (Int32.ofNat n), .int (0)]) (r := []) (t := (11, 0)) rfl rfl rfl rfl (WF.t hw 59 rfl) rfl rfl ⟨rfl, rfl⟩ (by omega) (s_of hw (n := n) (w := 0) rfl (by omega) ?_)
  show Wp d 190 6 [some (.ref 59), some (.int (Int32.ofNat n))] [.int (h.2.2.1 60 (11 + 4 * n + 0))] h Q
  refine Wp.seg 1 (pc1 := 7) (ls1 := [some (.ref 59), some (.int (Int32.ofNat n))]) (st1 := [.int (4), .int (h.2.2.1 60 (11 + 4 * n + 0))]) rfl ?_
  refine Wp.if2 rfl (fun (c1 : (h.2.2.1 60 (11 + 4 * n + 0)) < (4 : Int32)) => ?_) (fun (c1 : ¬ ((h.2.2.1 60 (11 + 4 * n + 0)) < (4 : Int32))) => ?_)
  · refine Wp.seg 1 (pc1 := 15) (ls1 := [some (.ref 59), some (.int (Int32.ofNat n))]) (st1 := [.int (0)]) rfl ?_
    exact Wp.reti rfl rfl (by unfold f_doesRub at hQ; rw [if_pos c1] at hQ; exact hQ)
  · refine Wp.seg 2 (pc1 := 15) (ls1 := [some (.ref 59), some (.int (Int32.ofNat n))]) (st1 := [.int (1)]) rfl ?_
    exact Wp.reti rfl rfl (by unfold f_doesRub at hQ; rw [if_neg c1] at hQ; exact hQ)
def f_turnsBy (v : Int32) : Int32 := if v = (1 : Int32) then (2 : Int32) else if ¬ v = (5 : Int32) then if ¬ v = (3 : Int32) then (1 : Int32) else (3 : Int32) else (2 : Int32)
set_option maxHeartbeats 4000000 in
theorem s_turnsBy {d : Nat} {Q : KO → Prop} {h : KH} {v : Int32} (hd : 0 ≤ d) (hQ : Q (some (.int (f_turnsBy v)), h)) : Cl d 189 [.int (v)] h Q := by
  refine Cl.of (ls := [some (.int (v))]) rfl rfl ?_
  refine Wp.seg 2 (pc1 := 2) (ls1 := [some (.int (v))]) (st1 := [.int (1), .int (v)]) rfl ?_
  refine Wp.if2 rfl (fun (c1 : v = (1 : Int32)) => ?_) (fun (c1 : ¬ (v = (1 : Int32))) => ?_)
  · refine Wp.seg 2 (pc1 := 24) (ls1 := [some (.int (v))]) (st1 := [.int (2)]) rfl ?_
    exact Wp.reti rfl rfl (by unfold f_turnsBy at hQ; rw [if_pos c1] at hQ; exact hQ)
  · refine Wp.seg 2 (pc1 := 7) (ls1 := [some (.int (v))]) (st1 := [.int (5), .int (v)]) rfl ?_
    refine Wp.if2 rfl (fun (c2 : ¬ v = (5 : Int32)) => ?_) (fun (c2 : ¬ (¬ v = (5 : Int32))) => ?_)
    · refine Wp.seg 2 (pc1 := 16) (ls1 := [some (.int (v))]) (st1 := [.int (3), .int (v)]) rfl ?_
      refine Wp.if2 rfl (fun (c3 : ¬ v = (3 : Int32)) => ?_) (fun (c3 : ¬ (¬ v = (3 : Int32))) => ?_)
      · refine Wp.seg 1 (pc1 := 24) (ls1 := [some (.int (v))]) (st1 := [.int (1)]) rfl ?_
        exact Wp.reti rfl rfl (by unfold f_turnsBy at hQ; rw [if_neg c1] at hQ; rw [if_pos c2] at hQ; rw [if_pos c3] at hQ; exact hQ)
      · refine Wp.seg 2 (pc1 := 24) (ls1 := [some (.int (v))]) (st1 := [.int (3)]) rfl ?_
        exact Wp.reti rfl rfl (by unfold f_turnsBy at hQ; rw [if_neg c1] at hQ; rw [if_pos c2] at hQ; rw [if_neg c3] at hQ; exact hQ)
    · refine Wp.seg 2 (pc1 := 24) (ls1 := [some (.int (v))]) (st1 := [.int (2)]) rfl ?_
      exact Wp.reti rfl rfl (by unfold f_turnsBy at hQ; rw [if_neg c1] at hQ; rw [if_neg c2] at hQ; exact hQ)
def f_isUnder (v a : Int32) : Int32 := if a = 0 then (1 : Int32) else if v = a then (1 : Int32) else if ¬ a = (2 : Int32) then if ¬ a = (4 : Int32) then (0 : Int32) else if ¬ v = (5 : Int32) then (0 : Int32) else (1 : Int32) else if v = (3 : Int32) then (1 : Int32) else if ¬ a = (4 : Int32) then (0 : Int32) else if ¬ v = (5 : Int32) then (0 : Int32) else (1 : Int32)
set_option maxHeartbeats 4000000 in
theorem s_isUnder {d : Nat} {Q : KO → Prop} {h : KH} {v a : Int32} (hd : 0 ≤ d) (hQ : Q (some (.int (f_isUnder v a)), h)) : Cl d 191 [.int (v), .int (a)] h Q := by
  refine Cl.of (ls := [some (.int (v)), some (.int (a))]) rfl rfl ?_
  refine Wp.seg 1 (pc1 := 1) (ls1 := [some (.int (v)), some (.int (a))]) (st1 := [.int (a)]) rfl ?_
  refine Wp.if1 rfl (fun (c1 : a = 0) => ?_) (fun (c1 : ¬ (a = 0)) => ?_)
  · refine Wp.seg 2 (pc1 := 34) (ls1 := [some (.int (v)), some (.int (a))]) (st1 := [.int (1)]) rfl ?_
    exact Wp.reti rfl rfl (by unfold f_isUnder at hQ; rw [if_pos c1] at hQ; exact hQ)
  · refine Wp.seg 2 (pc1 := 6) (ls1 := [some (.int (v)), some (.int (a))]) (st1 := [.int (a), .int (v)]) rfl ?_
    refine Wp.if2 rfl (fun (c2 : v = a) => ?_) (fun (c2 : ¬ (v = a)) => ?_)
    · refine Wp.seg 2 (pc1 := 34) (ls1 := [some (.int (v)), some (.int (a))]) (st1 := [.int (1)]) rfl ?_
      exact Wp.reti rfl rfl (by unfold f_isUnder at hQ; rw [if_neg c1] at hQ; rw [if_pos c2] at hQ; exact hQ)
    · refine Wp.seg 2 (pc1 := 11) (ls1 := [some (.int (v)), some (.int (a))]) (st1 := [.int (2), .int (a)]) rfl ?_
      refine Wp.if2 rfl (fun (c3 : ¬ a = (2 : Int32)) => ?_) (fun (c3 : ¬ (¬ a = (2 : Int32))) => ?_)
      · refine Wp.seg 2 (pc1 := 21) (ls1 := [some (.int (v)), some (.int (a))]) (st1 := [.int (4), .int (a)]) rfl ?_
        refine Wp.if2 rfl (fun (c4 : ¬ a = (4 : Int32)) => ?_) (fun (c4 : ¬ (¬ a = (4 : Int32))) => ?_)
        · refine Wp.seg 1 (pc1 := 34) (ls1 := [some (.int (v)), some (.int (a))]) (st1 := [.int (0)]) rfl ?_
          exact Wp.reti rfl rfl (by unfold f_isUnder at hQ; rw [if_neg c1] at hQ; rw [if_neg c2] at hQ; rw [if_pos c3] at hQ; rw [if_pos c4] at hQ; exact hQ)
        · refine Wp.seg 2 (pc1 := 26) (ls1 := [some (.int (v)), some (.int (a))]) (st1 := [.int (5), .int (v)]) rfl ?_
          refine Wp.if2 rfl (fun (c5 : ¬ v = (5 : Int32)) => ?_) (fun (c5 : ¬ (¬ v = (5 : Int32))) => ?_)
          · refine Wp.seg 1 (pc1 := 34) (ls1 := [some (.int (v)), some (.int (a))]) (st1 := [.int (0)]) rfl ?_
            exact Wp.reti rfl rfl (by unfold f_isUnder at hQ; rw [if_neg c1] at hQ; rw [if_neg c2] at hQ; rw [if_pos c3] at hQ; rw [if_neg c4] at hQ; rw [if_pos c5] at hQ; exact hQ)
          · refine Wp.seg 2 (pc1 := 34) (ls1 := [some (.int (v)), some (.int (a))]) (st1 := [.int (1)]) rfl ?_
            exact Wp.reti rfl rfl (by unfold f_isUnder at hQ; rw [if_neg c1] at hQ; rw [if_neg c2] at hQ; rw [if_pos c3] at hQ; rw [if_neg c4] at hQ; rw [if_neg c5] at hQ; exact hQ)
      · refine Wp.seg 2 (pc1 := 16) (ls1 := [some (.int (v)), some (.int (a))]) (st1 := [.int (3), .int (v)]) rfl ?_
        refine Wp.if2 rfl (fun (c6 : v = (3 : Int32)) => ?_) (fun (c6 : ¬ (v = (3 : Int32))) => ?_)
        · refine Wp.seg 2 (pc1 := 34) (ls1 := [some (.int (v)), some (.int (a))]) (st1 := [.int (1)]) rfl ?_
          exact Wp.reti rfl rfl (by unfold f_isUnder at hQ; rw [if_neg c1] at hQ; rw [if_neg c2] at hQ; rw [if_neg c3] at hQ; rw [if_pos c6] at hQ; exact hQ)
        · refine Wp.seg 2 (pc1 := 21) (ls1 := [some (.int (v)), some (.int (a))]) (st1 := [.int (4), .int (a)]) rfl ?_
          refine Wp.if2 rfl (fun (c7 : ¬ a = (4 : Int32)) => ?_) (fun (c7 : ¬ (¬ a = (4 : Int32))) => ?_)
          · refine Wp.seg 1 (pc1 := 34) (ls1 := [some (.int (v)), some (.int (a))]) (st1 := [.int (0)]) rfl ?_
            exact Wp.reti rfl rfl (by unfold f_isUnder at hQ; rw [if_neg c1] at hQ; rw [if_neg c2] at hQ; rw [if_neg c3] at hQ; rw [if_neg c6] at hQ; rw [if_pos c7] at hQ; exact hQ)
          · refine Wp.seg 2 (pc1 := 26) (ls1 := [some (.int (v)), some (.int (a))]) (st1 := [.int (5), .int (v)]) rfl ?_
            refine Wp.if2 rfl (fun (c8 : ¬ v = (5 : Int32)) => ?_) (fun (c8 : ¬ (¬ v = (5 : Int32))) => ?_)
            · refine Wp.seg 1 (pc1 := 34) (ls1 := [some (.int (v)), some (.int (a))]) (st1 := [.int (0)]) rfl ?_
              exact Wp.reti rfl rfl (by unfold f_isUnder at hQ; rw [if_neg c1] at hQ; rw [if_neg c2] at hQ; rw [if_neg c3] at hQ; rw [if_neg c6] at hQ; rw [if_neg c7] at hQ; rw [if_pos c8] at hQ; exact hQ)
            · refine Wp.seg 2 (pc1 := 34) (ls1 := [some (.int (v)), some (.int (a))]) (st1 := [.int (1)]) rfl ?_
              exact Wp.reti rfl rfl (by unfold f_isUnder at hQ; rw [if_neg c1] at hQ; rw [if_neg c2] at hQ; rw [if_neg c3] at hQ; rw [if_neg c6] at hQ; rw [if_neg c7] at hQ; rw [if_neg c8] at hQ; exact hQ)
def f_isOver (S : Nat → Int32) : Int32 := if (S 1) < (S 0) then (0 : Int32) else (1 : Int32)
set_option maxHeartbeats 4000000 in
theorem s_isOver {d : Nat} {Q : KO → Prop} {h : KH} (hw : WF h) (hd : 0 ≤ d) (hQ : Q (some (.int (f_isOver (h.2.2.1 60))), h)) : Cl d 180 [.ref 59] h Q := by
  refine Cl.of (ls := [some (.ref 59)]) rfl rfl ?_
  refine Wp.seg 1 (pc1 := 1) (ls1 := [some (.ref 59)]) (st1 := [.ref 59]) rfl ?_
  refine Wp.gr (t := (11, 0)) (v := some (60)) rfl (WF.t hw 59 rfl) rfl (WF.r hw 59 0 58 rfl) ?_
  show Wp d 180 4 [some (.ref 59)] [.ref 60] h Q
  refine Wp.seg 1 (pc1 := 5) (ls1 := [some (.ref 59)]) (st1 := [.int (1), .ref 60]) rfl ?_
  refine Wp.iald (j := 1) (k := 20) (n := 585) rfl (WF.t hw 60 rfl) rfl rfl (by decide) (by decide) ?_
  refine Wp.seg 1 (pc1 := 7) (ls1 := [some (.ref 59)]) (st1 := [.ref 59, .int (h.2.2.1 60 1)]) rfl ?_
  refine Wp.gr (t := (11, 0)) (v := some (60)) rfl (WF.t hw 59 rfl) rfl (WF.r hw 59 0 58 rfl) ?_
  show Wp d 180 10 [some (.ref 59)] [.ref 60, .int (h.2.2.1 60 1)] h Q
  refine Wp.seg 1 (pc1 := 11) (ls1 := [some (.ref 59)]) (st1 := [.int (0), .ref 60, .int (h.2.2.1 60 1)]) rfl ?_
  refine Wp.iald (j := 0) (k := 20) (n := 585) rfl (WF.t hw 60 rfl) rfl rfl (by decide) (by decide) ?_
  refine Wp.if2 rfl (fun (c1 : (h.2.2.1 60 1) < (h.2.2.1 60 0)) => ?_) (fun (c1 : ¬ ((h.2.2.1 60 1) < (h.2.2.1 60 0))) => ?_)
  · refine Wp.seg 1 (pc1 := 20) (ls1 := [some (.ref 59)]) (st1 := [.int (0)]) rfl ?_
    exact Wp.reti rfl rfl (by unfold f_isOver at hQ; rw [if_pos c1] at hQ; exact hQ)
  · refine Wp.seg 2 (pc1 := 20) (ls1 := [some (.ref 59)]) (st1 := [.int (1)]) rfl ?_
    exact Wp.reti rfl rfl (by unfold f_isOver at hQ; rw [if_neg c1] at hQ; exact hQ)
def itS (l : Int32) : Nat → Int32 → Int32
  | 0, c => c
  | k + 1, c => itS l k (onw c l)
theorem itS_fix {l c : Int32} (h : onw c l = c) : ∀ k, itS l k c = c
  | 0 => rfl
  | k + 1 => by unfold itS; rw [h]; exact itS_fix h k
/-- the cells that are shut, from a cell on -/
def shutS (c0 l : Int32) : Int32 := (4095 : Int32) &&& ((itS l 12 (1 <<< (c0 &&& 31))) ^^^ (-1))
/-- twelve steps are enough -/
def fixS (c0 l : Int32) : Prop := ¬ (1 : Int32) <<< (c0 &&& 31) = 0 ∧ onw (itS l 12 (1 <<< (c0 &&& 31))) l = itS l 12 (1 <<< (c0 &&& 31))
set_option maxHeartbeats 4000000 in
theorem t_shutB {d : Nat} {Q : KO → Prop} {h : KH} (hw : WF h) {l x y : Int32} (hd : 2 ≤ d) (hQ : (x = y → Q (some (.int ((4095 : Int32) &&& (x ^^^ (-1 : Int32)))), h)) ∧ (¬ (x = y) → Wp d 185 11 ([some (.ref 59), some (.int (l)), some (.int (onw x l)), some (.int (x))]) [] h Q)) : Wp d 185 11 [some (.ref 59), some (.int (l)), some (.int (x)), some (.int (y))] [] h Q := by
  refine Wp.seg 2 (pc1 := 13) (ls1 := [some (.ref 59), some (.int (l)), some (.int (x)), some (.int (y))]) (st1 := [.int (y), .int (x)]) rfl ?_
  refine Wp.if2 rfl (fun (c1 : x = y) => ?_) (fun (c1 : ¬ (x = y)) => ?_)
  · refine Wp.seg 5 (pc1 := 34) (ls1 := [some (.ref 59), some (.int (l)), some (.int (x)), some (.int (y))]) (st1 := [.int ((4095 : Int32) &&& (x ^^^ (-1 : Int32)))]) rfl ?_
    exact Wp.reti rfl rfl (hQ.1 c1)
  · refine Wp.seg 4 (pc1 := 20) (ls1 := [some (.ref 59), some (.int (l)), some (.int (x)), some (.int (x))]) (st1 := [.int (l), .int (x)]) rfl ?_
    refine Wp.inv (d2 := 1) (as := [.int (x), .int (l)]) (r := []) rfl rfl rfl rfl rfl rfl (by omega) (s_onw (Nat.le_refl _) ?_)
    show Wp d 185 23 [some (.ref 59), some (.int (l)), some (.int (x)), some (.int (x))] [.int (onw x l)] h Q
    refine Wp.seg 2 (pc1 := 11) (ls1 := [some (.ref 59), some (.int (l)), some (.int (onw x l)), some (.int (x))]) (st1 := []) rfl ?_
    exact (hQ.2 c1)
set_option maxHeartbeats 4000000 in
theorem t_shutBy {d : Nat} {Q : KO → Prop} {h : KH} (hw : WF h) {l : Int32} (hd : 2 ≤ d) (hQ : Wp d 185 11 ([some (.ref 59), some (.int (l)), some (.int ((1 : Int32) <<< ((h.2.2.1 60 2) &&& 31))), some (.int (0))]) [] h Q) : Cl d 185 [.ref 59, .int (l)] h Q := by
  refine Cl.of (ls := [some (.ref 59), some (.int (l)), none, none]) rfl rfl ?_
  refine Wp.seg 2 (pc1 := 2) (ls1 := [some (.ref 59), some (.int (l)), none, none]) (st1 := [.ref 59, .int (1)]) rfl ?_
  refine Wp.gr (t := (11, 0)) (v := some (60)) rfl (WF.t hw 59 rfl) rfl (WF.r hw 59 0 58 rfl) ?_
  show Wp d 185 5 [some (.ref 59), some (.int (l)), none, none] [.ref 60, .int (1)] h Q
  refine Wp.seg 1 (pc1 := 6) (ls1 := [some (.ref 59), some (.int (l)), none, none]) (st1 := [.int (2), .ref 60, .int (1)]) rfl ?_
  refine Wp.iald (j := 2) (k := 20) (n := 585) rfl (WF.t hw 60 rfl) rfl rfl (by decide) (by decide) ?_
  refine Wp.seg 4 (pc1 := 11) (ls1 := [some (.ref 59), some (.int (l)), some (.int ((1 : Int32) <<< ((h.2.2.1 60 2) &&& 31))), some (.int (0))]) (st1 := []) rfl ?_
  exact hQ
theorem s_shutL {d : Nat} {Q : KO → Prop} {h : KH} (hw : WF h) (hd : 2 ≤ d) {l : Int32} : ∀ (k : Nat) (x y : Int32), (x = onw y l ∨ ¬ x = y) → onw (itS l k x) l = itS l k x → Q (some (.int (4095 &&& (itS l k x ^^^ (-1)))), h) → Wp d 185 11 [some (.ref 59), some (.int l), some (.int x), some (.int y)] [] h Q
  | 0, x, y, hi, hf, hQ => by
    refine t_shutB hw hd ⟨fun _ => hQ, fun _ => ?_⟩
    have e : onw x l = x := hf
    rw [e]
    exact t_shutB hw hd ⟨fun _ => hQ, fun q => absurd rfl q⟩
  | k + 1, x, y, hi, hf, hQ => by
    refine t_shutB hw hd ⟨fun c => ?_, fun _ => s_shutL hw hd k (onw x l) x (Or.inl rfl) hf hQ⟩
    have e : onw x l = x := by
      rcases hi with hi | hi
      · rw [← c] at hi
        exact hi.symm
      · exact absurd c hi
    rw [itS_fix e] at hQ
    exact hQ
theorem s_shutBy {d : Nat} {Q : KO → Prop} {h : KH} (hw : WF h) (hd : 2 ≤ d) {l : Int32} (hf : fixS (h.2.2.1 60 2) l) (hQ : Q (some (.int (shutS (h.2.2.1 60 2) l)), h)) : Cl d 185 [.ref 59, .int l] h Q :=
  t_shutBy hw hd (s_shutL hw hd 12 _ _ (Or.inr hf.1) hf.2 hQ)
def f_shutNow (S : Nat → Int32) : Int32 := shutS (S 2) (S 3)
set_option maxHeartbeats 4000000 in
theorem s_shutNow {d : Nat} {Q : KO → Prop} {h : KH} (hw : WF h) (hf : fixS (h.2.2.1 60 2) (h.2.2.1 60 3)) (hd : 3 ≤ d) (hQ : Q (some (.int (f_shutNow (h.2.2.1 60))), h)) : Cl d 186 [.ref 59] h Q := by
  refine Cl.of (ls := [some (.ref 59)]) rfl rfl ?_
  refine Wp.seg 2 (pc1 := 2) (ls1 := [some (.ref 59)]) (st1 := [.ref 59, .ref 59]) rfl ?_
  refine Wp.gr (t := (11, 0)) (v := some (60)) rfl (WF.t hw 59 rfl) rfl (WF.r hw 59 0 58 rfl) ?_
  show Wp d 186 5 [some (.ref 59)] [.ref 60, .ref 59] h Q
  refine Wp.seg 1 (pc1 := 6) (ls1 := [some (.ref 59)]) (st1 := [.int (3), .ref 60, .ref 59]) rfl ?_
  refine Wp.iald (j := 3) (k := 20) (n := 585) rfl (WF.t hw 60 rfl) rfl rfl (by decide) (by decide) ?_
  refine Wp.invV (d2 := 2) (as := [.ref 59, .int (h.2.2.1 60 3)]) (r := []) (t := (11, 0)) rfl rfl rfl rfl (WF.t hw 59 rfl) rfl rfl ⟨rfl, rfl⟩ (by omega) (s_shutBy hw (Nat.le_refl _) hf ?_)
  show Wp d 186 10 [some (.ref 59)] [.int (shutS (h.2.2.1 60 2) (h.2.2.1 60 3))] h Q
  exact Wp.reti rfl rfl (by unfold f_shutNow at hQ; exact hQ)
