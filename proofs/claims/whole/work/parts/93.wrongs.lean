/-! KM: the class: wrongReports -/
def bsd (c f : Nat) : Int32 := f_cBeside (Int32.ofNat c) (Int32.ofNat f)
def stp (K : Nat) (q : Nat × Nat) : Nat × Nat := if bsd q.1 q.2 < 0 then (q.1, (f_cTurned (Int32.ofNat q.2) (f_cTurns (Int32.ofNat K))).toNatClampNeg) else ((bsd q.1 q.2).toNatClampNeg, q.2)
def ptA (s : Nat) : Nat → Nat × Nat
  | 0 => (s / 4 % 12, s % 4)
  | t + 1 => stp (1 + s / 48) (ptA s t)
theorem stp_o1 : ∀ K, K < 6 → ∀ c, c < 12 → ∀ f, f < 4 → K = 0 ∨ ((stp K (c, f)).1 < 12 ∧ (stp K (c, f)).2 < 4) := by decide +kernel
theorem stp_o2 : ∀ K, K < 6 → ∀ c, c < 12 → ∀ f, f < 4 → K = 0 ∨ ¬ (bsd c f < 0) ∨ (f_cTurned (Int32.ofNat f) (f_cTurns (Int32.ofNat K)) = Int32.ofNat (stp K (c, f)).2 ∧ (stp K (c, f)).1 = c) := by decide +kernel
theorem stp_o3 : ∀ K, K < 6 → ∀ c, c < 12 → ∀ f, f < 4 → K = 0 ∨ bsd c f < 0 ∨ (bsd c f = Int32.ofNat (stp K (c, f)).1 ∧ (stp K (c, f)).2 = f) := by decide +kernel
theorem stp_ok (K : Nat) (hK : K < 6) (c : Nat) (hc : c < 12) (f : Nat) (hf : f < 4) (h0 : K ≠ 0) : (stp K (c, f)).1 < 12 ∧ (stp K (c, f)).2 < 4 ∧ (bsd c f < 0 → f_cTurned (Int32.ofNat f) (f_cTurns (Int32.ofNat K)) = Int32.ofNat (stp K (c, f)).2 ∧ (stp K (c, f)).1 = c) ∧ (¬ (bsd c f < 0) → bsd c f = Int32.ofNat (stp K (c, f)).1 ∧ (stp K (c, f)).2 = f) := by
  have r := (stp_o1 K hK c hc f hf).resolve_left h0
  exact ⟨r.1, r.2, fun h => ((stp_o2 K hK c hc f hf).resolve_left h0).resolve_left (fun z => z h), fun h => ((stp_o3 K hK c hc f hf).resolve_left h0).resolve_left h⟩
theorem ptA_ok {s : Nat} (hs : s < 240) : ∀ t, (ptA s t).1 < 12 ∧ (ptA s t).2 < 4
  | 0 => ⟨Nat.mod_lt _ (by decide), Nat.mod_lt _ (by decide)⟩
  | t + 1 => by
    have h := ptA_ok hs t
    have h2 := stp_ok (1 + s / 48) (by omega) _ h.1 _ h.2 (by omega)
    exact ⟨h2.1, h2.2.1⟩
def wrG (s : Nat) (x : Nat × Nat × Nat) : Bool := decide ((ptA s x.1).1 < x.2.1) || decide (x.2.2 < (ptA s x.1).1)
def rget : List (Nat × Nat × Nat) → Nat → Option (Nat × Nat × Nat)
  | [], _ => none
  | x :: r, j => if j = r.length then some x else rget r j
theorem rget_ge : ∀ (RP : List (Nat × Nat × Nat)) {j : Nat}, RP.length ≤ j → rget RP j = none
  | [], _, _ => rfl
  | x :: r, j, h => by
    have h' : r.length + 1 ≤ j := h
    unfold rget
    rw [if_neg (by omega)]
    exact rget_ge r (by omega)
def wrT (s t : Nat) (RP : List (Nat × Nat × Nat)) (j : Nat) : Bool := match rget RP j with
  | none => false
  | some x => decide (x.1 < t) && wrG s x
def wrE (s t : Nat) (RP : List (Nat × Nat × Nat)) (j : Nat) : Bool := match rget RP j with
  | none => false
  | some x => decide (x.1 = t) && wrG s x
theorem wrT_0 (s : Nat) (RP : List (Nat × Nat × Nat)) (j : Nat) : wrT s 0 RP j = false := by
  unfold wrT
  cases rget RP j with
  | none => rfl
  | some x =>
    show (decide (x.1 < 0) && wrG s x) = false
    rw [decide_eq_false (Nat.not_lt_zero _)]
    rfl
theorem wrT_s (s t : Nat) (RP : List (Nat × Nat × Nat)) (j : Nat) : wrT s (t + 1) RP j = (wrT s t RP j || wrE s t RP j) := by
  unfold wrT wrE
  cases rget RP j with
  | none => rfl
  | some x =>
    show (decide (x.1 < t + 1) && wrG s x) = ((decide (x.1 < t) && wrG s x) || (decide (x.1 = t) && wrG s x))
    cases wrG s x with
    | false => simp
    | true =>
      simp only [Bool.and_true]
      by_cases h1 : x.1 < t
      · simp [h1, Nat.lt_succ_of_lt h1]
      · by_cases h2 : x.1 = t
        · simp [h2]
        · simp [h1, h2]; omega
theorem wrE_nil (s t j : Nat) : wrE s t [] j = false := rfl
theorem wrE_cons (s t : Nat) (x : Nat × Nat × Nat) (r : List (Nat × Nat × Nat)) (j : Nat) : wrE s t (x :: r) j = if j = r.length then (decide (x.1 = t) && wrG s x) else wrE s t r j := by
  unfold wrE
  rw [show rget (x :: r) j = if j = r.length then some x else rget r j from rfl]
  by_cases h : j = r.length
  · rw [if_pos h, if_pos h]
  · rw [if_neg h, if_neg h]
def b6 (a0 a1 a2 a3 a4 a5 : Bool) : Int32 := ((((cond a0 1 0 ||| cond a1 2 0) ||| cond a2 4 0) ||| cond a3 8 0) ||| cond a4 16 0) ||| cond a5 32 0
def bits6 (f : Nat → Bool) : Int32 := b6 (f 0) (f 1) (f 2) (f 3) (f 4) (f 5)
theorem b6_or : ∀ a0 a1 a2 a3 a4 a5 : Bool, ∀ i, i < 6 → b6 a0 a1 a2 a3 a4 a5 ||| (1 : Int32) <<< (Int32.ofNat i &&& 31) = b6 (a0 || decide (i = 0)) (a1 || decide (i = 1)) (a2 || decide (i = 2)) (a3 || decide (i = 3)) (a4 || decide (i = 4)) (a5 || decide (i = 5)) := by decide +kernel
theorem bits6_or (f : Nat → Bool) {i : Nat} (hi : i < 6) : bits6 f ||| (1 : Int32) <<< (Int32.ofNat i &&& 31) = bits6 (fun j => f j || decide (i = j)) := b6_or _ _ _ _ _ _ i hi
theorem b6_z : ∀ a0 a1 a2 a3 a4 a5 : Bool, b6 a0 a1 a2 a3 a4 a5 = 0 ↔ (a0 = false ∧ a1 = false ∧ a2 = false ∧ a3 = false ∧ a4 = false ∧ a5 = false) := by decide +kernel
theorem bits6_z (f : Nat → Bool) : bits6 f = 0 ↔ ∀ j, j < 6 → f j = false := by
  refine (b6_z _ _ _ _ _ _).trans ⟨fun h j hj => ?_, fun h => ⟨h 0 (by decide), h 1 (by decide), h 2 (by decide), h 3 (by decide), h 4 (by decide), h 5 (by decide)⟩⟩
  have : j = 0 ∨ j = 1 ∨ j = 2 ∨ j = 3 ∨ j = 4 ∨ j = 5 := by omega
  rcases this with rfl | rfl | rfl | rfl | rfl | rfl
  · exact h.1
  · exact h.2.1
  · exact h.2.2.1
  · exact h.2.2.2.1
  · exact h.2.2.2.2.1
  · exact h.2.2.2.2.2
def f_sKind (v : Int32) : Int32 := (1 : Int32) + (v / (48 : Int32))
set_option maxHeartbeats 4000000 in
theorem s_sKind {d : Nat} {Q : KO → Prop} {h : KH} {v : Int32} (hd : 0 ≤ d) (hQ : Q (some (.int (f_sKind v)), h)) : Cl d 135 [.int (v)] h Q := by
  refine Cl.of (ls := [some (.int (v))]) rfl rfl ?_
  refine Wp.seg 3 (pc1 := 4) (ls1 := [some (.int (v))]) (st1 := [.int (48), .int (v), .int (1)]) rfl ?_
  refine Wp.div rfl (by decide) ?_
  refine Wp.seg 1 (pc1 := 6) (ls1 := [some (.int (v))]) (st1 := [.int ((1 : Int32) + (v / (48 : Int32)))]) rfl ?_
  exact Wp.reti rfl rfl (by unfold f_sKind at hQ; exact hQ)
def f_sCell (v : Int32) : Int32 := (v / (4 : Int32)) - (v / (4 : Int32)) / (12 : Int32) * (12 : Int32)
set_option maxHeartbeats 4000000 in
theorem s_sCell {d : Nat} {Q : KO → Prop} {h : KH} {v : Int32} (hd : 0 ≤ d) (hQ : Q (some (.int (f_sCell v)), h)) : Cl d 136 [.int (v)] h Q := by
  refine Cl.of (ls := [some (.int (v))]) rfl rfl ?_
  refine Wp.seg 2 (pc1 := 2) (ls1 := [some (.int (v))]) (st1 := [.int (4), .int (v)]) rfl ?_
  refine Wp.div rfl (by decide) ?_
  refine Wp.seg 1 (pc1 := 5) (ls1 := [some (.int (v))]) (st1 := [.int (12), .int (v / (4 : Int32))]) rfl ?_
  refine Wp.rem rfl (by decide) ?_
  exact Wp.reti rfl rfl (by unfold f_sCell at hQ; exact hQ)
def f_sFac (v : Int32) : Int32 := v - v / (4 : Int32) * (4 : Int32)
set_option maxHeartbeats 4000000 in
theorem s_sFac {d : Nat} {Q : KO → Prop} {h : KH} {v : Int32} (hd : 0 ≤ d) (hQ : Q (some (.int (f_sFac v)), h)) : Cl d 137 [.int (v)] h Q := by
  refine Cl.of (ls := [some (.int (v))]) rfl rfl ?_
  refine Wp.seg 2 (pc1 := 2) (ls1 := [some (.int (v))]) (st1 := [.int (4), .int (v)]) rfl ?_
  refine Wp.rem rfl (by decide) ?_
  exact Wp.reti rfl rfl (by unfold f_sFac at hQ; exact hQ)
theorem sK_ok : ∀ s, s < 240 → f_sKind (Int32.ofNat s) = Int32.ofNat (1 + s / 48) ∧ f_sCell (Int32.ofNat s) = Int32.ofNat (s / 4 % 12) ∧ f_sFac (Int32.ofNat s) = Int32.ofNat (s % 4) := by decide +kernel
theorem s_sK1 {d : Nat} {Q : KO → Prop} {h : KH} {s : Nat} (hs : s < 240) (hQ : Q (some (.int (Int32.ofNat (1 + s / 48))), h)) : Cl d 135 [.int (Int32.ofNat s)] h Q := s_sKind (Nat.zero_le _) (by rw [(sK_ok s hs).1]; exact hQ)
theorem s_sK2 {d : Nat} {Q : KO → Prop} {h : KH} {s : Nat} (hs : s < 240) (hQ : Q (some (.int (Int32.ofNat (s / 4 % 12))), h)) : Cl d 136 [.int (Int32.ofNat s)] h Q := s_sCell (Nat.zero_le _) (by rw [(sK_ok s hs).2.1]; exact hQ)
theorem s_sK3 {d : Nat} {Q : KO → Prop} {h : KH} {s : Nat} (hs : s < 240) (hQ : Q (some (.int (Int32.ofNat (s % 4))), h)) : Cl d 137 [.int (Int32.ofNat s)] h Q := s_sFac (Nat.zero_le _) (by rw [(sK_ok s hs).2.2]; exact hQ)
set_option maxHeartbeats 4000000 in
theorem t_cwrg {d : Nat} {Q : KO → Prop} {h : KH} (hw : WF h) {s : Nat} (hs : s < 240) (hd : 1 ≤ d) (hQ : Wp d 138 25 ([some (.ref 0), some (.int (Int32.ofNat s)), some (.int (f_cTurns (Int32.ofNat (1 + s / 48)))), some (.int (Int32.ofNat (s / 4 % 12))), some (.int (Int32.ofNat (s % 4))), some (.int (0)), some (.int (0)), none]) [] h Q) : Cl d 138 [.ref 0, .int (Int32.ofNat s)] h Q := by
  refine Cl.of (ls := [some (.ref 0), some (.int (Int32.ofNat s)), none, none, none, none, none, none]) rfl rfl ?_
  refine Wp.seg 1 (pc1 := 1) (ls1 := [some (.ref 0), some (.int (Int32.ofNat s)), none, none, none, none, none, none]) (st1 := [.int (Int32.ofNat s)]) rfl ?_
  refine Wp.inv (d2 := 0) (as := [.int (Int32.ofNat s)]) (r := []) rfl rfl rfl rfl rfl rfl (by omega) (s_sK1 hs ?_)
  show Wp d 138 4 [some (.ref 0), some (.int (Int32.ofNat s)), none, none, none, none, none, none] [.int (Int32.ofNat (1 + s / 48))] h Q
  refine Wp.inv (d2 := 0) (as := [.int (Int32.ofNat (1 + s / 48))]) (r := []) rfl rfl rfl rfl rfl rfl (by omega) (s_cTurns (Nat.zero_le _) ?_)
  show Wp d 138 7 [some (.ref 0), some (.int (Int32.ofNat s)), none, none, none, none, none, none] [.int (f_cTurns (Int32.ofNat (1 + s / 48)))] h Q
  refine Wp.seg 2 (pc1 := 9) (ls1 := [some (.ref 0), some (.int (Int32.ofNat s)), some (.int (f_cTurns (Int32.ofNat (1 + s / 48)))), none, none, none, none, none]) (st1 := [.int (Int32.ofNat s)]) rfl ?_
  refine Wp.inv (d2 := 0) (as := [.int (Int32.ofNat s)]) (r := []) rfl rfl rfl rfl rfl rfl (by omega) (s_sK2 hs ?_)
  show Wp d 138 12 [some (.ref 0), some (.int (Int32.ofNat s)), some (.int (f_cTurns (Int32.ofNat (1 + s / 48)))), none, none, none, none, none] [.int (Int32.ofNat (s / 4 % 12))] h Q
  refine Wp.seg 2 (pc1 := 14) (ls1 := [some (.ref 0), some (.int (Int32.ofNat s)), some (.int (f_cTurns (Int32.ofNat (1 + s / 48)))), some (.int (Int32.ofNat (s / 4 % 12))), none, none, none, none]) (st1 := [.int (Int32.ofNat s)]) rfl ?_
  refine Wp.inv (d2 := 0) (as := [.int (Int32.ofNat s)]) (r := []) rfl rfl rfl rfl rfl rfl (by omega) (s_sK3 hs ?_)
  show Wp d 138 17 [some (.ref 0), some (.int (Int32.ofNat s)), some (.int (f_cTurns (Int32.ofNat (1 + s / 48)))), some (.int (Int32.ofNat (s / 4 % 12))), none, none, none, none] [.int (Int32.ofNat (s % 4))] h Q
  refine Wp.seg 5 (pc1 := 25) (ls1 := [some (.ref 0), some (.int (Int32.ofNat s)), some (.int (f_cTurns (Int32.ofNat (1 + s / 48)))), some (.int (Int32.ofNat (s / 4 % 12))), some (.int (Int32.ofNat (s % 4))), some (.int (0)), some (.int (0)), none]) (st1 := []) rfl ?_
  exact hQ
set_option maxHeartbeats 4000000 in
theorem t_cwg1a {d : Nat} {Q : KO → Prop} {h : KH} (hw : WF h) {s T x : Int32} {c f t : Nat} {z : Option Value} {o : Nat} (hv : h.2.1 1 11 = none) (hd : 1 ≤ d) (hQ : ((16 : Int32) ≤ (Int32.ofNat t) → Q (some (.int (x)), h)) ∧ (¬ ((16 : Int32) ≤ (Int32.ofNat t)) → Wp d 138 41 ([some (.ref 0), some (.int (s)), some (.int (T)), some (.int (Int32.ofNat c)), some (.int (Int32.ofNat f)), some (.int (x)), some (.int (Int32.ofNat t)), some (.null)]) [] h Q)) : Wp d 138 25 [some (.ref 0), some (.int (s)), some (.int (T)), some (.int (Int32.ofNat c)), some (.int (Int32.ofNat f)), some (.int (x)), some (.int (Int32.ofNat t)), z] [] h Q := by
  refine Wp.seg 2 (pc1 := 29) (ls1 := [some (.ref 0), some (.int (s)), some (.int (T)), some (.int (Int32.ofNat c)), some (.int (Int32.ofNat f)), some (.int (x)), some (.int (Int32.ofNat t)), z]) (st1 := [.int (16), .int (Int32.ofNat t)]) rfl ?_
  refine Wp.if2 rfl (fun (c1 : (16 : Int32) ≤ (Int32.ofNat t)) => ?_) (fun (c1 : ¬ ((16 : Int32) ≤ (Int32.ofNat t))) => ?_)
  · refine Wp.seg 1 (pc1 := 131) (ls1 := [some (.ref 0), some (.int (s)), some (.int (T)), some (.int (Int32.ofNat c)), some (.int (Int32.ofNat f)), some (.int (x)), some (.int (Int32.ofNat t)), z]) (st1 := [.int (x)]) rfl ?_
    exact Wp.reti rfl rfl (hQ.1 c1)
  · refine Wp.seg 1 (pc1 := 33) (ls1 := [some (.ref 0), some (.int (s)), some (.int (T)), some (.int (Int32.ofNat c)), some (.int (Int32.ofNat f)), some (.int (x)), some (.int (Int32.ofNat t)), z]) (st1 := [.ref 0]) rfl ?_
    refine Wp.gr (t := (10, 0)) (v := some (1)) rfl (WF.t hw 0 rfl) rfl (WF.r hw 0 0 0 rfl) ?_
    show Wp d 138 36 [some (.ref 0), some (.int (s)), some (.int (T)), some (.int (Int32.ofNat c)), some (.int (Int32.ofNat f)), some (.int (x)), some (.int (Int32.ofNat t)), z] [.ref 1] h Q
    refine Wp.gr (t := (1, 0)) (v := none) rfl (WF.t hw 1 rfl) rfl hv ?_
    show Wp d 138 39 [some (.ref 0), some (.int (s)), some (.int (T)), some (.int (Int32.ofNat c)), some (.int (Int32.ofNat f)), some (.int (x)), some (.int (Int32.ofNat t)), z] [.null] h Q
    refine Wp.seg 1 (pc1 := 41) (ls1 := [some (.ref 0), some (.int (s)), some (.int (T)), some (.int (Int32.ofNat c)), some (.int (Int32.ofNat f)), some (.int (x)), some (.int (Int32.ofNat t)), some (.null)]) (st1 := []) rfl ?_
    exact (hQ.2 c1)
set_option maxHeartbeats 4000000 in
theorem t_cwg1b {d : Nat} {Q : KO → Prop} {h : KH} (hw : WF h) {s T x : Int32} {c f t : Nat} {z : Option Value} {o : Nat} (hv : h.2.1 1 11 = some o) (hd : 1 ≤ d) (hQ : ((16 : Int32) ≤ (Int32.ofNat t) → Q (some (.int (x)), h)) ∧ (¬ ((16 : Int32) ≤ (Int32.ofNat t)) → Wp d 138 41 ([some (.ref 0), some (.int (s)), some (.int (T)), some (.int (Int32.ofNat c)), some (.int (Int32.ofNat f)), some (.int (x)), some (.int (Int32.ofNat t)), some (.ref o)]) [] h Q)) : Wp d 138 25 [some (.ref 0), some (.int (s)), some (.int (T)), some (.int (Int32.ofNat c)), some (.int (Int32.ofNat f)), some (.int (x)), some (.int (Int32.ofNat t)), z] [] h Q := by
  refine Wp.seg 2 (pc1 := 29) (ls1 := [some (.ref 0), some (.int (s)), some (.int (T)), some (.int (Int32.ofNat c)), some (.int (Int32.ofNat f)), some (.int (x)), some (.int (Int32.ofNat t)), z]) (st1 := [.int (16), .int (Int32.ofNat t)]) rfl ?_
  refine Wp.if2 rfl (fun (c1 : (16 : Int32) ≤ (Int32.ofNat t)) => ?_) (fun (c1 : ¬ ((16 : Int32) ≤ (Int32.ofNat t))) => ?_)
  · refine Wp.seg 1 (pc1 := 131) (ls1 := [some (.ref 0), some (.int (s)), some (.int (T)), some (.int (Int32.ofNat c)), some (.int (Int32.ofNat f)), some (.int (x)), some (.int (Int32.ofNat t)), z]) (st1 := [.int (x)]) rfl ?_
    exact Wp.reti rfl rfl (hQ.1 c1)
  · refine Wp.seg 1 (pc1 := 33) (ls1 := [some (.ref 0), some (.int (s)), some (.int (T)), some (.int (Int32.ofNat c)), some (.int (Int32.ofNat f)), some (.int (x)), some (.int (Int32.ofNat t)), z]) (st1 := [.ref 0]) rfl ?_
    refine Wp.gr (t := (10, 0)) (v := some (1)) rfl (WF.t hw 0 rfl) rfl (WF.r hw 0 0 0 rfl) ?_
    show Wp d 138 36 [some (.ref 0), some (.int (s)), some (.int (T)), some (.int (Int32.ofNat c)), some (.int (Int32.ofNat f)), some (.int (x)), some (.int (Int32.ofNat t)), z] [.ref 1] h Q
    refine Wp.gr (t := (1, 0)) (v := some (o)) rfl (WF.t hw 1 rfl) rfl hv ?_
    show Wp d 138 39 [some (.ref 0), some (.int (s)), some (.int (T)), some (.int (Int32.ofNat c)), some (.int (Int32.ofNat f)), some (.int (x)), some (.int (Int32.ofNat t)), z] [.ref o] h Q
    refine Wp.seg 1 (pc1 := 41) (ls1 := [some (.ref 0), some (.int (s)), some (.int (T)), some (.int (Int32.ofNat c)), some (.int (Int32.ofNat f)), some (.int (x)), some (.int (Int32.ofNat t)), some (.ref o)]) (st1 := []) rfl ?_
    exact (hQ.2 c1)
theorem t_cwg1 {d : Nat} {Q : KO → Prop} {h : KH} (hw : WF h) {s T x : Int32} {c f t : Nat} {z : Option Value} {v : Option Nat} (hv : h.2.1 1 11 = v) (hd : 1 ≤ d) (h1 : (16 : Int32) ≤ (Int32.ofNat t) → Q (some (.int (x)), h)) (h2 : ¬ ((16 : Int32) ≤ (Int32.ofNat t)) → Wp d 138 41 ([some (.ref 0), some (.int (s)), some (.int (T)), some (.int (Int32.ofNat c)), some (.int (Int32.ofNat f)), some (.int (x)), some (.int (Int32.ofNat t)), some (krv v)]) [] h Q) : Wp d 138 25 [some (.ref 0), some (.int (s)), some (.int (T)), some (.int (Int32.ofNat c)), some (.int (Int32.ofNat f)), some (.int (x)), some (.int (Int32.ofNat t)), z] [] h Q := by
  cases v with
  | none => exact t_cwg1a (o := 0) hw hv hd ⟨h1, h2⟩
  | some o => exact t_cwg1b hw hv hd ⟨h1, h2⟩
set_option maxHeartbeats 4000000 in
theorem t_cwg2 {d : Nat} {Q : KO → Prop} {h : KH} (hw : WF h) {s T x : Int32} {c f t : Nat} (hd : 1 ≤ d) (hQ : (0 ≤ (f_cBeside (Int32.ofNat c) (Int32.ofNat f)) → Wp d 138 25 ([some (.ref 0), some (.int (s)), some (.int (T)), some (.int (f_cBeside (Int32.ofNat c) (Int32.ofNat f))), some (.int (Int32.ofNat f)), some (.int (x)), some (.int ((Int32.ofNat t) + 1)), some (.int (f_cBeside (Int32.ofNat c) (Int32.ofNat f)))]) [] h Q) ∧ (¬ (0 ≤ (f_cBeside (Int32.ofNat c) (Int32.ofNat f))) → Wp d 138 25 ([some (.ref 0), some (.int (s)), some (.int (T)), some (.int (Int32.ofNat c)), some (.int (f_cTurned (Int32.ofNat f) T)), some (.int (x)), some (.int ((Int32.ofNat t) + 1)), some (.int (f_cBeside (Int32.ofNat c) (Int32.ofNat f)))]) [] h Q)) : Wp d 138 41 [some (.ref 0), some (.int (s)), some (.int (T)), some (.int (Int32.ofNat c)), some (.int (Int32.ofNat f)), some (.int (x)), some (.int (Int32.ofNat t)), some (.null)] [] h Q := by
  refine Wp.seg 1 (pc1 := 43) (ls1 := [some (.ref 0), some (.int (s)), some (.int (T)), some (.int (Int32.ofNat c)), some (.int (Int32.ofNat f)), some (.int (x)), some (.int (Int32.ofNat t)), some (.null)]) (st1 := [.null]) rfl ?_
  refine Wp.br rfl rfl ?_
  show Wp d 138 96 [some (.ref 0), some (.int (s)), some (.int (T)), some (.int (Int32.ofNat c)), some (.int (Int32.ofNat f)), some (.int (x)), some (.int (Int32.ofNat t)), some (.null)] [] h Q
  refine Wp.seg 2 (pc1 := 99) (ls1 := [some (.ref 0), some (.int (s)), some (.int (T)), some (.int (Int32.ofNat c)), some (.int (Int32.ofNat f)), some (.int (x)), some (.int (Int32.ofNat t)), some (.null)]) (st1 := [.int (Int32.ofNat f), .int (Int32.ofNat c)]) rfl ?_
  refine Wp.inv (d2 := 0) (as := [.int (Int32.ofNat c), .int (Int32.ofNat f)]) (r := []) rfl rfl rfl rfl rfl rfl (by omega) (s_cBeside (Nat.zero_le _) ?_)
  show Wp d 138 102 [some (.ref 0), some (.int (s)), some (.int (T)), some (.int (Int32.ofNat c)), some (.int (Int32.ofNat f)), some (.int (x)), some (.int (Int32.ofNat t)), some (.null)] [.int (f_cBeside (Int32.ofNat c) (Int32.ofNat f))] h Q
  refine Wp.seg 2 (pc1 := 106) (ls1 := [some (.ref 0), some (.int (s)), some (.int (T)), some (.int (Int32.ofNat c)), some (.int (Int32.ofNat f)), some (.int (x)), some (.int (Int32.ofNat t)), some (.int (f_cBeside (Int32.ofNat c) (Int32.ofNat f)))]) (st1 := [.int (f_cBeside (Int32.ofNat c) (Int32.ofNat f))]) rfl ?_
  refine Wp.if1 rfl (fun (c1 : 0 ≤ (f_cBeside (Int32.ofNat c) (Int32.ofNat f))) => ?_) (fun (c1 : ¬ (0 ≤ (f_cBeside (Int32.ofNat c) (Int32.ofNat f)))) => ?_)
  · refine Wp.seg 4 (pc1 := 25) (ls1 := [some (.ref 0), some (.int (s)), some (.int (T)), some (.int (f_cBeside (Int32.ofNat c) (Int32.ofNat f))), some (.int (Int32.ofNat f)), some (.int (x)), some (.int ((Int32.ofNat t) + 1)), some (.int (f_cBeside (Int32.ofNat c) (Int32.ofNat f)))]) (st1 := []) rfl ?_
    exact (hQ.1 c1)
  · refine Wp.seg 2 (pc1 := 112) (ls1 := [some (.ref 0), some (.int (s)), some (.int (T)), some (.int (Int32.ofNat c)), some (.int (Int32.ofNat f)), some (.int (x)), some (.int (Int32.ofNat t)), some (.int (f_cBeside (Int32.ofNat c) (Int32.ofNat f)))]) (st1 := [.int (T), .int (Int32.ofNat f)]) rfl ?_
    refine Wp.inv (d2 := 0) (as := [.int (Int32.ofNat f), .int (T)]) (r := []) rfl rfl rfl rfl rfl rfl (by omega) (s_cTurned (Nat.zero_le _) ?_)
    show Wp d 138 115 [some (.ref 0), some (.int (s)), some (.int (T)), some (.int (Int32.ofNat c)), some (.int (Int32.ofNat f)), some (.int (x)), some (.int (Int32.ofNat t)), some (.int (f_cBeside (Int32.ofNat c) (Int32.ofNat f)))] [.int (f_cTurned (Int32.ofNat f) T)] h Q
    refine Wp.seg 4 (pc1 := 25) (ls1 := [some (.ref 0), some (.int (s)), some (.int (T)), some (.int (Int32.ofNat c)), some (.int (f_cTurned (Int32.ofNat f) T)), some (.int (x)), some (.int ((Int32.ofNat t) + 1)), some (.int (f_cBeside (Int32.ofNat c) (Int32.ofNat f)))]) (st1 := []) rfl ?_
    exact (hQ.2 c1)
set_option maxHeartbeats 4000000 in
theorem t_cwg3a {d : Nat} {Q : KO → Prop} {h : KH} (hw : WF h) {s T x : Int32} {c f t o g k l m p : Nat} (ho : h.1 o = (7, 0)) (hv : h.2.1 o 4 = none) (x0 : h.2.2.1 o 0 = Int32.ofNat g) (x1 : h.2.2.1 o 1 = Int32.ofNat k) (x2 : h.2.2.1 o 2 = Int32.ofNat l) (x3 : h.2.2.1 o 3 = Int32.ofNat m) (hd : 1 ≤ d) (hQ : (¬ (Int32.ofNat k) = (Int32.ofNat t) → Wp d 138 41 ([some (.ref 0), some (.int (s)), some (.int (T)), some (.int (Int32.ofNat c)), some (.int (Int32.ofNat f)), some (.int (x)), some (.int (Int32.ofNat t)), some (.null)]) [] h Q) ∧ (¬ (¬ (Int32.ofNat k) = (Int32.ofNat t)) → ((Int32.ofNat c) < (Int32.ofNat l) → Wp d 138 41 ([some (.ref 0), some (.int (s)), some (.int (T)), some (.int (Int32.ofNat c)), some (.int (Int32.ofNat f)), some (.int (x ||| ((1 : Int32) <<< ((Int32.ofNat g) &&& 31)))), some (.int (Int32.ofNat t)), some (.null)]) [] h Q) ∧ (¬ ((Int32.ofNat c) < (Int32.ofNat l)) → ((Int32.ofNat c) ≤ (Int32.ofNat m) → Wp d 138 41 ([some (.ref 0), some (.int (s)), some (.int (T)), some (.int (Int32.ofNat c)), some (.int (Int32.ofNat f)), some (.int (x)), some (.int (Int32.ofNat t)), some (.null)]) [] h Q) ∧ (¬ ((Int32.ofNat c) ≤ (Int32.ofNat m)) → Wp d 138 41 ([some (.ref 0), some (.int (s)), some (.int (T)), some (.int (Int32.ofNat c)), some (.int (Int32.ofNat f)), some (.int (x ||| ((1 : Int32) <<< ((Int32.ofNat g) &&& 31)))), some (.int (Int32.ofNat t)), some (.null)]) [] h Q)))) : Wp d 138 41 [some (.ref 0), some (.int (s)), some (.int (T)), some (.int (Int32.ofNat c)), some (.int (Int32.ofNat f)), some (.int (x)), some (.int (Int32.ofNat t)), some (.ref o)] [] h Q := by
  refine Wp.seg 1 (pc1 := 43) (ls1 := [some (.ref 0), some (.int (s)), some (.int (T)), some (.int (Int32.ofNat c)), some (.int (Int32.ofNat f)), some (.int (x)), some (.int (Int32.ofNat t)), some (.ref o)]) (st1 := [.ref o]) rfl ?_
  refine Wp.br rfl rfl ?_
  show Wp d 138 46 [some (.ref 0), some (.int (s)), some (.int (T)), some (.int (Int32.ofNat c)), some (.int (Int32.ofNat f)), some (.int (x)), some (.int (Int32.ofNat t)), some (.ref o)] [] h Q
  refine Wp.seg 1 (pc1 := 48) (ls1 := [some (.ref 0), some (.int (s)), some (.int (T)), some (.int (Int32.ofNat c)), some (.int (Int32.ofNat f)), some (.int (x)), some (.int (Int32.ofNat t)), some (.ref o)]) (st1 := [.ref o]) rfl ?_
  refine Wp.gi (t := (7, 0)) rfl ho (Or.inl rfl) ?_
  rw [show h.2.2.1 o 1 = Int32.ofNat k from x1]
  refine Wp.seg 1 (pc1 := 53) (ls1 := [some (.ref 0), some (.int (s)), some (.int (T)), some (.int (Int32.ofNat c)), some (.int (Int32.ofNat f)), some (.int (x)), some (.int (Int32.ofNat t)), some (.ref o)]) (st1 := [.int (Int32.ofNat t), .int (Int32.ofNat k)]) rfl ?_
  refine Wp.if2 rfl (fun (c1 : ¬ (Int32.ofNat k) = (Int32.ofNat t)) => ?_) (fun (c1 : ¬ (¬ (Int32.ofNat k) = (Int32.ofNat t))) => ?_)
  · refine Wp.seg 1 (pc1 := 88) (ls1 := [some (.ref 0), some (.int (s)), some (.int (T)), some (.int (Int32.ofNat c)), some (.int (Int32.ofNat f)), some (.int (x)), some (.int (Int32.ofNat t)), some (.ref o)]) (st1 := [.ref o]) rfl ?_
    refine Wp.gr (t := (7, 0)) (v := none) rfl ho rfl hv ?_
    show Wp d 138 91 [some (.ref 0), some (.int (s)), some (.int (T)), some (.int (Int32.ofNat c)), some (.int (Int32.ofNat f)), some (.int (x)), some (.int (Int32.ofNat t)), some (.ref o)] [.null] h Q
    refine Wp.seg 2 (pc1 := 41) (ls1 := [some (.ref 0), some (.int (s)), some (.int (T)), some (.int (Int32.ofNat c)), some (.int (Int32.ofNat f)), some (.int (x)), some (.int (Int32.ofNat t)), some (.null)]) (st1 := []) rfl ?_
    exact (hQ.1 c1)
  · refine Wp.seg 2 (pc1 := 59) (ls1 := [some (.ref 0), some (.int (s)), some (.int (T)), some (.int (Int32.ofNat c)), some (.int (Int32.ofNat f)), some (.int (x)), some (.int (Int32.ofNat t)), some (.ref o)]) (st1 := [.ref o, .int (Int32.ofNat c)]) rfl ?_
    refine Wp.gi (t := (7, 0)) rfl ho (Or.inl rfl) ?_
    rw [show h.2.2.1 o 2 = Int32.ofNat l from x2]
    refine Wp.if2 rfl (fun (c2 : (Int32.ofNat c) < (Int32.ofNat l)) => ?_) (fun (c2 : ¬ ((Int32.ofNat c) < (Int32.ofNat l))) => ?_)
    · refine Wp.seg 3 (pc1 := 79) (ls1 := [some (.ref 0), some (.int (s)), some (.int (T)), some (.int (Int32.ofNat c)), some (.int (Int32.ofNat f)), some (.int (x)), some (.int (Int32.ofNat t)), some (.ref o)]) (st1 := [.ref o, .int (1), .int (x)]) rfl ?_
      refine Wp.gi (t := (7, 0)) rfl ho (Or.inl rfl) ?_
      rw [show h.2.2.1 o 0 = Int32.ofNat g from x0]
      refine Wp.seg 4 (pc1 := 88) (ls1 := [some (.ref 0), some (.int (s)), some (.int (T)), some (.int (Int32.ofNat c)), some (.int (Int32.ofNat f)), some (.int (x ||| ((1 : Int32) <<< ((Int32.ofNat g) &&& 31)))), some (.int (Int32.ofNat t)), some (.ref o)]) (st1 := [.ref o]) rfl ?_
      refine Wp.gr (t := (7, 0)) (v := none) rfl ho rfl hv ?_
      show Wp d 138 91 [some (.ref 0), some (.int (s)), some (.int (T)), some (.int (Int32.ofNat c)), some (.int (Int32.ofNat f)), some (.int (x ||| ((1 : Int32) <<< ((Int32.ofNat g) &&& 31)))), some (.int (Int32.ofNat t)), some (.ref o)] [.null] h Q
      refine Wp.seg 2 (pc1 := 41) (ls1 := [some (.ref 0), some (.int (s)), some (.int (T)), some (.int (Int32.ofNat c)), some (.int (Int32.ofNat f)), some (.int (x ||| ((1 : Int32) <<< ((Int32.ofNat g) &&& 31)))), some (.int (Int32.ofNat t)), some (.null)]) (st1 := []) rfl ?_
      exact ((hQ.2 c1).1 c2)
    · refine Wp.seg 2 (pc1 := 68) (ls1 := [some (.ref 0), some (.int (s)), some (.int (T)), some (.int (Int32.ofNat c)), some (.int (Int32.ofNat f)), some (.int (x)), some (.int (Int32.ofNat t)), some (.ref o)]) (st1 := [.ref o, .int (Int32.ofNat c)]) rfl ?_
      refine Wp.gi (t := (7, 0)) rfl ho (Or.inl rfl) ?_
      rw [show h.2.2.1 o 3 = Int32.ofNat m from x3]
      refine Wp.if2 rfl (fun (c3 : (Int32.ofNat c) ≤ (Int32.ofNat m)) => ?_) (fun (c3 : ¬ ((Int32.ofNat c) ≤ (Int32.ofNat m))) => ?_)
      · refine Wp.seg 1 (pc1 := 88) (ls1 := [some (.ref 0), some (.int (s)), some (.int (T)), some (.int (Int32.ofNat c)), some (.int (Int32.ofNat f)), some (.int (x)), some (.int (Int32.ofNat t)), some (.ref o)]) (st1 := [.ref o]) rfl ?_
        refine Wp.gr (t := (7, 0)) (v := none) rfl ho rfl hv ?_
        show Wp d 138 91 [some (.ref 0), some (.int (s)), some (.int (T)), some (.int (Int32.ofNat c)), some (.int (Int32.ofNat f)), some (.int (x)), some (.int (Int32.ofNat t)), some (.ref o)] [.null] h Q
        refine Wp.seg 2 (pc1 := 41) (ls1 := [some (.ref 0), some (.int (s)), some (.int (T)), some (.int (Int32.ofNat c)), some (.int (Int32.ofNat f)), some (.int (x)), some (.int (Int32.ofNat t)), some (.null)]) (st1 := []) rfl ?_
        exact (((hQ.2 c1).2 c2).1 c3)
      · refine Wp.seg 3 (pc1 := 79) (ls1 := [some (.ref 0), some (.int (s)), some (.int (T)), some (.int (Int32.ofNat c)), some (.int (Int32.ofNat f)), some (.int (x)), some (.int (Int32.ofNat t)), some (.ref o)]) (st1 := [.ref o, .int (1), .int (x)]) rfl ?_
        refine Wp.gi (t := (7, 0)) rfl ho (Or.inl rfl) ?_
        rw [show h.2.2.1 o 0 = Int32.ofNat g from x0]
        refine Wp.seg 4 (pc1 := 88) (ls1 := [some (.ref 0), some (.int (s)), some (.int (T)), some (.int (Int32.ofNat c)), some (.int (Int32.ofNat f)), some (.int (x ||| ((1 : Int32) <<< ((Int32.ofNat g) &&& 31)))), some (.int (Int32.ofNat t)), some (.ref o)]) (st1 := [.ref o]) rfl ?_
        refine Wp.gr (t := (7, 0)) (v := none) rfl ho rfl hv ?_
        show Wp d 138 91 [some (.ref 0), some (.int (s)), some (.int (T)), some (.int (Int32.ofNat c)), some (.int (Int32.ofNat f)), some (.int (x ||| ((1 : Int32) <<< ((Int32.ofNat g) &&& 31)))), some (.int (Int32.ofNat t)), some (.ref o)] [.null] h Q
        refine Wp.seg 2 (pc1 := 41) (ls1 := [some (.ref 0), some (.int (s)), some (.int (T)), some (.int (Int32.ofNat c)), some (.int (Int32.ofNat f)), some (.int (x ||| ((1 : Int32) <<< ((Int32.ofNat g) &&& 31)))), some (.int (Int32.ofNat t)), some (.null)]) (st1 := []) rfl ?_
        exact (((hQ.2 c1).2 c2).2 c3)
set_option maxHeartbeats 4000000 in
theorem t_cwg3b {d : Nat} {Q : KO → Prop} {h : KH} (hw : WF h) {s T x : Int32} {c f t o g k l m p : Nat} (ho : h.1 o = (7, 0)) (hv : h.2.1 o 4 = some p) (x0 : h.2.2.1 o 0 = Int32.ofNat g) (x1 : h.2.2.1 o 1 = Int32.ofNat k) (x2 : h.2.2.1 o 2 = Int32.ofNat l) (x3 : h.2.2.1 o 3 = Int32.ofNat m) (hd : 1 ≤ d) (hQ : (¬ (Int32.ofNat k) = (Int32.ofNat t) → Wp d 138 41 ([some (.ref 0), some (.int (s)), some (.int (T)), some (.int (Int32.ofNat c)), some (.int (Int32.ofNat f)), some (.int (x)), some (.int (Int32.ofNat t)), some (.ref p)]) [] h Q) ∧ (¬ (¬ (Int32.ofNat k) = (Int32.ofNat t)) → ((Int32.ofNat c) < (Int32.ofNat l) → Wp d 138 41 ([some (.ref 0), some (.int (s)), some (.int (T)), some (.int (Int32.ofNat c)), some (.int (Int32.ofNat f)), some (.int (x ||| ((1 : Int32) <<< ((Int32.ofNat g) &&& 31)))), some (.int (Int32.ofNat t)), some (.ref p)]) [] h Q) ∧ (¬ ((Int32.ofNat c) < (Int32.ofNat l)) → ((Int32.ofNat c) ≤ (Int32.ofNat m) → Wp d 138 41 ([some (.ref 0), some (.int (s)), some (.int (T)), some (.int (Int32.ofNat c)), some (.int (Int32.ofNat f)), some (.int (x)), some (.int (Int32.ofNat t)), some (.ref p)]) [] h Q) ∧ (¬ ((Int32.ofNat c) ≤ (Int32.ofNat m)) → Wp d 138 41 ([some (.ref 0), some (.int (s)), some (.int (T)), some (.int (Int32.ofNat c)), some (.int (Int32.ofNat f)), some (.int (x ||| ((1 : Int32) <<< ((Int32.ofNat g) &&& 31)))), some (.int (Int32.ofNat t)), some (.ref p)]) [] h Q)))) : Wp d 138 41 [some (.ref 0), some (.int (s)), some (.int (T)), some (.int (Int32.ofNat c)), some (.int (Int32.ofNat f)), some (.int (x)), some (.int (Int32.ofNat t)), some (.ref o)] [] h Q := by
  refine Wp.seg 1 (pc1 := 43) (ls1 := [some (.ref 0), some (.int (s)), some (.int (T)), some (.int (Int32.ofNat c)), some (.int (Int32.ofNat f)), some (.int (x)), some (.int (Int32.ofNat t)), some (.ref o)]) (st1 := [.ref o]) rfl ?_
  refine Wp.br rfl rfl ?_
  show Wp d 138 46 [some (.ref 0), some (.int (s)), some (.int (T)), some (.int (Int32.ofNat c)), some (.int (Int32.ofNat f)), some (.int (x)), some (.int (Int32.ofNat t)), some (.ref o)] [] h Q
  refine Wp.seg 1 (pc1 := 48) (ls1 := [some (.ref 0), some (.int (s)), some (.int (T)), some (.int (Int32.ofNat c)), some (.int (Int32.ofNat f)), some (.int (x)), some (.int (Int32.ofNat t)), some (.ref o)]) (st1 := [.ref o]) rfl ?_
  refine Wp.gi (t := (7, 0)) rfl ho (Or.inl rfl) ?_
  rw [show h.2.2.1 o 1 = Int32.ofNat k from x1]
  refine Wp.seg 1 (pc1 := 53) (ls1 := [some (.ref 0), some (.int (s)), some (.int (T)), some (.int (Int32.ofNat c)), some (.int (Int32.ofNat f)), some (.int (x)), some (.int (Int32.ofNat t)), some (.ref o)]) (st1 := [.int (Int32.ofNat t), .int (Int32.ofNat k)]) rfl ?_
  refine Wp.if2 rfl (fun (c1 : ¬ (Int32.ofNat k) = (Int32.ofNat t)) => ?_) (fun (c1 : ¬ (¬ (Int32.ofNat k) = (Int32.ofNat t))) => ?_)
  · refine Wp.seg 1 (pc1 := 88) (ls1 := [some (.ref 0), some (.int (s)), some (.int (T)), some (.int (Int32.ofNat c)), some (.int (Int32.ofNat f)), some (.int (x)), some (.int (Int32.ofNat t)), some (.ref o)]) (st1 := [.ref o]) rfl ?_
    refine Wp.gr (t := (7, 0)) (v := some (p)) rfl ho rfl hv ?_
    show Wp d 138 91 [some (.ref 0), some (.int (s)), some (.int (T)), some (.int (Int32.ofNat c)), some (.int (Int32.ofNat f)), some (.int (x)), some (.int (Int32.ofNat t)), some (.ref o)] [.ref p] h Q
    refine Wp.seg 2 (pc1 := 41) (ls1 := [some (.ref 0), some (.int (s)), some (.int (T)), some (.int (Int32.ofNat c)), some (.int (Int32.ofNat f)), some (.int (x)), some (.int (Int32.ofNat t)), some (.ref p)]) (st1 := []) rfl ?_
    exact (hQ.1 c1)
  · refine Wp.seg 2 (pc1 := 59) (ls1 := [some (.ref 0), some (.int (s)), some (.int (T)), some (.int (Int32.ofNat c)), some (.int (Int32.ofNat f)), some (.int (x)), some (.int (Int32.ofNat t)), some (.ref o)]) (st1 := [.ref o, .int (Int32.ofNat c)]) rfl ?_
    refine Wp.gi (t := (7, 0)) rfl ho (Or.inl rfl) ?_
    rw [show h.2.2.1 o 2 = Int32.ofNat l from x2]
    refine Wp.if2 rfl (fun (c2 : (Int32.ofNat c) < (Int32.ofNat l)) => ?_) (fun (c2 : ¬ ((Int32.ofNat c) < (Int32.ofNat l))) => ?_)
    · refine Wp.seg 3 (pc1 := 79) (ls1 := [some (.ref 0), some (.int (s)), some (.int (T)), some (.int (Int32.ofNat c)), some (.int (Int32.ofNat f)), some (.int (x)), some (.int (Int32.ofNat t)), some (.ref o)]) (st1 := [.ref o, .int (1), .int (x)]) rfl ?_
      refine Wp.gi (t := (7, 0)) rfl ho (Or.inl rfl) ?_
      rw [show h.2.2.1 o 0 = Int32.ofNat g from x0]
      refine Wp.seg 4 (pc1 := 88) (ls1 := [some (.ref 0), some (.int (s)), some (.int (T)), some (.int (Int32.ofNat c)), some (.int (Int32.ofNat f)), some (.int (x ||| ((1 : Int32) <<< ((Int32.ofNat g) &&& 31)))), some (.int (Int32.ofNat t)), some (.ref o)]) (st1 := [.ref o]) rfl ?_
      refine Wp.gr (t := (7, 0)) (v := some (p)) rfl ho rfl hv ?_
      show Wp d 138 91 [some (.ref 0), some (.int (s)), some (.int (T)), some (.int (Int32.ofNat c)), some (.int (Int32.ofNat f)), some (.int (x ||| ((1 : Int32) <<< ((Int32.ofNat g) &&& 31)))), some (.int (Int32.ofNat t)), some (.ref o)] [.ref p] h Q
      refine Wp.seg 2 (pc1 := 41) (ls1 := [some (.ref 0), some (.int (s)), some (.int (T)), some (.int (Int32.ofNat c)), some (.int (Int32.ofNat f)), some (.int (x ||| ((1 : Int32) <<< ((Int32.ofNat g) &&& 31)))), some (.int (Int32.ofNat t)), some (.ref p)]) (st1 := []) rfl ?_
      exact ((hQ.2 c1).1 c2)
    · refine Wp.seg 2 (pc1 := 68) (ls1 := [some (.ref 0), some (.int (s)), some (.int (T)), some (.int (Int32.ofNat c)), some (.int (Int32.ofNat f)), some (.int (x)), some (.int (Int32.ofNat t)), some (.ref o)]) (st1 := [.ref o, .int (Int32.ofNat c)]) rfl ?_
      refine Wp.gi (t := (7, 0)) rfl ho (Or.inl rfl) ?_
      rw [show h.2.2.1 o 3 = Int32.ofNat m from x3]
      refine Wp.if2 rfl (fun (c3 : (Int32.ofNat c) ≤ (Int32.ofNat m)) => ?_) (fun (c3 : ¬ ((Int32.ofNat c) ≤ (Int32.ofNat m))) => ?_)
      · refine Wp.seg 1 (pc1 := 88) (ls1 := [some (.ref 0), some (.int (s)), some (.int (T)), some (.int (Int32.ofNat c)), some (.int (Int32.ofNat f)), some (.int (x)), some (.int (Int32.ofNat t)), some (.ref o)]) (st1 := [.ref o]) rfl ?_
        refine Wp.gr (t := (7, 0)) (v := some (p)) rfl ho rfl hv ?_
        show Wp d 138 91 [some (.ref 0), some (.int (s)), some (.int (T)), some (.int (Int32.ofNat c)), some (.int (Int32.ofNat f)), some (.int (x)), some (.int (Int32.ofNat t)), some (.ref o)] [.ref p] h Q
        refine Wp.seg 2 (pc1 := 41) (ls1 := [some (.ref 0), some (.int (s)), some (.int (T)), some (.int (Int32.ofNat c)), some (.int (Int32.ofNat f)), some (.int (x)), some (.int (Int32.ofNat t)), some (.ref p)]) (st1 := []) rfl ?_
        exact (((hQ.2 c1).2 c2).1 c3)
      · refine Wp.seg 3 (pc1 := 79) (ls1 := [some (.ref 0), some (.int (s)), some (.int (T)), some (.int (Int32.ofNat c)), some (.int (Int32.ofNat f)), some (.int (x)), some (.int (Int32.ofNat t)), some (.ref o)]) (st1 := [.ref o, .int (1), .int (x)]) rfl ?_
        refine Wp.gi (t := (7, 0)) rfl ho (Or.inl rfl) ?_
        rw [show h.2.2.1 o 0 = Int32.ofNat g from x0]
        refine Wp.seg 4 (pc1 := 88) (ls1 := [some (.ref 0), some (.int (s)), some (.int (T)), some (.int (Int32.ofNat c)), some (.int (Int32.ofNat f)), some (.int (x ||| ((1 : Int32) <<< ((Int32.ofNat g) &&& 31)))), some (.int (Int32.ofNat t)), some (.ref o)]) (st1 := [.ref o]) rfl ?_
        refine Wp.gr (t := (7, 0)) (v := some (p)) rfl ho rfl hv ?_
        show Wp d 138 91 [some (.ref 0), some (.int (s)), some (.int (T)), some (.int (Int32.ofNat c)), some (.int (Int32.ofNat f)), some (.int (x ||| ((1 : Int32) <<< ((Int32.ofNat g) &&& 31)))), some (.int (Int32.ofNat t)), some (.ref o)] [.ref p] h Q
        refine Wp.seg 2 (pc1 := 41) (ls1 := [some (.ref 0), some (.int (s)), some (.int (T)), some (.int (Int32.ofNat c)), some (.int (Int32.ofNat f)), some (.int (x ||| ((1 : Int32) <<< ((Int32.ofNat g) &&& 31)))), some (.int (Int32.ofNat t)), some (.ref p)]) (st1 := []) rfl ?_
        exact (((hQ.2 c1).2 c2).2 c3)
theorem kof_eq {a b : Nat} (ha : a ≤ 100) (hb : b ≤ 100) : (Int32.ofNat a = Int32.ofNat b) ↔ a = b := by
  refine ⟨fun h => ?_, fun h => by rw [h]⟩
  have := congrArg Int32.toInt h
  rw [znat (n := a) (by omega), znat (n := b) (by omega)] at this
  omega
theorem kof_lt {a b : Nat} (ha : a ≤ 100) (hb : b ≤ 100) : (Int32.ofNat a < Int32.ofNat b) ↔ a < b := by
  rw [Int32.lt_iff_toInt_lt, znat (n := a) (by omega), znat (n := b) (by omega)]
  omega
/-- one report at one dusk -/
theorem t_cwg3 {d : Nat} {Q : KO → Prop} {h : KH} (hw : WF h) {s T : Int32} {F : Nat → Bool} {c f t o g k l m : Nat} {v : Option Nat} (hc : c < 12) (ht : t < 16) (hk : k < 16) (hl : l < 12) (hm : m < 12) (hg : g < 6) (ho : h.1 o = (7, 0)) (hv : h.2.1 o 4 = v) (x0 : h.2.2.1 o 0 = Int32.ofNat g) (x1 : h.2.2.1 o 1 = Int32.ofNat k) (x2 : h.2.2.1 o 2 = Int32.ofNat l) (x3 : h.2.2.1 o 3 = Int32.ofNat m) (hd : 1 ≤ d) (hQ : Wp d 138 41 ([some (.ref 0), some (.int (s)), some (.int (T)), some (.int (Int32.ofNat c)), some (.int (Int32.ofNat f)), some (.int (bits6 (fun j => F j || (decide (g = j) && (decide (k = t) && (decide (c < l) || decide (m < c))))))), some (.int (Int32.ofNat t)), some (krv v)]) [] h Q) : Wp d 138 41 [some (.ref 0), some (.int (s)), some (.int (T)), some (.int (Int32.ofNat c)), some (.int (Int32.ofNat f)), some (.int (bits6 F)), some (.int (Int32.ofNat t)), some (.ref o)] [] h Q := by
  have key : (¬ (Int32.ofNat k) = (Int32.ofNat t) → Wp d 138 41 ([some (.ref 0), some (.int (s)), some (.int (T)), some (.int (Int32.ofNat c)), some (.int (Int32.ofNat f)), some (.int (bits6 F)), some (.int (Int32.ofNat t)), some (krv v)]) [] h Q) ∧ (¬ (¬ (Int32.ofNat k) = (Int32.ofNat t)) → ((Int32.ofNat c) < (Int32.ofNat l) → Wp d 138 41 ([some (.ref 0), some (.int (s)), some (.int (T)), some (.int (Int32.ofNat c)), some (.int (Int32.ofNat f)), some (.int (bits6 F ||| ((1 : Int32) <<< ((Int32.ofNat g) &&& 31)))), some (.int (Int32.ofNat t)), some (krv v)]) [] h Q) ∧ (¬ ((Int32.ofNat c) < (Int32.ofNat l)) → ((Int32.ofNat c) ≤ (Int32.ofNat m) → Wp d 138 41 ([some (.ref 0), some (.int (s)), some (.int (T)), some (.int (Int32.ofNat c)), some (.int (Int32.ofNat f)), some (.int (bits6 F)), some (.int (Int32.ofNat t)), some (krv v)]) [] h Q) ∧ (¬ ((Int32.ofNat c) ≤ (Int32.ofNat m)) → Wp d 138 41 ([some (.ref 0), some (.int (s)), some (.int (T)), some (.int (Int32.ofNat c)), some (.int (Int32.ofNat f)), some (.int (bits6 F ||| ((1 : Int32) <<< ((Int32.ofNat g) &&& 31)))), some (.int (Int32.ofNat t)), some (krv v)]) [] h Q))) := by
    rw [bits6_or F hg]
    refine ⟨fun h1 => ?_, fun h1 => ⟨fun h2 => ?_, fun h2 => ⟨fun h3 => ?_, fun h3 => ?_⟩⟩⟩
    · have e : ¬ k = t := fun z => h1 ((kof_eq (by omega) (by omega)).mpr z)
      simp only [e, decide_false, Bool.false_and, Bool.and_false, Bool.or_false] at hQ
      exact hQ
    · have e : k = t := (kof_eq (by omega) (by omega)).mp (Classical.not_not.mp h1)
      have e2 : c < l := (kof_lt (by omega) (by omega)).mp h2
      simp only [e, e2, decide_true, Bool.true_or, Bool.true_and, Bool.and_true] at hQ
      exact hQ
    · have e : k = t := (kof_eq (by omega) (by omega)).mp (Classical.not_not.mp h1)
      have e2 : ¬ c < l := fun z => h2 ((kof_lt (by omega) (by omega)).mpr z)
      have e3 : ¬ m < c := by have := (nle (by omega) (by omega)).mp h3; omega
      simp only [e2, e3, decide_false, Bool.or_false, Bool.and_false] at hQ
      exact hQ
    · have e : k = t := (kof_eq (by omega) (by omega)).mp (Classical.not_not.mp h1)
      have e3 : m < c := by have : ¬ c ≤ m := fun z => h3 ((nle (by omega) (by omega)).mpr z); omega
      simp only [e, e3, decide_true, Bool.or_true, Bool.and_true] at hQ
      exact hQ
  cases v with
  | none => exact t_cwg3a (p := 0) hw ho hv x0 x1 x2 x3 hd key
  | some p => exact t_cwg3b hw ho hv x0 x1 x2 x3 hd key
/-- all reports at one dusk -/
theorem s_cwgI {d : Nat} {Q : KO → Prop} {h : KH} (hw : WF h) {s : Nat} {s' T : Int32} {f t : Nat} (hs : s < 240) (ht : t < 16) (hd : 1 ≤ d) : ∀ (RP : List (Nat × Nat × Nat)) (v : Option Nat) (F : Nat → Bool), crep h RP v → RP.length ≤ 6 → (∀ x ∈ RP, x.1 < 16 ∧ x.2.1 < 12 ∧ x.2.2 < 12) → Wp d 138 41 ([some (.ref 0), some (.int (s')), some (.int (T)), some (.int (Int32.ofNat (ptA s t).1)), some (.int (Int32.ofNat f)), some (.int (bits6 (fun j => F j || wrE s t RP j))), some (.int (Int32.ofNat t)), some .null]) [] h Q → Wp d 138 41 [some (.ref 0), some (.int (s')), some (.int (T)), some (.int (Int32.ofNat (ptA s t).1)), some (.int (Int32.ofNat f)), some (.int (bits6 F)), some (.int (Int32.ofNat t)), some (krv v)] [] h Q
  | [], v, F, hc, _, _, hQ => by
    have : v = none := hc
    subst this
    have e : (fun j => F j || wrE s t [] j) = F := funext fun j => by rw [wrE_nil, Bool.or_false]
    rw [e] at hQ
    exact hQ
  | (k, l, m) :: r, v, F, hc, hl, hx, hQ => by
    have hl' : r.length + 1 ≤ 6 := hl
    obtain ⟨o, rfl, p1, p2, p3, p4, p5, p6, p7, p8⟩ := hc
    have b := hx (k, l, m) (List.mem_cons_self ..)
    refine t_cwg3 hw (ptA_ok hs t).1 ht b.1 b.2.1 b.2.2 (by omega) p3 rfl p4 p5 p6 p7 hd (s_cwgI hw hs ht hd r _ _ p8 (by omega) (fun x h => hx x (List.mem_cons_of_mem _ h)) ?_)
    have e : (fun j => (F j || (decide (r.length = j) && (decide (k = t) && (decide ((ptA s t).1 < l) || decide (m < (ptA s t).1))))) || wrE s t r j) = fun j => F j || wrE s t ((k, l, m) :: r) j := funext fun j => by
      rw [wrE_cons, Bool.or_assoc]
      congr 1
      by_cases h : j = r.length
      · subst h
        have e0 : wrE s t r r.length = false := by
          unfold wrE
          rw [rget_ge r (Nat.le_refl _)]
        rw [if_pos rfl, e0, Bool.or_false, decide_eq_true rfl, Bool.true_and]
        show (decide (k = t) && _) = (decide (k = t) && (decide ((ptA s k).1 < l) || decide (m < (ptA s k).1)))
        by_cases e : k = t
        · subst e
          rfl
        · rw [decide_eq_false e, Bool.false_and, Bool.false_and]
      · rw [if_neg h, decide_eq_false (fun z => h z.symm), Bool.false_and, Bool.false_or]
    rw [e]
    exact hQ
/-- all dusks -/
theorem s_cwgL {d : Nat} {Q : KO → Prop} {h : KH} (hw : WF h) {s : Nat} {s' : Int32} (hs : s < 240) (hd : 1 ≤ d) {RP : List (Nat × Nat × Nat)} (hc : crep h RP (h.2.1 1 11)) (hl : RP.length ≤ 6) (hx : ∀ x ∈ RP, x.1 < 16 ∧ x.2.1 < 12 ∧ x.2.2 < 12) (hQ : Q (some (.int (bits6 (wrT s 16 RP))), h)) : ∀ (n t : Nat) (z : Option Value), t + n = 16 → Wp d 138 25 [some (.ref 0), some (.int (s')), some (.int (f_cTurns (Int32.ofNat (1 + s / 48)))), some (.int (Int32.ofNat (ptA s t).1)), some (.int (Int32.ofNat (ptA s t).2)), some (.int (bits6 (wrT s t RP))), some (.int (Int32.ofNat t)), z] [] h Q := by
  intro n
  induction n with
  | zero =>
    intro t z e
    have : t = 16 := by omega
    subst this
    exact t_cwg1 hw rfl hd (fun _ => hQ) (fun c => absurd (by decide) c)
  | succ n ih =>
    intro t z e
    refine t_cwg1 hw rfl hd (fun c => absurd ((nle (a := 16) (by omega) (by omega)).mp c) (by omega)) (fun _ => ?_)
    refine s_cwgI hw hs (by omega) hd RP _ _ hc hl hx ?_
    rw [show (fun j => wrT s t RP j || wrE s t RP j) = wrT s (t + 1) RP from funext fun j => (wrT_s s t RP j).symm]
    have po := ptA_ok hs t
    have so := stp_ok (1 + s / 48) (by omega) _ po.1 _ po.2 (by omega)
    refine t_cwg2 hw hd ⟨fun c => ?_, fun c => ?_⟩
    · have c' : ¬ (bsd (ptA s t).1 (ptA s t).2 < 0) := fun z => by
        have a1 := i32T (rfl : (bsd (ptA s t).1 (ptA s t).2).toInt = _) (show (0 : Int32).toInt = 0 from rfl) z
        have a2 := i32L (show (0 : Int32).toInt = 0 from rfl) (rfl : (bsd (ptA s t).1 (ptA s t).2).toInt = _) c
        omega
      have q := so.2.2.2 c'
      have := ih (t + 1) (some (.int (f_cBeside (Int32.ofNat (ptA s t).1) (Int32.ofNat (ptA s t).2)))) (by omega)
      rw [show ptA s (t + 1) = stp (1 + s / 48) (ptA s t) from rfl, ← show f_cBeside (Int32.ofNat (ptA s t).1) (Int32.ofNat (ptA s t).2) = Int32.ofNat (stp (1 + s / 48) (ptA s t)).1 from q.1, show (stp (1 + s / 48) (ptA s t)).2 = (ptA s t).2 from q.2] at this
      rw [show Int32.ofNat t + (1 : Int32) = Int32.ofNat (t + 1) from (Int32.ofNat_add t 1).symm]
      exact this
    · have c' : bsd (ptA s t).1 (ptA s t).2 < 0 := by
        rw [Int32.lt_iff_toInt_lt]
        have := fun z => c ((Int32.le_iff_toInt_le).mpr z)
        exact Int.lt_of_not_ge this
      have q := so.2.2.1 c'
      have := ih (t + 1) (some (.int (f_cBeside (Int32.ofNat (ptA s t).1) (Int32.ofNat (ptA s t).2)))) (by omega)
      rw [show ptA s (t + 1) = stp (1 + s / 48) (ptA s t) from rfl, ← show f_cTurned (Int32.ofNat (ptA s t).2) (f_cTurns (Int32.ofNat (1 + s / 48))) = Int32.ofNat (stp (1 + s / 48) (ptA s t)).2 from q.1, show (stp (1 + s / 48) (ptA s t)).1 = (ptA s t).1 from q.2] at this
      rw [show Int32.ofNat t + (1 : Int32) = Int32.ofNat (t + 1) from (Int32.ofNat_add t 1).symm]
      exact this
theorem s_wrongs {d : Nat} {Q : KO → Prop} {h : KH} (hw : WF h) {s : Nat} (hs : s < 240) (hd : 1 ≤ d) {RP : List (Nat × Nat × Nat)} (hc : crep h RP (h.2.1 1 11)) (hl : RP.length ≤ 6) (hx : ∀ x ∈ RP, x.1 < 16 ∧ x.2.1 < 12 ∧ x.2.2 < 12) (hQ : Q (some (.int (bits6 (wrT s 16 RP))), h)) : Cl d 138 [.ref 0, .int (Int32.ofNat s)] h Q := by
  have := s_cwgL (s' := Int32.ofNat s) hw hs hd hc hl hx hQ 16 0 none rfl
  rw [show bits6 (wrT s 0 RP) = 0 from (bits6_z _).mpr (fun j _ => wrT_0 s RP j)] at this
  exact t_cwrg hw hs hd this
