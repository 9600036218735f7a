/-! KM: the reference: fits, strange -/
def scanG (f : Nat → Bool) : Nat → Nat → Bool
  | 0, _ => true
  | n + 1, i => f i && scanG f n (i + 1)
theorem scanG_iff (f : Nat → Bool) : ∀ n i, scanG f n i = true ↔ ∀ j, i ≤ j → j < i + n → f j = true
  | 0, i => ⟨fun _ j h1 h2 => absurd h2 (by omega), fun _ => rfl⟩
  | n + 1, i => by
    unfold scanG
    rw [Bool.and_eq_true, scanG_iff f n (i + 1)]
    refine ⟨fun h j h1 h2 => ?_, fun h => ⟨h i (Nat.le_refl _) (by omega), fun j h1 h2 => h j (by omega) (by omega)⟩⟩
    by_cases e : j = i
    · subst e
      exact h.1
    · exact h.2 j (by omega) (by omega)
theorem mrep_get {S : Nat → Int32} : ∀ {RP : List (Nat × Nat × Nat)} {i : Nat}, mrep S RP → i < RP.length → ∃ k l m, rget RP i = some (k, l, m) ∧ S (35 + 3 * i) = Int32.ofNat k ∧ S (35 + 3 * i + 1) = Int32.ofNat l ∧ S (35 + 3 * i + 2) = Int32.ofNat m ∧ k < 16 ∧ l < 12 ∧ m < 12
  | [], i, _, h => absurd h (Nat.not_lt_zero _)
  | (k, l, m) :: r, i, hr, h => by
    obtain ⟨p1, p2, p3, p4, p5, p6, p7⟩ := hr
    have h' : i < r.length + 1 := h
    by_cases e : i = r.length
    · subst e
      exact ⟨k, l, m, if_pos rfl, p1, p2, p3, p4, p5, p6⟩
    · obtain ⟨k2, l2, m2, q1, q2⟩ := mrep_get p7 (show i < r.length by omega)
      exact ⟨k2, l2, m2, by rw [show rget ((k, l, m) :: r) i = rget r i from if_neg e]; exact q1, q2⟩
theorem mrep_rng {S : Nat → Int32} : ∀ {RP : List (Nat × Nat × Nat)}, mrep S RP → ∀ x ∈ RP, x.1 < 16 ∧ x.2.1 < 12 ∧ x.2.2 < 12
  | [], _, x, h => absurd h List.not_mem_nil
  | (k, l, m) :: r, hr, x, h => by
    obtain ⟨p1, p2, p3, p4, p5, p6, p7⟩ := hr
    rcases List.mem_cons.mp h with rfl | h
    · exact ⟨p4, p5, p6⟩
    · exact mrep_rng p7 x h
theorem stp_m1 : ∀ c, c < 12 → ∀ f, f < 4 → decide (kE.getD (4 * c + f) 0 < 0) = decide (bsd c f < 0) := by decide +kernel
theorem stp_m2 : ∀ c, c < 12 → ∀ f, f < 4 → bsd c f < 0 ∨ kN.getD (4 * c + f) 0 = bsd c f := by decide +kernel
theorem stp_m3 : ∀ K, K < 6 → ∀ f, f < 4 → K = 0 ∨ (Int32.ofNat f + f_turnsBy (Int32.ofNat K)) - (Int32.ofNat f + f_turnsBy (Int32.ofNat K)) / 4 * 4 = f_cTurned (Int32.ofNat f) (f_cTurns (Int32.ofNat K)) := by decide +kernel
theorem sK_m : ∀ s, s < 240 → (1 : Int32) + Int32.ofNat s / 48 = Int32.ofNat (1 + s / 48) ∧ (Int32.ofNat s / 4 - Int32.ofNat s / 4 / 12 * 12) = Int32.ofNat (s / 4 % 12) ∧ (Int32.ofNat s - Int32.ofNat s / 4 * 4) = Int32.ofNat (s % 4) := by decide +kernel
set_option maxHeartbeats 4000000 in
theorem t_fit0 {d : Nat} {Q : KO → Prop} {h : KH} (hw : WF h) {s : Nat} {y : Int32} (hd : 1 ≤ d) (hQ : Wp d 251 29 ([some (.ref 59), some (.int (Int32.ofNat s)), some (.int (y)), some (.int (f_turnsBy ((1 : Int32) + ((Int32.ofNat s) / (48 : Int32))))), some (.int (((Int32.ofNat s) / (4 : Int32)) - ((Int32.ofNat s) / (4 : Int32)) / (12 : Int32) * (12 : Int32))), some (.int ((Int32.ofNat s) - (Int32.ofNat s) / (4 : Int32) * (4 : Int32))), some (.int (1)), some (.int (0)), none, none]) [] h Q) : Cl d 251 [.ref 59, .int (Int32.ofNat s), .int (y)] h Q := by
  refine Cl.of (ls := [some (.ref 59), some (.int (Int32.ofNat s)), some (.int (y)), none, none, none, none, none, none, none]) rfl rfl ?_
  refine Wp.seg 3 (pc1 := 4) (ls1 := [some (.ref 59), some (.int (Int32.ofNat s)), some (.int (y)), none, none, none, none, none, none, none]) (st1 := [.int (48), .int (Int32.ofNat s), .int (1)]) rfl ?_
  refine Wp.div rfl (by decide) ?_
  refine Wp.seg 1 (pc1 := 6) (ls1 := [some (.ref 59), some (.int (Int32.ofNat s)), some (.int (y)), none, none, none, none, none, none, none]) (st1 := [.int ((1 : Int32) + ((Int32.ofNat s) / (48 : Int32)))]) rfl ?_
  refine Wp.inv (d2 := 0) (as := [.int ((1 : Int32) + ((Int32.ofNat s) / (48 : Int32)))]) (r := []) rfl rfl rfl rfl rfl rfl (by omega) (s_turnsBy (Nat.zero_le _) ?_)
  show Wp d 251 9 [some (.ref 59), some (.int (Int32.ofNat s)), some (.int (y)), none, none, none, none, none, none, none] [.int (f_turnsBy ((1 : Int32) + ((Int32.ofNat s) / (48 : Int32))))] h Q
  refine Wp.seg 3 (pc1 := 12) (ls1 := [some (.ref 59), some (.int (Int32.ofNat s)), some (.int (y)), some (.int (f_turnsBy ((1 : Int32) + ((Int32.ofNat s) / (48 : Int32))))), none, none, none, none, none, none]) (st1 := [.int (4), .int (Int32.ofNat s)]) rfl ?_
  refine Wp.div rfl (by decide) ?_
  refine Wp.seg 1 (pc1 := 15) (ls1 := [some (.ref 59), some (.int (Int32.ofNat s)), some (.int (y)), some (.int (f_turnsBy ((1 : Int32) + ((Int32.ofNat s) / (48 : Int32))))), none, none, none, none, none, none]) (st1 := [.int (12), .int ((Int32.ofNat s) / (4 : Int32))]) rfl ?_
  refine Wp.rem rfl (by decide) ?_
  refine Wp.seg 3 (pc1 := 20) (ls1 := [some (.ref 59), some (.int (Int32.ofNat s)), some (.int (y)), some (.int (f_turnsBy ((1 : Int32) + ((Int32.ofNat s) / (48 : Int32))))), some (.int (((Int32.ofNat s) / (4 : Int32)) - ((Int32.ofNat s) / (4 : Int32)) / (12 : Int32) * (12 : Int32))), none, none, none, none, none]) (st1 := [.int (4), .int (Int32.ofNat s)]) rfl ?_
  refine Wp.rem rfl (by decide) ?_
  refine Wp.seg 5 (pc1 := 29) (ls1 := [some (.ref 59), some (.int (Int32.ofNat s)), some (.int (y)), some (.int (f_turnsBy ((1 : Int32) + ((Int32.ofNat s) / (48 : Int32))))), some (.int (((Int32.ofNat s) / (4 : Int32)) - ((Int32.ofNat s) / (4 : Int32)) / (12 : Int32) * (12 : Int32))), some (.int ((Int32.ofNat s) - (Int32.ofNat s) / (4 : Int32) * (4 : Int32))), some (.int (1)), some (.int (0)), none, none]) (st1 := []) rfl ?_
  exact hQ
set_option maxHeartbeats 4000000 in
theorem t_fit1 {d : Nat} {Q : KO → Prop} {h : KH} (hw : WF h) {s y T : Int32} {c f t : Nat} (hc : c < 12) (hf : f < 4) {b : Bool} {z8 z9 : Option Value} (hd : 1 ≤ d) (hQ : ((16 : Int32) ≤ (Int32.ofNat t) → Q (some (.int (b32 b)), h)) ∧ (¬ ((16 : Int32) ≤ (Int32.ofNat t)) → Wp d 251 39 ([some (.ref 59), some (.int (s)), some (.int (y)), some (.int (T)), some (.int (Int32.ofNat c)), some (.int (Int32.ofNat f)), some (.int (b32 b)), some (.int (Int32.ofNat t)), some (.int (0)), z9]) [] h Q)) : Wp d 251 29 [some (.ref 59), some (.int (s)), some (.int (y)), some (.int (T)), some (.int (Int32.ofNat c)), some (.int (Int32.ofNat f)), some (.int (b32 b)), some (.int (Int32.ofNat t)), z8, z9] [] h Q := by
  refine Wp.seg 2 (pc1 := 33) (ls1 := [some (.ref 59), some (.int (s)), some (.int (y)), some (.int (T)), some (.int (Int32.ofNat c)), some (.int (Int32.ofNat f)), some (.int (b32 b)), some (.int (Int32.ofNat t)), z8, z9]) (st1 := [.int (16), .int (Int32.ofNat t)]) rfl ?_
  refine Wp.if2 rfl (fun (c1 : (16 : Int32) ≤ (Int32.ofNat t)) => ?_) (fun (c1 : ¬ ((16 : Int32) ≤ (Int32.ofNat t))) => ?_)
  · refine Wp.seg 1 (pc1 := 160) (ls1 := [some (.ref 59), some (.int (s)), some (.int (y)), some (.int (T)), some (.int (Int32.ofNat c)), some (.int (Int32.ofNat f)), some (.int (b32 b)), some (.int (Int32.ofNat t)), z8, z9]) (st1 := [.int (b32 b)]) rfl ?_
    exact Wp.reti rfl (kret_b32 _) (hQ.1 c1)
  · refine Wp.seg 2 (pc1 := 39) (ls1 := [some (.ref 59), some (.int (s)), some (.int (y)), some (.int (T)), some (.int (Int32.ofNat c)), some (.int (Int32.ofNat f)), some (.int (b32 b)), some (.int (Int32.ofNat t)), some (.int (0)), z9]) (st1 := []) rfl ?_
    exact (hQ.2 c1)
set_option maxHeartbeats 4000000 in
theorem t_fit2 {d : Nat} {Q : KO → Prop} {h : KH} (hw : WF h) {s y T : Int32} {c f t : Nat} (hc : c < 12) (hf : f < 4) {g : Nat} (h9 : h.2.2.1 60 9 = Int32.ofNat g) {b : Bool} {i : Nat} {z9 : Option Value} (ge : Int32.ofNat g ≤ Int32.ofNat i) (hd : 1 ≤ d) (hQ : ((kE.getD (4 * c + f) 0) < 0 → Wp d 251 29 ([some (.ref 59), some (.int (s)), some (.int (y)), some (.int (T)), some (.int (Int32.ofNat c)), some (.int (((Int32.ofNat f) + T) - ((Int32.ofNat f) + T) / (4 : Int32) * (4 : Int32))), some (.int (b32 b)), some (.int ((Int32.ofNat t) + 1)), some (.int (Int32.ofNat i)), z9]) [] h Q) ∧ (¬ ((kE.getD (4 * c + f) 0) < 0) → Wp d 251 29 ([some (.ref 59), some (.int (s)), some (.int (y)), some (.int (T)), some (.int (kN.getD (4 * c + f) 0)), some (.int (Int32.ofNat f)), some (.int (b32 b)), some (.int ((Int32.ofNat t) + 1)), some (.int (Int32.ofNat i)), z9]) [] h Q)) : Wp d 251 39 [some (.ref 59), some (.int (s)), some (.int (y)), some (.int (T)), some (.int (Int32.ofNat c)), some (.int (Int32.ofNat f)), some (.int (b32 b)), some (.int (Int32.ofNat t)), some (.int (Int32.ofNat i)), z9] [] h Q := by
  refine Wp.seg 2 (pc1 := 42) (ls1 := [some (.ref 59), some (.int (s)), some (.int (y)), some (.int (T)), some (.int (Int32.ofNat c)), some (.int (Int32.ofNat f)), some (.int (b32 b)), some (.int (Int32.ofNat t)), some (.int (Int32.ofNat i)), z9]) (st1 := [.ref 59, .int (Int32.ofNat i)]) rfl ?_
  refine Wp.gr (t := (11, 0)) (v := some (60)) rfl (WF.t hw 59 rfl) rfl (WF.r hw 59 0 58 rfl) ?_
  show Wp d 251 45 [some (.ref 59), some (.int (s)), some (.int (y)), some (.int (T)), some (.int (Int32.ofNat c)), some (.int (Int32.ofNat f)), some (.int (b32 b)), some (.int (Int32.ofNat t)), some (.int (Int32.ofNat i)), z9] [.ref 60, .int (Int32.ofNat i)] h Q
  refine Wp.seg 1 (pc1 := 47) (ls1 := [some (.ref 59), some (.int (s)), some (.int (y)), some (.int (T)), some (.int (Int32.ofNat c)), some (.int (Int32.ofNat f)), some (.int (b32 b)), some (.int (Int32.ofNat t)), some (.int (Int32.ofNat i)), z9]) (st1 := [.int (9), .ref 60, .int (Int32.ofNat i)]) rfl ?_
  refine Wp.iald (j := 9) (k := 20) (n := 585) rfl (WF.t hw 60 rfl) rfl rfl (by decide) (by decide) ?_
  rw [show h.2.2.1 60 9 = Int32.ofNat g from h9]
  refine Wp.if2 rfl (fun c1 => ?_) (fun c1 => absurd (ge) c1)
  refine Wp.seg 2 (pc1 := 126) (ls1 := [some (.ref 59), some (.int (s)), some (.int (y)), some (.int (T)), some (.int (Int32.ofNat c)), some (.int (Int32.ofNat f)), some (.int (b32 b)), some (.int (Int32.ofNat t)), some (.int (Int32.ofNat i)), z9]) (st1 := [.int (Int32.ofNat f), .int (Int32.ofNat c)]) rfl ?_
  refine Wp.inv (d2 := 0) (as := [.int (Int32.ofNat c), .int (Int32.ofNat f)]) (r := []) rfl rfl rfl rfl rfl rfl (by omega) (s_edge hc hf ?_)
  show Wp d 251 129 [some (.ref 59), some (.int (s)), some (.int (y)), some (.int (T)), some (.int (Int32.ofNat c)), some (.int (Int32.ofNat f)), some (.int (b32 b)), some (.int (Int32.ofNat t)), some (.int (Int32.ofNat i)), z9] [.int (kE.getD (4 * c + f) 0)] h Q
  refine Wp.if1 rfl (fun (c2 : (kE.getD (4 * c + f) 0) < 0) => ?_) (fun (c2 : ¬ ((kE.getD (4 * c + f) 0) < 0)) => ?_)
  · refine Wp.seg 4 (pc1 := 149) (ls1 := [some (.ref 59), some (.int (s)), some (.int (y)), some (.int (T)), some (.int (Int32.ofNat c)), some (.int (Int32.ofNat f)), some (.int (b32 b)), some (.int (Int32.ofNat t)), some (.int (Int32.ofNat i)), z9]) (st1 := [.int (4), .int ((Int32.ofNat f) + T)]) rfl ?_
    refine Wp.rem rfl (by decide) ?_
    refine Wp.seg 3 (pc1 := 29) (ls1 := [some (.ref 59), some (.int (s)), some (.int (y)), some (.int (T)), some (.int (Int32.ofNat c)), some (.int (((Int32.ofNat f) + T) - ((Int32.ofNat f) + T) / (4 : Int32) * (4 : Int32))), some (.int (b32 b)), some (.int ((Int32.ofNat t) + 1)), some (.int (Int32.ofNat i)), z9]) (st1 := []) rfl ?_
    exact (hQ.1 c2)
  · refine Wp.seg 2 (pc1 := 136) (ls1 := [some (.ref 59), some (.int (s)), some (.int (y)), some (.int (T)), some (.int (Int32.ofNat c)), some (.int (Int32.ofNat f)), some (.int (b32 b)), some (.int (Int32.ofNat t)), some (.int (Int32.ofNat i)), z9]) (st1 := [.int (Int32.ofNat f), .int (Int32.ofNat c)]) rfl ?_
    refine Wp.inv (d2 := 0) (as := [.int (Int32.ofNat c), .int (Int32.ofNat f)]) (r := []) rfl rfl rfl rfl rfl rfl (by omega) (s_next hc hf ?_)
    show Wp d 251 139 [some (.ref 59), some (.int (s)), some (.int (y)), some (.int (T)), some (.int (Int32.ofNat c)), some (.int (Int32.ofNat f)), some (.int (b32 b)), some (.int (Int32.ofNat t)), some (.int (Int32.ofNat i)), z9] [.int (kN.getD (4 * c + f) 0)] h Q
    refine Wp.seg 4 (pc1 := 29) (ls1 := [some (.ref 59), some (.int (s)), some (.int (y)), some (.int (T)), some (.int (kN.getD (4 * c + f) 0)), some (.int (Int32.ofNat f)), some (.int (b32 b)), some (.int ((Int32.ofNat t) + 1)), some (.int (Int32.ofNat i)), z9]) (st1 := []) rfl ?_
    exact (hQ.2 c2)
set_option maxHeartbeats 4000000 in
theorem t_fit3 {d : Nat} {Q : KO → Prop} {h : KH} (hw : WF h) {s y T : Int32} {c f t : Nat} (hc : c < 12) (hf : f < 4) {g : Nat} (h9 : h.2.2.1 60 9 = Int32.ofNat g) {i : Nat} {z9 : Option Value} (ge : ¬ (Int32.ofNat g ≤ Int32.ofNat i)) (hi : i < 6) (hd : 1 ≤ d) (hQ : Wp d 251 39 ([some (.ref 59), some (.int (s)), some (.int (y)), some (.int (T)), some (.int (Int32.ofNat c)), some (.int (Int32.ofNat f)), some (.int (0)), some (.int (Int32.ofNat t)), some (.int ((Int32.ofNat i) + 1)), some (.int ((35 : Int32) + ((3 : Int32) * (Int32.ofNat i))))]) [] h Q) : Wp d 251 39 [some (.ref 59), some (.int (s)), some (.int (y)), some (.int (T)), some (.int (Int32.ofNat c)), some (.int (Int32.ofNat f)), some (.int (0)), some (.int (Int32.ofNat t)), some (.int (Int32.ofNat i)), z9] [] h Q := by
  refine Wp.seg 2 (pc1 := 42) (ls1 := [some (.ref 59), some (.int (s)), some (.int (y)), some (.int (T)), some (.int (Int32.ofNat c)), some (.int (Int32.ofNat f)), some (.int (0)), some (.int (Int32.ofNat t)), some (.int (Int32.ofNat i)), z9]) (st1 := [.ref 59, .int (Int32.ofNat i)]) rfl ?_
  refine Wp.gr (t := (11, 0)) (v := some (60)) rfl (WF.t hw 59 rfl) rfl (WF.r hw 59 0 58 rfl) ?_
  show Wp d 251 45 [some (.ref 59), some (.int (s)), some (.int (y)), some (.int (T)), some (.int (Int32.ofNat c)), some (.int (Int32.ofNat f)), some (.int (0)), some (.int (Int32.ofNat t)), some (.int (Int32.ofNat i)), z9] [.ref 60, .int (Int32.ofNat i)] h Q
  refine Wp.seg 1 (pc1 := 47) (ls1 := [some (.ref 59), some (.int (s)), some (.int (y)), some (.int (T)), some (.int (Int32.ofNat c)), some (.int (Int32.ofNat f)), some (.int (0)), some (.int (Int32.ofNat t)), some (.int (Int32.ofNat i)), z9]) (st1 := [.int (9), .ref 60, .int (Int32.ofNat i)]) rfl ?_
  refine Wp.iald (j := 9) (k := 20) (n := 585) rfl (WF.t hw 60 rfl) rfl rfl (by decide) (by decide) ?_
  rw [show h.2.2.1 60 9 = Int32.ofNat g from h9]
  refine Wp.if2 rfl (fun c1 => absurd c1 (ge)) (fun c1 => ?_)
  refine Wp.seg 7 (pc1 := 62) (ls1 := [some (.ref 59), some (.int (s)), some (.int (y)), some (.int (T)), some (.int (Int32.ofNat c)), some (.int (Int32.ofNat f)), some (.int (0)), some (.int (Int32.ofNat t)), some (.int (Int32.ofNat i)), some (.int ((35 : Int32) + ((3 : Int32) * (Int32.ofNat i))))]) (st1 := [.int (0)]) rfl ?_
  refine Wp.if1 rfl (fun c2 => ?_) (fun c2 => absurd (show (0 : Int32) = 0 by decide) c2)
  refine Wp.seg 4 (pc1 := 39) (ls1 := [some (.ref 59), some (.int (s)), some (.int (y)), some (.int (T)), some (.int (Int32.ofNat c)), some (.int (Int32.ofNat f)), some (.int (0)), some (.int (Int32.ofNat t)), some (.int ((Int32.ofNat i) + 1)), some (.int ((35 : Int32) + ((3 : Int32) * (Int32.ofNat i))))]) (st1 := []) rfl ?_
  exact hQ
set_option maxHeartbeats 4000000 in
theorem t_fit4 {d : Nat} {Q : KO → Prop} {h : KH} (hw : WF h) {s y T : Int32} {c f t : Nat} (hc : c < 12) (hf : f < 4) {g : Nat} (h9 : h.2.2.1 60 9 = Int32.ofNat g) {i : Nat} {z9 : Option Value} (ge : ¬ (Int32.ofNat g ≤ Int32.ofNat i)) (hi : i < 6) {k l m : Nat} (hl : l < 12) (hm : m < 12) (x1 : h.2.2.1 60 (35 + 3 * i) = Int32.ofNat k) (x2 : h.2.2.1 60 (35 + 3 * i + 1) = Int32.ofNat l) (x3 : h.2.2.1 60 (35 + 3 * i + 2) = Int32.ofNat m) (hd : 1 ≤ d) (hQ : ((Int32.ofNat i) = y → Wp d 251 39 ([some (.ref 59), some (.int (s)), some (.int (y)), some (.int (T)), some (.int (Int32.ofNat c)), some (.int (Int32.ofNat f)), some (.int (1)), some (.int (Int32.ofNat t)), some (.int ((Int32.ofNat i) + 1)), some (.int ((35 : Int32) + ((3 : Int32) * (Int32.ofNat i))))]) [] h Q) ∧ (¬ ((Int32.ofNat i) = y) → (¬ (Int32.ofNat k) = (Int32.ofNat t) → Wp d 251 39 ([some (.ref 59), some (.int (s)), some (.int (y)), some (.int (T)), some (.int (Int32.ofNat c)), some (.int (Int32.ofNat f)), some (.int (1)), some (.int (Int32.ofNat t)), some (.int ((Int32.ofNat i) + 1)), some (.int ((35 : Int32) + ((3 : Int32) * (Int32.ofNat i))))]) [] h Q) ∧ (¬ (¬ (Int32.ofNat k) = (Int32.ofNat t)) → ((inB (Int32.ofNat c) (l : Int) (m : Int)) = false → Wp d 251 39 ([some (.ref 59), some (.int (s)), some (.int (y)), some (.int (T)), some (.int (Int32.ofNat c)), some (.int (Int32.ofNat f)), some (.int (0)), some (.int (Int32.ofNat t)), some (.int ((Int32.ofNat i) + 1)), some (.int ((35 : Int32) + ((3 : Int32) * (Int32.ofNat i))))]) [] h Q) ∧ ((inB (Int32.ofNat c) (l : Int) (m : Int)) = true → Wp d 251 39 ([some (.ref 59), some (.int (s)), some (.int (y)), some (.int (T)), some (.int (Int32.ofNat c)), some (.int (Int32.ofNat f)), some (.int (1)), some (.int (Int32.ofNat t)), some (.int ((Int32.ofNat i) + 1)), some (.int ((35 : Int32) + ((3 : Int32) * (Int32.ofNat i))))]) [] h Q)))) : Wp d 251 39 [some (.ref 59), some (.int (s)), some (.int (y)), some (.int (T)), some (.int (Int32.ofNat c)), some (.int (Int32.ofNat f)), some (.int (1)), some (.int (Int32.ofNat t)), some (.int (Int32.ofNat i)), z9] [] h Q := by
  refine Wp.seg 2 (pc1 := 42) (ls1 := [some (.ref 59), some (.int (s)), some (.int (y)), some (.int (T)), some (.int (Int32.ofNat c)), some (.int (Int32.ofNat f)), some (.int (1)), some (.int (Int32.ofNat t)), some (.int (Int32.ofNat i)), z9]) (st1 := [.ref 59, .int (Int32.ofNat i)]) rfl ?_
  refine Wp.gr (t := (11, 0)) (v := some (60)) rfl (WF.t hw 59 rfl) rfl (WF.r hw 59 0 58 rfl) ?_
  show Wp d 251 45 [some (.ref 59), some (.int (s)), some (.int (y)), some (.int (T)), some (.int (Int32.ofNat c)), some (.int (Int32.ofNat f)), some (.int (1)), some (.int (Int32.ofNat t)), some (.int (Int32.ofNat i)), z9] [.ref 60, .int (Int32.ofNat i)] h Q
  refine Wp.seg 1 (pc1 := 47) (ls1 := [some (.ref 59), some (.int (s)), some (.int (y)), some (.int (T)), some (.int (Int32.ofNat c)), some (.int (Int32.ofNat f)), some (.int (1)), some (.int (Int32.ofNat t)), some (.int (Int32.ofNat i)), z9]) (st1 := [.int (9), .ref 60, .int (Int32.ofNat i)]) rfl ?_
  refine Wp.iald (j := 9) (k := 20) (n := 585) rfl (WF.t hw 60 rfl) rfl rfl (by decide) (by decide) ?_
  rw [show h.2.2.1 60 9 = Int32.ofNat g from h9]
  refine Wp.if2 rfl (fun c1 => absurd c1 (ge)) (fun c1 => ?_)
  refine Wp.seg 7 (pc1 := 62) (ls1 := [some (.ref 59), some (.int (s)), some (.int (y)), some (.int (T)), some (.int (Int32.ofNat c)), some (.int (Int32.ofNat f)), some (.int (1)), some (.int (Int32.ofNat t)), some (.int (Int32.ofNat i)), some (.int ((35 : Int32) + ((3 : Int32) * (Int32.ofNat i))))]) (st1 := [.int (1)]) rfl ?_
  refine Wp.if1 rfl (fun c2 => absurd c2 (show ¬ ((1 : Int32) = 0) by decide)) (fun c2 => ?_)
  refine Wp.seg 2 (pc1 := 68) (ls1 := [some (.ref 59), some (.int (s)), some (.int (y)), some (.int (T)), some (.int (Int32.ofNat c)), some (.int (Int32.ofNat f)), some (.int (1)), some (.int (Int32.ofNat t)), some (.int (Int32.ofNat i)), some (.int ((35 : Int32) + ((3 : Int32) * (Int32.ofNat i))))]) (st1 := [.int (y), .int (Int32.ofNat i)]) rfl ?_
  refine Wp.if2 rfl (fun (c3 : (Int32.ofNat i) = y) => ?_) (fun (c3 : ¬ ((Int32.ofNat i) = y)) => ?_)
  · refine Wp.seg 5 (pc1 := 39) (ls1 := [some (.ref 59), some (.int (s)), some (.int (y)), some (.int (T)), some (.int (Int32.ofNat c)), some (.int (Int32.ofNat f)), some (.int (1)), some (.int (Int32.ofNat t)), some (.int ((Int32.ofNat i) + 1)), some (.int ((35 : Int32) + ((3 : Int32) * (Int32.ofNat i))))]) (st1 := []) rfl ?_
    exact (hQ.1 c3)
  · refine Wp.seg 1 (pc1 := 72) (ls1 := [some (.ref 59), some (.int (s)), some (.int (y)), some (.int (T)), some (.int (Int32.ofNat c)), some (.int (Int32.ofNat f)), some (.int (1)), some (.int (Int32.ofNat t)), some (.int (Int32.ofNat i)), some (.int ((35 : Int32) + ((3 : Int32) * (Int32.ofNat i))))]) (st1 := [.ref 59]) rfl ?_
    refine Wp.gr (t := (11, 0)) (v := some (60)) rfl (WF.t hw 59 rfl) rfl (WF.r hw 59 0 58 rfl) ?_
    show Wp d 251 75 [some (.ref 59), some (.int (s)), some (.int (y)), some (.int (T)), some (.int (Int32.ofNat c)), some (.int (Int32.ofNat f)), some (.int (1)), some (.int (Int32.ofNat t)), some (.int (Int32.ofNat i)), some (.int ((35 : Int32) + ((3 : Int32) * (Int32.ofNat i))))] [.ref 60] h Q
    refine Wp.seg 1 (pc1 := 77) (ls1 := [some (.ref 59), some (.int (s)), some (.int (y)), some (.int (T)), some (.int (Int32.ofNat c)), some (.int (Int32.ofNat f)), some (.int (1)), some (.int (Int32.ofNat t)), some (.int (Int32.ofNat i)), some (.int ((35 : Int32) + ((3 : Int32) * (Int32.ofNat i))))]) (st1 := [.int ((35 : Int32) + ((3 : Int32) * (Int32.ofNat i))), .ref 60]) rfl ?_
    refine Wp.iald (j := (35 + 3 * i)) (k := 20) (n := 585) rfl (WF.t hw 60 rfl) rfl (i35' i) (by omega) (by decide) ?_
    rw [show h.2.2.1 60 ((35 + 3 * i)) = Int32.ofNat k from x1]
    refine Wp.seg 1 (pc1 := 80) (ls1 := [some (.ref 59), some (.int (s)), some (.int (y)), some (.int (T)), some (.int (Int32.ofNat c)), some (.int (Int32.ofNat f)), some (.int (1)), some (.int (Int32.ofNat t)), some (.int (Int32.ofNat i)), some (.int ((35 : Int32) + ((3 : Int32) * (Int32.ofNat i))))]) (st1 := [.int (Int32.ofNat t), .int (Int32.ofNat k)]) rfl ?_
    refine Wp.if2 rfl (fun (c4 : ¬ (Int32.ofNat k) = (Int32.ofNat t)) => ?_) (fun (c4 : ¬ (¬ (Int32.ofNat k) = (Int32.ofNat t))) => ?_)
    · refine Wp.seg 5 (pc1 := 39) (ls1 := [some (.ref 59), some (.int (s)), some (.int (y)), some (.int (T)), some (.int (Int32.ofNat c)), some (.int (Int32.ofNat f)), some (.int (1)), some (.int (Int32.ofNat t)), some (.int ((Int32.ofNat i) + 1)), some (.int ((35 : Int32) + ((3 : Int32) * (Int32.ofNat i))))]) (st1 := []) rfl ?_
      exact ((hQ.2 c3).1 c4)
    · refine Wp.seg 2 (pc1 := 86) (ls1 := [some (.ref 59), some (.int (s)), some (.int (y)), some (.int (T)), some (.int (Int32.ofNat c)), some (.int (Int32.ofNat f)), some (.int (1)), some (.int (Int32.ofNat t)), some (.int (Int32.ofNat i)), some (.int ((35 : Int32) + ((3 : Int32) * (Int32.ofNat i))))]) (st1 := [.ref 59, .int (Int32.ofNat c)]) rfl ?_
      refine Wp.gr (t := (11, 0)) (v := some (60)) rfl (WF.t hw 59 rfl) rfl (WF.r hw 59 0 58 rfl) ?_
      show Wp d 251 89 [some (.ref 59), some (.int (s)), some (.int (y)), some (.int (T)), some (.int (Int32.ofNat c)), some (.int (Int32.ofNat f)), some (.int (1)), some (.int (Int32.ofNat t)), some (.int (Int32.ofNat i)), some (.int ((35 : Int32) + ((3 : Int32) * (Int32.ofNat i))))] [.ref 60, .int (Int32.ofNat c)] h Q
      refine Wp.seg 3 (pc1 := 93) (ls1 := [some (.ref 59), some (.int (s)), some (.int (y)), some (.int (T)), some (.int (Int32.ofNat c)), some (.int (Int32.ofNat f)), some (.int (1)), some (.int (Int32.ofNat t)), some (.int (Int32.ofNat i)), some (.int ((35 : Int32) + ((3 : Int32) * (Int32.ofNat i))))]) (st1 := [.int (((35 : Int32) + ((3 : Int32) * (Int32.ofNat i))) + (1 : Int32)), .ref 60, .int (Int32.ofNat c)]) rfl ?_
      refine Wp.iald (j := (35 + 3 * i + 1)) (k := 20) (n := 585) rfl (WF.t hw 60 rfl) rfl (i35 i 1) (by omega) (by decide) ?_
      rw [show h.2.2.1 60 ((35 + 3 * i + 1)) = Int32.ofNat l from x2]
      refine Wp.seg 1 (pc1 := 95) (ls1 := [some (.ref 59), some (.int (s)), some (.int (y)), some (.int (T)), some (.int (Int32.ofNat c)), some (.int (Int32.ofNat f)), some (.int (1)), some (.int (Int32.ofNat t)), some (.int (Int32.ofNat i)), some (.int ((35 : Int32) + ((3 : Int32) * (Int32.ofNat i))))]) (st1 := [.ref 59, .int (Int32.ofNat l), .int (Int32.ofNat c)]) rfl ?_
      refine Wp.gr (t := (11, 0)) (v := some (60)) rfl (WF.t hw 59 rfl) rfl (WF.r hw 59 0 58 rfl) ?_
      show Wp d 251 98 [some (.ref 59), some (.int (s)), some (.int (y)), some (.int (T)), some (.int (Int32.ofNat c)), some (.int (Int32.ofNat f)), some (.int (1)), some (.int (Int32.ofNat t)), some (.int (Int32.ofNat i)), some (.int ((35 : Int32) + ((3 : Int32) * (Int32.ofNat i))))] [.ref 60, .int (Int32.ofNat l), .int (Int32.ofNat c)] h Q
      refine Wp.seg 3 (pc1 := 102) (ls1 := [some (.ref 59), some (.int (s)), some (.int (y)), some (.int (T)), some (.int (Int32.ofNat c)), some (.int (Int32.ofNat f)), some (.int (1)), some (.int (Int32.ofNat t)), some (.int (Int32.ofNat i)), some (.int ((35 : Int32) + ((3 : Int32) * (Int32.ofNat i))))]) (st1 := [.int (((35 : Int32) + ((3 : Int32) * (Int32.ofNat i))) + (2 : Int32)), .ref 60, .int (Int32.ofNat l), .int (Int32.ofNat c)]) rfl ?_
      refine Wp.iald (j := (35 + 3 * i + 2)) (k := 20) (n := 585) rfl (WF.t hw 60 rfl) rfl (i35 i 2) (by omega) (by decide) ?_
      rw [show h.2.2.1 60 ((35 + 3 * i + 2)) = Int32.ofNat m from x3]
      refine Wp.inv (d2 := 0) (as := [.int (Int32.ofNat c), .int (Int32.ofNat l), .int (Int32.ofNat m)]) (r := []) rfl rfl rfl rfl rfl rfl (by omega) (s_inB (v := Int32.ofNat c) (x := (l : Int)) (y := (m : Int)) (znat (by omega)) (znat (by omega)) ?_)
      show Wp d 251 106 [some (.ref 59), some (.int (s)), some (.int (y)), some (.int (T)), some (.int (Int32.ofNat c)), some (.int (Int32.ofNat f)), some (.int (1)), some (.int (Int32.ofNat t)), some (.int (Int32.ofNat i)), some (.int ((35 : Int32) + ((3 : Int32) * (Int32.ofNat i))))] [.int (b32 (inB (Int32.ofNat c) (l : Int) (m : Int)))] h Q
      refine Wp.ifz rfl (fun (c5 : (inB (Int32.ofNat c) (l : Int) (m : Int)) = false) => ?_) (fun (c5 : (inB (Int32.ofNat c) (l : Int) (m : Int)) = true) => ?_)
      · refine Wp.seg 4 (pc1 := 39) (ls1 := [some (.ref 59), some (.int (s)), some (.int (y)), some (.int (T)), some (.int (Int32.ofNat c)), some (.int (Int32.ofNat f)), some (.int (0)), some (.int (Int32.ofNat t)), some (.int ((Int32.ofNat i) + 1)), some (.int ((35 : Int32) + ((3 : Int32) * (Int32.ofNat i))))]) (st1 := []) rfl ?_
        exact (((hQ.2 c3).2 c4).1 c5)
      · refine Wp.seg 5 (pc1 := 39) (ls1 := [some (.ref 59), some (.int (s)), some (.int (y)), some (.int (T)), some (.int (Int32.ofNat c)), some (.int (Int32.ofNat f)), some (.int (1)), some (.int (Int32.ofNat t)), some (.int ((Int32.ofNat i) + 1)), some (.int ((35 : Int32) + ((3 : Int32) * (Int32.ofNat i))))]) (st1 := []) rfl ?_
        exact (((hQ.2 c3).2 c4).2 c5)
