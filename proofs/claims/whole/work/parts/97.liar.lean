/-! KM: both sides: liar -/
def sgl (f : Nat → Bool) : Bool := decide (f_bitCount (bits6 f) = 1)
def ix6 (a0 a1 a2 a3 a4 : Bool) : Nat := if a0 then 0 else if a1 then 1 else if a2 then 2 else if a3 then 3 else if a4 then 4 else 5
theorem b6_s : ∀ a0 a1 a2 a3 a4 a5 : Bool, ¬ (f_bitCount (b6 a0 a1 a2 a3 a4 a5) = 1) ∨ (b6 a0 a1 a2 a3 a4 a5 = (1 : Int32) <<< (Int32.ofNat (ix6 a0 a1 a2 a3 a4) &&& 31) ∧ ix6 a0 a1 a2 a3 a4 < 6 ∧ a0 = decide (ix6 a0 a1 a2 a3 a4 = 0) ∧ a1 = decide (ix6 a0 a1 a2 a3 a4 = 1) ∧ a2 = decide (ix6 a0 a1 a2 a3 a4 = 2) ∧ a3 = decide (ix6 a0 a1 a2 a3 a4 = 3) ∧ a4 = decide (ix6 a0 a1 a2 a3 a4 = 4) ∧ a5 = decide (ix6 a0 a1 a2 a3 a4 = 5)) := by decide +kernel
theorem b6_1 : ∀ i, i < 6 → f_bitCount (b6 (decide (i = 0)) (decide (i = 1)) (decide (i = 2)) (decide (i = 3)) (decide (i = 4)) (decide (i = 5))) = 1 := by decide +kernel
theorem lt6 {j : Nat} (h : j < 6) : j = 0 ∨ j = 1 ∨ j = 2 ∨ j = 3 ∨ j = 4 ∨ j = 5 := by omega
/-- a single wrong report -/
theorem sgl_ix {f : Nat → Bool} (h : sgl f = true) : ∃ i, i < 6 ∧ bits6 f = (1 : Int32) <<< (Int32.ofNat i &&& 31) ∧ ∀ j, j < 6 → f j = decide (i = j) := by
  have h1 : f_bitCount (bits6 f) = 1 := of_decide_eq_true h
  obtain ⟨e1, e2, e3, e4, e5, e6, e7, e8⟩ := (b6_s (f 0) (f 1) (f 2) (f 3) (f 4) (f 5)).resolve_left (fun z => z h1)
  refine ⟨_, e2, e1, fun j hj => ?_⟩
  rcases lt6 hj with rfl | rfl | rfl | rfl | rfl | rfl
  · exact e3
  · exact e4
  · exact e5
  · exact e6
  · exact e7
  · exact e8
theorem sgl_of {f : Nat → Bool} {i : Nat} (hi : i < 6) (h : ∀ j, j < 6 → f j = decide (i = j)) : sgl f = true := by
  unfold sgl bits6
  rw [h 0 (by decide), h 1 (by decide), h 2 (by decide), h 3 (by decide), h 4 (by decide), h 5 (by decide)]
  exact decide_eq_true (b6_1 i hi)
def fstJ (F : Nat → Bool) : Nat → Nat → Int32
  | 0, _ => -3
  | n + 1, i => if F i = true then Int32.ofNat i else fstJ F n (i + 1)
theorem fstJ_0 (F : Nat → Bool) : ∀ m i, (∀ j, i ≤ j → j < i + m → F j = false) → fstJ F m i = -3
  | 0, _, _ => rfl
  | m + 1, i, h => by
    unfold fstJ
    rw [if_neg (by rw [h i (Nat.le_refl _) (by omega)]; decide)]
    exact fstJ_0 F m (i + 1) (fun j h1 h2 => h j (by omega) (by omega))
theorem fstJ_eq (F P : Nat → Bool) (m : Nat) : ∀ n i, (∀ j, i ≤ j → j < i + n → F j = P j) → (∀ j, i + n ≤ j → j < i + n + m → F j = false) → fstJ F (n + m) i = fstJ P n i
  | 0, i, _, h2 => by
    rw [Nat.zero_add]
    exact fstJ_0 F m i (fun j a b => h2 j (by omega) (by omega))
  | n + 1, i, h1, h2 => by
    rw [show n + 1 + m = (n + m) + 1 by omega]
    unfold fstJ
    rw [h1 i (Nat.le_refl _) (by omega), fstJ_eq F P m n (i + 1) (fun j a b => h1 j (by omega) (by omega)) (fun j a b => h2 j (by omega) (by omega))]
def anyS (RP : List (Nat × Nat × Nat)) : Nat → Nat → Nat → Bool
  | 0, _, _ => false
  | n + 1, s, j => (sgl (wrT s 16 RP) && wrT s 16 RP j) || anyS RP n (s + 1) j
theorem anyS_iff (RP : List (Nat × Nat × Nat)) (j : Nat) : ∀ n s, anyS RP n s j = true ↔ ∃ t, s ≤ t ∧ t < s + n ∧ sgl (wrT t 16 RP) = true ∧ wrT t 16 RP j = true
  | 0, s => ⟨fun h => (by cases h), fun ⟨t, h1, h2, _⟩ => absurd h2 (by omega)⟩
  | n + 1, s => by
    unfold anyS
    rw [Bool.or_eq_true, Bool.and_eq_true, anyS_iff RP j n (s + 1)]
    refine ⟨fun h => h.elim (fun z => ⟨s, Nat.le_refl _, by omega, z.1, z.2⟩) (fun ⟨t, h1, h2, h3⟩ => ⟨t, by omega, by omega, h3⟩), fun ⟨t, h1, h2, h3, h4⟩ => ?_⟩
    by_cases e : t = s
    · subst e
      exact Or.inl ⟨h3, h4⟩
    · exact Or.inr ⟨t, by omega, by omega, h3, h4⟩
theorem bits6_congr {f g : Nat → Bool} (h : ∀ j, j < 6 → f j = g j) : bits6 f = bits6 g := by
  unfold bits6
  rw [h 0 (by decide), h 1 (by decide), h 2 (by decide), h 3 (by decide), h 4 (by decide), h 5 (by decide)]
theorem b6_lst : ∀ a0 a1 a2 a3 a4 a5 : Bool, lstL (b6 a0 a1 a2 a3 a4 a5) 12 0 = if a0 then 0 else if a1 then 1 else if a2 then 2 else if a3 then 3 else if a4 then 4 else if a5 then 5 else lstL 0 12 0 := by decide +kernel
theorem lst_0 : lstL 0 12 0 = -3 := by decide +kernel
theorem lst_b (F : Nat → Bool) : lstL (bits6 F) 12 0 = fstJ F 6 0 := by
  unfold bits6
  rw [b6_lst, lst_0]
  rfl
set_option maxHeartbeats 4000000 in
theorem t_cli0 {d : Nat} {Q : KO → Prop} {h : KH} (hw : WF h) (hd : 2 ≤ d) (hQ : Wp d 134 4 ([some (.ref 0), some (.int (0)), some (.int (0)), none]) [] h Q) : Cl d 134 [.ref 0] h Q := by
  refine Cl.of (ls := [some (.ref 0), none, none, none]) rfl rfl ?_
  refine Wp.seg 4 (pc1 := 4) (ls1 := [some (.ref 0), some (.int (0)), some (.int (0)), none]) (st1 := []) rfl ?_
  exact hQ
set_option maxHeartbeats 4000000 in
theorem t_cli1 {d : Nat} {Q : KO → Prop} {h : KH} (hw : WF h) {RP : List (Nat × Nat × Nat)} (hc : crep h RP (h.2.1 1 11)) (hl : RP.length ≤ 6) (hx : ∀ x ∈ RP, x.1 < 16 ∧ x.2.1 < 12 ∧ x.2.2 < 12) {x : Int32} {s : Nat} {z : Option Value} (hs : s < 240) (hd : 2 ≤ d) (hQ : (¬ (bits6 (wrT s 16 RP)) = 0 → (¬ (f_bitCount (bits6 (wrT s 16 RP))) = (1 : Int32) → Wp d 134 4 ([some (.ref 0), some (.int (x)), some (.int ((Int32.ofNat s) + 1)), some (.int (bits6 (wrT s 16 RP)))]) [] h Q) ∧ (¬ (¬ (f_bitCount (bits6 (wrT s 16 RP))) = (1 : Int32)) → Wp d 134 4 ([some (.ref 0), some (.int (x ||| (bits6 (wrT s 16 RP)))), some (.int ((Int32.ofNat s) + 1)), some (.int (bits6 (wrT s 16 RP)))]) [] h Q)) ∧ (¬ (¬ (bits6 (wrT s 16 RP)) = 0) → Q (some (.int (-3)), h))) : Wp d 134 4 [some (.ref 0), some (.int (x)), some (.int (Int32.ofNat s)), z] [] h Q := by
  refine Wp.seg 2 (pc1 := 8) (ls1 := [some (.ref 0), some (.int (x)), some (.int (Int32.ofNat s)), z]) (st1 := [.int (240), .int (Int32.ofNat s)]) rfl ?_
  refine Wp.if2 rfl (fun c1 => absurd c1 (n240 hs)) (fun c1 => ?_)
  refine Wp.seg 2 (pc1 := 13) (ls1 := [some (.ref 0), some (.int (x)), some (.int (Int32.ofNat s)), z]) (st1 := [.int (Int32.ofNat s), .ref 0]) rfl ?_
  refine Wp.invV (d2 := 1) (as := [.ref 0, .int (Int32.ofNat s)]) (r := []) (t := (10, 0)) rfl rfl rfl rfl (WF.t hw 0 rfl) rfl rfl ⟨rfl, rfl⟩ (by omega) (s_wrongs hw hs (Nat.le_refl _) hc hl hx ?_)
  show Wp d 134 16 [some (.ref 0), some (.int (x)), some (.int (Int32.ofNat s)), z] [.int (bits6 (wrT s 16 RP))] h Q
  refine Wp.seg 2 (pc1 := 18) (ls1 := [some (.ref 0), some (.int (x)), some (.int (Int32.ofNat s)), some (.int (bits6 (wrT s 16 RP)))]) (st1 := [.int (bits6 (wrT s 16 RP))]) rfl ?_
  refine Wp.if1 rfl (fun (c2 : ¬ (bits6 (wrT s 16 RP)) = 0) => ?_) (fun (c2 : ¬ (¬ (bits6 (wrT s 16 RP)) = 0)) => ?_)
  · refine Wp.seg 1 (pc1 := 25) (ls1 := [some (.ref 0), some (.int (x)), some (.int (Int32.ofNat s)), some (.int (bits6 (wrT s 16 RP)))]) (st1 := [.int (bits6 (wrT s 16 RP))]) rfl ?_
    refine Wp.inv (d2 := 0) (as := [.int (bits6 (wrT s 16 RP))]) (r := []) rfl rfl rfl rfl rfl rfl (by omega) (s_bitCount (Nat.zero_le _) ?_)
    show Wp d 134 28 [some (.ref 0), some (.int (x)), some (.int (Int32.ofNat s)), some (.int (bits6 (wrT s 16 RP)))] [.int (f_bitCount (bits6 (wrT s 16 RP)))] h Q
    refine Wp.seg 1 (pc1 := 29) (ls1 := [some (.ref 0), some (.int (x)), some (.int (Int32.ofNat s)), some (.int (bits6 (wrT s 16 RP)))]) (st1 := [.int (1), .int (f_bitCount (bits6 (wrT s 16 RP)))]) rfl ?_
    refine Wp.if2 rfl (fun (c3 : ¬ (f_bitCount (bits6 (wrT s 16 RP))) = (1 : Int32)) => ?_) (fun (c3 : ¬ (¬ (f_bitCount (bits6 (wrT s 16 RP))) = (1 : Int32))) => ?_)
    · refine Wp.seg 2 (pc1 := 4) (ls1 := [some (.ref 0), some (.int (x)), some (.int ((Int32.ofNat s) + 1)), some (.int (bits6 (wrT s 16 RP)))]) (st1 := []) rfl ?_
      exact ((hQ.1 c2).1 c3)
    · refine Wp.seg 6 (pc1 := 4) (ls1 := [some (.ref 0), some (.int (x ||| (bits6 (wrT s 16 RP)))), some (.int ((Int32.ofNat s) + 1)), some (.int (bits6 (wrT s 16 RP)))]) (st1 := []) rfl ?_
      exact ((hQ.1 c2).2 c3)
  · refine Wp.seg 1 (pc1 := 23) (ls1 := [some (.ref 0), some (.int (x)), some (.int (Int32.ofNat s)), some (.int (bits6 (wrT s 16 RP)))]) (st1 := [.int (-3)]) rfl ?_
    exact Wp.reti rfl rfl (hQ.2 c2)
set_option maxHeartbeats 4000000 in
theorem t_cli2 {d : Nat} {Q : KO → Prop} {h : KH} (hw : WF h) {x : Int32} {z : Option Value} (hd : 2 ≤ d) (hQ : Q (some (.int (lstL x 12 0)), h)) : Wp d 134 4 [some (.ref 0), some (.int (x)), some (.int (240)), z] [] h Q := by
  refine Wp.seg 2 (pc1 := 8) (ls1 := [some (.ref 0), some (.int (x)), some (.int (240)), z]) (st1 := [.int (240), .int (240)]) rfl ?_
  refine Wp.if2 rfl (fun c1 => ?_) (fun c1 => absurd (show (240 : Int32) ≤ (240 : Int32) by decide) c1)
  refine Wp.seg 1 (pc1 := 43) (ls1 := [some (.ref 0), some (.int (x)), some (.int (240)), z]) (st1 := [.int (x)]) rfl ?_
  refine Wp.inv (d2 := 0) (as := [.int (x)]) (r := []) rfl rfl rfl rfl rfl rfl (by omega) (s_least ?_)
  show Wp d 134 46 [some (.ref 0), some (.int (x)), some (.int (240)), z] [.int (lstL x 12 0)] h Q
  exact Wp.reti rfl rfl hQ
set_option maxHeartbeats 4000000 in
theorem t_mli0 {d : Nat} {Q : KO → Prop} {h : KH} (hw : WF h) {RP : List (Nat × Nat × Nat)} (hl : RP.length ≤ 6) (h9 : h.2.2.1 60 9 = Int32.ofNat RP.length) (hm : mrep (h.2.2.1 60) RP) {s : Nat} (hs : s < 240) (ey : lstF (fitM RP (-1)) 240 0 = Int32.ofNat s) (hd : 3 ≤ d) (hQ : Q (some (.int (-3)), h)) : Cl d 254 [.ref 59] h Q := by
  refine Cl.of (ls := [some (.ref 59), none]) rfl rfl ?_
  refine Wp.seg 2 (pc1 := 2) (ls1 := [some (.ref 59), none]) (st1 := [.int (-1), .ref 59]) rfl ?_
  refine Wp.invV (d2 := 2) (as := [.ref 59, .int (-1)]) (r := []) (t := (11, 0)) rfl rfl rfl rfl (WF.t hw 59 rfl) rfl rfl ⟨rfl, rfl⟩ (by omega) (s_strS hw hl h9 hm ey ?_)
  show Wp d 254 5 [some (.ref 59), none] [.int (Int32.ofNat s)] h Q
  refine Wp.if1 rfl (fun c1 => absurd c1 (nlt hs)) (fun c1 => ?_)
  refine Wp.seg 1 (pc1 := 10) (ls1 := [some (.ref 59), none]) (st1 := [.int (-3)]) rfl ?_
  exact Wp.reti rfl rfl hQ
set_option maxHeartbeats 4000000 in
theorem t_mli1 {d : Nat} {Q : KO → Prop} {h : KH} (hw : WF h) {RP : List (Nat × Nat × Nat)} (hl : RP.length ≤ 6) (h9 : h.2.2.1 60 9 = Int32.ofNat RP.length) (hm : mrep (h.2.2.1 60) RP) (ey : lstF (fitM RP (-1)) 240 0 = -1) (hd : 3 ≤ d) (hQ : Wp d 254 13 ([some (.ref 59), some (.int (0))]) [] h Q) : Cl d 254 [.ref 59] h Q := by
  refine Cl.of (ls := [some (.ref 59), none]) rfl rfl ?_
  refine Wp.seg 2 (pc1 := 2) (ls1 := [some (.ref 59), none]) (st1 := [.int (-1), .ref 59]) rfl ?_
  refine Wp.invV (d2 := 2) (as := [.ref 59, .int (-1)]) (r := []) (t := (11, 0)) rfl rfl rfl rfl (WF.t hw 59 rfl) rfl rfl ⟨rfl, rfl⟩ (by omega) (s_strN hw hl h9 hm ey ?_)
  show Wp d 254 5 [some (.ref 59), none] [.int (-1)] h Q
  refine Wp.if1 rfl (fun c1 => ?_) (fun c1 => absurd (show (-1 : Int32) < 0 by decide) c1)
  refine Wp.seg 2 (pc1 := 13) (ls1 := [some (.ref 59), some (.int (0))]) (st1 := []) rfl ?_
  exact hQ
set_option maxHeartbeats 4000000 in
theorem t_mli2 {d : Nat} {Q : KO → Prop} {h : KH} (hw : WF h) {RP : List (Nat × Nat × Nat)} (hl : RP.length ≤ 6) (h9 : h.2.2.1 60 9 = Int32.ofNat RP.length) (hm : mrep (h.2.2.1 60) RP) {i : Nat} (hd : 3 ≤ d) (hQ : ((Int32.ofNat RP.length) ≤ (Int32.ofNat i) → Q (some (.int (-3)), h)) ∧ (¬ ((Int32.ofNat RP.length) ≤ (Int32.ofNat i)) → ((lstF (fitM RP (Int32.ofNat i)) 240 0) < 0 → Wp d 254 13 ([some (.ref 59), some (.int ((Int32.ofNat i) + 1))]) [] h Q) ∧ (¬ ((lstF (fitM RP (Int32.ofNat i)) 240 0) < 0) → Q (some (.int (Int32.ofNat i)), h)))) : Wp d 254 13 [some (.ref 59), some (.int (Int32.ofNat i))] [] h Q := by
  refine Wp.seg 2 (pc1 := 15) (ls1 := [some (.ref 59), some (.int (Int32.ofNat i))]) (st1 := [.ref 59, .int (Int32.ofNat i)]) rfl ?_
  refine Wp.gr (t := (11, 0)) (v := some (60)) rfl (WF.t hw 59 rfl) rfl (WF.r hw 59 0 58 rfl) ?_
  show Wp d 254 18 [some (.ref 59), some (.int (Int32.ofNat i))] [.ref 60, .int (Int32.ofNat i)] h Q
  refine Wp.seg 1 (pc1 := 20) (ls1 := [some (.ref 59), some (.int (Int32.ofNat i))]) (st1 := [.int (9), .ref 60, .int (Int32.ofNat i)]) rfl ?_
  refine Wp.iald (j := 9) (k := 20) (n := 585) rfl (WF.t hw 60 rfl) rfl rfl (by decide) (by decide) ?_
  rw [show h.2.2.1 60 9 = Int32.ofNat RP.length from h9]
  refine Wp.if2 rfl (fun (c1 : (Int32.ofNat RP.length) ≤ (Int32.ofNat i)) => ?_) (fun (c1 : ¬ ((Int32.ofNat RP.length) ≤ (Int32.ofNat i))) => ?_)
  · refine Wp.seg 1 (pc1 := 42) (ls1 := [some (.ref 59), some (.int (Int32.ofNat i))]) (st1 := [.int (-3)]) rfl ?_
    exact Wp.reti rfl rfl (hQ.1 c1)
  · refine Wp.seg 2 (pc1 := 26) (ls1 := [some (.ref 59), some (.int (Int32.ofNat i))]) (st1 := [.int (Int32.ofNat i), .ref 59]) rfl ?_
    refine Wp.invV (d2 := 2) (as := [.ref 59, .int (Int32.ofNat i)]) (r := []) (t := (11, 0)) rfl rfl rfl rfl (WF.t hw 59 rfl) rfl rfl ⟨rfl, rfl⟩ (by omega) (s_str hw hl h9 hm (Nat.le_refl _) ?_)
    show Wp d 254 29 [some (.ref 59), some (.int (Int32.ofNat i))] [.int (lstF (fitM RP (Int32.ofNat i)) 240 0)] h Q
    refine Wp.if1 rfl (fun (c2 : (lstF (fitM RP (Int32.ofNat i)) 240 0) < 0) => ?_) (fun (c2 : ¬ ((lstF (fitM RP (Int32.ofNat i)) 240 0) < 0)) => ?_)
    · refine Wp.seg 2 (pc1 := 13) (ls1 := [some (.ref 59), some (.int ((Int32.ofNat i) + 1))]) (st1 := []) rfl ?_
      exact ((hQ.2 c1).1 c2)
    · refine Wp.seg 1 (pc1 := 33) (ls1 := [some (.ref 59), some (.int (Int32.ofNat i))]) (st1 := [.int (Int32.ofNat i)]) rfl ?_
      exact Wp.reti rfl rfl ((hQ.2 c1).2 c2)
theorem s_cliZ {d : Nat} {Q : KO → Prop} {h : KH} (hw : WF h) {RP : List (Nat × Nat × Nat)} (hc : crep h RP (h.2.1 1 11)) (hl : RP.length ≤ 6) (hx : ∀ x ∈ RP, x.1 < 16 ∧ x.2.1 < 12 ∧ x.2.2 < 12) (hd : 2 ≤ d) (hQ : Q (some (.int (-3)), h)) {s0 : Nat} (h0 : bits6 (wrT s0 16 RP) = 0) (hs0 : s0 < 240) : ∀ n s x z, s + n = 240 → s ≤ s0 → Wp d 134 4 [some (.ref 0), some (.int x), some (.int (Int32.ofNat s)), z] [] h Q := by
  intro n
  induction n with
  | zero =>
    intro s x z e1 e2
    omega
  | succ n ih =>
    intro s x z e1 e2
    refine t_cli1 hw hc hl hx (by omega) hd ⟨fun c => ⟨fun _ => ?_, fun _ => ?_⟩, fun _ => hQ⟩
    · rw [show Int32.ofNat s + (1 : Int32) = Int32.ofNat (s + 1) from (Int32.ofNat_add s 1).symm]
      exact ih (s + 1) _ _ (by omega) (by have : s ≠ s0 := (fun e => c (e ▸ h0)); omega)
    · rw [show Int32.ofNat s + (1 : Int32) = Int32.ofNat (s + 1) from (Int32.ofNat_add s 1).symm]
      exact ih (s + 1) _ _ (by omega) (by have : s ≠ s0 := (fun e => c (e ▸ h0)); omega)
theorem s_cliL {d : Nat} {Q : KO → Prop} {h : KH} (hw : WF h) {RP : List (Nat × Nat × Nat)} (hc : crep h RP (h.2.1 1 11)) (hl : RP.length ≤ 6) (hx : ∀ x ∈ RP, x.1 < 16 ∧ x.2.1 < 12 ∧ x.2.2 < 12) (hd : 2 ≤ d) (h0 : ∀ s, s < 240 → ¬ bits6 (wrT s 16 RP) = 0) : ∀ n s (F : Nat → Bool) z, s + n = 240 → Q (some (.int (lstL (bits6 (fun j => F j || anyS RP n s j)) 12 0)), h) → Wp d 134 4 [some (.ref 0), some (.int (bits6 F)), some (.int (Int32.ofNat s)), z] [] h Q := by
  intro n
  induction n with
  | zero =>
    intro s F z e hQ
    have : s = 240 := by omega
    subst this
    refine t_cli2 hw hd ?_
    rw [bits6_congr (f := F) (g := fun j => F j || anyS RP 0 240 j) (fun j _ => (Bool.or_false _).symm)]
    exact hQ
  | succ n ih =>
    intro s F z e hQ
    refine t_cli1 hw hc hl hx (by omega) hd ⟨fun c => ⟨fun c2 => ?_, fun c2 => ?_⟩, fun c => absurd (Classical.not_not.mp c) (h0 s (by omega))⟩
    · rw [show Int32.ofNat s + (1 : Int32) = Int32.ofNat (s + 1) from (Int32.ofNat_add s 1).symm]
      refine ih (s + 1) F _ (by omega) ?_
      have e1 : sgl (wrT s 16 RP) = false := decide_eq_false c2
      rw [bits6_congr (f := fun j => F j || anyS RP n (s + 1) j) (g := fun j => F j || anyS RP (n + 1) s j) (fun j _ => by
        show _ = (F j || ((sgl (wrT s 16 RP) && wrT s 16 RP j) || anyS RP n (s + 1) j))
        rw [e1, Bool.false_and, Bool.false_or])]
      exact hQ
    · rw [show Int32.ofNat s + (1 : Int32) = Int32.ofNat (s + 1) from (Int32.ofNat_add s 1).symm]
      have e1 : sgl (wrT s 16 RP) = true := decide_eq_true (Classical.not_not.mp c2)
      obtain ⟨i, i1, i2, i3⟩ := sgl_ix e1
      have i2' : bits6 F ||| bits6 (wrT s 16 RP) = bits6 (fun j => F j || decide (i = j)) := by rw [i2]; exact bits6_or F i1
      rw [i2']
      refine ih (s + 1) _ _ (by omega) ?_
      rw [bits6_congr (f := fun j => (F j || decide (i = j)) || anyS RP n (s + 1) j) (g := fun j => F j || anyS RP (n + 1) s j) (fun j hj => by
        show _ = (F j || ((sgl (wrT s 16 RP) && wrT s 16 RP j) || anyS RP n (s + 1) j))
        rw [e1, Bool.true_and, i3 j hj, Bool.or_assoc])]
      exact hQ
theorem s_mliL {d : Nat} {Q : KO → Prop} {h : KH} (hw : WF h) {RP : List (Nat × Nat × Nat)} (hl : RP.length ≤ 6) (h9 : h.2.2.1 60 9 = Int32.ofNat RP.length) (hm : mrep (h.2.2.1 60) RP) (hd : 3 ≤ d) : ∀ n i, i + n = RP.length → Q (some (.int (fstJ (fun j => decide (cntF (fitM RP (Int32.ofNat j)) 240 0 ≠ 0)) n i)), h) → Wp d 254 13 [some (.ref 59), some (.int (Int32.ofNat i))] [] h Q := by
  intro n
  have sg : ∀ i, lstF (fitM RP (Int32.ofNat i)) 240 0 < 0 ↔ cntF (fitM RP (Int32.ofNat i)) 240 0 = 0 := fun i => by
    rw [lstF_eq]
    by_cases e : cntF (fitM RP (Int32.ofNat i)) 240 0 = 0
    · rw [if_pos e]
      exact ⟨fun _ => e, fun _ => by decide⟩
    · rw [if_neg e]
      exact ⟨fun c => absurd c (nlt (lstN_lt _ _ _ (by decide))), fun c => absurd c e⟩
  induction n with
  | zero =>
    intro i e hQ
    exact t_mli2 hw hl h9 hm hd ⟨fun _ => hQ, fun c => absurd ((nle (by omega) (by omega)).mpr (by omega)) c⟩
  | succ n ih =>
    intro i e hQ
    refine t_mli2 hw hl h9 hm hd ⟨fun c => absurd ((nle (by omega) (by omega)).mp c) (by omega), fun _ => ⟨fun c => ?_, fun c => ?_⟩⟩
    · rw [show Int32.ofNat i + (1 : Int32) = Int32.ofNat (i + 1) from (Int32.ofNat_add i 1).symm]
      refine ih (i + 1) (by omega) ?_
      unfold fstJ at hQ
      rw [if_neg (fun z => (of_decide_eq_true z) ((sg i).mp c))] at hQ
      exact hQ
    · unfold fstJ at hQ
      have nz : cntF (fitM RP (Int32.ofNat i)) 240 0 ≠ 0 := fun z => c ((sg i).mpr z)
      rw [if_pos (decide_eq_true nz)] at hQ
      exact hQ
theorem J_liar {h : KH} (hi : Inv h) : JI h 134 [.ref 0] 254 [.ref 59] := by
  have hw := hi.1
  obtain ⟨_, ⟨A, RL, n, c, dn, en, RP, hb, hc, h9, hl, hm⟩, ho, hf⟩ := id hi
  have hx := mrep_rng hm
  have z6 : bits6 (fun _ => false) = 0 := rfl
  by_cases e : cntF (fitM RP (-1)) 240 0 = 0
  · have none0 : ∀ s, s < 240 → ¬ bits6 (wrT s 16 RP) = 0 := fun s hs z => by
      have := (cntF_0 _ 240 0).mp e s (Nat.zero_le _) (by omega)
      rw [(i_w0 RP hl s).mp z] at this
      cases this
    have ey : lstF (fitM RP (-1)) 240 0 = -1 := by rw [lstF_eq, if_pos e]
    have key : fstJ (fun j => anyS RP 240 0 j) 6 0 = fstJ (fun j => decide (cntF (fitM RP (Int32.ofNat j)) 240 0 ≠ 0)) RP.length 0 := by
      have := fstJ_eq (fun j => anyS RP 240 0 j) (fun j => decide (cntF (fitM RP (Int32.ofNat j)) 240 0 ≠ 0)) (6 - RP.length) RP.length 0 (fun j _ hj => ?_) (fun j hj _ => ?_)
      · rw [show RP.length + (6 - RP.length) = 6 by omega] at this
        exact this
      · rw [Bool.eq_iff_iff, anyS_iff, decide_eq_true_iff, ne_eq, cntF_0]
        refine ⟨fun ⟨t, t1, t2, t3, t4⟩ z => ?_, fun z => ?_⟩
        · have f0 := z t t1 t2
          obtain ⟨i, i1, i2, i3⟩ := sgl_ix t3
          have ij : i = j := by
            have := i3 j (by omega)
            rw [t4] at this
            exact of_decide_eq_true this.symm
          subst ij
          have : fitM RP (Int32.ofNat i) t = true := by
            unfold fitM
            rw [scanG_iff]
            intro q _ hq
            unfold okW
            by_cases e : q = i
            · subst e
              rw [decide_eq_true rfl]
              rfl
            · rw [i3 q (by omega), decide_eq_false (p := i = q) (fun z => e z.symm)]
              exact Bool.or_true _
          rw [this] at f0
          cases f0
        · refine Classical.byContradiction (fun no => z (fun t t1 t2 => ?_))
          cases hf2 : fitM RP (Int32.ofNat j) t with
          | false => rfl
          | true =>
            exfalso
            unfold fitM at hf2
            rw [scanG_iff] at hf2
            have oth : ∀ q, q < 6 → q ≠ j → wrT t 16 RP q = false := fun q hq hqj => by
              by_cases e2 : q < RP.length
              · have := hf2 q (Nat.zero_le _) (by omega)
                unfold okW at this
                rw [decide_eq_false (fun z => hqj ((kof_eq (by omega) (by omega)).mp z)), Bool.false_or] at this
                cases h2 : wrT t 16 RP q with
                | false => rfl
                | true => rw [h2] at this; cases this
              · unfold wrT
                rw [rget_ge RP (by omega)]
            cases hj2 : wrT t 16 RP j with
            | false =>
              refine none0 t (by omega) ((bits6_z _).mpr (fun q hq => ?_))
              by_cases e3 : q = j
              · subst e3
                exact hj2
              · exact oth q hq e3
            | true =>
              refine no ⟨t, t1, t2, sgl_of (i := j) (by omega) (fun q hq => ?_), hj2⟩
              by_cases e3 : q = j
              · subst e3
                rw [hj2]
                exact (decide_eq_true rfl).symm
              · rw [oth q hq e3]
                exact (decide_eq_false (fun z => e3 z.symm)).symm
      · cases h2 : anyS RP 240 0 j with
        | false => rfl
        | true =>
          obtain ⟨t, t1, t2, t3, t4⟩ := (anyS_iff RP j 240 0).mp h2
          unfold wrT at t4
          rw [rget_ge RP (by omega)] at t4
          cases t4
    refine JI_same (v := fstJ (fun j => anyS RP 240 0 j) 6 0) (dc := 2) (dm := 3) hi (t_cli0 hw (Nat.le_refl _) ?_) (t_mli1 hw hl h9 hm ey (Nat.le_refl _) (s_mliL hw hl h9 hm (Nat.le_refl _) RP.length 0 (Nat.zero_add _) (by rw [key])))
    refine s_cliL hw hc hl hx (Nat.le_refl _) none0 240 0 (fun _ => false) none rfl ?_
    rw [lst_b, show (fun j => false || anyS RP 240 0 j) = (fun j => anyS RP 240 0 j) from funext fun j => Bool.false_or _]
  · have ey : lstF (fitM RP (-1)) 240 0 = Int32.ofNat (lstN (fitM RP (-1)) 240 0) := by rw [lstF_eq, if_neg e]
    have : ∃ s, s < 240 ∧ bits6 (wrT s 16 RP) = 0 := Classical.byContradiction (fun no => e ((cntF_0 _ 240 0).mpr (fun s _ hs => by
      cases h2 : fitM RP (-1) s with
      | false => rfl
      | true => exact absurd ⟨s, by omega, (i_w0 RP hl s).mpr h2⟩ no)))
    obtain ⟨s0, h1, h2⟩ := this
    exact JI_same (v := -3) (dc := 2) (dm := 3) hi (t_cli0 hw (Nat.le_refl _) (s_cliZ (Q := fun o => o = (some (.int (-3)), h)) hw hc hl hx (Nat.le_refl _) rfl h2 h1 240 0 0 none rfl (Nat.zero_le _))) (t_mli0 hw hl h9 hm (lstN_lt _ 240 0 (by decide)) ey (Nat.le_refl _) rfl)
