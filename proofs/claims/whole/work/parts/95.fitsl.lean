/-! KM: the reference: fits, strange: the loops -/
def okE (s t : Nat) (y : Int32) (RP : List (Nat × Nat × Nat)) (j : Nat) : Bool := decide (Int32.ofNat j = y) || !wrE s t RP j
def okW (s t : Nat) (y : Int32) (RP : List (Nat × Nat × Nat)) (j : Nat) : Bool := decide (Int32.ofNat j = y) || !wrT s t RP j
def fitM (RP : List (Nat × Nat × Nat)) (y : Int32) (s : Nat) : Bool := scanG (okW s 16 y RP) RP.length 0
theorem okW_0 (s : Nat) (y : Int32) (RP : List (Nat × Nat × Nat)) (n i : Nat) : scanG (okW s 0 y RP) n i = true := (scanG_iff _ n i).mpr (fun j _ _ => by
  unfold okW
  rw [wrT_0]
  exact Bool.or_true _)
theorem okW_s (s t : Nat) (y : Int32) (RP : List (Nat × Nat × Nat)) (n : Nat) : scanG (okW s (t + 1) y RP) n 0 = (scanG (okW s t y RP) n 0 && scanG (okE s t y RP) n 0) := by
  have key : ∀ j, okW s (t + 1) y RP j = (okW s t y RP j && okE s t y RP j) := fun j => by
    unfold okW okE
    rw [wrT_s]
    cases decide (Int32.ofNat j = y) <;> cases wrT s t RP j <;> cases wrE s t RP j <;> rfl
  rw [Bool.eq_iff_iff, Bool.and_eq_true, scanG_iff, scanG_iff, scanG_iff]
  refine ⟨fun h => ⟨fun j h1 h2 => ?_, fun j h1 h2 => ?_⟩, fun h j h1 h2 => ?_⟩
  · have := h j h1 h2
    rw [key, Bool.and_eq_true] at this
    exact this.1
  · have := h j h1 h2
    rw [key, Bool.and_eq_true] at this
    exact this.2
  · rw [key, Bool.and_eq_true]
    exact ⟨h.1 j h1 h2, h.2 j h1 h2⟩
theorem inB_c {c l m : Nat} (hc : c < 12) : inB (Int32.ofNat c) (l : Int) (m : Int) = !(decide (c < l) || decide (m < c)) := by
  unfold inB
  rw [znat (n := c) (by omega)]
  by_cases h1 : c < l
  · rw [decide_eq_true h1]
    exact decide_eq_false (by omega)
  · by_cases h2 : m < c
    · rw [decide_eq_false h1, decide_eq_true h2]
      exact decide_eq_false (by omega)
    · rw [decide_eq_false h1, decide_eq_false h2]
      exact decide_eq_true (by omega)
theorem s_fitI {d : Nat} {Q : KO → Prop} {h : KH} (hw : WF h) {s : Nat} {s' y T : Int32} {t : Nat} {RP : List (Nat × Nat × Nat)} (hs : s < 240) (ht : t < 16) (hd : 1 ≤ d) (hl : RP.length ≤ 6) (h9 : h.2.2.1 60 9 = Int32.ofNat RP.length) (hm : mrep (h.2.2.1 60) RP) : ∀ (n i : Nat) (b : Bool) (z9 : Option Value), i + n = RP.length → (∀ z9, Wp d 251 39 [some (.ref 59), some (.int s'), some (.int y), some (.int T), some (.int (Int32.ofNat (ptA s t).1)), some (.int (Int32.ofNat (ptA s t).2)), some (.int (b32 (b && scanG (okE s t y RP) n i))), some (.int (Int32.ofNat t)), some (.int (Int32.ofNat RP.length)), z9] [] h Q) → Wp d 251 39 [some (.ref 59), some (.int s'), some (.int y), some (.int T), some (.int (Int32.ofNat (ptA s t).1)), some (.int (Int32.ofNat (ptA s t).2)), some (.int (b32 b)), some (.int (Int32.ofNat t)), some (.int (Int32.ofNat i)), z9] [] h Q := by
  intro n
  have po := ptA_ok hs t
  induction n with
  | zero =>
    intro i b z9 e hQ
    have : i = RP.length := by omega
    subst this
    have := hQ z9
    rw [show scanG (okE s t y RP) 0 RP.length = true from rfl, Bool.and_true] at this
    exact this
  | succ n ih =>
    intro i b z9 e hQ
    have ge : ¬ (Int32.ofNat RP.length ≤ Int32.ofNat i) := fun c => absurd ((nle (by omega) (by omega)).mp c) (by omega)
    have ii : Int32.ofNat i + (1 : Int32) = Int32.ofNat (i + 1) := (Int32.ofNat_add i 1).symm
    have nx : ∀ b' z, b' = (b && okE s t y RP i) → Wp d 251 39 [some (.ref 59), some (.int s'), some (.int y), some (.int T), some (.int (Int32.ofNat (ptA s t).1)), some (.int (Int32.ofNat (ptA s t).2)), some (.int (b32 b')), some (.int (Int32.ofNat t)), some (.int (Int32.ofNat i + 1)), z] [] h Q := fun b' z eb => by
      rw [ii]
      refine ih (i + 1) b' z (by omega) (fun z9 => ?_)
      have := hQ z9
      rw [show scanG (okE s t y RP) (n + 1) i = (okE s t y RP i && scanG (okE s t y RP) n (i + 1)) from rfl, ← Bool.and_assoc, ← eb] at this
      exact this
    cases b with
    | false => exact t_fit3 hw po.1 po.2 h9 ge (by omega) hd (nx false _ rfl)
    | true =>
      obtain ⟨k, l, m, g1, g2, g3, g4, g5, g6, g7⟩ := mrep_get hm (show i < RP.length by omega)
      have we : wrE s t RP i = (decide (k = t) && wrG s (k, l, m)) := by
        unfold wrE
        rw [g1]
      refine t_fit4 hw po.1 po.2 h9 ge (by omega) g6 g7 g2 g3 g4 hd ⟨fun c => nx true _ ?_, fun c => ⟨fun c2 => nx true _ ?_, fun c2 => ⟨fun c3 => nx false _ ?_, fun c3 => nx true _ ?_⟩⟩⟩
      · unfold okE
        rw [decide_eq_true c]
        rfl
      · have : ¬ k = t := fun z => c2 (by rw [z])
        unfold okE
        rw [we, decide_eq_false this, Bool.false_and]
        exact (Bool.or_true _).symm
      · have e2 : k = t := (kof_eq (by omega) (by omega)).mp (Classical.not_not.mp c2)
        subst e2
        rw [inB_c po.1] at c3
        unfold okE
        rw [we, decide_eq_false c, decide_eq_true rfl, Bool.true_and, Bool.false_or]
        exact c3.symm
      · have e2 : k = t := (kof_eq (by omega) (by omega)).mp (Classical.not_not.mp c2)
        subst e2
        rw [inB_c po.1] at c3
        unfold okE
        rw [we, decide_eq_false c, decide_eq_true rfl, Bool.true_and, Bool.false_or]
        exact c3.symm
theorem s_fitL {d : Nat} {Q : KO → Prop} {h : KH} (hw : WF h) {s : Nat} {s' y : Int32} {RP : List (Nat × Nat × Nat)} (hs : s < 240) (hd : 1 ≤ d) (hl : RP.length ≤ 6) (h9 : h.2.2.1 60 9 = Int32.ofNat RP.length) (hm : mrep (h.2.2.1 60) RP) (hQ : Q (some (.int (b32 (fitM RP y s))), h)) : ∀ (n t : Nat) (z8 z9 : Option Value), t + n = 16 → Wp d 251 29 [some (.ref 59), some (.int s'), some (.int y), some (.int (f_turnsBy (Int32.ofNat (1 + s / 48)))), some (.int (Int32.ofNat (ptA s t).1)), some (.int (Int32.ofNat (ptA s t).2)), some (.int (b32 (scanG (okW s t y RP) RP.length 0))), some (.int (Int32.ofNat t)), z8, z9] [] h Q := by
  intro n
  induction n with
  | zero =>
    intro t z8 z9 e
    have : t = 16 := by omega
    subst this
    have po := ptA_ok hs 16
    exact t_fit1 hw po.1 po.2 hd ⟨fun _ => hQ, fun c => absurd (by decide) c⟩
  | succ n ih =>
    intro t z8 z9 e
    have po := ptA_ok hs t
    refine t_fit1 hw po.1 po.2 hd ⟨fun c => absurd ((nle (a := 16) (by omega) (by omega)).mp c) (by omega), fun _ => ?_⟩
    refine s_fitI hw hs (by omega) hd hl h9 hm RP.length 0 _ z9 (Nat.zero_add _) (fun z9 => ?_)
    rw [← okW_s]
    have so := stp_ok (1 + s / 48) (by omega) _ po.1 _ po.2 (by omega)
    have m1 := stp_m1 _ po.1 _ po.2
    have m2 := stp_m2 _ po.1 _ po.2
    have m3 := (stp_m3 (1 + s / 48) (by omega) _ po.2).resolve_left (by omega)
    rw [decide_eq_decide] at m1
    refine t_fit2 hw po.1 po.2 h9 ((nle (by omega) (by omega)).mpr (Nat.le_refl _)) hd ⟨fun c => ?_, fun c => ?_⟩
    · have q := so.2.2.1 (m1.mp c)
      have := ih (t + 1) (some (.int (Int32.ofNat RP.length))) z9 (by omega)
      rw [show ptA s (t + 1) = stp (1 + s / 48) (ptA s t) from rfl, ← show f_cTurned (Int32.ofNat (ptA s t).2) (f_cTurns (Int32.ofNat (1 + s / 48))) = Int32.ofNat (stp (1 + s / 48) (ptA s t)).2 from q.1, show (stp (1 + s / 48) (ptA s t)).1 = (ptA s t).1 from q.2, ← m3] at this
      rw [show Int32.ofNat t + (1 : Int32) = Int32.ofNat (t + 1) from (Int32.ofNat_add t 1).symm]
      exact this
    · have c' : ¬ (bsd (ptA s t).1 (ptA s t).2 < 0) := fun z => c (m1.mpr z)
      have q := so.2.2.2 c'
      have := ih (t + 1) (some (.int (Int32.ofNat RP.length))) z9 (by omega)
      rw [show ptA s (t + 1) = stp (1 + s / 48) (ptA s t) from rfl, ← show bsd (ptA s t).1 (ptA s t).2 = Int32.ofNat (stp (1 + s / 48) (ptA s t)).1 from q.1, show (stp (1 + s / 48) (ptA s t)).2 = (ptA s t).2 from q.2, ← m2.resolve_left c'] at this
      rw [show Int32.ofNat t + (1 : Int32) = Int32.ofNat (t + 1) from (Int32.ofNat_add t 1).symm]
      exact this
theorem s_fits {d : Nat} {Q : KO → Prop} {h : KH} (hw : WF h) {s : Nat} {y : Int32} {RP : List (Nat × Nat × Nat)} (hs : s < 240) (hd : 1 ≤ d) (hl : RP.length ≤ 6) (h9 : h.2.2.1 60 9 = Int32.ofNat RP.length) (hm : mrep (h.2.2.1 60) RP) (hQ : Q (some (.int (b32 (fitM RP y s))), h)) : Cl d 251 [.ref 59, .int (Int32.ofNat s), .int y] h Q := by
  have := s_fitL (s' := Int32.ofNat s) hw hs hd hl h9 hm hQ 16 0 none none rfl
  rw [okW_0] at this
  refine t_fit0 hw hd ?_
  have k := sK_m s hs
  rw [k.1, k.2.1, k.2.2]
  exact this
def lstF (p : Nat → Bool) : Nat → Nat → Int32
  | 0, _ => -1
  | n + 1, s => if p s = true then Int32.ofNat s else lstF p n (s + 1)
def lstN (p : Nat → Bool) : Nat → Nat → Nat
  | 0, _ => 0
  | n + 1, s => if p s = true then s else lstN p n (s + 1)
def cntF (p : Nat → Bool) : Nat → Nat → Nat
  | 0, _ => 0
  | n + 1, s => (if p s = true then 1 else 0) + cntF p n (s + 1)
theorem lstF_eq (p : Nat → Bool) : ∀ n s, lstF p n s = if cntF p n s = 0 then -1 else Int32.ofNat (lstN p n s)
  | 0, _ => rfl
  | n + 1, s => by
    unfold lstF cntF lstN
    by_cases h : p s = true
    · rw [if_pos h, if_pos h, if_pos h, if_neg (by omega)]
    · rw [if_neg h, if_neg h, if_neg h, Nat.zero_add]
      exact lstF_eq p n (s + 1)
theorem cntF_0 (p : Nat → Bool) : ∀ n s, cntF p n s = 0 ↔ ∀ i, s ≤ i → i < s + n → p i = false
  | 0, s => ⟨fun _ i h1 h2 => absurd h2 (by omega), fun _ => rfl⟩
  | n + 1, s => by
    unfold cntF
    by_cases h : p s = true
    · rw [if_pos h]
      refine ⟨fun z => by omega, fun z => ?_⟩
      have := z s (Nat.le_refl _) (by omega)
      rw [h] at this
      cases this
    · rw [if_neg h, Nat.zero_add, cntF_0 p n (s + 1)]
      refine ⟨fun z i h1 h2 => ?_, fun z i h1 h2 => z i (by omega) (by omega)⟩
      by_cases e : i = s
      · subst e
        exact Bool.eq_false_iff.mpr h
      · exact z i (by omega) (by omega)
theorem cntF_le (p : Nat → Bool) : ∀ n s, cntF p n s ≤ n
  | 0, _ => Nat.le_refl _
  | n + 1, s => by
    unfold cntF
    have := cntF_le p n (s + 1)
    split <;> omega
theorem lstN_lt (p : Nat → Bool) : ∀ n s, s + n ≤ 240 → lstN p n s < 240
  | 0, _, _ => (by decide : 0 < 240)
  | n + 1, s, h => by
    unfold lstN
    split
    · omega
    · exact lstN_lt p n (s + 1) (by omega)
set_option maxHeartbeats 4000000 in
theorem t_str0 {d : Nat} {Q : KO → Prop} {h : KH} (hw : WF h) {y : Int32} (hd : 2 ≤ d) (hQ : Wp d 252 2 ([some (.ref 59), some (.int (y)), some (.int (0))]) [] h Q) : Cl d 252 [.ref 59, .int (y)] h Q := by
  refine Cl.of (ls := [some (.ref 59), some (.int (y)), none]) rfl rfl ?_
  refine Wp.seg 2 (pc1 := 2) (ls1 := [some (.ref 59), some (.int (y)), some (.int (0))]) (st1 := []) rfl ?_
  exact hQ
set_option maxHeartbeats 4000000 in
theorem t_str1 {d : Nat} {Q : KO → Prop} {h : KH} (hw : WF h) {RP : List (Nat × Nat × Nat)} (hl : RP.length ≤ 6) (h9 : h.2.2.1 60 9 = Int32.ofNat RP.length) (hm : mrep (h.2.2.1 60) RP) {y : Int32} {s : Nat} (hs : s < 240) (ge : ¬ ((240 : Int32) ≤ (Int32.ofNat s))) (hd : 2 ≤ d) (hQ : ((fitM RP y s) = false → Wp d 252 2 ([some (.ref 59), some (.int (y)), some (.int ((Int32.ofNat s) + 1))]) [] h Q) ∧ ((fitM RP y s) = true → Q (some (.int (Int32.ofNat s)), h))) : Wp d 252 2 [some (.ref 59), some (.int (y)), some (.int (Int32.ofNat s))] [] h Q := by
  refine Wp.seg 2 (pc1 := 6) (ls1 := [some (.ref 59), some (.int (y)), some (.int (Int32.ofNat s))]) (st1 := [.int (240), .int (Int32.ofNat s)]) rfl ?_
  refine Wp.if2 rfl (fun c1 => absurd c1 (ge)) (fun c1 => ?_)
  refine Wp.seg 3 (pc1 := 12) (ls1 := [some (.ref 59), some (.int (y)), some (.int (Int32.ofNat s))]) (st1 := [.int (y), .int (Int32.ofNat s), .ref 59]) rfl ?_
  refine Wp.invV (d2 := 1) (as := [.ref 59, .int (Int32.ofNat s), .int (y)]) (r := []) (t := (11, 0)) rfl rfl rfl rfl (WF.t hw 59 rfl) rfl rfl ⟨rfl, rfl⟩ (by omega) (s_fits hw hs (Nat.le_refl _) hl h9 hm ?_)
  show Wp d 252 15 [some (.ref 59), some (.int (y)), some (.int (Int32.ofNat s))] [.int (b32 (fitM RP y s))] h Q
  refine Wp.ifz rfl (fun (c2 : (fitM RP y s) = false) => ?_) (fun (c2 : (fitM RP y s) = true) => ?_)
  · refine Wp.seg 2 (pc1 := 2) (ls1 := [some (.ref 59), some (.int (y)), some (.int ((Int32.ofNat s) + 1))]) (st1 := []) rfl ?_
    exact (hQ.1 c2)
  · refine Wp.seg 1 (pc1 := 19) (ls1 := [some (.ref 59), some (.int (y)), some (.int (Int32.ofNat s))]) (st1 := [.int (Int32.ofNat s)]) rfl ?_
    exact Wp.reti rfl rfl (hQ.2 c2)
set_option maxHeartbeats 4000000 in
theorem t_str2 {d : Nat} {Q : KO → Prop} {h : KH} (hw : WF h) {y : Int32} (hd : 2 ≤ d) (hQ : Q (some (.int (-1)), h)) : Wp d 252 2 [some (.ref 59), some (.int (y)), some (.int (240))] [] h Q := by
  refine Wp.seg 2 (pc1 := 6) (ls1 := [some (.ref 59), some (.int (y)), some (.int (240))]) (st1 := [.int (240), .int (240)]) rfl ?_
  refine Wp.if2 rfl (fun c1 => ?_) (fun c1 => absurd (show (240 : Int32) ≤ (240 : Int32) by decide) c1)
  refine Wp.seg 1 (pc1 := 27) (ls1 := [some (.ref 59), some (.int (y)), some (.int (240))]) (st1 := [.int (-1)]) rfl ?_
  exact Wp.reti rfl rfl hQ
theorem n240 {s : Nat} (h : s < 240) : ¬ ((240 : Int32) ≤ Int32.ofNat s) := fun c => by
  have := i32L (show (240 : Int32).toInt = 240 from rfl) (znat (n := s) (by omega)) c
  omega
theorem s_strL {d : Nat} {Q : KO → Prop} {h : KH} (hw : WF h) {RP : List (Nat × Nat × Nat)} (hl : RP.length ≤ 6) (h9 : h.2.2.1 60 9 = Int32.ofNat RP.length) (hm : mrep (h.2.2.1 60) RP) {y : Int32} (hd : 2 ≤ d) : ∀ n s, s + n = 240 → Q (some (.int (lstF (fitM RP y) n s)), h) → Wp d 252 2 [some (.ref 59), some (.int y), some (.int (Int32.ofNat s))] [] h Q := by
  intro n
  induction n with
  | zero =>
    intro s e hQ
    have : s = 240 := by omega
    subst this
    exact t_str2 hw hd hQ
  | succ n ih =>
    intro s e hQ
    refine t_str1 hw hl h9 hm (by omega) (n240 (by omega)) hd ⟨fun c => ?_, fun c => ?_⟩
    · rw [show Int32.ofNat s + (1 : Int32) = Int32.ofNat (s + 1) from (Int32.ofNat_add s 1).symm]
      refine ih (s + 1) (by omega) ?_
      unfold lstF at hQ
      rw [if_neg (by rw [c]; decide)] at hQ
      exact hQ
    · unfold lstF at hQ
      rw [if_pos c] at hQ
      exact hQ
theorem s_str {d : Nat} {Q : KO → Prop} {h : KH} (hw : WF h) {RP : List (Nat × Nat × Nat)} (hl : RP.length ≤ 6) (h9 : h.2.2.1 60 9 = Int32.ofNat RP.length) (hm : mrep (h.2.2.1 60) RP) {y : Int32} (hd : 2 ≤ d) (hQ : Q (some (.int (lstF (fitM RP y) 240 0)), h)) : Cl d 252 [.ref 59, .int y] h Q := t_str0 hw hd (s_strL hw hl h9 hm hd 240 0 rfl hQ)
set_option maxHeartbeats 4000000 in
theorem t_msp1 {d : Nat} {Q : KO → Prop} {h : KH} (hw : WF h) {v : Int32} (q : inB v 0 3 = false) (hd : 3 ≤ d) (hQ : Q (some (.int (-1)), h)) : Cl d 253 [.ref 59, .int (v)] h Q := by
  refine Cl.of (ls := [some (.ref 59), some (.int (v)), none, none]) rfl rfl ?_
  refine Wp.seg 1 (pc1 := 1) (ls1 := [some (.ref 59), some (.int (v)), none, none]) (st1 := [.int (v)]) rfl ?_
  refine Wp.inv (d2 := 1) (as := [.int (v)]) (r := []) rfl rfl rfl rfl rfl rfl (by omega) (s_b177 (Nat.le_refl _) ?_)
  show Wp d 253 4 [some (.ref 59), some (.int (v)), none, none] [.int (b32 (inB v 0 3))] h Q
  refine Wp.ifnz rfl (fun c1 => absurd (c1.symm.trans (q)) (by decide)) (fun c1 => ?_)
  refine Wp.seg 1 (pc1 := 8) (ls1 := [some (.ref 59), some (.int (v)), none, none]) (st1 := [.int (-1)]) rfl ?_
  exact Wp.reti rfl rfl hQ
set_option maxHeartbeats 4000000 in
theorem t_msp2 {d : Nat} {Q : KO → Prop} {h : KH} (hw : WF h) (hd : 3 ≤ d) (hQ : Wp d 253 64 ([some (.ref 59), some (.int (0)), some (.int (0)), some (.int (0))]) [] h Q) : Cl d 253 [.ref 59, .int (0)] h Q := by
  refine Cl.of (ls := [some (.ref 59), some (.int (0)), none, none]) rfl rfl ?_
  refine Wp.seg 1 (pc1 := 1) (ls1 := [some (.ref 59), some (.int (0)), none, none]) (st1 := [.int (0)]) rfl ?_
  refine Wp.inv (d2 := 1) (as := [.int (0)]) (r := []) rfl rfl rfl rfl rfl rfl (by omega) (s_b177 (Nat.le_refl _) ?_)
  show Wp d 253 4 [some (.ref 59), some (.int (0)), none, none] [.int (b32 (inB (0 : Int32) 0 3))] h Q
  refine Wp.ifnz rfl (fun c1 => ?_) (fun c1 => absurd (c1.symm.trans (rfl)) (by decide))
  refine Wp.seg 1 (pc1 := 10) (ls1 := [some (.ref 59), some (.int (0)), none, none]) (st1 := [.int (0)]) rfl ?_
  refine Wp.if1 rfl (fun c2 => ?_) (fun c2 => absurd (show (0 : Int32) ≤ 0 by decide) c2)
  refine Wp.seg 4 (pc1 := 64) (ls1 := [some (.ref 59), some (.int (0)), some (.int (0)), some (.int (0))]) (st1 := []) rfl ?_
  exact hQ
theorem s_strN {h : KH} {Q : KO → Prop} (hw : WF h) {RP : List (Nat × Nat × Nat)} (hl : RP.length ≤ 6) (h9 : h.2.2.1 60 9 = Int32.ofNat RP.length) (hm : mrep (h.2.2.1 60) RP) {y : Int32} (ey : lstF (fitM RP y) 240 0 = -1) (hQ : Q (some (.int (-1)), h)) : Cl 2 252 [.ref 59, .int y] h Q := s_str hw hl h9 hm (Nat.le_refl _) (by rw [ey]; exact hQ)
theorem s_strS {h : KH} {Q : KO → Prop} (hw : WF h) {RP : List (Nat × Nat × Nat)} (hl : RP.length ≤ 6) (h9 : h.2.2.1 60 9 = Int32.ofNat RP.length) (hm : mrep (h.2.2.1 60) RP) {y : Int32} {s : Nat} (ey : lstF (fitM RP y) 240 0 = Int32.ofNat s) (hQ : Q (some (.int (Int32.ofNat s)), h)) : Cl 2 252 [.ref 59, .int y] h Q := s_str hw hl h9 hm (Nat.le_refl _) (by rw [ey]; exact hQ)
theorem nlt0 {s : Nat} (h : s < 240) : 0 ≤ Int32.ofNat s := (Int32.le_iff_toInt_le).mpr (by rw [znat (n := s) (by omega)]; exact Int.natCast_nonneg s)
set_option maxHeartbeats 4000000 in
theorem t_msn1 {d : Nat} {Q : KO → Prop} {h : KH} (hw : WF h) {RP : List (Nat × Nat × Nat)} (hl : RP.length ≤ 6) (h9 : h.2.2.1 60 9 = Int32.ofNat RP.length) (hm : mrep (h.2.2.1 60) RP) (ey : lstF (fitM RP (-1)) 240 0 = -1) (hd : 3 ≤ d) (hQ : Q (some (.int (-3)), h)) : Cl d 253 [.ref 59, .int (1)] h Q := by
  refine Cl.of (ls := [some (.ref 59), some (.int (1)), none, none]) rfl rfl ?_
  refine Wp.seg 1 (pc1 := 1) (ls1 := [some (.ref 59), some (.int (1)), none, none]) (st1 := [.int (1)]) rfl ?_
  refine Wp.inv (d2 := 1) (as := [.int (1)]) (r := []) rfl rfl rfl rfl rfl rfl (by omega) (s_b177 (Nat.le_refl _) ?_)
  show Wp d 253 4 [some (.ref 59), some (.int (1)), none, none] [.int (b32 (inB (1 : Int32) 0 3))] h Q
  refine Wp.ifnz rfl (fun c1 => ?_) (fun c1 => absurd (c1.symm.trans (rfl)) (by decide))
  refine Wp.seg 1 (pc1 := 10) (ls1 := [some (.ref 59), some (.int (1)), none, none]) (st1 := [.int (1)]) rfl ?_
  refine Wp.if1 rfl (fun c2 => absurd c2 (show ¬ ((1 : Int32) ≤ 0) by decide)) (fun c2 => ?_)
  refine Wp.seg 2 (pc1 := 15) (ls1 := [some (.ref 59), some (.int (1)), none, none]) (st1 := [.int (-1), .ref 59]) rfl ?_
  refine Wp.invV (d2 := 2) (as := [.ref 59, .int (-1)]) (r := []) (t := (11, 0)) rfl rfl rfl rfl (WF.t hw 59 rfl) rfl rfl ⟨rfl, rfl⟩ (by omega) (s_strN hw hl h9 hm ey ?_)
  show Wp d 253 18 [some (.ref 59), some (.int (1)), none, none] [.int (-1)] h Q
  refine Wp.seg 2 (pc1 := 20) (ls1 := [some (.ref 59), some (.int (1)), some (.int (-1)), none]) (st1 := [.int (-1)]) rfl ?_
  refine Wp.if1 rfl (fun c3 => absurd c3 (show ¬ (0 ≤ (-1 : Int32)) by decide)) (fun c3 => ?_)
  refine Wp.seg 2 (pc1 := 59) (ls1 := [some (.ref 59), some (.int (1)), some (.int (-1)), none]) (st1 := [.int (-3)]) rfl ?_
  exact Wp.reti rfl rfl hQ
set_option maxHeartbeats 4000000 in
theorem t_mss1 {d : Nat} {Q : KO → Prop} {h : KH} (hw : WF h) {RP : List (Nat × Nat × Nat)} (hl : RP.length ≤ 6) (h9 : h.2.2.1 60 9 = Int32.ofNat RP.length) (hm : mrep (h.2.2.1 60) RP) {s : Nat} (hs : s < 240) (ey : lstF (fitM RP (-1)) 240 0 = Int32.ofNat s) (hd : 3 ≤ d) (hQ : Q (some (.int ((1 : Int32) + ((Int32.ofNat s) / (48 : Int32)))), h)) : Cl d 253 [.ref 59, .int (1)] h Q := by
  refine Cl.of (ls := [some (.ref 59), some (.int (1)), none, none]) rfl rfl ?_
  refine Wp.seg 1 (pc1 := 1) (ls1 := [some (.ref 59), some (.int (1)), none, none]) (st1 := [.int (1)]) rfl ?_
  refine Wp.inv (d2 := 1) (as := [.int (1)]) (r := []) rfl rfl rfl rfl rfl rfl (by omega) (s_b177 (Nat.le_refl _) ?_)
  show Wp d 253 4 [some (.ref 59), some (.int (1)), none, none] [.int (b32 (inB (1 : Int32) 0 3))] h Q
  refine Wp.ifnz rfl (fun c1 => ?_) (fun c1 => absurd (c1.symm.trans (rfl)) (by decide))
  refine Wp.seg 1 (pc1 := 10) (ls1 := [some (.ref 59), some (.int (1)), none, none]) (st1 := [.int (1)]) rfl ?_
  refine Wp.if1 rfl (fun c2 => absurd c2 (show ¬ ((1 : Int32) ≤ 0) by decide)) (fun c2 => ?_)
  refine Wp.seg 2 (pc1 := 15) (ls1 := [some (.ref 59), some (.int (1)), none, none]) (st1 := [.int (-1), .ref 59]) rfl ?_
  refine Wp.invV (d2 := 2) (as := [.ref 59, .int (-1)]) (r := []) (t := (11, 0)) rfl rfl rfl rfl (WF.t hw 59 rfl) rfl rfl ⟨rfl, rfl⟩ (by omega) (s_strS hw hl h9 hm ey ?_)
  show Wp d 253 18 [some (.ref 59), some (.int (1)), none, none] [.int (Int32.ofNat s)] h Q
  refine Wp.seg 2 (pc1 := 20) (ls1 := [some (.ref 59), some (.int (1)), some (.int (Int32.ofNat s)), none]) (st1 := [.int (Int32.ofNat s)]) rfl ?_
  refine Wp.if1 rfl (fun c3 => ?_) (fun c3 => absurd (nlt0 hs) c3)
  refine Wp.seg 2 (pc1 := 30) (ls1 := [some (.ref 59), some (.int (1)), some (.int (Int32.ofNat s)), none]) (st1 := [.int (1), .int (1)]) rfl ?_
  refine Wp.if2 rfl (fun c4 => absurd c4 (show ¬ (¬ (1 : Int32) = (1 : Int32)) by decide)) (fun c4 => ?_)
  refine Wp.seg 3 (pc1 := 37) (ls1 := [some (.ref 59), some (.int (1)), some (.int (Int32.ofNat s)), none]) (st1 := [.int (48), .int (Int32.ofNat s), .int (1)]) rfl ?_
  refine Wp.div rfl (by decide) ?_
  refine Wp.seg 2 (pc1 := 59) (ls1 := [some (.ref 59), some (.int (1)), some (.int (Int32.ofNat s)), none]) (st1 := [.int ((1 : Int32) + ((Int32.ofNat s) / (48 : Int32)))]) rfl ?_
  exact Wp.reti rfl rfl hQ
set_option maxHeartbeats 4000000 in
theorem t_msn2 {d : Nat} {Q : KO → Prop} {h : KH} (hw : WF h) {RP : List (Nat × Nat × Nat)} (hl : RP.length ≤ 6) (h9 : h.2.2.1 60 9 = Int32.ofNat RP.length) (hm : mrep (h.2.2.1 60) RP) (ey : lstF (fitM RP (-1)) 240 0 = -1) (hd : 3 ≤ d) (hQ : Q (some (.int (-3)), h)) : Cl d 253 [.ref 59, .int (2)] h Q := by
  refine Cl.of (ls := [some (.ref 59), some (.int (2)), none, none]) rfl rfl ?_
  refine Wp.seg 1 (pc1 := 1) (ls1 := [some (.ref 59), some (.int (2)), none, none]) (st1 := [.int (2)]) rfl ?_
  refine Wp.inv (d2 := 1) (as := [.int (2)]) (r := []) rfl rfl rfl rfl rfl rfl (by omega) (s_b177 (Nat.le_refl _) ?_)
  show Wp d 253 4 [some (.ref 59), some (.int (2)), none, none] [.int (b32 (inB (2 : Int32) 0 3))] h Q
  refine Wp.ifnz rfl (fun c1 => ?_) (fun c1 => absurd (c1.symm.trans (rfl)) (by decide))
  refine Wp.seg 1 (pc1 := 10) (ls1 := [some (.ref 59), some (.int (2)), none, none]) (st1 := [.int (2)]) rfl ?_
  refine Wp.if1 rfl (fun c2 => absurd c2 (show ¬ ((2 : Int32) ≤ 0) by decide)) (fun c2 => ?_)
  refine Wp.seg 2 (pc1 := 15) (ls1 := [some (.ref 59), some (.int (2)), none, none]) (st1 := [.int (-1), .ref 59]) rfl ?_
  refine Wp.invV (d2 := 2) (as := [.ref 59, .int (-1)]) (r := []) (t := (11, 0)) rfl rfl rfl rfl (WF.t hw 59 rfl) rfl rfl ⟨rfl, rfl⟩ (by omega) (s_strN hw hl h9 hm ey ?_)
  show Wp d 253 18 [some (.ref 59), some (.int (2)), none, none] [.int (-1)] h Q
  refine Wp.seg 2 (pc1 := 20) (ls1 := [some (.ref 59), some (.int (2)), some (.int (-1)), none]) (st1 := [.int (-1)]) rfl ?_
  refine Wp.if1 rfl (fun c3 => absurd c3 (show ¬ (0 ≤ (-1 : Int32)) by decide)) (fun c3 => ?_)
  refine Wp.seg 2 (pc1 := 59) (ls1 := [some (.ref 59), some (.int (2)), some (.int (-1)), none]) (st1 := [.int (-3)]) rfl ?_
  exact Wp.reti rfl rfl hQ
set_option maxHeartbeats 4000000 in
theorem t_mss2 {d : Nat} {Q : KO → Prop} {h : KH} (hw : WF h) {RP : List (Nat × Nat × Nat)} (hl : RP.length ≤ 6) (h9 : h.2.2.1 60 9 = Int32.ofNat RP.length) (hm : mrep (h.2.2.1 60) RP) {s : Nat} (hs : s < 240) (ey : lstF (fitM RP (-1)) 240 0 = Int32.ofNat s) (hd : 3 ≤ d) (hQ : Q (some (.int (((Int32.ofNat s) / (4 : Int32)) - ((Int32.ofNat s) / (4 : Int32)) / (12 : Int32) * (12 : Int32))), h)) : Cl d 253 [.ref 59, .int (2)] h Q := by
  refine Cl.of (ls := [some (.ref 59), some (.int (2)), none, none]) rfl rfl ?_
  refine Wp.seg 1 (pc1 := 1) (ls1 := [some (.ref 59), some (.int (2)), none, none]) (st1 := [.int (2)]) rfl ?_
  refine Wp.inv (d2 := 1) (as := [.int (2)]) (r := []) rfl rfl rfl rfl rfl rfl (by omega) (s_b177 (Nat.le_refl _) ?_)
  show Wp d 253 4 [some (.ref 59), some (.int (2)), none, none] [.int (b32 (inB (2 : Int32) 0 3))] h Q
  refine Wp.ifnz rfl (fun c1 => ?_) (fun c1 => absurd (c1.symm.trans (rfl)) (by decide))
  refine Wp.seg 1 (pc1 := 10) (ls1 := [some (.ref 59), some (.int (2)), none, none]) (st1 := [.int (2)]) rfl ?_
  refine Wp.if1 rfl (fun c2 => absurd c2 (show ¬ ((2 : Int32) ≤ 0) by decide)) (fun c2 => ?_)
  refine Wp.seg 2 (pc1 := 15) (ls1 := [some (.ref 59), some (.int (2)), none, none]) (st1 := [.int (-1), .ref 59]) rfl ?_
  refine Wp.invV (d2 := 2) (as := [.ref 59, .int (-1)]) (r := []) (t := (11, 0)) rfl rfl rfl rfl (WF.t hw 59 rfl) rfl rfl ⟨rfl, rfl⟩ (by omega) (s_strS hw hl h9 hm ey ?_)
  show Wp d 253 18 [some (.ref 59), some (.int (2)), none, none] [.int (Int32.ofNat s)] h Q
  refine Wp.seg 2 (pc1 := 20) (ls1 := [some (.ref 59), some (.int (2)), some (.int (Int32.ofNat s)), none]) (st1 := [.int (Int32.ofNat s)]) rfl ?_
  refine Wp.if1 rfl (fun c3 => ?_) (fun c3 => absurd (nlt0 hs) c3)
  refine Wp.seg 2 (pc1 := 30) (ls1 := [some (.ref 59), some (.int (2)), some (.int (Int32.ofNat s)), none]) (st1 := [.int (1), .int (2)]) rfl ?_
  refine Wp.if2 rfl (fun c4 => ?_) (fun c4 => absurd (show ¬ (2 : Int32) = (1 : Int32) by decide) c4)
  refine Wp.seg 2 (pc1 := 44) (ls1 := [some (.ref 59), some (.int (2)), some (.int (Int32.ofNat s)), none]) (st1 := [.int (2), .int (2)]) rfl ?_
  refine Wp.if2 rfl (fun c5 => absurd c5 (show ¬ (¬ (2 : Int32) = (2 : Int32)) by decide)) (fun c5 => ?_)
  refine Wp.seg 2 (pc1 := 49) (ls1 := [some (.ref 59), some (.int (2)), some (.int (Int32.ofNat s)), none]) (st1 := [.int (4), .int (Int32.ofNat s)]) rfl ?_
  refine Wp.div rfl (by decide) ?_
  refine Wp.seg 1 (pc1 := 52) (ls1 := [some (.ref 59), some (.int (2)), some (.int (Int32.ofNat s)), none]) (st1 := [.int (12), .int ((Int32.ofNat s) / (4 : Int32))]) rfl ?_
  refine Wp.rem rfl (by decide) ?_
  refine Wp.seg 1 (pc1 := 59) (ls1 := [some (.ref 59), some (.int (2)), some (.int (Int32.ofNat s)), none]) (st1 := [.int (((Int32.ofNat s) / (4 : Int32)) - ((Int32.ofNat s) / (4 : Int32)) / (12 : Int32) * (12 : Int32))]) rfl ?_
  exact Wp.reti rfl rfl hQ
set_option maxHeartbeats 4000000 in
theorem t_msn3 {d : Nat} {Q : KO → Prop} {h : KH} (hw : WF h) {RP : List (Nat × Nat × Nat)} (hl : RP.length ≤ 6) (h9 : h.2.2.1 60 9 = Int32.ofNat RP.length) (hm : mrep (h.2.2.1 60) RP) (ey : lstF (fitM RP (-1)) 240 0 = -1) (hd : 3 ≤ d) (hQ : Q (some (.int (-3)), h)) : Cl d 253 [.ref 59, .int (3)] h Q := by
  refine Cl.of (ls := [some (.ref 59), some (.int (3)), none, none]) rfl rfl ?_
  refine Wp.seg 1 (pc1 := 1) (ls1 := [some (.ref 59), some (.int (3)), none, none]) (st1 := [.int (3)]) rfl ?_
  refine Wp.inv (d2 := 1) (as := [.int (3)]) (r := []) rfl rfl rfl rfl rfl rfl (by omega) (s_b177 (Nat.le_refl _) ?_)
  show Wp d 253 4 [some (.ref 59), some (.int (3)), none, none] [.int (b32 (inB (3 : Int32) 0 3))] h Q
  refine Wp.ifnz rfl (fun c1 => ?_) (fun c1 => absurd (c1.symm.trans (rfl)) (by decide))
  refine Wp.seg 1 (pc1 := 10) (ls1 := [some (.ref 59), some (.int (3)), none, none]) (st1 := [.int (3)]) rfl ?_
  refine Wp.if1 rfl (fun c2 => absurd c2 (show ¬ ((3 : Int32) ≤ 0) by decide)) (fun c2 => ?_)
  refine Wp.seg 2 (pc1 := 15) (ls1 := [some (.ref 59), some (.int (3)), none, none]) (st1 := [.int (-1), .ref 59]) rfl ?_
  refine Wp.invV (d2 := 2) (as := [.ref 59, .int (-1)]) (r := []) (t := (11, 0)) rfl rfl rfl rfl (WF.t hw 59 rfl) rfl rfl ⟨rfl, rfl⟩ (by omega) (s_strN hw hl h9 hm ey ?_)
  show Wp d 253 18 [some (.ref 59), some (.int (3)), none, none] [.int (-1)] h Q
  refine Wp.seg 2 (pc1 := 20) (ls1 := [some (.ref 59), some (.int (3)), some (.int (-1)), none]) (st1 := [.int (-1)]) rfl ?_
  refine Wp.if1 rfl (fun c3 => absurd c3 (show ¬ (0 ≤ (-1 : Int32)) by decide)) (fun c3 => ?_)
  refine Wp.seg 2 (pc1 := 59) (ls1 := [some (.ref 59), some (.int (3)), some (.int (-1)), none]) (st1 := [.int (-3)]) rfl ?_
  exact Wp.reti rfl rfl hQ
set_option maxHeartbeats 4000000 in
theorem t_mss3 {d : Nat} {Q : KO → Prop} {h : KH} (hw : WF h) {RP : List (Nat × Nat × Nat)} (hl : RP.length ≤ 6) (h9 : h.2.2.1 60 9 = Int32.ofNat RP.length) (hm : mrep (h.2.2.1 60) RP) {s : Nat} (hs : s < 240) (ey : lstF (fitM RP (-1)) 240 0 = Int32.ofNat s) (hd : 3 ≤ d) (hQ : Q (some (.int ((Int32.ofNat s) - (Int32.ofNat s) / (4 : Int32) * (4 : Int32))), h)) : Cl d 253 [.ref 59, .int (3)] h Q := by
  refine Cl.of (ls := [some (.ref 59), some (.int (3)), none, none]) rfl rfl ?_
  refine Wp.seg 1 (pc1 := 1) (ls1 := [some (.ref 59), some (.int (3)), none, none]) (st1 := [.int (3)]) rfl ?_
  refine Wp.inv (d2 := 1) (as := [.int (3)]) (r := []) rfl rfl rfl rfl rfl rfl (by omega) (s_b177 (Nat.le_refl _) ?_)
  show Wp d 253 4 [some (.ref 59), some (.int (3)), none, none] [.int (b32 (inB (3 : Int32) 0 3))] h Q
  refine Wp.ifnz rfl (fun c1 => ?_) (fun c1 => absurd (c1.symm.trans (rfl)) (by decide))
  refine Wp.seg 1 (pc1 := 10) (ls1 := [some (.ref 59), some (.int (3)), none, none]) (st1 := [.int (3)]) rfl ?_
  refine Wp.if1 rfl (fun c2 => absurd c2 (show ¬ ((3 : Int32) ≤ 0) by decide)) (fun c2 => ?_)
  refine Wp.seg 2 (pc1 := 15) (ls1 := [some (.ref 59), some (.int (3)), none, none]) (st1 := [.int (-1), .ref 59]) rfl ?_
  refine Wp.invV (d2 := 2) (as := [.ref 59, .int (-1)]) (r := []) (t := (11, 0)) rfl rfl rfl rfl (WF.t hw 59 rfl) rfl rfl ⟨rfl, rfl⟩ (by omega) (s_strS hw hl h9 hm ey ?_)
  show Wp d 253 18 [some (.ref 59), some (.int (3)), none, none] [.int (Int32.ofNat s)] h Q
  refine Wp.seg 2 (pc1 := 20) (ls1 := [some (.ref 59), some (.int (3)), some (.int (Int32.ofNat s)), none]) (st1 := [.int (Int32.ofNat s)]) rfl ?_
  refine Wp.if1 rfl (fun c3 => ?_) (fun c3 => absurd (nlt0 hs) c3)
  refine Wp.seg 2 (pc1 := 30) (ls1 := [some (.ref 59), some (.int (3)), some (.int (Int32.ofNat s)), none]) (st1 := [.int (1), .int (3)]) rfl ?_
  refine Wp.if2 rfl (fun c4 => ?_) (fun c4 => absurd (show ¬ (3 : Int32) = (1 : Int32) by decide) c4)
  refine Wp.seg 2 (pc1 := 44) (ls1 := [some (.ref 59), some (.int (3)), some (.int (Int32.ofNat s)), none]) (st1 := [.int (2), .int (3)]) rfl ?_
  refine Wp.if2 rfl (fun c5 => ?_) (fun c5 => absurd (show ¬ (3 : Int32) = (2 : Int32) by decide) c5)
  refine Wp.seg 2 (pc1 := 58) (ls1 := [some (.ref 59), some (.int (3)), some (.int (Int32.ofNat s)), none]) (st1 := [.int (4), .int (Int32.ofNat s)]) rfl ?_
  refine Wp.rem rfl (by decide) ?_
  exact Wp.reti rfl rfl hQ
set_option maxHeartbeats 4000000 in
theorem t_msp3 {d : Nat} {Q : KO → Prop} {h : KH} (hw : WF h) {RP : List (Nat × Nat × Nat)} (hl : RP.length ≤ 6) (h9 : h.2.2.1 60 9 = Int32.ofNat RP.length) (hm : mrep (h.2.2.1 60) RP) {x : Int32} {s : Nat} (hs : s < 240) (ge : ¬ ((240 : Int32) ≤ (Int32.ofNat s))) (hd : 2 ≤ d) (hQ : ((fitM RP (-1 : Int32) s) = false → Wp d 253 64 ([some (.ref 59), some (.int (0)), some (.int (x + (0 : Int32))), some (.int ((Int32.ofNat s) + 1))]) [] h Q) ∧ ((fitM RP (-1 : Int32) s) = true → Wp d 253 64 ([some (.ref 59), some (.int (0)), some (.int (x + (1 : Int32))), some (.int ((Int32.ofNat s) + 1))]) [] h Q)) : Wp d 253 64 [some (.ref 59), some (.int (0)), some (.int (x)), some (.int (Int32.ofNat s))] [] h Q := by
  refine Wp.seg 2 (pc1 := 68) (ls1 := [some (.ref 59), some (.int (0)), some (.int (x)), some (.int (Int32.ofNat s))]) (st1 := [.int (240), .int (Int32.ofNat s)]) rfl ?_
  refine Wp.if2 rfl (fun c1 => absurd c1 (ge)) (fun c1 => ?_)
  refine Wp.seg 4 (pc1 := 75) (ls1 := [some (.ref 59), some (.int (0)), some (.int (x)), some (.int (Int32.ofNat s))]) (st1 := [.int (-1), .int (Int32.ofNat s), .ref 59, .int (x)]) rfl ?_
  refine Wp.invV (d2 := 1) (as := [.ref 59, .int (Int32.ofNat s), .int (-1)]) (r := [.int (x)]) (t := (11, 0)) rfl rfl rfl rfl (WF.t hw 59 rfl) rfl rfl ⟨rfl, rfl⟩ (by omega) (s_fits hw hs (Nat.le_refl _) hl h9 hm ?_)
  show Wp d 253 78 [some (.ref 59), some (.int (0)), some (.int (x)), some (.int (Int32.ofNat s))] [.int (b32 (fitM RP (-1 : Int32) s)), .int (x)] h Q
  refine Wp.ifz rfl (fun (c2 : (fitM RP (-1 : Int32) s) = false) => ?_) (fun (c2 : (fitM RP (-1 : Int32) s) = true) => ?_)
  · refine Wp.seg 5 (pc1 := 64) (ls1 := [some (.ref 59), some (.int (0)), some (.int (x + (0 : Int32))), some (.int ((Int32.ofNat s) + 1))]) (st1 := []) rfl ?_
    exact (hQ.1 c2)
  · refine Wp.seg 6 (pc1 := 64) (ls1 := [some (.ref 59), some (.int (0)), some (.int (x + (1 : Int32))), some (.int ((Int32.ofNat s) + 1))]) (st1 := []) rfl ?_
    exact (hQ.2 c2)
set_option maxHeartbeats 4000000 in
theorem t_msp4 {d : Nat} {Q : KO → Prop} {h : KH} (hw : WF h) {x : Int32} (hd : 2 ≤ d) (hQ : Q (some (.int (x)), h)) : Wp d 253 64 [some (.ref 59), some (.int (0)), some (.int (x)), some (.int (240))] [] h Q := by
  refine Wp.seg 2 (pc1 := 68) (ls1 := [some (.ref 59), some (.int (0)), some (.int (x)), some (.int (240))]) (st1 := [.int (240), .int (240)]) rfl ?_
  refine Wp.if2 rfl (fun c1 => ?_) (fun c1 => absurd (show (240 : Int32) ≤ (240 : Int32) by decide) c1)
  refine Wp.seg 1 (pc1 := 95) (ls1 := [some (.ref 59), some (.int (0)), some (.int (x)), some (.int (240))]) (st1 := [.int (x)]) rfl ?_
  exact Wp.reti rfl rfl hQ
theorem s_mspL {d : Nat} {Q : KO → Prop} {h : KH} (hw : WF h) {RP : List (Nat × Nat × Nat)} (hl : RP.length ≤ 6) (h9 : h.2.2.1 60 9 = Int32.ofNat RP.length) (hm : mrep (h.2.2.1 60) RP) (hd : 2 ≤ d) : ∀ n s x, s + n = 240 → Q (some (.int (Int32.ofNat (x + cntF (fitM RP (-1)) n s))), h) → Wp d 253 64 [some (.ref 59), some (.int 0), some (.int (Int32.ofNat x)), some (.int (Int32.ofNat s))] [] h Q := by
  intro n
  induction n with
  | zero =>
    intro s x e hQ
    have : s = 240 := by omega
    subst this
    exact t_msp4 hw hd hQ
  | succ n ih =>
    intro s x e hQ
    unfold cntF at hQ
    refine t_msp3 hw hl h9 hm (by omega) (n240 (by omega)) hd ⟨fun c => ?_, fun c => ?_⟩
    · rw [show Int32.ofNat s + (1 : Int32) = Int32.ofNat (s + 1) from (Int32.ofNat_add s 1).symm, show Int32.ofNat x + (0 : Int32) = Int32.ofNat x from (Int32.ofNat_add x 0).symm]
      refine ih (s + 1) x (by omega) ?_
      rw [if_neg (by rw [c]; decide), Nat.zero_add] at hQ
      exact hQ
    · rw [show Int32.ofNat s + (1 : Int32) = Int32.ofNat (s + 1) from (Int32.ofNat_add s 1).symm, show Int32.ofNat x + (1 : Int32) = Int32.ofNat (x + 1) from (Int32.ofNat_add x 1).symm]
      refine ih (s + 1) (x + 1) (by omega) ?_
      rw [if_pos c, ← Nat.add_assoc] at hQ
      exact hQ
