/-! KM: both sides: the city is changed -/
/-- a call of each side at one place of the script: the same answer, and both hold the same -/
def JJ (h : KH) (RL : List Rul) (Mc : Nat) (ca : List Value) (Mm : Nat) (ma : List Value) : Prop := ∃ v : Int32, Cl 14 Mc ca h (fun o => ∃ k, o = (some (.int v), k) ∧ Cl 14 Mm ma k (fun o2 => ∃ k2 A n c dn en, o2 = (some (.int v), k2) ∧ Mild h k2 ∧ both k2 A RL n c dn en))
theorem Mild.m {h k : KH} {A : Nat → Int32} {RL : List Rul} {n c dn en : Nat} (e : k.2.2.1 60 = h.2.2.1 60) (hk : refOK h A RL n c dn en) : refOK k A RL n c dn en := refOK_eq hk e
theorem J_q {h : KH} {A : Nat → Int32} {RL : List Rul} {n c dn en Mc Mm dc dm : Nat} {ca ma : List Value} {v : Int32} (hw : WF h) (hk : both h A RL n c dn en) (h1 : Cl dc Mc ca h (qu v h)) (h2 : ∀ k, WF k → refOK k A RL n c dn en → Cl dm Mm ma k (qu v k)) (hdc : dc ≤ 14 := by decide) (hdm : dm ≤ 14 := by decide) : JJ h RL Mc ca Mm ma := by
  refine ⟨v, (h1.depth hdc).post ?_⟩
  rintro o ⟨k, rfl, q⟩
  refine ⟨k, rfl, ((h2 k (q.wf hw) (q.m hk.2)).depth hdm).post ?_⟩
  rintro o2 ⟨k2, rfl, q2⟩
  exact ⟨k2, A, n, c, dn, en, rfl, (q.trans q2).mild, (q.trans q2).b hk⟩
theorem J_m {h : KH} {A B : Nat → Int32} {RL : List Rul} {n c dn en n2 c2 dn2 en2 Mc Mm dc dm : Nat} {ca ma : List Value} {v : Int32} (hw : WF h) (hk : both h A RL n c dn en) (h1 : Cl dc Mc ca h (mc v B RL n2 c2 dn2 en2 h)) (h2 : ∀ k, WF k → refOK k A RL n c dn en → Cl dm Mm ma k (mm v B RL n2 c2 dn2 en2 k)) (hdc : dc ≤ 14 := by decide) (hdm : dm ≤ 14 := by decide) : JJ h RL Mc ca Mm ma := by
  refine ⟨v, (h1.depth hdc).post ?_⟩
  rintro o ⟨k, rfl, q1, q2, q3⟩
  refine ⟨k, rfl, ((h2 k (q1.wf hw) (refOK_eq hk.2 q3)).depth hdm).post ?_⟩
  rintro o2 ⟨k2, rfl, p1, p2, p3⟩
  refine ⟨k2, B, n2, c2, dn2, en2, rfl, q1.trans p1, ?_, p2⟩
  exact copy_ok q2 p1.1 (by rw [cS_fr (p3 1 (by decide)) (p3 2 (by decide))]) (p1.1.2.2.2 1 10 (Or.inl (Or.inl (by unfold rQ; omega))))
/-- the city anew -/
theorem city_new {P R : Nat → Prop} {h k : KH} {a n c dn en n2 c2 dn2 en2 : Nat} {A S : Nat → Int32} {RL : List Rul} (hk : cityOK h a A RL n c dn en) (f : Fr P R h k) (e : k.2.1 a 10 = h.2.1 a 10) (eS : cS k.2.2.1 a = S) (ok : okS S n2 c2 dn2 en2) : cityOK k a (nrm S) RL n2 c2 dn2 en2 := by
  obtain ⟨k1, k2, RLc, k3, k4⟩ := hk
  exact ⟨by rw [eS], by rw [eS]; exact ok, RLc, crul_fr f e k3, k4⟩
theorem ref_new {h k : KH} {n c dn en n2 c2 dn2 en2 : Nat} {A S : Nat → Int32} {RL : List Rul} (hk : refOK h A RL n c dn en) (eS : k.2.2.1 60 = S) (kp : keepS S (h.2.2.1 60)) (ok : okS S n2 c2 dn2 en2) : refOK k (nrm S) RL n2 c2 dn2 en2 := by
  obtain ⟨k1, k2, k3⟩ := hk
  unfold refOK
  rw [eS]
  exact ⟨rfl, ok, rules_keep kp k3⟩
theorem c_get {h : KH} {a n c dn en : Nat} {A : Nat → Int32} {RL : List Rul} (hk : cityOK h a A RL n c dn en) {j w : Nat} (hj : 4 * j + w < 24) : h.2.2.1 (a + 1) (4 * j + w) = A (11 + 4 * j + w) := by
  have := congrFun hk.1 (11 + 4 * j + w)
  unfold nrm at this
  rw [if_pos (by omega), show 11 + 4 * j + w = 11 + (4 * j + w) by omega, cS_hand] at this
  rw [show 11 + 4 * j + w = 11 + (4 * j + w) by omega]
  exact this
theorem m_get {h : KH} {n c dn en : Nat} {A : Nat → Int32} {RL : List Rul} (hk : refOK h A RL n c dn en) {j w : Nat} (hj : 4 * j + w < 24) : h.2.2.1 60 (11 + 4 * j + w) = A (11 + 4 * j + w) := by
  have := congrFun hk.1 (11 + 4 * j + w)
  unfold nrm at this
  rw [if_pos (by omega)] at this
  exact this
theorem mc_bad {h : KH} {A : Nat → Int32} {RL : List Rul} {n c dn en : Nat} {v : Int32} (hk : cityOK h 1 A RL n c dn en) : mc v A RL n c dn en h (some (.int v), h) := ⟨h, rfl, (Quiet.refl h).mild, hk, rfl⟩
theorem mm_bad {h : KH} {A : Nat → Int32} {RL : List Rul} {n c dn en : Nat} {v : Int32} (hk : refOK h A RL n c dn en) : mm v A RL n c dn en h (some (.int v), h) := ⟨h, rfl, (Quiet.refl h).mild, hk, fun _ _ => rfl⟩
theorem mc_i {h k : KH} {A : Nat → Int32} {RL : List Rul} {n c dn en : Nat} {v : Int32} (f : Fr (pC 1) noP h k) (g : cityOK k 1 A RL n c dn en) : mc v A RL n c dn en h (some (.int v), k) := ⟨k, rfl, mild_c f, g, f.2.2.1 60 (Or.inl (by unfold pC; omega))⟩
theorem mm_i {h k : KH} {A : Nat → Int32} {RL : List Rul} {n c dn en : Nat} {v : Int32} (f : Fr (fun c => c = 60) noP h k) (kp : keepS (k.2.2.1 60) (h.2.2.1 60)) (g : refOK k A RL n c dn en) : mm v A RL n c dn en h (some (.int v), k) := ⟨k, rfl, mild_m (Fr60 f) kp, g, fun b hb => f.2.2.1 b (Or.inl (by omega))⟩
/-! which numbers of a hand -/
def ofB (w v : Int32) : Bool := if w = 1 then inB v 0 11 else if w = 2 then inB v 0 3 else if w = 3 then inB v 0 9 else false
theorem ofB_ok {w v : Int32} (h : ofB w v = true) : ∃ i x : Nat, 1 ≤ i ∧ putOK i x ∧ w = Int32.ofNat i ∧ v = Int32.ofNat x := by
  unfold ofB at h
  split at h
  · rename_i e
    obtain ⟨x, hx, rfl⟩ := inB_nat (b := 11) h
    exact ⟨1, x, by decide, by unfold putOK; omega, e, rfl⟩
  · split at h
    · rename_i e
      obtain ⟨x, hx, rfl⟩ := inB_nat (b := 3) h
      exact ⟨2, x, by decide, by unfold putOK; omega, e, rfl⟩
    · split at h
      · rename_i e
        obtain ⟨x, hx, rfl⟩ := inB_nat (b := 9) h
        exact ⟨3, x, by decide, by unfold putOK; omega, e, rfl⟩
      · cases h
set_option maxHeartbeats 4000000 in
theorem t_b108 {d : Nat} {Q : KO → Prop} {h : KH} {w v : Int32} (hd : 1 ≤ d) (hQ : (w = 1 → Q (some (.int (b32 (inB v 0 11))), h)) ∧ (¬ (w = 1) → (w = 2 → Q (some (.int (b32 (inB v 0 3))), h)) ∧ (¬ (w = 2) → (w = 3 → Q (some (.int (b32 (inB v 0 9))), h)) ∧ (¬ (w = 3) → Q (some (.int (0)), h))))) : Cl d 108 [.int (w), .int (v)] h Q := by
  refine Cl.of (ls := [some (.int (w)), some (.int (v))]) rfl rfl ?_
  refine Wp.seg 1 (pc1 := 1) (ls1 := [some (.int (w)), some (.int (v))]) (st1 := [.int (w)]) rfl ?_
  refine Wp.tsw rfl ?_
  refine ⟨fun c1 => ?_, fun c1 => ?_⟩
  · have c1 : w = 1 := c1
    show Wp d 108 28 [some (.int (w)), some (.int (v))] [] h Q
    refine Wp.seg 1 (pc1 := 29) (ls1 := [some (.int (w)), some (.int (v))]) (st1 := [.int (v)]) rfl ?_
    refine Wp.inv (d2 := 0) (as := [.int (v)]) (r := []) rfl rfl rfl rfl rfl rfl (by omega) (s_b104 ?_)
    show Wp d 108 32 [some (.int (w)), some (.int (v))] [.int (b32 (inB v 0 11))] h Q
    exact Wp.reti rfl (kret_b32 _) (hQ.1 c1)
  have c1 : ¬ w = 1 := c1
  refine ⟨fun c2 => ?_, fun c2 => ?_⟩
  · have c2 : w = 2 := c2
    show Wp d 108 33 [some (.int (w)), some (.int (v))] [] h Q
    refine Wp.seg 1 (pc1 := 34) (ls1 := [some (.int (w)), some (.int (v))]) (st1 := [.int (v)]) rfl ?_
    refine Wp.inv (d2 := 0) (as := [.int (v)]) (r := []) rfl rfl rfl rfl rfl rfl (by omega) (s_b105 ?_)
    show Wp d 108 37 [some (.int (w)), some (.int (v))] [.int (b32 (inB v 0 3))] h Q
    exact Wp.reti rfl (kret_b32 _) ((hQ.2 c1).1 c2)
  have c2 : ¬ w = 2 := c2
  refine ⟨fun c3 => ?_, fun c3 => ?_⟩
  · have c3 : w = 3 := c3
    show Wp d 108 38 [some (.int (w)), some (.int (v))] [] h Q
    refine Wp.seg 1 (pc1 := 39) (ls1 := [some (.int (w)), some (.int (v))]) (st1 := [.int (v)]) rfl ?_
    refine Wp.inv (d2 := 0) (as := [.int (v)]) (r := []) rfl rfl rfl rfl rfl rfl (by omega) (s_b106 ?_)
    show Wp d 108 42 [some (.int (w)), some (.int (v))] [.int (b32 (inB v 0 9))] h Q
    exact Wp.reti rfl (kret_b32 _) (((hQ.2 c1).2 c2).1 c3)
  have c3 : ¬ w = 3 := c3
  show Wp d 108 43 [some (.int (w)), some (.int (v))] [] h Q
  refine Wp.seg 1 (pc1 := 44) (ls1 := [some (.int (w)), some (.int (v))]) (st1 := [.int (0)]) rfl ?_
  exact Wp.reti rfl rfl (((hQ.2 c1).2 c2).2 c3)
set_option maxHeartbeats 4000000 in
theorem t_b193 {d : Nat} {Q : KO → Prop} {h : KH} {w v : Int32} (hd : 2 ≤ d) (hQ : (¬ w = (1 : Int32) → (¬ w = (2 : Int32) → (¬ w = (3 : Int32) → Q (some (.int (0)), h)) ∧ (¬ (¬ w = (3 : Int32)) → ((inB v 0 9) = false → Q (some (.int (0)), h)) ∧ ((inB v 0 9) = true → Q (some (.int (1)), h)))) ∧ (¬ (¬ w = (2 : Int32)) → Q (some (.int (b32 (inB v 0 3))), h))) ∧ (¬ (¬ w = (1 : Int32)) → Q (some (.int (b32 (inB v 0 11))), h))) : Cl d 193 [.int (w), .int (v)] h Q := by
  refine Cl.of (ls := [some (.int (w)), some (.int (v))]) rfl rfl ?_
  refine Wp.seg 2 (pc1 := 2) (ls1 := [some (.int (w)), some (.int (v))]) (st1 := [.int (1), .int (w)]) rfl ?_
  refine Wp.if2 rfl (fun (c1 : ¬ w = (1 : Int32)) => ?_) (fun (c1 : ¬ (¬ w = (1 : Int32))) => ?_)
  · refine Wp.seg 2 (pc1 := 14) (ls1 := [some (.int (w)), some (.int (v))]) (st1 := [.int (2), .int (w)]) rfl ?_
    refine Wp.if2 rfl (fun (c2 : ¬ w = (2 : Int32)) => ?_) (fun (c2 : ¬ (¬ w = (2 : Int32))) => ?_)
    · refine Wp.seg 2 (pc1 := 26) (ls1 := [some (.int (w)), some (.int (v))]) (st1 := [.int (3), .int (w)]) rfl ?_
      refine Wp.if2 rfl (fun (c3 : ¬ w = (3 : Int32)) => ?_) (fun (c3 : ¬ (¬ w = (3 : Int32))) => ?_)
      · refine Wp.seg 1 (pc1 := 44) (ls1 := [some (.int (w)), some (.int (v))]) (st1 := [.int (0)]) rfl ?_
        exact Wp.reti rfl rfl (((hQ.1 c1).1 c2).1 c3)
      · refine Wp.seg 3 (pc1 := 33) (ls1 := [some (.int (w)), some (.int (v))]) (st1 := [.int (9), .int (0), .int (v)]) rfl ?_
        refine Wp.inv (d2 := 0) (as := [.int (v), .int (0), .int (9)]) (r := []) rfl rfl rfl rfl rfl rfl (by omega) (s_inB (x := 0) (y := 9) rfl rfl ?_)
        show Wp d 193 36 [some (.int (w)), some (.int (v))] [.int (b32 (inB v 0 9))] h Q
        refine Wp.ifz rfl (fun (c4 : (inB v 0 9) = false) => ?_) (fun (c4 : (inB v 0 9) = true) => ?_)
        · refine Wp.seg 1 (pc1 := 44) (ls1 := [some (.int (w)), some (.int (v))]) (st1 := [.int (0)]) rfl ?_
          exact Wp.reti rfl rfl ((((hQ.1 c1).1 c2).2 c3).1 c4)
        · refine Wp.seg 2 (pc1 := 44) (ls1 := [some (.int (w)), some (.int (v))]) (st1 := [.int (1)]) rfl ?_
          exact Wp.reti rfl rfl ((((hQ.1 c1).1 c2).2 c3).2 c4)
    · refine Wp.seg 1 (pc1 := 18) (ls1 := [some (.int (w)), some (.int (v))]) (st1 := [.int (v)]) rfl ?_
      refine Wp.inv (d2 := 1) (as := [.int (v)]) (r := []) rfl rfl rfl rfl rfl rfl (by omega) (s_b177 (Nat.le_refl _) ?_)
      show Wp d 193 21 [some (.int (w)), some (.int (v))] [.int (b32 (inB v 0 3))] h Q
      refine Wp.seg 1 (pc1 := 44) (ls1 := [some (.int (w)), some (.int (v))]) (st1 := [.int (b32 (inB v 0 3))]) rfl ?_
      exact Wp.reti rfl (kret_b32 _) ((hQ.1 c1).2 c2)
  · refine Wp.seg 1 (pc1 := 6) (ls1 := [some (.int (w)), some (.int (v))]) (st1 := [.int (v)]) rfl ?_
    refine Wp.inv (d2 := 1) (as := [.int (v)]) (r := []) rfl rfl rfl rfl rfl rfl (by omega) (s_b176 (Nat.le_refl _) ?_)
    show Wp d 193 9 [some (.int (w)), some (.int (v))] [.int (b32 (inB v 0 11))] h Q
    refine Wp.seg 1 (pc1 := 44) (ls1 := [some (.int (w)), some (.int (v))]) (st1 := [.int (b32 (inB v 0 11))]) rfl ?_
    exact Wp.reti rfl (kret_b32 _) (hQ.2 c1)
theorem s_b108 {d : Nat} {Q : KO → Prop} {h : KH} {w v : Int32} (hd : 1 ≤ d) (hQ : Q (some (.int (b32 (ofB w v))), h)) : Cl d 108 [.int w, .int v] h Q := by
  unfold ofB at hQ
  refine t_b108 hd ⟨fun c1 => ?_, fun c1 => ⟨fun c2 => ?_, fun c2 => ⟨fun c3 => ?_, fun c3 => ?_⟩⟩⟩
  · rw [if_pos c1] at hQ; exact hQ
  · rw [if_neg c1, if_pos c2] at hQ; exact hQ
  · rw [if_neg c1, if_neg c2, if_pos c3] at hQ; exact hQ
  · rw [if_neg c1, if_neg c2, if_neg c3] at hQ; exact hQ
theorem s_b193 {d : Nat} {Q : KO → Prop} {h : KH} {w v : Int32} (hd : 2 ≤ d) (hQ : Q (some (.int (b32 (ofB w v))), h)) : Cl d 193 [.int w, .int v] h Q := by
  unfold ofB at hQ
  refine t_b193 hd ⟨fun c1 => ⟨fun c2 => ⟨fun c3 => ?_, fun c3 => ⟨fun c4 => ?_, fun c4 => ?_⟩⟩, fun c2 => ?_⟩, fun c1 => ?_⟩
  · rw [if_neg c1, if_neg c2, if_neg c3] at hQ; exact hQ
  · rw [if_neg c1, if_neg c2, if_pos (Decidable.not_not.mp c3), c4] at hQ; exact hQ
  · rw [if_neg c1, if_neg c2, if_pos (Decidable.not_not.mp c3), c4] at hQ; exact hQ
  · rw [if_neg c1, if_pos (Decidable.not_not.mp c2)] at hQ; exact hQ
  · rw [if_pos (Decidable.not_not.mp c1)] at hQ; exact hQ
theorem s_becomes {d : Nat} {Q : KO → Prop} {h : KH} (hw : WF h) {i : Nat} {x v : Int32} (hx : x = Int32.ofNat i) (hi : i < 585) (hQ : Q (some (.int (h.2.2.1 60 i)), kwi h 60 i v)) : Cl d 174 [.ref 59, .int x, .int v] h Q :=
  t_becomes hw hx hi (Nat.zero_le _) hQ
set_option maxHeartbeats 4000000 in
theorem t_cch {d : Nat} {Q : KO → Prop} {h : KH} (hw : WF h) {A : Nat → Int32} {RL : List Rul} {n c dn en : Nat} (hk : cityOK h 1 A RL n c dn en) {v w x : Int32} (hd : 2 ≤ d) (hQ : ((inB v 0 ((n : Int) - 1)) = false → Q (some (.int (-1)), h)) ∧ ((inB v 0 ((n : Int) - 1)) = true → ((ofB w x) = true → Wp d 90 18 ([some (.ref 0), some (.int (v)), some (.int (w)), some (.int (x))]) [] h Q) ∧ ((ofB w x) = false → Q (some (.int (-1)), h)))) : Cl d 90 [.ref 0, .int (v), .int (w), .int (x)] h Q := by
  refine Cl.of (ls := [some (.ref 0), some (.int (v)), some (.int (w)), some (.int (x))]) rfl rfl ?_
  refine Wp.seg 2 (pc1 := 2) (ls1 := [some (.ref 0), some (.int (v)), some (.int (w)), some (.int (x))]) (st1 := [.int (v), .ref 0]) rfl ?_
  refine Wp.invV (d2 := 0) (as := [.ref 0, .int (v)]) (r := []) (t := (10, 0)) rfl rfl rfl rfl (WF.t hw 0 rfl) rfl rfl ⟨rfl, rfl⟩ (by omega) (s_hand hw hk ?_)
  show Wp d 90 5 [some (.ref 0), some (.int (v)), some (.int (w)), some (.int (x))] [.int (b32 (inB v 0 ((n : Int) - 1)))] h Q
  refine Wp.ifz rfl (fun (c1 : (inB v 0 ((n : Int) - 1)) = false) => ?_) (fun (c1 : (inB v 0 ((n : Int) - 1)) = true) => ?_)
  · refine Wp.seg 1 (pc1 := 17) (ls1 := [some (.ref 0), some (.int (v)), some (.int (w)), some (.int (x))]) (st1 := [.int (-1)]) rfl ?_
    exact Wp.reti rfl rfl (hQ.1 c1)
  · refine Wp.seg 2 (pc1 := 10) (ls1 := [some (.ref 0), some (.int (v)), some (.int (w)), some (.int (x))]) (st1 := [.int (x), .int (w)]) rfl ?_
    refine Wp.inv (d2 := 1) (as := [.int (w), .int (x)]) (r := []) rfl rfl rfl rfl rfl rfl (by omega) (s_b108 (Nat.le_refl _) ?_)
    show Wp d 90 13 [some (.ref 0), some (.int (v)), some (.int (w)), some (.int (x))] [.int (b32 (ofB w x))] h Q
    refine Wp.ifnz rfl (fun (c2 : (ofB w x) = true) => ?_) (fun (c2 : (ofB w x) = false) => ?_)
    · exact ((hQ.2 c1).1 c2)
    · refine Wp.seg 1 (pc1 := 17) (ls1 := [some (.ref 0), some (.int (v)), some (.int (w)), some (.int (x))]) (st1 := [.int (-1)]) rfl ?_
      exact Wp.reti rfl rfl ((hQ.2 c1).2 c2)
set_option maxHeartbeats 4000000 in
theorem t_mch {d : Nat} {Q : KO → Prop} {h : KH} (hw : WF h) {A : Nat → Int32} {RL : List Rul} {n c dn en : Nat} (hk : refOK h A RL n c dn en) {v w x : Int32} (hd : 3 ≤ d) (hQ : ((inB v 0 ((n : Int) - 1)) = false → Q (some (.int (-1)), h)) ∧ ((inB v 0 ((n : Int) - 1)) = true → ((ofB w x) = false → Q (some (.int (-1)), h)) ∧ ((ofB w x) = true → Wp d 196 16 ([some (.ref 59), some (.int (v)), some (.int (w)), some (.int (x))]) [] h Q))) : Cl d 196 [.ref 59, .int (v), .int (w), .int (x)] h Q := by
  refine Cl.of (ls := [some (.ref 59), some (.int (v)), some (.int (w)), some (.int (x))]) rfl rfl ?_
  refine Wp.seg 2 (pc1 := 2) (ls1 := [some (.ref 59), some (.int (v)), some (.int (w)), some (.int (x))]) (st1 := [.int (v), .ref 59]) rfl ?_
  refine Wp.invV (d2 := 1) (as := [.ref 59, .int (v)]) (r := []) (t := (11, 0)) rfl rfl rfl rfl (WF.t hw 59 rfl) rfl rfl ⟨rfl, rfl⟩ (by omega) (m_hand hw hk (Nat.le_refl _) ?_)
  show Wp d 196 5 [some (.ref 59), some (.int (v)), some (.int (w)), some (.int (x))] [.int (b32 (inB v 0 ((n : Int) - 1)))] h Q
  refine Wp.ifz rfl (fun (c1 : (inB v 0 ((n : Int) - 1)) = false) => ?_) (fun (c1 : (inB v 0 ((n : Int) - 1)) = true) => ?_)
  · refine Wp.seg 1 (pc1 := 33) (ls1 := [some (.ref 59), some (.int (v)), some (.int (w)), some (.int (x))]) (st1 := [.int (-1)]) rfl ?_
    exact Wp.reti rfl rfl (hQ.1 c1)
  · refine Wp.seg 2 (pc1 := 10) (ls1 := [some (.ref 59), some (.int (v)), some (.int (w)), some (.int (x))]) (st1 := [.int (x), .int (w)]) rfl ?_
    refine Wp.inv (d2 := 2) (as := [.int (w), .int (x)]) (r := []) rfl rfl rfl rfl rfl rfl (by omega) (s_b193 (Nat.le_refl _) ?_)
    show Wp d 196 13 [some (.ref 59), some (.int (v)), some (.int (w)), some (.int (x))] [.int (b32 (ofB w x))] h Q
    refine Wp.ifz rfl (fun (c2 : (ofB w x) = false) => ?_) (fun (c2 : (ofB w x) = true) => ?_)
    · refine Wp.seg 1 (pc1 := 33) (ls1 := [some (.ref 59), some (.int (v)), some (.int (w)), some (.int (x))]) (st1 := [.int (-1)]) rfl ?_
      exact Wp.reti rfl rfl ((hQ.2 c1).1 c2)
    · exact ((hQ.2 c1).2 c2)
set_option maxHeartbeats 4000000 in
theorem t_cchB {d : Nat} {Q : KO → Prop} {h : KH} (hw : WF h) {j i : Nat} {x : Int32} (hj : 4 * j + i < 24) (hd : 1 ≤ d) (hQ : Q (some (.int (h.2.2.1 (1 + 1) (4 * j + i))), kwi h (1 + 1) (4 * j + i) x)) : Wp d 90 18 [some (.ref 0), some (.int (Int32.ofNat j)), some (.int (Int32.ofNat i)), some (.int (x))] [] h Q := by
  refine Wp.seg 1 (pc1 := 19) (ls1 := [some (.ref 0), some (.int (Int32.ofNat j)), some (.int (Int32.ofNat i)), some (.int (x))]) (st1 := [.ref 0]) rfl ?_
  refine Wp.gr (t := (10, 0)) (v := some (1)) rfl (WF.t hw 0 rfl) rfl (WF.r hw 0 0 0 rfl) ?_
  show Wp d 90 22 [some (.ref 0), some (.int (Int32.ofNat j)), some (.int (Int32.ofNat i)), some (.int (x))] [.ref 1] h Q
  refine Wp.seg 3 (pc1 := 25) (ls1 := [some (.ref 0), some (.int (Int32.ofNat j)), some (.int (Int32.ofNat i)), some (.int (x))]) (st1 := [.int (x), .int (Int32.ofNat i), .int (Int32.ofNat j), .ref 1]) rfl ?_
  refine Wp.invV (d2 := 0) (as := [.ref 1, .int (Int32.ofNat j), .int (Int32.ofNat i), .int (x)]) (r := []) (t := (1, 0)) rfl rfl rfl rfl (WF.t hw 1 rfl) rfl rfl ⟨rfl, rfl⟩ (by omega) (s_cput hw cA1 (n := j) (w := i) rfl (by omega) ?_)
  show Wp d 90 28 [some (.ref 0), some (.int (Int32.ofNat j)), some (.int (Int32.ofNat i)), some (.int (x))] [.int (h.2.2.1 (1 + 1) (4 * j + i))] (kwi h (1 + 1) (4 * j + i) x) Q
  exact Wp.reti rfl rfl hQ
set_option maxHeartbeats 4000000 in
theorem t_mchB {d : Nat} {Q : KO → Prop} {h : KH} (hw : WF h) {j i : Nat} {x : Int32} (hj : 4 * j + i < 24) (hd : 1 ≤ d) (hQ : Q (some (.int (h.2.2.1 60 (11 + 4 * j + i))), kwi h 60 (11 + 4 * j + i) x)) : Wp d 196 16 [some (.ref 59), some (.int (Int32.ofNat j)), some (.int (Int32.ofNat i)), some (.int (x))] [] h Q := by
  refine Wp.seg 9 (pc1 := 26) (ls1 := [some (.ref 59), some (.int (Int32.ofNat j)), some (.int (Int32.ofNat i)), some (.int (x))]) (st1 := [.int (x), .int (((11 : Int32) + ((4 : Int32) * (Int32.ofNat j))) + (Int32.ofNat i)), .ref 59]) rfl ?_
  refine Wp.invV (d2 := 0) (as := [.ref 59, .int (((11 : Int32) + ((4 : Int32) * (Int32.ofNat j))) + (Int32.ofNat i)), .int (x)]) (r := []) (t := (11, 0)) rfl rfl rfl rfl (WF.t hw 59 rfl) rfl rfl ⟨rfl, rfl⟩ (by omega) (s_becomes hw (i := 11 + 4 * j + i) (hidx j i) (by omega) ?_)
  show Wp d 196 29 [some (.ref 59), some (.int (Int32.ofNat j)), some (.int (Int32.ofNat i)), some (.int (x))] [.int (h.2.2.1 60 (11 + 4 * j + i))] (kwi h 60 (11 + 4 * j + i) x) Q
  refine Wp.seg 1 (pc1 := 33) (ls1 := [some (.ref 59), some (.int (Int32.ofNat j)), some (.int (Int32.ofNat i)), some (.int (x))]) (st1 := [.int (h.2.2.1 60 (11 + 4 * j + i))]) rfl ?_
  exact Wp.reti rfl rfl hQ
theorem J_change {h : KH} (hw : WF h) {A : Nat → Int32} {RL : List Rul} {n c dn en : Nat} (hk : both h A RL n c dn en) (v w x : Int32) : JJ h RL 90 [.ref 0, .int v, .int w, .int x] 196 [.ref 59, .int v, .int w, .int x] := by
  by_cases q : inB v 0 ((n : Int) - 1) = true ∧ ofB w x = true
  · obtain ⟨j, hj, rfl⟩ := inB_lt q.1
    obtain ⟨i, y, hi, hp, rfl, rfl⟩ := ofB_ok q.2
    have hn6 := hk.1.2.1.1
    have h4 := hp.w4
    have hj24 : 4 * j + i < 24 := by omega
    refine J_m (v := A (11 + 4 * j + i)) (B := ku A (11 + 4 * j + i) (Int32.ofNat y)) (n2 := n) (c2 := c) (dn2 := dn) (en2 := en) (dc := 2) (dm := 3) hw hk ?_ (fun k kw kk => ?_)
    · refine t_cch hw hk.1 (Nat.le_refl _) ?_
      exact ⟨fun c1 => absurd (c1) (by rw [q.1]; decide), fun c1 => ⟨fun c2 => t_cchB hw hj24 (by decide) (by rw [c_get hk.1 hj24]; exact mc_i (fr_kwi (by unfold pC; omega) (by decide)) (city_put cA1 hk.1 hj hp)), fun c2 => absurd (c2) (by rw [q.2]; decide)⟩⟩
    · refine t_mch kw kk (Nat.le_refl _) ?_
      exact ⟨fun c1 => absurd (c1) (by rw [q.1]; decide), fun c1 => ⟨fun c2 => absurd (c2) (by rw [q.2]; decide), fun c2 => t_mchB kw hj24 (by decide) (by rw [m_get kk hj24]; exact mm_i (fr_kwi rfl (by decide)) (fun m hm => kwi_o (by omega)) (ref_put kk hj hp))⟩⟩
  · refine J_m (v := -1) (B := A) (n2 := n) (c2 := c) (dn2 := dn) (en2 := en) (dc := 2) (dm := 3) hw hk ?_ (fun k kw kk => ?_)
    · refine t_cch hw hk.1 (Nat.le_refl _) ?_
      exact ⟨fun c1 => mc_bad hk.1, fun c1 => ⟨fun c2 => absurd ⟨c1, c2⟩ q, fun c2 => mc_bad hk.1⟩⟩
    · refine t_mch kw kk (Nat.le_refl _) ?_
      exact ⟨fun c1 => mm_bad kk, fun c1 => ⟨fun c2 => mm_bad kk, fun c2 => absurd ⟨c1, c2⟩ q⟩⟩
set_option maxHeartbeats 4000000 in
theorem t_crm {d : Nat} {Q : KO → Prop} {h : KH} (hw : WF h) {A : Nat → Int32} {RL : List Rul} {n c dn en : Nat} (hk : cityOK h 1 A RL n c dn en) {v x : Int32} (hd : 1 ≤ d) (hQ : ((inB v 0 ((n : Int) - 1)) = false → Q (some (.int (-1)), h)) ∧ ((inB v 0 ((n : Int) - 1)) = true → ((inB x 1 5) = true → Wp d 91 17 ([some (.ref 0), some (.int (v)), some (.int (x))]) [] h Q) ∧ ((inB x 1 5) = false → Q (some (.int (-1)), h)))) : Cl d 91 [.ref 0, .int (v), .int (x)] h Q := by
  refine Cl.of (ls := [some (.ref 0), some (.int (v)), some (.int (x))]) rfl rfl ?_
  refine Wp.seg 2 (pc1 := 2) (ls1 := [some (.ref 0), some (.int (v)), some (.int (x))]) (st1 := [.int (v), .ref 0]) rfl ?_
  refine Wp.invV (d2 := 0) (as := [.ref 0, .int (v)]) (r := []) (t := (10, 0)) rfl rfl rfl rfl (WF.t hw 0 rfl) rfl rfl ⟨rfl, rfl⟩ (by omega) (s_hand hw hk ?_)
  show Wp d 91 5 [some (.ref 0), some (.int (v)), some (.int (x))] [.int (b32 (inB v 0 ((n : Int) - 1)))] h Q
  refine Wp.ifz rfl (fun (c1 : (inB v 0 ((n : Int) - 1)) = false) => ?_) (fun (c1 : (inB v 0 ((n : Int) - 1)) = true) => ?_)
  · refine Wp.seg 1 (pc1 := 16) (ls1 := [some (.ref 0), some (.int (v)), some (.int (x))]) (st1 := [.int (-1)]) rfl ?_
    exact Wp.reti rfl rfl (hQ.1 c1)
  · refine Wp.seg 1 (pc1 := 9) (ls1 := [some (.ref 0), some (.int (v)), some (.int (x))]) (st1 := [.int (x)]) rfl ?_
    refine Wp.inv (d2 := 0) (as := [.int (x)]) (r := []) rfl rfl rfl rfl rfl rfl (by omega) (s_b103 ?_)
    show Wp d 91 12 [some (.ref 0), some (.int (v)), some (.int (x))] [.int (b32 (inB x 1 5))] h Q
    refine Wp.ifnz rfl (fun (c2 : (inB x 1 5) = true) => ?_) (fun (c2 : (inB x 1 5) = false) => ?_)
    · exact ((hQ.2 c1).1 c2)
    · refine Wp.seg 1 (pc1 := 16) (ls1 := [some (.ref 0), some (.int (v)), some (.int (x))]) (st1 := [.int (-1)]) rfl ?_
      exact Wp.reti rfl rfl ((hQ.2 c1).2 c2)
set_option maxHeartbeats 4000000 in
theorem t_mrm {d : Nat} {Q : KO → Prop} {h : KH} (hw : WF h) {A : Nat → Int32} {RL : List Rul} {n c dn en : Nat} (hk : refOK h A RL n c dn en) {v x : Int32} (hd : 2 ≤ d) (hQ : ((inB v 0 ((n : Int) - 1)) = false → Q (some (.int (-1)), h)) ∧ ((inB v 0 ((n : Int) - 1)) = true → ((inB x 1 5) = false → Q (some (.int (-1)), h)) ∧ ((inB x 1 5) = true → Wp d 197 17 ([some (.ref 59), some (.int (v)), some (.int (x))]) [] h Q))) : Cl d 197 [.ref 59, .int (v), .int (x)] h Q := by
  refine Cl.of (ls := [some (.ref 59), some (.int (v)), some (.int (x))]) rfl rfl ?_
  refine Wp.seg 2 (pc1 := 2) (ls1 := [some (.ref 59), some (.int (v)), some (.int (x))]) (st1 := [.int (v), .ref 59]) rfl ?_
  refine Wp.invV (d2 := 1) (as := [.ref 59, .int (v)]) (r := []) (t := (11, 0)) rfl rfl rfl rfl (WF.t hw 59 rfl) rfl rfl ⟨rfl, rfl⟩ (by omega) (m_hand hw hk (Nat.le_refl _) ?_)
  show Wp d 197 5 [some (.ref 59), some (.int (v)), some (.int (x))] [.int (b32 (inB v 0 ((n : Int) - 1)))] h Q
  refine Wp.ifz rfl (fun (c1 : (inB v 0 ((n : Int) - 1)) = false) => ?_) (fun (c1 : (inB v 0 ((n : Int) - 1)) = true) => ?_)
  · refine Wp.seg 1 (pc1 := 32) (ls1 := [some (.ref 59), some (.int (v)), some (.int (x))]) (st1 := [.int (-1)]) rfl ?_
    exact Wp.reti rfl rfl (hQ.1 c1)
  · refine Wp.seg 3 (pc1 := 11) (ls1 := [some (.ref 59), some (.int (v)), some (.int (x))]) (st1 := [.int (5), .int (1), .int (x)]) rfl ?_
    refine Wp.inv (d2 := 0) (as := [.int (x), .int (1), .int (5)]) (r := []) rfl rfl rfl rfl rfl rfl (by omega) (s_inB (x := 1) (y := 5) rfl rfl ?_)
    show Wp d 197 14 [some (.ref 59), some (.int (v)), some (.int (x))] [.int (b32 (inB x 1 5))] h Q
    refine Wp.ifz rfl (fun (c2 : (inB x 1 5) = false) => ?_) (fun (c2 : (inB x 1 5) = true) => ?_)
    · refine Wp.seg 1 (pc1 := 32) (ls1 := [some (.ref 59), some (.int (v)), some (.int (x))]) (st1 := [.int (-1)]) rfl ?_
      exact Wp.reti rfl rfl ((hQ.2 c1).1 c2)
    · exact ((hQ.2 c1).2 c2)
set_option maxHeartbeats 4000000 in
theorem t_crmB {d : Nat} {Q : KO → Prop} {h : KH} (hw : WF h) {j : Nat} {x : Int32} (hj : 4 * j + 0 < 24) (hd : 1 ≤ d) (hQ : Q (some (.int (h.2.2.1 (1 + 1) (4 * j + 0))), kwi h (1 + 1) (4 * j + 0) x)) : Wp d 91 17 [some (.ref 0), some (.int (Int32.ofNat j)), some (.int (x))] [] h Q := by
  refine Wp.seg 1 (pc1 := 18) (ls1 := [some (.ref 0), some (.int (Int32.ofNat j)), some (.int (x))]) (st1 := [.ref 0]) rfl ?_
  refine Wp.gr (t := (10, 0)) (v := some (1)) rfl (WF.t hw 0 rfl) rfl (WF.r hw 0 0 0 rfl) ?_
  show Wp d 91 21 [some (.ref 0), some (.int (Int32.ofNat j)), some (.int (x))] [.ref 1] h Q
  refine Wp.seg 3 (pc1 := 24) (ls1 := [some (.ref 0), some (.int (Int32.ofNat j)), some (.int (x))]) (st1 := [.int (x), .int (0), .int (Int32.ofNat j), .ref 1]) rfl ?_
  refine Wp.invV (d2 := 0) (as := [.ref 1, .int (Int32.ofNat j), .int (0), .int (x)]) (r := []) (t := (1, 0)) rfl rfl rfl rfl (WF.t hw 1 rfl) rfl rfl ⟨rfl, rfl⟩ (by omega) (s_cput hw cA1 (n := j) (w := 0) rfl (by omega) ?_)
  show Wp d 91 27 [some (.ref 0), some (.int (Int32.ofNat j)), some (.int (x))] [.int (h.2.2.1 (1 + 1) (4 * j + 0))] (kwi h (1 + 1) (4 * j + 0) x) Q
  exact Wp.reti rfl rfl hQ
theorem hidx0 (j : Nat) : (11 : Int32) + 4 * Int32.ofNat j = Int32.ofNat (11 + 4 * j + 0) := by
  rw [← hidx j 0, show Int32.ofNat 0 = (0 : Int32) from rfl, i32_add0]
set_option maxHeartbeats 4000000 in
theorem t_mrmB {d : Nat} {Q : KO → Prop} {h : KH} (hw : WF h) {j : Nat} {x : Int32} (hj : 4 * j + 0 < 24) (hd : 1 ≤ d) (hQ : Q (some (.int (h.2.2.1 60 (11 + 4 * j + 0))), kwi h 60 (11 + 4 * j + 0) x)) : Wp d 197 17 [some (.ref 59), some (.int (Int32.ofNat j)), some (.int (x))] [] h Q := by
  refine Wp.seg 7 (pc1 := 25) (ls1 := [some (.ref 59), some (.int (Int32.ofNat j)), some (.int (x))]) (st1 := [.int (x), .int ((11 : Int32) + ((4 : Int32) * (Int32.ofNat j))), .ref 59]) rfl ?_
  refine Wp.invV (d2 := 0) (as := [.ref 59, .int ((11 : Int32) + ((4 : Int32) * (Int32.ofNat j))), .int (x)]) (r := []) (t := (11, 0)) rfl rfl rfl rfl (WF.t hw 59 rfl) rfl rfl ⟨rfl, rfl⟩ (by omega) (s_becomes hw (i := 11 + 4 * j + 0) (hidx0 j) (by omega) ?_)
  show Wp d 197 28 [some (.ref 59), some (.int (Int32.ofNat j)), some (.int (x))] [.int (h.2.2.1 60 (11 + 4 * j + 0))] (kwi h 60 (11 + 4 * j + 0) x) Q
  refine Wp.seg 1 (pc1 := 32) (ls1 := [some (.ref 59), some (.int (Int32.ofNat j)), some (.int (x))]) (st1 := [.int (h.2.2.1 60 (11 + 4 * j + 0))]) rfl ?_
  exact Wp.reti rfl rfl hQ
theorem J_remake {h : KH} (hw : WF h) {A : Nat → Int32} {RL : List Rul} {n c dn en : Nat} (hk : both h A RL n c dn en) (v x : Int32) : JJ h RL 91 [.ref 0, .int v, .int x] 197 [.ref 59, .int v, .int x] := by
  by_cases q : inB v 0 ((n : Int) - 1) = true ∧ inB x 1 5 = true
  · obtain ⟨j, hj, rfl⟩ := inB_lt q.1
    obtain ⟨y, hy1, hy2, rfl⟩ := inB_natL (a := 1) (b := 5) q.2
    have hn6 := hk.1.2.1.1
    have hp : putOK 0 y := by unfold putOK; omega
    have hj24 : 4 * j + 0 < 24 := by omega
    refine J_m (v := A (11 + 4 * j + 0)) (B := ku A (11 + 4 * j + 0) (Int32.ofNat y)) (n2 := n) (c2 := c) (dn2 := dn) (en2 := en) (dc := 1) (dm := 2) hw hk ?_ (fun k kw kk => ?_)
    · refine t_crm hw hk.1 (Nat.le_refl _) ?_
      exact ⟨fun c1 => absurd (c1) (by rw [q.1]; decide), fun c1 => ⟨fun c2 => t_crmB hw hj24 (by decide) (by rw [c_get hk.1 hj24]; exact mc_i (fr_kwi (by unfold pC; omega) (by decide)) (city_put cA1 hk.1 hj hp)), fun c2 => absurd (c2) (by rw [q.2]; decide)⟩⟩
    · refine t_mrm kw kk (Nat.le_refl _) ?_
      exact ⟨fun c1 => absurd (c1) (by rw [q.1]; decide), fun c1 => ⟨fun c2 => absurd (c2) (by rw [q.2]; decide), fun c2 => t_mrmB kw hj24 (by decide) (by rw [m_get kk hj24]; exact mm_i (fr_kwi rfl (by decide)) (fun m hm => kwi_o (by omega)) (ref_put kk hj hp))⟩⟩
  · refine J_m (v := -1) (B := A) (n2 := n) (c2 := c) (dn2 := dn) (en2 := en) (dc := 1) (dm := 2) hw hk ?_ (fun k kw kk => ?_)
    · refine t_crm hw hk.1 (Nat.le_refl _) ?_
      exact ⟨fun c1 => mc_bad hk.1, fun c1 => ⟨fun c2 => absurd ⟨c1, c2⟩ q, fun c2 => mc_bad hk.1⟩⟩
    · refine t_mrm kw kk (Nat.le_refl _) ?_
      exact ⟨fun c1 => mm_bad kk, fun c1 => ⟨fun c2 => mm_bad kk, fun c2 => absurd ⟨c1, c2⟩ q⟩⟩
