/-! KM: both sides: sheets -/
def hL (h : KH) (J : Nat → Nat → Int64) : KH := (h.1, h.2.1, h.2.2.1, J, h.2.2.2.2)
theorem tape_fr {P R : Nat → Prop} {h k : KH} {T : List Nat} (ho : tapeOK h T) (f : Fr P R h k) (p : ¬ P 29 ∧ ¬ P 30 ∧ ¬ P 63) (e : k.2.2.1 59 5 = h.2.2.1 59 5) : tapeOK k T := by
  unfold tapeOK at ho ⊢
  rw [f.2.2.1 29 (Or.inl p.1), e, f.2.2.1 30 (Or.inl p.2.1), f.2.2.1 63 (Or.inl p.2.2)]
  exact ho
theorem rows_fr {P R : Nat → Prop} {h k : KH} {r : Nat} (ho : rowsOK h r) (f : Fr P R h k) (p : ∀ c, P c → ¬ (34 ≤ c ∧ c ≤ 37) ∧ c ≠ 67) (e0 : k.2.2.1 0 7 = h.2.2.1 0 7) (e : k.2.2.1 59 20 = h.2.2.1 59 20) : rowsOK k r := by
  unfold rowsOK at ho ⊢
  rw [e0, e, f.2.2.1 67 (Or.inl (fun z => (p _ z).2 rfl))]
  refine ⟨ho.1, ho.2.1, ho.2.2.1, fun i w hi hw => ?_⟩
  rw [f.2.2.1 (34 + i) (Or.inl (fun z => (p _ z).1 ⟨by omega, by omega⟩))]
  exact ho.2.2.2 i w hi hw
theorem sheet_fr {P R : Nat → Prop} {h k : KH} {s : Nat} (hs : s < 4) (ho : sheetOK h s) (f : Fr P R h k) (p : ∀ c, P c → ¬ (38 ≤ c ∧ c ≤ 44) ∧ ¬ (68 ≤ c ∧ c ≤ 70)) : sheetOK k s := by
  unfold sheetOK at ho ⊢
  have q : ∀ c, (38 ≤ c ∧ c ≤ 44) ∨ (68 ≤ c ∧ c ≤ 70) → k.2.2.1 c = h.2.2.1 c := fun c hc => f.2.2.1 c (Or.inl (fun z => hc.elim (p c z).1 (p c z).2))
  rw [q 38 (by omega), q 39 (by omega), q 68 (by omega), q 69 (by omega), q (41 + s) (by omega), f.2.1]
  exact ho
theorem shelf_fr {P R : Nat → Prop} {h k : KH} {s : Nat} (ho : shelfOK h s) (f : Fr P R h k) (p : ∀ c, P c → ¬ (45 ≤ c ∧ c ≤ 47) ∧ ¬ (71 ≤ c ∧ c ≤ 73)) : shelfOK k s := by
  unfold shelfOK at ho ⊢
  have q : ∀ c, (45 ≤ c ∧ c ≤ 47) ∨ (71 ≤ c ∧ c ≤ 73) → k.2.2.1 c = h.2.2.1 c := fun c hc => f.2.2.1 c (Or.inl (fun z => hc.elim (p c z).1 (p c z).2))
  rw [q 45 (by omega), q 46 (by omega), q 47 (by omega), q 71 (by omega), q 72 (by omega), q 73 (by omega)]
  exact ho
theorem trace_fr {P R : Nat → Prop} {h k : KH} (ho : traceOK h) (f : Fr P R h k) (p : ∀ c, P c → ¬ (49 ≤ c ∧ c ≤ 58) ∧ c ≠ 74) (e : k.2.2.1 59 29 = h.2.2.1 59 29) : traceOK k := by
  have r15 : k.2.1 0 15 = h.2.1 0 15 := f.2.2.2 0 15 (Or.inr ⟨by decide, by decide⟩)
  unfold traceOK at ho ⊢
  rw [r15, e, f.2.2.1 74 (Or.inl (fun z => (p _ z).2 rfl))]
  rcases ho with o6 | ⟨t, gg, b1, b2, b3, b4, b5, b6⟩
  · exact Or.inl o6
  · have ht := thing_le b1
    refine Or.inr ⟨t, gg, b1, b2, b3, by rw [f.2.2.1 t (Or.inl (fun z => (p _ z).1 ⟨by omega, by omega⟩))]; exact b4, b5, fun i hi => ?_⟩
    rw [f.2.2.1 (t + 1) (Or.inl (fun z => (p _ z).1 ⟨by omega, by omega⟩))]
    exact b6 i hi
/-- all is kept, if the parts are -/
theorem inv_of {P : Nat → Prop} {h k : KH} {J : Nat → Nat → Int64} (hi : Inv h) (f : Fr P noP h k) (p : ¬ P 1 ∧ ¬ P 2 ∧ ¬ P 4 ∧ ¬ P 5 ∧ ¬ P 60 ∧ ¬ P 61) (e4 : k.2.2.1 0 4 = h.2.2.1 0 4) (e3 : k.2.2.1 59 3 = h.2.2.1 59 3) (t : ∃ T, tapeOK k T) (r : ∃ R, rowsOK k R) (s : ∀ s, s < 4 → sheetOK (hL k J) s) (sh : ∀ s, s < 4 → shelfOK k s) (tr : traceOK k) : Inv (hL k J) := by
  obtain ⟨hw, ⟨A, RL, n, c, dn, en, RP, hb, hr⟩, ho, hf⟩ := hi
  have kw : WF k := f.wf hw (fun z => z)
  have c1 := city_fr hb.1 f p.1 p.2.1 (fun z => z)
  have m1 := refOK_eq (k := k) hb.2 (f.2.2.1 60 (Or.inl p.2.2.2.2.1))
  have r1 : reps k (k.2.1 1 11) (k.2.2.1 60) RP := by
    rw [f.2.2.2 1 11 (Or.inl (Or.inl (fun z => z)))]
    exact reps_fr hr f (fun m _ => by rw [f.2.2.1 60 (Or.inl p.2.2.2.2.1)])
  have ck : ∀ {a : Nat} {A : Nat → Int32} {RL : List Rul} {n c dn en : Nat}, cityOK k a A RL n c dn en → cityOK (hL k J) a A RL n c dn en := fun z => z
  have rk : ∀ {v : Option Nat} {S : Nat → Int32} {RP : List (Nat × Nat × Nat)}, reps k v S RP → reps (hL k J) v S RP := fun {v S RP} z => ⟨crep_fr (h := k) (k := hL k J) (Nat.le_refl _) (fun _ _ _ => rfl) (fun _ _ _ _ => rfl) (fun _ _ _ => rfl) RP v z.1, z.2⟩
  have fre : freeOK (hL k J) := fun a ha o e => free_fr hf f ⟨fun z => z, fun z => z⟩ a ha o e
  refine ⟨kw, ⟨A, RL, n, c, dn, en, RP, ⟨ck c1, m1⟩, rk r1⟩, ⟨?_, t, r, s, sh, tr⟩, fre⟩
  have o1 := ho.1
  unfold keptOK at o1 ⊢
  rcases o1 with o1 | ⟨a1, a2, A4, RL4, n4, c4, dn4, en4, RP4, a3, a4, a5⟩
  · exact Or.inl ⟨e4.trans o1.1, e3.trans o1.2⟩
  · refine Or.inr ⟨e4.trans a1, e3.trans a2, A4, RL4, n4, c4, dn4, en4, RP4, ck (city_fr a3 f p.2.2.1 p.2.2.2.1 (fun z => z)), ?_, ?_⟩
    · show refS (k.2.2.1 61) _ _ _ _ _ _
      rw [f.2.2.1 61 (Or.inl p.2.2.2.2.2)]
      exact a4
    · show reps (hL k J) (k.2.1 4 11) (k.2.2.1 61) RP4
      rw [f.2.2.2 4 11 (Or.inl (Or.inl (fun z => z))), f.2.2.1 61 (Or.inl p.2.2.2.2.2)]
      exact rk (reps_fr a5 f (fun _ _ => rfl))
theorem it_r {h : KH} (hw : WF h) {s : Nat} (hs : s < 4) : h.2.1 40 s = some (41 + s) := by
  have h4 : s = 0 ∨ s = 1 ∨ s = 2 ∨ s = 3 := by omega
  rcases h4 with rfl | rfl | rfl | rfl
  · exact WF.r hw 40 0 44 rfl
  · exact WF.r hw 40 1 45 rfl
  · exact WF.r hw 40 2 46 rfl
  · exact WF.r hw 40 3 47 rfl
theorem it_t {h : KH} (hw : WF h) {s : Nat} (hs : s < 4) : h.1 (41 + s) = (20, 40) := by
  have h4 : s = 0 ∨ s = 1 ∨ s = 2 ∨ s = 3 := by omega
  rcases h4 with rfl | rfl | rfl | rfl <;> exact WF.t hw _ rfl
/-- a place in a sheet -/
def plB (z : Nat) (i : Int32) : Bool := inB i 0 ((z : Int) - 1)
theorem plB_lt {z : Nat} {i : Int32} (h : plB z i = true) : ∃ j, j < z ∧ i = Int32.ofNat j := inB_lt h
theorem six (s j : Nat) : (40 : Int32) * Int32.ofNat s + Int32.ofNat j = Int32.ofNat (40 * s + j) := by
  rw [show (40 : Int32) = Int32.ofNat 40 from rfl, ← Int32.ofNat_mul, ← Int32.ofNat_add]
set_option maxHeartbeats 4000000 in
theorem t_item {d : Nat} {Q : KO → Prop} {h : KH} (hw : WF h) {s z : Nat} {i : Int32} (hs : s < 4) (h39 : h.2.2.1 39 s = Int32.ofNat z) (hd : 0 ≤ d) (hQ : (i < 0 → Q (some (.int (0)), h)) ∧ (¬ (i < 0) → ((Int32.ofNat z) ≤ i → Q (some (.int (0)), h)) ∧ (¬ ((Int32.ofNat z) ≤ i) → ((40 : Int32) ≤ i → Q (some (.int (0)), h)) ∧ (¬ ((40 : Int32) ≤ i) → Q (some (.int (1)), h))))) : Cl d 155 [.ref 0, .int (Int32.ofNat s), .int (i)] h Q := by
  refine Cl.of (ls := [some (.ref 0), some (.int (Int32.ofNat s)), some (.int (i))]) rfl rfl ?_
  refine Wp.seg 1 (pc1 := 1) (ls1 := [some (.ref 0), some (.int (Int32.ofNat s)), some (.int (i))]) (st1 := [.int (i)]) rfl ?_
  refine Wp.if1 rfl (fun (c1 : i < 0) => ?_) (fun (c1 : ¬ (i < 0)) => ?_)
  · refine Wp.seg 1 (pc1 := 25) (ls1 := [some (.ref 0), some (.int (Int32.ofNat s)), some (.int (i))]) (st1 := [.int (0)]) rfl ?_
    exact Wp.reti rfl rfl (hQ.1 c1)
  · refine Wp.seg 2 (pc1 := 6) (ls1 := [some (.ref 0), some (.int (Int32.ofNat s)), some (.int (i))]) (st1 := [.ref 0, .int (i)]) rfl ?_
    refine Wp.gr (t := (10, 0)) (v := some (39)) rfl (WF.t hw 0 rfl) rfl (WF.r hw 0 9 7 rfl) ?_
    show Wp d 155 9 [some (.ref 0), some (.int (Int32.ofNat s)), some (.int (i))] [.ref 39, .int (i)] h Q
    refine Wp.seg 1 (pc1 := 10) (ls1 := [some (.ref 0), some (.int (Int32.ofNat s)), some (.int (i))]) (st1 := [.int (Int32.ofNat s), .ref 39, .int (i)]) rfl ?_
    refine Wp.iald (j := s) (k := 20) (n := 4) rfl (WF.t hw 39 rfl) rfl rfl hs (by decide) ?_
    rw [show h.2.2.1 39 s = Int32.ofNat z from h39]
    refine Wp.if2 rfl (fun (c2 : (Int32.ofNat z) ≤ i) => ?_) (fun (c2 : ¬ ((Int32.ofNat z) ≤ i)) => ?_)
    · refine Wp.seg 1 (pc1 := 25) (ls1 := [some (.ref 0), some (.int (Int32.ofNat s)), some (.int (i))]) (st1 := [.int (0)]) rfl ?_
      exact Wp.reti rfl rfl ((hQ.2 c1).1 c2)
    · refine Wp.seg 2 (pc1 := 17) (ls1 := [some (.ref 0), some (.int (Int32.ofNat s)), some (.int (i))]) (st1 := [.int (40), .int (i)]) rfl ?_
      refine Wp.if2 rfl (fun (c3 : (40 : Int32) ≤ i) => ?_) (fun (c3 : ¬ ((40 : Int32) ≤ i)) => ?_)
      · refine Wp.seg 1 (pc1 := 25) (ls1 := [some (.ref 0), some (.int (Int32.ofNat s)), some (.int (i))]) (st1 := [.int (0)]) rfl ?_
        exact Wp.reti rfl rfl (((hQ.2 c1).2 c2).1 c3)
      · refine Wp.seg 2 (pc1 := 25) (ls1 := [some (.ref 0), some (.int (Int32.ofNat s)), some (.int (i))]) (st1 := [.int (1)]) rfl ?_
        exact Wp.reti rfl rfl (((hQ.2 c1).2 c2).2 c3)
theorem s_item {d : Nat} {Q : KO → Prop} {h : KH} (hw : WF h) {s z : Nat} {i : Int32} (hs : s < 4) (hz : z ≤ 40) (h39 : h.2.2.1 39 s = Int32.ofNat z) (hQ : Q (some (.int (b32 (plB z i))), h)) : Cl d 155 [.ref 0, .int (Int32.ofNat s), .int i] h Q := by
  have T : plB z i = true → Q (some (.int 1), h) := fun e => by rw [e] at hQ; exact hQ
  have F : plB z i = false → Q (some (.int 0), h) := fun e => by rw [e] at hQ; exact hQ
  refine t_item hw hs h39 (Nat.zero_le _) ⟨fun c1 => F ?_, fun c1 => ⟨fun c2 => F ?_, fun c2 => ⟨fun c3 => F ?_, fun c3 => T ?_⟩⟩⟩
  · have := i32T (rfl : i.toInt = i.toInt) (show (0 : Int32).toInt = 0 from rfl) c1
    exact inB_f (by omega)
  · have := i32L (znat (n := z) (by omega)) (rfl : i.toInt = i.toInt) c2
    exact inB_f (by omega)
  · have k2 := i32G (znat (n := z) (by omega)) (rfl : i.toInt = i.toInt) c2
    have := i32L (show (40 : Int32).toInt = 40 from rfl) (rfl : i.toInt = i.toInt) c3
    exact inB_f (by omega)
  · have k1 := i32F (rfl : i.toInt = i.toInt) (show (0 : Int32).toInt = 0 from rfl) c1
    have k2 := i32G (znat (n := z) (by omega)) (rfl : i.toInt = i.toInt) c2
    exact inB_t (by omega)
theorem s_plB {d : Nat} {Q : KO → Prop} {h : KH} {z : Nat} {i b : Int32} (hz : z ≤ 40) (hb : b = Int32.ofNat z - 1) (hQ : Q (some (.int (b32 (plB z i))), h)) : Cl d 170 [.int i, .int 0, .int b] h Q := by
  subst hb
  exact s_inB (x := 0) (y := (z : Int) - 1) rfl (zs (znat (n := z) (by omega)) (n := 1) rfl (by omega)) hQ
set_option maxHeartbeats 4000000 in
theorem t_cit1 {d : Nat} {Q : KO → Prop} {h : KH} (hw : WF h) {v w i : Int32} (q : inB v 0 3 = false) (hd : 2 ≤ d) (hQ : Q (some (.int (-1)), h)) : Cl d 151 [.ref 0, .int (v), .int (w), .int (i)] h Q := by
  refine Cl.of (ls := [some (.ref 0), some (.int (v)), some (.int (w)), some (.int (i)), none]) rfl rfl ?_
  refine Wp.seg 1 (pc1 := 1) (ls1 := [some (.ref 0), some (.int (v)), some (.int (w)), some (.int (i)), none]) (st1 := [.int (v)]) rfl ?_
  refine Wp.inv (d2 := 0) (as := [.int (v)]) (r := []) rfl rfl rfl rfl rfl rfl (by omega) (s_b154 ?_)
  show Wp d 151 4 [some (.ref 0), some (.int (v)), some (.int (w)), some (.int (i)), none] [.int (b32 (inB v 0 3))] h Q
  refine Wp.ifz rfl (fun c1 => ?_) (fun c1 => absurd (c1.symm.trans (q)) (by decide))
  refine Wp.seg 1 (pc1 := 17) (ls1 := [some (.ref 0), some (.int (v)), some (.int (w)), some (.int (i)), none]) (st1 := [.int (-1)]) rfl ?_
  exact Wp.reti rfl rfl hQ
set_option maxHeartbeats 4000000 in
theorem t_mit1 {d : Nat} {Q : KO → Prop} {h : KH} (hw : WF h) {v w i : Int32} (q : inB v 0 3 = false) (hd : 2 ≤ d) (hQ : Q (some (.int (-1)), h)) : Cl d 266 [.ref 59, .int (v), .int (w), .int (i)] h Q := by
  refine Cl.of (ls := [some (.ref 59), some (.int (v)), some (.int (w)), some (.int (i))]) rfl rfl ?_
  refine Wp.seg 1 (pc1 := 1) (ls1 := [some (.ref 59), some (.int (v)), some (.int (w)), some (.int (i))]) (st1 := [.int (v)]) rfl ?_
  refine Wp.inv (d2 := 1) (as := [.int (v)]) (r := []) rfl rfl rfl rfl rfl rfl (by omega) (s_b177 (Nat.le_refl _) ?_)
  show Wp d 266 4 [some (.ref 59), some (.int (v)), some (.int (w)), some (.int (i))] [.int (b32 (inB v 0 3))] h Q
  refine Wp.ifz rfl (fun c1 => ?_) (fun c1 => absurd (c1.symm.trans (q)) (by decide))
  refine Wp.seg 1 (pc1 := 17) (ls1 := [some (.ref 59), some (.int (v)), some (.int (w)), some (.int (i))]) (st1 := [.int (-1)]) rfl ?_
  exact Wp.reti rfl rfl hQ
set_option maxHeartbeats 4000000 in
theorem t_nar {d : Nat} {Q : KO → Prop} {h : KH} {w v : Int32} (hd : 0 ≤ d) (hQ : (w = 0 → Q (some (.int (v.toInt8.toInt32)), h)) ∧ (¬ (w = 0) → (w = 1 → Q (some (.int (v.toInt16.toInt32)), h)) ∧ (¬ (w = 1) → (w = 2 → Q (some (.int (v)), h)) ∧ (¬ (w = 2) → (w = 3 → Q (some (.int (v)), h)) ∧ (¬ (w = 3) → (w = 4 → (v = 0 → Q (some (.int (0)), h)) ∧ (¬ (v = 0) → Q (some (.int (1)), h))) ∧ (¬ (w = 4) → Q (some (.int (v)), h))))))) : Cl d 150 [.int (w), .int (v)] h Q := by
  refine Cl.of (ls := [some (.int (w)), some (.int (v))]) rfl rfl ?_
  refine Wp.seg 1 (pc1 := 1) (ls1 := [some (.int (w)), some (.int (v))]) (st1 := [.int (w)]) rfl ?_
  refine Wp.tsw rfl ?_
  refine ⟨fun c1 => ?_, fun c1 => ?_⟩
  · have c1 : w = 0 := c1
    show Wp d 150 36 [some (.int (w)), some (.int (v))] [] h Q
    refine Wp.seg 2 (pc1 := 38) (ls1 := [some (.int (w)), some (.int (v))]) (st1 := [.int (v.toInt8.toInt32)]) rfl ?_
    exact Wp.reti rfl rfl (hQ.1 c1)
  have c1 : ¬ w = 0 := c1
  refine ⟨fun c2 => ?_, fun c2 => ?_⟩
  · have c2 : w = 1 := c2
    show Wp d 150 39 [some (.int (w)), some (.int (v))] [] h Q
    refine Wp.seg 2 (pc1 := 41) (ls1 := [some (.int (w)), some (.int (v))]) (st1 := [.int (v.toInt16.toInt32)]) rfl ?_
    exact Wp.reti rfl rfl ((hQ.2 c1).1 c2)
  have c2 : ¬ w = 1 := c2
  refine ⟨fun c3 => ?_, fun c3 => ?_⟩
  · have c3 : w = 2 := c3
    show Wp d 150 52 [some (.int (w)), some (.int (v))] [] h Q
    refine Wp.seg 1 (pc1 := 53) (ls1 := [some (.int (w)), some (.int (v))]) (st1 := [.int (v)]) rfl ?_
    exact Wp.reti rfl rfl (((hQ.2 c1).2 c2).1 c3)
  have c3 : ¬ w = 2 := c3
  refine ⟨fun c4 => ?_, fun c4 => ?_⟩
  · have c4 : w = 3 := c4
    show Wp d 150 52 [some (.int (w)), some (.int (v))] [] h Q
    refine Wp.seg 1 (pc1 := 53) (ls1 := [some (.int (w)), some (.int (v))]) (st1 := [.int (v)]) rfl ?_
    exact Wp.reti rfl rfl ((((hQ.2 c1).2 c2).2 c3).1 c4)
  have c4 : ¬ w = 3 := c4
  refine ⟨fun c5 => ?_, fun c5 => ?_⟩
  · have c5 : w = 4 := c5
    show Wp d 150 42 [some (.int (w)), some (.int (v))] [] h Q
    refine Wp.seg 1 (pc1 := 43) (ls1 := [some (.int (w)), some (.int (v))]) (st1 := [.int (v)]) rfl ?_
    refine Wp.if1 rfl (fun (c6 : v = 0) => ?_) (fun (c6 : ¬ (v = 0)) => ?_)
    · refine Wp.seg 1 (pc1 := 51) (ls1 := [some (.int (w)), some (.int (v))]) (st1 := [.int (0)]) rfl ?_
      exact Wp.reti rfl rfl ((((((hQ.2 c1).2 c2).2 c3).2 c4).1 c5).1 c6)
    · refine Wp.seg 2 (pc1 := 51) (ls1 := [some (.int (w)), some (.int (v))]) (st1 := [.int (1)]) rfl ?_
      exact Wp.reti rfl rfl ((((((hQ.2 c1).2 c2).2 c3).2 c4).1 c5).2 c6)
  have c5 : ¬ w = 4 := c5
  show Wp d 150 52 [some (.int (w)), some (.int (v))] [] h Q
  refine Wp.seg 1 (pc1 := 53) (ls1 := [some (.int (w)), some (.int (v))]) (st1 := [.int (v)]) rfl ?_
  exact Wp.reti rfl rfl (((((hQ.2 c1).2 c2).2 c3).2 c4).2 c5)
def narS (w v : Int32) : Int32 := if w = 0 then v.toInt8.toInt32 else if w = 1 then v.toInt16.toInt32 else if w = 4 then (if v = 0 then 0 else 1) else v
theorem s_nar {d : Nat} {Q : KO → Prop} {h : KH} {w v : Int32} (hQ : Q (some (.int (narS w v)), h)) : Cl d 150 [.int w, .int v] h Q := by
  unfold narS at hQ
  refine t_nar (Nat.zero_le _) ⟨fun c0 => ?_, fun c0 => ⟨fun c1 => ?_, fun c1 => ⟨fun c2 => ?_, fun c2 => ⟨fun c3 => ?_, fun c3 => ⟨fun c4 => ⟨fun c5 => ?_, fun c5 => ?_⟩, fun c4 => ?_⟩⟩⟩⟩⟩
  · rw [if_pos c0] at hQ; exact hQ
  · rw [if_neg c0, if_pos c1] at hQ; exact hQ
  · rw [if_neg c0, if_neg c1, if_neg (by rw [c2]; decide)] at hQ; exact hQ
  · rw [if_neg c0, if_neg c1, if_neg (by rw [c3]; decide)] at hQ; exact hQ
  · rw [if_neg c0, if_neg c1, if_pos c4, if_pos c5] at hQ; exact hQ
  · rw [if_neg c0, if_neg c1, if_pos c4, if_neg c5] at hQ; exact hQ
  · rw [if_neg c0, if_neg c1, if_neg c4] at hQ; exact hQ
