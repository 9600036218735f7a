/-! KM: questions leave what both keep as it was; numbers in bounds -/
def pQ : Nat → Prop := fun c => c = 3 ∨ (6 ≤ c ∧ c ≤ 28) ∨ (59 ≤ c ∧ c ≤ 66 ∧ c ≠ 61 ∧ c ≠ 63)
def rQ : Nat → Prop := fun c => 7 ≤ c ∧ c ≤ 28
/-- nothing that a later call shows is other than it was -/
def Quiet (h k : KH) : Prop := Fr pQ rQ h k ∧ k.2.2.1 60 = h.2.2.1 60 ∧ (∀ i, (i = 3 ∨ i = 5 ∨ i = 20 ∨ i = 29) → k.2.2.1 59 i = h.2.2.1 59 i)
theorem Quiet.refl (h : KH) : Quiet h h := ⟨Fr.refl h, rfl, fun _ _ => rfl⟩
theorem Quiet.trans {h k l : KH} (f : Quiet h k) (g : Quiet k l) : Quiet h l := ⟨f.1.trans g.1, g.2.1.trans f.2.1, fun i hi => (g.2.2 i hi).trans (f.2.2 i hi)⟩
theorem Quiet.wf {h k : KH} (f : Quiet h k) (hw : WF h) : WF k := f.1.wf hw (by unfold rQ; omega)
theorem Quiet.c1 {h k : KH} {A : Nat → Int32} {RL : List Rul} {n c dn en : Nat} (f : Quiet h k) (hk : cityOK h 1 A RL n c dn en) : cityOK k 1 A RL n c dn en := city_fr hk f.1 (by unfold pQ; omega) (by unfold pQ; omega) (by unfold rQ; omega)
theorem Quiet.m {h k : KH} {A : Nat → Int32} {RL : List Rul} {n c dn en : Nat} (f : Quiet h k) (hk : refOK h A RL n c dn en) : refOK k A RL n c dn en := refOK_eq hk f.2.1
/-- frames that are quiet -/
theorem quiet_c {P R : Nat → Prop} {h k : KH} (f : Fr P R h k) (hP : ∀ c, P c → pQ c ∧ c < 59) (hR : ∀ c, R c → rQ c) : Quiet h k := ⟨f.mono (fun c z => (hP c z).1) hR, f.2.2.1 60 (Or.inl (fun z => by have := (hP _ z).2; omega)), fun i _ => by rw [f.2.2.1 59 (Or.inl (fun z => by have := (hP _ z).2; omega))]⟩
theorem quiet_m {h k : KH} (f : Fr pT noP h k) (e : k.2.2.1 60 = h.2.2.1 60) : Quiet h k := ⟨f.mono (fun c z => by unfold pT at z; unfold pQ; omega) (fun c z => absurd z (fun y => y)), e, fun i _ => by rw [f.2.2.1 59 (Or.inl (by unfold pT; decide))]⟩
/-- an answer, and all as it was -/
def qu (a : Int32) (h : KH) : KO → Prop := fun o => ∃ k, o = (some (.int a), k) ∧ Quiet h k
theorem qu_i {a : Int32} {h k : KH} (f : Quiet h k) : qu a h (some (.int a), k) := ⟨k, rfl, f⟩
/-- both sides -/
def both (h : KH) (A : Nat → Int32) (RL : List Rul) (n c dn en : Nat) : Prop := cityOK h 1 A RL n c dn en ∧ refOK h A RL n c dn en
theorem Quiet.b {h k : KH} {A : Nat → Int32} {RL : List Rul} {n c dn en : Nat} (f : Quiet h k) (hk : both h A RL n c dn en) : both k A RL n c dn en := ⟨f.c1 hk.1, f.m hk.2⟩
/-! numbers in bounds -/
def inB (v : Int32) (a b : Int) : Bool := decide (a ≤ v.toInt ∧ v.toInt ≤ b)
theorem inB_f {v : Int32} {a b : Int} (h : ¬ (a ≤ v.toInt ∧ v.toInt ≤ b)) : inB v a b = false := decide_eq_false h
theorem inB_t {v : Int32} {a b : Int} (h : a ≤ v.toInt ∧ v.toInt ≤ b) : inB v a b = true := decide_eq_true h
theorem inB_nat {v : Int32} {b : Nat} (h : inB v 0 b = true) : ∃ m, m ≤ b ∧ v = Int32.ofNat m := by
  have h1 := of_decide_eq_true h
  obtain ⟨m, hm⟩ := Int.eq_ofNat_of_zero_le h1.1
  exact ⟨m, by omega, zidx hm⟩
theorem inB_natL {v : Int32} {a b : Nat} (h : inB v a b = true) : ∃ m, a ≤ m ∧ m ≤ b ∧ v = Int32.ofNat m := by
  have h1 := of_decide_eq_true h
  obtain ⟨m, hm⟩ := Int.eq_ofNat_of_zero_le (show 0 ≤ v.toInt by omega)
  exact ⟨m, by omega, by omega, zidx hm⟩
theorem s_inB {d : Nat} {Q : KO → Prop} {h : KH} {v a b : Int32} {x y : Int} (ha : a.toInt = x) (hb : b.toInt = y) (hQ : Q (some (.int (b32 (inB v x y))), h)) : Cl d 170 [.int v, .int a, .int b] h Q := by
  refine s_in (Nat.zero_le _) ?_
  have e : f_in v a b = b32 (inB v x y) := by
    unfold f_in
    by_cases q : v < a
    · rw [if_pos q, inB_f (fun z => by have := (zlt rfl ha).mp q; omega)]
      rfl
    · have q1 : ¬ v.toInt < x := fun z => q ((zlt rfl ha).mpr z)
      rw [if_neg q]
      by_cases p : b < v
      · rw [if_pos p, inB_f (fun z => by have := (zlt hb rfl).mp p; omega)]
        rfl
      · have p1 : ¬ y < v.toInt := fun z => p ((zlt hb rfl).mpr z)
        rw [if_neg p, inB_t (by omega)]
        rfl
  rw [e]
  exact hQ
set_option maxHeartbeats 4000000 in
theorem t_b103 {d : Nat} {Q : KO → Prop} {h : KH} {v : Int32} (hd : 0 ≤ d) (hQ : (v < (1 : Int32) → Q (some (.int (0)), h)) ∧ (¬ (v < (1 : Int32)) → ((5 : Int32) < v → Q (some (.int (0)), h)) ∧ (¬ ((5 : Int32) < v) → Q (some (.int (1)), h)))) : Cl d 103 [.int (v)] h Q := by
  refine Cl.of (ls := [some (.int (v))]) rfl rfl ?_
  refine Wp.seg 2 (pc1 := 2) (ls1 := [some (.int (v))]) (st1 := [.int (1), .int (v)]) rfl ?_
  refine Wp.if2 rfl (fun (c1 : v < (1 : Int32)) => ?_) (fun (c1 : ¬ (v < (1 : Int32))) => ?_)
  · refine Wp.seg 1 (pc1 := 15) (ls1 := [some (.int (v))]) (st1 := [.int (0)]) rfl ?_
    exact Wp.reti rfl rfl (hQ.1 c1)
  · refine Wp.seg 2 (pc1 := 7) (ls1 := [some (.int (v))]) (st1 := [.int (5), .int (v)]) rfl ?_
    refine Wp.if2 rfl (fun (c2 : (5 : Int32) < v) => ?_) (fun (c2 : ¬ ((5 : Int32) < v)) => ?_)
    · refine Wp.seg 1 (pc1 := 15) (ls1 := [some (.int (v))]) (st1 := [.int (0)]) rfl ?_
      exact Wp.reti rfl rfl ((hQ.2 c1).1 c2)
    · refine Wp.seg 2 (pc1 := 15) (ls1 := [some (.int (v))]) (st1 := [.int (1)]) rfl ?_
      exact Wp.reti rfl rfl ((hQ.2 c1).2 c2)
theorem s_b103 {d : Nat} {Q : KO → Prop} {h : KH} {v : Int32} (hQ : Q (some (.int (b32 (inB v 1 5))), h)) : Cl d 103 [.int v] h Q := by
  have T : inB v 1 5 = true → Q (some (.int 1), h) := fun e => by rw [e] at hQ; exact hQ
  have F : inB v 1 5 = false → Q (some (.int 0), h) := fun e => by rw [e] at hQ; exact hQ
  exact t_b103 (Nat.zero_le _) ⟨fun c1 => F (by have := (zlt (rfl : (v : Int32).toInt = v.toInt) (show (1 : Int32).toInt = 1 from rfl)).mp c1; exact inB_f (by omega)), fun c1 => ⟨fun c2 => F (by have := mt (zlt (rfl : (v : Int32).toInt = v.toInt) (show (1 : Int32).toInt = 1 from rfl)).mpr c1; have := (zlt (show (5 : Int32).toInt = 5 from rfl) (rfl : (v : Int32).toInt = v.toInt)).mp c2; exact inB_f (by omega)), fun c2 => T (by have := mt (zlt (rfl : (v : Int32).toInt = v.toInt) (show (1 : Int32).toInt = 1 from rfl)).mpr c1; have := mt (zlt (show (5 : Int32).toInt = 5 from rfl) (rfl : (v : Int32).toInt = v.toInt)).mpr c2; exact inB_t (by omega))⟩⟩
set_option maxHeartbeats 4000000 in
theorem t_b104 {d : Nat} {Q : KO → Prop} {h : KH} {v : Int32} (hd : 0 ≤ d) (hQ : (v < 0 → Q (some (.int (0)), h)) ∧ (¬ (v < 0) → ((12 : Int32) ≤ v → Q (some (.int (0)), h)) ∧ (¬ ((12 : Int32) ≤ v) → Q (some (.int (1)), h)))) : Cl d 104 [.int (v)] h Q := by
  refine Cl.of (ls := [some (.int (v))]) rfl rfl ?_
  refine Wp.seg 1 (pc1 := 1) (ls1 := [some (.int (v))]) (st1 := [.int (v)]) rfl ?_
  refine Wp.if1 rfl (fun (c1 : v < 0) => ?_) (fun (c1 : ¬ (v < 0)) => ?_)
  · refine Wp.seg 1 (pc1 := 15) (ls1 := [some (.int (v))]) (st1 := [.int (0)]) rfl ?_
    exact Wp.reti rfl rfl (hQ.1 c1)
  · refine Wp.seg 2 (pc1 := 7) (ls1 := [some (.int (v))]) (st1 := [.int (12), .int (v)]) rfl ?_
    refine Wp.if2 rfl (fun (c2 : (12 : Int32) ≤ v) => ?_) (fun (c2 : ¬ ((12 : Int32) ≤ v)) => ?_)
    · refine Wp.seg 1 (pc1 := 15) (ls1 := [some (.int (v))]) (st1 := [.int (0)]) rfl ?_
      exact Wp.reti rfl rfl ((hQ.2 c1).1 c2)
    · refine Wp.seg 2 (pc1 := 15) (ls1 := [some (.int (v))]) (st1 := [.int (1)]) rfl ?_
      exact Wp.reti rfl rfl ((hQ.2 c1).2 c2)
theorem s_b104 {d : Nat} {Q : KO → Prop} {h : KH} {v : Int32} (hQ : Q (some (.int (b32 (inB v 0 11))), h)) : Cl d 104 [.int v] h Q := by
  have T : inB v 0 11 = true → Q (some (.int 1), h) := fun e => by rw [e] at hQ; exact hQ
  have F : inB v 0 11 = false → Q (some (.int 0), h) := fun e => by rw [e] at hQ; exact hQ
  exact t_b104 (Nat.zero_le _) ⟨fun c1 => F (by have := (zlt (rfl : (v : Int32).toInt = v.toInt) (show (0 : Int32).toInt = 0 from rfl)).mp c1; exact inB_f (by omega)), fun c1 => ⟨fun c2 => F (by have := mt (zlt (rfl : (v : Int32).toInt = v.toInt) (show (0 : Int32).toInt = 0 from rfl)).mpr c1; have := (zle (show (12 : Int32).toInt = 12 from rfl) (rfl : (v : Int32).toInt = v.toInt)).mp c2; exact inB_f (by omega)), fun c2 => T (by have := mt (zlt (rfl : (v : Int32).toInt = v.toInt) (show (0 : Int32).toInt = 0 from rfl)).mpr c1; have := mt (zle (show (12 : Int32).toInt = 12 from rfl) (rfl : (v : Int32).toInt = v.toInt)).mpr c2; exact inB_t (by omega))⟩⟩
set_option maxHeartbeats 4000000 in
theorem t_b105 {d : Nat} {Q : KO → Prop} {h : KH} {v : Int32} (hd : 0 ≤ d) (hQ : (v < 0 → Q (some (.int (0)), h)) ∧ (¬ (v < 0) → ((4 : Int32) ≤ v → Q (some (.int (0)), h)) ∧ (¬ ((4 : Int32) ≤ v) → Q (some (.int (1)), h)))) : Cl d 105 [.int (v)] h Q := by
  refine Cl.of (ls := [some (.int (v))]) rfl rfl ?_
  refine Wp.seg 1 (pc1 := 1) (ls1 := [some (.int (v))]) (st1 := [.int (v)]) rfl ?_
  refine Wp.if1 rfl (fun (c1 : v < 0) => ?_) (fun (c1 : ¬ (v < 0)) => ?_)
  · refine Wp.seg 1 (pc1 := 14) (ls1 := [some (.int (v))]) (st1 := [.int (0)]) rfl ?_
    exact Wp.reti rfl rfl (hQ.1 c1)
  · refine Wp.seg 2 (pc1 := 6) (ls1 := [some (.int (v))]) (st1 := [.int (4), .int (v)]) rfl ?_
    refine Wp.if2 rfl (fun (c2 : (4 : Int32) ≤ v) => ?_) (fun (c2 : ¬ ((4 : Int32) ≤ v)) => ?_)
    · refine Wp.seg 1 (pc1 := 14) (ls1 := [some (.int (v))]) (st1 := [.int (0)]) rfl ?_
      exact Wp.reti rfl rfl ((hQ.2 c1).1 c2)
    · refine Wp.seg 2 (pc1 := 14) (ls1 := [some (.int (v))]) (st1 := [.int (1)]) rfl ?_
      exact Wp.reti rfl rfl ((hQ.2 c1).2 c2)
theorem s_b105 {d : Nat} {Q : KO → Prop} {h : KH} {v : Int32} (hQ : Q (some (.int (b32 (inB v 0 3))), h)) : Cl d 105 [.int v] h Q := by
  have T : inB v 0 3 = true → Q (some (.int 1), h) := fun e => by rw [e] at hQ; exact hQ
  have F : inB v 0 3 = false → Q (some (.int 0), h) := fun e => by rw [e] at hQ; exact hQ
  exact t_b105 (Nat.zero_le _) ⟨fun c1 => F (by have := (zlt (rfl : (v : Int32).toInt = v.toInt) (show (0 : Int32).toInt = 0 from rfl)).mp c1; exact inB_f (by omega)), fun c1 => ⟨fun c2 => F (by have := mt (zlt (rfl : (v : Int32).toInt = v.toInt) (show (0 : Int32).toInt = 0 from rfl)).mpr c1; have := (zle (show (4 : Int32).toInt = 4 from rfl) (rfl : (v : Int32).toInt = v.toInt)).mp c2; exact inB_f (by omega)), fun c2 => T (by have := mt (zlt (rfl : (v : Int32).toInt = v.toInt) (show (0 : Int32).toInt = 0 from rfl)).mpr c1; have := mt (zle (show (4 : Int32).toInt = 4 from rfl) (rfl : (v : Int32).toInt = v.toInt)).mpr c2; exact inB_t (by omega))⟩⟩
set_option maxHeartbeats 4000000 in
theorem t_b106 {d : Nat} {Q : KO → Prop} {h : KH} {v : Int32} (hd : 0 ≤ d) (hQ : (v < 0 → Q (some (.int (0)), h)) ∧ (¬ (v < 0) → ((9 : Int32) < v → Q (some (.int (0)), h)) ∧ (¬ ((9 : Int32) < v) → Q (some (.int (1)), h)))) : Cl d 106 [.int (v)] h Q := by
  refine Cl.of (ls := [some (.int (v))]) rfl rfl ?_
  refine Wp.seg 1 (pc1 := 1) (ls1 := [some (.int (v))]) (st1 := [.int (v)]) rfl ?_
  refine Wp.if1 rfl (fun (c1 : v < 0) => ?_) (fun (c1 : ¬ (v < 0)) => ?_)
  · refine Wp.seg 1 (pc1 := 15) (ls1 := [some (.int (v))]) (st1 := [.int (0)]) rfl ?_
    exact Wp.reti rfl rfl (hQ.1 c1)
  · refine Wp.seg 2 (pc1 := 7) (ls1 := [some (.int (v))]) (st1 := [.int (9), .int (v)]) rfl ?_
    refine Wp.if2 rfl (fun (c2 : (9 : Int32) < v) => ?_) (fun (c2 : ¬ ((9 : Int32) < v)) => ?_)
    · refine Wp.seg 1 (pc1 := 15) (ls1 := [some (.int (v))]) (st1 := [.int (0)]) rfl ?_
      exact Wp.reti rfl rfl ((hQ.2 c1).1 c2)
    · refine Wp.seg 2 (pc1 := 15) (ls1 := [some (.int (v))]) (st1 := [.int (1)]) rfl ?_
      exact Wp.reti rfl rfl ((hQ.2 c1).2 c2)
theorem s_b106 {d : Nat} {Q : KO → Prop} {h : KH} {v : Int32} (hQ : Q (some (.int (b32 (inB v 0 9))), h)) : Cl d 106 [.int v] h Q := by
  have T : inB v 0 9 = true → Q (some (.int 1), h) := fun e => by rw [e] at hQ; exact hQ
  have F : inB v 0 9 = false → Q (some (.int 0), h) := fun e => by rw [e] at hQ; exact hQ
  exact t_b106 (Nat.zero_le _) ⟨fun c1 => F (by have := (zlt (rfl : (v : Int32).toInt = v.toInt) (show (0 : Int32).toInt = 0 from rfl)).mp c1; exact inB_f (by omega)), fun c1 => ⟨fun c2 => F (by have := mt (zlt (rfl : (v : Int32).toInt = v.toInt) (show (0 : Int32).toInt = 0 from rfl)).mpr c1; have := (zlt (show (9 : Int32).toInt = 9 from rfl) (rfl : (v : Int32).toInt = v.toInt)).mp c2; exact inB_f (by omega)), fun c2 => T (by have := mt (zlt (rfl : (v : Int32).toInt = v.toInt) (show (0 : Int32).toInt = 0 from rfl)).mpr c1; have := mt (zlt (show (9 : Int32).toInt = 9 from rfl) (rfl : (v : Int32).toInt = v.toInt)).mpr c2; exact inB_t (by omega))⟩⟩
set_option maxHeartbeats 4000000 in
theorem t_b127 {d : Nat} {Q : KO → Prop} {h : KH} {v : Int32} (hd : 0 ≤ d) (hQ : (v < 0 → Q (some (.int (0)), h)) ∧ (¬ (v < 0) → ((4 : Int32) < v → Q (some (.int (0)), h)) ∧ (¬ ((4 : Int32) < v) → Q (some (.int (1)), h)))) : Cl d 127 [.int (v)] h Q := by
  refine Cl.of (ls := [some (.int (v))]) rfl rfl ?_
  refine Wp.seg 1 (pc1 := 1) (ls1 := [some (.int (v))]) (st1 := [.int (v)]) rfl ?_
  refine Wp.if1 rfl (fun (c1 : v < 0) => ?_) (fun (c1 : ¬ (v < 0)) => ?_)
  · refine Wp.seg 1 (pc1 := 14) (ls1 := [some (.int (v))]) (st1 := [.int (0)]) rfl ?_
    exact Wp.reti rfl rfl (hQ.1 c1)
  · refine Wp.seg 2 (pc1 := 6) (ls1 := [some (.int (v))]) (st1 := [.int (4), .int (v)]) rfl ?_
    refine Wp.if2 rfl (fun (c2 : (4 : Int32) < v) => ?_) (fun (c2 : ¬ ((4 : Int32) < v)) => ?_)
    · refine Wp.seg 1 (pc1 := 14) (ls1 := [some (.int (v))]) (st1 := [.int (0)]) rfl ?_
      exact Wp.reti rfl rfl ((hQ.2 c1).1 c2)
    · refine Wp.seg 2 (pc1 := 14) (ls1 := [some (.int (v))]) (st1 := [.int (1)]) rfl ?_
      exact Wp.reti rfl rfl ((hQ.2 c1).2 c2)
theorem s_b127 {d : Nat} {Q : KO → Prop} {h : KH} {v : Int32} (hQ : Q (some (.int (b32 (inB v 0 4))), h)) : Cl d 127 [.int v] h Q := by
  have T : inB v 0 4 = true → Q (some (.int 1), h) := fun e => by rw [e] at hQ; exact hQ
  have F : inB v 0 4 = false → Q (some (.int 0), h) := fun e => by rw [e] at hQ; exact hQ
  exact t_b127 (Nat.zero_le _) ⟨fun c1 => F (by have := (zlt (rfl : (v : Int32).toInt = v.toInt) (show (0 : Int32).toInt = 0 from rfl)).mp c1; exact inB_f (by omega)), fun c1 => ⟨fun c2 => F (by have := mt (zlt (rfl : (v : Int32).toInt = v.toInt) (show (0 : Int32).toInt = 0 from rfl)).mpr c1; have := (zlt (show (4 : Int32).toInt = 4 from rfl) (rfl : (v : Int32).toInt = v.toInt)).mp c2; exact inB_f (by omega)), fun c2 => T (by have := mt (zlt (rfl : (v : Int32).toInt = v.toInt) (show (0 : Int32).toInt = 0 from rfl)).mpr c1; have := mt (zlt (show (4 : Int32).toInt = 4 from rfl) (rfl : (v : Int32).toInt = v.toInt)).mpr c2; exact inB_t (by omega))⟩⟩
set_option maxHeartbeats 4000000 in
theorem t_b154 {d : Nat} {Q : KO → Prop} {h : KH} {v : Int32} (hd : 0 ≤ d) (hQ : (v < 0 → Q (some (.int (0)), h)) ∧ (¬ (v < 0) → ((4 : Int32) ≤ v → Q (some (.int (0)), h)) ∧ (¬ ((4 : Int32) ≤ v) → Q (some (.int (1)), h)))) : Cl d 154 [.int (v)] h Q := by
  refine Cl.of (ls := [some (.int (v))]) rfl rfl ?_
  refine Wp.seg 1 (pc1 := 1) (ls1 := [some (.int (v))]) (st1 := [.int (v)]) rfl ?_
  refine Wp.if1 rfl (fun (c1 : v < 0) => ?_) (fun (c1 : ¬ (v < 0)) => ?_)
  · refine Wp.seg 1 (pc1 := 14) (ls1 := [some (.int (v))]) (st1 := [.int (0)]) rfl ?_
    exact Wp.reti rfl rfl (hQ.1 c1)
  · refine Wp.seg 2 (pc1 := 6) (ls1 := [some (.int (v))]) (st1 := [.int (4), .int (v)]) rfl ?_
    refine Wp.if2 rfl (fun (c2 : (4 : Int32) ≤ v) => ?_) (fun (c2 : ¬ ((4 : Int32) ≤ v)) => ?_)
    · refine Wp.seg 1 (pc1 := 14) (ls1 := [some (.int (v))]) (st1 := [.int (0)]) rfl ?_
      exact Wp.reti rfl rfl ((hQ.2 c1).1 c2)
    · refine Wp.seg 2 (pc1 := 14) (ls1 := [some (.int (v))]) (st1 := [.int (1)]) rfl ?_
      exact Wp.reti rfl rfl ((hQ.2 c1).2 c2)
theorem s_b154 {d : Nat} {Q : KO → Prop} {h : KH} {v : Int32} (hQ : Q (some (.int (b32 (inB v 0 3))), h)) : Cl d 154 [.int v] h Q := by
  have T : inB v 0 3 = true → Q (some (.int 1), h) := fun e => by rw [e] at hQ; exact hQ
  have F : inB v 0 3 = false → Q (some (.int 0), h) := fun e => by rw [e] at hQ; exact hQ
  exact t_b154 (Nat.zero_le _) ⟨fun c1 => F (by have := (zlt (rfl : (v : Int32).toInt = v.toInt) (show (0 : Int32).toInt = 0 from rfl)).mp c1; exact inB_f (by omega)), fun c1 => ⟨fun c2 => F (by have := mt (zlt (rfl : (v : Int32).toInt = v.toInt) (show (0 : Int32).toInt = 0 from rfl)).mpr c1; have := (zle (show (4 : Int32).toInt = 4 from rfl) (rfl : (v : Int32).toInt = v.toInt)).mp c2; exact inB_f (by omega)), fun c2 => T (by have := mt (zlt (rfl : (v : Int32).toInt = v.toInt) (show (0 : Int32).toInt = 0 from rfl)).mpr c1; have := mt (zle (show (4 : Int32).toInt = 4 from rfl) (rfl : (v : Int32).toInt = v.toInt)).mpr c2; exact inB_t (by omega))⟩⟩
set_option maxHeartbeats 4000000 in
theorem t_b164 {d : Nat} {Q : KO → Prop} {h : KH} {v : Int32} (hd : 0 ≤ d) (hQ : (v < 0 → Q (some (.int (0)), h)) ∧ (¬ (v < 0) → ((4 : Int32) ≤ v → Q (some (.int (0)), h)) ∧ (¬ ((4 : Int32) ≤ v) → Q (some (.int (1)), h)))) : Cl d 164 [.int (v)] h Q := by
  refine Cl.of (ls := [some (.int (v))]) rfl rfl ?_
  refine Wp.seg 1 (pc1 := 1) (ls1 := [some (.int (v))]) (st1 := [.int (v)]) rfl ?_
  refine Wp.if1 rfl (fun (c1 : v < 0) => ?_) (fun (c1 : ¬ (v < 0)) => ?_)
  · refine Wp.seg 1 (pc1 := 14) (ls1 := [some (.int (v))]) (st1 := [.int (0)]) rfl ?_
    exact Wp.reti rfl rfl (hQ.1 c1)
  · refine Wp.seg 2 (pc1 := 6) (ls1 := [some (.int (v))]) (st1 := [.int (4), .int (v)]) rfl ?_
    refine Wp.if2 rfl (fun (c2 : (4 : Int32) ≤ v) => ?_) (fun (c2 : ¬ ((4 : Int32) ≤ v)) => ?_)
    · refine Wp.seg 1 (pc1 := 14) (ls1 := [some (.int (v))]) (st1 := [.int (0)]) rfl ?_
      exact Wp.reti rfl rfl ((hQ.2 c1).1 c2)
    · refine Wp.seg 2 (pc1 := 14) (ls1 := [some (.int (v))]) (st1 := [.int (1)]) rfl ?_
      exact Wp.reti rfl rfl ((hQ.2 c1).2 c2)
theorem s_b164 {d : Nat} {Q : KO → Prop} {h : KH} {v : Int32} (hQ : Q (some (.int (b32 (inB v 0 3))), h)) : Cl d 164 [.int v] h Q := by
  have T : inB v 0 3 = true → Q (some (.int 1), h) := fun e => by rw [e] at hQ; exact hQ
  have F : inB v 0 3 = false → Q (some (.int 0), h) := fun e => by rw [e] at hQ; exact hQ
  exact t_b164 (Nat.zero_le _) ⟨fun c1 => F (by have := (zlt (rfl : (v : Int32).toInt = v.toInt) (show (0 : Int32).toInt = 0 from rfl)).mp c1; exact inB_f (by omega)), fun c1 => ⟨fun c2 => F (by have := mt (zlt (rfl : (v : Int32).toInt = v.toInt) (show (0 : Int32).toInt = 0 from rfl)).mpr c1; have := (zle (show (4 : Int32).toInt = 4 from rfl) (rfl : (v : Int32).toInt = v.toInt)).mp c2; exact inB_f (by omega)), fun c2 => T (by have := mt (zlt (rfl : (v : Int32).toInt = v.toInt) (show (0 : Int32).toInt = 0 from rfl)).mpr c1; have := mt (zle (show (4 : Int32).toInt = 4 from rfl) (rfl : (v : Int32).toInt = v.toInt)).mpr c2; exact inB_t (by omega))⟩⟩
set_option maxHeartbeats 4000000 in
theorem t_b107 {d : Nat} {Q : KO → Prop} {h : KH} {v u : Int32} (hd : 0 ≤ d) (hQ : (v < 0 → Q (some (.int (0)), h)) ∧ (¬ (v < 0) → (u < v → Q (some (.int (0)), h)) ∧ (¬ (u < v) → Q (some (.int (1)), h)))) : Cl d 107 [.int (v), .int (u)] h Q := by
  refine Cl.of (ls := [some (.int (v)), some (.int (u))]) rfl rfl ?_
  refine Wp.seg 1 (pc1 := 1) (ls1 := [some (.int (v)), some (.int (u))]) (st1 := [.int (v)]) rfl ?_
  refine Wp.if1 rfl (fun (c1 : v < 0) => ?_) (fun (c1 : ¬ (v < 0)) => ?_)
  · refine Wp.seg 1 (pc1 := 14) (ls1 := [some (.int (v)), some (.int (u))]) (st1 := [.int (0)]) rfl ?_
    exact Wp.reti rfl rfl (hQ.1 c1)
  · refine Wp.seg 2 (pc1 := 6) (ls1 := [some (.int (v)), some (.int (u))]) (st1 := [.int (u), .int (v)]) rfl ?_
    refine Wp.if2 rfl (fun (c2 : u < v) => ?_) (fun (c2 : ¬ (u < v)) => ?_)
    · refine Wp.seg 1 (pc1 := 14) (ls1 := [some (.int (v)), some (.int (u))]) (st1 := [.int (0)]) rfl ?_
      exact Wp.reti rfl rfl ((hQ.2 c1).1 c2)
    · refine Wp.seg 2 (pc1 := 14) (ls1 := [some (.int (v)), some (.int (u))]) (st1 := [.int (1)]) rfl ?_
      exact Wp.reti rfl rfl ((hQ.2 c1).2 c2)
theorem s_b107 {d : Nat} {Q : KO → Prop} {h : KH} {v u : Int32} {y : Int} (hu : u.toInt = y) (hQ : Q (some (.int (b32 (inB v 0 y))), h)) : Cl d 107 [.int v, .int u] h Q := by
  have T : inB v 0 y = true → Q (some (.int 1), h) := fun e => by rw [e] at hQ; exact hQ
  have F : inB v 0 y = false → Q (some (.int 0), h) := fun e => by rw [e] at hQ; exact hQ
  exact t_b107 (Nat.zero_le _) ⟨fun c1 => F (by have := (zlt (rfl : v.toInt = v.toInt) (show (0 : Int32).toInt = 0 from rfl)).mp c1; exact inB_f (by omega)), fun c1 => by
    have k1 := mt (zlt (rfl : v.toInt = v.toInt) (show (0 : Int32).toInt = 0 from rfl)).mpr c1
    exact ⟨fun c2 => F (by have := (zlt hu (rfl : v.toInt = v.toInt)).mp c2; exact inB_f (by omega)), fun c2 => T (by have := mt (zlt hu (rfl : v.toInt = v.toInt)).mpr c2; exact inB_t (by omega))⟩⟩
set_option maxHeartbeats 4000000 in
theorem t_b101 {d : Nat} {Q : KO → Prop} {h : KH} (hw : WF h) {v : Int32} {n : Nat} (h1 : h.2.2.1 1 1 = Int32.ofNat n) (hd : 0 ≤ d) (hQ : (v < 0 → Q (some (.int (0)), h)) ∧ (¬ (v < 0) → ((Int32.ofNat n) ≤ v → Q (some (.int (0)), h)) ∧ (¬ ((Int32.ofNat n) ≤ v) → Q (some (.int (1)), h)))) : Cl d 101 [.ref 0, .int (v)] h Q := by
  refine Cl.of (ls := [some (.ref 0), some (.int (v))]) rfl rfl ?_
  refine Wp.seg 1 (pc1 := 1) (ls1 := [some (.ref 0), some (.int (v))]) (st1 := [.int (v)]) rfl ?_
  refine Wp.if1 rfl (fun (c1 : v < 0) => ?_) (fun (c1 : ¬ (v < 0)) => ?_)
  · refine Wp.seg 1 (pc1 := 20) (ls1 := [some (.ref 0), some (.int (v))]) (st1 := [.int (0)]) rfl ?_
    exact Wp.reti rfl rfl (hQ.1 c1)
  · refine Wp.seg 2 (pc1 := 6) (ls1 := [some (.ref 0), some (.int (v))]) (st1 := [.ref 0, .int (v)]) rfl ?_
    refine Wp.gr (t := (10, 0)) (v := some (1)) rfl (WF.t hw 0 rfl) rfl (WF.r hw 0 0 0 rfl) ?_
    show Wp d 101 9 [some (.ref 0), some (.int (v))] [.ref 1, .int (v)] h Q
    refine Wp.gi (t := (1, 0)) rfl (WF.t hw 1 rfl) (Or.inl rfl) ?_
    rw [show h.2.2.1 1 1 = Int32.ofNat n from h1]
    refine Wp.if2 rfl (fun (c2 : (Int32.ofNat n) ≤ v) => ?_) (fun (c2 : ¬ ((Int32.ofNat n) ≤ v)) => ?_)
    · refine Wp.seg 1 (pc1 := 20) (ls1 := [some (.ref 0), some (.int (v))]) (st1 := [.int (0)]) rfl ?_
      exact Wp.reti rfl rfl ((hQ.2 c1).1 c2)
    · refine Wp.seg 2 (pc1 := 20) (ls1 := [some (.ref 0), some (.int (v))]) (st1 := [.int (1)]) rfl ?_
      exact Wp.reti rfl rfl ((hQ.2 c1).2 c2)
set_option maxHeartbeats 4000000 in
theorem t_b102 {d : Nat} {Q : KO → Prop} {h : KH} (hw : WF h) {v : Int32} {n : Nat} (h1 : h.2.2.1 1 1 = Int32.ofNat n) (hd : 0 ≤ d) (hQ : (v < 0 → Q (some (.int (0)), h)) ∧ (¬ (v < 0) → ((Int32.ofNat n) < v → Q (some (.int (0)), h)) ∧ (¬ ((Int32.ofNat n) < v) → Q (some (.int (1)), h)))) : Cl d 102 [.ref 0, .int (v)] h Q := by
  refine Cl.of (ls := [some (.ref 0), some (.int (v))]) rfl rfl ?_
  refine Wp.seg 1 (pc1 := 1) (ls1 := [some (.ref 0), some (.int (v))]) (st1 := [.int (v)]) rfl ?_
  refine Wp.if1 rfl (fun (c1 : v < 0) => ?_) (fun (c1 : ¬ (v < 0)) => ?_)
  · refine Wp.seg 1 (pc1 := 20) (ls1 := [some (.ref 0), some (.int (v))]) (st1 := [.int (0)]) rfl ?_
    exact Wp.reti rfl rfl (hQ.1 c1)
  · refine Wp.seg 2 (pc1 := 6) (ls1 := [some (.ref 0), some (.int (v))]) (st1 := [.ref 0, .int (v)]) rfl ?_
    refine Wp.gr (t := (10, 0)) (v := some (1)) rfl (WF.t hw 0 rfl) rfl (WF.r hw 0 0 0 rfl) ?_
    show Wp d 102 9 [some (.ref 0), some (.int (v))] [.ref 1, .int (v)] h Q
    refine Wp.gi (t := (1, 0)) rfl (WF.t hw 1 rfl) (Or.inl rfl) ?_
    rw [show h.2.2.1 1 1 = Int32.ofNat n from h1]
    refine Wp.if2 rfl (fun (c2 : (Int32.ofNat n) < v) => ?_) (fun (c2 : ¬ ((Int32.ofNat n) < v)) => ?_)
    · refine Wp.seg 1 (pc1 := 20) (ls1 := [some (.ref 0), some (.int (v))]) (st1 := [.int (0)]) rfl ?_
      exact Wp.reti rfl rfl ((hQ.2 c1).1 c2)
    · refine Wp.seg 2 (pc1 := 20) (ls1 := [some (.ref 0), some (.int (v))]) (st1 := [.int (1)]) rfl ?_
      exact Wp.reti rfl rfl ((hQ.2 c1).2 c2)
theorem s_hand {d : Nat} {Q : KO → Prop} {h : KH} (hw : WF h) {A : Nat → Int32} {RL : List Rul} {n c dn en : Nat} (hk : cityOK h 1 A RL n c dn en) {v : Int32} (hQ : Q (some (.int (b32 (inB v 0 ((n : Int) - 1)))), h)) : Cl d 101 [.ref 0, .int v] h Q := by
  have hn := hk.2.1.1
  have T : inB v 0 ((n : Int) - 1) = true → Q (some (.int 1), h) := fun e => by rw [e] at hQ; exact hQ
  have F : inB v 0 ((n : Int) - 1) = false → Q (some (.int 0), h) := fun e => by rw [e] at hQ; exact hQ
  exact t_b101 hw hk.2.1.2.1 (Nat.zero_le _) ⟨fun c1 => F (by have := (zlt (rfl : v.toInt = v.toInt) (show (0 : Int32).toInt = 0 from rfl)).mp c1; exact inB_f (by omega)), fun c1 => by
    have k1 := mt (zlt (rfl : v.toInt = v.toInt) (show (0 : Int32).toInt = 0 from rfl)).mpr c1
    exact ⟨fun c2 => F (by have := (zle (znat (n := n) (by omega)) (rfl : v.toInt = v.toInt)).mp c2; exact inB_f (by omega)), fun c2 => T (by have := mt (zle (znat (n := n) (by omega)) (rfl : v.toInt = v.toInt)).mpr c2; exact inB_t (by omega))⟩⟩
theorem s_act {d : Nat} {Q : KO → Prop} {h : KH} (hw : WF h) {A : Nat → Int32} {RL : List Rul} {n c dn en : Nat} (hk : cityOK h 1 A RL n c dn en) {v : Int32} (hQ : Q (some (.int (b32 (inB v 0 (n : Int)))), h)) : Cl d 102 [.ref 0, .int v] h Q := by
  have hn := hk.2.1.1
  have T : inB v 0 (n : Int) = true → Q (some (.int 1), h) := fun e => by rw [e] at hQ; exact hQ
  have F : inB v 0 (n : Int) = false → Q (some (.int 0), h) := fun e => by rw [e] at hQ; exact hQ
  exact t_b102 hw hk.2.1.2.1 (Nat.zero_le _) ⟨fun c1 => F (by have := (zlt (rfl : v.toInt = v.toInt) (show (0 : Int32).toInt = 0 from rfl)).mp c1; exact inB_f (by omega)), fun c1 => by
    have k1 := mt (zlt (rfl : v.toInt = v.toInt) (show (0 : Int32).toInt = 0 from rfl)).mpr c1
    exact ⟨fun c2 => F (by have := (zlt (znat (n := n) (by omega)) (rfl : v.toInt = v.toInt)).mp c2; exact inB_f (by omega)), fun c2 => T (by have := mt (zlt (znat (n := n) (by omega)) (rfl : v.toInt = v.toInt)).mpr c2; exact inB_t (by omega))⟩⟩
theorem inB_lt {v : Int32} {n : Nat} (h : inB v 0 ((n : Int) - 1) = true) : ∃ m, m < n ∧ v = Int32.ofNat m := by
  have h1 := of_decide_eq_true h
  obtain ⟨m, hm⟩ := Int.eq_ofNat_of_zero_le h1.1
  exact ⟨m, by omega, zidx hm⟩
set_option maxHeartbeats 4000000 in
theorem s_b176 {d : Nat} {Q : KO → Prop} {h : KH} {v : Int32} (hd : 1 ≤ d) (hQ : Q (some (.int (b32 (inB v 0 11))), h)) : Cl d 176 [.int (v)] h Q := by
  refine Cl.of (ls := [some (.int (v))]) rfl rfl ?_
  refine Wp.seg 3 (pc1 := 4) (ls1 := [some (.int (v))]) (st1 := [.int (11), .int (0), .int (v)]) rfl ?_
  refine Wp.inv (d2 := 0) (as := [.int (v), .int (0), .int (11)]) (r := []) rfl rfl rfl rfl rfl rfl (by omega) (s_inB (x := 0) (y := 11) rfl rfl ?_)
  show Wp d 176 7 [some (.int (v))] [.int (b32 (inB v 0 11))] h Q
  exact Wp.reti rfl (kret_b32 _) hQ
set_option maxHeartbeats 4000000 in
theorem s_b177 {d : Nat} {Q : KO → Prop} {h : KH} {v : Int32} (hd : 1 ≤ d) (hQ : Q (some (.int (b32 (inB v 0 3))), h)) : Cl d 177 [.int (v)] h Q := by
  refine Cl.of (ls := [some (.int (v))]) rfl rfl ?_
  refine Wp.seg 3 (pc1 := 3) (ls1 := [some (.int (v))]) (st1 := [.int (3), .int (0), .int (v)]) rfl ?_
  refine Wp.inv (d2 := 0) (as := [.int (v), .int (0), .int (3)]) (r := []) rfl rfl rfl rfl rfl rfl (by omega) (s_inB (x := 0) (y := 3) rfl rfl ?_)
  show Wp d 177 6 [some (.int (v))] [.int (b32 (inB v 0 3))] h Q
  exact Wp.reti rfl (kret_b32 _) hQ
set_option maxHeartbeats 4000000 in
theorem t_b175 {d : Nat} {Q : KO → Prop} {h : KH} (hw : WF h) {v : Int32} {n : Nat} (hn6 : n ≤ 6) (h8 : h.2.2.1 60 8 = Int32.ofNat n) (hd : 1 ≤ d) (hQ : Q (some (.int (b32 (inB v 0 ((n : Int) - 1)))), h)) : Cl d 175 [.ref 59, .int (v)] h Q := by
  refine Cl.of (ls := [some (.ref 59), some (.int (v))]) rfl rfl ?_
  refine Wp.seg 3 (pc1 := 3) (ls1 := [some (.ref 59), some (.int (v))]) (st1 := [.ref 59, .int (0), .int (v)]) rfl ?_
  refine Wp.gr (t := (11, 0)) (v := some (60)) rfl (WF.t hw 59 rfl) rfl (WF.r hw 59 0 58 rfl) ?_
  show Wp d 175 6 [some (.ref 59), some (.int (v))] [.ref 60, .int (0), .int (v)] h Q
  refine Wp.seg 1 (pc1 := 8) (ls1 := [some (.ref 59), some (.int (v))]) (st1 := [.int (8), .ref 60, .int (0), .int (v)]) rfl ?_
  refine Wp.iald (j := 8) (k := 20) (n := 585) rfl (WF.t hw 60 rfl) rfl rfl (by decide) (by decide) ?_
  rw [show h.2.2.1 60 8 = Int32.ofNat n from h8]
  refine Wp.seg 2 (pc1 := 11) (ls1 := [some (.ref 59), some (.int (v))]) (st1 := [.int ((Int32.ofNat n) - (1 : Int32)), .int (0), .int (v)]) rfl ?_
  refine Wp.inv (d2 := 0) (as := [.int (v), .int (0), .int ((Int32.ofNat n) - (1 : Int32))]) (r := []) rfl rfl rfl rfl rfl rfl (by omega) (s_inB (x := 0) (y := (n : Int) - 1) rfl ((zs (znat (n := n) (by omega)) (n := 1) rfl (by omega))) ?_)
  show Wp d 175 14 [some (.ref 59), some (.int (v))] [.int (b32 (inB v 0 ((n : Int) - 1)))] h Q
  exact Wp.reti rfl (kret_b32 _) hQ
theorem m_hand {d : Nat} {Q : KO → Prop} {h : KH} (hw : WF h) {A : Nat → Int32} {RL : List Rul} {n c dn en : Nat} (hk : refOK h A RL n c dn en) {v : Int32} (hd : 1 ≤ d) (hQ : Q (some (.int (b32 (inB v 0 ((n : Int) - 1)))), h)) : Cl d 175 [.ref 59, .int v] h Q := t_b175 hw hk.2.1.1 hk.2.1.2.1 hd hQ
