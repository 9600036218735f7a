/-! KM: the reference: bodies -/
def pTr : Nat → Prop := fun c => c = 59 ∨ c = 74
/-- of the model's own, only how many bodies began and whether it parted is other -/
def FA (h k : KH) : Prop := Fr pTr noP h k ∧ ∀ q, (q < 29 ∨ 30 < q) → k.2.2.1 59 q = h.2.2.1 59 q
theorem FA.refl (h : KH) : FA h h := ⟨Fr.refl h, fun _ _ => rfl⟩
theorem FA.trans {h k l : KH} (f : FA h k) (g : FA k l) : FA h l := ⟨f.1.trans g.1, fun q hq => (g.2 q hq).trans (f.2 q hq)⟩
theorem FA.wf {h k : KH} (f : FA h k) (hw : WF h) : WF k := f.1.wf hw (fun z => z)
theorem FA.i {h k : KH} (f : FA h k) {j : Nat} {x : Int32} (hj : j = 29 ∨ j = 30) : FA h (kwi k 59 j x) := ⟨f.1.trans (fr_kwi (Or.inl rfl) (by decide)), fun q hq => by rw [kwi_o (by omega)]; exact f.2 q hq⟩
/-- the bodies that began, whether it parted; hand v is of the kind kk and has chalk a -/
def rsO (h : KH) (L : List Int32) (p : Bool) (v : Nat) (kk a : Int32) : Prop := L.length ≤ 30 ∧ h.2.2.1 59 29 = Int32.ofNat L.length ∧ (∀ i, i < L.length → h.2.2.1 74 i = L.getD i 0) ∧ h.2.2.1 59 30 = b32 p ∧ v < 6 ∧ h.2.2.1 60 (11 + 4 * v + 0) = kk ∧ h.2.2.1 60 (11 + 4 * v + 3) = a
theorem rsO_push {h : KH} {L : List Int32} {p : Bool} {v : Nat} {kk a b : Int32} (s : rsO h L p v kk a) (hl : L.length < 30) : rsO (kwi (kwi h 74 L.length b) 59 29 (Int32.ofNat L.length + 1)) (L ++ [b]) p v kk a := by
  obtain ⟨s0, s1, s2, s3, s4, s5, s6⟩ := s
  refine ⟨by rw [List.length_append]; exact hl, ?_, fun i hi => ?_, ?_, s4, ?_, ?_⟩
  · rw [kwi_s, List.length_append]
    exact (Int32.ofNat_add _ 1).symm
  · rw [kwi_r (by decide)]
    by_cases e : i = L.length
    · subst e
      rw [kwi_s, gd_s]
    · rw [List.length_append] at hi
      have hi2 : i < L.length := by
        have : i < L.length + 1 := hi
        omega
      rw [kwi_o e, gd_l hi2]
      exact s2 i hi2
  · rw [kwi_o (by decide), kwi_r (by decide)]
    exact s3
  · rw [kwi_r (by decide), kwi_r (by decide)]
    exact s5
  · rw [kwi_r (by decide), kwi_r (by decide)]
    exact s6
theorem rsO_part {h : KH} {L : List Int32} {p : Bool} {v : Nat} {kk a : Int32} (q : Bool) (s : rsO h L p v kk a) : rsO (kwi h 59 30 (b32 q)) L q v kk a := by
  obtain ⟨s0, s1, s2, s3, s4, s5, s6⟩ := s
  refine ⟨s0, ?_, fun i hi => ?_, kwi_s, s4, ?_, ?_⟩
  · rw [kwi_o (by decide)]
    exact s1
  · rw [kwi_r (by decide)]
    exact s2 i hi
  · rw [kwi_r (by decide)]
    exact s5
  · rw [kwi_r (by decide)]
    exact s6
theorem rsO_app {h : KH} {L M : List Int32} {p : Bool} {v : Nat} {kk a : Int32} (s : rsO h L p v kk a) (e : L = M) : rsO h M p v kk a := by
  rw [← e]
  exact s
theorem rem_m1 (x : Int32) : x - x / (-1) * (-1) = 0 := by
  by_cases h : x = Int32.minValue
  · subst h
    decide
  · have e : x / (-1) = -x := by
      apply Int32.toInt_inj.mp
      rw [Int32.toInt_div_of_ne_left _ _ h, show (-1 : Int32).toInt = -1 from rfl, Int32.toInt_neg, Int.tdiv_neg, Int.tdiv_one]
      have h1 := x.toInt_lt
      have h2 := x.le_toInt
      have h3 : x.toInt ≠ -2147483648 := fun z => h (Int32.toInt_inj.mp z)
      exact (Int.bmod_eq_of_le (by omega) (by omega)).symm
    rw [e, Int32.neg_mul_neg, Int32.mul_one, Int32.sub_self]
set_option maxHeartbeats 4000000 in
theorem t_rbg {d : Nat} {Q : KO → Prop} {h : KH} (hw : WF h) {L : List Int32} {p : Bool} {v : Nat} {kk a x : Int32} (s : rsO h L p v kk a) (hl : L.length < 30) (hd : 0 ≤ d) (hQ : Q (none, kwi (kwi h 74 L.length x) 59 29 ((Int32.ofNat L.length) + (1 : Int32)))) : Cl d 274 [.ref 59, .int (x)] h Q := by
  refine Cl.of (ls := [some (.ref 59), some (.int (x))]) rfl rfl ?_
  refine Wp.seg 1 (pc1 := 1) (ls1 := [some (.ref 59), some (.int (x))]) (st1 := [.ref 59]) rfl ?_
  refine Wp.gi (t := (11, 0)) rfl (WF.t hw 59 rfl) (Or.inl rfl) ?_
  rw [show h.2.2.1 59 29 = Int32.ofNat L.length from s.2.1]
  refine Wp.seg 1 (pc1 := 6) (ls1 := [some (.ref 59), some (.int (x))]) (st1 := [.int (30), .int (Int32.ofNat L.length)]) rfl ?_
  refine Wp.if2 rfl (fun c1 => absurd c1 (g30 hl)) (fun c1 => ?_)
  refine Wp.seg 1 (pc1 := 10) (ls1 := [some (.ref 59), some (.int (x))]) (st1 := [.ref 59]) rfl ?_
  refine Wp.gr (t := (11, 0)) (v := some (74)) rfl (WF.t hw 59 rfl) rfl (WF.r hw 59 28 72 rfl) ?_
  show Wp d 274 13 [some (.ref 59), some (.int (x))] [.ref 74] h Q
  refine Wp.seg 1 (pc1 := 14) (ls1 := [some (.ref 59), some (.int (x))]) (st1 := [.ref 59, .ref 74]) rfl ?_
  refine Wp.gi (t := (11, 0)) rfl (WF.t hw 59 rfl) (Or.inl rfl) ?_
  rw [show h.2.2.1 59 29 = Int32.ofNat L.length from s.2.1]
  refine Wp.seg 1 (pc1 := 18) (ls1 := [some (.ref 59), some (.int (x))]) (st1 := [.int (x), .int (Int32.ofNat L.length), .ref 74]) rfl ?_
  refine Wp.iast (j := L.length) (n := 30) rfl (WF.t hw 74 rfl) rfl hl (by decide) ?_
  refine Wp.seg 2 (pc1 := 21) (ls1 := [some (.ref 59), some (.int (x))]) (st1 := [.ref 59, .ref 59]) rfl ?_
  refine Wp.gi (t := (11, 0)) rfl (WF.t hw 59 rfl) (Or.inl rfl) ?_
  rw [show (kwi h 74 L.length x).2.2.1 59 29 = Int32.ofNat L.length from ((kwi_b (by decide)).trans (rfl)).trans s.2.1]
  refine Wp.seg 2 (pc1 := 26) (ls1 := [some (.ref 59), some (.int (x))]) (st1 := [.int ((Int32.ofNat L.length) + (1 : Int32)), .ref 59]) rfl ?_
  refine Wp.pi (t := (11, 0)) rfl (WF.t hw 59 rfl) (Or.inl rfl) ?_
  exact Wp.retv rfl rfl hQ
theorem r_bg {d : Nat} {Q : KO → Prop} {h : KH} (hw : WF h) {L : List Int32} {p : Bool} {v : Nat} {kk a x : Int32} (s : rsO h L p v kk a) (hl : L.length < 30) (hQ : ∀ k, FA h k → rsO k (L ++ [x]) p v kk a → Q (none, k)) : Cl d 274 [.ref 59, .int x] h Q :=
  t_rbg hw s hl (Nat.zero_le _) (hQ _ (FA.i ⟨fr_kwi (Or.inr rfl) (by decide), fun q _ => by rw [kwi_r (by decide)]⟩ (Or.inl rfl)) (rsO_push s hl))
set_option maxHeartbeats 4000000 in
theorem r275_ {d : Nat} {Q : KO → Prop} {h : KH} (hw : WF h) {L : List Int32} {v : Nat} {kk a x : Int32} (s : rsO h L false v kk a) (hl : L.length + 1 ≤ 30) (hd : 1 ≤ d) (hQ0 : ∀ k, FA h k → rsO k (L ++ [10]) false v kk a → Q (some (.int (x ^^^ ((Int32.ofNat v) + (5 : Int32)))), k)) : Cl d 275 [.ref 59, .int (Int32.ofNat v), .int x] h Q := by
  have hQ : ∀ k1, FA h k1 → rsO k1 (L ++ [10]) false v kk a → (Q (some (.int (x ^^^ ((Int32.ofNat v) + (5 : Int32)))), k1)) := fun k1 f1 g1 => hQ0 k1 (f1) (rsO_app g1 rfl)
  refine Cl.of (ls := [some (.ref 59), some (.int (Int32.ofNat v)), some (.int (x))]) rfl rfl ?_
  refine Wp.seg 2 (pc1 := 3) (ls1 := [some (.ref 59), some (.int (Int32.ofNat v)), some (.int (x))]) (st1 := [.int (10), .ref 59]) rfl ?_
  refine Wp.invV (d2 := 0) (as := [.ref 59, .int (10)]) (r := []) (t := (11, 0)) rfl rfl rfl rfl (WF.t hw 59 rfl) rfl rfl ⟨rfl, rfl⟩ (by omega) (r_bg hw s (by first | omega | (simp only [List.length_append, List.length_cons, List.length_nil]; omega)) ?_)
  intro k1 f1 g1
  show Wp d 275 6 [some (.ref 59), some (.int (Int32.ofNat v)), some (.int (x))] [] k1 Q
  refine Wp.seg 5 (pc1 := 11) (ls1 := [some (.ref 59), some (.int (Int32.ofNat v)), some (.int (x))]) (st1 := [.int (x ^^^ ((Int32.ofNat v) + (5 : Int32)))]) rfl ?_
  exact Wp.reti rfl rfl (hQ k1 f1 g1)
set_option maxHeartbeats 4000000 in
theorem r279_0 {d : Nat} {Q : KO → Prop} {h : KH} (hw : WF h) {L : List Int32} {v : Nat} {kk a x : Int32} (s : rsO h L false v kk a) (hl : L.length + 1 ≤ 30) (e0 : a - Int32.ofNat v = 0) (hd : 1 ≤ d) (hQ0 : ∀ k, FA h k → rsO k (L ++ [12]) true v kk a → Q (some (.int (0)), k)) : Cl d 279 [.ref 59, .int (Int32.ofNat v), .int x] h Q := by
  have hQ : ∀ k1, FA h k1 → rsO k1 (L ++ [12]) false v kk a → (Q (some (.int (0)), kwi k1 59 30 (1 : Int32))) := fun k1 f1 g1 => hQ0 _ (FA.i (f1) (Or.inr rfl)) (rsO_app (rsO_part true g1) rfl)
  refine Cl.of (ls := [some (.ref 59), some (.int (Int32.ofNat v)), some (.int (x)), none]) rfl rfl ?_
  refine Wp.seg 2 (pc1 := 3) (ls1 := [some (.ref 59), some (.int (Int32.ofNat v)), some (.int (x)), none]) (st1 := [.int (12), .ref 59]) rfl ?_
  refine Wp.invV (d2 := 0) (as := [.ref 59, .int (12)]) (r := []) (t := (11, 0)) rfl rfl rfl rfl (WF.t hw 59 rfl) rfl rfl ⟨rfl, rfl⟩ (by omega) (r_bg hw s (by first | omega | (simp only [List.length_append, List.length_cons, List.length_nil]; omega)) ?_)
  intro k1 f1 g1
  show Wp d 279 6 [some (.ref 59), some (.int (Int32.ofNat v)), some (.int (x)), none] [] k1 Q
  refine Wp.seg 3 (pc1 := 9) (ls1 := [some (.ref 59), some (.int (Int32.ofNat v)), some (.int (x)), none]) (st1 := [.int (3), .int (Int32.ofNat v), .ref 59]) rfl ?_
  refine Wp.invV (d2 := 0) (as := [.ref 59, .int (Int32.ofNat v), .int (3)]) (r := []) (t := (11, 0)) rfl rfl rfl rfl (WF.t (f1.wf hw) 59 rfl) rfl rfl ⟨rfl, rfl⟩ (by omega) (s_ofv (f1.wf hw) (w := 3) rfl (by have := g1.2.2.2.2.1; omega) g1.2.2.2.2.2.2 ?_)
  show Wp d 279 12 [some (.ref 59), some (.int (Int32.ofNat v)), some (.int (x)), none] [.int (a)] k1 Q
  refine Wp.seg 5 (pc1 := 17) (ls1 := [some (.ref 59), some (.int (Int32.ofNat v)), some (.int (x)), some (.int (a - (Int32.ofNat v)))]) (st1 := [.int (a - (Int32.ofNat v)), .ref 59]) rfl ?_
  refine Wp.if1 rfl (fun c1 => absurd c1 (fun z => z e0)) (fun c1 => ?_)
  refine Wp.seg 2 (pc1 := 25) (ls1 := [some (.ref 59), some (.int (Int32.ofNat v)), some (.int (x)), some (.int (a - (Int32.ofNat v)))]) (st1 := [.int (1), .ref 59]) rfl ?_
  refine Wp.pi (t := (11, 0)) rfl (WF.t (f1.wf hw) 59 rfl) (Or.inr ⟨rfl, Or.inr rfl⟩) ?_
  refine Wp.seg 1 (pc1 := 29) (ls1 := [some (.ref 59), some (.int (Int32.ofNat v)), some (.int (x)), some (.int (a - (Int32.ofNat v)))]) (st1 := [.ref 59]) rfl ?_
  refine Wp.gi (t := (11, 0)) rfl (WF.t (f1.wf hw) 59 rfl) (Or.inr rfl) ?_
  rw [show (kwi k1 59 30 (1 : Int32)).2.2.1 59 30 = 1 from kwi_s]
  refine Wp.if1 rfl (fun c2 => ?_) (fun c2 => absurd (show ¬ (1 : Int32) = 0 by decide) c2)
  refine Wp.seg 2 (pc1 := 47) (ls1 := [some (.ref 59), some (.int (Int32.ofNat v)), some (.int (x)), some (.int (a - (Int32.ofNat v)))]) (st1 := [.int (0)]) rfl ?_
  exact Wp.reti rfl rfl (hQ k1 f1 g1)
set_option maxHeartbeats 4000000 in
theorem r279_1a {d : Nat} {Q : KO → Prop} {h : KH} (hw : WF h) {L : List Int32} {v : Nat} {kk a x : Int32} (s : rsO h L false v kk a) (hl : L.length + 1 ≤ 30) (ne : ¬ a - Int32.ofNat v = 0) (e1 : a - Int32.ofNat v = -1) (hd : 1 ≤ d) (hQ0 : ∀ k, FA h k → rsO k (L ++ [12]) false v kk a → Q (some (.int (0)), k)) : Cl d 279 [.ref 59, .int (Int32.ofNat v), .int x] h Q := by
  have hQ : ∀ k1, FA h k1 → rsO k1 (L ++ [12]) false v kk a → (Q (some (.int (0)), kwi k1 59 30 (0 : Int32))) := fun k1 f1 g1 => hQ0 _ (FA.i (f1) (Or.inr rfl)) (rsO_app (rsO_part false g1) rfl)
  refine Cl.of (ls := [some (.ref 59), some (.int (Int32.ofNat v)), some (.int (x)), none]) rfl rfl ?_
  refine Wp.seg 2 (pc1 := 3) (ls1 := [some (.ref 59), some (.int (Int32.ofNat v)), some (.int (x)), none]) (st1 := [.int (12), .ref 59]) rfl ?_
  refine Wp.invV (d2 := 0) (as := [.ref 59, .int (12)]) (r := []) (t := (11, 0)) rfl rfl rfl rfl (WF.t hw 59 rfl) rfl rfl ⟨rfl, rfl⟩ (by omega) (r_bg hw s (by first | omega | (simp only [List.length_append, List.length_cons, List.length_nil]; omega)) ?_)
  intro k1 f1 g1
  show Wp d 279 6 [some (.ref 59), some (.int (Int32.ofNat v)), some (.int (x)), none] [] k1 Q
  refine Wp.seg 3 (pc1 := 9) (ls1 := [some (.ref 59), some (.int (Int32.ofNat v)), some (.int (x)), none]) (st1 := [.int (3), .int (Int32.ofNat v), .ref 59]) rfl ?_
  refine Wp.invV (d2 := 0) (as := [.ref 59, .int (Int32.ofNat v), .int (3)]) (r := []) (t := (11, 0)) rfl rfl rfl rfl (WF.t (f1.wf hw) 59 rfl) rfl rfl ⟨rfl, rfl⟩ (by omega) (s_ofv (f1.wf hw) (w := 3) rfl (by have := g1.2.2.2.2.1; omega) g1.2.2.2.2.2.2 ?_)
  show Wp d 279 12 [some (.ref 59), some (.int (Int32.ofNat v)), some (.int (x)), none] [.int (a)] k1 Q
  refine Wp.seg 5 (pc1 := 17) (ls1 := [some (.ref 59), some (.int (Int32.ofNat v)), some (.int (x)), some (.int (a - (Int32.ofNat v)))]) (st1 := [.int (a - (Int32.ofNat v)), .ref 59]) rfl ?_
  refine Wp.if1 rfl (fun c1 => ?_) (fun c1 => absurd (ne) c1)
  refine Wp.seg 1 (pc1 := 25) (ls1 := [some (.ref 59), some (.int (Int32.ofNat v)), some (.int (x)), some (.int (a - (Int32.ofNat v)))]) (st1 := [.int (0), .ref 59]) rfl ?_
  refine Wp.pi (t := (11, 0)) rfl (WF.t (f1.wf hw) 59 rfl) (Or.inr ⟨rfl, Or.inl rfl⟩) ?_
  refine Wp.seg 1 (pc1 := 29) (ls1 := [some (.ref 59), some (.int (Int32.ofNat v)), some (.int (x)), some (.int (a - (Int32.ofNat v)))]) (st1 := [.ref 59]) rfl ?_
  refine Wp.gi (t := (11, 0)) rfl (WF.t (f1.wf hw) 59 rfl) (Or.inr rfl) ?_
  rw [show (kwi k1 59 30 (0 : Int32)).2.2.1 59 30 = 0 from kwi_s]
  refine Wp.if1 rfl (fun c2 => absurd c2 (show ¬ (¬ (0 : Int32) = 0) by decide)) (fun c2 => ?_)
  refine Wp.seg 2 (pc1 := 37) (ls1 := [some (.ref 59), some (.int (Int32.ofNat v)), some (.int (x)), some (.int (a - (Int32.ofNat v)))]) (st1 := [.int (-1), .int (a - (Int32.ofNat v))]) rfl ?_
  refine Wp.if2 rfl (fun c3 => absurd c3 (fun z => z e1)) (fun c3 => ?_)
  refine Wp.seg 2 (pc1 := 47) (ls1 := [some (.ref 59), some (.int (Int32.ofNat v)), some (.int (x)), some (.int (a - (Int32.ofNat v)))]) (st1 := [.int (0)]) rfl ?_
  exact Wp.reti rfl rfl (hQ k1 f1 g1)
set_option maxHeartbeats 4000000 in
theorem r279_1b {d : Nat} {Q : KO → Prop} {h : KH} (hw : WF h) {L : List Int32} {v : Nat} {kk a x : Int32} (s : rsO h L false v kk a) (hl : L.length + 1 ≤ 30) (ne : ¬ a - Int32.ofNat v = 0) (e1 : ¬ a - Int32.ofNat v = -1) (hd : 1 ≤ d) (hQ0 : ∀ k, FA h k → rsO k (L ++ [12]) false v kk a → Q (some (.int (x - x / (a - (Int32.ofNat v)) * (a - (Int32.ofNat v)))), k)) : Cl d 279 [.ref 59, .int (Int32.ofNat v), .int x] h Q := by
  have hQ : ∀ k1, FA h k1 → rsO k1 (L ++ [12]) false v kk a → (Q (some (.int (x - x / (a - (Int32.ofNat v)) * (a - (Int32.ofNat v)))), kwi k1 59 30 (0 : Int32))) := fun k1 f1 g1 => hQ0 _ (FA.i (f1) (Or.inr rfl)) (rsO_app (rsO_part false g1) rfl)
  refine Cl.of (ls := [some (.ref 59), some (.int (Int32.ofNat v)), some (.int (x)), none]) rfl rfl ?_
  refine Wp.seg 2 (pc1 := 3) (ls1 := [some (.ref 59), some (.int (Int32.ofNat v)), some (.int (x)), none]) (st1 := [.int (12), .ref 59]) rfl ?_
  refine Wp.invV (d2 := 0) (as := [.ref 59, .int (12)]) (r := []) (t := (11, 0)) rfl rfl rfl rfl (WF.t hw 59 rfl) rfl rfl ⟨rfl, rfl⟩ (by omega) (r_bg hw s (by first | omega | (simp only [List.length_append, List.length_cons, List.length_nil]; omega)) ?_)
  intro k1 f1 g1
  show Wp d 279 6 [some (.ref 59), some (.int (Int32.ofNat v)), some (.int (x)), none] [] k1 Q
  refine Wp.seg 3 (pc1 := 9) (ls1 := [some (.ref 59), some (.int (Int32.ofNat v)), some (.int (x)), none]) (st1 := [.int (3), .int (Int32.ofNat v), .ref 59]) rfl ?_
  refine Wp.invV (d2 := 0) (as := [.ref 59, .int (Int32.ofNat v), .int (3)]) (r := []) (t := (11, 0)) rfl rfl rfl rfl (WF.t (f1.wf hw) 59 rfl) rfl rfl ⟨rfl, rfl⟩ (by omega) (s_ofv (f1.wf hw) (w := 3) rfl (by have := g1.2.2.2.2.1; omega) g1.2.2.2.2.2.2 ?_)
  show Wp d 279 12 [some (.ref 59), some (.int (Int32.ofNat v)), some (.int (x)), none] [.int (a)] k1 Q
  refine Wp.seg 5 (pc1 := 17) (ls1 := [some (.ref 59), some (.int (Int32.ofNat v)), some (.int (x)), some (.int (a - (Int32.ofNat v)))]) (st1 := [.int (a - (Int32.ofNat v)), .ref 59]) rfl ?_
  refine Wp.if1 rfl (fun c1 => ?_) (fun c1 => absurd (ne) c1)
  refine Wp.seg 1 (pc1 := 25) (ls1 := [some (.ref 59), some (.int (Int32.ofNat v)), some (.int (x)), some (.int (a - (Int32.ofNat v)))]) (st1 := [.int (0), .ref 59]) rfl ?_
  refine Wp.pi (t := (11, 0)) rfl (WF.t (f1.wf hw) 59 rfl) (Or.inr ⟨rfl, Or.inl rfl⟩) ?_
  refine Wp.seg 1 (pc1 := 29) (ls1 := [some (.ref 59), some (.int (Int32.ofNat v)), some (.int (x)), some (.int (a - (Int32.ofNat v)))]) (st1 := [.ref 59]) rfl ?_
  refine Wp.gi (t := (11, 0)) rfl (WF.t (f1.wf hw) 59 rfl) (Or.inr rfl) ?_
  rw [show (kwi k1 59 30 (0 : Int32)).2.2.1 59 30 = 0 from kwi_s]
  refine Wp.if1 rfl (fun c2 => absurd c2 (show ¬ (¬ (0 : Int32) = 0) by decide)) (fun c2 => ?_)
  refine Wp.seg 2 (pc1 := 37) (ls1 := [some (.ref 59), some (.int (Int32.ofNat v)), some (.int (x)), some (.int (a - (Int32.ofNat v)))]) (st1 := [.int (-1), .int (a - (Int32.ofNat v))]) rfl ?_
  refine Wp.if2 rfl (fun c3 => ?_) (fun c3 => absurd (e1) c3)
  refine Wp.seg 2 (pc1 := 46) (ls1 := [some (.ref 59), some (.int (Int32.ofNat v)), some (.int (x)), some (.int (a - (Int32.ofNat v)))]) (st1 := [.int (a - (Int32.ofNat v)), .int (x)]) rfl ?_
  refine Wp.rem rfl (ne) ?_
  exact Wp.reti rfl rfl (hQ k1 f1 g1)
theorem r279_1 {d : Nat} {Q : KO → Prop} {h : KH} (hw : WF h) {L : List Int32} {v : Nat} {kk a x : Int32} (s : rsO h L false v kk a) (hl : L.length + 1 ≤ 30) (ne : ¬ a - Int32.ofNat v = 0) (hd : 1 ≤ d) (hQ0 : ∀ k, FA h k → rsO k (L ++ [12]) false v kk a → Q (some (.int (x - x / (a - (Int32.ofNat v)) * (a - (Int32.ofNat v)))), k)) : Cl d 279 [.ref 59, .int (Int32.ofNat v), .int x] h Q := by
  by_cases e1 : a - Int32.ofNat v = -1
  · refine r279_1a hw s hl ne e1 hd (fun k f g => ?_)
    have := hQ0 k f g
    rw [e1, rem_m1] at this
    exact this
  · exact r279_1b hw s hl ne e1 hd hQ0
set_option maxHeartbeats 4000000 in
theorem r280_0 {d : Nat} {Q : KO → Prop} {h : KH} (hw : WF h) {L : List Int32} {v : Nat} {kk a x : Int32} (s : rsO h L false v kk a) (hl : L.length + 2 ≤ 30) (e0 : a - Int32.ofNat v = 0) (hd : 2 ≤ d) (hQ0 : ∀ k, FA h k → rsO k (L ++ [40, 12]) true v kk a → Q (some (.int ((0 : Int32) - (Int32.ofNat v))), k)) : Cl d 280 [.ref 59, .int (Int32.ofNat v), .int x] h Q := by
  have hQ : ∀ k1, FA h k1 → rsO k1 (L ++ [40]) false v kk a → (∀ k2, FA k1 k2 → rsO k2 ((L ++ [40]) ++ [12]) true v kk a → (Q (some (.int ((0 : Int32) - (Int32.ofNat v))), k2))) := fun k1 f1 g1 k2 f2 g2 => hQ0 k2 ((f1).trans f2) (rsO_app g2 (by simp only [List.append_assoc, List.cons_append, List.nil_append]))
  refine Cl.of (ls := [some (.ref 59), some (.int (Int32.ofNat v)), some (.int (x))]) rfl rfl ?_
  refine Wp.seg 2 (pc1 := 3) (ls1 := [some (.ref 59), some (.int (Int32.ofNat v)), some (.int (x))]) (st1 := [.int (40), .ref 59]) rfl ?_
  refine Wp.invV (d2 := 0) (as := [.ref 59, .int (40)]) (r := []) (t := (11, 0)) rfl rfl rfl rfl (WF.t hw 59 rfl) rfl rfl ⟨rfl, rfl⟩ (by omega) (r_bg hw s (by first | omega | (simp only [List.length_append, List.length_cons, List.length_nil]; omega)) ?_)
  intro k1 f1 g1
  show Wp d 280 6 [some (.ref 59), some (.int (Int32.ofNat v)), some (.int (x))] [] k1 Q
  refine Wp.seg 3 (pc1 := 9) (ls1 := [some (.ref 59), some (.int (Int32.ofNat v)), some (.int (x))]) (st1 := [.int (x), .int (Int32.ofNat v), .ref 59]) rfl ?_
  refine Wp.invV (d2 := 1) (as := [.ref 59, .int (Int32.ofNat v), .int (x)]) (r := []) (t := (11, 0)) rfl rfl rfl rfl (WF.t (f1.wf hw) 59 rfl) rfl rfl ⟨rfl, rfl⟩ (by omega) (r279_0 (f1.wf hw) g1 (by first | omega | (simp only [List.length_append, List.length_cons, List.length_nil]; omega)) e0 (Nat.le_refl _) ?_)
  intro k2 f2 g2
  show Wp d 280 12 [some (.ref 59), some (.int (Int32.ofNat v)), some (.int (x))] [.int (0)] k2 Q
  refine Wp.seg 2 (pc1 := 14) (ls1 := [some (.ref 59), some (.int (Int32.ofNat v)), some (.int (x))]) (st1 := [.int ((0 : Int32) - (Int32.ofNat v))]) rfl ?_
  exact Wp.reti rfl rfl ((hQ k1 f1 g1) k2 f2 g2)
set_option maxHeartbeats 4000000 in
theorem r280_1 {d : Nat} {Q : KO → Prop} {h : KH} (hw : WF h) {L : List Int32} {v : Nat} {kk a x : Int32} (s : rsO h L false v kk a) (hl : L.length + 2 ≤ 30) (ne : ¬ a - Int32.ofNat v = 0) (hd : 2 ≤ d) (hQ0 : ∀ k, FA h k → rsO k (L ++ [40, 12]) false v kk a → Q (some (.int ((x - x / (a - (Int32.ofNat v)) * (a - (Int32.ofNat v))) - (Int32.ofNat v))), k)) : Cl d 280 [.ref 59, .int (Int32.ofNat v), .int x] h Q := by
  have hQ : ∀ k1, FA h k1 → rsO k1 (L ++ [40]) false v kk a → (∀ k2, FA k1 k2 → rsO k2 ((L ++ [40]) ++ [12]) false v kk a → (Q (some (.int ((x - x / (a - (Int32.ofNat v)) * (a - (Int32.ofNat v))) - (Int32.ofNat v))), k2))) := fun k1 f1 g1 k2 f2 g2 => hQ0 k2 ((f1).trans f2) (rsO_app g2 (by simp only [List.append_assoc, List.cons_append, List.nil_append]))
  refine Cl.of (ls := [some (.ref 59), some (.int (Int32.ofNat v)), some (.int (x))]) rfl rfl ?_
  refine Wp.seg 2 (pc1 := 3) (ls1 := [some (.ref 59), some (.int (Int32.ofNat v)), some (.int (x))]) (st1 := [.int (40), .ref 59]) rfl ?_
  refine Wp.invV (d2 := 0) (as := [.ref 59, .int (40)]) (r := []) (t := (11, 0)) rfl rfl rfl rfl (WF.t hw 59 rfl) rfl rfl ⟨rfl, rfl⟩ (by omega) (r_bg hw s (by first | omega | (simp only [List.length_append, List.length_cons, List.length_nil]; omega)) ?_)
  intro k1 f1 g1
  show Wp d 280 6 [some (.ref 59), some (.int (Int32.ofNat v)), some (.int (x))] [] k1 Q
  refine Wp.seg 3 (pc1 := 9) (ls1 := [some (.ref 59), some (.int (Int32.ofNat v)), some (.int (x))]) (st1 := [.int (x), .int (Int32.ofNat v), .ref 59]) rfl ?_
  refine Wp.invV (d2 := 1) (as := [.ref 59, .int (Int32.ofNat v), .int (x)]) (r := []) (t := (11, 0)) rfl rfl rfl rfl (WF.t (f1.wf hw) 59 rfl) rfl rfl ⟨rfl, rfl⟩ (by omega) (r279_1 (f1.wf hw) g1 (by first | omega | (simp only [List.length_append, List.length_cons, List.length_nil]; omega)) ne (Nat.le_refl _) ?_)
  intro k2 f2 g2
  show Wp d 280 12 [some (.ref 59), some (.int (Int32.ofNat v)), some (.int (x))] [.int (x - x / (a - (Int32.ofNat v)) * (a - (Int32.ofNat v)))] k2 Q
  refine Wp.seg 2 (pc1 := 14) (ls1 := [some (.ref 59), some (.int (Int32.ofNat v)), some (.int (x))]) (st1 := [.int ((x - x / (a - (Int32.ofNat v)) * (a - (Int32.ofNat v))) - (Int32.ofNat v))]) rfl ?_
  exact Wp.reti rfl rfl ((hQ k1 f1 g1) k2 f2 g2)
set_option maxHeartbeats 4000000 in
theorem r276_1 {d : Nat} {Q : KO → Prop} {h : KH} (hw : WF h) {L : List Int32} {v : Nat} {a x : Int32} (s : rsO h L false v 1 a) (hl : L.length + 2 ≤ 30) (hd : 2 ≤ d) (hQ0 : ∀ k, FA h k → rsO k (L ++ [20, 10]) false v 1 a → Q (some (.int ((x ^^^ ((Int32.ofNat v) + (5 : Int32))) * (5 : Int32))), k)) : Cl d 276 [.ref 59, .int (Int32.ofNat v), .int x] h Q := by
  have hQ : ∀ k1, FA h k1 → rsO k1 (L ++ [20]) false v 1 a → (∀ k2, FA k1 k2 → rsO k2 ((L ++ [20]) ++ [10]) false v 1 a → (Q (some (.int ((x ^^^ ((Int32.ofNat v) + (5 : Int32))) * (5 : Int32))), k2))) := fun k1 f1 g1 k2 f2 g2 => hQ0 k2 ((f1).trans f2) (rsO_app g2 (by simp only [List.append_assoc, List.cons_append, List.nil_append]))
  refine Cl.of (ls := [some (.ref 59), some (.int (Int32.ofNat v)), some (.int (x))]) rfl rfl ?_
  refine Wp.seg 3 (pc1 := 3) (ls1 := [some (.ref 59), some (.int (Int32.ofNat v)), some (.int (x))]) (st1 := [.int (0), .int (Int32.ofNat v), .ref 59]) rfl ?_
  refine Wp.invV (d2 := 0) (as := [.ref 59, .int (Int32.ofNat v), .int (0)]) (r := []) (t := (11, 0)) rfl rfl rfl rfl (WF.t hw 59 rfl) rfl rfl ⟨rfl, rfl⟩ (by omega) (s_ofv hw (w := 0) rfl (by have := s.2.2.2.2.1; omega) s.2.2.2.2.2.1 ?_)
  show Wp d 276 6 [some (.ref 59), some (.int (Int32.ofNat v)), some (.int (x))] [.int (1)] h Q
  refine Wp.br (pc1 := 32) (st1 := []) rfl rfl ?_
  refine Wp.seg 2 (pc1 := 35) (ls1 := [some (.ref 59), some (.int (Int32.ofNat v)), some (.int (x))]) (st1 := [.int (20), .ref 59]) rfl ?_
  refine Wp.invV (d2 := 0) (as := [.ref 59, .int (20)]) (r := []) (t := (11, 0)) rfl rfl rfl rfl (WF.t hw 59 rfl) rfl rfl ⟨rfl, rfl⟩ (by omega) (r_bg hw s (by first | omega | (simp only [List.length_append, List.length_cons, List.length_nil]; omega)) ?_)
  intro k1 f1 g1
  show Wp d 276 38 [some (.ref 59), some (.int (Int32.ofNat v)), some (.int (x))] [] k1 Q
  refine Wp.seg 3 (pc1 := 41) (ls1 := [some (.ref 59), some (.int (Int32.ofNat v)), some (.int (x))]) (st1 := [.int (x), .int (Int32.ofNat v), .ref 59]) rfl ?_
  refine Wp.invV (d2 := 1) (as := [.ref 59, .int (Int32.ofNat v), .int (x)]) (r := []) (t := (11, 0)) rfl rfl rfl rfl (WF.t (f1.wf hw) 59 rfl) rfl rfl ⟨rfl, rfl⟩ (by omega) (r275_ (f1.wf hw) g1 (by first | omega | (simp only [List.length_append, List.length_cons, List.length_nil]; omega)) (Nat.le_refl _) ?_)
  intro k2 f2 g2
  show Wp d 276 44 [some (.ref 59), some (.int (Int32.ofNat v)), some (.int (x))] [.int (x ^^^ ((Int32.ofNat v) + (5 : Int32)))] k2 Q
  refine Wp.seg 2 (pc1 := 46) (ls1 := [some (.ref 59), some (.int (Int32.ofNat v)), some (.int (x))]) (st1 := [.int ((x ^^^ ((Int32.ofNat v) + (5 : Int32))) * (5 : Int32))]) rfl ?_
  exact Wp.reti rfl rfl ((hQ k1 f1 g1) k2 f2 g2)
set_option maxHeartbeats 4000000 in
theorem r277_1 {d : Nat} {Q : KO → Prop} {h : KH} (hw : WF h) {L : List Int32} {v : Nat} {a x : Int32} (s : rsO h L false v 1 a) (hl : L.length + 3 ≤ 30) (hd : 3 ≤ d) (hQ0 : ∀ k, FA h k → rsO k (L ++ [11, 20, 10]) false v 1 a → Q (some (.int (((x ^^^ ((Int32.ofNat v) + (5 : Int32))) * (5 : Int32)) - a)), k)) : Cl d 277 [.ref 59, .int (Int32.ofNat v), .int x] h Q := by
  have hQ : ∀ k1, FA h k1 → rsO k1 (L ++ [11]) false v 1 a → (∀ k2, FA k1 k2 → rsO k2 ((L ++ [11]) ++ [20, 10]) false v 1 a → (Q (some (.int (((x ^^^ ((Int32.ofNat v) + (5 : Int32))) * (5 : Int32)) - a)), k2))) := fun k1 f1 g1 k2 f2 g2 => hQ0 k2 ((f1).trans f2) (rsO_app g2 (by simp only [List.append_assoc, List.cons_append, List.nil_append]))
  refine Cl.of (ls := [some (.ref 59), some (.int (Int32.ofNat v)), some (.int (x))]) rfl rfl ?_
  refine Wp.seg 2 (pc1 := 3) (ls1 := [some (.ref 59), some (.int (Int32.ofNat v)), some (.int (x))]) (st1 := [.int (11), .ref 59]) rfl ?_
  refine Wp.invV (d2 := 0) (as := [.ref 59, .int (11)]) (r := []) (t := (11, 0)) rfl rfl rfl rfl (WF.t hw 59 rfl) rfl rfl ⟨rfl, rfl⟩ (by omega) (r_bg hw s (by first | omega | (simp only [List.length_append, List.length_cons, List.length_nil]; omega)) ?_)
  intro k1 f1 g1
  show Wp d 277 6 [some (.ref 59), some (.int (Int32.ofNat v)), some (.int (x))] [] k1 Q
  refine Wp.seg 3 (pc1 := 9) (ls1 := [some (.ref 59), some (.int (Int32.ofNat v)), some (.int (x))]) (st1 := [.int (x), .int (Int32.ofNat v), .ref 59]) rfl ?_
  refine Wp.invV (d2 := 2) (as := [.ref 59, .int (Int32.ofNat v), .int (x)]) (r := []) (t := (11, 0)) rfl rfl rfl rfl (WF.t (f1.wf hw) 59 rfl) rfl rfl ⟨rfl, rfl⟩ (by omega) (r276_1 (f1.wf hw) g1 (by first | omega | (simp only [List.length_append, List.length_cons, List.length_nil]; omega)) (Nat.le_refl _) ?_)
  intro k2 f2 g2
  show Wp d 277 12 [some (.ref 59), some (.int (Int32.ofNat v)), some (.int (x))] [.int ((x ^^^ ((Int32.ofNat v) + (5 : Int32))) * (5 : Int32))] k2 Q
  refine Wp.seg 3 (pc1 := 15) (ls1 := [some (.ref 59), some (.int (Int32.ofNat v)), some (.int (x))]) (st1 := [.int (3), .int (Int32.ofNat v), .ref 59, .int ((x ^^^ ((Int32.ofNat v) + (5 : Int32))) * (5 : Int32))]) rfl ?_
  refine Wp.invV (d2 := 0) (as := [.ref 59, .int (Int32.ofNat v), .int (3)]) (r := [.int ((x ^^^ ((Int32.ofNat v) + (5 : Int32))) * (5 : Int32))]) (t := (11, 0)) rfl rfl rfl rfl (WF.t (f2.wf (f1.wf hw)) 59 rfl) rfl rfl ⟨rfl, rfl⟩ (by omega) (s_ofv (f2.wf (f1.wf hw)) (w := 3) rfl (by have := g2.2.2.2.2.1; omega) g2.2.2.2.2.2.2 ?_)
  show Wp d 277 18 [some (.ref 59), some (.int (Int32.ofNat v)), some (.int (x))] [.int (a), .int ((x ^^^ ((Int32.ofNat v) + (5 : Int32))) * (5 : Int32))] k2 Q
  refine Wp.seg 1 (pc1 := 19) (ls1 := [some (.ref 59), some (.int (Int32.ofNat v)), some (.int (x))]) (st1 := [.int (((x ^^^ ((Int32.ofNat v) + (5 : Int32))) * (5 : Int32)) - a)]) rfl ?_
  exact Wp.reti rfl rfl ((hQ k1 f1 g1) k2 f2 g2)
set_option maxHeartbeats 4000000 in
theorem r278_1 {d : Nat} {Q : KO → Prop} {h : KH} (hw : WF h) {L : List Int32} {v : Nat} {a x : Int32} (s : rsO h L false v 1 a) (hl : L.length + 3 ≤ 30) (hd : 4 ≤ d) (hQ0 : ∀ k, FA h k → rsO k (L ++ [11, 20, 10]) false v 1 a → Q (some (.int (((x ^^^ ((Int32.ofNat v) + (5 : Int32))) * (5 : Int32)) - a)), k)) : Cl d 278 [.ref 59, .int (Int32.ofNat v), .int x] h Q := by
  have hQ : ∀ k1, FA h k1 → rsO k1 (L ++ [11, 20, 10]) false v 1 a → (Q (some (.int (((x ^^^ ((Int32.ofNat v) + (5 : Int32))) * (5 : Int32)) - a)), k1)) := fun k1 f1 g1 => hQ0 k1 (f1) (rsO_app g1 rfl)
  refine Cl.of (ls := [some (.ref 59), some (.int (Int32.ofNat v)), some (.int (x))]) rfl rfl ?_
  refine Wp.seg 3 (pc1 := 3) (ls1 := [some (.ref 59), some (.int (Int32.ofNat v)), some (.int (x))]) (st1 := [.int (0), .int (Int32.ofNat v), .ref 59]) rfl ?_
  refine Wp.invV (d2 := 0) (as := [.ref 59, .int (Int32.ofNat v), .int (0)]) (r := []) (t := (11, 0)) rfl rfl rfl rfl (WF.t hw 59 rfl) rfl rfl ⟨rfl, rfl⟩ (by omega) (s_ofv hw (w := 0) rfl (by have := s.2.2.2.2.1; omega) s.2.2.2.2.2.1 ?_)
  show Wp d 278 6 [some (.ref 59), some (.int (Int32.ofNat v)), some (.int (x))] [.int (1)] h Q
  refine Wp.br (pc1 := 66) (st1 := []) rfl rfl ?_
  refine Wp.seg 3 (pc1 := 69) (ls1 := [some (.ref 59), some (.int (Int32.ofNat v)), some (.int (x))]) (st1 := [.int (x), .int (Int32.ofNat v), .ref 59]) rfl ?_
  refine Wp.invV (d2 := 3) (as := [.ref 59, .int (Int32.ofNat v), .int (x)]) (r := []) (t := (11, 0)) rfl rfl rfl rfl (WF.t hw 59 rfl) rfl rfl ⟨rfl, rfl⟩ (by omega) (r277_1 hw s (by first | omega | (simp only [List.length_append, List.length_cons, List.length_nil]; omega)) (Nat.le_refl _) ?_)
  intro k1 f1 g1
  show Wp d 278 72 [some (.ref 59), some (.int (Int32.ofNat v)), some (.int (x))] [.int (((x ^^^ ((Int32.ofNat v) + (5 : Int32))) * (5 : Int32)) - a)] k1 Q
  exact Wp.reti rfl rfl (hQ k1 f1 g1)
set_option maxHeartbeats 4000000 in
theorem r281_10 {d : Nat} {Q : KO → Prop} {h : KH} (hw : WF h) {L : List Int32} {v : Nat} {a x : Int32} (s : rsO h L false v 1 a) (hl : L.length + 1 ≤ 30) (e0 : a - Int32.ofNat v = 0) (hd : 2 ≤ d) (hQ0 : ∀ k, FA h k → rsO k (L ++ [12]) true v 1 a → Q (some (.int (0)), k)) : Cl d 281 [.ref 59, .int (Int32.ofNat v), .int x] h Q := by
  have hQ : ∀ k1, FA h k1 → rsO k1 (L ++ [12]) true v 1 a → (Q (some (.int (0)), k1)) := fun k1 f1 g1 => hQ0 k1 (f1) (rsO_app g1 rfl)
  refine Cl.of (ls := [some (.ref 59), some (.int (Int32.ofNat v)), some (.int (x)), none]) rfl rfl ?_
  refine Wp.seg 3 (pc1 := 3) (ls1 := [some (.ref 59), some (.int (Int32.ofNat v)), some (.int (x)), none]) (st1 := [.int (0), .int (Int32.ofNat v), .ref 59]) rfl ?_
  refine Wp.invV (d2 := 0) (as := [.ref 59, .int (Int32.ofNat v), .int (0)]) (r := []) (t := (11, 0)) rfl rfl rfl rfl (WF.t hw 59 rfl) rfl rfl ⟨rfl, rfl⟩ (by omega) (s_ofv hw (w := 0) rfl (by have := s.2.2.2.2.1; omega) s.2.2.2.2.2.1 ?_)
  show Wp d 281 6 [some (.ref 59), some (.int (Int32.ofNat v)), some (.int (x)), none] [.int (1)] h Q
  refine Wp.br (pc1 := 72) (st1 := []) rfl rfl ?_
  refine Wp.seg 3 (pc1 := 75) (ls1 := [some (.ref 59), some (.int (Int32.ofNat v)), some (.int (x)), none]) (st1 := [.int (x), .int (Int32.ofNat v), .ref 59]) rfl ?_
  refine Wp.invV (d2 := 1) (as := [.ref 59, .int (Int32.ofNat v), .int (x)]) (r := []) (t := (11, 0)) rfl rfl rfl rfl (WF.t hw 59 rfl) rfl rfl ⟨rfl, rfl⟩ (by omega) (r279_0 hw s (by first | omega | (simp only [List.length_append, List.length_cons, List.length_nil]; omega)) e0 (Nat.le_refl _) ?_)
  intro k1 f1 g1
  show Wp d 281 78 [some (.ref 59), some (.int (Int32.ofNat v)), some (.int (x)), none] [.int (0)] k1 Q
  exact Wp.reti rfl rfl (hQ k1 f1 g1)
set_option maxHeartbeats 4000000 in
theorem r282_10 {d : Nat} {Q : KO → Prop} {h : KH} (hw : WF h) {L : List Int32} {v : Nat} {a x : Int32} (s : rsO h L false v 1 a) (hl : L.length + 5 ≤ 30) (e0 : a - Int32.ofNat v = 0) (hd : 5 ≤ d) (hQ0 : ∀ k, FA h k → rsO k (L ++ [13, 11, 20, 10, 12]) true v 1 a → Q (some (.int (((((x ^^^ ((Int32.ofNat v) + (5 : Int32))) * (5 : Int32)) - a) * (2 : Int32)) + (0 : Int32))), k)) : Cl d 282 [.ref 59, .int (Int32.ofNat v), .int x] h Q := by
  have hQ : ∀ k1, FA h k1 → rsO k1 (L ++ [13]) false v 1 a → (∀ k2, FA k1 k2 → rsO k2 ((L ++ [13]) ++ [11, 20, 10]) false v 1 a → (∀ k3, FA k2 k3 → rsO k3 (((L ++ [13]) ++ [11, 20, 10]) ++ [12]) true v 1 a → (Q (some (.int (((((x ^^^ ((Int32.ofNat v) + (5 : Int32))) * (5 : Int32)) - a) * (2 : Int32)) + (0 : Int32))), k3)))) := fun k1 f1 g1 k2 f2 g2 k3 f3 g3 => hQ0 k3 (((f1).trans f2).trans f3) (rsO_app g3 (by simp only [List.append_assoc, List.cons_append, List.nil_append]))
  refine Cl.of (ls := [some (.ref 59), some (.int (Int32.ofNat v)), some (.int (x)), none]) rfl rfl ?_
  refine Wp.seg 2 (pc1 := 3) (ls1 := [some (.ref 59), some (.int (Int32.ofNat v)), some (.int (x)), none]) (st1 := [.int (13), .ref 59]) rfl ?_
  refine Wp.invV (d2 := 0) (as := [.ref 59, .int (13)]) (r := []) (t := (11, 0)) rfl rfl rfl rfl (WF.t hw 59 rfl) rfl rfl ⟨rfl, rfl⟩ (by omega) (r_bg hw s (by first | omega | (simp only [List.length_append, List.length_cons, List.length_nil]; omega)) ?_)
  intro k1 f1 g1
  show Wp d 282 6 [some (.ref 59), some (.int (Int32.ofNat v)), some (.int (x)), none] [] k1 Q
  refine Wp.seg 3 (pc1 := 9) (ls1 := [some (.ref 59), some (.int (Int32.ofNat v)), some (.int (x)), none]) (st1 := [.int (x), .int (Int32.ofNat v), .ref 59]) rfl ?_
  refine Wp.invV (d2 := 4) (as := [.ref 59, .int (Int32.ofNat v), .int (x)]) (r := []) (t := (11, 0)) rfl rfl rfl rfl (WF.t (f1.wf hw) 59 rfl) rfl rfl ⟨rfl, rfl⟩ (by omega) (r278_1 (f1.wf hw) g1 (by first | omega | (simp only [List.length_append, List.length_cons, List.length_nil]; omega)) (Nat.le_refl _) ?_)
  intro k2 f2 g2
  show Wp d 282 12 [some (.ref 59), some (.int (Int32.ofNat v)), some (.int (x)), none] [.int (((x ^^^ ((Int32.ofNat v) + (5 : Int32))) * (5 : Int32)) - a)] k2 Q
  refine Wp.seg 7 (pc1 := 19) (ls1 := [some (.ref 59), some (.int (Int32.ofNat v)), some (.int (x)), some (.int ((((x ^^^ ((Int32.ofNat v) + (5 : Int32))) * (5 : Int32)) - a) * (2 : Int32)))]) (st1 := [.int (x), .int (Int32.ofNat v), .ref 59, .int ((((x ^^^ ((Int32.ofNat v) + (5 : Int32))) * (5 : Int32)) - a) * (2 : Int32))]) rfl ?_
  refine Wp.invV (d2 := 2) (as := [.ref 59, .int (Int32.ofNat v), .int (x)]) (r := [.int ((((x ^^^ ((Int32.ofNat v) + (5 : Int32))) * (5 : Int32)) - a) * (2 : Int32))]) (t := (11, 0)) rfl rfl rfl rfl (WF.t (f2.wf (f1.wf hw)) 59 rfl) rfl rfl ⟨rfl, rfl⟩ (by omega) (r281_10 (f2.wf (f1.wf hw)) g2 (by first | omega | (simp only [List.length_append, List.length_cons, List.length_nil]; omega)) e0 (Nat.le_refl _) ?_)
  intro k3 f3 g3
  show Wp d 282 22 [some (.ref 59), some (.int (Int32.ofNat v)), some (.int (x)), some (.int ((((x ^^^ ((Int32.ofNat v) + (5 : Int32))) * (5 : Int32)) - a) * (2 : Int32)))] [.int (0), .int ((((x ^^^ ((Int32.ofNat v) + (5 : Int32))) * (5 : Int32)) - a) * (2 : Int32))] k3 Q
  refine Wp.seg 1 (pc1 := 23) (ls1 := [some (.ref 59), some (.int (Int32.ofNat v)), some (.int (x)), some (.int ((((x ^^^ ((Int32.ofNat v) + (5 : Int32))) * (5 : Int32)) - a) * (2 : Int32)))]) (st1 := [.int (((((x ^^^ ((Int32.ofNat v) + (5 : Int32))) * (5 : Int32)) - a) * (2 : Int32)) + (0 : Int32))]) rfl ?_
  exact Wp.reti rfl rfl (((hQ k1 f1 g1) k2 f2 g2) k3 f3 g3)
set_option maxHeartbeats 4000000 in
theorem r283_10 {d : Nat} {Q : KO → Prop} {h : KH} (hw : WF h) {L : List Int32} {v : Nat} {a x : Int32} (s : rsO h L false v 1 a) (hl : L.length + 5 ≤ 30) (e0 : a - Int32.ofNat v = 0) (hd : 6 ≤ d) (hQ0 : ∀ k, FA h k → rsO k (L ++ [13, 11, 20, 10, 12]) true v 1 a → Q (some (.int (((((x ^^^ ((Int32.ofNat v) + (5 : Int32))) * (5 : Int32)) - a) * (2 : Int32)) + (0 : Int32))), k)) : Cl d 283 [.ref 59, .int (Int32.ofNat v), .int x] h Q := by
  have hQ : ∀ k1, FA h k1 → rsO k1 (L ++ [13, 11, 20, 10, 12]) true v 1 a → (Q (some (.int (((((x ^^^ ((Int32.ofNat v) + (5 : Int32))) * (5 : Int32)) - a) * (2 : Int32)) + (0 : Int32))), k1)) := fun k1 f1 g1 => hQ0 k1 (f1) (rsO_app g1 rfl)
  refine Cl.of (ls := [some (.ref 59), some (.int (Int32.ofNat v)), some (.int (x)), none]) rfl rfl ?_
  refine Wp.seg 3 (pc1 := 3) (ls1 := [some (.ref 59), some (.int (Int32.ofNat v)), some (.int (x)), none]) (st1 := [.int (0), .int (Int32.ofNat v), .ref 59]) rfl ?_
  refine Wp.invV (d2 := 0) (as := [.ref 59, .int (Int32.ofNat v), .int (0)]) (r := []) (t := (11, 0)) rfl rfl rfl rfl (WF.t hw 59 rfl) rfl rfl ⟨rfl, rfl⟩ (by omega) (s_ofv hw (w := 0) rfl (by have := s.2.2.2.2.1; omega) s.2.2.2.2.2.1 ?_)
  show Wp d 283 6 [some (.ref 59), some (.int (Int32.ofNat v)), some (.int (x)), none] [.int (1)] h Q
  refine Wp.seg 1 (pc1 := 7) (ls1 := [some (.ref 59), some (.int (Int32.ofNat v)), some (.int (x)), none]) (st1 := [.int (3), .int (1)]) rfl ?_
  refine Wp.if2 rfl (fun c1 => absurd c1 (show ¬ ((1 : Int32) = (3 : Int32)) by decide)) (fun c1 => ?_)
  refine Wp.seg 3 (pc1 := 13) (ls1 := [some (.ref 59), some (.int (Int32.ofNat v)), some (.int (x)), none]) (st1 := [.int (x), .int (Int32.ofNat v), .ref 59]) rfl ?_
  refine Wp.invV (d2 := 5) (as := [.ref 59, .int (Int32.ofNat v), .int (x)]) (r := []) (t := (11, 0)) rfl rfl rfl rfl (WF.t hw 59 rfl) rfl rfl ⟨rfl, rfl⟩ (by omega) (r282_10 hw s (by first | omega | (simp only [List.length_append, List.length_cons, List.length_nil]; omega)) e0 (Nat.le_refl _) ?_)
  intro k1 f1 g1
  show Wp d 283 16 [some (.ref 59), some (.int (Int32.ofNat v)), some (.int (x)), none] [.int (((((x ^^^ ((Int32.ofNat v) + (5 : Int32))) * (5 : Int32)) - a) * (2 : Int32)) + (0 : Int32))] k1 Q
  exact Wp.reti rfl rfl (hQ k1 f1 g1)
set_option maxHeartbeats 4000000 in
theorem r281_11 {d : Nat} {Q : KO → Prop} {h : KH} (hw : WF h) {L : List Int32} {v : Nat} {a x : Int32} (s : rsO h L false v 1 a) (hl : L.length + 1 ≤ 30) (ne : ¬ a - Int32.ofNat v = 0) (hd : 2 ≤ d) (hQ0 : ∀ k, FA h k → rsO k (L ++ [12]) false v 1 a → Q (some (.int (x - x / (a - (Int32.ofNat v)) * (a - (Int32.ofNat v)))), k)) : Cl d 281 [.ref 59, .int (Int32.ofNat v), .int x] h Q := by
  have hQ : ∀ k1, FA h k1 → rsO k1 (L ++ [12]) false v 1 a → (Q (some (.int (x - x / (a - (Int32.ofNat v)) * (a - (Int32.ofNat v)))), k1)) := fun k1 f1 g1 => hQ0 k1 (f1) (rsO_app g1 rfl)
  refine Cl.of (ls := [some (.ref 59), some (.int (Int32.ofNat v)), some (.int (x)), none]) rfl rfl ?_
  refine Wp.seg 3 (pc1 := 3) (ls1 := [some (.ref 59), some (.int (Int32.ofNat v)), some (.int (x)), none]) (st1 := [.int (0), .int (Int32.ofNat v), .ref 59]) rfl ?_
  refine Wp.invV (d2 := 0) (as := [.ref 59, .int (Int32.ofNat v), .int (0)]) (r := []) (t := (11, 0)) rfl rfl rfl rfl (WF.t hw 59 rfl) rfl rfl ⟨rfl, rfl⟩ (by omega) (s_ofv hw (w := 0) rfl (by have := s.2.2.2.2.1; omega) s.2.2.2.2.2.1 ?_)
  show Wp d 281 6 [some (.ref 59), some (.int (Int32.ofNat v)), some (.int (x)), none] [.int (1)] h Q
  refine Wp.br (pc1 := 72) (st1 := []) rfl rfl ?_
  refine Wp.seg 3 (pc1 := 75) (ls1 := [some (.ref 59), some (.int (Int32.ofNat v)), some (.int (x)), none]) (st1 := [.int (x), .int (Int32.ofNat v), .ref 59]) rfl ?_
  refine Wp.invV (d2 := 1) (as := [.ref 59, .int (Int32.ofNat v), .int (x)]) (r := []) (t := (11, 0)) rfl rfl rfl rfl (WF.t hw 59 rfl) rfl rfl ⟨rfl, rfl⟩ (by omega) (r279_1 hw s (by first | omega | (simp only [List.length_append, List.length_cons, List.length_nil]; omega)) ne (Nat.le_refl _) ?_)
  intro k1 f1 g1
  show Wp d 281 78 [some (.ref 59), some (.int (Int32.ofNat v)), some (.int (x)), none] [.int (x - x / (a - (Int32.ofNat v)) * (a - (Int32.ofNat v)))] k1 Q
  exact Wp.reti rfl rfl (hQ k1 f1 g1)
set_option maxHeartbeats 4000000 in
theorem r282_11 {d : Nat} {Q : KO → Prop} {h : KH} (hw : WF h) {L : List Int32} {v : Nat} {a x : Int32} (s : rsO h L false v 1 a) (hl : L.length + 5 ≤ 30) (ne : ¬ a - Int32.ofNat v = 0) (hd : 5 ≤ d) (hQ0 : ∀ k, FA h k → rsO k (L ++ [13, 11, 20, 10, 12]) false v 1 a → Q (some (.int (((((x ^^^ ((Int32.ofNat v) + (5 : Int32))) * (5 : Int32)) - a) * (2 : Int32)) + (x - x / (a - (Int32.ofNat v)) * (a - (Int32.ofNat v))))), k)) : Cl d 282 [.ref 59, .int (Int32.ofNat v), .int x] h Q := by
  have hQ : ∀ k1, FA h k1 → rsO k1 (L ++ [13]) false v 1 a → (∀ k2, FA k1 k2 → rsO k2 ((L ++ [13]) ++ [11, 20, 10]) false v 1 a → (∀ k3, FA k2 k3 → rsO k3 (((L ++ [13]) ++ [11, 20, 10]) ++ [12]) false v 1 a → (Q (some (.int (((((x ^^^ ((Int32.ofNat v) + (5 : Int32))) * (5 : Int32)) - a) * (2 : Int32)) + (x - x / (a - (Int32.ofNat v)) * (a - (Int32.ofNat v))))), k3)))) := fun k1 f1 g1 k2 f2 g2 k3 f3 g3 => hQ0 k3 (((f1).trans f2).trans f3) (rsO_app g3 (by simp only [List.append_assoc, List.cons_append, List.nil_append]))
  refine Cl.of (ls := [some (.ref 59), some (.int (Int32.ofNat v)), some (.int (x)), none]) rfl rfl ?_
  refine Wp.seg 2 (pc1 := 3) (ls1 := [some (.ref 59), some (.int (Int32.ofNat v)), some (.int (x)), none]) (st1 := [.int (13), .ref 59]) rfl ?_
  refine Wp.invV (d2 := 0) (as := [.ref 59, .int (13)]) (r := []) (t := (11, 0)) rfl rfl rfl rfl (WF.t hw 59 rfl) rfl rfl ⟨rfl, rfl⟩ (by omega) (r_bg hw s (by first | omega | (simp only [List.length_append, List.length_cons, List.length_nil]; omega)) ?_)
  intro k1 f1 g1
  show Wp d 282 6 [some (.ref 59), some (.int (Int32.ofNat v)), some (.int (x)), none] [] k1 Q
  refine Wp.seg 3 (pc1 := 9) (ls1 := [some (.ref 59), some (.int (Int32.ofNat v)), some (.int (x)), none]) (st1 := [.int (x), .int (Int32.ofNat v), .ref 59]) rfl ?_
  refine Wp.invV (d2 := 4) (as := [.ref 59, .int (Int32.ofNat v), .int (x)]) (r := []) (t := (11, 0)) rfl rfl rfl rfl (WF.t (f1.wf hw) 59 rfl) rfl rfl ⟨rfl, rfl⟩ (by omega) (r278_1 (f1.wf hw) g1 (by first | omega | (simp only [List.length_append, List.length_cons, List.length_nil]; omega)) (Nat.le_refl _) ?_)
  intro k2 f2 g2
  show Wp d 282 12 [some (.ref 59), some (.int (Int32.ofNat v)), some (.int (x)), none] [.int (((x ^^^ ((Int32.ofNat v) + (5 : Int32))) * (5 : Int32)) - a)] k2 Q
  refine Wp.seg 7 (pc1 := 19) (ls1 := [some (.ref 59), some (.int (Int32.ofNat v)), some (.int (x)), some (.int ((((x ^^^ ((Int32.ofNat v) + (5 : Int32))) * (5 : Int32)) - a) * (2 : Int32)))]) (st1 := [.int (x), .int (Int32.ofNat v), .ref 59, .int ((((x ^^^ ((Int32.ofNat v) + (5 : Int32))) * (5 : Int32)) - a) * (2 : Int32))]) rfl ?_
  refine Wp.invV (d2 := 2) (as := [.ref 59, .int (Int32.ofNat v), .int (x)]) (r := [.int ((((x ^^^ ((Int32.ofNat v) + (5 : Int32))) * (5 : Int32)) - a) * (2 : Int32))]) (t := (11, 0)) rfl rfl rfl rfl (WF.t (f2.wf (f1.wf hw)) 59 rfl) rfl rfl ⟨rfl, rfl⟩ (by omega) (r281_11 (f2.wf (f1.wf hw)) g2 (by first | omega | (simp only [List.length_append, List.length_cons, List.length_nil]; omega)) ne (Nat.le_refl _) ?_)
  intro k3 f3 g3
  show Wp d 282 22 [some (.ref 59), some (.int (Int32.ofNat v)), some (.int (x)), some (.int ((((x ^^^ ((Int32.ofNat v) + (5 : Int32))) * (5 : Int32)) - a) * (2 : Int32)))] [.int (x - x / (a - (Int32.ofNat v)) * (a - (Int32.ofNat v))), .int ((((x ^^^ ((Int32.ofNat v) + (5 : Int32))) * (5 : Int32)) - a) * (2 : Int32))] k3 Q
  refine Wp.seg 1 (pc1 := 23) (ls1 := [some (.ref 59), some (.int (Int32.ofNat v)), some (.int (x)), some (.int ((((x ^^^ ((Int32.ofNat v) + (5 : Int32))) * (5 : Int32)) - a) * (2 : Int32)))]) (st1 := [.int (((((x ^^^ ((Int32.ofNat v) + (5 : Int32))) * (5 : Int32)) - a) * (2 : Int32)) + (x - x / (a - (Int32.ofNat v)) * (a - (Int32.ofNat v))))]) rfl ?_
  exact Wp.reti rfl rfl (((hQ k1 f1 g1) k2 f2 g2) k3 f3 g3)
set_option maxHeartbeats 4000000 in
theorem r283_11 {d : Nat} {Q : KO → Prop} {h : KH} (hw : WF h) {L : List Int32} {v : Nat} {a x : Int32} (s : rsO h L false v 1 a) (hl : L.length + 5 ≤ 30) (ne : ¬ a - Int32.ofNat v = 0) (hd : 6 ≤ d) (hQ0 : ∀ k, FA h k → rsO k (L ++ [13, 11, 20, 10, 12]) false v 1 a → Q (some (.int (((((x ^^^ ((Int32.ofNat v) + (5 : Int32))) * (5 : Int32)) - a) * (2 : Int32)) + (x - x / (a - (Int32.ofNat v)) * (a - (Int32.ofNat v))))), k)) : Cl d 283 [.ref 59, .int (Int32.ofNat v), .int x] h Q := by
  have hQ : ∀ k1, FA h k1 → rsO k1 (L ++ [13, 11, 20, 10, 12]) false v 1 a → (Q (some (.int (((((x ^^^ ((Int32.ofNat v) + (5 : Int32))) * (5 : Int32)) - a) * (2 : Int32)) + (x - x / (a - (Int32.ofNat v)) * (a - (Int32.ofNat v))))), k1)) := fun k1 f1 g1 => hQ0 k1 (f1) (rsO_app g1 rfl)
  refine Cl.of (ls := [some (.ref 59), some (.int (Int32.ofNat v)), some (.int (x)), none]) rfl rfl ?_
  refine Wp.seg 3 (pc1 := 3) (ls1 := [some (.ref 59), some (.int (Int32.ofNat v)), some (.int (x)), none]) (st1 := [.int (0), .int (Int32.ofNat v), .ref 59]) rfl ?_
  refine Wp.invV (d2 := 0) (as := [.ref 59, .int (Int32.ofNat v), .int (0)]) (r := []) (t := (11, 0)) rfl rfl rfl rfl (WF.t hw 59 rfl) rfl rfl ⟨rfl, rfl⟩ (by omega) (s_ofv hw (w := 0) rfl (by have := s.2.2.2.2.1; omega) s.2.2.2.2.2.1 ?_)
  show Wp d 283 6 [some (.ref 59), some (.int (Int32.ofNat v)), some (.int (x)), none] [.int (1)] h Q
  refine Wp.seg 1 (pc1 := 7) (ls1 := [some (.ref 59), some (.int (Int32.ofNat v)), some (.int (x)), none]) (st1 := [.int (3), .int (1)]) rfl ?_
  refine Wp.if2 rfl (fun c1 => absurd c1 (show ¬ ((1 : Int32) = (3 : Int32)) by decide)) (fun c1 => ?_)
  refine Wp.seg 3 (pc1 := 13) (ls1 := [some (.ref 59), some (.int (Int32.ofNat v)), some (.int (x)), none]) (st1 := [.int (x), .int (Int32.ofNat v), .ref 59]) rfl ?_
  refine Wp.invV (d2 := 5) (as := [.ref 59, .int (Int32.ofNat v), .int (x)]) (r := []) (t := (11, 0)) rfl rfl rfl rfl (WF.t hw 59 rfl) rfl rfl ⟨rfl, rfl⟩ (by omega) (r282_11 hw s (by first | omega | (simp only [List.length_append, List.length_cons, List.length_nil]; omega)) ne (Nat.le_refl _) ?_)
  intro k1 f1 g1
  show Wp d 283 16 [some (.ref 59), some (.int (Int32.ofNat v)), some (.int (x)), none] [.int (((((x ^^^ ((Int32.ofNat v) + (5 : Int32))) * (5 : Int32)) - a) * (2 : Int32)) + (x - x / (a - (Int32.ofNat v)) * (a - (Int32.ofNat v))))] k1 Q
  exact Wp.reti rfl rfl (hQ k1 f1 g1)
set_option maxHeartbeats 4000000 in
theorem r276_2 {d : Nat} {Q : KO → Prop} {h : KH} (hw : WF h) {L : List Int32} {v : Nat} {a x : Int32} (s : rsO h L false v 2 a) (hl : L.length + 1 ≤ 30) (hd : 2 ≤ d) (hQ0 : ∀ k, FA h k → rsO k (L ++ [10]) false v 2 a → Q (some (.int (x ^^^ ((Int32.ofNat v) + (5 : Int32)))), k)) : Cl d 276 [.ref 59, .int (Int32.ofNat v), .int x] h Q := by
  have hQ : ∀ k1, FA h k1 → rsO k1 (L ++ [10]) false v 2 a → (Q (some (.int (x ^^^ ((Int32.ofNat v) + (5 : Int32)))), k1)) := fun k1 f1 g1 => hQ0 k1 (f1) (rsO_app g1 rfl)
  refine Cl.of (ls := [some (.ref 59), some (.int (Int32.ofNat v)), some (.int (x))]) rfl rfl ?_
  refine Wp.seg 3 (pc1 := 3) (ls1 := [some (.ref 59), some (.int (Int32.ofNat v)), some (.int (x))]) (st1 := [.int (0), .int (Int32.ofNat v), .ref 59]) rfl ?_
  refine Wp.invV (d2 := 0) (as := [.ref 59, .int (Int32.ofNat v), .int (0)]) (r := []) (t := (11, 0)) rfl rfl rfl rfl (WF.t hw 59 rfl) rfl rfl ⟨rfl, rfl⟩ (by omega) (s_ofv hw (w := 0) rfl (by have := s.2.2.2.2.1; omega) s.2.2.2.2.2.1 ?_)
  show Wp d 276 6 [some (.ref 59), some (.int (Int32.ofNat v)), some (.int (x))] [.int (2)] h Q
  refine Wp.br (pc1 := 62) (st1 := []) rfl rfl ?_
  refine Wp.seg 3 (pc1 := 65) (ls1 := [some (.ref 59), some (.int (Int32.ofNat v)), some (.int (x))]) (st1 := [.int (x), .int (Int32.ofNat v), .ref 59]) rfl ?_
  refine Wp.invV (d2 := 1) (as := [.ref 59, .int (Int32.ofNat v), .int (x)]) (r := []) (t := (11, 0)) rfl rfl rfl rfl (WF.t hw 59 rfl) rfl rfl ⟨rfl, rfl⟩ (by omega) (r275_ hw s (by first | omega | (simp only [List.length_append, List.length_cons, List.length_nil]; omega)) (Nat.le_refl _) ?_)
  intro k1 f1 g1
  show Wp d 276 68 [some (.ref 59), some (.int (Int32.ofNat v)), some (.int (x))] [.int (x ^^^ ((Int32.ofNat v) + (5 : Int32)))] k1 Q
  exact Wp.reti rfl rfl (hQ k1 f1 g1)
set_option maxHeartbeats 4000000 in
theorem r277_2 {d : Nat} {Q : KO → Prop} {h : KH} (hw : WF h) {L : List Int32} {v : Nat} {a x : Int32} (s : rsO h L false v 2 a) (hl : L.length + 2 ≤ 30) (hd : 3 ≤ d) (hQ0 : ∀ k, FA h k → rsO k (L ++ [11, 10]) false v 2 a → Q (some (.int ((x ^^^ ((Int32.ofNat v) + (5 : Int32))) - a)), k)) : Cl d 277 [.ref 59, .int (Int32.ofNat v), .int x] h Q := by
  have hQ : ∀ k1, FA h k1 → rsO k1 (L ++ [11]) false v 2 a → (∀ k2, FA k1 k2 → rsO k2 ((L ++ [11]) ++ [10]) false v 2 a → (Q (some (.int ((x ^^^ ((Int32.ofNat v) + (5 : Int32))) - a)), k2))) := fun k1 f1 g1 k2 f2 g2 => hQ0 k2 ((f1).trans f2) (rsO_app g2 (by simp only [List.append_assoc, List.cons_append, List.nil_append]))
  refine Cl.of (ls := [some (.ref 59), some (.int (Int32.ofNat v)), some (.int (x))]) rfl rfl ?_
  refine Wp.seg 2 (pc1 := 3) (ls1 := [some (.ref 59), some (.int (Int32.ofNat v)), some (.int (x))]) (st1 := [.int (11), .ref 59]) rfl ?_
  refine Wp.invV (d2 := 0) (as := [.ref 59, .int (11)]) (r := []) (t := (11, 0)) rfl rfl rfl rfl (WF.t hw 59 rfl) rfl rfl ⟨rfl, rfl⟩ (by omega) (r_bg hw s (by first | omega | (simp only [List.length_append, List.length_cons, List.length_nil]; omega)) ?_)
  intro k1 f1 g1
  show Wp d 277 6 [some (.ref 59), some (.int (Int32.ofNat v)), some (.int (x))] [] k1 Q
  refine Wp.seg 3 (pc1 := 9) (ls1 := [some (.ref 59), some (.int (Int32.ofNat v)), some (.int (x))]) (st1 := [.int (x), .int (Int32.ofNat v), .ref 59]) rfl ?_
  refine Wp.invV (d2 := 2) (as := [.ref 59, .int (Int32.ofNat v), .int (x)]) (r := []) (t := (11, 0)) rfl rfl rfl rfl (WF.t (f1.wf hw) 59 rfl) rfl rfl ⟨rfl, rfl⟩ (by omega) (r276_2 (f1.wf hw) g1 (by first | omega | (simp only [List.length_append, List.length_cons, List.length_nil]; omega)) (Nat.le_refl _) ?_)
  intro k2 f2 g2
  show Wp d 277 12 [some (.ref 59), some (.int (Int32.ofNat v)), some (.int (x))] [.int (x ^^^ ((Int32.ofNat v) + (5 : Int32)))] k2 Q
  refine Wp.seg 3 (pc1 := 15) (ls1 := [some (.ref 59), some (.int (Int32.ofNat v)), some (.int (x))]) (st1 := [.int (3), .int (Int32.ofNat v), .ref 59, .int (x ^^^ ((Int32.ofNat v) + (5 : Int32)))]) rfl ?_
  refine Wp.invV (d2 := 0) (as := [.ref 59, .int (Int32.ofNat v), .int (3)]) (r := [.int (x ^^^ ((Int32.ofNat v) + (5 : Int32)))]) (t := (11, 0)) rfl rfl rfl rfl (WF.t (f2.wf (f1.wf hw)) 59 rfl) rfl rfl ⟨rfl, rfl⟩ (by omega) (s_ofv (f2.wf (f1.wf hw)) (w := 3) rfl (by have := g2.2.2.2.2.1; omega) g2.2.2.2.2.2.2 ?_)
  show Wp d 277 18 [some (.ref 59), some (.int (Int32.ofNat v)), some (.int (x))] [.int (a), .int (x ^^^ ((Int32.ofNat v) + (5 : Int32)))] k2 Q
  refine Wp.seg 1 (pc1 := 19) (ls1 := [some (.ref 59), some (.int (Int32.ofNat v)), some (.int (x))]) (st1 := [.int ((x ^^^ ((Int32.ofNat v) + (5 : Int32))) - a)]) rfl ?_
  exact Wp.reti rfl rfl ((hQ k1 f1 g1) k2 f2 g2)
set_option maxHeartbeats 4000000 in
theorem r278_2 {d : Nat} {Q : KO → Prop} {h : KH} (hw : WF h) {L : List Int32} {v : Nat} {a x : Int32} (s : rsO h L false v 2 a) (hl : L.length + 3 ≤ 30) (hd : 4 ≤ d) (hQ0 : ∀ k, FA h k → rsO k (L ++ [30, 11, 10]) false v 2 a → Q (some (.int (((x ^^^ ((Int32.ofNat v) + (5 : Int32))) - a) ^^^ x)), k)) : Cl d 278 [.ref 59, .int (Int32.ofNat v), .int x] h Q := by
  have hQ : ∀ k1, FA h k1 → rsO k1 (L ++ [30]) false v 2 a → (∀ k2, FA k1 k2 → rsO k2 ((L ++ [30]) ++ [11, 10]) false v 2 a → (Q (some (.int (((x ^^^ ((Int32.ofNat v) + (5 : Int32))) - a) ^^^ x)), k2))) := fun k1 f1 g1 k2 f2 g2 => hQ0 k2 ((f1).trans f2) (rsO_app g2 (by simp only [List.append_assoc, List.cons_append, List.nil_append]))
  refine Cl.of (ls := [some (.ref 59), some (.int (Int32.ofNat v)), some (.int (x))]) rfl rfl ?_
  refine Wp.seg 3 (pc1 := 3) (ls1 := [some (.ref 59), some (.int (Int32.ofNat v)), some (.int (x))]) (st1 := [.int (0), .int (Int32.ofNat v), .ref 59]) rfl ?_
  refine Wp.invV (d2 := 0) (as := [.ref 59, .int (Int32.ofNat v), .int (0)]) (r := []) (t := (11, 0)) rfl rfl rfl rfl (WF.t hw 59 rfl) rfl rfl ⟨rfl, rfl⟩ (by omega) (s_ofv hw (w := 0) rfl (by have := s.2.2.2.2.1; omega) s.2.2.2.2.2.1 ?_)
  show Wp d 278 6 [some (.ref 59), some (.int (Int32.ofNat v)), some (.int (x))] [.int (2)] h Q
  refine Wp.br (pc1 := 36) (st1 := []) rfl rfl ?_
  refine Wp.seg 2 (pc1 := 39) (ls1 := [some (.ref 59), some (.int (Int32.ofNat v)), some (.int (x))]) (st1 := [.int (30), .ref 59]) rfl ?_
  refine Wp.invV (d2 := 0) (as := [.ref 59, .int (30)]) (r := []) (t := (11, 0)) rfl rfl rfl rfl (WF.t hw 59 rfl) rfl rfl ⟨rfl, rfl⟩ (by omega) (r_bg hw s (by first | omega | (simp only [List.length_append, List.length_cons, List.length_nil]; omega)) ?_)
  intro k1 f1 g1
  show Wp d 278 42 [some (.ref 59), some (.int (Int32.ofNat v)), some (.int (x))] [] k1 Q
  refine Wp.seg 3 (pc1 := 45) (ls1 := [some (.ref 59), some (.int (Int32.ofNat v)), some (.int (x))]) (st1 := [.int (x), .int (Int32.ofNat v), .ref 59]) rfl ?_
  refine Wp.invV (d2 := 3) (as := [.ref 59, .int (Int32.ofNat v), .int (x)]) (r := []) (t := (11, 0)) rfl rfl rfl rfl (WF.t (f1.wf hw) 59 rfl) rfl rfl ⟨rfl, rfl⟩ (by omega) (r277_2 (f1.wf hw) g1 (by first | omega | (simp only [List.length_append, List.length_cons, List.length_nil]; omega)) (Nat.le_refl _) ?_)
  intro k2 f2 g2
  show Wp d 278 48 [some (.ref 59), some (.int (Int32.ofNat v)), some (.int (x))] [.int ((x ^^^ ((Int32.ofNat v) + (5 : Int32))) - a)] k2 Q
  refine Wp.seg 2 (pc1 := 50) (ls1 := [some (.ref 59), some (.int (Int32.ofNat v)), some (.int (x))]) (st1 := [.int (((x ^^^ ((Int32.ofNat v) + (5 : Int32))) - a) ^^^ x)]) rfl ?_
  exact Wp.reti rfl rfl ((hQ k1 f1 g1) k2 f2 g2)
set_option maxHeartbeats 4000000 in
theorem r281_20 {d : Nat} {Q : KO → Prop} {h : KH} (hw : WF h) {L : List Int32} {v : Nat} {a x : Int32} (s : rsO h L false v 2 a) (hl : L.length + 1 ≤ 30) (e0 : a - Int32.ofNat v = 0) (hd : 2 ≤ d) (hQ0 : ∀ k, FA h k → rsO k (L ++ [12]) true v 2 a → Q (some (.int (0)), k)) : Cl d 281 [.ref 59, .int (Int32.ofNat v), .int x] h Q := by
  have hQ : ∀ k1, FA h k1 → rsO k1 (L ++ [12]) true v 2 a → (Q (some (.int (0)), k1)) := fun k1 f1 g1 => hQ0 k1 (f1) (rsO_app g1 rfl)
  refine Cl.of (ls := [some (.ref 59), some (.int (Int32.ofNat v)), some (.int (x)), none]) rfl rfl ?_
  refine Wp.seg 3 (pc1 := 3) (ls1 := [some (.ref 59), some (.int (Int32.ofNat v)), some (.int (x)), none]) (st1 := [.int (0), .int (Int32.ofNat v), .ref 59]) rfl ?_
  refine Wp.invV (d2 := 0) (as := [.ref 59, .int (Int32.ofNat v), .int (0)]) (r := []) (t := (11, 0)) rfl rfl rfl rfl (WF.t hw 59 rfl) rfl rfl ⟨rfl, rfl⟩ (by omega) (s_ofv hw (w := 0) rfl (by have := s.2.2.2.2.1; omega) s.2.2.2.2.2.1 ?_)
  show Wp d 281 6 [some (.ref 59), some (.int (Int32.ofNat v)), some (.int (x)), none] [.int (2)] h Q
  refine Wp.br (pc1 := 72) (st1 := []) rfl rfl ?_
  refine Wp.seg 3 (pc1 := 75) (ls1 := [some (.ref 59), some (.int (Int32.ofNat v)), some (.int (x)), none]) (st1 := [.int (x), .int (Int32.ofNat v), .ref 59]) rfl ?_
  refine Wp.invV (d2 := 1) (as := [.ref 59, .int (Int32.ofNat v), .int (x)]) (r := []) (t := (11, 0)) rfl rfl rfl rfl (WF.t hw 59 rfl) rfl rfl ⟨rfl, rfl⟩ (by omega) (r279_0 hw s (by first | omega | (simp only [List.length_append, List.length_cons, List.length_nil]; omega)) e0 (Nat.le_refl _) ?_)
  intro k1 f1 g1
  show Wp d 281 78 [some (.ref 59), some (.int (Int32.ofNat v)), some (.int (x)), none] [.int (0)] k1 Q
  exact Wp.reti rfl rfl (hQ k1 f1 g1)
set_option maxHeartbeats 4000000 in
theorem r282_20 {d : Nat} {Q : KO → Prop} {h : KH} (hw : WF h) {L : List Int32} {v : Nat} {a x : Int32} (s : rsO h L false v 2 a) (hl : L.length + 5 ≤ 30) (e0 : a - Int32.ofNat v = 0) (hd : 5 ≤ d) (hQ0 : ∀ k, FA h k → rsO k (L ++ [13, 30, 11, 10, 12]) true v 2 a → Q (some (.int (((((x ^^^ ((Int32.ofNat v) + (5 : Int32))) - a) ^^^ x) * (2 : Int32)) + (0 : Int32))), k)) : Cl d 282 [.ref 59, .int (Int32.ofNat v), .int x] h Q := by
  have hQ : ∀ k1, FA h k1 → rsO k1 (L ++ [13]) false v 2 a → (∀ k2, FA k1 k2 → rsO k2 ((L ++ [13]) ++ [30, 11, 10]) false v 2 a → (∀ k3, FA k2 k3 → rsO k3 (((L ++ [13]) ++ [30, 11, 10]) ++ [12]) true v 2 a → (Q (some (.int (((((x ^^^ ((Int32.ofNat v) + (5 : Int32))) - a) ^^^ x) * (2 : Int32)) + (0 : Int32))), k3)))) := fun k1 f1 g1 k2 f2 g2 k3 f3 g3 => hQ0 k3 (((f1).trans f2).trans f3) (rsO_app g3 (by simp only [List.append_assoc, List.cons_append, List.nil_append]))
  refine Cl.of (ls := [some (.ref 59), some (.int (Int32.ofNat v)), some (.int (x)), none]) rfl rfl ?_
  refine Wp.seg 2 (pc1 := 3) (ls1 := [some (.ref 59), some (.int (Int32.ofNat v)), some (.int (x)), none]) (st1 := [.int (13), .ref 59]) rfl ?_
  refine Wp.invV (d2 := 0) (as := [.ref 59, .int (13)]) (r := []) (t := (11, 0)) rfl rfl rfl rfl (WF.t hw 59 rfl) rfl rfl ⟨rfl, rfl⟩ (by omega) (r_bg hw s (by first | omega | (simp only [List.length_append, List.length_cons, List.length_nil]; omega)) ?_)
  intro k1 f1 g1
  show Wp d 282 6 [some (.ref 59), some (.int (Int32.ofNat v)), some (.int (x)), none] [] k1 Q
  refine Wp.seg 3 (pc1 := 9) (ls1 := [some (.ref 59), some (.int (Int32.ofNat v)), some (.int (x)), none]) (st1 := [.int (x), .int (Int32.ofNat v), .ref 59]) rfl ?_
  refine Wp.invV (d2 := 4) (as := [.ref 59, .int (Int32.ofNat v), .int (x)]) (r := []) (t := (11, 0)) rfl rfl rfl rfl (WF.t (f1.wf hw) 59 rfl) rfl rfl ⟨rfl, rfl⟩ (by omega) (r278_2 (f1.wf hw) g1 (by first | omega | (simp only [List.length_append, List.length_cons, List.length_nil]; omega)) (Nat.le_refl _) ?_)
  intro k2 f2 g2
  show Wp d 282 12 [some (.ref 59), some (.int (Int32.ofNat v)), some (.int (x)), none] [.int (((x ^^^ ((Int32.ofNat v) + (5 : Int32))) - a) ^^^ x)] k2 Q
  refine Wp.seg 7 (pc1 := 19) (ls1 := [some (.ref 59), some (.int (Int32.ofNat v)), some (.int (x)), some (.int ((((x ^^^ ((Int32.ofNat v) + (5 : Int32))) - a) ^^^ x) * (2 : Int32)))]) (st1 := [.int (x), .int (Int32.ofNat v), .ref 59, .int ((((x ^^^ ((Int32.ofNat v) + (5 : Int32))) - a) ^^^ x) * (2 : Int32))]) rfl ?_
  refine Wp.invV (d2 := 2) (as := [.ref 59, .int (Int32.ofNat v), .int (x)]) (r := [.int ((((x ^^^ ((Int32.ofNat v) + (5 : Int32))) - a) ^^^ x) * (2 : Int32))]) (t := (11, 0)) rfl rfl rfl rfl (WF.t (f2.wf (f1.wf hw)) 59 rfl) rfl rfl ⟨rfl, rfl⟩ (by omega) (r281_20 (f2.wf (f1.wf hw)) g2 (by first | omega | (simp only [List.length_append, List.length_cons, List.length_nil]; omega)) e0 (Nat.le_refl _) ?_)
  intro k3 f3 g3
  show Wp d 282 22 [some (.ref 59), some (.int (Int32.ofNat v)), some (.int (x)), some (.int ((((x ^^^ ((Int32.ofNat v) + (5 : Int32))) - a) ^^^ x) * (2 : Int32)))] [.int (0), .int ((((x ^^^ ((Int32.ofNat v) + (5 : Int32))) - a) ^^^ x) * (2 : Int32))] k3 Q
  refine Wp.seg 1 (pc1 := 23) (ls1 := [some (.ref 59), some (.int (Int32.ofNat v)), some (.int (x)), some (.int ((((x ^^^ ((Int32.ofNat v) + (5 : Int32))) - a) ^^^ x) * (2 : Int32)))]) (st1 := [.int (((((x ^^^ ((Int32.ofNat v) + (5 : Int32))) - a) ^^^ x) * (2 : Int32)) + (0 : Int32))]) rfl ?_
  exact Wp.reti rfl rfl (((hQ k1 f1 g1) k2 f2 g2) k3 f3 g3)
set_option maxHeartbeats 4000000 in
theorem r283_20 {d : Nat} {Q : KO → Prop} {h : KH} (hw : WF h) {L : List Int32} {v : Nat} {a x : Int32} (s : rsO h L false v 2 a) (hl : L.length + 5 ≤ 30) (e0 : a - Int32.ofNat v = 0) (hd : 6 ≤ d) (hQ0 : ∀ k, FA h k → rsO k (L ++ [13, 30, 11, 10, 12]) true v 2 a → Q (some (.int (((((x ^^^ ((Int32.ofNat v) + (5 : Int32))) - a) ^^^ x) * (2 : Int32)) + (0 : Int32))), k)) : Cl d 283 [.ref 59, .int (Int32.ofNat v), .int x] h Q := by
  have hQ : ∀ k1, FA h k1 → rsO k1 (L ++ [13, 30, 11, 10, 12]) true v 2 a → (Q (some (.int (((((x ^^^ ((Int32.ofNat v) + (5 : Int32))) - a) ^^^ x) * (2 : Int32)) + (0 : Int32))), k1)) := fun k1 f1 g1 => hQ0 k1 (f1) (rsO_app g1 rfl)
  refine Cl.of (ls := [some (.ref 59), some (.int (Int32.ofNat v)), some (.int (x)), none]) rfl rfl ?_
  refine Wp.seg 3 (pc1 := 3) (ls1 := [some (.ref 59), some (.int (Int32.ofNat v)), some (.int (x)), none]) (st1 := [.int (0), .int (Int32.ofNat v), .ref 59]) rfl ?_
  refine Wp.invV (d2 := 0) (as := [.ref 59, .int (Int32.ofNat v), .int (0)]) (r := []) (t := (11, 0)) rfl rfl rfl rfl (WF.t hw 59 rfl) rfl rfl ⟨rfl, rfl⟩ (by omega) (s_ofv hw (w := 0) rfl (by have := s.2.2.2.2.1; omega) s.2.2.2.2.2.1 ?_)
  show Wp d 283 6 [some (.ref 59), some (.int (Int32.ofNat v)), some (.int (x)), none] [.int (2)] h Q
  refine Wp.seg 1 (pc1 := 7) (ls1 := [some (.ref 59), some (.int (Int32.ofNat v)), some (.int (x)), none]) (st1 := [.int (3), .int (2)]) rfl ?_
  refine Wp.if2 rfl (fun c1 => absurd c1 (show ¬ ((2 : Int32) = (3 : Int32)) by decide)) (fun c1 => ?_)
  refine Wp.seg 3 (pc1 := 13) (ls1 := [some (.ref 59), some (.int (Int32.ofNat v)), some (.int (x)), none]) (st1 := [.int (x), .int (Int32.ofNat v), .ref 59]) rfl ?_
  refine Wp.invV (d2 := 5) (as := [.ref 59, .int (Int32.ofNat v), .int (x)]) (r := []) (t := (11, 0)) rfl rfl rfl rfl (WF.t hw 59 rfl) rfl rfl ⟨rfl, rfl⟩ (by omega) (r282_20 hw s (by first | omega | (simp only [List.length_append, List.length_cons, List.length_nil]; omega)) e0 (Nat.le_refl _) ?_)
  intro k1 f1 g1
  show Wp d 283 16 [some (.ref 59), some (.int (Int32.ofNat v)), some (.int (x)), none] [.int (((((x ^^^ ((Int32.ofNat v) + (5 : Int32))) - a) ^^^ x) * (2 : Int32)) + (0 : Int32))] k1 Q
  exact Wp.reti rfl rfl (hQ k1 f1 g1)
set_option maxHeartbeats 4000000 in
theorem r281_21 {d : Nat} {Q : KO → Prop} {h : KH} (hw : WF h) {L : List Int32} {v : Nat} {a x : Int32} (s : rsO h L false v 2 a) (hl : L.length + 1 ≤ 30) (ne : ¬ a - Int32.ofNat v = 0) (hd : 2 ≤ d) (hQ0 : ∀ k, FA h k → rsO k (L ++ [12]) false v 2 a → Q (some (.int (x - x / (a - (Int32.ofNat v)) * (a - (Int32.ofNat v)))), k)) : Cl d 281 [.ref 59, .int (Int32.ofNat v), .int x] h Q := by
  have hQ : ∀ k1, FA h k1 → rsO k1 (L ++ [12]) false v 2 a → (Q (some (.int (x - x / (a - (Int32.ofNat v)) * (a - (Int32.ofNat v)))), k1)) := fun k1 f1 g1 => hQ0 k1 (f1) (rsO_app g1 rfl)
  refine Cl.of (ls := [some (.ref 59), some (.int (Int32.ofNat v)), some (.int (x)), none]) rfl rfl ?_
  refine Wp.seg 3 (pc1 := 3) (ls1 := [some (.ref 59), some (.int (Int32.ofNat v)), some (.int (x)), none]) (st1 := [.int (0), .int (Int32.ofNat v), .ref 59]) rfl ?_
  refine Wp.invV (d2 := 0) (as := [.ref 59, .int (Int32.ofNat v), .int (0)]) (r := []) (t := (11, 0)) rfl rfl rfl rfl (WF.t hw 59 rfl) rfl rfl ⟨rfl, rfl⟩ (by omega) (s_ofv hw (w := 0) rfl (by have := s.2.2.2.2.1; omega) s.2.2.2.2.2.1 ?_)
  show Wp d 281 6 [some (.ref 59), some (.int (Int32.ofNat v)), some (.int (x)), none] [.int (2)] h Q
  refine Wp.br (pc1 := 72) (st1 := []) rfl rfl ?_
  refine Wp.seg 3 (pc1 := 75) (ls1 := [some (.ref 59), some (.int (Int32.ofNat v)), some (.int (x)), none]) (st1 := [.int (x), .int (Int32.ofNat v), .ref 59]) rfl ?_
  refine Wp.invV (d2 := 1) (as := [.ref 59, .int (Int32.ofNat v), .int (x)]) (r := []) (t := (11, 0)) rfl rfl rfl rfl (WF.t hw 59 rfl) rfl rfl ⟨rfl, rfl⟩ (by omega) (r279_1 hw s (by first | omega | (simp only [List.length_append, List.length_cons, List.length_nil]; omega)) ne (Nat.le_refl _) ?_)
  intro k1 f1 g1
  show Wp d 281 78 [some (.ref 59), some (.int (Int32.ofNat v)), some (.int (x)), none] [.int (x - x / (a - (Int32.ofNat v)) * (a - (Int32.ofNat v)))] k1 Q
  exact Wp.reti rfl rfl (hQ k1 f1 g1)
set_option maxHeartbeats 4000000 in
theorem r282_21 {d : Nat} {Q : KO → Prop} {h : KH} (hw : WF h) {L : List Int32} {v : Nat} {a x : Int32} (s : rsO h L false v 2 a) (hl : L.length + 5 ≤ 30) (ne : ¬ a - Int32.ofNat v = 0) (hd : 5 ≤ d) (hQ0 : ∀ k, FA h k → rsO k (L ++ [13, 30, 11, 10, 12]) false v 2 a → Q (some (.int (((((x ^^^ ((Int32.ofNat v) + (5 : Int32))) - a) ^^^ x) * (2 : Int32)) + (x - x / (a - (Int32.ofNat v)) * (a - (Int32.ofNat v))))), k)) : Cl d 282 [.ref 59, .int (Int32.ofNat v), .int x] h Q := by
  have hQ : ∀ k1, FA h k1 → rsO k1 (L ++ [13]) false v 2 a → (∀ k2, FA k1 k2 → rsO k2 ((L ++ [13]) ++ [30, 11, 10]) false v 2 a → (∀ k3, FA k2 k3 → rsO k3 (((L ++ [13]) ++ [30, 11, 10]) ++ [12]) false v 2 a → (Q (some (.int (((((x ^^^ ((Int32.ofNat v) + (5 : Int32))) - a) ^^^ x) * (2 : Int32)) + (x - x / (a - (Int32.ofNat v)) * (a - (Int32.ofNat v))))), k3)))) := fun k1 f1 g1 k2 f2 g2 k3 f3 g3 => hQ0 k3 (((f1).trans f2).trans f3) (rsO_app g3 (by simp only [List.append_assoc, List.cons_append, List.nil_append]))
  refine Cl.of (ls := [some (.ref 59), some (.int (Int32.ofNat v)), some (.int (x)), none]) rfl rfl ?_
  refine Wp.seg 2 (pc1 := 3) (ls1 := [some (.ref 59), some (.int (Int32.ofNat v)), some (.int (x)), none]) (st1 := [.int (13), .ref 59]) rfl ?_
  refine Wp.invV (d2 := 0) (as := [.ref 59, .int (13)]) (r := []) (t := (11, 0)) rfl rfl rfl rfl (WF.t hw 59 rfl) rfl rfl ⟨rfl, rfl⟩ (by omega) (r_bg hw s (by first | omega | (simp only [List.length_append, List.length_cons, List.length_nil]; omega)) ?_)
  intro k1 f1 g1
  show Wp d 282 6 [some (.ref 59), some (.int (Int32.ofNat v)), some (.int (x)), none] [] k1 Q
  refine Wp.seg 3 (pc1 := 9) (ls1 := [some (.ref 59), some (.int (Int32.ofNat v)), some (.int (x)), none]) (st1 := [.int (x), .int (Int32.ofNat v), .ref 59]) rfl ?_
  refine Wp.invV (d2 := 4) (as := [.ref 59, .int (Int32.ofNat v), .int (x)]) (r := []) (t := (11, 0)) rfl rfl rfl rfl (WF.t (f1.wf hw) 59 rfl) rfl rfl ⟨rfl, rfl⟩ (by omega) (r278_2 (f1.wf hw) g1 (by first | omega | (simp only [List.length_append, List.length_cons, List.length_nil]; omega)) (Nat.le_refl _) ?_)
  intro k2 f2 g2
  show Wp d 282 12 [some (.ref 59), some (.int (Int32.ofNat v)), some (.int (x)), none] [.int (((x ^^^ ((Int32.ofNat v) + (5 : Int32))) - a) ^^^ x)] k2 Q
  refine Wp.seg 7 (pc1 := 19) (ls1 := [some (.ref 59), some (.int (Int32.ofNat v)), some (.int (x)), some (.int ((((x ^^^ ((Int32.ofNat v) + (5 : Int32))) - a) ^^^ x) * (2 : Int32)))]) (st1 := [.int (x), .int (Int32.ofNat v), .ref 59, .int ((((x ^^^ ((Int32.ofNat v) + (5 : Int32))) - a) ^^^ x) * (2 : Int32))]) rfl ?_
  refine Wp.invV (d2 := 2) (as := [.ref 59, .int (Int32.ofNat v), .int (x)]) (r := [.int ((((x ^^^ ((Int32.ofNat v) + (5 : Int32))) - a) ^^^ x) * (2 : Int32))]) (t := (11, 0)) rfl rfl rfl rfl (WF.t (f2.wf (f1.wf hw)) 59 rfl) rfl rfl ⟨rfl, rfl⟩ (by omega) (r281_21 (f2.wf (f1.wf hw)) g2 (by first | omega | (simp only [List.length_append, List.length_cons, List.length_nil]; omega)) ne (Nat.le_refl _) ?_)
  intro k3 f3 g3
  show Wp d 282 22 [some (.ref 59), some (.int (Int32.ofNat v)), some (.int (x)), some (.int ((((x ^^^ ((Int32.ofNat v) + (5 : Int32))) - a) ^^^ x) * (2 : Int32)))] [.int (x - x / (a - (Int32.ofNat v)) * (a - (Int32.ofNat v))), .int ((((x ^^^ ((Int32.ofNat v) + (5 : Int32))) - a) ^^^ x) * (2 : Int32))] k3 Q
  refine Wp.seg 1 (pc1 := 23) (ls1 := [some (.ref 59), some (.int (Int32.ofNat v)), some (.int (x)), some (.int ((((x ^^^ ((Int32.ofNat v) + (5 : Int32))) - a) ^^^ x) * (2 : Int32)))]) (st1 := [.int (((((x ^^^ ((Int32.ofNat v) + (5 : Int32))) - a) ^^^ x) * (2 : Int32)) + (x - x / (a - (Int32.ofNat v)) * (a - (Int32.ofNat v))))]) rfl ?_
  exact Wp.reti rfl rfl (((hQ k1 f1 g1) k2 f2 g2) k3 f3 g3)
set_option maxHeartbeats 4000000 in
theorem r283_21 {d : Nat} {Q : KO → Prop} {h : KH} (hw : WF h) {L : List Int32} {v : Nat} {a x : Int32} (s : rsO h L false v 2 a) (hl : L.length + 5 ≤ 30) (ne : ¬ a - Int32.ofNat v = 0) (hd : 6 ≤ d) (hQ0 : ∀ k, FA h k → rsO k (L ++ [13, 30, 11, 10, 12]) false v 2 a → Q (some (.int (((((x ^^^ ((Int32.ofNat v) + (5 : Int32))) - a) ^^^ x) * (2 : Int32)) + (x - x / (a - (Int32.ofNat v)) * (a - (Int32.ofNat v))))), k)) : Cl d 283 [.ref 59, .int (Int32.ofNat v), .int x] h Q := by
  have hQ : ∀ k1, FA h k1 → rsO k1 (L ++ [13, 30, 11, 10, 12]) false v 2 a → (Q (some (.int (((((x ^^^ ((Int32.ofNat v) + (5 : Int32))) - a) ^^^ x) * (2 : Int32)) + (x - x / (a - (Int32.ofNat v)) * (a - (Int32.ofNat v))))), k1)) := fun k1 f1 g1 => hQ0 k1 (f1) (rsO_app g1 rfl)
  refine Cl.of (ls := [some (.ref 59), some (.int (Int32.ofNat v)), some (.int (x)), none]) rfl rfl ?_
  refine Wp.seg 3 (pc1 := 3) (ls1 := [some (.ref 59), some (.int (Int32.ofNat v)), some (.int (x)), none]) (st1 := [.int (0), .int (Int32.ofNat v), .ref 59]) rfl ?_
  refine Wp.invV (d2 := 0) (as := [.ref 59, .int (Int32.ofNat v), .int (0)]) (r := []) (t := (11, 0)) rfl rfl rfl rfl (WF.t hw 59 rfl) rfl rfl ⟨rfl, rfl⟩ (by omega) (s_ofv hw (w := 0) rfl (by have := s.2.2.2.2.1; omega) s.2.2.2.2.2.1 ?_)
  show Wp d 283 6 [some (.ref 59), some (.int (Int32.ofNat v)), some (.int (x)), none] [.int (2)] h Q
  refine Wp.seg 1 (pc1 := 7) (ls1 := [some (.ref 59), some (.int (Int32.ofNat v)), some (.int (x)), none]) (st1 := [.int (3), .int (2)]) rfl ?_
  refine Wp.if2 rfl (fun c1 => absurd c1 (show ¬ ((2 : Int32) = (3 : Int32)) by decide)) (fun c1 => ?_)
  refine Wp.seg 3 (pc1 := 13) (ls1 := [some (.ref 59), some (.int (Int32.ofNat v)), some (.int (x)), none]) (st1 := [.int (x), .int (Int32.ofNat v), .ref 59]) rfl ?_
  refine Wp.invV (d2 := 5) (as := [.ref 59, .int (Int32.ofNat v), .int (x)]) (r := []) (t := (11, 0)) rfl rfl rfl rfl (WF.t hw 59 rfl) rfl rfl ⟨rfl, rfl⟩ (by omega) (r282_21 hw s (by first | omega | (simp only [List.length_append, List.length_cons, List.length_nil]; omega)) ne (Nat.le_refl _) ?_)
  intro k1 f1 g1
  show Wp d 283 16 [some (.ref 59), some (.int (Int32.ofNat v)), some (.int (x)), none] [.int (((((x ^^^ ((Int32.ofNat v) + (5 : Int32))) - a) ^^^ x) * (2 : Int32)) + (x - x / (a - (Int32.ofNat v)) * (a - (Int32.ofNat v))))] k1 Q
  exact Wp.reti rfl rfl (hQ k1 f1 g1)
set_option maxHeartbeats 4000000 in
theorem r276_3 {d : Nat} {Q : KO → Prop} {h : KH} (hw : WF h) {L : List Int32} {v : Nat} {a x : Int32} (s : rsO h L false v 3 a) (hl : L.length + 2 ≤ 30) (hd : 2 ≤ d) (hQ0 : ∀ k, FA h k → rsO k (L ++ [50, 10]) false v 3 a → Q (some (.int ((x + (Int32.ofNat v)) ^^^ ((Int32.ofNat v) + (5 : Int32)))), k)) : Cl d 276 [.ref 59, .int (Int32.ofNat v), .int x] h Q := by
  have hQ : ∀ k1, FA h k1 → rsO k1 (L ++ [50]) false v 3 a → (∀ k2, FA k1 k2 → rsO k2 ((L ++ [50]) ++ [10]) false v 3 a → (Q (some (.int ((x + (Int32.ofNat v)) ^^^ ((Int32.ofNat v) + (5 : Int32)))), k2))) := fun k1 f1 g1 k2 f2 g2 => hQ0 k2 ((f1).trans f2) (rsO_app g2 (by simp only [List.append_assoc, List.cons_append, List.nil_append]))
  refine Cl.of (ls := [some (.ref 59), some (.int (Int32.ofNat v)), some (.int (x))]) rfl rfl ?_
  refine Wp.seg 3 (pc1 := 3) (ls1 := [some (.ref 59), some (.int (Int32.ofNat v)), some (.int (x))]) (st1 := [.int (0), .int (Int32.ofNat v), .ref 59]) rfl ?_
  refine Wp.invV (d2 := 0) (as := [.ref 59, .int (Int32.ofNat v), .int (0)]) (r := []) (t := (11, 0)) rfl rfl rfl rfl (WF.t hw 59 rfl) rfl rfl ⟨rfl, rfl⟩ (by omega) (s_ofv hw (w := 0) rfl (by have := s.2.2.2.2.1; omega) s.2.2.2.2.2.1 ?_)
  show Wp d 276 6 [some (.ref 59), some (.int (Int32.ofNat v)), some (.int (x))] [.int (3)] h Q
  refine Wp.br (pc1 := 47) (st1 := []) rfl rfl ?_
  refine Wp.seg 2 (pc1 := 50) (ls1 := [some (.ref 59), some (.int (Int32.ofNat v)), some (.int (x))]) (st1 := [.int (50), .ref 59]) rfl ?_
  refine Wp.invV (d2 := 0) (as := [.ref 59, .int (50)]) (r := []) (t := (11, 0)) rfl rfl rfl rfl (WF.t hw 59 rfl) rfl rfl ⟨rfl, rfl⟩ (by omega) (r_bg hw s (by first | omega | (simp only [List.length_append, List.length_cons, List.length_nil]; omega)) ?_)
  intro k1 f1 g1
  show Wp d 276 53 [some (.ref 59), some (.int (Int32.ofNat v)), some (.int (x))] [] k1 Q
  refine Wp.seg 5 (pc1 := 58) (ls1 := [some (.ref 59), some (.int (Int32.ofNat v)), some (.int (x))]) (st1 := [.int (x + (Int32.ofNat v)), .int (Int32.ofNat v), .ref 59]) rfl ?_
  refine Wp.invV (d2 := 1) (as := [.ref 59, .int (Int32.ofNat v), .int (x + (Int32.ofNat v))]) (r := []) (t := (11, 0)) rfl rfl rfl rfl (WF.t (f1.wf hw) 59 rfl) rfl rfl ⟨rfl, rfl⟩ (by omega) (r275_ (f1.wf hw) g1 (by first | omega | (simp only [List.length_append, List.length_cons, List.length_nil]; omega)) (Nat.le_refl _) ?_)
  intro k2 f2 g2
  show Wp d 276 61 [some (.ref 59), some (.int (Int32.ofNat v)), some (.int (x))] [.int ((x + (Int32.ofNat v)) ^^^ ((Int32.ofNat v) + (5 : Int32)))] k2 Q
  exact Wp.reti rfl rfl ((hQ k1 f1 g1) k2 f2 g2)
set_option maxHeartbeats 4000000 in
theorem r277_3 {d : Nat} {Q : KO → Prop} {h : KH} (hw : WF h) {L : List Int32} {v : Nat} {a x : Int32} (s : rsO h L false v 3 a) (hl : L.length + 3 ≤ 30) (hd : 3 ≤ d) (hQ0 : ∀ k, FA h k → rsO k (L ++ [11, 50, 10]) false v 3 a → Q (some (.int (((x + (Int32.ofNat v)) ^^^ ((Int32.ofNat v) + (5 : Int32))) - a)), k)) : Cl d 277 [.ref 59, .int (Int32.ofNat v), .int x] h Q := by
  have hQ : ∀ k1, FA h k1 → rsO k1 (L ++ [11]) false v 3 a → (∀ k2, FA k1 k2 → rsO k2 ((L ++ [11]) ++ [50, 10]) false v 3 a → (Q (some (.int (((x + (Int32.ofNat v)) ^^^ ((Int32.ofNat v) + (5 : Int32))) - a)), k2))) := fun k1 f1 g1 k2 f2 g2 => hQ0 k2 ((f1).trans f2) (rsO_app g2 (by simp only [List.append_assoc, List.cons_append, List.nil_append]))
  refine Cl.of (ls := [some (.ref 59), some (.int (Int32.ofNat v)), some (.int (x))]) rfl rfl ?_
  refine Wp.seg 2 (pc1 := 3) (ls1 := [some (.ref 59), some (.int (Int32.ofNat v)), some (.int (x))]) (st1 := [.int (11), .ref 59]) rfl ?_
  refine Wp.invV (d2 := 0) (as := [.ref 59, .int (11)]) (r := []) (t := (11, 0)) rfl rfl rfl rfl (WF.t hw 59 rfl) rfl rfl ⟨rfl, rfl⟩ (by omega) (r_bg hw s (by first | omega | (simp only [List.length_append, List.length_cons, List.length_nil]; omega)) ?_)
  intro k1 f1 g1
  show Wp d 277 6 [some (.ref 59), some (.int (Int32.ofNat v)), some (.int (x))] [] k1 Q
  refine Wp.seg 3 (pc1 := 9) (ls1 := [some (.ref 59), some (.int (Int32.ofNat v)), some (.int (x))]) (st1 := [.int (x), .int (Int32.ofNat v), .ref 59]) rfl ?_
  refine Wp.invV (d2 := 2) (as := [.ref 59, .int (Int32.ofNat v), .int (x)]) (r := []) (t := (11, 0)) rfl rfl rfl rfl (WF.t (f1.wf hw) 59 rfl) rfl rfl ⟨rfl, rfl⟩ (by omega) (r276_3 (f1.wf hw) g1 (by first | omega | (simp only [List.length_append, List.length_cons, List.length_nil]; omega)) (Nat.le_refl _) ?_)
  intro k2 f2 g2
  show Wp d 277 12 [some (.ref 59), some (.int (Int32.ofNat v)), some (.int (x))] [.int ((x + (Int32.ofNat v)) ^^^ ((Int32.ofNat v) + (5 : Int32)))] k2 Q
  refine Wp.seg 3 (pc1 := 15) (ls1 := [some (.ref 59), some (.int (Int32.ofNat v)), some (.int (x))]) (st1 := [.int (3), .int (Int32.ofNat v), .ref 59, .int ((x + (Int32.ofNat v)) ^^^ ((Int32.ofNat v) + (5 : Int32)))]) rfl ?_
  refine Wp.invV (d2 := 0) (as := [.ref 59, .int (Int32.ofNat v), .int (3)]) (r := [.int ((x + (Int32.ofNat v)) ^^^ ((Int32.ofNat v) + (5 : Int32)))]) (t := (11, 0)) rfl rfl rfl rfl (WF.t (f2.wf (f1.wf hw)) 59 rfl) rfl rfl ⟨rfl, rfl⟩ (by omega) (s_ofv (f2.wf (f1.wf hw)) (w := 3) rfl (by have := g2.2.2.2.2.1; omega) g2.2.2.2.2.2.2 ?_)
  show Wp d 277 18 [some (.ref 59), some (.int (Int32.ofNat v)), some (.int (x))] [.int (a), .int ((x + (Int32.ofNat v)) ^^^ ((Int32.ofNat v) + (5 : Int32)))] k2 Q
  refine Wp.seg 1 (pc1 := 19) (ls1 := [some (.ref 59), some (.int (Int32.ofNat v)), some (.int (x))]) (st1 := [.int (((x + (Int32.ofNat v)) ^^^ ((Int32.ofNat v) + (5 : Int32))) - a)]) rfl ?_
  exact Wp.reti rfl rfl ((hQ k1 f1 g1) k2 f2 g2)
set_option maxHeartbeats 4000000 in
theorem r278_3 {d : Nat} {Q : KO → Prop} {h : KH} (hw : WF h) {L : List Int32} {v : Nat} {a x : Int32} (s : rsO h L false v 3 a) (hl : L.length + 4 ≤ 30) (hd : 4 ≤ d) (hQ0 : ∀ k, FA h k → rsO k (L ++ [30, 11, 50, 10]) false v 3 a → Q (some (.int ((((x + (Int32.ofNat v)) ^^^ ((Int32.ofNat v) + (5 : Int32))) - a) ^^^ x)), k)) : Cl d 278 [.ref 59, .int (Int32.ofNat v), .int x] h Q := by
  have hQ : ∀ k1, FA h k1 → rsO k1 (L ++ [30]) false v 3 a → (∀ k2, FA k1 k2 → rsO k2 ((L ++ [30]) ++ [11, 50, 10]) false v 3 a → (Q (some (.int ((((x + (Int32.ofNat v)) ^^^ ((Int32.ofNat v) + (5 : Int32))) - a) ^^^ x)), k2))) := fun k1 f1 g1 k2 f2 g2 => hQ0 k2 ((f1).trans f2) (rsO_app g2 (by simp only [List.append_assoc, List.cons_append, List.nil_append]))
  refine Cl.of (ls := [some (.ref 59), some (.int (Int32.ofNat v)), some (.int (x))]) rfl rfl ?_
  refine Wp.seg 3 (pc1 := 3) (ls1 := [some (.ref 59), some (.int (Int32.ofNat v)), some (.int (x))]) (st1 := [.int (0), .int (Int32.ofNat v), .ref 59]) rfl ?_
  refine Wp.invV (d2 := 0) (as := [.ref 59, .int (Int32.ofNat v), .int (0)]) (r := []) (t := (11, 0)) rfl rfl rfl rfl (WF.t hw 59 rfl) rfl rfl ⟨rfl, rfl⟩ (by omega) (s_ofv hw (w := 0) rfl (by have := s.2.2.2.2.1; omega) s.2.2.2.2.2.1 ?_)
  show Wp d 278 6 [some (.ref 59), some (.int (Int32.ofNat v)), some (.int (x))] [.int (3)] h Q
  refine Wp.br (pc1 := 36) (st1 := []) rfl rfl ?_
  refine Wp.seg 2 (pc1 := 39) (ls1 := [some (.ref 59), some (.int (Int32.ofNat v)), some (.int (x))]) (st1 := [.int (30), .ref 59]) rfl ?_
  refine Wp.invV (d2 := 0) (as := [.ref 59, .int (30)]) (r := []) (t := (11, 0)) rfl rfl rfl rfl (WF.t hw 59 rfl) rfl rfl ⟨rfl, rfl⟩ (by omega) (r_bg hw s (by first | omega | (simp only [List.length_append, List.length_cons, List.length_nil]; omega)) ?_)
  intro k1 f1 g1
  show Wp d 278 42 [some (.ref 59), some (.int (Int32.ofNat v)), some (.int (x))] [] k1 Q
  refine Wp.seg 3 (pc1 := 45) (ls1 := [some (.ref 59), some (.int (Int32.ofNat v)), some (.int (x))]) (st1 := [.int (x), .int (Int32.ofNat v), .ref 59]) rfl ?_
  refine Wp.invV (d2 := 3) (as := [.ref 59, .int (Int32.ofNat v), .int (x)]) (r := []) (t := (11, 0)) rfl rfl rfl rfl (WF.t (f1.wf hw) 59 rfl) rfl rfl ⟨rfl, rfl⟩ (by omega) (r277_3 (f1.wf hw) g1 (by first | omega | (simp only [List.length_append, List.length_cons, List.length_nil]; omega)) (Nat.le_refl _) ?_)
  intro k2 f2 g2
  show Wp d 278 48 [some (.ref 59), some (.int (Int32.ofNat v)), some (.int (x))] [.int (((x + (Int32.ofNat v)) ^^^ ((Int32.ofNat v) + (5 : Int32))) - a)] k2 Q
  refine Wp.seg 2 (pc1 := 50) (ls1 := [some (.ref 59), some (.int (Int32.ofNat v)), some (.int (x))]) (st1 := [.int ((((x + (Int32.ofNat v)) ^^^ ((Int32.ofNat v) + (5 : Int32))) - a) ^^^ x)]) rfl ?_
  exact Wp.reti rfl rfl ((hQ k1 f1 g1) k2 f2 g2)
set_option maxHeartbeats 4000000 in
theorem r281_30 {d : Nat} {Q : KO → Prop} {h : KH} (hw : WF h) {L : List Int32} {v : Nat} {a x : Int32} (s : rsO h L false v 3 a) (hl : L.length + 1 ≤ 30) (e0 : a - Int32.ofNat v = 0) (hd : 2 ≤ d) (hQ0 : ∀ k, FA h k → rsO k (L ++ [12]) true v 3 a → Q (some (.int (0)), k)) : Cl d 281 [.ref 59, .int (Int32.ofNat v), .int x] h Q := by
  have hQ : ∀ k1, FA h k1 → rsO k1 (L ++ [12]) true v 3 a → (Q (some (.int (0)), k1)) := fun k1 f1 g1 => hQ0 k1 (f1) (rsO_app g1 rfl)
  refine Cl.of (ls := [some (.ref 59), some (.int (Int32.ofNat v)), some (.int (x)), none]) rfl rfl ?_
  refine Wp.seg 3 (pc1 := 3) (ls1 := [some (.ref 59), some (.int (Int32.ofNat v)), some (.int (x)), none]) (st1 := [.int (0), .int (Int32.ofNat v), .ref 59]) rfl ?_
  refine Wp.invV (d2 := 0) (as := [.ref 59, .int (Int32.ofNat v), .int (0)]) (r := []) (t := (11, 0)) rfl rfl rfl rfl (WF.t hw 59 rfl) rfl rfl ⟨rfl, rfl⟩ (by omega) (s_ofv hw (w := 0) rfl (by have := s.2.2.2.2.1; omega) s.2.2.2.2.2.1 ?_)
  show Wp d 281 6 [some (.ref 59), some (.int (Int32.ofNat v)), some (.int (x)), none] [.int (3)] h Q
  refine Wp.br (pc1 := 72) (st1 := []) rfl rfl ?_
  refine Wp.seg 3 (pc1 := 75) (ls1 := [some (.ref 59), some (.int (Int32.ofNat v)), some (.int (x)), none]) (st1 := [.int (x), .int (Int32.ofNat v), .ref 59]) rfl ?_
  refine Wp.invV (d2 := 1) (as := [.ref 59, .int (Int32.ofNat v), .int (x)]) (r := []) (t := (11, 0)) rfl rfl rfl rfl (WF.t hw 59 rfl) rfl rfl ⟨rfl, rfl⟩ (by omega) (r279_0 hw s (by first | omega | (simp only [List.length_append, List.length_cons, List.length_nil]; omega)) e0 (Nat.le_refl _) ?_)
  intro k1 f1 g1
  show Wp d 281 78 [some (.ref 59), some (.int (Int32.ofNat v)), some (.int (x)), none] [.int (0)] k1 Q
  exact Wp.reti rfl rfl (hQ k1 f1 g1)
set_option maxHeartbeats 4000000 in
theorem r282_30 {d : Nat} {Q : KO → Prop} {h : KH} (hw : WF h) {L : List Int32} {v : Nat} {a x : Int32} (s : rsO h L false v 3 a) (hl : L.length + 6 ≤ 30) (e0 : a - Int32.ofNat v = 0) (hd : 5 ≤ d) (hQ0 : ∀ k, FA h k → rsO k (L ++ [13, 30, 11, 50, 10, 12]) true v 3 a → Q (some (.int ((((((x + (Int32.ofNat v)) ^^^ ((Int32.ofNat v) + (5 : Int32))) - a) ^^^ x) * (2 : Int32)) + (0 : Int32))), k)) : Cl d 282 [.ref 59, .int (Int32.ofNat v), .int x] h Q := by
  have hQ : ∀ k1, FA h k1 → rsO k1 (L ++ [13]) false v 3 a → (∀ k2, FA k1 k2 → rsO k2 ((L ++ [13]) ++ [30, 11, 50, 10]) false v 3 a → (∀ k3, FA k2 k3 → rsO k3 (((L ++ [13]) ++ [30, 11, 50, 10]) ++ [12]) true v 3 a → (Q (some (.int ((((((x + (Int32.ofNat v)) ^^^ ((Int32.ofNat v) + (5 : Int32))) - a) ^^^ x) * (2 : Int32)) + (0 : Int32))), k3)))) := fun k1 f1 g1 k2 f2 g2 k3 f3 g3 => hQ0 k3 (((f1).trans f2).trans f3) (rsO_app g3 (by simp only [List.append_assoc, List.cons_append, List.nil_append]))
  refine Cl.of (ls := [some (.ref 59), some (.int (Int32.ofNat v)), some (.int (x)), none]) rfl rfl ?_
  refine Wp.seg 2 (pc1 := 3) (ls1 := [some (.ref 59), some (.int (Int32.ofNat v)), some (.int (x)), none]) (st1 := [.int (13), .ref 59]) rfl ?_
  refine Wp.invV (d2 := 0) (as := [.ref 59, .int (13)]) (r := []) (t := (11, 0)) rfl rfl rfl rfl (WF.t hw 59 rfl) rfl rfl ⟨rfl, rfl⟩ (by omega) (r_bg hw s (by first | omega | (simp only [List.length_append, List.length_cons, List.length_nil]; omega)) ?_)
  intro k1 f1 g1
  show Wp d 282 6 [some (.ref 59), some (.int (Int32.ofNat v)), some (.int (x)), none] [] k1 Q
  refine Wp.seg 3 (pc1 := 9) (ls1 := [some (.ref 59), some (.int (Int32.ofNat v)), some (.int (x)), none]) (st1 := [.int (x), .int (Int32.ofNat v), .ref 59]) rfl ?_
  refine Wp.invV (d2 := 4) (as := [.ref 59, .int (Int32.ofNat v), .int (x)]) (r := []) (t := (11, 0)) rfl rfl rfl rfl (WF.t (f1.wf hw) 59 rfl) rfl rfl ⟨rfl, rfl⟩ (by omega) (r278_3 (f1.wf hw) g1 (by first | omega | (simp only [List.length_append, List.length_cons, List.length_nil]; omega)) (Nat.le_refl _) ?_)
  intro k2 f2 g2
  show Wp d 282 12 [some (.ref 59), some (.int (Int32.ofNat v)), some (.int (x)), none] [.int ((((x + (Int32.ofNat v)) ^^^ ((Int32.ofNat v) + (5 : Int32))) - a) ^^^ x)] k2 Q
  refine Wp.seg 7 (pc1 := 19) (ls1 := [some (.ref 59), some (.int (Int32.ofNat v)), some (.int (x)), some (.int (((((x + (Int32.ofNat v)) ^^^ ((Int32.ofNat v) + (5 : Int32))) - a) ^^^ x) * (2 : Int32)))]) (st1 := [.int (x), .int (Int32.ofNat v), .ref 59, .int (((((x + (Int32.ofNat v)) ^^^ ((Int32.ofNat v) + (5 : Int32))) - a) ^^^ x) * (2 : Int32))]) rfl ?_
  refine Wp.invV (d2 := 2) (as := [.ref 59, .int (Int32.ofNat v), .int (x)]) (r := [.int (((((x + (Int32.ofNat v)) ^^^ ((Int32.ofNat v) + (5 : Int32))) - a) ^^^ x) * (2 : Int32))]) (t := (11, 0)) rfl rfl rfl rfl (WF.t (f2.wf (f1.wf hw)) 59 rfl) rfl rfl ⟨rfl, rfl⟩ (by omega) (r281_30 (f2.wf (f1.wf hw)) g2 (by first | omega | (simp only [List.length_append, List.length_cons, List.length_nil]; omega)) e0 (Nat.le_refl _) ?_)
  intro k3 f3 g3
  show Wp d 282 22 [some (.ref 59), some (.int (Int32.ofNat v)), some (.int (x)), some (.int (((((x + (Int32.ofNat v)) ^^^ ((Int32.ofNat v) + (5 : Int32))) - a) ^^^ x) * (2 : Int32)))] [.int (0), .int (((((x + (Int32.ofNat v)) ^^^ ((Int32.ofNat v) + (5 : Int32))) - a) ^^^ x) * (2 : Int32))] k3 Q
  refine Wp.seg 1 (pc1 := 23) (ls1 := [some (.ref 59), some (.int (Int32.ofNat v)), some (.int (x)), some (.int (((((x + (Int32.ofNat v)) ^^^ ((Int32.ofNat v) + (5 : Int32))) - a) ^^^ x) * (2 : Int32)))]) (st1 := [.int ((((((x + (Int32.ofNat v)) ^^^ ((Int32.ofNat v) + (5 : Int32))) - a) ^^^ x) * (2 : Int32)) + (0 : Int32))]) rfl ?_
  exact Wp.reti rfl rfl (((hQ k1 f1 g1) k2 f2 g2) k3 f3 g3)
set_option maxHeartbeats 4000000 in
theorem r283_30 {d : Nat} {Q : KO → Prop} {h : KH} (hw : WF h) {L : List Int32} {v : Nat} {a x : Int32} (s : rsO h L false v 3 a) (hl : L.length + 7 ≤ 30) (e0 : a - Int32.ofNat v = 0) (hd : 6 ≤ d) (hQ0 : ∀ k, FA h k → rsO k (L ++ [51, 13, 30, 11, 50, 10, 12]) true v 3 a → Q (some (.int (0)), k)) : Cl d 283 [.ref 59, .int (Int32.ofNat v), .int x] h Q := by
  have hQ : ∀ k1, FA h k1 → rsO k1 (L ++ [51]) false v 3 a → (∀ k2, FA k1 k2 → rsO k2 ((L ++ [51]) ++ [13, 30, 11, 50, 10, 12]) true v 3 a → (Q (some (.int (0)), k2))) := fun k1 f1 g1 k2 f2 g2 => hQ0 k2 ((f1).trans f2) (rsO_app g2 (by simp only [List.append_assoc, List.cons_append, List.nil_append]))
  refine Cl.of (ls := [some (.ref 59), some (.int (Int32.ofNat v)), some (.int (x)), none]) rfl rfl ?_
  refine Wp.seg 3 (pc1 := 3) (ls1 := [some (.ref 59), some (.int (Int32.ofNat v)), some (.int (x)), none]) (st1 := [.int (0), .int (Int32.ofNat v), .ref 59]) rfl ?_
  refine Wp.invV (d2 := 0) (as := [.ref 59, .int (Int32.ofNat v), .int (0)]) (r := []) (t := (11, 0)) rfl rfl rfl rfl (WF.t hw 59 rfl) rfl rfl ⟨rfl, rfl⟩ (by omega) (s_ofv hw (w := 0) rfl (by have := s.2.2.2.2.1; omega) s.2.2.2.2.2.1 ?_)
  show Wp d 283 6 [some (.ref 59), some (.int (Int32.ofNat v)), some (.int (x)), none] [.int (3)] h Q
  refine Wp.seg 1 (pc1 := 7) (ls1 := [some (.ref 59), some (.int (Int32.ofNat v)), some (.int (x)), none]) (st1 := [.int (3), .int (3)]) rfl ?_
  refine Wp.if2 rfl (fun c1 => ?_) (fun c1 => absurd (show (3 : Int32) = (3 : Int32) by decide) c1)
  refine Wp.seg 2 (pc1 := 20) (ls1 := [some (.ref 59), some (.int (Int32.ofNat v)), some (.int (x)), none]) (st1 := [.int (51), .ref 59]) rfl ?_
  refine Wp.invV (d2 := 0) (as := [.ref 59, .int (51)]) (r := []) (t := (11, 0)) rfl rfl rfl rfl (WF.t hw 59 rfl) rfl rfl ⟨rfl, rfl⟩ (by omega) (r_bg hw s (by first | omega | (simp only [List.length_append, List.length_cons, List.length_nil]; omega)) ?_)
  intro k1 f1 g1
  show Wp d 283 23 [some (.ref 59), some (.int (Int32.ofNat v)), some (.int (x)), none] [] k1 Q
  refine Wp.seg 3 (pc1 := 26) (ls1 := [some (.ref 59), some (.int (Int32.ofNat v)), some (.int (x)), none]) (st1 := [.int (x), .int (Int32.ofNat v), .ref 59]) rfl ?_
  refine Wp.invV (d2 := 5) (as := [.ref 59, .int (Int32.ofNat v), .int (x)]) (r := []) (t := (11, 0)) rfl rfl rfl rfl (WF.t (f1.wf hw) 59 rfl) rfl rfl ⟨rfl, rfl⟩ (by omega) (r282_30 (f1.wf hw) g1 (by first | omega | (simp only [List.length_append, List.length_cons, List.length_nil]; omega)) e0 (Nat.le_refl _) ?_)
  intro k2 f2 g2
  show Wp d 283 29 [some (.ref 59), some (.int (Int32.ofNat v)), some (.int (x)), none] [.int ((((((x + (Int32.ofNat v)) ^^^ ((Int32.ofNat v) + (5 : Int32))) - a) ^^^ x) * (2 : Int32)) + (0 : Int32))] k2 Q
  refine Wp.seg 2 (pc1 := 31) (ls1 := [some (.ref 59), some (.int (Int32.ofNat v)), some (.int (x)), some (.int ((((((x + (Int32.ofNat v)) ^^^ ((Int32.ofNat v) + (5 : Int32))) - a) ^^^ x) * (2 : Int32)) + (0 : Int32)))]) (st1 := [.ref 59]) rfl ?_
  refine Wp.gi (t := (11, 0)) rfl (WF.t (f2.wf (f1.wf hw)) 59 rfl) (Or.inr rfl) ?_
  rw [show k2.2.2.1 59 30 = 1 from g2.2.2.2.1]
  refine Wp.if1 rfl (fun c2 => absurd c2 (show ¬ ((1 : Int32) = 0) by decide)) (fun c2 => ?_)
  refine Wp.seg 2 (pc1 := 54) (ls1 := [some (.ref 59), some (.int (Int32.ofNat v)), some (.int (x)), some (.int ((((((x + (Int32.ofNat v)) ^^^ ((Int32.ofNat v) + (5 : Int32))) - a) ^^^ x) * (2 : Int32)) + (0 : Int32)))]) (st1 := [.int (0)]) rfl ?_
  exact Wp.reti rfl rfl ((hQ k1 f1 g1) k2 f2 g2)
set_option maxHeartbeats 4000000 in
theorem r281_31 {d : Nat} {Q : KO → Prop} {h : KH} (hw : WF h) {L : List Int32} {v : Nat} {a x : Int32} (s : rsO h L false v 3 a) (hl : L.length + 1 ≤ 30) (ne : ¬ a - Int32.ofNat v = 0) (hd : 2 ≤ d) (hQ0 : ∀ k, FA h k → rsO k (L ++ [12]) false v 3 a → Q (some (.int (x - x / (a - (Int32.ofNat v)) * (a - (Int32.ofNat v)))), k)) : Cl d 281 [.ref 59, .int (Int32.ofNat v), .int x] h Q := by
  have hQ : ∀ k1, FA h k1 → rsO k1 (L ++ [12]) false v 3 a → (Q (some (.int (x - x / (a - (Int32.ofNat v)) * (a - (Int32.ofNat v)))), k1)) := fun k1 f1 g1 => hQ0 k1 (f1) (rsO_app g1 rfl)
  refine Cl.of (ls := [some (.ref 59), some (.int (Int32.ofNat v)), some (.int (x)), none]) rfl rfl ?_
  refine Wp.seg 3 (pc1 := 3) (ls1 := [some (.ref 59), some (.int (Int32.ofNat v)), some (.int (x)), none]) (st1 := [.int (0), .int (Int32.ofNat v), .ref 59]) rfl ?_
  refine Wp.invV (d2 := 0) (as := [.ref 59, .int (Int32.ofNat v), .int (0)]) (r := []) (t := (11, 0)) rfl rfl rfl rfl (WF.t hw 59 rfl) rfl rfl ⟨rfl, rfl⟩ (by omega) (s_ofv hw (w := 0) rfl (by have := s.2.2.2.2.1; omega) s.2.2.2.2.2.1 ?_)
  show Wp d 281 6 [some (.ref 59), some (.int (Int32.ofNat v)), some (.int (x)), none] [.int (3)] h Q
  refine Wp.br (pc1 := 72) (st1 := []) rfl rfl ?_
  refine Wp.seg 3 (pc1 := 75) (ls1 := [some (.ref 59), some (.int (Int32.ofNat v)), some (.int (x)), none]) (st1 := [.int (x), .int (Int32.ofNat v), .ref 59]) rfl ?_
  refine Wp.invV (d2 := 1) (as := [.ref 59, .int (Int32.ofNat v), .int (x)]) (r := []) (t := (11, 0)) rfl rfl rfl rfl (WF.t hw 59 rfl) rfl rfl ⟨rfl, rfl⟩ (by omega) (r279_1 hw s (by first | omega | (simp only [List.length_append, List.length_cons, List.length_nil]; omega)) ne (Nat.le_refl _) ?_)
  intro k1 f1 g1
  show Wp d 281 78 [some (.ref 59), some (.int (Int32.ofNat v)), some (.int (x)), none] [.int (x - x / (a - (Int32.ofNat v)) * (a - (Int32.ofNat v)))] k1 Q
  exact Wp.reti rfl rfl (hQ k1 f1 g1)
set_option maxHeartbeats 4000000 in
theorem r282_31 {d : Nat} {Q : KO → Prop} {h : KH} (hw : WF h) {L : List Int32} {v : Nat} {a x : Int32} (s : rsO h L false v 3 a) (hl : L.length + 6 ≤ 30) (ne : ¬ a - Int32.ofNat v = 0) (hd : 5 ≤ d) (hQ0 : ∀ k, FA h k → rsO k (L ++ [13, 30, 11, 50, 10, 12]) false v 3 a → Q (some (.int ((((((x + (Int32.ofNat v)) ^^^ ((Int32.ofNat v) + (5 : Int32))) - a) ^^^ x) * (2 : Int32)) + (x - x / (a - (Int32.ofNat v)) * (a - (Int32.ofNat v))))), k)) : Cl d 282 [.ref 59, .int (Int32.ofNat v), .int x] h Q := by
  have hQ : ∀ k1, FA h k1 → rsO k1 (L ++ [13]) false v 3 a → (∀ k2, FA k1 k2 → rsO k2 ((L ++ [13]) ++ [30, 11, 50, 10]) false v 3 a → (∀ k3, FA k2 k3 → rsO k3 (((L ++ [13]) ++ [30, 11, 50, 10]) ++ [12]) false v 3 a → (Q (some (.int ((((((x + (Int32.ofNat v)) ^^^ ((Int32.ofNat v) + (5 : Int32))) - a) ^^^ x) * (2 : Int32)) + (x - x / (a - (Int32.ofNat v)) * (a - (Int32.ofNat v))))), k3)))) := fun k1 f1 g1 k2 f2 g2 k3 f3 g3 => hQ0 k3 (((f1).trans f2).trans f3) (rsO_app g3 (by simp only [List.append_assoc, List.cons_append, List.nil_append]))
  refine Cl.of (ls := [some (.ref 59), some (.int (Int32.ofNat v)), some (.int (x)), none]) rfl rfl ?_
  refine Wp.seg 2 (pc1 := 3) (ls1 := [some (.ref 59), some (.int (Int32.ofNat v)), some (.int (x)), none]) (st1 := [.int (13), .ref 59]) rfl ?_
  refine Wp.invV (d2 := 0) (as := [.ref 59, .int (13)]) (r := []) (t := (11, 0)) rfl rfl rfl rfl (WF.t hw 59 rfl) rfl rfl ⟨rfl, rfl⟩ (by omega) (r_bg hw s (by first | omega | (simp only [List.length_append, List.length_cons, List.length_nil]; omega)) ?_)
  intro k1 f1 g1
  show Wp d 282 6 [some (.ref 59), some (.int (Int32.ofNat v)), some (.int (x)), none] [] k1 Q
  refine Wp.seg 3 (pc1 := 9) (ls1 := [some (.ref 59), some (.int (Int32.ofNat v)), some (.int (x)), none]) (st1 := [.int (x), .int (Int32.ofNat v), .ref 59]) rfl ?_
  refine Wp.invV (d2 := 4) (as := [.ref 59, .int (Int32.ofNat v), .int (x)]) (r := []) (t := (11, 0)) rfl rfl rfl rfl (WF.t (f1.wf hw) 59 rfl) rfl rfl ⟨rfl, rfl⟩ (by omega) (r278_3 (f1.wf hw) g1 (by first | omega | (simp only [List.length_append, List.length_cons, List.length_nil]; omega)) (Nat.le_refl _) ?_)
  intro k2 f2 g2
  show Wp d 282 12 [some (.ref 59), some (.int (Int32.ofNat v)), some (.int (x)), none] [.int ((((x + (Int32.ofNat v)) ^^^ ((Int32.ofNat v) + (5 : Int32))) - a) ^^^ x)] k2 Q
  refine Wp.seg 7 (pc1 := 19) (ls1 := [some (.ref 59), some (.int (Int32.ofNat v)), some (.int (x)), some (.int (((((x + (Int32.ofNat v)) ^^^ ((Int32.ofNat v) + (5 : Int32))) - a) ^^^ x) * (2 : Int32)))]) (st1 := [.int (x), .int (Int32.ofNat v), .ref 59, .int (((((x + (Int32.ofNat v)) ^^^ ((Int32.ofNat v) + (5 : Int32))) - a) ^^^ x) * (2 : Int32))]) rfl ?_
  refine Wp.invV (d2 := 2) (as := [.ref 59, .int (Int32.ofNat v), .int (x)]) (r := [.int (((((x + (Int32.ofNat v)) ^^^ ((Int32.ofNat v) + (5 : Int32))) - a) ^^^ x) * (2 : Int32))]) (t := (11, 0)) rfl rfl rfl rfl (WF.t (f2.wf (f1.wf hw)) 59 rfl) rfl rfl ⟨rfl, rfl⟩ (by omega) (r281_31 (f2.wf (f1.wf hw)) g2 (by first | omega | (simp only [List.length_append, List.length_cons, List.length_nil]; omega)) ne (Nat.le_refl _) ?_)
  intro k3 f3 g3
  show Wp d 282 22 [some (.ref 59), some (.int (Int32.ofNat v)), some (.int (x)), some (.int (((((x + (Int32.ofNat v)) ^^^ ((Int32.ofNat v) + (5 : Int32))) - a) ^^^ x) * (2 : Int32)))] [.int (x - x / (a - (Int32.ofNat v)) * (a - (Int32.ofNat v))), .int (((((x + (Int32.ofNat v)) ^^^ ((Int32.ofNat v) + (5 : Int32))) - a) ^^^ x) * (2 : Int32))] k3 Q
  refine Wp.seg 1 (pc1 := 23) (ls1 := [some (.ref 59), some (.int (Int32.ofNat v)), some (.int (x)), some (.int (((((x + (Int32.ofNat v)) ^^^ ((Int32.ofNat v) + (5 : Int32))) - a) ^^^ x) * (2 : Int32)))]) (st1 := [.int ((((((x + (Int32.ofNat v)) ^^^ ((Int32.ofNat v) + (5 : Int32))) - a) ^^^ x) * (2 : Int32)) + (x - x / (a - (Int32.ofNat v)) * (a - (Int32.ofNat v))))]) rfl ?_
  exact Wp.reti rfl rfl (((hQ k1 f1 g1) k2 f2 g2) k3 f3 g3)
set_option maxHeartbeats 4000000 in
theorem r283_31 {d : Nat} {Q : KO → Prop} {h : KH} (hw : WF h) {L : List Int32} {v : Nat} {a x : Int32} (s : rsO h L false v 3 a) (hl : L.length + 11 ≤ 30) (ne : ¬ a - Int32.ofNat v = 0) (hd : 6 ≤ d) (hQ0 : ∀ k, FA h k → rsO k (L ++ [51, 13, 30, 11, 50, 10, 12, 30, 11, 50, 10]) false v 3 a → Q (some (.int (((((((x + (Int32.ofNat v)) ^^^ ((Int32.ofNat v) + (5 : Int32))) - a) ^^^ x) * (2 : Int32)) + (x - x / (a - (Int32.ofNat v)) * (a - (Int32.ofNat v)))) - ((((a + (Int32.ofNat v)) ^^^ ((Int32.ofNat v) + (5 : Int32))) - a) ^^^ a))), k)) : Cl d 283 [.ref 59, .int (Int32.ofNat v), .int x] h Q := by
  have hQ : ∀ k1, FA h k1 → rsO k1 (L ++ [51]) false v 3 a → (∀ k2, FA k1 k2 → rsO k2 ((L ++ [51]) ++ [13, 30, 11, 50, 10, 12]) false v 3 a → (∀ k3, FA k2 k3 → rsO k3 (((L ++ [51]) ++ [13, 30, 11, 50, 10, 12]) ++ [30, 11, 50, 10]) false v 3 a → (Q (some (.int (((((((x + (Int32.ofNat v)) ^^^ ((Int32.ofNat v) + (5 : Int32))) - a) ^^^ x) * (2 : Int32)) + (x - x / (a - (Int32.ofNat v)) * (a - (Int32.ofNat v)))) - ((((a + (Int32.ofNat v)) ^^^ ((Int32.ofNat v) + (5 : Int32))) - a) ^^^ a))), k3)))) := fun k1 f1 g1 k2 f2 g2 k3 f3 g3 => hQ0 k3 (((f1).trans f2).trans f3) (rsO_app g3 (by simp only [List.append_assoc, List.cons_append, List.nil_append]))
  refine Cl.of (ls := [some (.ref 59), some (.int (Int32.ofNat v)), some (.int (x)), none]) rfl rfl ?_
  refine Wp.seg 3 (pc1 := 3) (ls1 := [some (.ref 59), some (.int (Int32.ofNat v)), some (.int (x)), none]) (st1 := [.int (0), .int (Int32.ofNat v), .ref 59]) rfl ?_
  refine Wp.invV (d2 := 0) (as := [.ref 59, .int (Int32.ofNat v), .int (0)]) (r := []) (t := (11, 0)) rfl rfl rfl rfl (WF.t hw 59 rfl) rfl rfl ⟨rfl, rfl⟩ (by omega) (s_ofv hw (w := 0) rfl (by have := s.2.2.2.2.1; omega) s.2.2.2.2.2.1 ?_)
  show Wp d 283 6 [some (.ref 59), some (.int (Int32.ofNat v)), some (.int (x)), none] [.int (3)] h Q
  refine Wp.seg 1 (pc1 := 7) (ls1 := [some (.ref 59), some (.int (Int32.ofNat v)), some (.int (x)), none]) (st1 := [.int (3), .int (3)]) rfl ?_
  refine Wp.if2 rfl (fun c1 => ?_) (fun c1 => absurd (show (3 : Int32) = (3 : Int32) by decide) c1)
  refine Wp.seg 2 (pc1 := 20) (ls1 := [some (.ref 59), some (.int (Int32.ofNat v)), some (.int (x)), none]) (st1 := [.int (51), .ref 59]) rfl ?_
  refine Wp.invV (d2 := 0) (as := [.ref 59, .int (51)]) (r := []) (t := (11, 0)) rfl rfl rfl rfl (WF.t hw 59 rfl) rfl rfl ⟨rfl, rfl⟩ (by omega) (r_bg hw s (by first | omega | (simp only [List.length_append, List.length_cons, List.length_nil]; omega)) ?_)
  intro k1 f1 g1
  show Wp d 283 23 [some (.ref 59), some (.int (Int32.ofNat v)), some (.int (x)), none] [] k1 Q
  refine Wp.seg 3 (pc1 := 26) (ls1 := [some (.ref 59), some (.int (Int32.ofNat v)), some (.int (x)), none]) (st1 := [.int (x), .int (Int32.ofNat v), .ref 59]) rfl ?_
  refine Wp.invV (d2 := 5) (as := [.ref 59, .int (Int32.ofNat v), .int (x)]) (r := []) (t := (11, 0)) rfl rfl rfl rfl (WF.t (f1.wf hw) 59 rfl) rfl rfl ⟨rfl, rfl⟩ (by omega) (r282_31 (f1.wf hw) g1 (by first | omega | (simp only [List.length_append, List.length_cons, List.length_nil]; omega)) ne (Nat.le_refl _) ?_)
  intro k2 f2 g2
  show Wp d 283 29 [some (.ref 59), some (.int (Int32.ofNat v)), some (.int (x)), none] [.int ((((((x + (Int32.ofNat v)) ^^^ ((Int32.ofNat v) + (5 : Int32))) - a) ^^^ x) * (2 : Int32)) + (x - x / (a - (Int32.ofNat v)) * (a - (Int32.ofNat v))))] k2 Q
  refine Wp.seg 2 (pc1 := 31) (ls1 := [some (.ref 59), some (.int (Int32.ofNat v)), some (.int (x)), some (.int ((((((x + (Int32.ofNat v)) ^^^ ((Int32.ofNat v) + (5 : Int32))) - a) ^^^ x) * (2 : Int32)) + (x - x / (a - (Int32.ofNat v)) * (a - (Int32.ofNat v)))))]) (st1 := [.ref 59]) rfl ?_
  refine Wp.gi (t := (11, 0)) rfl (WF.t (f2.wf (f1.wf hw)) 59 rfl) (Or.inr rfl) ?_
  rw [show k2.2.2.1 59 30 = 0 from g2.2.2.2.1]
  refine Wp.if1 rfl (fun c2 => ?_) (fun c2 => absurd (show (0 : Int32) = 0 by decide) c2)
  refine Wp.seg 6 (pc1 := 47) (ls1 := [some (.ref 59), some (.int (Int32.ofNat v)), some (.int (x)), some (.int ((((((x + (Int32.ofNat v)) ^^^ ((Int32.ofNat v) + (5 : Int32))) - a) ^^^ x) * (2 : Int32)) + (x - x / (a - (Int32.ofNat v)) * (a - (Int32.ofNat v)))))]) (st1 := [.int (3), .int (Int32.ofNat v), .ref 59, .int (Int32.ofNat v), .ref 59, .int ((((((x + (Int32.ofNat v)) ^^^ ((Int32.ofNat v) + (5 : Int32))) - a) ^^^ x) * (2 : Int32)) + (x - x / (a - (Int32.ofNat v)) * (a - (Int32.ofNat v))))]) rfl ?_
  refine Wp.invV (d2 := 0) (as := [.ref 59, .int (Int32.ofNat v), .int (3)]) (r := [.int (Int32.ofNat v), .ref 59, .int ((((((x + (Int32.ofNat v)) ^^^ ((Int32.ofNat v) + (5 : Int32))) - a) ^^^ x) * (2 : Int32)) + (x - x / (a - (Int32.ofNat v)) * (a - (Int32.ofNat v))))]) (t := (11, 0)) rfl rfl rfl rfl (WF.t (f2.wf (f1.wf hw)) 59 rfl) rfl rfl ⟨rfl, rfl⟩ (by omega) (s_ofv (f2.wf (f1.wf hw)) (w := 3) rfl (by have := g2.2.2.2.2.1; omega) g2.2.2.2.2.2.2 ?_)
  show Wp d 283 50 [some (.ref 59), some (.int (Int32.ofNat v)), some (.int (x)), some (.int ((((((x + (Int32.ofNat v)) ^^^ ((Int32.ofNat v) + (5 : Int32))) - a) ^^^ x) * (2 : Int32)) + (x - x / (a - (Int32.ofNat v)) * (a - (Int32.ofNat v)))))] [.int (a), .int (Int32.ofNat v), .ref 59, .int ((((((x + (Int32.ofNat v)) ^^^ ((Int32.ofNat v) + (5 : Int32))) - a) ^^^ x) * (2 : Int32)) + (x - x / (a - (Int32.ofNat v)) * (a - (Int32.ofNat v))))] k2 Q
  refine Wp.invV (d2 := 4) (as := [.ref 59, .int (Int32.ofNat v), .int (a)]) (r := [.int ((((((x + (Int32.ofNat v)) ^^^ ((Int32.ofNat v) + (5 : Int32))) - a) ^^^ x) * (2 : Int32)) + (x - x / (a - (Int32.ofNat v)) * (a - (Int32.ofNat v))))]) (t := (11, 0)) rfl rfl rfl rfl (WF.t (f2.wf (f1.wf hw)) 59 rfl) rfl rfl ⟨rfl, rfl⟩ (by omega) (r278_3 (f2.wf (f1.wf hw)) g2 (by first | omega | (simp only [List.length_append, List.length_cons, List.length_nil]; omega)) (Nat.le_refl _) ?_)
  intro k3 f3 g3
  show Wp d 283 53 [some (.ref 59), some (.int (Int32.ofNat v)), some (.int (x)), some (.int ((((((x + (Int32.ofNat v)) ^^^ ((Int32.ofNat v) + (5 : Int32))) - a) ^^^ x) * (2 : Int32)) + (x - x / (a - (Int32.ofNat v)) * (a - (Int32.ofNat v)))))] [.int ((((a + (Int32.ofNat v)) ^^^ ((Int32.ofNat v) + (5 : Int32))) - a) ^^^ a), .int ((((((x + (Int32.ofNat v)) ^^^ ((Int32.ofNat v) + (5 : Int32))) - a) ^^^ x) * (2 : Int32)) + (x - x / (a - (Int32.ofNat v)) * (a - (Int32.ofNat v))))] k3 Q
  refine Wp.seg 1 (pc1 := 54) (ls1 := [some (.ref 59), some (.int (Int32.ofNat v)), some (.int (x)), some (.int ((((((x + (Int32.ofNat v)) ^^^ ((Int32.ofNat v) + (5 : Int32))) - a) ^^^ x) * (2 : Int32)) + (x - x / (a - (Int32.ofNat v)) * (a - (Int32.ofNat v)))))]) (st1 := [.int (((((((x + (Int32.ofNat v)) ^^^ ((Int32.ofNat v) + (5 : Int32))) - a) ^^^ x) * (2 : Int32)) + (x - x / (a - (Int32.ofNat v)) * (a - (Int32.ofNat v)))) - ((((a + (Int32.ofNat v)) ^^^ ((Int32.ofNat v) + (5 : Int32))) - a) ^^^ a))]) rfl ?_
  exact Wp.reti rfl rfl (((hQ k1 f1 g1) k2 f2 g2) k3 f3 g3)
set_option maxHeartbeats 4000000 in
theorem r276_4 {d : Nat} {Q : KO → Prop} {h : KH} (hw : WF h) {L : List Int32} {v : Nat} {a x : Int32} (s : rsO h L false v 4 a) (hl : L.length + 1 ≤ 30) (hd : 2 ≤ d) (hQ0 : ∀ k, FA h k → rsO k (L ++ [10]) false v 4 a → Q (some (.int (x ^^^ ((Int32.ofNat v) + (5 : Int32)))), k)) : Cl d 276 [.ref 59, .int (Int32.ofNat v), .int x] h Q := by
  have hQ : ∀ k1, FA h k1 → rsO k1 (L ++ [10]) false v 4 a → (Q (some (.int (x ^^^ ((Int32.ofNat v) + (5 : Int32)))), k1)) := fun k1 f1 g1 => hQ0 k1 (f1) (rsO_app g1 rfl)
  refine Cl.of (ls := [some (.ref 59), some (.int (Int32.ofNat v)), some (.int (x))]) rfl rfl ?_
  refine Wp.seg 3 (pc1 := 3) (ls1 := [some (.ref 59), some (.int (Int32.ofNat v)), some (.int (x))]) (st1 := [.int (0), .int (Int32.ofNat v), .ref 59]) rfl ?_
  refine Wp.invV (d2 := 0) (as := [.ref 59, .int (Int32.ofNat v), .int (0)]) (r := []) (t := (11, 0)) rfl rfl rfl rfl (WF.t hw 59 rfl) rfl rfl ⟨rfl, rfl⟩ (by omega) (s_ofv hw (w := 0) rfl (by have := s.2.2.2.2.1; omega) s.2.2.2.2.2.1 ?_)
  show Wp d 276 6 [some (.ref 59), some (.int (Int32.ofNat v)), some (.int (x))] [.int (4)] h Q
  refine Wp.br (pc1 := 62) (st1 := []) rfl rfl ?_
  refine Wp.seg 3 (pc1 := 65) (ls1 := [some (.ref 59), some (.int (Int32.ofNat v)), some (.int (x))]) (st1 := [.int (x), .int (Int32.ofNat v), .ref 59]) rfl ?_
  refine Wp.invV (d2 := 1) (as := [.ref 59, .int (Int32.ofNat v), .int (x)]) (r := []) (t := (11, 0)) rfl rfl rfl rfl (WF.t hw 59 rfl) rfl rfl ⟨rfl, rfl⟩ (by omega) (r275_ hw s (by first | omega | (simp only [List.length_append, List.length_cons, List.length_nil]; omega)) (Nat.le_refl _) ?_)
  intro k1 f1 g1
  show Wp d 276 68 [some (.ref 59), some (.int (Int32.ofNat v)), some (.int (x))] [.int (x ^^^ ((Int32.ofNat v) + (5 : Int32)))] k1 Q
  exact Wp.reti rfl rfl (hQ k1 f1 g1)
set_option maxHeartbeats 4000000 in
theorem r277_4 {d : Nat} {Q : KO → Prop} {h : KH} (hw : WF h) {L : List Int32} {v : Nat} {a x : Int32} (s : rsO h L false v 4 a) (hl : L.length + 2 ≤ 30) (hd : 3 ≤ d) (hQ0 : ∀ k, FA h k → rsO k (L ++ [11, 10]) false v 4 a → Q (some (.int ((x ^^^ ((Int32.ofNat v) + (5 : Int32))) - a)), k)) : Cl d 277 [.ref 59, .int (Int32.ofNat v), .int x] h Q := by
  have hQ : ∀ k1, FA h k1 → rsO k1 (L ++ [11]) false v 4 a → (∀ k2, FA k1 k2 → rsO k2 ((L ++ [11]) ++ [10]) false v 4 a → (Q (some (.int ((x ^^^ ((Int32.ofNat v) + (5 : Int32))) - a)), k2))) := fun k1 f1 g1 k2 f2 g2 => hQ0 k2 ((f1).trans f2) (rsO_app g2 (by simp only [List.append_assoc, List.cons_append, List.nil_append]))
  refine Cl.of (ls := [some (.ref 59), some (.int (Int32.ofNat v)), some (.int (x))]) rfl rfl ?_
  refine Wp.seg 2 (pc1 := 3) (ls1 := [some (.ref 59), some (.int (Int32.ofNat v)), some (.int (x))]) (st1 := [.int (11), .ref 59]) rfl ?_
  refine Wp.invV (d2 := 0) (as := [.ref 59, .int (11)]) (r := []) (t := (11, 0)) rfl rfl rfl rfl (WF.t hw 59 rfl) rfl rfl ⟨rfl, rfl⟩ (by omega) (r_bg hw s (by first | omega | (simp only [List.length_append, List.length_cons, List.length_nil]; omega)) ?_)
  intro k1 f1 g1
  show Wp d 277 6 [some (.ref 59), some (.int (Int32.ofNat v)), some (.int (x))] [] k1 Q
  refine Wp.seg 3 (pc1 := 9) (ls1 := [some (.ref 59), some (.int (Int32.ofNat v)), some (.int (x))]) (st1 := [.int (x), .int (Int32.ofNat v), .ref 59]) rfl ?_
  refine Wp.invV (d2 := 2) (as := [.ref 59, .int (Int32.ofNat v), .int (x)]) (r := []) (t := (11, 0)) rfl rfl rfl rfl (WF.t (f1.wf hw) 59 rfl) rfl rfl ⟨rfl, rfl⟩ (by omega) (r276_4 (f1.wf hw) g1 (by first | omega | (simp only [List.length_append, List.length_cons, List.length_nil]; omega)) (Nat.le_refl _) ?_)
  intro k2 f2 g2
  show Wp d 277 12 [some (.ref 59), some (.int (Int32.ofNat v)), some (.int (x))] [.int (x ^^^ ((Int32.ofNat v) + (5 : Int32)))] k2 Q
  refine Wp.seg 3 (pc1 := 15) (ls1 := [some (.ref 59), some (.int (Int32.ofNat v)), some (.int (x))]) (st1 := [.int (3), .int (Int32.ofNat v), .ref 59, .int (x ^^^ ((Int32.ofNat v) + (5 : Int32)))]) rfl ?_
  refine Wp.invV (d2 := 0) (as := [.ref 59, .int (Int32.ofNat v), .int (3)]) (r := [.int (x ^^^ ((Int32.ofNat v) + (5 : Int32)))]) (t := (11, 0)) rfl rfl rfl rfl (WF.t (f2.wf (f1.wf hw)) 59 rfl) rfl rfl ⟨rfl, rfl⟩ (by omega) (s_ofv (f2.wf (f1.wf hw)) (w := 3) rfl (by have := g2.2.2.2.2.1; omega) g2.2.2.2.2.2.2 ?_)
  show Wp d 277 18 [some (.ref 59), some (.int (Int32.ofNat v)), some (.int (x))] [.int (a), .int (x ^^^ ((Int32.ofNat v) + (5 : Int32)))] k2 Q
  refine Wp.seg 1 (pc1 := 19) (ls1 := [some (.ref 59), some (.int (Int32.ofNat v)), some (.int (x))]) (st1 := [.int ((x ^^^ ((Int32.ofNat v) + (5 : Int32))) - a)]) rfl ?_
  exact Wp.reti rfl rfl ((hQ k1 f1 g1) k2 f2 g2)
set_option maxHeartbeats 4000000 in
theorem r278_4 {d : Nat} {Q : KO → Prop} {h : KH} (hw : WF h) {L : List Int32} {v : Nat} {a x : Int32} (s : rsO h L false v 4 a) (hl : L.length + 2 ≤ 30) (hd : 4 ≤ d) (hQ0 : ∀ k, FA h k → rsO k (L ++ [11, 10]) false v 4 a → Q (some (.int ((x ^^^ ((Int32.ofNat v) + (5 : Int32))) - a)), k)) : Cl d 278 [.ref 59, .int (Int32.ofNat v), .int x] h Q := by
  have hQ : ∀ k1, FA h k1 → rsO k1 (L ++ [11, 10]) false v 4 a → (Q (some (.int ((x ^^^ ((Int32.ofNat v) + (5 : Int32))) - a)), k1)) := fun k1 f1 g1 => hQ0 k1 (f1) (rsO_app g1 rfl)
  refine Cl.of (ls := [some (.ref 59), some (.int (Int32.ofNat v)), some (.int (x))]) rfl rfl ?_
  refine Wp.seg 3 (pc1 := 3) (ls1 := [some (.ref 59), some (.int (Int32.ofNat v)), some (.int (x))]) (st1 := [.int (0), .int (Int32.ofNat v), .ref 59]) rfl ?_
  refine Wp.invV (d2 := 0) (as := [.ref 59, .int (Int32.ofNat v), .int (0)]) (r := []) (t := (11, 0)) rfl rfl rfl rfl (WF.t hw 59 rfl) rfl rfl ⟨rfl, rfl⟩ (by omega) (s_ofv hw (w := 0) rfl (by have := s.2.2.2.2.1; omega) s.2.2.2.2.2.1 ?_)
  show Wp d 278 6 [some (.ref 59), some (.int (Int32.ofNat v)), some (.int (x))] [.int (4)] h Q
  refine Wp.br (pc1 := 66) (st1 := []) rfl rfl ?_
  refine Wp.seg 3 (pc1 := 69) (ls1 := [some (.ref 59), some (.int (Int32.ofNat v)), some (.int (x))]) (st1 := [.int (x), .int (Int32.ofNat v), .ref 59]) rfl ?_
  refine Wp.invV (d2 := 3) (as := [.ref 59, .int (Int32.ofNat v), .int (x)]) (r := []) (t := (11, 0)) rfl rfl rfl rfl (WF.t hw 59 rfl) rfl rfl ⟨rfl, rfl⟩ (by omega) (r277_4 hw s (by first | omega | (simp only [List.length_append, List.length_cons, List.length_nil]; omega)) (Nat.le_refl _) ?_)
  intro k1 f1 g1
  show Wp d 278 72 [some (.ref 59), some (.int (Int32.ofNat v)), some (.int (x))] [.int ((x ^^^ ((Int32.ofNat v) + (5 : Int32))) - a)] k1 Q
  exact Wp.reti rfl rfl (hQ k1 f1 g1)
set_option maxHeartbeats 4000000 in
theorem r281_40 {d : Nat} {Q : KO → Prop} {h : KH} (hw : WF h) {L : List Int32} {v : Nat} {a x : Int32} (s : rsO h L false v 4 a) (hl : L.length + 2 ≤ 30) (e0 : a - Int32.ofNat v = 0) (hd : 3 ≤ d) (hQ0 : ∀ k, FA h k → rsO k (L ++ [40, 12]) true v 4 a → Q (some (.int ((0 : Int32) - (Int32.ofNat v))), k)) : Cl d 281 [.ref 59, .int (Int32.ofNat v), .int x] h Q := by
  have hQ : ∀ k1, FA h k1 → rsO k1 (L ++ [40, 12]) true v 4 a → (Q (some (.int ((0 : Int32) - (Int32.ofNat v))), k1)) := fun k1 f1 g1 => hQ0 k1 (f1) (rsO_app g1 rfl)
  refine Cl.of (ls := [some (.ref 59), some (.int (Int32.ofNat v)), some (.int (x)), none]) rfl rfl ?_
  refine Wp.seg 3 (pc1 := 3) (ls1 := [some (.ref 59), some (.int (Int32.ofNat v)), some (.int (x)), none]) (st1 := [.int (0), .int (Int32.ofNat v), .ref 59]) rfl ?_
  refine Wp.invV (d2 := 0) (as := [.ref 59, .int (Int32.ofNat v), .int (0)]) (r := []) (t := (11, 0)) rfl rfl rfl rfl (WF.t hw 59 rfl) rfl rfl ⟨rfl, rfl⟩ (by omega) (s_ofv hw (w := 0) rfl (by have := s.2.2.2.2.1; omega) s.2.2.2.2.2.1 ?_)
  show Wp d 281 6 [some (.ref 59), some (.int (Int32.ofNat v)), some (.int (x)), none] [.int (4)] h Q
  refine Wp.br (pc1 := 32) (st1 := []) rfl rfl ?_
  refine Wp.seg 3 (pc1 := 35) (ls1 := [some (.ref 59), some (.int (Int32.ofNat v)), some (.int (x)), none]) (st1 := [.int (x), .int (Int32.ofNat v), .ref 59]) rfl ?_
  refine Wp.invV (d2 := 2) (as := [.ref 59, .int (Int32.ofNat v), .int (x)]) (r := []) (t := (11, 0)) rfl rfl rfl rfl (WF.t hw 59 rfl) rfl rfl ⟨rfl, rfl⟩ (by omega) (r280_0 hw s (by first | omega | (simp only [List.length_append, List.length_cons, List.length_nil]; omega)) e0 (Nat.le_refl _) ?_)
  intro k1 f1 g1
  show Wp d 281 38 [some (.ref 59), some (.int (Int32.ofNat v)), some (.int (x)), none] [.int ((0 : Int32) - (Int32.ofNat v))] k1 Q
  exact Wp.reti rfl rfl (hQ k1 f1 g1)
set_option maxHeartbeats 4000000 in
theorem r282_40 {d : Nat} {Q : KO → Prop} {h : KH} (hw : WF h) {L : List Int32} {v : Nat} {a x : Int32} (s : rsO h L false v 4 a) (hl : L.length + 5 ≤ 30) (e0 : a - Int32.ofNat v = 0) (hd : 5 ≤ d) (hQ0 : ∀ k, FA h k → rsO k (L ++ [13, 11, 10, 40, 12]) true v 4 a → Q (some (.int ((((x ^^^ ((Int32.ofNat v) + (5 : Int32))) - a) * (2 : Int32)) + ((0 : Int32) - (Int32.ofNat v)))), k)) : Cl d 282 [.ref 59, .int (Int32.ofNat v), .int x] h Q := by
  have hQ : ∀ k1, FA h k1 → rsO k1 (L ++ [13]) false v 4 a → (∀ k2, FA k1 k2 → rsO k2 ((L ++ [13]) ++ [11, 10]) false v 4 a → (∀ k3, FA k2 k3 → rsO k3 (((L ++ [13]) ++ [11, 10]) ++ [40, 12]) true v 4 a → (Q (some (.int ((((x ^^^ ((Int32.ofNat v) + (5 : Int32))) - a) * (2 : Int32)) + ((0 : Int32) - (Int32.ofNat v)))), k3)))) := fun k1 f1 g1 k2 f2 g2 k3 f3 g3 => hQ0 k3 (((f1).trans f2).trans f3) (rsO_app g3 (by simp only [List.append_assoc, List.cons_append, List.nil_append]))
  refine Cl.of (ls := [some (.ref 59), some (.int (Int32.ofNat v)), some (.int (x)), none]) rfl rfl ?_
  refine Wp.seg 2 (pc1 := 3) (ls1 := [some (.ref 59), some (.int (Int32.ofNat v)), some (.int (x)), none]) (st1 := [.int (13), .ref 59]) rfl ?_
  refine Wp.invV (d2 := 0) (as := [.ref 59, .int (13)]) (r := []) (t := (11, 0)) rfl rfl rfl rfl (WF.t hw 59 rfl) rfl rfl ⟨rfl, rfl⟩ (by omega) (r_bg hw s (by first | omega | (simp only [List.length_append, List.length_cons, List.length_nil]; omega)) ?_)
  intro k1 f1 g1
  show Wp d 282 6 [some (.ref 59), some (.int (Int32.ofNat v)), some (.int (x)), none] [] k1 Q
  refine Wp.seg 3 (pc1 := 9) (ls1 := [some (.ref 59), some (.int (Int32.ofNat v)), some (.int (x)), none]) (st1 := [.int (x), .int (Int32.ofNat v), .ref 59]) rfl ?_
  refine Wp.invV (d2 := 4) (as := [.ref 59, .int (Int32.ofNat v), .int (x)]) (r := []) (t := (11, 0)) rfl rfl rfl rfl (WF.t (f1.wf hw) 59 rfl) rfl rfl ⟨rfl, rfl⟩ (by omega) (r278_4 (f1.wf hw) g1 (by first | omega | (simp only [List.length_append, List.length_cons, List.length_nil]; omega)) (Nat.le_refl _) ?_)
  intro k2 f2 g2
  show Wp d 282 12 [some (.ref 59), some (.int (Int32.ofNat v)), some (.int (x)), none] [.int ((x ^^^ ((Int32.ofNat v) + (5 : Int32))) - a)] k2 Q
  refine Wp.seg 7 (pc1 := 19) (ls1 := [some (.ref 59), some (.int (Int32.ofNat v)), some (.int (x)), some (.int (((x ^^^ ((Int32.ofNat v) + (5 : Int32))) - a) * (2 : Int32)))]) (st1 := [.int (x), .int (Int32.ofNat v), .ref 59, .int (((x ^^^ ((Int32.ofNat v) + (5 : Int32))) - a) * (2 : Int32))]) rfl ?_
  refine Wp.invV (d2 := 3) (as := [.ref 59, .int (Int32.ofNat v), .int (x)]) (r := [.int (((x ^^^ ((Int32.ofNat v) + (5 : Int32))) - a) * (2 : Int32))]) (t := (11, 0)) rfl rfl rfl rfl (WF.t (f2.wf (f1.wf hw)) 59 rfl) rfl rfl ⟨rfl, rfl⟩ (by omega) (r281_40 (f2.wf (f1.wf hw)) g2 (by first | omega | (simp only [List.length_append, List.length_cons, List.length_nil]; omega)) e0 (Nat.le_refl _) ?_)
  intro k3 f3 g3
  show Wp d 282 22 [some (.ref 59), some (.int (Int32.ofNat v)), some (.int (x)), some (.int (((x ^^^ ((Int32.ofNat v) + (5 : Int32))) - a) * (2 : Int32)))] [.int ((0 : Int32) - (Int32.ofNat v)), .int (((x ^^^ ((Int32.ofNat v) + (5 : Int32))) - a) * (2 : Int32))] k3 Q
  refine Wp.seg 1 (pc1 := 23) (ls1 := [some (.ref 59), some (.int (Int32.ofNat v)), some (.int (x)), some (.int (((x ^^^ ((Int32.ofNat v) + (5 : Int32))) - a) * (2 : Int32)))]) (st1 := [.int ((((x ^^^ ((Int32.ofNat v) + (5 : Int32))) - a) * (2 : Int32)) + ((0 : Int32) - (Int32.ofNat v)))]) rfl ?_
  exact Wp.reti rfl rfl (((hQ k1 f1 g1) k2 f2 g2) k3 f3 g3)
set_option maxHeartbeats 4000000 in
theorem r283_40 {d : Nat} {Q : KO → Prop} {h : KH} (hw : WF h) {L : List Int32} {v : Nat} {a x : Int32} (s : rsO h L false v 4 a) (hl : L.length + 5 ≤ 30) (e0 : a - Int32.ofNat v = 0) (hd : 6 ≤ d) (hQ0 : ∀ k, FA h k → rsO k (L ++ [13, 11, 10, 40, 12]) true v 4 a → Q (some (.int ((((x ^^^ ((Int32.ofNat v) + (5 : Int32))) - a) * (2 : Int32)) + ((0 : Int32) - (Int32.ofNat v)))), k)) : Cl d 283 [.ref 59, .int (Int32.ofNat v), .int x] h Q := by
  have hQ : ∀ k1, FA h k1 → rsO k1 (L ++ [13, 11, 10, 40, 12]) true v 4 a → (Q (some (.int ((((x ^^^ ((Int32.ofNat v) + (5 : Int32))) - a) * (2 : Int32)) + ((0 : Int32) - (Int32.ofNat v)))), k1)) := fun k1 f1 g1 => hQ0 k1 (f1) (rsO_app g1 rfl)
  refine Cl.of (ls := [some (.ref 59), some (.int (Int32.ofNat v)), some (.int (x)), none]) rfl rfl ?_
  refine Wp.seg 3 (pc1 := 3) (ls1 := [some (.ref 59), some (.int (Int32.ofNat v)), some (.int (x)), none]) (st1 := [.int (0), .int (Int32.ofNat v), .ref 59]) rfl ?_
  refine Wp.invV (d2 := 0) (as := [.ref 59, .int (Int32.ofNat v), .int (0)]) (r := []) (t := (11, 0)) rfl rfl rfl rfl (WF.t hw 59 rfl) rfl rfl ⟨rfl, rfl⟩ (by omega) (s_ofv hw (w := 0) rfl (by have := s.2.2.2.2.1; omega) s.2.2.2.2.2.1 ?_)
  show Wp d 283 6 [some (.ref 59), some (.int (Int32.ofNat v)), some (.int (x)), none] [.int (4)] h Q
  refine Wp.seg 1 (pc1 := 7) (ls1 := [some (.ref 59), some (.int (Int32.ofNat v)), some (.int (x)), none]) (st1 := [.int (3), .int (4)]) rfl ?_
  refine Wp.if2 rfl (fun c1 => absurd c1 (show ¬ ((4 : Int32) = (3 : Int32)) by decide)) (fun c1 => ?_)
  refine Wp.seg 3 (pc1 := 13) (ls1 := [some (.ref 59), some (.int (Int32.ofNat v)), some (.int (x)), none]) (st1 := [.int (x), .int (Int32.ofNat v), .ref 59]) rfl ?_
  refine Wp.invV (d2 := 5) (as := [.ref 59, .int (Int32.ofNat v), .int (x)]) (r := []) (t := (11, 0)) rfl rfl rfl rfl (WF.t hw 59 rfl) rfl rfl ⟨rfl, rfl⟩ (by omega) (r282_40 hw s (by first | omega | (simp only [List.length_append, List.length_cons, List.length_nil]; omega)) e0 (Nat.le_refl _) ?_)
  intro k1 f1 g1
  show Wp d 283 16 [some (.ref 59), some (.int (Int32.ofNat v)), some (.int (x)), none] [.int ((((x ^^^ ((Int32.ofNat v) + (5 : Int32))) - a) * (2 : Int32)) + ((0 : Int32) - (Int32.ofNat v)))] k1 Q
  exact Wp.reti rfl rfl (hQ k1 f1 g1)
set_option maxHeartbeats 4000000 in
theorem r281_41 {d : Nat} {Q : KO → Prop} {h : KH} (hw : WF h) {L : List Int32} {v : Nat} {a x : Int32} (s : rsO h L false v 4 a) (hl : L.length + 2 ≤ 30) (ne : ¬ a - Int32.ofNat v = 0) (hd : 3 ≤ d) (hQ0 : ∀ k, FA h k → rsO k (L ++ [40, 12]) false v 4 a → Q (some (.int ((x - x / (a - (Int32.ofNat v)) * (a - (Int32.ofNat v))) - (Int32.ofNat v))), k)) : Cl d 281 [.ref 59, .int (Int32.ofNat v), .int x] h Q := by
  have hQ : ∀ k1, FA h k1 → rsO k1 (L ++ [40, 12]) false v 4 a → (Q (some (.int ((x - x / (a - (Int32.ofNat v)) * (a - (Int32.ofNat v))) - (Int32.ofNat v))), k1)) := fun k1 f1 g1 => hQ0 k1 (f1) (rsO_app g1 rfl)
  refine Cl.of (ls := [some (.ref 59), some (.int (Int32.ofNat v)), some (.int (x)), none]) rfl rfl ?_
  refine Wp.seg 3 (pc1 := 3) (ls1 := [some (.ref 59), some (.int (Int32.ofNat v)), some (.int (x)), none]) (st1 := [.int (0), .int (Int32.ofNat v), .ref 59]) rfl ?_
  refine Wp.invV (d2 := 0) (as := [.ref 59, .int (Int32.ofNat v), .int (0)]) (r := []) (t := (11, 0)) rfl rfl rfl rfl (WF.t hw 59 rfl) rfl rfl ⟨rfl, rfl⟩ (by omega) (s_ofv hw (w := 0) rfl (by have := s.2.2.2.2.1; omega) s.2.2.2.2.2.1 ?_)
  show Wp d 281 6 [some (.ref 59), some (.int (Int32.ofNat v)), some (.int (x)), none] [.int (4)] h Q
  refine Wp.br (pc1 := 32) (st1 := []) rfl rfl ?_
  refine Wp.seg 3 (pc1 := 35) (ls1 := [some (.ref 59), some (.int (Int32.ofNat v)), some (.int (x)), none]) (st1 := [.int (x), .int (Int32.ofNat v), .ref 59]) rfl ?_
  refine Wp.invV (d2 := 2) (as := [.ref 59, .int (Int32.ofNat v), .int (x)]) (r := []) (t := (11, 0)) rfl rfl rfl rfl (WF.t hw 59 rfl) rfl rfl ⟨rfl, rfl⟩ (by omega) (r280_1 hw s (by first | omega | (simp only [List.length_append, List.length_cons, List.length_nil]; omega)) ne (Nat.le_refl _) ?_)
  intro k1 f1 g1
  show Wp d 281 38 [some (.ref 59), some (.int (Int32.ofNat v)), some (.int (x)), none] [.int ((x - x / (a - (Int32.ofNat v)) * (a - (Int32.ofNat v))) - (Int32.ofNat v))] k1 Q
  exact Wp.reti rfl rfl (hQ k1 f1 g1)
set_option maxHeartbeats 4000000 in
theorem r282_41 {d : Nat} {Q : KO → Prop} {h : KH} (hw : WF h) {L : List Int32} {v : Nat} {a x : Int32} (s : rsO h L false v 4 a) (hl : L.length + 5 ≤ 30) (ne : ¬ a - Int32.ofNat v = 0) (hd : 5 ≤ d) (hQ0 : ∀ k, FA h k → rsO k (L ++ [13, 11, 10, 40, 12]) false v 4 a → Q (some (.int ((((x ^^^ ((Int32.ofNat v) + (5 : Int32))) - a) * (2 : Int32)) + ((x - x / (a - (Int32.ofNat v)) * (a - (Int32.ofNat v))) - (Int32.ofNat v)))), k)) : Cl d 282 [.ref 59, .int (Int32.ofNat v), .int x] h Q := by
  have hQ : ∀ k1, FA h k1 → rsO k1 (L ++ [13]) false v 4 a → (∀ k2, FA k1 k2 → rsO k2 ((L ++ [13]) ++ [11, 10]) false v 4 a → (∀ k3, FA k2 k3 → rsO k3 (((L ++ [13]) ++ [11, 10]) ++ [40, 12]) false v 4 a → (Q (some (.int ((((x ^^^ ((Int32.ofNat v) + (5 : Int32))) - a) * (2 : Int32)) + ((x - x / (a - (Int32.ofNat v)) * (a - (Int32.ofNat v))) - (Int32.ofNat v)))), k3)))) := fun k1 f1 g1 k2 f2 g2 k3 f3 g3 => hQ0 k3 (((f1).trans f2).trans f3) (rsO_app g3 (by simp only [List.append_assoc, List.cons_append, List.nil_append]))
  refine Cl.of (ls := [some (.ref 59), some (.int (Int32.ofNat v)), some (.int (x)), none]) rfl rfl ?_
  refine Wp.seg 2 (pc1 := 3) (ls1 := [some (.ref 59), some (.int (Int32.ofNat v)), some (.int (x)), none]) (st1 := [.int (13), .ref 59]) rfl ?_
  refine Wp.invV (d2 := 0) (as := [.ref 59, .int (13)]) (r := []) (t := (11, 0)) rfl rfl rfl rfl (WF.t hw 59 rfl) rfl rfl ⟨rfl, rfl⟩ (by omega) (r_bg hw s (by first | omega | (simp only [List.length_append, List.length_cons, List.length_nil]; omega)) ?_)
  intro k1 f1 g1
  show Wp d 282 6 [some (.ref 59), some (.int (Int32.ofNat v)), some (.int (x)), none] [] k1 Q
  refine Wp.seg 3 (pc1 := 9) (ls1 := [some (.ref 59), some (.int (Int32.ofNat v)), some (.int (x)), none]) (st1 := [.int (x), .int (Int32.ofNat v), .ref 59]) rfl ?_
  refine Wp.invV (d2 := 4) (as := [.ref 59, .int (Int32.ofNat v), .int (x)]) (r := []) (t := (11, 0)) rfl rfl rfl rfl (WF.t (f1.wf hw) 59 rfl) rfl rfl ⟨rfl, rfl⟩ (by omega) (r278_4 (f1.wf hw) g1 (by first | omega | (simp only [List.length_append, List.length_cons, List.length_nil]; omega)) (Nat.le_refl _) ?_)
  intro k2 f2 g2
  show Wp d 282 12 [some (.ref 59), some (.int (Int32.ofNat v)), some (.int (x)), none] [.int ((x ^^^ ((Int32.ofNat v) + (5 : Int32))) - a)] k2 Q
  refine Wp.seg 7 (pc1 := 19) (ls1 := [some (.ref 59), some (.int (Int32.ofNat v)), some (.int (x)), some (.int (((x ^^^ ((Int32.ofNat v) + (5 : Int32))) - a) * (2 : Int32)))]) (st1 := [.int (x), .int (Int32.ofNat v), .ref 59, .int (((x ^^^ ((Int32.ofNat v) + (5 : Int32))) - a) * (2 : Int32))]) rfl ?_
  refine Wp.invV (d2 := 3) (as := [.ref 59, .int (Int32.ofNat v), .int (x)]) (r := [.int (((x ^^^ ((Int32.ofNat v) + (5 : Int32))) - a) * (2 : Int32))]) (t := (11, 0)) rfl rfl rfl rfl (WF.t (f2.wf (f1.wf hw)) 59 rfl) rfl rfl ⟨rfl, rfl⟩ (by omega) (r281_41 (f2.wf (f1.wf hw)) g2 (by first | omega | (simp only [List.length_append, List.length_cons, List.length_nil]; omega)) ne (Nat.le_refl _) ?_)
  intro k3 f3 g3
  show Wp d 282 22 [some (.ref 59), some (.int (Int32.ofNat v)), some (.int (x)), some (.int (((x ^^^ ((Int32.ofNat v) + (5 : Int32))) - a) * (2 : Int32)))] [.int ((x - x / (a - (Int32.ofNat v)) * (a - (Int32.ofNat v))) - (Int32.ofNat v)), .int (((x ^^^ ((Int32.ofNat v) + (5 : Int32))) - a) * (2 : Int32))] k3 Q
  refine Wp.seg 1 (pc1 := 23) (ls1 := [some (.ref 59), some (.int (Int32.ofNat v)), some (.int (x)), some (.int (((x ^^^ ((Int32.ofNat v) + (5 : Int32))) - a) * (2 : Int32)))]) (st1 := [.int ((((x ^^^ ((Int32.ofNat v) + (5 : Int32))) - a) * (2 : Int32)) + ((x - x / (a - (Int32.ofNat v)) * (a - (Int32.ofNat v))) - (Int32.ofNat v)))]) rfl ?_
  exact Wp.reti rfl rfl (((hQ k1 f1 g1) k2 f2 g2) k3 f3 g3)
set_option maxHeartbeats 4000000 in
theorem r283_41 {d : Nat} {Q : KO → Prop} {h : KH} (hw : WF h) {L : List Int32} {v : Nat} {a x : Int32} (s : rsO h L false v 4 a) (hl : L.length + 5 ≤ 30) (ne : ¬ a - Int32.ofNat v = 0) (hd : 6 ≤ d) (hQ0 : ∀ k, FA h k → rsO k (L ++ [13, 11, 10, 40, 12]) false v 4 a → Q (some (.int ((((x ^^^ ((Int32.ofNat v) + (5 : Int32))) - a) * (2 : Int32)) + ((x - x / (a - (Int32.ofNat v)) * (a - (Int32.ofNat v))) - (Int32.ofNat v)))), k)) : Cl d 283 [.ref 59, .int (Int32.ofNat v), .int x] h Q := by
  have hQ : ∀ k1, FA h k1 → rsO k1 (L ++ [13, 11, 10, 40, 12]) false v 4 a → (Q (some (.int ((((x ^^^ ((Int32.ofNat v) + (5 : Int32))) - a) * (2 : Int32)) + ((x - x / (a - (Int32.ofNat v)) * (a - (Int32.ofNat v))) - (Int32.ofNat v)))), k1)) := fun k1 f1 g1 => hQ0 k1 (f1) (rsO_app g1 rfl)
  refine Cl.of (ls := [some (.ref 59), some (.int (Int32.ofNat v)), some (.int (x)), none]) rfl rfl ?_
  refine Wp.seg 3 (pc1 := 3) (ls1 := [some (.ref 59), some (.int (Int32.ofNat v)), some (.int (x)), none]) (st1 := [.int (0), .int (Int32.ofNat v), .ref 59]) rfl ?_
  refine Wp.invV (d2 := 0) (as := [.ref 59, .int (Int32.ofNat v), .int (0)]) (r := []) (t := (11, 0)) rfl rfl rfl rfl (WF.t hw 59 rfl) rfl rfl ⟨rfl, rfl⟩ (by omega) (s_ofv hw (w := 0) rfl (by have := s.2.2.2.2.1; omega) s.2.2.2.2.2.1 ?_)
  show Wp d 283 6 [some (.ref 59), some (.int (Int32.ofNat v)), some (.int (x)), none] [.int (4)] h Q
  refine Wp.seg 1 (pc1 := 7) (ls1 := [some (.ref 59), some (.int (Int32.ofNat v)), some (.int (x)), none]) (st1 := [.int (3), .int (4)]) rfl ?_
  refine Wp.if2 rfl (fun c1 => absurd c1 (show ¬ ((4 : Int32) = (3 : Int32)) by decide)) (fun c1 => ?_)
  refine Wp.seg 3 (pc1 := 13) (ls1 := [some (.ref 59), some (.int (Int32.ofNat v)), some (.int (x)), none]) (st1 := [.int (x), .int (Int32.ofNat v), .ref 59]) rfl ?_
  refine Wp.invV (d2 := 5) (as := [.ref 59, .int (Int32.ofNat v), .int (x)]) (r := []) (t := (11, 0)) rfl rfl rfl rfl (WF.t hw 59 rfl) rfl rfl ⟨rfl, rfl⟩ (by omega) (r282_41 hw s (by first | omega | (simp only [List.length_append, List.length_cons, List.length_nil]; omega)) ne (Nat.le_refl _) ?_)
  intro k1 f1 g1
  show Wp d 283 16 [some (.ref 59), some (.int (Int32.ofNat v)), some (.int (x)), none] [.int ((((x ^^^ ((Int32.ofNat v) + (5 : Int32))) - a) * (2 : Int32)) + ((x - x / (a - (Int32.ofNat v)) * (a - (Int32.ofNat v))) - (Int32.ofNat v)))] k1 Q
  exact Wp.reti rfl rfl (hQ k1 f1 g1)
set_option maxHeartbeats 4000000 in
theorem r276_5 {d : Nat} {Q : KO → Prop} {h : KH} (hw : WF h) {L : List Int32} {v : Nat} {a x : Int32} (s : rsO h L false v 5 a) (hl : L.length + 1 ≤ 30) (hd : 2 ≤ d) (hQ0 : ∀ k, FA h k → rsO k (L ++ [10]) false v 5 a → Q (some (.int (x ^^^ ((Int32.ofNat v) + (5 : Int32)))), k)) : Cl d 276 [.ref 59, .int (Int32.ofNat v), .int x] h Q := by
  have hQ : ∀ k1, FA h k1 → rsO k1 (L ++ [10]) false v 5 a → (Q (some (.int (x ^^^ ((Int32.ofNat v) + (5 : Int32)))), k1)) := fun k1 f1 g1 => hQ0 k1 (f1) (rsO_app g1 rfl)
  refine Cl.of (ls := [some (.ref 59), some (.int (Int32.ofNat v)), some (.int (x))]) rfl rfl ?_
  refine Wp.seg 3 (pc1 := 3) (ls1 := [some (.ref 59), some (.int (Int32.ofNat v)), some (.int (x))]) (st1 := [.int (0), .int (Int32.ofNat v), .ref 59]) rfl ?_
  refine Wp.invV (d2 := 0) (as := [.ref 59, .int (Int32.ofNat v), .int (0)]) (r := []) (t := (11, 0)) rfl rfl rfl rfl (WF.t hw 59 rfl) rfl rfl ⟨rfl, rfl⟩ (by omega) (s_ofv hw (w := 0) rfl (by have := s.2.2.2.2.1; omega) s.2.2.2.2.2.1 ?_)
  show Wp d 276 6 [some (.ref 59), some (.int (Int32.ofNat v)), some (.int (x))] [.int (5)] h Q
  refine Wp.br (pc1 := 62) (st1 := []) rfl rfl ?_
  refine Wp.seg 3 (pc1 := 65) (ls1 := [some (.ref 59), some (.int (Int32.ofNat v)), some (.int (x))]) (st1 := [.int (x), .int (Int32.ofNat v), .ref 59]) rfl ?_
  refine Wp.invV (d2 := 1) (as := [.ref 59, .int (Int32.ofNat v), .int (x)]) (r := []) (t := (11, 0)) rfl rfl rfl rfl (WF.t hw 59 rfl) rfl rfl ⟨rfl, rfl⟩ (by omega) (r275_ hw s (by first | omega | (simp only [List.length_append, List.length_cons, List.length_nil]; omega)) (Nat.le_refl _) ?_)
  intro k1 f1 g1
  show Wp d 276 68 [some (.ref 59), some (.int (Int32.ofNat v)), some (.int (x))] [.int (x ^^^ ((Int32.ofNat v) + (5 : Int32)))] k1 Q
  exact Wp.reti rfl rfl (hQ k1 f1 g1)
set_option maxHeartbeats 4000000 in
theorem r277_5 {d : Nat} {Q : KO → Prop} {h : KH} (hw : WF h) {L : List Int32} {v : Nat} {a x : Int32} (s : rsO h L false v 5 a) (hl : L.length + 2 ≤ 30) (hd : 3 ≤ d) (hQ0 : ∀ k, FA h k → rsO k (L ++ [11, 10]) false v 5 a → Q (some (.int ((x ^^^ ((Int32.ofNat v) + (5 : Int32))) - a)), k)) : Cl d 277 [.ref 59, .int (Int32.ofNat v), .int x] h Q := by
  have hQ : ∀ k1, FA h k1 → rsO k1 (L ++ [11]) false v 5 a → (∀ k2, FA k1 k2 → rsO k2 ((L ++ [11]) ++ [10]) false v 5 a → (Q (some (.int ((x ^^^ ((Int32.ofNat v) + (5 : Int32))) - a)), k2))) := fun k1 f1 g1 k2 f2 g2 => hQ0 k2 ((f1).trans f2) (rsO_app g2 (by simp only [List.append_assoc, List.cons_append, List.nil_append]))
  refine Cl.of (ls := [some (.ref 59), some (.int (Int32.ofNat v)), some (.int (x))]) rfl rfl ?_
  refine Wp.seg 2 (pc1 := 3) (ls1 := [some (.ref 59), some (.int (Int32.ofNat v)), some (.int (x))]) (st1 := [.int (11), .ref 59]) rfl ?_
  refine Wp.invV (d2 := 0) (as := [.ref 59, .int (11)]) (r := []) (t := (11, 0)) rfl rfl rfl rfl (WF.t hw 59 rfl) rfl rfl ⟨rfl, rfl⟩ (by omega) (r_bg hw s (by first | omega | (simp only [List.length_append, List.length_cons, List.length_nil]; omega)) ?_)
  intro k1 f1 g1
  show Wp d 277 6 [some (.ref 59), some (.int (Int32.ofNat v)), some (.int (x))] [] k1 Q
  refine Wp.seg 3 (pc1 := 9) (ls1 := [some (.ref 59), some (.int (Int32.ofNat v)), some (.int (x))]) (st1 := [.int (x), .int (Int32.ofNat v), .ref 59]) rfl ?_
  refine Wp.invV (d2 := 2) (as := [.ref 59, .int (Int32.ofNat v), .int (x)]) (r := []) (t := (11, 0)) rfl rfl rfl rfl (WF.t (f1.wf hw) 59 rfl) rfl rfl ⟨rfl, rfl⟩ (by omega) (r276_5 (f1.wf hw) g1 (by first | omega | (simp only [List.length_append, List.length_cons, List.length_nil]; omega)) (Nat.le_refl _) ?_)
  intro k2 f2 g2
  show Wp d 277 12 [some (.ref 59), some (.int (Int32.ofNat v)), some (.int (x))] [.int (x ^^^ ((Int32.ofNat v) + (5 : Int32)))] k2 Q
  refine Wp.seg 3 (pc1 := 15) (ls1 := [some (.ref 59), some (.int (Int32.ofNat v)), some (.int (x))]) (st1 := [.int (3), .int (Int32.ofNat v), .ref 59, .int (x ^^^ ((Int32.ofNat v) + (5 : Int32)))]) rfl ?_
  refine Wp.invV (d2 := 0) (as := [.ref 59, .int (Int32.ofNat v), .int (3)]) (r := [.int (x ^^^ ((Int32.ofNat v) + (5 : Int32)))]) (t := (11, 0)) rfl rfl rfl rfl (WF.t (f2.wf (f1.wf hw)) 59 rfl) rfl rfl ⟨rfl, rfl⟩ (by omega) (s_ofv (f2.wf (f1.wf hw)) (w := 3) rfl (by have := g2.2.2.2.2.1; omega) g2.2.2.2.2.2.2 ?_)
  show Wp d 277 18 [some (.ref 59), some (.int (Int32.ofNat v)), some (.int (x))] [.int (a), .int (x ^^^ ((Int32.ofNat v) + (5 : Int32)))] k2 Q
  refine Wp.seg 1 (pc1 := 19) (ls1 := [some (.ref 59), some (.int (Int32.ofNat v)), some (.int (x))]) (st1 := [.int ((x ^^^ ((Int32.ofNat v) + (5 : Int32))) - a)]) rfl ?_
  exact Wp.reti rfl rfl ((hQ k1 f1 g1) k2 f2 g2)
set_option maxHeartbeats 4000000 in
theorem r278_5 {d : Nat} {Q : KO → Prop} {h : KH} (hw : WF h) {L : List Int32} {v : Nat} {a x : Int32} (s : rsO h L false v 5 a) (hl : L.length + 3 ≤ 30) (hd : 4 ≤ d) (hQ0 : ∀ k, FA h k → rsO k (L ++ [60, 11, 10]) false v 5 a → Q (some (.int (((x ^^^ ((Int32.ofNat v) + (5 : Int32))) - a) * (3 : Int32))), k)) : Cl d 278 [.ref 59, .int (Int32.ofNat v), .int x] h Q := by
  have hQ : ∀ k1, FA h k1 → rsO k1 (L ++ [60]) false v 5 a → (∀ k2, FA k1 k2 → rsO k2 ((L ++ [60]) ++ [11, 10]) false v 5 a → (Q (some (.int (((x ^^^ ((Int32.ofNat v) + (5 : Int32))) - a) * (3 : Int32))), k2))) := fun k1 f1 g1 k2 f2 g2 => hQ0 k2 ((f1).trans f2) (rsO_app g2 (by simp only [List.append_assoc, List.cons_append, List.nil_append]))
  refine Cl.of (ls := [some (.ref 59), some (.int (Int32.ofNat v)), some (.int (x))]) rfl rfl ?_
  refine Wp.seg 3 (pc1 := 3) (ls1 := [some (.ref 59), some (.int (Int32.ofNat v)), some (.int (x))]) (st1 := [.int (0), .int (Int32.ofNat v), .ref 59]) rfl ?_
  refine Wp.invV (d2 := 0) (as := [.ref 59, .int (Int32.ofNat v), .int (0)]) (r := []) (t := (11, 0)) rfl rfl rfl rfl (WF.t hw 59 rfl) rfl rfl ⟨rfl, rfl⟩ (by omega) (s_ofv hw (w := 0) rfl (by have := s.2.2.2.2.1; omega) s.2.2.2.2.2.1 ?_)
  show Wp d 278 6 [some (.ref 59), some (.int (Int32.ofNat v)), some (.int (x))] [.int (5)] h Q
  refine Wp.br (pc1 := 51) (st1 := []) rfl rfl ?_
  refine Wp.seg 2 (pc1 := 54) (ls1 := [some (.ref 59), some (.int (Int32.ofNat v)), some (.int (x))]) (st1 := [.int (60), .ref 59]) rfl ?_
  refine Wp.invV (d2 := 0) (as := [.ref 59, .int (60)]) (r := []) (t := (11, 0)) rfl rfl rfl rfl (WF.t hw 59 rfl) rfl rfl ⟨rfl, rfl⟩ (by omega) (r_bg hw s (by first | omega | (simp only [List.length_append, List.length_cons, List.length_nil]; omega)) ?_)
  intro k1 f1 g1
  show Wp d 278 57 [some (.ref 59), some (.int (Int32.ofNat v)), some (.int (x))] [] k1 Q
  refine Wp.seg 3 (pc1 := 60) (ls1 := [some (.ref 59), some (.int (Int32.ofNat v)), some (.int (x))]) (st1 := [.int (x), .int (Int32.ofNat v), .ref 59]) rfl ?_
  refine Wp.invV (d2 := 3) (as := [.ref 59, .int (Int32.ofNat v), .int (x)]) (r := []) (t := (11, 0)) rfl rfl rfl rfl (WF.t (f1.wf hw) 59 rfl) rfl rfl ⟨rfl, rfl⟩ (by omega) (r277_5 (f1.wf hw) g1 (by first | omega | (simp only [List.length_append, List.length_cons, List.length_nil]; omega)) (Nat.le_refl _) ?_)
  intro k2 f2 g2
  show Wp d 278 63 [some (.ref 59), some (.int (Int32.ofNat v)), some (.int (x))] [.int ((x ^^^ ((Int32.ofNat v) + (5 : Int32))) - a)] k2 Q
  refine Wp.seg 2 (pc1 := 65) (ls1 := [some (.ref 59), some (.int (Int32.ofNat v)), some (.int (x))]) (st1 := [.int (((x ^^^ ((Int32.ofNat v) + (5 : Int32))) - a) * (3 : Int32))]) rfl ?_
  exact Wp.reti rfl rfl ((hQ k1 f1 g1) k2 f2 g2)
set_option maxHeartbeats 4000000 in
theorem r281_50 {d : Nat} {Q : KO → Prop} {h : KH} (hw : WF h) {L : List Int32} {v : Nat} {a x : Int32} (s : rsO h L false v 5 a) (hl : L.length + 3 ≤ 30) (e0 : a - Int32.ofNat v = 0) (hd : 3 ≤ d) (hQ0 : ∀ k, FA h k → rsO k (L ++ [61, 40, 12]) true v 5 a → Q (some (.int (0)), k)) : Cl d 281 [.ref 59, .int (Int32.ofNat v), .int x] h Q := by
  have hQ : ∀ k1, FA h k1 → rsO k1 (L ++ [61]) false v 5 a → (∀ k2, FA k1 k2 → rsO k2 ((L ++ [61]) ++ [40, 12]) true v 5 a → (Q (some (.int (0)), k2))) := fun k1 f1 g1 k2 f2 g2 => hQ0 k2 ((f1).trans f2) (rsO_app g2 (by simp only [List.append_assoc, List.cons_append, List.nil_append]))
  refine Cl.of (ls := [some (.ref 59), some (.int (Int32.ofNat v)), some (.int (x)), none]) rfl rfl ?_
  refine Wp.seg 3 (pc1 := 3) (ls1 := [some (.ref 59), some (.int (Int32.ofNat v)), some (.int (x)), none]) (st1 := [.int (0), .int (Int32.ofNat v), .ref 59]) rfl ?_
  refine Wp.invV (d2 := 0) (as := [.ref 59, .int (Int32.ofNat v), .int (0)]) (r := []) (t := (11, 0)) rfl rfl rfl rfl (WF.t hw 59 rfl) rfl rfl ⟨rfl, rfl⟩ (by omega) (s_ofv hw (w := 0) rfl (by have := s.2.2.2.2.1; omega) s.2.2.2.2.2.1 ?_)
  show Wp d 281 6 [some (.ref 59), some (.int (Int32.ofNat v)), some (.int (x)), none] [.int (5)] h Q
  refine Wp.br (pc1 := 39) (st1 := []) rfl rfl ?_
  refine Wp.seg 2 (pc1 := 42) (ls1 := [some (.ref 59), some (.int (Int32.ofNat v)), some (.int (x)), none]) (st1 := [.int (61), .ref 59]) rfl ?_
  refine Wp.invV (d2 := 0) (as := [.ref 59, .int (61)]) (r := []) (t := (11, 0)) rfl rfl rfl rfl (WF.t hw 59 rfl) rfl rfl ⟨rfl, rfl⟩ (by omega) (r_bg hw s (by first | omega | (simp only [List.length_append, List.length_cons, List.length_nil]; omega)) ?_)
  intro k1 f1 g1
  show Wp d 281 45 [some (.ref 59), some (.int (Int32.ofNat v)), some (.int (x)), none] [] k1 Q
  refine Wp.seg 3 (pc1 := 48) (ls1 := [some (.ref 59), some (.int (Int32.ofNat v)), some (.int (x)), none]) (st1 := [.int (x), .int (Int32.ofNat v), .ref 59]) rfl ?_
  refine Wp.invV (d2 := 2) (as := [.ref 59, .int (Int32.ofNat v), .int (x)]) (r := []) (t := (11, 0)) rfl rfl rfl rfl (WF.t (f1.wf hw) 59 rfl) rfl rfl ⟨rfl, rfl⟩ (by omega) (r280_0 (f1.wf hw) g1 (by first | omega | (simp only [List.length_append, List.length_cons, List.length_nil]; omega)) e0 (Nat.le_refl _) ?_)
  intro k2 f2 g2
  show Wp d 281 51 [some (.ref 59), some (.int (Int32.ofNat v)), some (.int (x)), none] [.int ((0 : Int32) - (Int32.ofNat v))] k2 Q
  refine Wp.seg 2 (pc1 := 53) (ls1 := [some (.ref 59), some (.int (Int32.ofNat v)), some (.int (x)), some (.int ((0 : Int32) - (Int32.ofNat v)))]) (st1 := [.ref 59]) rfl ?_
  refine Wp.gi (t := (11, 0)) rfl (WF.t (f2.wf (f1.wf hw)) 59 rfl) (Or.inr rfl) ?_
  rw [show k2.2.2.1 59 30 = 1 from g2.2.2.2.1]
  refine Wp.if1 rfl (fun c1 => absurd c1 (show ¬ ((1 : Int32) = 0) by decide)) (fun c1 => ?_)
  refine Wp.seg 2 (pc1 := 71) (ls1 := [some (.ref 59), some (.int (Int32.ofNat v)), some (.int (x)), some (.int ((0 : Int32) - (Int32.ofNat v)))]) (st1 := [.int (0)]) rfl ?_
  exact Wp.reti rfl rfl ((hQ k1 f1 g1) k2 f2 g2)
set_option maxHeartbeats 4000000 in
theorem r282_50 {d : Nat} {Q : KO → Prop} {h : KH} (hw : WF h) {L : List Int32} {v : Nat} {a x : Int32} (s : rsO h L false v 5 a) (hl : L.length + 7 ≤ 30) (e0 : a - Int32.ofNat v = 0) (hd : 5 ≤ d) (hQ0 : ∀ k, FA h k → rsO k (L ++ [13, 60, 11, 10, 61, 40, 12]) true v 5 a → Q (some (.int (((((x ^^^ ((Int32.ofNat v) + (5 : Int32))) - a) * (3 : Int32)) * (2 : Int32)) + (0 : Int32))), k)) : Cl d 282 [.ref 59, .int (Int32.ofNat v), .int x] h Q := by
  have hQ : ∀ k1, FA h k1 → rsO k1 (L ++ [13]) false v 5 a → (∀ k2, FA k1 k2 → rsO k2 ((L ++ [13]) ++ [60, 11, 10]) false v 5 a → (∀ k3, FA k2 k3 → rsO k3 (((L ++ [13]) ++ [60, 11, 10]) ++ [61, 40, 12]) true v 5 a → (Q (some (.int (((((x ^^^ ((Int32.ofNat v) + (5 : Int32))) - a) * (3 : Int32)) * (2 : Int32)) + (0 : Int32))), k3)))) := fun k1 f1 g1 k2 f2 g2 k3 f3 g3 => hQ0 k3 (((f1).trans f2).trans f3) (rsO_app g3 (by simp only [List.append_assoc, List.cons_append, List.nil_append]))
  refine Cl.of (ls := [some (.ref 59), some (.int (Int32.ofNat v)), some (.int (x)), none]) rfl rfl ?_
  refine Wp.seg 2 (pc1 := 3) (ls1 := [some (.ref 59), some (.int (Int32.ofNat v)), some (.int (x)), none]) (st1 := [.int (13), .ref 59]) rfl ?_
  refine Wp.invV (d2 := 0) (as := [.ref 59, .int (13)]) (r := []) (t := (11, 0)) rfl rfl rfl rfl (WF.t hw 59 rfl) rfl rfl ⟨rfl, rfl⟩ (by omega) (r_bg hw s (by first | omega | (simp only [List.length_append, List.length_cons, List.length_nil]; omega)) ?_)
  intro k1 f1 g1
  show Wp d 282 6 [some (.ref 59), some (.int (Int32.ofNat v)), some (.int (x)), none] [] k1 Q
  refine Wp.seg 3 (pc1 := 9) (ls1 := [some (.ref 59), some (.int (Int32.ofNat v)), some (.int (x)), none]) (st1 := [.int (x), .int (Int32.ofNat v), .ref 59]) rfl ?_
  refine Wp.invV (d2 := 4) (as := [.ref 59, .int (Int32.ofNat v), .int (x)]) (r := []) (t := (11, 0)) rfl rfl rfl rfl (WF.t (f1.wf hw) 59 rfl) rfl rfl ⟨rfl, rfl⟩ (by omega) (r278_5 (f1.wf hw) g1 (by first | omega | (simp only [List.length_append, List.length_cons, List.length_nil]; omega)) (Nat.le_refl _) ?_)
  intro k2 f2 g2
  show Wp d 282 12 [some (.ref 59), some (.int (Int32.ofNat v)), some (.int (x)), none] [.int (((x ^^^ ((Int32.ofNat v) + (5 : Int32))) - a) * (3 : Int32))] k2 Q
  refine Wp.seg 7 (pc1 := 19) (ls1 := [some (.ref 59), some (.int (Int32.ofNat v)), some (.int (x)), some (.int ((((x ^^^ ((Int32.ofNat v) + (5 : Int32))) - a) * (3 : Int32)) * (2 : Int32)))]) (st1 := [.int (x), .int (Int32.ofNat v), .ref 59, .int ((((x ^^^ ((Int32.ofNat v) + (5 : Int32))) - a) * (3 : Int32)) * (2 : Int32))]) rfl ?_
  refine Wp.invV (d2 := 3) (as := [.ref 59, .int (Int32.ofNat v), .int (x)]) (r := [.int ((((x ^^^ ((Int32.ofNat v) + (5 : Int32))) - a) * (3 : Int32)) * (2 : Int32))]) (t := (11, 0)) rfl rfl rfl rfl (WF.t (f2.wf (f1.wf hw)) 59 rfl) rfl rfl ⟨rfl, rfl⟩ (by omega) (r281_50 (f2.wf (f1.wf hw)) g2 (by first | omega | (simp only [List.length_append, List.length_cons, List.length_nil]; omega)) e0 (Nat.le_refl _) ?_)
  intro k3 f3 g3
  show Wp d 282 22 [some (.ref 59), some (.int (Int32.ofNat v)), some (.int (x)), some (.int ((((x ^^^ ((Int32.ofNat v) + (5 : Int32))) - a) * (3 : Int32)) * (2 : Int32)))] [.int (0), .int ((((x ^^^ ((Int32.ofNat v) + (5 : Int32))) - a) * (3 : Int32)) * (2 : Int32))] k3 Q
  refine Wp.seg 1 (pc1 := 23) (ls1 := [some (.ref 59), some (.int (Int32.ofNat v)), some (.int (x)), some (.int ((((x ^^^ ((Int32.ofNat v) + (5 : Int32))) - a) * (3 : Int32)) * (2 : Int32)))]) (st1 := [.int (((((x ^^^ ((Int32.ofNat v) + (5 : Int32))) - a) * (3 : Int32)) * (2 : Int32)) + (0 : Int32))]) rfl ?_
  exact Wp.reti rfl rfl (((hQ k1 f1 g1) k2 f2 g2) k3 f3 g3)
set_option maxHeartbeats 4000000 in
theorem r283_50 {d : Nat} {Q : KO → Prop} {h : KH} (hw : WF h) {L : List Int32} {v : Nat} {a x : Int32} (s : rsO h L false v 5 a) (hl : L.length + 7 ≤ 30) (e0 : a - Int32.ofNat v = 0) (hd : 6 ≤ d) (hQ0 : ∀ k, FA h k → rsO k (L ++ [13, 60, 11, 10, 61, 40, 12]) true v 5 a → Q (some (.int (((((x ^^^ ((Int32.ofNat v) + (5 : Int32))) - a) * (3 : Int32)) * (2 : Int32)) + (0 : Int32))), k)) : Cl d 283 [.ref 59, .int (Int32.ofNat v), .int x] h Q := by
  have hQ : ∀ k1, FA h k1 → rsO k1 (L ++ [13, 60, 11, 10, 61, 40, 12]) true v 5 a → (Q (some (.int (((((x ^^^ ((Int32.ofNat v) + (5 : Int32))) - a) * (3 : Int32)) * (2 : Int32)) + (0 : Int32))), k1)) := fun k1 f1 g1 => hQ0 k1 (f1) (rsO_app g1 rfl)
  refine Cl.of (ls := [some (.ref 59), some (.int (Int32.ofNat v)), some (.int (x)), none]) rfl rfl ?_
  refine Wp.seg 3 (pc1 := 3) (ls1 := [some (.ref 59), some (.int (Int32.ofNat v)), some (.int (x)), none]) (st1 := [.int (0), .int (Int32.ofNat v), .ref 59]) rfl ?_
  refine Wp.invV (d2 := 0) (as := [.ref 59, .int (Int32.ofNat v), .int (0)]) (r := []) (t := (11, 0)) rfl rfl rfl rfl (WF.t hw 59 rfl) rfl rfl ⟨rfl, rfl⟩ (by omega) (s_ofv hw (w := 0) rfl (by have := s.2.2.2.2.1; omega) s.2.2.2.2.2.1 ?_)
  show Wp d 283 6 [some (.ref 59), some (.int (Int32.ofNat v)), some (.int (x)), none] [.int (5)] h Q
  refine Wp.seg 1 (pc1 := 7) (ls1 := [some (.ref 59), some (.int (Int32.ofNat v)), some (.int (x)), none]) (st1 := [.int (3), .int (5)]) rfl ?_
  refine Wp.if2 rfl (fun c1 => absurd c1 (show ¬ ((5 : Int32) = (3 : Int32)) by decide)) (fun c1 => ?_)
  refine Wp.seg 3 (pc1 := 13) (ls1 := [some (.ref 59), some (.int (Int32.ofNat v)), some (.int (x)), none]) (st1 := [.int (x), .int (Int32.ofNat v), .ref 59]) rfl ?_
  refine Wp.invV (d2 := 5) (as := [.ref 59, .int (Int32.ofNat v), .int (x)]) (r := []) (t := (11, 0)) rfl rfl rfl rfl (WF.t hw 59 rfl) rfl rfl ⟨rfl, rfl⟩ (by omega) (r282_50 hw s (by first | omega | (simp only [List.length_append, List.length_cons, List.length_nil]; omega)) e0 (Nat.le_refl _) ?_)
  intro k1 f1 g1
  show Wp d 283 16 [some (.ref 59), some (.int (Int32.ofNat v)), some (.int (x)), none] [.int (((((x ^^^ ((Int32.ofNat v) + (5 : Int32))) - a) * (3 : Int32)) * (2 : Int32)) + (0 : Int32))] k1 Q
  exact Wp.reti rfl rfl (hQ k1 f1 g1)
set_option maxHeartbeats 4000000 in
theorem r281_51 {d : Nat} {Q : KO → Prop} {h : KH} (hw : WF h) {L : List Int32} {v : Nat} {a x : Int32} (s : rsO h L false v 5 a) (hl : L.length + 4 ≤ 30) (ne : ¬ a - Int32.ofNat v = 0) (hd : 3 ≤ d) (hQ0 : ∀ k, FA h k → rsO k (L ++ [61, 40, 12, 10]) false v 5 a → Q (some (.int (((x - x / (a - (Int32.ofNat v)) * (a - (Int32.ofNat v))) - (Int32.ofNat v)) ^^^ ((Int32.ofNat v) ^^^ ((Int32.ofNat v) + (5 : Int32))))), k)) : Cl d 281 [.ref 59, .int (Int32.ofNat v), .int x] h Q := by
  have hQ : ∀ k1, FA h k1 → rsO k1 (L ++ [61]) false v 5 a → (∀ k2, FA k1 k2 → rsO k2 ((L ++ [61]) ++ [40, 12]) false v 5 a → (∀ k3, FA k2 k3 → rsO k3 (((L ++ [61]) ++ [40, 12]) ++ [10]) false v 5 a → (Q (some (.int (((x - x / (a - (Int32.ofNat v)) * (a - (Int32.ofNat v))) - (Int32.ofNat v)) ^^^ ((Int32.ofNat v) ^^^ ((Int32.ofNat v) + (5 : Int32))))), k3)))) := fun k1 f1 g1 k2 f2 g2 k3 f3 g3 => hQ0 k3 (((f1).trans f2).trans f3) (rsO_app g3 (by simp only [List.append_assoc, List.cons_append, List.nil_append]))
  refine Cl.of (ls := [some (.ref 59), some (.int (Int32.ofNat v)), some (.int (x)), none]) rfl rfl ?_
  refine Wp.seg 3 (pc1 := 3) (ls1 := [some (.ref 59), some (.int (Int32.ofNat v)), some (.int (x)), none]) (st1 := [.int (0), .int (Int32.ofNat v), .ref 59]) rfl ?_
  refine Wp.invV (d2 := 0) (as := [.ref 59, .int (Int32.ofNat v), .int (0)]) (r := []) (t := (11, 0)) rfl rfl rfl rfl (WF.t hw 59 rfl) rfl rfl ⟨rfl, rfl⟩ (by omega) (s_ofv hw (w := 0) rfl (by have := s.2.2.2.2.1; omega) s.2.2.2.2.2.1 ?_)
  show Wp d 281 6 [some (.ref 59), some (.int (Int32.ofNat v)), some (.int (x)), none] [.int (5)] h Q
  refine Wp.br (pc1 := 39) (st1 := []) rfl rfl ?_
  refine Wp.seg 2 (pc1 := 42) (ls1 := [some (.ref 59), some (.int (Int32.ofNat v)), some (.int (x)), none]) (st1 := [.int (61), .ref 59]) rfl ?_
  refine Wp.invV (d2 := 0) (as := [.ref 59, .int (61)]) (r := []) (t := (11, 0)) rfl rfl rfl rfl (WF.t hw 59 rfl) rfl rfl ⟨rfl, rfl⟩ (by omega) (r_bg hw s (by first | omega | (simp only [List.length_append, List.length_cons, List.length_nil]; omega)) ?_)
  intro k1 f1 g1
  show Wp d 281 45 [some (.ref 59), some (.int (Int32.ofNat v)), some (.int (x)), none] [] k1 Q
  refine Wp.seg 3 (pc1 := 48) (ls1 := [some (.ref 59), some (.int (Int32.ofNat v)), some (.int (x)), none]) (st1 := [.int (x), .int (Int32.ofNat v), .ref 59]) rfl ?_
  refine Wp.invV (d2 := 2) (as := [.ref 59, .int (Int32.ofNat v), .int (x)]) (r := []) (t := (11, 0)) rfl rfl rfl rfl (WF.t (f1.wf hw) 59 rfl) rfl rfl ⟨rfl, rfl⟩ (by omega) (r280_1 (f1.wf hw) g1 (by first | omega | (simp only [List.length_append, List.length_cons, List.length_nil]; omega)) ne (Nat.le_refl _) ?_)
  intro k2 f2 g2
  show Wp d 281 51 [some (.ref 59), some (.int (Int32.ofNat v)), some (.int (x)), none] [.int ((x - x / (a - (Int32.ofNat v)) * (a - (Int32.ofNat v))) - (Int32.ofNat v))] k2 Q
  refine Wp.seg 2 (pc1 := 53) (ls1 := [some (.ref 59), some (.int (Int32.ofNat v)), some (.int (x)), some (.int ((x - x / (a - (Int32.ofNat v)) * (a - (Int32.ofNat v))) - (Int32.ofNat v)))]) (st1 := [.ref 59]) rfl ?_
  refine Wp.gi (t := (11, 0)) rfl (WF.t (f2.wf (f1.wf hw)) 59 rfl) (Or.inr rfl) ?_
  rw [show k2.2.2.1 59 30 = 0 from g2.2.2.2.1]
  refine Wp.if1 rfl (fun c1 => ?_) (fun c1 => absurd (show (0 : Int32) = 0 by decide) c1)
  refine Wp.seg 4 (pc1 := 67) (ls1 := [some (.ref 59), some (.int (Int32.ofNat v)), some (.int (x)), some (.int ((x - x / (a - (Int32.ofNat v)) * (a - (Int32.ofNat v))) - (Int32.ofNat v)))]) (st1 := [.int (Int32.ofNat v), .int (Int32.ofNat v), .ref 59, .int ((x - x / (a - (Int32.ofNat v)) * (a - (Int32.ofNat v))) - (Int32.ofNat v))]) rfl ?_
  refine Wp.invV (d2 := 2) (as := [.ref 59, .int (Int32.ofNat v), .int (Int32.ofNat v)]) (r := [.int ((x - x / (a - (Int32.ofNat v)) * (a - (Int32.ofNat v))) - (Int32.ofNat v))]) (t := (11, 0)) rfl rfl rfl rfl (WF.t (f2.wf (f1.wf hw)) 59 rfl) rfl rfl ⟨rfl, rfl⟩ (by omega) (r276_5 (f2.wf (f1.wf hw)) g2 (by first | omega | (simp only [List.length_append, List.length_cons, List.length_nil]; omega)) (Nat.le_refl _) ?_)
  intro k3 f3 g3
  show Wp d 281 70 [some (.ref 59), some (.int (Int32.ofNat v)), some (.int (x)), some (.int ((x - x / (a - (Int32.ofNat v)) * (a - (Int32.ofNat v))) - (Int32.ofNat v)))] [.int ((Int32.ofNat v) ^^^ ((Int32.ofNat v) + (5 : Int32))), .int ((x - x / (a - (Int32.ofNat v)) * (a - (Int32.ofNat v))) - (Int32.ofNat v))] k3 Q
  refine Wp.seg 1 (pc1 := 71) (ls1 := [some (.ref 59), some (.int (Int32.ofNat v)), some (.int (x)), some (.int ((x - x / (a - (Int32.ofNat v)) * (a - (Int32.ofNat v))) - (Int32.ofNat v)))]) (st1 := [.int (((x - x / (a - (Int32.ofNat v)) * (a - (Int32.ofNat v))) - (Int32.ofNat v)) ^^^ ((Int32.ofNat v) ^^^ ((Int32.ofNat v) + (5 : Int32))))]) rfl ?_
  exact Wp.reti rfl rfl (((hQ k1 f1 g1) k2 f2 g2) k3 f3 g3)
set_option maxHeartbeats 4000000 in
theorem r282_51 {d : Nat} {Q : KO → Prop} {h : KH} (hw : WF h) {L : List Int32} {v : Nat} {a x : Int32} (s : rsO h L false v 5 a) (hl : L.length + 8 ≤ 30) (ne : ¬ a - Int32.ofNat v = 0) (hd : 5 ≤ d) (hQ0 : ∀ k, FA h k → rsO k (L ++ [13, 60, 11, 10, 61, 40, 12, 10]) false v 5 a → Q (some (.int (((((x ^^^ ((Int32.ofNat v) + (5 : Int32))) - a) * (3 : Int32)) * (2 : Int32)) + (((x - x / (a - (Int32.ofNat v)) * (a - (Int32.ofNat v))) - (Int32.ofNat v)) ^^^ ((Int32.ofNat v) ^^^ ((Int32.ofNat v) + (5 : Int32)))))), k)) : Cl d 282 [.ref 59, .int (Int32.ofNat v), .int x] h Q := by
  have hQ : ∀ k1, FA h k1 → rsO k1 (L ++ [13]) false v 5 a → (∀ k2, FA k1 k2 → rsO k2 ((L ++ [13]) ++ [60, 11, 10]) false v 5 a → (∀ k3, FA k2 k3 → rsO k3 (((L ++ [13]) ++ [60, 11, 10]) ++ [61, 40, 12, 10]) false v 5 a → (Q (some (.int (((((x ^^^ ((Int32.ofNat v) + (5 : Int32))) - a) * (3 : Int32)) * (2 : Int32)) + (((x - x / (a - (Int32.ofNat v)) * (a - (Int32.ofNat v))) - (Int32.ofNat v)) ^^^ ((Int32.ofNat v) ^^^ ((Int32.ofNat v) + (5 : Int32)))))), k3)))) := fun k1 f1 g1 k2 f2 g2 k3 f3 g3 => hQ0 k3 (((f1).trans f2).trans f3) (rsO_app g3 (by simp only [List.append_assoc, List.cons_append, List.nil_append]))
  refine Cl.of (ls := [some (.ref 59), some (.int (Int32.ofNat v)), some (.int (x)), none]) rfl rfl ?_
  refine Wp.seg 2 (pc1 := 3) (ls1 := [some (.ref 59), some (.int (Int32.ofNat v)), some (.int (x)), none]) (st1 := [.int (13), .ref 59]) rfl ?_
  refine Wp.invV (d2 := 0) (as := [.ref 59, .int (13)]) (r := []) (t := (11, 0)) rfl rfl rfl rfl (WF.t hw 59 rfl) rfl rfl ⟨rfl, rfl⟩ (by omega) (r_bg hw s (by first | omega | (simp only [List.length_append, List.length_cons, List.length_nil]; omega)) ?_)
  intro k1 f1 g1
  show Wp d 282 6 [some (.ref 59), some (.int (Int32.ofNat v)), some (.int (x)), none] [] k1 Q
  refine Wp.seg 3 (pc1 := 9) (ls1 := [some (.ref 59), some (.int (Int32.ofNat v)), some (.int (x)), none]) (st1 := [.int (x), .int (Int32.ofNat v), .ref 59]) rfl ?_
  refine Wp.invV (d2 := 4) (as := [.ref 59, .int (Int32.ofNat v), .int (x)]) (r := []) (t := (11, 0)) rfl rfl rfl rfl (WF.t (f1.wf hw) 59 rfl) rfl rfl ⟨rfl, rfl⟩ (by omega) (r278_5 (f1.wf hw) g1 (by first | omega | (simp only [List.length_append, List.length_cons, List.length_nil]; omega)) (Nat.le_refl _) ?_)
  intro k2 f2 g2
  show Wp d 282 12 [some (.ref 59), some (.int (Int32.ofNat v)), some (.int (x)), none] [.int (((x ^^^ ((Int32.ofNat v) + (5 : Int32))) - a) * (3 : Int32))] k2 Q
  refine Wp.seg 7 (pc1 := 19) (ls1 := [some (.ref 59), some (.int (Int32.ofNat v)), some (.int (x)), some (.int ((((x ^^^ ((Int32.ofNat v) + (5 : Int32))) - a) * (3 : Int32)) * (2 : Int32)))]) (st1 := [.int (x), .int (Int32.ofNat v), .ref 59, .int ((((x ^^^ ((Int32.ofNat v) + (5 : Int32))) - a) * (3 : Int32)) * (2 : Int32))]) rfl ?_
  refine Wp.invV (d2 := 3) (as := [.ref 59, .int (Int32.ofNat v), .int (x)]) (r := [.int ((((x ^^^ ((Int32.ofNat v) + (5 : Int32))) - a) * (3 : Int32)) * (2 : Int32))]) (t := (11, 0)) rfl rfl rfl rfl (WF.t (f2.wf (f1.wf hw)) 59 rfl) rfl rfl ⟨rfl, rfl⟩ (by omega) (r281_51 (f2.wf (f1.wf hw)) g2 (by first | omega | (simp only [List.length_append, List.length_cons, List.length_nil]; omega)) ne (Nat.le_refl _) ?_)
  intro k3 f3 g3
  show Wp d 282 22 [some (.ref 59), some (.int (Int32.ofNat v)), some (.int (x)), some (.int ((((x ^^^ ((Int32.ofNat v) + (5 : Int32))) - a) * (3 : Int32)) * (2 : Int32)))] [.int (((x - x / (a - (Int32.ofNat v)) * (a - (Int32.ofNat v))) - (Int32.ofNat v)) ^^^ ((Int32.ofNat v) ^^^ ((Int32.ofNat v) + (5 : Int32)))), .int ((((x ^^^ ((Int32.ofNat v) + (5 : Int32))) - a) * (3 : Int32)) * (2 : Int32))] k3 Q
  refine Wp.seg 1 (pc1 := 23) (ls1 := [some (.ref 59), some (.int (Int32.ofNat v)), some (.int (x)), some (.int ((((x ^^^ ((Int32.ofNat v) + (5 : Int32))) - a) * (3 : Int32)) * (2 : Int32)))]) (st1 := [.int (((((x ^^^ ((Int32.ofNat v) + (5 : Int32))) - a) * (3 : Int32)) * (2 : Int32)) + (((x - x / (a - (Int32.ofNat v)) * (a - (Int32.ofNat v))) - (Int32.ofNat v)) ^^^ ((Int32.ofNat v) ^^^ ((Int32.ofNat v) + (5 : Int32)))))]) rfl ?_
  exact Wp.reti rfl rfl (((hQ k1 f1 g1) k2 f2 g2) k3 f3 g3)
set_option maxHeartbeats 4000000 in
theorem r283_51 {d : Nat} {Q : KO → Prop} {h : KH} (hw : WF h) {L : List Int32} {v : Nat} {a x : Int32} (s : rsO h L false v 5 a) (hl : L.length + 8 ≤ 30) (ne : ¬ a - Int32.ofNat v = 0) (hd : 6 ≤ d) (hQ0 : ∀ k, FA h k → rsO k (L ++ [13, 60, 11, 10, 61, 40, 12, 10]) false v 5 a → Q (some (.int (((((x ^^^ ((Int32.ofNat v) + (5 : Int32))) - a) * (3 : Int32)) * (2 : Int32)) + (((x - x / (a - (Int32.ofNat v)) * (a - (Int32.ofNat v))) - (Int32.ofNat v)) ^^^ ((Int32.ofNat v) ^^^ ((Int32.ofNat v) + (5 : Int32)))))), k)) : Cl d 283 [.ref 59, .int (Int32.ofNat v), .int x] h Q := by
  have hQ : ∀ k1, FA h k1 → rsO k1 (L ++ [13, 60, 11, 10, 61, 40, 12, 10]) false v 5 a → (Q (some (.int (((((x ^^^ ((Int32.ofNat v) + (5 : Int32))) - a) * (3 : Int32)) * (2 : Int32)) + (((x - x / (a - (Int32.ofNat v)) * (a - (Int32.ofNat v))) - (Int32.ofNat v)) ^^^ ((Int32.ofNat v) ^^^ ((Int32.ofNat v) + (5 : Int32)))))), k1)) := fun k1 f1 g1 => hQ0 k1 (f1) (rsO_app g1 rfl)
  refine Cl.of (ls := [some (.ref 59), some (.int (Int32.ofNat v)), some (.int (x)), none]) rfl rfl ?_
  refine Wp.seg 3 (pc1 := 3) (ls1 := [some (.ref 59), some (.int (Int32.ofNat v)), some (.int (x)), none]) (st1 := [.int (0), .int (Int32.ofNat v), .ref 59]) rfl ?_
  refine Wp.invV (d2 := 0) (as := [.ref 59, .int (Int32.ofNat v), .int (0)]) (r := []) (t := (11, 0)) rfl rfl rfl rfl (WF.t hw 59 rfl) rfl rfl ⟨rfl, rfl⟩ (by omega) (s_ofv hw (w := 0) rfl (by have := s.2.2.2.2.1; omega) s.2.2.2.2.2.1 ?_)
  show Wp d 283 6 [some (.ref 59), some (.int (Int32.ofNat v)), some (.int (x)), none] [.int (5)] h Q
  refine Wp.seg 1 (pc1 := 7) (ls1 := [some (.ref 59), some (.int (Int32.ofNat v)), some (.int (x)), none]) (st1 := [.int (3), .int (5)]) rfl ?_
  refine Wp.if2 rfl (fun c1 => absurd c1 (show ¬ ((5 : Int32) = (3 : Int32)) by decide)) (fun c1 => ?_)
  refine Wp.seg 3 (pc1 := 13) (ls1 := [some (.ref 59), some (.int (Int32.ofNat v)), some (.int (x)), none]) (st1 := [.int (x), .int (Int32.ofNat v), .ref 59]) rfl ?_
  refine Wp.invV (d2 := 5) (as := [.ref 59, .int (Int32.ofNat v), .int (x)]) (r := []) (t := (11, 0)) rfl rfl rfl rfl (WF.t hw 59 rfl) rfl rfl ⟨rfl, rfl⟩ (by omega) (r282_51 hw s (by first | omega | (simp only [List.length_append, List.length_cons, List.length_nil]; omega)) ne (Nat.le_refl _) ?_)
  intro k1 f1 g1
  show Wp d 283 16 [some (.ref 59), some (.int (Int32.ofNat v)), some (.int (x)), none] [.int (((((x ^^^ ((Int32.ofNat v) + (5 : Int32))) - a) * (3 : Int32)) * (2 : Int32)) + (((x - x / (a - (Int32.ofNat v)) * (a - (Int32.ofNat v))) - (Int32.ofNat v)) ^^^ ((Int32.ofNat v) ^^^ ((Int32.ofNat v) + (5 : Int32)))))] k1 Q
  exact Wp.reti rfl rfl (hQ k1 f1 g1)
