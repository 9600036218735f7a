/-! KM: both sides: edge(), state(), handOf() -/
theorem okA_hand {A : Nat → Int32} {n c dn en j : Nat} (h : okS A n c dn en) (hj : j < n) : handOK A j := h.2.2.2.2.2.2.2.2.2 j hj
set_option maxHeartbeats 4000000 in
theorem t_ced {d : Nat} {Q : KO → Prop} {h : KH} {v f : Int32} (hd : 1 ≤ d) (hQ : ((inB v 0 11) = false → Q (some (.int (-1)), h)) ∧ ((inB v 0 11) = true → ((inB f 0 3) = true → Wp d 98 16 ([some (.ref 0), some (.int (v)), some (.int (f))]) [] h Q) ∧ ((inB f 0 3) = false → Q (some (.int (-1)), h)))) : Cl d 98 [.ref 0, .int (v), .int (f)] h Q := by
  refine Cl.of (ls := [some (.ref 0), some (.int (v)), some (.int (f))]) rfl rfl ?_
  refine Wp.seg 1 (pc1 := 1) (ls1 := [some (.ref 0), some (.int (v)), some (.int (f))]) (st1 := [.int (v)]) rfl ?_
  refine Wp.inv (d2 := 0) (as := [.int (v)]) (r := []) rfl rfl rfl rfl rfl rfl (by omega) (s_b104 ?_)
  show Wp d 98 4 [some (.ref 0), some (.int (v)), some (.int (f))] [.int (b32 (inB v 0 11))] h Q
  refine Wp.ifz rfl (fun (c1 : (inB v 0 11) = false) => ?_) (fun (c1 : (inB v 0 11) = true) => ?_)
  · refine Wp.seg 1 (pc1 := 15) (ls1 := [some (.ref 0), some (.int (v)), some (.int (f))]) (st1 := [.int (-1)]) rfl ?_
    exact Wp.reti rfl rfl (hQ.1 c1)
  · refine Wp.seg 1 (pc1 := 8) (ls1 := [some (.ref 0), some (.int (v)), some (.int (f))]) (st1 := [.int (f)]) rfl ?_
    refine Wp.inv (d2 := 0) (as := [.int (f)]) (r := []) rfl rfl rfl rfl rfl rfl (by omega) (s_b105 ?_)
    show Wp d 98 11 [some (.ref 0), some (.int (v)), some (.int (f))] [.int (b32 (inB f 0 3))] h Q
    refine Wp.ifnz rfl (fun (c2 : (inB f 0 3) = true) => ?_) (fun (c2 : (inB f 0 3) = false) => ?_)
    · exact ((hQ.2 c1).1 c2)
    · refine Wp.seg 1 (pc1 := 15) (ls1 := [some (.ref 0), some (.int (v)), some (.int (f))]) (st1 := [.int (-1)]) rfl ?_
      exact Wp.reti rfl rfl ((hQ.2 c1).2 c2)
set_option maxHeartbeats 4000000 in
theorem t_cedB {d : Nat} {Q : KO → Prop} {h : KH} {v f : Int32} (hd : 1 ≤ d) (hQ : (0 ≤ (f_cBeside v f) → Q (some (.int (f_cEdge v f)), h)) ∧ (¬ (0 ≤ (f_cBeside v f)) → Q (some (.int (-3)), h))) : Wp d 98 16 [some (.ref 0), some (.int (v)), some (.int (f))] [] h Q := by
  refine Wp.seg 2 (pc1 := 18) (ls1 := [some (.ref 0), some (.int (v)), some (.int (f))]) (st1 := [.int (f), .int (v)]) rfl ?_
  refine Wp.inv (d2 := 0) (as := [.int (v), .int (f)]) (r := []) rfl rfl rfl rfl rfl rfl (by omega) (s_cBeside (Nat.le_refl _) ?_)
  show Wp d 98 21 [some (.ref 0), some (.int (v)), some (.int (f))] [.int (f_cBeside v f)] h Q
  refine Wp.if1 rfl (fun (c1 : 0 ≤ (f_cBeside v f)) => ?_) (fun (c1 : ¬ (0 ≤ (f_cBeside v f))) => ?_)
  · refine Wp.seg 2 (pc1 := 31) (ls1 := [some (.ref 0), some (.int (v)), some (.int (f))]) (st1 := [.int (f), .int (v)]) rfl ?_
    refine Wp.inv (d2 := 0) (as := [.int (v), .int (f)]) (r := []) rfl rfl rfl rfl rfl rfl (by omega) (s_cEdge (Nat.le_refl _) ?_)
    show Wp d 98 34 [some (.ref 0), some (.int (v)), some (.int (f))] [.int (f_cEdge v f)] h Q
    exact Wp.reti rfl rfl (hQ.1 c1)
  · refine Wp.seg 2 (pc1 := 34) (ls1 := [some (.ref 0), some (.int (v)), some (.int (f))]) (st1 := [.int (-3)]) rfl ?_
    exact Wp.reti rfl rfl (hQ.2 c1)
set_option maxHeartbeats 4000000 in
theorem t_med {d : Nat} {Q : KO → Prop} {h : KH} {v f : Int32} (hd : 2 ≤ d) (hQ : ((inB v 0 11) = false → Q (some (.int (-1)), h)) ∧ ((inB v 0 11) = true → ((inB f 0 3) = true → Wp d 199 16 ([some (.ref 59), some (.int (v)), some (.int (f)), none]) [] h Q) ∧ ((inB f 0 3) = false → Q (some (.int (-1)), h)))) : Cl d 199 [.ref 59, .int (v), .int (f)] h Q := by
  refine Cl.of (ls := [some (.ref 59), some (.int (v)), some (.int (f)), none]) rfl rfl ?_
  refine Wp.seg 1 (pc1 := 1) (ls1 := [some (.ref 59), some (.int (v)), some (.int (f)), none]) (st1 := [.int (v)]) rfl ?_
  refine Wp.inv (d2 := 1) (as := [.int (v)]) (r := []) rfl rfl rfl rfl rfl rfl (by omega) (s_b176 (Nat.le_refl _) ?_)
  show Wp d 199 4 [some (.ref 59), some (.int (v)), some (.int (f)), none] [.int (b32 (inB v 0 11))] h Q
  refine Wp.ifz rfl (fun (c1 : (inB v 0 11) = false) => ?_) (fun (c1 : (inB v 0 11) = true) => ?_)
  · refine Wp.seg 1 (pc1 := 15) (ls1 := [some (.ref 59), some (.int (v)), some (.int (f)), none]) (st1 := [.int (-1)]) rfl ?_
    exact Wp.reti rfl rfl (hQ.1 c1)
  · refine Wp.seg 1 (pc1 := 8) (ls1 := [some (.ref 59), some (.int (v)), some (.int (f)), none]) (st1 := [.int (f)]) rfl ?_
    refine Wp.inv (d2 := 1) (as := [.int (f)]) (r := []) rfl rfl rfl rfl rfl rfl (by omega) (s_b177 (Nat.le_refl _) ?_)
    show Wp d 199 11 [some (.ref 59), some (.int (v)), some (.int (f)), none] [.int (b32 (inB f 0 3))] h Q
    refine Wp.ifnz rfl (fun (c2 : (inB f 0 3) = true) => ?_) (fun (c2 : (inB f 0 3) = false) => ?_)
    · exact ((hQ.2 c1).1 c2)
    · refine Wp.seg 1 (pc1 := 15) (ls1 := [some (.ref 59), some (.int (v)), some (.int (f)), none]) (st1 := [.int (-1)]) rfl ?_
      exact Wp.reti rfl rfl ((hQ.2 c1).2 c2)
set_option maxHeartbeats 4000000 in
theorem t_medB {d : Nat} {Q : KO → Prop} {h : KH} {p f : Nat} (hp : p < 12) (hf : f < 4) (hd : 1 ≤ d) (hQ : (0 ≤ (kE.getD (4 * p + f) 0) → Q (some (.int (kE.getD (4 * p + f) 0)), h)) ∧ (¬ (0 ≤ (kE.getD (4 * p + f) 0)) → Q (some (.int (-3)), h))) : Wp d 199 16 [some (.ref 59), some (.int (Int32.ofNat p)), some (.int (Int32.ofNat f)), none] [] h Q := by
  refine Wp.seg 2 (pc1 := 18) (ls1 := [some (.ref 59), some (.int (Int32.ofNat p)), some (.int (Int32.ofNat f)), none]) (st1 := [.int (Int32.ofNat f), .int (Int32.ofNat p)]) rfl ?_
  refine Wp.inv (d2 := 0) (as := [.int (Int32.ofNat p), .int (Int32.ofNat f)]) (r := []) rfl rfl rfl rfl rfl rfl (by omega) (s_edge hp hf ?_)
  show Wp d 199 21 [some (.ref 59), some (.int (Int32.ofNat p)), some (.int (Int32.ofNat f)), none] [.int (kE.getD (4 * p + f) 0)] h Q
  refine Wp.seg 2 (pc1 := 23) (ls1 := [some (.ref 59), some (.int (Int32.ofNat p)), some (.int (Int32.ofNat f)), some (.int (kE.getD (4 * p + f) 0))]) (st1 := [.int (kE.getD (4 * p + f) 0)]) rfl ?_
  refine Wp.if1 rfl (fun (c1 : 0 ≤ (kE.getD (4 * p + f) 0)) => ?_) (fun (c1 : ¬ (0 ≤ (kE.getD (4 * p + f) 0))) => ?_)
  · refine Wp.seg 1 (pc1 := 32) (ls1 := [some (.ref 59), some (.int (Int32.ofNat p)), some (.int (Int32.ofNat f)), some (.int (kE.getD (4 * p + f) 0))]) (st1 := [.int (kE.getD (4 * p + f) 0)]) rfl ?_
    exact Wp.reti rfl rfl (hQ.1 c1)
  · refine Wp.seg 2 (pc1 := 32) (ls1 := [some (.ref 59), some (.int (Int32.ofNat p)), some (.int (Int32.ofNat f)), some (.int (kE.getD (4 * p + f) 0))]) (st1 := [.int (-3)]) rfl ?_
    exact Wp.reti rfl rfl (hQ.2 c1)
theorem J_edge {h : KH} (hw : WF h) {A : Nat → Int32} {RL : List Rul} {n c dn en : Nat} (hk : both h A RL n c dn en) (v f : Int32) : JJ h RL 98 [.ref 0, .int v, .int f] 199 [.ref 59, .int v, .int f] := by
  by_cases q : inB v 0 11 = true ∧ inB f 0 3 = true
  · obtain ⟨p, hp, rfl⟩ := inB_nat (b := 11) q.1
    obtain ⟨g, hg, rfl⟩ := inB_nat (b := 3) q.2
    have et := kall1_ok (kall1_ok cE_N (i := p) (by omega)) (i := g) (by omega)
    simp only [Bool.or_eq_true, Bool.and_eq_true, decide_eq_true_eq, beq_iff_eq, decide_eq_decide] at et
    obtain ⟨et1, et2⟩ := et
    refine J_q (v := if kE.getD (4 * p + g) 0 < 0 then -3 else kE.getD (4 * p + g) 0) (dc := 1) (dm := 2) hw hk (t_ced (by decide) ?_) (fun k kw kk => t_med (by decide) ?_)
    · have z : Wp 1 98 16 [some (.ref 0), some (.int (Int32.ofNat p)), some (.int (Int32.ofNat g))] [] h (qu (if kE.getD (4 * p + g) 0 < 0 then -3 else kE.getD (4 * p + g) 0) h) := by
        refine t_cedB (by decide) ⟨fun c1 => ?_, fun c1 => ?_⟩
        · have n1 : ¬ kE.getD (4 * p + g) 0 < 0 := fun z => Int32.not_lt.mpr c1 (et1.mpr z)
          rw [if_neg n1, (et2.resolve_left n1).2]
          exact qu_i (Quiet.refl h)
        · rw [if_pos (et1.mp (Int32.not_le.mp c1))]
          exact qu_i (Quiet.refl h)
      exact ⟨fun c1 => absurd (c1) (by rw [q.1]; decide), fun c1 => ⟨fun c2 => z, fun c2 => absurd (c2) (by rw [q.2]; decide)⟩⟩
    · have z : Wp 2 199 16 [some (.ref 59), some (.int (Int32.ofNat p)), some (.int (Int32.ofNat g)), none] [] k (qu (if kE.getD (4 * p + g) 0 < 0 then -3 else kE.getD (4 * p + g) 0) k) := by
        refine t_medB (by omega) (by omega) (by decide) ⟨fun c1 => ?_, fun c1 => ?_⟩
        · rw [if_neg (Int32.not_lt.mpr c1)]
          exact qu_i (Quiet.refl k)
        · rw [if_pos (Int32.not_le.mp c1)]
          exact qu_i (Quiet.refl k)
      exact ⟨fun c1 => absurd (c1) (by rw [q.1]; decide), fun c1 => ⟨fun c2 => z, fun c2 => absurd (c2) (by rw [q.2]; decide)⟩⟩
  · refine J_q (v := -1) (dc := 1) (dm := 2) hw hk (t_ced (by decide) ?_) (fun k kw kk => t_med (by decide) ?_)
    · exact ⟨fun c1 => qu_i (Quiet.refl h), fun c1 => ⟨fun c2 => absurd ⟨c1, c2⟩ q, fun c2 => qu_i (Quiet.refl h)⟩⟩
    · exact ⟨fun c1 => qu_i (Quiet.refl k), fun c1 => ⟨fun c2 => absurd ⟨c1, c2⟩ q, fun c2 => qu_i (Quiet.refl k)⟩⟩
theorem r_over {d : Nat} {Q : KO → Prop} {h : KH} (hw : WF h) {A : Nat → Int32} {RL : List Rul} {n c dn en : Nat} (hk : refOK h A RL n c dn en) (hQ : Q (some (.int (if dn < en then 0 else 1)), h)) : Cl d 180 [.ref 59] h Q := by
  by_cases q : dn < en
  · rw [if_pos q] at hQ
    exact r_over0 hw hk q hQ
  · rw [if_neg q] at hQ
    exact r_over1 hw hk q hQ
set_option maxHeartbeats 4000000 in
theorem t_cst0 {d : Nat} {Q : KO → Prop} {h : KH} (hw : WF h) {A : Nat → Int32} {RL : List Rul} {n c dn en : Nat} (hk : cityOK h 1 A RL n c dn en) (hd : 3 ≤ d) (hQ : Q (some (.int (A 1)), h)) : Cl d 100 [.ref 0, .int (0)] h Q := by
  refine Cl.of (ls := [some (.ref 0), some (.int (0))]) rfl rfl ?_
  refine Wp.seg 1 (pc1 := 1) (ls1 := [some (.ref 0), some (.int (0))]) (st1 := [.int (0)]) rfl ?_
  refine Wp.br (pc1 := 52) (st1 := []) rfl rfl ?_
  refine Wp.seg 1 (pc1 := 53) (ls1 := [some (.ref 0), some (.int (0))]) (st1 := [.ref 0]) rfl ?_
  refine Wp.gr (t := (10, 0)) (v := some (1)) rfl (WF.t hw 0 rfl) rfl (WF.r hw 0 0 0 rfl) ?_
  show Wp d 100 56 [some (.ref 0), some (.int (0))] [.ref 1] h Q
  refine Wp.gi (t := (1, 0)) rfl (WF.t hw 1 rfl) (Or.inl rfl) ?_
  rw [show h.2.2.1 1 7 = A 1 from (congrFun hk.1 1)]
  exact Wp.reti rfl rfl hQ
set_option maxHeartbeats 4000000 in
theorem t_mst0 {d : Nat} {Q : KO → Prop} {h : KH} (hw : WF h) {A : Nat → Int32} {RL : List Rul} {n c dn en : Nat} (hk : refOK h A RL n c dn en) (hd : 4 ≤ d) (hQ : Q (some (.int (A 1)), h)) : Cl d 201 [.ref 59, .int (0)] h Q := by
  refine Cl.of (ls := [some (.ref 59), some (.int (0))]) rfl rfl ?_
  refine Wp.seg 1 (pc1 := 1) (ls1 := [some (.ref 59), some (.int (0))]) (st1 := [.int (0)]) rfl ?_
  refine Wp.br (pc1 := 52) (st1 := []) rfl rfl ?_
  refine Wp.seg 1 (pc1 := 53) (ls1 := [some (.ref 59), some (.int (0))]) (st1 := [.ref 59]) rfl ?_
  refine Wp.gr (t := (11, 0)) (v := some (60)) rfl (WF.t hw 59 rfl) rfl (WF.r hw 59 0 58 rfl) ?_
  show Wp d 201 56 [some (.ref 59), some (.int (0))] [.ref 60] h Q
  refine Wp.seg 1 (pc1 := 57) (ls1 := [some (.ref 59), some (.int (0))]) (st1 := [.int (1), .ref 60]) rfl ?_
  refine Wp.iald (j := 1) (k := 20) (n := 585) rfl (WF.t hw 60 rfl) rfl rfl (by decide) (by decide) ?_
  rw [show h.2.2.1 60 1 = A 1 from (congrFun hk.1 1)]
  exact Wp.reti rfl rfl hQ
set_option maxHeartbeats 4000000 in
theorem t_cst1 {d : Nat} {Q : KO → Prop} {h : KH} (hw : WF h) {A : Nat → Int32} {RL : List Rul} {n c dn en : Nat} (hk : cityOK h 1 A RL n c dn en) (hd : 3 ≤ d) (hQ : Q (some (.int (A 0)), h)) : Cl d 100 [.ref 0, .int (1)] h Q := by
  refine Cl.of (ls := [some (.ref 0), some (.int (1))]) rfl rfl ?_
  refine Wp.seg 1 (pc1 := 1) (ls1 := [some (.ref 0), some (.int (1))]) (st1 := [.int (1)]) rfl ?_
  refine Wp.br (pc1 := 60) (st1 := []) rfl rfl ?_
  refine Wp.seg 1 (pc1 := 61) (ls1 := [some (.ref 0), some (.int (1))]) (st1 := [.ref 0]) rfl ?_
  refine Wp.gr (t := (10, 0)) (v := some (1)) rfl (WF.t hw 0 rfl) rfl (WF.r hw 0 0 0 rfl) ?_
  show Wp d 100 64 [some (.ref 0), some (.int (1))] [.ref 1] h Q
  refine Wp.gi (t := (1, 0)) rfl (WF.t hw 1 rfl) (Or.inl rfl) ?_
  rw [show h.2.2.1 1 6 = A 0 from (congrFun hk.1 0)]
  exact Wp.reti rfl rfl hQ
set_option maxHeartbeats 4000000 in
theorem t_mst1 {d : Nat} {Q : KO → Prop} {h : KH} (hw : WF h) {A : Nat → Int32} {RL : List Rul} {n c dn en : Nat} (hk : refOK h A RL n c dn en) (hd : 4 ≤ d) (hQ : Q (some (.int (A 0)), h)) : Cl d 201 [.ref 59, .int (1)] h Q := by
  refine Cl.of (ls := [some (.ref 59), some (.int (1))]) rfl rfl ?_
  refine Wp.seg 1 (pc1 := 1) (ls1 := [some (.ref 59), some (.int (1))]) (st1 := [.int (1)]) rfl ?_
  refine Wp.br (pc1 := 59) (st1 := []) rfl rfl ?_
  refine Wp.seg 1 (pc1 := 60) (ls1 := [some (.ref 59), some (.int (1))]) (st1 := [.ref 59]) rfl ?_
  refine Wp.gr (t := (11, 0)) (v := some (60)) rfl (WF.t hw 59 rfl) rfl (WF.r hw 59 0 58 rfl) ?_
  show Wp d 201 63 [some (.ref 59), some (.int (1))] [.ref 60] h Q
  refine Wp.seg 1 (pc1 := 64) (ls1 := [some (.ref 59), some (.int (1))]) (st1 := [.int (0), .ref 60]) rfl ?_
  refine Wp.iald (j := 0) (k := 20) (n := 585) rfl (WF.t hw 60 rfl) rfl rfl (by decide) (by decide) ?_
  rw [show h.2.2.1 60 0 = A 0 from (congrFun hk.1 0)]
  exact Wp.reti rfl rfl hQ
set_option maxHeartbeats 4000000 in
theorem t_cst2 {d : Nat} {Q : KO → Prop} {h : KH} (hw : WF h) {A : Nat → Int32} {RL : List Rul} {n c dn en : Nat} (hk : cityOK h 1 A RL n c dn en) (hd : 3 ≤ d) (hQ : Q (some (.int (A 6)), h)) : Cl d 100 [.ref 0, .int (2)] h Q := by
  refine Cl.of (ls := [some (.ref 0), some (.int (2))]) rfl rfl ?_
  refine Wp.seg 1 (pc1 := 1) (ls1 := [some (.ref 0), some (.int (2))]) (st1 := [.int (2)]) rfl ?_
  refine Wp.br (pc1 := 68) (st1 := []) rfl rfl ?_
  refine Wp.seg 1 (pc1 := 69) (ls1 := [some (.ref 0), some (.int (2))]) (st1 := [.ref 0]) rfl ?_
  refine Wp.gr (t := (10, 0)) (v := some (1)) rfl (WF.t hw 0 rfl) rfl (WF.r hw 0 0 0 rfl) ?_
  show Wp d 100 72 [some (.ref 0), some (.int (2))] [.ref 1] h Q
  refine Wp.gi (t := (1, 0)) rfl (WF.t hw 1 rfl) (Or.inl rfl) ?_
  rw [show h.2.2.1 1 8 = A 6 from (congrFun hk.1 6)]
  exact Wp.reti rfl rfl hQ
set_option maxHeartbeats 4000000 in
theorem t_mst2 {d : Nat} {Q : KO → Prop} {h : KH} (hw : WF h) {A : Nat → Int32} {RL : List Rul} {n c dn en : Nat} (hk : refOK h A RL n c dn en) (hd : 4 ≤ d) (hQ : Q (some (.int (A 6)), h)) : Cl d 201 [.ref 59, .int (2)] h Q := by
  refine Cl.of (ls := [some (.ref 59), some (.int (2))]) rfl rfl ?_
  refine Wp.seg 1 (pc1 := 1) (ls1 := [some (.ref 59), some (.int (2))]) (st1 := [.int (2)]) rfl ?_
  refine Wp.br (pc1 := 66) (st1 := []) rfl rfl ?_
  refine Wp.seg 1 (pc1 := 67) (ls1 := [some (.ref 59), some (.int (2))]) (st1 := [.ref 59]) rfl ?_
  refine Wp.gr (t := (11, 0)) (v := some (60)) rfl (WF.t hw 59 rfl) rfl (WF.r hw 59 0 58 rfl) ?_
  show Wp d 201 70 [some (.ref 59), some (.int (2))] [.ref 60] h Q
  refine Wp.seg 1 (pc1 := 72) (ls1 := [some (.ref 59), some (.int (2))]) (st1 := [.int (6), .ref 60]) rfl ?_
  refine Wp.iald (j := 6) (k := 20) (n := 585) rfl (WF.t hw 60 rfl) rfl rfl (by decide) (by decide) ?_
  rw [show h.2.2.1 60 6 = A 6 from (congrFun hk.1 6)]
  exact Wp.reti rfl rfl hQ
set_option maxHeartbeats 4000000 in
theorem t_cst4 {d : Nat} {Q : KO → Prop} {h : KH} (hw : WF h) {A : Nat → Int32} {RL : List Rul} {n c dn en : Nat} (hk : cityOK h 1 A RL n c dn en) (hd : 3 ≤ d) (hQ : Q (some (.int (shA c A)), h)) : Cl d 100 [.ref 0, .int (4)] h Q := by
  refine Cl.of (ls := [some (.ref 0), some (.int (4))]) rfl rfl ?_
  refine Wp.seg 1 (pc1 := 1) (ls1 := [some (.ref 0), some (.int (4))]) (st1 := [.int (4)]) rfl ?_
  refine Wp.br (pc1 := 92) (st1 := []) rfl rfl ?_
  refine Wp.seg 1 (pc1 := 93) (ls1 := [some (.ref 0), some (.int (4))]) (st1 := [.ref 0]) rfl ?_
  refine Wp.gr (t := (10, 0)) (v := some (1)) rfl (WF.t hw 0 rfl) rfl (WF.r hw 0 0 0 rfl) ?_
  show Wp d 100 96 [some (.ref 0), some (.int (4))] [.ref 1] h Q
  refine Wp.invV (d2 := 2) (as := [.ref 1]) (r := []) (t := (1, 0)) rfl rfl rfl rfl (WF.t hw 1 rfl) rfl rfl ⟨rfl, rfl⟩ (by omega) (s_shutC hw cA1 hk (Nat.le_refl _) ?_)
  show Wp d 100 99 [some (.ref 0), some (.int (4))] [.int (shA c A)] h Q
  exact Wp.reti rfl rfl hQ
set_option maxHeartbeats 4000000 in
theorem t_mst4 {d : Nat} {Q : KO → Prop} {h : KH} (hw : WF h) {A : Nat → Int32} {RL : List Rul} {n c dn en : Nat} (hk : refOK h A RL n c dn en) (hd : 4 ≤ d) (hQ : Q (some (.int (shA c A)), h)) : Cl d 201 [.ref 59, .int (4)] h Q := by
  refine Cl.of (ls := [some (.ref 59), some (.int (4))]) rfl rfl ?_
  refine Wp.seg 1 (pc1 := 1) (ls1 := [some (.ref 59), some (.int (4))]) (st1 := [.int (4)]) rfl ?_
  refine Wp.br (pc1 := 87) (st1 := []) rfl rfl ?_
  refine Wp.seg 1 (pc1 := 88) (ls1 := [some (.ref 59), some (.int (4))]) (st1 := [.ref 59]) rfl ?_
  refine Wp.invV (d2 := 3) (as := [.ref 59]) (r := []) (t := (11, 0)) rfl rfl rfl rfl (WF.t hw 59 rfl) rfl rfl ⟨rfl, rfl⟩ (by omega) (r_shut hw hk (Nat.le_refl _) ?_)
  show Wp d 201 91 [some (.ref 59), some (.int (4))] [.int (shA c A)] h Q
  exact Wp.reti rfl rfl hQ
set_option maxHeartbeats 4000000 in
theorem t_cst5 {d : Nat} {Q : KO → Prop} {h : KH} (hw : WF h) {A : Nat → Int32} {RL : List Rul} {n c dn en : Nat} (hk : cityOK h 1 A RL n c dn en) (hd : 3 ≤ d) (hQ : Q (some (.int (A 2)), h)) : Cl d 100 [.ref 0, .int (5)] h Q := by
  refine Cl.of (ls := [some (.ref 0), some (.int (5))]) rfl rfl ?_
  refine Wp.seg 1 (pc1 := 1) (ls1 := [some (.ref 0), some (.int (5))]) (st1 := [.int (5)]) rfl ?_
  refine Wp.br (pc1 := 100) (st1 := []) rfl rfl ?_
  refine Wp.seg 1 (pc1 := 101) (ls1 := [some (.ref 0), some (.int (5))]) (st1 := [.ref 0]) rfl ?_
  refine Wp.gr (t := (10, 0)) (v := some (1)) rfl (WF.t hw 0 rfl) rfl (WF.r hw 0 0 0 rfl) ?_
  show Wp d 100 104 [some (.ref 0), some (.int (5))] [.ref 1] h Q
  refine Wp.gi (t := (1, 0)) rfl (WF.t hw 1 rfl) (Or.inl rfl) ?_
  rw [show h.2.2.1 1 2 = A 2 from (congrFun hk.1 2)]
  exact Wp.reti rfl rfl hQ
set_option maxHeartbeats 4000000 in
theorem t_mst5 {d : Nat} {Q : KO → Prop} {h : KH} (hw : WF h) {A : Nat → Int32} {RL : List Rul} {n c dn en : Nat} (hk : refOK h A RL n c dn en) (hd : 4 ≤ d) (hQ : Q (some (.int (A 2)), h)) : Cl d 201 [.ref 59, .int (5)] h Q := by
  refine Cl.of (ls := [some (.ref 59), some (.int (5))]) rfl rfl ?_
  refine Wp.seg 1 (pc1 := 1) (ls1 := [some (.ref 59), some (.int (5))]) (st1 := [.int (5)]) rfl ?_
  refine Wp.br (pc1 := 92) (st1 := []) rfl rfl ?_
  refine Wp.seg 1 (pc1 := 93) (ls1 := [some (.ref 59), some (.int (5))]) (st1 := [.ref 59]) rfl ?_
  refine Wp.gr (t := (11, 0)) (v := some (60)) rfl (WF.t hw 59 rfl) rfl (WF.r hw 59 0 58 rfl) ?_
  show Wp d 201 96 [some (.ref 59), some (.int (5))] [.ref 60] h Q
  refine Wp.seg 5 (pc1 := 101) (ls1 := [some (.ref 59), some (.int (5))]) (st1 := [.int (2), .ref 60]) rfl ?_
  refine Wp.iald (j := 2) (k := 20) (n := 585) rfl (WF.t hw 60 rfl) rfl rfl (by decide) (by decide) ?_
  rw [show h.2.2.1 60 2 = A 2 from (congrFun hk.1 2)]
  exact Wp.reti rfl rfl hQ
set_option maxHeartbeats 4000000 in
theorem t_cst6 {d : Nat} {Q : KO → Prop} {h : KH} (hw : WF h) {A : Nat → Int32} {RL : List Rul} {n c dn en : Nat} (hk : cityOK h 1 A RL n c dn en) (hd : 3 ≤ d) (hQ : Q (some (.int (A 3)), h)) : Cl d 100 [.ref 0, .int (6)] h Q := by
  refine Cl.of (ls := [some (.ref 0), some (.int (6))]) rfl rfl ?_
  refine Wp.seg 1 (pc1 := 1) (ls1 := [some (.ref 0), some (.int (6))]) (st1 := [.int (6)]) rfl ?_
  refine Wp.br (pc1 := 108) (st1 := []) rfl rfl ?_
  refine Wp.seg 1 (pc1 := 109) (ls1 := [some (.ref 0), some (.int (6))]) (st1 := [.ref 0]) rfl ?_
  refine Wp.gr (t := (10, 0)) (v := some (1)) rfl (WF.t hw 0 rfl) rfl (WF.r hw 0 0 0 rfl) ?_
  show Wp d 100 112 [some (.ref 0), some (.int (6))] [.ref 1] h Q
  refine Wp.gi (t := (1, 0)) rfl (WF.t hw 1 rfl) (Or.inl rfl) ?_
  rw [show h.2.2.1 1 3 = A 3 from (congrFun hk.1 3)]
  exact Wp.reti rfl rfl hQ
set_option maxHeartbeats 4000000 in
theorem t_mst6 {d : Nat} {Q : KO → Prop} {h : KH} (hw : WF h) {A : Nat → Int32} {RL : List Rul} {n c dn en : Nat} (hk : refOK h A RL n c dn en) (hd : 4 ≤ d) (hQ : Q (some (.int (A 3)), h)) : Cl d 201 [.ref 59, .int (6)] h Q := by
  refine Cl.of (ls := [some (.ref 59), some (.int (6))]) rfl rfl ?_
  refine Wp.seg 1 (pc1 := 1) (ls1 := [some (.ref 59), some (.int (6))]) (st1 := [.int (6)]) rfl ?_
  refine Wp.br (pc1 := 92) (st1 := []) rfl rfl ?_
  refine Wp.seg 1 (pc1 := 93) (ls1 := [some (.ref 59), some (.int (6))]) (st1 := [.ref 59]) rfl ?_
  refine Wp.gr (t := (11, 0)) (v := some (60)) rfl (WF.t hw 59 rfl) rfl (WF.r hw 59 0 58 rfl) ?_
  show Wp d 201 96 [some (.ref 59), some (.int (6))] [.ref 60] h Q
  refine Wp.seg 5 (pc1 := 101) (ls1 := [some (.ref 59), some (.int (6))]) (st1 := [.int (3), .ref 60]) rfl ?_
  refine Wp.iald (j := 3) (k := 20) (n := 585) rfl (WF.t hw 60 rfl) rfl rfl (by decide) (by decide) ?_
  rw [show h.2.2.1 60 3 = A 3 from (congrFun hk.1 3)]
  exact Wp.reti rfl rfl hQ
set_option maxHeartbeats 4000000 in
theorem t_cst7 {d : Nat} {Q : KO → Prop} {h : KH} (hw : WF h) {A : Nat → Int32} {RL : List Rul} {n c dn en : Nat} (hk : cityOK h 1 A RL n c dn en) (hd : 3 ≤ d) (hQ : Q (some (.int (A 4)), h)) : Cl d 100 [.ref 0, .int (7)] h Q := by
  refine Cl.of (ls := [some (.ref 0), some (.int (7))]) rfl rfl ?_
  refine Wp.seg 1 (pc1 := 1) (ls1 := [some (.ref 0), some (.int (7))]) (st1 := [.int (7)]) rfl ?_
  refine Wp.br (pc1 := 116) (st1 := []) rfl rfl ?_
  refine Wp.seg 1 (pc1 := 117) (ls1 := [some (.ref 0), some (.int (7))]) (st1 := [.ref 0]) rfl ?_
  refine Wp.gr (t := (10, 0)) (v := some (1)) rfl (WF.t hw 0 rfl) rfl (WF.r hw 0 0 0 rfl) ?_
  show Wp d 100 120 [some (.ref 0), some (.int (7))] [.ref 1] h Q
  refine Wp.gi (t := (1, 0)) rfl (WF.t hw 1 rfl) (Or.inl rfl) ?_
  rw [show h.2.2.1 1 4 = A 4 from (congrFun hk.1 4)]
  exact Wp.reti rfl rfl hQ
set_option maxHeartbeats 4000000 in
theorem t_mst7 {d : Nat} {Q : KO → Prop} {h : KH} (hw : WF h) {A : Nat → Int32} {RL : List Rul} {n c dn en : Nat} (hk : refOK h A RL n c dn en) (hd : 4 ≤ d) (hQ : Q (some (.int (A 4)), h)) : Cl d 201 [.ref 59, .int (7)] h Q := by
  refine Cl.of (ls := [some (.ref 59), some (.int (7))]) rfl rfl ?_
  refine Wp.seg 1 (pc1 := 1) (ls1 := [some (.ref 59), some (.int (7))]) (st1 := [.int (7)]) rfl ?_
  refine Wp.br (pc1 := 92) (st1 := []) rfl rfl ?_
  refine Wp.seg 1 (pc1 := 93) (ls1 := [some (.ref 59), some (.int (7))]) (st1 := [.ref 59]) rfl ?_
  refine Wp.gr (t := (11, 0)) (v := some (60)) rfl (WF.t hw 59 rfl) rfl (WF.r hw 59 0 58 rfl) ?_
  show Wp d 201 96 [some (.ref 59), some (.int (7))] [.ref 60] h Q
  refine Wp.seg 5 (pc1 := 101) (ls1 := [some (.ref 59), some (.int (7))]) (st1 := [.int (4), .ref 60]) rfl ?_
  refine Wp.iald (j := 4) (k := 20) (n := 585) rfl (WF.t hw 60 rfl) rfl rfl (by decide) (by decide) ?_
  rw [show h.2.2.1 60 4 = A 4 from (congrFun hk.1 4)]
  exact Wp.reti rfl rfl hQ
set_option maxHeartbeats 4000000 in
theorem t_cst8 {d : Nat} {Q : KO → Prop} {h : KH} (hw : WF h) {A : Nat → Int32} {RL : List Rul} {n c dn en : Nat} (hk : cityOK h 1 A RL n c dn en) (hd : 3 ≤ d) (hQ : Q (some (.int (A 5)), h)) : Cl d 100 [.ref 0, .int (8)] h Q := by
  refine Cl.of (ls := [some (.ref 0), some (.int (8))]) rfl rfl ?_
  refine Wp.seg 1 (pc1 := 1) (ls1 := [some (.ref 0), some (.int (8))]) (st1 := [.int (8)]) rfl ?_
  refine Wp.br (pc1 := 124) (st1 := []) rfl rfl ?_
  refine Wp.seg 1 (pc1 := 125) (ls1 := [some (.ref 0), some (.int (8))]) (st1 := [.ref 0]) rfl ?_
  refine Wp.gr (t := (10, 0)) (v := some (1)) rfl (WF.t hw 0 rfl) rfl (WF.r hw 0 0 0 rfl) ?_
  show Wp d 100 128 [some (.ref 0), some (.int (8))] [.ref 1] h Q
  refine Wp.gi (t := (1, 0)) rfl (WF.t hw 1 rfl) (Or.inl rfl) ?_
  rw [show h.2.2.1 1 5 = A 5 from (congrFun hk.1 5)]
  exact Wp.reti rfl rfl hQ
set_option maxHeartbeats 4000000 in
theorem t_mst8 {d : Nat} {Q : KO → Prop} {h : KH} (hw : WF h) {A : Nat → Int32} {RL : List Rul} {n c dn en : Nat} (hk : refOK h A RL n c dn en) (hd : 4 ≤ d) (hQ : Q (some (.int (A 5)), h)) : Cl d 201 [.ref 59, .int (8)] h Q := by
  refine Cl.of (ls := [some (.ref 59), some (.int (8))]) rfl rfl ?_
  refine Wp.seg 1 (pc1 := 1) (ls1 := [some (.ref 59), some (.int (8))]) (st1 := [.int (8)]) rfl ?_
  refine Wp.br (pc1 := 92) (st1 := []) rfl rfl ?_
  refine Wp.seg 1 (pc1 := 93) (ls1 := [some (.ref 59), some (.int (8))]) (st1 := [.ref 59]) rfl ?_
  refine Wp.gr (t := (11, 0)) (v := some (60)) rfl (WF.t hw 59 rfl) rfl (WF.r hw 59 0 58 rfl) ?_
  show Wp d 201 96 [some (.ref 59), some (.int (8))] [.ref 60] h Q
  refine Wp.seg 5 (pc1 := 101) (ls1 := [some (.ref 59), some (.int (8))]) (st1 := [.int (5), .ref 60]) rfl ?_
  refine Wp.iald (j := 5) (k := 20) (n := 585) rfl (WF.t hw 60 rfl) rfl rfl (by decide) (by decide) ?_
  rw [show h.2.2.1 60 5 = A 5 from (congrFun hk.1 5)]
  exact Wp.reti rfl rfl hQ
set_option maxHeartbeats 4000000 in
theorem t_cst3 {d : Nat} {Q : KO → Prop} {h : KH} (hw : WF h) {A : Nat → Int32} {RL : List Rul} {n c dn en : Nat} (hk : cityOK h 1 A RL n c dn en) (hd : 3 ≤ d) (hQ : ((if dn < en then (0 : Int32) else (1 : Int32)) = 0 → Q (some (.int (0)), h)) ∧ (¬ ((if dn < en then (0 : Int32) else (1 : Int32)) = 0) → Q (some (.int (1)), h))) : Cl d 100 [.ref 0, .int (3)] h Q := by
  refine Cl.of (ls := [some (.ref 0), some (.int (3))]) rfl rfl ?_
  refine Wp.seg 1 (pc1 := 1) (ls1 := [some (.ref 0), some (.int (3))]) (st1 := [.int (3)]) rfl ?_
  refine Wp.br (pc1 := 76) (st1 := []) rfl rfl ?_
  refine Wp.seg 1 (pc1 := 77) (ls1 := [some (.ref 0), some (.int (3))]) (st1 := [.ref 0]) rfl ?_
  refine Wp.gr (t := (10, 0)) (v := some (1)) rfl (WF.t hw 0 rfl) rfl (WF.r hw 0 0 0 rfl) ?_
  show Wp d 100 80 [some (.ref 0), some (.int (3))] [.ref 1] h Q
  refine Wp.invV (d2 := 0) (as := [.ref 1]) (r := []) (t := (1, 0)) rfl rfl rfl rfl (WF.t hw 1 rfl) rfl rfl ⟨rfl, rfl⟩ (by omega) (s_over hw cA1 hk ?_)
  show Wp d 100 83 [some (.ref 0), some (.int (3))] [.int (if dn < en then (0 : Int32) else (1 : Int32))] h Q
  refine Wp.if1 rfl (fun (c1 : (if dn < en then (0 : Int32) else (1 : Int32)) = 0) => ?_) (fun (c1 : ¬ ((if dn < en then (0 : Int32) else (1 : Int32)) = 0)) => ?_)
  · refine Wp.seg 1 (pc1 := 91) (ls1 := [some (.ref 0), some (.int (3))]) (st1 := [.int (0)]) rfl ?_
    exact Wp.reti rfl rfl (hQ.1 c1)
  · refine Wp.seg 2 (pc1 := 91) (ls1 := [some (.ref 0), some (.int (3))]) (st1 := [.int (1)]) rfl ?_
    exact Wp.reti rfl rfl (hQ.2 c1)
set_option maxHeartbeats 4000000 in
theorem t_mst3 {d : Nat} {Q : KO → Prop} {h : KH} (hw : WF h) {A : Nat → Int32} {RL : List Rul} {n c dn en : Nat} (hk : refOK h A RL n c dn en) (hd : 4 ≤ d) (hQ : ((if dn < en then (0 : Int32) else (1 : Int32)) = 0 → Q (some (.int (0)), h)) ∧ (¬ ((if dn < en then (0 : Int32) else (1 : Int32)) = 0) → Q (some (.int (1)), h))) : Cl d 201 [.ref 59, .int (3)] h Q := by
  refine Cl.of (ls := [some (.ref 59), some (.int (3))]) rfl rfl ?_
  refine Wp.seg 1 (pc1 := 1) (ls1 := [some (.ref 59), some (.int (3))]) (st1 := [.int (3)]) rfl ?_
  refine Wp.br (pc1 := 74) (st1 := []) rfl rfl ?_
  refine Wp.seg 1 (pc1 := 75) (ls1 := [some (.ref 59), some (.int (3))]) (st1 := [.ref 59]) rfl ?_
  refine Wp.invV (d2 := 0) (as := [.ref 59]) (r := []) (t := (11, 0)) rfl rfl rfl rfl (WF.t hw 59 rfl) rfl rfl ⟨rfl, rfl⟩ (by omega) (r_over hw hk ?_)
  show Wp d 201 78 [some (.ref 59), some (.int (3))] [.int (if dn < en then (0 : Int32) else (1 : Int32))] h Q
  refine Wp.if1 rfl (fun (c1 : (if dn < en then (0 : Int32) else (1 : Int32)) = 0) => ?_) (fun (c1 : ¬ ((if dn < en then (0 : Int32) else (1 : Int32)) = 0)) => ?_)
  · refine Wp.seg 1 (pc1 := 86) (ls1 := [some (.ref 59), some (.int (3))]) (st1 := [.int (0)]) rfl ?_
    exact Wp.reti rfl rfl (hQ.1 c1)
  · refine Wp.seg 2 (pc1 := 86) (ls1 := [some (.ref 59), some (.int (3))]) (st1 := [.int (1)]) rfl ?_
    exact Wp.reti rfl rfl (hQ.2 c1)
set_option maxHeartbeats 4000000 in
theorem t_cstX {d : Nat} {Q : KO → Prop} {h : KH} {w : Int32} (n0 : ¬ w = 0) (n1 : ¬ w = 1) (n2 : ¬ w = 2) (n3 : ¬ w = 3) (n4 : ¬ w = 4) (n5 : ¬ w = 5) (n6 : ¬ w = 6) (n7 : ¬ w = 7) (n8 : ¬ w = 8) (hd : 0 ≤ d) (hQ : Q (some (.int (-1)), h)) : Cl d 100 [.ref 0, .int (w)] h Q := by
  refine Cl.of (ls := [some (.ref 0), some (.int (w))]) rfl rfl ?_
  refine Wp.seg 1 (pc1 := 1) (ls1 := [some (.ref 0), some (.int (w))]) (st1 := [.int (w)]) rfl ?_
  refine Wp.tsw rfl ?_
  refine ⟨fun c1 => absurd c1 (n0), fun c1 => ?_⟩
  refine ⟨fun c2 => absurd c2 (n1), fun c2 => ?_⟩
  refine ⟨fun c3 => absurd c3 (n2), fun c3 => ?_⟩
  refine ⟨fun c4 => absurd c4 (n3), fun c4 => ?_⟩
  refine ⟨fun c5 => absurd c5 (n4), fun c5 => ?_⟩
  refine ⟨fun c6 => absurd c6 (n5), fun c6 => ?_⟩
  refine ⟨fun c7 => absurd c7 (n6), fun c7 => ?_⟩
  refine ⟨fun c8 => absurd c8 (n7), fun c8 => ?_⟩
  refine ⟨fun c9 => absurd c9 (n8), fun c9 => ?_⟩
  show Wp d 100 132 [some (.ref 0), some (.int (w))] [] h Q
  refine Wp.seg 1 (pc1 := 133) (ls1 := [some (.ref 0), some (.int (w))]) (st1 := [.int (-1)]) rfl ?_
  exact Wp.reti rfl rfl hQ
set_option maxHeartbeats 4000000 in
theorem t_mstX {d : Nat} {Q : KO → Prop} {h : KH} {w : Int32} (n0 : ¬ w = 0) (n1 : ¬ w = 1) (n2 : ¬ w = 2) (n3 : ¬ w = 3) (n4 : ¬ w = 4) (n5 : ¬ w = 5) (n6 : ¬ w = 6) (n7 : ¬ w = 7) (n8 : ¬ w = 8) (hd : 0 ≤ d) (hQ : Q (some (.int (-1)), h)) : Cl d 201 [.ref 59, .int (w)] h Q := by
  refine Cl.of (ls := [some (.ref 59), some (.int (w))]) rfl rfl ?_
  refine Wp.seg 1 (pc1 := 1) (ls1 := [some (.ref 59), some (.int (w))]) (st1 := [.int (w)]) rfl ?_
  refine Wp.tsw rfl ?_
  refine ⟨fun c1 => absurd c1 (n0), fun c1 => ?_⟩
  refine ⟨fun c2 => absurd c2 (n1), fun c2 => ?_⟩
  refine ⟨fun c3 => absurd c3 (n2), fun c3 => ?_⟩
  refine ⟨fun c4 => absurd c4 (n3), fun c4 => ?_⟩
  refine ⟨fun c5 => absurd c5 (n4), fun c5 => ?_⟩
  refine ⟨fun c6 => absurd c6 (n5), fun c6 => ?_⟩
  refine ⟨fun c7 => absurd c7 (n6), fun c7 => ?_⟩
  refine ⟨fun c8 => absurd c8 (n7), fun c8 => ?_⟩
  refine ⟨fun c9 => absurd c9 (n8), fun c9 => ?_⟩
  show Wp d 201 103 [some (.ref 59), some (.int (w))] [] h Q
  refine Wp.seg 1 (pc1 := 104) (ls1 := [some (.ref 59), some (.int (w))]) (st1 := [.int (-1)]) rfl ?_
  exact Wp.reti rfl rfl hQ
theorem J_state {h : KH} (hw : WF h) {A : Nat → Int32} {RL : List Rul} {n c dn en : Nat} (hk : both h A RL n c dn en) (w : Int32) : JJ h RL 100 [.ref 0, .int w] 201 [.ref 59, .int w] := by
  by_cases w0 : w = 0
  · subst w0
    exact J_q (v := A 1) (dc := 3) (dm := 4) hw hk (t_cst0 hw hk.1 (by decide) (qu_i (Quiet.refl h))) (fun k kw kk => t_mst0 kw kk (by decide) (qu_i (Quiet.refl k)))
  by_cases w1 : w = 1
  · subst w1
    exact J_q (v := A 0) (dc := 3) (dm := 4) hw hk (t_cst1 hw hk.1 (by decide) (qu_i (Quiet.refl h))) (fun k kw kk => t_mst1 kw kk (by decide) (qu_i (Quiet.refl k)))
  by_cases w2 : w = 2
  · subst w2
    exact J_q (v := A 6) (dc := 3) (dm := 4) hw hk (t_cst2 hw hk.1 (by decide) (qu_i (Quiet.refl h))) (fun k kw kk => t_mst2 kw kk (by decide) (qu_i (Quiet.refl k)))
  by_cases w3 : w = 3
  · subst w3
    by_cases q : dn < en
    · refine J_q (v := 0) (dc := 3) (dm := 4) hw hk (t_cst3 hw hk.1 (by decide) ⟨fun _ => qu_i (Quiet.refl h), fun c1 => absurd (if_pos q) c1⟩) (fun k kw kk => t_mst3 kw kk (by decide) ⟨fun _ => qu_i (Quiet.refl k), fun c1 => absurd (if_pos q) c1⟩)
    · refine J_q (v := 1) (dc := 3) (dm := 4) hw hk (t_cst3 hw hk.1 (by decide) ⟨fun c1 => absurd (c1.symm.trans (if_neg q)) (by decide), fun _ => qu_i (Quiet.refl h)⟩) (fun k kw kk => t_mst3 kw kk (by decide) ⟨fun c1 => absurd (c1.symm.trans (if_neg q)) (by decide), fun _ => qu_i (Quiet.refl k)⟩)
  by_cases w4 : w = 4
  · subst w4
    exact J_q (v := shA c A) (dc := 3) (dm := 4) hw hk (t_cst4 hw hk.1 (by decide) (qu_i (Quiet.refl h))) (fun k kw kk => t_mst4 kw kk (by decide) (qu_i (Quiet.refl k)))
  by_cases w5 : w = 5
  · subst w5
    exact J_q (v := A 2) (dc := 3) (dm := 4) hw hk (t_cst5 hw hk.1 (by decide) (qu_i (Quiet.refl h))) (fun k kw kk => t_mst5 kw kk (by decide) (qu_i (Quiet.refl k)))
  by_cases w6 : w = 6
  · subst w6
    exact J_q (v := A 3) (dc := 3) (dm := 4) hw hk (t_cst6 hw hk.1 (by decide) (qu_i (Quiet.refl h))) (fun k kw kk => t_mst6 kw kk (by decide) (qu_i (Quiet.refl k)))
  by_cases w7 : w = 7
  · subst w7
    exact J_q (v := A 4) (dc := 3) (dm := 4) hw hk (t_cst7 hw hk.1 (by decide) (qu_i (Quiet.refl h))) (fun k kw kk => t_mst7 kw kk (by decide) (qu_i (Quiet.refl k)))
  by_cases w8 : w = 8
  · subst w8
    exact J_q (v := A 5) (dc := 3) (dm := 4) hw hk (t_cst8 hw hk.1 (by decide) (qu_i (Quiet.refl h))) (fun k kw kk => t_mst8 kw kk (by decide) (qu_i (Quiet.refl k)))
  exact J_q (v := -1) (dc := 0) (dm := 0) hw hk (t_cstX w0 w1 w2 w3 w4 w5 w6 w7 w8 (by decide) (qu_i (Quiet.refl h))) (fun k kw kk => t_mstX w0 w1 w2 w3 w4 w5 w6 w7 w8 (by decide) (qu_i (Quiet.refl k)))
set_option maxHeartbeats 4000000 in
theorem t_cho {d : Nat} {Q : KO → Prop} {h : KH} (hw : WF h) {A : Nat → Int32} {RL : List Rul} {n c dn en : Nat} (hk : cityOK h 1 A RL n c dn en) {v w : Int32} (hd : 4 ≤ d) (hQ : ((inB v 0 ((n : Int) - 1)) = true → Wp d 89 10 ([some (.ref 0), some (.int (v)), some (.int (w)), none]) [] h Q) ∧ ((inB v 0 ((n : Int) - 1)) = false → Q (some (.int (-1)), h))) : Cl d 89 [.ref 0, .int (v), .int (w)] h Q := by
  refine Cl.of (ls := [some (.ref 0), some (.int (v)), some (.int (w)), none]) rfl rfl ?_
  refine Wp.seg 2 (pc1 := 2) (ls1 := [some (.ref 0), some (.int (v)), some (.int (w)), none]) (st1 := [.int (v), .ref 0]) rfl ?_
  refine Wp.invV (d2 := 0) (as := [.ref 0, .int (v)]) (r := []) (t := (10, 0)) rfl rfl rfl rfl (WF.t hw 0 rfl) rfl rfl ⟨rfl, rfl⟩ (by omega) (s_hand hw hk ?_)
  show Wp d 89 5 [some (.ref 0), some (.int (v)), some (.int (w)), none] [.int (b32 (inB v 0 ((n : Int) - 1)))] h Q
  refine Wp.ifnz rfl (fun (c1 : (inB v 0 ((n : Int) - 1)) = true) => ?_) (fun (c1 : (inB v 0 ((n : Int) - 1)) = false) => ?_)
  · exact (hQ.1 c1)
  · refine Wp.seg 1 (pc1 := 9) (ls1 := [some (.ref 0), some (.int (v)), some (.int (w)), none]) (st1 := [.int (-1)]) rfl ?_
    exact Wp.reti rfl rfl (hQ.2 c1)
set_option maxHeartbeats 4000000 in
theorem t_mho {d : Nat} {Q : KO → Prop} {h : KH} (hw : WF h) {A : Nat → Int32} {RL : List Rul} {n c dn en : Nat} (hk : refOK h A RL n c dn en) {v w : Int32} (hd : 5 ≤ d) (hQ : ((inB v 0 ((n : Int) - 1)) = true → Wp d 195 10 ([some (.ref 59), some (.int (v)), some (.int (w))]) [] h Q) ∧ ((inB v 0 ((n : Int) - 1)) = false → Q (some (.int (-1)), h))) : Cl d 195 [.ref 59, .int (v), .int (w)] h Q := by
  refine Cl.of (ls := [some (.ref 59), some (.int (v)), some (.int (w))]) rfl rfl ?_
  refine Wp.seg 2 (pc1 := 2) (ls1 := [some (.ref 59), some (.int (v)), some (.int (w))]) (st1 := [.int (v), .ref 59]) rfl ?_
  refine Wp.invV (d2 := 1) (as := [.ref 59, .int (v)]) (r := []) (t := (11, 0)) rfl rfl rfl rfl (WF.t hw 59 rfl) rfl rfl ⟨rfl, rfl⟩ (by omega) (m_hand hw hk (Nat.le_refl _) ?_)
  show Wp d 195 5 [some (.ref 59), some (.int (v)), some (.int (w))] [.int (b32 (inB v 0 ((n : Int) - 1)))] h Q
  refine Wp.ifnz rfl (fun (c1 : (inB v 0 ((n : Int) - 1)) = true) => ?_) (fun (c1 : (inB v 0 ((n : Int) - 1)) = false) => ?_)
  · exact (hQ.1 c1)
  · refine Wp.seg 1 (pc1 := 9) (ls1 := [some (.ref 59), some (.int (v)), some (.int (w))]) (st1 := [.int (-1)]) rfl ?_
    exact Wp.reti rfl rfl (hQ.2 c1)
set_option maxHeartbeats 4000000 in
theorem t_cho0 {d : Nat} {Q : KO → Prop} {h : KH} (hw : WF h) {A : Nat → Int32} {RL : List Rul} {n c dn en : Nat} (hk : cityOK h 1 A RL n c dn en) {j kd p f y : Nat} (hj : j < n) (hj6 : j < 6) (hk0 : h.2.2.1 (1 + 1) (4 * j + 0) = Int32.ofNat kd) (hk1 : h.2.2.1 (1 + 1) (4 * j + 1) = Int32.ofNat p) (hk2 : h.2.2.1 (1 + 1) (4 * j + 2) = Int32.ofNat f) (hk3 : h.2.2.1 (1 + 1) (4 * j + 3) = Int32.ofNat y) {RLc : List Rul} (hho : handOK (cS h.2.2.1 1) j) (hRc : crul h 1 RLc) (hd : 4 ≤ d) (hQ : Q (some (.int (Int32.ofNat kd)), h)) : Wp d 89 10 [some (.ref 0), some (.int (Int32.ofNat j)), some (.int (0)), none] [] h Q := by
  refine Wp.seg 1 (pc1 := 11) (ls1 := [some (.ref 0), some (.int (Int32.ofNat j)), some (.int (0)), none]) (st1 := [.ref 0]) rfl ?_
  refine Wp.gr (t := (10, 0)) (v := some (1)) rfl (WF.t hw 0 rfl) rfl (WF.r hw 0 0 0 rfl) ?_
  show Wp d 89 14 [some (.ref 0), some (.int (Int32.ofNat j)), some (.int (0)), none] [.ref 1] h Q
  refine Wp.seg 2 (pc1 := 16) (ls1 := [some (.ref 0), some (.int (Int32.ofNat j)), some (.int (0)), none]) (st1 := [.int (0), .int (Int32.ofNat j), .ref 1]) rfl ?_
  refine Wp.invV (d2 := 0) (as := [.ref 1, .int (Int32.ofNat j), .int (0)]) (r := []) (t := (1, 0)) rfl rfl rfl rfl (WF.t hw 1 rfl) rfl rfl ⟨rfl, rfl⟩ (by omega) (s_cget hw cA1 (n := j) (w := 0) rfl (by omega) hk0 ?_)
  show Wp d 89 19 [some (.ref 0), some (.int (Int32.ofNat j)), some (.int (0)), none] [.int (Int32.ofNat kd)] h Q
  refine Wp.seg 2 (pc1 := 21) (ls1 := [some (.ref 0), some (.int (Int32.ofNat j)), some (.int (0)), some (.int (Int32.ofNat kd))]) (st1 := [.int (0)]) rfl ?_
  refine Wp.br (pc1 := 72) (st1 := []) rfl rfl ?_
  refine Wp.seg 1 (pc1 := 73) (ls1 := [some (.ref 0), some (.int (Int32.ofNat j)), some (.int (0)), some (.int (Int32.ofNat kd))]) (st1 := [.ref 0]) rfl ?_
  refine Wp.gr (t := (10, 0)) (v := some (1)) rfl (WF.t hw 0 rfl) rfl (WF.r hw 0 0 0 rfl) ?_
  show Wp d 89 76 [some (.ref 0), some (.int (Int32.ofNat j)), some (.int (0)), some (.int (Int32.ofNat kd))] [.ref 1] h Q
  refine Wp.seg 2 (pc1 := 78) (ls1 := [some (.ref 0), some (.int (Int32.ofNat j)), some (.int (0)), some (.int (Int32.ofNat kd))]) (st1 := [.int (0), .int (Int32.ofNat j), .ref 1]) rfl ?_
  refine Wp.invV (d2 := 0) (as := [.ref 1, .int (Int32.ofNat j), .int (0)]) (r := []) (t := (1, 0)) rfl rfl rfl rfl (WF.t hw 1 rfl) rfl rfl ⟨rfl, rfl⟩ (by omega) (s_cget hw cA1 (n := j) (w := 0) rfl (by omega) hk0 ?_)
  show Wp d 89 81 [some (.ref 0), some (.int (Int32.ofNat j)), some (.int (0)), some (.int (Int32.ofNat kd))] [.int (Int32.ofNat kd)] h Q
  exact Wp.reti rfl rfl hQ
set_option maxHeartbeats 4000000 in
theorem t_mho0 {d : Nat} {Q : KO → Prop} {h : KH} (hw : WF h) {j kd p f y : Nat} (hj6 : j < 6) (hm0 : h.2.2.1 60 (11 + 4 * j + 0) = Int32.ofNat kd) (hm1 : h.2.2.1 60 (11 + 4 * j + 1) = Int32.ofNat p) (hm2 : h.2.2.1 60 (11 + 4 * j + 2) = Int32.ofNat f) (hm3 : h.2.2.1 60 (11 + 4 * j + 3) = Int32.ofNat y) {RL : List Rul} (hR : rulesS (h.2.2.1 60) RL) (hd : 5 ≤ d) (hQ : Q (some (.int (Int32.ofNat kd)), h)) : Wp d 195 10 [some (.ref 59), some (.int (Int32.ofNat j)), some (.int (0))] [] h Q := by
  refine Wp.seg 1 (pc1 := 11) (ls1 := [some (.ref 59), some (.int (Int32.ofNat j)), some (.int (0))]) (st1 := [.int (0)]) rfl ?_
  refine Wp.br (pc1 := 60) (st1 := []) rfl rfl ?_
  refine Wp.seg 3 (pc1 := 63) (ls1 := [some (.ref 59), some (.int (Int32.ofNat j)), some (.int (0))]) (st1 := [.int (0), .int (Int32.ofNat j), .ref 59]) rfl ?_
  refine Wp.invV (d2 := 0) (as := [.ref 59, .int (Int32.ofNat j), .int (0)]) (r := []) (t := (11, 0)) rfl rfl rfl rfl (WF.t hw 59 rfl) rfl rfl ⟨rfl, rfl⟩ (by omega) (s_ofv hw (n := j) (w := 0) rfl (by omega) hm0 ?_)
  show Wp d 195 66 [some (.ref 59), some (.int (Int32.ofNat j)), some (.int (0))] [.int (Int32.ofNat kd)] h Q
  exact Wp.reti rfl rfl hQ
set_option maxHeartbeats 4000000 in
theorem t_cho1 {d : Nat} {Q : KO → Prop} {h : KH} (hw : WF h) {A : Nat → Int32} {RL : List Rul} {n c dn en : Nat} (hk : cityOK h 1 A RL n c dn en) {j kd p f y : Nat} (hj : j < n) (hj6 : j < 6) (hk0 : h.2.2.1 (1 + 1) (4 * j + 0) = Int32.ofNat kd) (hk1 : h.2.2.1 (1 + 1) (4 * j + 1) = Int32.ofNat p) (hk2 : h.2.2.1 (1 + 1) (4 * j + 2) = Int32.ofNat f) (hk3 : h.2.2.1 (1 + 1) (4 * j + 3) = Int32.ofNat y) {RLc : List Rul} (hho : handOK (cS h.2.2.1 1) j) (hRc : crul h 1 RLc) (hd : 4 ≤ d) (hQ : Q (some (.int (Int32.ofNat p)), h)) : Wp d 89 10 [some (.ref 0), some (.int (Int32.ofNat j)), some (.int (1)), none] [] h Q := by
  refine Wp.seg 1 (pc1 := 11) (ls1 := [some (.ref 0), some (.int (Int32.ofNat j)), some (.int (1)), none]) (st1 := [.ref 0]) rfl ?_
  refine Wp.gr (t := (10, 0)) (v := some (1)) rfl (WF.t hw 0 rfl) rfl (WF.r hw 0 0 0 rfl) ?_
  show Wp d 89 14 [some (.ref 0), some (.int (Int32.ofNat j)), some (.int (1)), none] [.ref 1] h Q
  refine Wp.seg 2 (pc1 := 16) (ls1 := [some (.ref 0), some (.int (Int32.ofNat j)), some (.int (1)), none]) (st1 := [.int (0), .int (Int32.ofNat j), .ref 1]) rfl ?_
  refine Wp.invV (d2 := 0) (as := [.ref 1, .int (Int32.ofNat j), .int (0)]) (r := []) (t := (1, 0)) rfl rfl rfl rfl (WF.t hw 1 rfl) rfl rfl ⟨rfl, rfl⟩ (by omega) (s_cget hw cA1 (n := j) (w := 0) rfl (by omega) hk0 ?_)
  show Wp d 89 19 [some (.ref 0), some (.int (Int32.ofNat j)), some (.int (1)), none] [.int (Int32.ofNat kd)] h Q
  refine Wp.seg 2 (pc1 := 21) (ls1 := [some (.ref 0), some (.int (Int32.ofNat j)), some (.int (1)), some (.int (Int32.ofNat kd))]) (st1 := [.int (1)]) rfl ?_
  refine Wp.br (pc1 := 72) (st1 := []) rfl rfl ?_
  refine Wp.seg 1 (pc1 := 73) (ls1 := [some (.ref 0), some (.int (Int32.ofNat j)), some (.int (1)), some (.int (Int32.ofNat kd))]) (st1 := [.ref 0]) rfl ?_
  refine Wp.gr (t := (10, 0)) (v := some (1)) rfl (WF.t hw 0 rfl) rfl (WF.r hw 0 0 0 rfl) ?_
  show Wp d 89 76 [some (.ref 0), some (.int (Int32.ofNat j)), some (.int (1)), some (.int (Int32.ofNat kd))] [.ref 1] h Q
  refine Wp.seg 2 (pc1 := 78) (ls1 := [some (.ref 0), some (.int (Int32.ofNat j)), some (.int (1)), some (.int (Int32.ofNat kd))]) (st1 := [.int (1), .int (Int32.ofNat j), .ref 1]) rfl ?_
  refine Wp.invV (d2 := 0) (as := [.ref 1, .int (Int32.ofNat j), .int (1)]) (r := []) (t := (1, 0)) rfl rfl rfl rfl (WF.t hw 1 rfl) rfl rfl ⟨rfl, rfl⟩ (by omega) (s_cget hw cA1 (n := j) (w := 1) rfl (by omega) hk1 ?_)
  show Wp d 89 81 [some (.ref 0), some (.int (Int32.ofNat j)), some (.int (1)), some (.int (Int32.ofNat kd))] [.int (Int32.ofNat p)] h Q
  exact Wp.reti rfl rfl hQ
set_option maxHeartbeats 4000000 in
theorem t_mho1 {d : Nat} {Q : KO → Prop} {h : KH} (hw : WF h) {j kd p f y : Nat} (hj6 : j < 6) (hm0 : h.2.2.1 60 (11 + 4 * j + 0) = Int32.ofNat kd) (hm1 : h.2.2.1 60 (11 + 4 * j + 1) = Int32.ofNat p) (hm2 : h.2.2.1 60 (11 + 4 * j + 2) = Int32.ofNat f) (hm3 : h.2.2.1 60 (11 + 4 * j + 3) = Int32.ofNat y) {RL : List Rul} (hR : rulesS (h.2.2.1 60) RL) (hd : 5 ≤ d) (hQ : Q (some (.int (Int32.ofNat p)), h)) : Wp d 195 10 [some (.ref 59), some (.int (Int32.ofNat j)), some (.int (1))] [] h Q := by
  refine Wp.seg 1 (pc1 := 11) (ls1 := [some (.ref 59), some (.int (Int32.ofNat j)), some (.int (1))]) (st1 := [.int (1)]) rfl ?_
  refine Wp.br (pc1 := 60) (st1 := []) rfl rfl ?_
  refine Wp.seg 3 (pc1 := 63) (ls1 := [some (.ref 59), some (.int (Int32.ofNat j)), some (.int (1))]) (st1 := [.int (1), .int (Int32.ofNat j), .ref 59]) rfl ?_
  refine Wp.invV (d2 := 0) (as := [.ref 59, .int (Int32.ofNat j), .int (1)]) (r := []) (t := (11, 0)) rfl rfl rfl rfl (WF.t hw 59 rfl) rfl rfl ⟨rfl, rfl⟩ (by omega) (s_ofv hw (n := j) (w := 1) rfl (by omega) hm1 ?_)
  show Wp d 195 66 [some (.ref 59), some (.int (Int32.ofNat j)), some (.int (1))] [.int (Int32.ofNat p)] h Q
  exact Wp.reti rfl rfl hQ
set_option maxHeartbeats 4000000 in
theorem t_cho2 {d : Nat} {Q : KO → Prop} {h : KH} (hw : WF h) {A : Nat → Int32} {RL : List Rul} {n c dn en : Nat} (hk : cityOK h 1 A RL n c dn en) {j kd p f y : Nat} (hj : j < n) (hj6 : j < 6) (hk0 : h.2.2.1 (1 + 1) (4 * j + 0) = Int32.ofNat kd) (hk1 : h.2.2.1 (1 + 1) (4 * j + 1) = Int32.ofNat p) (hk2 : h.2.2.1 (1 + 1) (4 * j + 2) = Int32.ofNat f) (hk3 : h.2.2.1 (1 + 1) (4 * j + 3) = Int32.ofNat y) {RLc : List Rul} (hho : handOK (cS h.2.2.1 1) j) (hRc : crul h 1 RLc) (hd : 4 ≤ d) (hQ : Q (some (.int (Int32.ofNat f)), h)) : Wp d 89 10 [some (.ref 0), some (.int (Int32.ofNat j)), some (.int (2)), none] [] h Q := by
  refine Wp.seg 1 (pc1 := 11) (ls1 := [some (.ref 0), some (.int (Int32.ofNat j)), some (.int (2)), none]) (st1 := [.ref 0]) rfl ?_
  refine Wp.gr (t := (10, 0)) (v := some (1)) rfl (WF.t hw 0 rfl) rfl (WF.r hw 0 0 0 rfl) ?_
  show Wp d 89 14 [some (.ref 0), some (.int (Int32.ofNat j)), some (.int (2)), none] [.ref 1] h Q
  refine Wp.seg 2 (pc1 := 16) (ls1 := [some (.ref 0), some (.int (Int32.ofNat j)), some (.int (2)), none]) (st1 := [.int (0), .int (Int32.ofNat j), .ref 1]) rfl ?_
  refine Wp.invV (d2 := 0) (as := [.ref 1, .int (Int32.ofNat j), .int (0)]) (r := []) (t := (1, 0)) rfl rfl rfl rfl (WF.t hw 1 rfl) rfl rfl ⟨rfl, rfl⟩ (by omega) (s_cget hw cA1 (n := j) (w := 0) rfl (by omega) hk0 ?_)
  show Wp d 89 19 [some (.ref 0), some (.int (Int32.ofNat j)), some (.int (2)), none] [.int (Int32.ofNat kd)] h Q
  refine Wp.seg 2 (pc1 := 21) (ls1 := [some (.ref 0), some (.int (Int32.ofNat j)), some (.int (2)), some (.int (Int32.ofNat kd))]) (st1 := [.int (2)]) rfl ?_
  refine Wp.br (pc1 := 72) (st1 := []) rfl rfl ?_
  refine Wp.seg 1 (pc1 := 73) (ls1 := [some (.ref 0), some (.int (Int32.ofNat j)), some (.int (2)), some (.int (Int32.ofNat kd))]) (st1 := [.ref 0]) rfl ?_
  refine Wp.gr (t := (10, 0)) (v := some (1)) rfl (WF.t hw 0 rfl) rfl (WF.r hw 0 0 0 rfl) ?_
  show Wp d 89 76 [some (.ref 0), some (.int (Int32.ofNat j)), some (.int (2)), some (.int (Int32.ofNat kd))] [.ref 1] h Q
  refine Wp.seg 2 (pc1 := 78) (ls1 := [some (.ref 0), some (.int (Int32.ofNat j)), some (.int (2)), some (.int (Int32.ofNat kd))]) (st1 := [.int (2), .int (Int32.ofNat j), .ref 1]) rfl ?_
  refine Wp.invV (d2 := 0) (as := [.ref 1, .int (Int32.ofNat j), .int (2)]) (r := []) (t := (1, 0)) rfl rfl rfl rfl (WF.t hw 1 rfl) rfl rfl ⟨rfl, rfl⟩ (by omega) (s_cget hw cA1 (n := j) (w := 2) rfl (by omega) hk2 ?_)
  show Wp d 89 81 [some (.ref 0), some (.int (Int32.ofNat j)), some (.int (2)), some (.int (Int32.ofNat kd))] [.int (Int32.ofNat f)] h Q
  exact Wp.reti rfl rfl hQ
set_option maxHeartbeats 4000000 in
theorem t_mho2 {d : Nat} {Q : KO → Prop} {h : KH} (hw : WF h) {j kd p f y : Nat} (hj6 : j < 6) (hm0 : h.2.2.1 60 (11 + 4 * j + 0) = Int32.ofNat kd) (hm1 : h.2.2.1 60 (11 + 4 * j + 1) = Int32.ofNat p) (hm2 : h.2.2.1 60 (11 + 4 * j + 2) = Int32.ofNat f) (hm3 : h.2.2.1 60 (11 + 4 * j + 3) = Int32.ofNat y) {RL : List Rul} (hR : rulesS (h.2.2.1 60) RL) (hd : 5 ≤ d) (hQ : Q (some (.int (Int32.ofNat f)), h)) : Wp d 195 10 [some (.ref 59), some (.int (Int32.ofNat j)), some (.int (2))] [] h Q := by
  refine Wp.seg 1 (pc1 := 11) (ls1 := [some (.ref 59), some (.int (Int32.ofNat j)), some (.int (2))]) (st1 := [.int (2)]) rfl ?_
  refine Wp.br (pc1 := 60) (st1 := []) rfl rfl ?_
  refine Wp.seg 3 (pc1 := 63) (ls1 := [some (.ref 59), some (.int (Int32.ofNat j)), some (.int (2))]) (st1 := [.int (2), .int (Int32.ofNat j), .ref 59]) rfl ?_
  refine Wp.invV (d2 := 0) (as := [.ref 59, .int (Int32.ofNat j), .int (2)]) (r := []) (t := (11, 0)) rfl rfl rfl rfl (WF.t hw 59 rfl) rfl rfl ⟨rfl, rfl⟩ (by omega) (s_ofv hw (n := j) (w := 2) rfl (by omega) hm2 ?_)
  show Wp d 195 66 [some (.ref 59), some (.int (Int32.ofNat j)), some (.int (2))] [.int (Int32.ofNat f)] h Q
  exact Wp.reti rfl rfl hQ
set_option maxHeartbeats 4000000 in
theorem t_cho3 {d : Nat} {Q : KO → Prop} {h : KH} (hw : WF h) {A : Nat → Int32} {RL : List Rul} {n c dn en : Nat} (hk : cityOK h 1 A RL n c dn en) {j kd p f y : Nat} (hj : j < n) (hj6 : j < 6) (hk0 : h.2.2.1 (1 + 1) (4 * j + 0) = Int32.ofNat kd) (hk1 : h.2.2.1 (1 + 1) (4 * j + 1) = Int32.ofNat p) (hk2 : h.2.2.1 (1 + 1) (4 * j + 2) = Int32.ofNat f) (hk3 : h.2.2.1 (1 + 1) (4 * j + 3) = Int32.ofNat y) {RLc : List Rul} (hho : handOK (cS h.2.2.1 1) j) (hRc : crul h 1 RLc) (hd : 4 ≤ d) (hQ : Q (some (.int (Int32.ofNat y)), h)) : Wp d 89 10 [some (.ref 0), some (.int (Int32.ofNat j)), some (.int (3)), none] [] h Q := by
  refine Wp.seg 1 (pc1 := 11) (ls1 := [some (.ref 0), some (.int (Int32.ofNat j)), some (.int (3)), none]) (st1 := [.ref 0]) rfl ?_
  refine Wp.gr (t := (10, 0)) (v := some (1)) rfl (WF.t hw 0 rfl) rfl (WF.r hw 0 0 0 rfl) ?_
  show Wp d 89 14 [some (.ref 0), some (.int (Int32.ofNat j)), some (.int (3)), none] [.ref 1] h Q
  refine Wp.seg 2 (pc1 := 16) (ls1 := [some (.ref 0), some (.int (Int32.ofNat j)), some (.int (3)), none]) (st1 := [.int (0), .int (Int32.ofNat j), .ref 1]) rfl ?_
  refine Wp.invV (d2 := 0) (as := [.ref 1, .int (Int32.ofNat j), .int (0)]) (r := []) (t := (1, 0)) rfl rfl rfl rfl (WF.t hw 1 rfl) rfl rfl ⟨rfl, rfl⟩ (by omega) (s_cget hw cA1 (n := j) (w := 0) rfl (by omega) hk0 ?_)
  show Wp d 89 19 [some (.ref 0), some (.int (Int32.ofNat j)), some (.int (3)), none] [.int (Int32.ofNat kd)] h Q
  refine Wp.seg 2 (pc1 := 21) (ls1 := [some (.ref 0), some (.int (Int32.ofNat j)), some (.int (3)), some (.int (Int32.ofNat kd))]) (st1 := [.int (3)]) rfl ?_
  refine Wp.br (pc1 := 72) (st1 := []) rfl rfl ?_
  refine Wp.seg 1 (pc1 := 73) (ls1 := [some (.ref 0), some (.int (Int32.ofNat j)), some (.int (3)), some (.int (Int32.ofNat kd))]) (st1 := [.ref 0]) rfl ?_
  refine Wp.gr (t := (10, 0)) (v := some (1)) rfl (WF.t hw 0 rfl) rfl (WF.r hw 0 0 0 rfl) ?_
  show Wp d 89 76 [some (.ref 0), some (.int (Int32.ofNat j)), some (.int (3)), some (.int (Int32.ofNat kd))] [.ref 1] h Q
  refine Wp.seg 2 (pc1 := 78) (ls1 := [some (.ref 0), some (.int (Int32.ofNat j)), some (.int (3)), some (.int (Int32.ofNat kd))]) (st1 := [.int (3), .int (Int32.ofNat j), .ref 1]) rfl ?_
  refine Wp.invV (d2 := 0) (as := [.ref 1, .int (Int32.ofNat j), .int (3)]) (r := []) (t := (1, 0)) rfl rfl rfl rfl (WF.t hw 1 rfl) rfl rfl ⟨rfl, rfl⟩ (by omega) (s_cget hw cA1 (n := j) (w := 3) rfl (by omega) hk3 ?_)
  show Wp d 89 81 [some (.ref 0), some (.int (Int32.ofNat j)), some (.int (3)), some (.int (Int32.ofNat kd))] [.int (Int32.ofNat y)] h Q
  exact Wp.reti rfl rfl hQ
set_option maxHeartbeats 4000000 in
theorem t_mho3 {d : Nat} {Q : KO → Prop} {h : KH} (hw : WF h) {j kd p f y : Nat} (hj6 : j < 6) (hm0 : h.2.2.1 60 (11 + 4 * j + 0) = Int32.ofNat kd) (hm1 : h.2.2.1 60 (11 + 4 * j + 1) = Int32.ofNat p) (hm2 : h.2.2.1 60 (11 + 4 * j + 2) = Int32.ofNat f) (hm3 : h.2.2.1 60 (11 + 4 * j + 3) = Int32.ofNat y) {RL : List Rul} (hR : rulesS (h.2.2.1 60) RL) (hd : 5 ≤ d) (hQ : Q (some (.int (Int32.ofNat y)), h)) : Wp d 195 10 [some (.ref 59), some (.int (Int32.ofNat j)), some (.int (3))] [] h Q := by
  refine Wp.seg 1 (pc1 := 11) (ls1 := [some (.ref 59), some (.int (Int32.ofNat j)), some (.int (3))]) (st1 := [.int (3)]) rfl ?_
  refine Wp.br (pc1 := 60) (st1 := []) rfl rfl ?_
  refine Wp.seg 3 (pc1 := 63) (ls1 := [some (.ref 59), some (.int (Int32.ofNat j)), some (.int (3))]) (st1 := [.int (3), .int (Int32.ofNat j), .ref 59]) rfl ?_
  refine Wp.invV (d2 := 0) (as := [.ref 59, .int (Int32.ofNat j), .int (3)]) (r := []) (t := (11, 0)) rfl rfl rfl rfl (WF.t hw 59 rfl) rfl rfl ⟨rfl, rfl⟩ (by omega) (s_ofv hw (n := j) (w := 3) rfl (by omega) hm3 ?_)
  show Wp d 195 66 [some (.ref 59), some (.int (Int32.ofNat j)), some (.int (3))] [.int (Int32.ofNat y)] h Q
  exact Wp.reti rfl rfl hQ
set_option maxHeartbeats 4000000 in
theorem t_cho4 {d : Nat} {Q : KO → Prop} {h : KH} (hw : WF h) {A : Nat → Int32} {RL : List Rul} {n c dn en : Nat} (hk : cityOK h 1 A RL n c dn en) {j kd p f y : Nat} (hj : j < n) (hj6 : j < 6) (hk0 : h.2.2.1 (1 + 1) (4 * j + 0) = Int32.ofNat kd) (hk1 : h.2.2.1 (1 + 1) (4 * j + 1) = Int32.ofNat p) (hk2 : h.2.2.1 (1 + 1) (4 * j + 2) = Int32.ofNat f) (hk3 : h.2.2.1 (1 + 1) (4 * j + 3) = Int32.ofNat y) {RLc : List Rul} (hho : handOK (cS h.2.2.1 1) j) (hRc : crul h 1 RLc) (hd : 4 ≤ d) (hQ : Q (some (.int (f_cStrokes (Int32.ofNat kd) (Int32.ofNat f))), h)) : Wp d 89 10 [some (.ref 0), some (.int (Int32.ofNat j)), some (.int (4)), none] [] h Q := by
  refine Wp.seg 1 (pc1 := 11) (ls1 := [some (.ref 0), some (.int (Int32.ofNat j)), some (.int (4)), none]) (st1 := [.ref 0]) rfl ?_
  refine Wp.gr (t := (10, 0)) (v := some (1)) rfl (WF.t hw 0 rfl) rfl (WF.r hw 0 0 0 rfl) ?_
  show Wp d 89 14 [some (.ref 0), some (.int (Int32.ofNat j)), some (.int (4)), none] [.ref 1] h Q
  refine Wp.seg 2 (pc1 := 16) (ls1 := [some (.ref 0), some (.int (Int32.ofNat j)), some (.int (4)), none]) (st1 := [.int (0), .int (Int32.ofNat j), .ref 1]) rfl ?_
  refine Wp.invV (d2 := 0) (as := [.ref 1, .int (Int32.ofNat j), .int (0)]) (r := []) (t := (1, 0)) rfl rfl rfl rfl (WF.t hw 1 rfl) rfl rfl ⟨rfl, rfl⟩ (by omega) (s_cget hw cA1 (n := j) (w := 0) rfl (by omega) hk0 ?_)
  show Wp d 89 19 [some (.ref 0), some (.int (Int32.ofNat j)), some (.int (4)), none] [.int (Int32.ofNat kd)] h Q
  refine Wp.seg 2 (pc1 := 21) (ls1 := [some (.ref 0), some (.int (Int32.ofNat j)), some (.int (4)), some (.int (Int32.ofNat kd))]) (st1 := [.int (4)]) rfl ?_
  refine Wp.br (pc1 := 82) (st1 := []) rfl rfl ?_
  refine Wp.seg 2 (pc1 := 84) (ls1 := [some (.ref 0), some (.int (Int32.ofNat j)), some (.int (4)), some (.int (Int32.ofNat kd))]) (st1 := [.ref 0, .int (Int32.ofNat kd)]) rfl ?_
  refine Wp.gr (t := (10, 0)) (v := some (1)) rfl (WF.t hw 0 rfl) rfl (WF.r hw 0 0 0 rfl) ?_
  show Wp d 89 87 [some (.ref 0), some (.int (Int32.ofNat j)), some (.int (4)), some (.int (Int32.ofNat kd))] [.ref 1, .int (Int32.ofNat kd)] h Q
  refine Wp.seg 2 (pc1 := 89) (ls1 := [some (.ref 0), some (.int (Int32.ofNat j)), some (.int (4)), some (.int (Int32.ofNat kd))]) (st1 := [.int (2), .int (Int32.ofNat j), .ref 1, .int (Int32.ofNat kd)]) rfl ?_
  refine Wp.invV (d2 := 0) (as := [.ref 1, .int (Int32.ofNat j), .int (2)]) (r := [.int (Int32.ofNat kd)]) (t := (1, 0)) rfl rfl rfl rfl (WF.t hw 1 rfl) rfl rfl ⟨rfl, rfl⟩ (by omega) (s_cget hw cA1 (n := j) (w := 2) rfl (by omega) hk2 ?_)
  show Wp d 89 92 [some (.ref 0), some (.int (Int32.ofNat j)), some (.int (4)), some (.int (Int32.ofNat kd))] [.int (Int32.ofNat f), .int (Int32.ofNat kd)] h Q
  refine Wp.inv (d2 := 0) (as := [.int (Int32.ofNat kd), .int (Int32.ofNat f)]) (r := []) rfl rfl rfl rfl rfl rfl (by omega) (s_cStrokes (Nat.le_refl _) ?_)
  show Wp d 89 95 [some (.ref 0), some (.int (Int32.ofNat j)), some (.int (4)), some (.int (Int32.ofNat kd))] [.int (f_cStrokes (Int32.ofNat kd) (Int32.ofNat f))] h Q
  exact Wp.reti rfl rfl hQ
set_option maxHeartbeats 4000000 in
theorem t_mho4 {d : Nat} {Q : KO → Prop} {h : KH} (hw : WF h) {j kd p f y : Nat} (hj6 : j < 6) (hm0 : h.2.2.1 60 (11 + 4 * j + 0) = Int32.ofNat kd) (hm1 : h.2.2.1 60 (11 + 4 * j + 1) = Int32.ofNat p) (hm2 : h.2.2.1 60 (11 + 4 * j + 2) = Int32.ofNat f) (hm3 : h.2.2.1 60 (11 + 4 * j + 3) = Int32.ofNat y) {RL : List Rul} (hR : rulesS (h.2.2.1 60) RL) (hd : 5 ≤ d) (hQ : Q (some (.int (f_strokesOf (h.2.2.1 60) j)), h)) : Wp d 195 10 [some (.ref 59), some (.int (Int32.ofNat j)), some (.int (4))] [] h Q := by
  refine Wp.seg 1 (pc1 := 11) (ls1 := [some (.ref 59), some (.int (Int32.ofNat j)), some (.int (4))]) (st1 := [.int (4)]) rfl ?_
  refine Wp.br (pc1 := 67) (st1 := []) rfl rfl ?_
  refine Wp.seg 2 (pc1 := 69) (ls1 := [some (.ref 59), some (.int (Int32.ofNat j)), some (.int (4))]) (st1 := [.int (Int32.ofNat j), .ref 59]) rfl ?_
  refine Wp.invV (d2 := 1) (as := [.ref 59, .int (Int32.ofNat j)]) (r := []) (t := (11, 0)) rfl rfl rfl rfl (WF.t hw 59 rfl) rfl rfl ⟨rfl, rfl⟩ (by omega) (s_strokesOf hw hj6 (Nat.le_refl _) ?_)
  show Wp d 195 72 [some (.ref 59), some (.int (Int32.ofNat j)), some (.int (4))] [.int (f_strokesOf (h.2.2.1 60) j)] h Q
  exact Wp.reti rfl rfl hQ
set_option maxHeartbeats 4000000 in
theorem t_cho5 {d : Nat} {Q : KO → Prop} {h : KH} (hw : WF h) {A : Nat → Int32} {RL : List Rul} {n c dn en : Nat} (hk : cityOK h 1 A RL n c dn en) {j kd p f y : Nat} (hj : j < n) (hj6 : j < 6) (hk0 : h.2.2.1 (1 + 1) (4 * j + 0) = Int32.ofNat kd) (hk1 : h.2.2.1 (1 + 1) (4 * j + 1) = Int32.ofNat p) (hk2 : h.2.2.1 (1 + 1) (4 * j + 2) = Int32.ofNat f) (hk3 : h.2.2.1 (1 + 1) (4 * j + 3) = Int32.ofNat y) {RLc : List Rul} (hho : handOK (cS h.2.2.1 1) j) (hRc : crul h 1 RLc) (hd : 4 ≤ d) (hQ : Q (some (.int (f_cCosts (Int32.ofNat kd))), h)) : Wp d 89 10 [some (.ref 0), some (.int (Int32.ofNat j)), some (.int (5)), none] [] h Q := by
  refine Wp.seg 1 (pc1 := 11) (ls1 := [some (.ref 0), some (.int (Int32.ofNat j)), some (.int (5)), none]) (st1 := [.ref 0]) rfl ?_
  refine Wp.gr (t := (10, 0)) (v := some (1)) rfl (WF.t hw 0 rfl) rfl (WF.r hw 0 0 0 rfl) ?_
  show Wp d 89 14 [some (.ref 0), some (.int (Int32.ofNat j)), some (.int (5)), none] [.ref 1] h Q
  refine Wp.seg 2 (pc1 := 16) (ls1 := [some (.ref 0), some (.int (Int32.ofNat j)), some (.int (5)), none]) (st1 := [.int (0), .int (Int32.ofNat j), .ref 1]) rfl ?_
  refine Wp.invV (d2 := 0) (as := [.ref 1, .int (Int32.ofNat j), .int (0)]) (r := []) (t := (1, 0)) rfl rfl rfl rfl (WF.t hw 1 rfl) rfl rfl ⟨rfl, rfl⟩ (by omega) (s_cget hw cA1 (n := j) (w := 0) rfl (by omega) hk0 ?_)
  show Wp d 89 19 [some (.ref 0), some (.int (Int32.ofNat j)), some (.int (5)), none] [.int (Int32.ofNat kd)] h Q
  refine Wp.seg 2 (pc1 := 21) (ls1 := [some (.ref 0), some (.int (Int32.ofNat j)), some (.int (5)), some (.int (Int32.ofNat kd))]) (st1 := [.int (5)]) rfl ?_
  refine Wp.br (pc1 := 96) (st1 := []) rfl rfl ?_
  refine Wp.seg 1 (pc1 := 97) (ls1 := [some (.ref 0), some (.int (Int32.ofNat j)), some (.int (5)), some (.int (Int32.ofNat kd))]) (st1 := [.int (Int32.ofNat kd)]) rfl ?_
  refine Wp.inv (d2 := 0) (as := [.int (Int32.ofNat kd)]) (r := []) rfl rfl rfl rfl rfl rfl (by omega) (s_cCosts (Nat.le_refl _) ?_)
  show Wp d 89 100 [some (.ref 0), some (.int (Int32.ofNat j)), some (.int (5)), some (.int (Int32.ofNat kd))] [.int (f_cCosts (Int32.ofNat kd))] h Q
  exact Wp.reti rfl rfl hQ
set_option maxHeartbeats 4000000 in
theorem t_mho5 {d : Nat} {Q : KO → Prop} {h : KH} (hw : WF h) {j kd p f y : Nat} (hj6 : j < 6) (hm0 : h.2.2.1 60 (11 + 4 * j + 0) = Int32.ofNat kd) (hm1 : h.2.2.1 60 (11 + 4 * j + 1) = Int32.ofNat p) (hm2 : h.2.2.1 60 (11 + 4 * j + 2) = Int32.ofNat f) (hm3 : h.2.2.1 60 (11 + 4 * j + 3) = Int32.ofNat y) {RL : List Rul} (hR : rulesS (h.2.2.1 60) RL) (hd : 5 ≤ d) (hQ : Q (some (.int (f_costsOf (h.2.2.1 60) j)), h)) : Wp d 195 10 [some (.ref 59), some (.int (Int32.ofNat j)), some (.int (5))] [] h Q := by
  refine Wp.seg 1 (pc1 := 11) (ls1 := [some (.ref 59), some (.int (Int32.ofNat j)), some (.int (5))]) (st1 := [.int (5)]) rfl ?_
  refine Wp.br (pc1 := 73) (st1 := []) rfl rfl ?_
  refine Wp.seg 2 (pc1 := 75) (ls1 := [some (.ref 59), some (.int (Int32.ofNat j)), some (.int (5))]) (st1 := [.int (Int32.ofNat j), .ref 59]) rfl ?_
  refine Wp.invV (d2 := 1) (as := [.ref 59, .int (Int32.ofNat j)]) (r := []) (t := (11, 0)) rfl rfl rfl rfl (WF.t hw 59 rfl) rfl rfl ⟨rfl, rfl⟩ (by omega) (s_costsOf hw hj6 (Nat.le_refl _) ?_)
  show Wp d 195 78 [some (.ref 59), some (.int (Int32.ofNat j)), some (.int (5))] [.int (f_costsOf (h.2.2.1 60) j)] h Q
  exact Wp.reti rfl rfl hQ
set_option maxHeartbeats 4000000 in
theorem t_cho6 {d : Nat} {Q : KO → Prop} {h : KH} (hw : WF h) {A : Nat → Int32} {RL : List Rul} {n c dn en : Nat} (hk : cityOK h 1 A RL n c dn en) {j kd p f y : Nat} (hj : j < n) (hj6 : j < 6) (hk0 : h.2.2.1 (1 + 1) (4 * j + 0) = Int32.ofNat kd) (hk1 : h.2.2.1 (1 + 1) (4 * j + 1) = Int32.ofNat p) (hk2 : h.2.2.1 (1 + 1) (4 * j + 2) = Int32.ofNat f) (hk3 : h.2.2.1 (1 + 1) (4 * j + 3) = Int32.ofNat y) {RLc : List Rul} (hho : handOK (cS h.2.2.1 1) j) (hRc : crul h 1 RLc) (hd : 4 ≤ d) (hQ : Q (some (.int (f_cTurns (Int32.ofNat kd))), h)) : Wp d 89 10 [some (.ref 0), some (.int (Int32.ofNat j)), some (.int (6)), none] [] h Q := by
  refine Wp.seg 1 (pc1 := 11) (ls1 := [some (.ref 0), some (.int (Int32.ofNat j)), some (.int (6)), none]) (st1 := [.ref 0]) rfl ?_
  refine Wp.gr (t := (10, 0)) (v := some (1)) rfl (WF.t hw 0 rfl) rfl (WF.r hw 0 0 0 rfl) ?_
  show Wp d 89 14 [some (.ref 0), some (.int (Int32.ofNat j)), some (.int (6)), none] [.ref 1] h Q
  refine Wp.seg 2 (pc1 := 16) (ls1 := [some (.ref 0), some (.int (Int32.ofNat j)), some (.int (6)), none]) (st1 := [.int (0), .int (Int32.ofNat j), .ref 1]) rfl ?_
  refine Wp.invV (d2 := 0) (as := [.ref 1, .int (Int32.ofNat j), .int (0)]) (r := []) (t := (1, 0)) rfl rfl rfl rfl (WF.t hw 1 rfl) rfl rfl ⟨rfl, rfl⟩ (by omega) (s_cget hw cA1 (n := j) (w := 0) rfl (by omega) hk0 ?_)
  show Wp d 89 19 [some (.ref 0), some (.int (Int32.ofNat j)), some (.int (6)), none] [.int (Int32.ofNat kd)] h Q
  refine Wp.seg 2 (pc1 := 21) (ls1 := [some (.ref 0), some (.int (Int32.ofNat j)), some (.int (6)), some (.int (Int32.ofNat kd))]) (st1 := [.int (6)]) rfl ?_
  refine Wp.br (pc1 := 101) (st1 := []) rfl rfl ?_
  refine Wp.seg 1 (pc1 := 102) (ls1 := [some (.ref 0), some (.int (Int32.ofNat j)), some (.int (6)), some (.int (Int32.ofNat kd))]) (st1 := [.int (Int32.ofNat kd)]) rfl ?_
  refine Wp.inv (d2 := 0) (as := [.int (Int32.ofNat kd)]) (r := []) rfl rfl rfl rfl rfl rfl (by omega) (s_cTurns (Nat.le_refl _) ?_)
  show Wp d 89 105 [some (.ref 0), some (.int (Int32.ofNat j)), some (.int (6)), some (.int (Int32.ofNat kd))] [.int (f_cTurns (Int32.ofNat kd))] h Q
  exact Wp.reti rfl rfl hQ
set_option maxHeartbeats 4000000 in
theorem t_mho6 {d : Nat} {Q : KO → Prop} {h : KH} (hw : WF h) {j kd p f y : Nat} (hj6 : j < 6) (hm0 : h.2.2.1 60 (11 + 4 * j + 0) = Int32.ofNat kd) (hm1 : h.2.2.1 60 (11 + 4 * j + 1) = Int32.ofNat p) (hm2 : h.2.2.1 60 (11 + 4 * j + 2) = Int32.ofNat f) (hm3 : h.2.2.1 60 (11 + 4 * j + 3) = Int32.ofNat y) {RL : List Rul} (hR : rulesS (h.2.2.1 60) RL) (hd : 5 ≤ d) (hQ : Q (some (.int (f_turnsBy (Int32.ofNat kd))), h)) : Wp d 195 10 [some (.ref 59), some (.int (Int32.ofNat j)), some (.int (6))] [] h Q := by
  refine Wp.seg 1 (pc1 := 11) (ls1 := [some (.ref 59), some (.int (Int32.ofNat j)), some (.int (6))]) (st1 := [.int (6)]) rfl ?_
  refine Wp.br (pc1 := 79) (st1 := []) rfl rfl ?_
  refine Wp.seg 3 (pc1 := 82) (ls1 := [some (.ref 59), some (.int (Int32.ofNat j)), some (.int (6))]) (st1 := [.int (0), .int (Int32.ofNat j), .ref 59]) rfl ?_
  refine Wp.invV (d2 := 0) (as := [.ref 59, .int (Int32.ofNat j), .int (0)]) (r := []) (t := (11, 0)) rfl rfl rfl rfl (WF.t hw 59 rfl) rfl rfl ⟨rfl, rfl⟩ (by omega) (s_ofv hw (n := j) (w := 0) rfl (by omega) hm0 ?_)
  show Wp d 195 85 [some (.ref 59), some (.int (Int32.ofNat j)), some (.int (6))] [.int (Int32.ofNat kd)] h Q
  refine Wp.inv (d2 := 0) (as := [.int (Int32.ofNat kd)]) (r := []) rfl rfl rfl rfl rfl rfl (by omega) (s_turnsBy (Nat.le_refl _) ?_)
  show Wp d 195 88 [some (.ref 59), some (.int (Int32.ofNat j)), some (.int (6))] [.int (f_turnsBy (Int32.ofNat kd))] h Q
  exact Wp.reti rfl rfl hQ
set_option maxHeartbeats 4000000 in
theorem t_cho7 {d : Nat} {Q : KO → Prop} {h : KH} (hw : WF h) {A : Nat → Int32} {RL : List Rul} {n c dn en : Nat} (hk : cityOK h 1 A RL n c dn en) {j kd p f y : Nat} (hj : j < n) (hj6 : j < 6) (hk0 : h.2.2.1 (1 + 1) (4 * j + 0) = Int32.ofNat kd) (hk1 : h.2.2.1 (1 + 1) (4 * j + 1) = Int32.ofNat p) (hk2 : h.2.2.1 (1 + 1) (4 * j + 2) = Int32.ofNat f) (hk3 : h.2.2.1 (1 + 1) (4 * j + 3) = Int32.ofNat y) {RLc : List Rul} (hho : handOK (cS h.2.2.1 1) j) (hRc : crul h 1 RLc) (hd : 4 ≤ d) (hQ : ((f_cRubs (Int32.ofNat kd)) = 0 → Q (some (.int (0)), h)) ∧ (¬ ((f_cRubs (Int32.ofNat kd)) = 0) → Q (some (.int (1)), h))) : Wp d 89 10 [some (.ref 0), some (.int (Int32.ofNat j)), some (.int (7)), none] [] h Q := by
  refine Wp.seg 1 (pc1 := 11) (ls1 := [some (.ref 0), some (.int (Int32.ofNat j)), some (.int (7)), none]) (st1 := [.ref 0]) rfl ?_
  refine Wp.gr (t := (10, 0)) (v := some (1)) rfl (WF.t hw 0 rfl) rfl (WF.r hw 0 0 0 rfl) ?_
  show Wp d 89 14 [some (.ref 0), some (.int (Int32.ofNat j)), some (.int (7)), none] [.ref 1] h Q
  refine Wp.seg 2 (pc1 := 16) (ls1 := [some (.ref 0), some (.int (Int32.ofNat j)), some (.int (7)), none]) (st1 := [.int (0), .int (Int32.ofNat j), .ref 1]) rfl ?_
  refine Wp.invV (d2 := 0) (as := [.ref 1, .int (Int32.ofNat j), .int (0)]) (r := []) (t := (1, 0)) rfl rfl rfl rfl (WF.t hw 1 rfl) rfl rfl ⟨rfl, rfl⟩ (by omega) (s_cget hw cA1 (n := j) (w := 0) rfl (by omega) hk0 ?_)
  show Wp d 89 19 [some (.ref 0), some (.int (Int32.ofNat j)), some (.int (7)), none] [.int (Int32.ofNat kd)] h Q
  refine Wp.seg 2 (pc1 := 21) (ls1 := [some (.ref 0), some (.int (Int32.ofNat j)), some (.int (7)), some (.int (Int32.ofNat kd))]) (st1 := [.int (7)]) rfl ?_
  refine Wp.br (pc1 := 106) (st1 := []) rfl rfl ?_
  refine Wp.seg 1 (pc1 := 107) (ls1 := [some (.ref 0), some (.int (Int32.ofNat j)), some (.int (7)), some (.int (Int32.ofNat kd))]) (st1 := [.int (Int32.ofNat kd)]) rfl ?_
  refine Wp.inv (d2 := 1) (as := [.int (Int32.ofNat kd)]) (r := []) rfl rfl rfl rfl rfl rfl (by omega) (s_cRubs (Nat.le_refl _) ?_)
  show Wp d 89 110 [some (.ref 0), some (.int (Int32.ofNat j)), some (.int (7)), some (.int (Int32.ofNat kd))] [.int (f_cRubs (Int32.ofNat kd))] h Q
  refine Wp.if1 rfl (fun (c1 : (f_cRubs (Int32.ofNat kd)) = 0) => ?_) (fun (c1 : ¬ ((f_cRubs (Int32.ofNat kd)) = 0)) => ?_)
  · refine Wp.seg 1 (pc1 := 118) (ls1 := [some (.ref 0), some (.int (Int32.ofNat j)), some (.int (7)), some (.int (Int32.ofNat kd))]) (st1 := [.int (0)]) rfl ?_
    exact Wp.reti rfl rfl (hQ.1 c1)
  · refine Wp.seg 2 (pc1 := 118) (ls1 := [some (.ref 0), some (.int (Int32.ofNat j)), some (.int (7)), some (.int (Int32.ofNat kd))]) (st1 := [.int (1)]) rfl ?_
    exact Wp.reti rfl rfl (hQ.2 c1)
set_option maxHeartbeats 4000000 in
theorem t_mho7 {d : Nat} {Q : KO → Prop} {h : KH} (hw : WF h) {j kd p f y : Nat} (hj6 : j < 6) (hm0 : h.2.2.1 60 (11 + 4 * j + 0) = Int32.ofNat kd) (hm1 : h.2.2.1 60 (11 + 4 * j + 1) = Int32.ofNat p) (hm2 : h.2.2.1 60 (11 + 4 * j + 2) = Int32.ofNat f) (hm3 : h.2.2.1 60 (11 + 4 * j + 3) = Int32.ofNat y) {RL : List Rul} (hR : rulesS (h.2.2.1 60) RL) (hd : 5 ≤ d) (hQ : ((f_doesRub (h.2.2.1 60) j) = 0 → Q (some (.int (0)), h)) ∧ (¬ ((f_doesRub (h.2.2.1 60) j) = 0) → Q (some (.int (1)), h))) : Wp d 195 10 [some (.ref 59), some (.int (Int32.ofNat j)), some (.int (7))] [] h Q := by
  refine Wp.seg 1 (pc1 := 11) (ls1 := [some (.ref 59), some (.int (Int32.ofNat j)), some (.int (7))]) (st1 := [.int (7)]) rfl ?_
  refine Wp.br (pc1 := 89) (st1 := []) rfl rfl ?_
  refine Wp.seg 2 (pc1 := 91) (ls1 := [some (.ref 59), some (.int (Int32.ofNat j)), some (.int (7))]) (st1 := [.int (Int32.ofNat j), .ref 59]) rfl ?_
  refine Wp.invV (d2 := 1) (as := [.ref 59, .int (Int32.ofNat j)]) (r := []) (t := (11, 0)) rfl rfl rfl rfl (WF.t hw 59 rfl) rfl rfl ⟨rfl, rfl⟩ (by omega) (s_doesRub hw hj6 (Nat.le_refl _) ?_)
  show Wp d 195 94 [some (.ref 59), some (.int (Int32.ofNat j)), some (.int (7))] [.int (f_doesRub (h.2.2.1 60) j)] h Q
  refine Wp.if1 rfl (fun (c1 : (f_doesRub (h.2.2.1 60) j) = 0) => ?_) (fun (c1 : ¬ ((f_doesRub (h.2.2.1 60) j) = 0)) => ?_)
  · refine Wp.seg 1 (pc1 := 102) (ls1 := [some (.ref 59), some (.int (Int32.ofNat j)), some (.int (7))]) (st1 := [.int (0)]) rfl ?_
    exact Wp.reti rfl rfl (hQ.1 c1)
  · refine Wp.seg 2 (pc1 := 102) (ls1 := [some (.ref 59), some (.int (Int32.ofNat j)), some (.int (7))]) (st1 := [.int (1)]) rfl ?_
    exact Wp.reti rfl rfl (hQ.2 c1)
set_option maxHeartbeats 4000000 in
theorem t_cho8 {d : Nat} {Q : KO → Prop} {h : KH} (hw : WF h) {A : Nat → Int32} {RL : List Rul} {n c dn en : Nat} (hk : cityOK h 1 A RL n c dn en) {j kd p f y : Nat} (hj : j < n) (hj6 : j < 6) (hk0 : h.2.2.1 (1 + 1) (4 * j + 0) = Int32.ofNat kd) (hk1 : h.2.2.1 (1 + 1) (4 * j + 1) = Int32.ofNat p) (hk2 : h.2.2.1 (1 + 1) (4 * j + 2) = Int32.ofNat f) (hk3 : h.2.2.1 (1 + 1) (4 * j + 3) = Int32.ofNat y) {RLc : List Rul} (hho : handOK (cS h.2.2.1 1) j) (hRc : crul h 1 RLc) (hd : 4 ≤ d) (hQ : ∀ I : Nat → Nat → Int32, (∀ b, b ≠ 1 + 2 → I b = h.2.2.1 b) → (Q (some (.int (willS (cS h.2.2.1 1) RLc j)), hI h I))) : Wp d 89 10 [some (.ref 0), some (.int (Int32.ofNat j)), some (.int (8)), none] [] h Q := by
  refine Wp.seg 1 (pc1 := 11) (ls1 := [some (.ref 0), some (.int (Int32.ofNat j)), some (.int (8)), none]) (st1 := [.ref 0]) rfl ?_
  refine Wp.gr (t := (10, 0)) (v := some (1)) rfl (WF.t hw 0 rfl) rfl (WF.r hw 0 0 0 rfl) ?_
  show Wp d 89 14 [some (.ref 0), some (.int (Int32.ofNat j)), some (.int (8)), none] [.ref 1] h Q
  refine Wp.seg 2 (pc1 := 16) (ls1 := [some (.ref 0), some (.int (Int32.ofNat j)), some (.int (8)), none]) (st1 := [.int (0), .int (Int32.ofNat j), .ref 1]) rfl ?_
  refine Wp.invV (d2 := 0) (as := [.ref 1, .int (Int32.ofNat j), .int (0)]) (r := []) (t := (1, 0)) rfl rfl rfl rfl (WF.t hw 1 rfl) rfl rfl ⟨rfl, rfl⟩ (by omega) (s_cget hw cA1 (n := j) (w := 0) rfl (by omega) hk0 ?_)
  show Wp d 89 19 [some (.ref 0), some (.int (Int32.ofNat j)), some (.int (8)), none] [.int (Int32.ofNat kd)] h Q
  refine Wp.seg 2 (pc1 := 21) (ls1 := [some (.ref 0), some (.int (Int32.ofNat j)), some (.int (8)), some (.int (Int32.ofNat kd))]) (st1 := [.int (8)]) rfl ?_
  refine Wp.br (pc1 := 119) (st1 := []) rfl rfl ?_
  refine Wp.seg 1 (pc1 := 120) (ls1 := [some (.ref 0), some (.int (Int32.ofNat j)), some (.int (8)), some (.int (Int32.ofNat kd))]) (st1 := [.ref 0]) rfl ?_
  refine Wp.gr (t := (10, 0)) (v := some (1)) rfl (WF.t hw 0 rfl) rfl (WF.r hw 0 0 0 rfl) ?_
  show Wp d 89 123 [some (.ref 0), some (.int (Int32.ofNat j)), some (.int (8)), some (.int (Int32.ofNat kd))] [.ref 1] h Q
  refine Wp.seg 1 (pc1 := 124) (ls1 := [some (.ref 0), some (.int (Int32.ofNat j)), some (.int (8)), some (.int (Int32.ofNat kd))]) (st1 := [.int (Int32.ofNat j), .ref 1]) rfl ?_
  refine Wp.invV (d2 := 2) (as := [.ref 1, .int (Int32.ofNat j)]) (r := []) (t := (1, 0)) rfl rfl rfl rfl (WF.t hw 1 rfl) rfl rfl ⟨rfl, rfl⟩ (by omega) (s_will hw cA1 hj6 hho hRc (Nat.le_refl _) ?_)
  intro I i1
  show Wp d 89 127 [some (.ref 0), some (.int (Int32.ofNat j)), some (.int (8)), some (.int (Int32.ofNat kd))] [.int (willS (cS h.2.2.1 1) RLc j)] (hI h I) Q
  exact Wp.reti rfl rfl (hQ I i1)
set_option maxHeartbeats 4000000 in
theorem t_mho8 {d : Nat} {Q : KO → Prop} {h : KH} (hw : WF h) {j kd p f y : Nat} (hj6 : j < 6) (hm0 : h.2.2.1 60 (11 + 4 * j + 0) = Int32.ofNat kd) (hm1 : h.2.2.1 60 (11 + 4 * j + 1) = Int32.ofNat p) (hm2 : h.2.2.1 60 (11 + 4 * j + 2) = Int32.ofNat f) (hm3 : h.2.2.1 60 (11 + 4 * j + 3) = Int32.ofNat y) {RL : List Rul} (hR : rulesS (h.2.2.1 60) RL) (hd : 5 ≤ d) (hQ : ∀ p0 : Nat → Int32, (Q (some (.int (willS (h.2.2.1 60) RL j)), hPl h p0))) : Wp d 195 10 [some (.ref 59), some (.int (Int32.ofNat j)), some (.int (8))] [] h Q := by
  refine Wp.seg 1 (pc1 := 11) (ls1 := [some (.ref 59), some (.int (Int32.ofNat j)), some (.int (8))]) (st1 := [.int (8)]) rfl ?_
  refine Wp.br (pc1 := 103) (st1 := []) rfl rfl ?_
  refine Wp.seg 2 (pc1 := 105) (ls1 := [some (.ref 59), some (.int (Int32.ofNat j)), some (.int (8))]) (st1 := [.int (Int32.ofNat j), .ref 59]) rfl ?_
  refine Wp.invV (d2 := 3) (as := [.ref 59, .int (Int32.ofNat j)]) (r := []) (t := (11, 0)) rfl rfl rfl rfl (WF.t hw 59 rfl) rfl rfl ⟨rfl, rfl⟩ (by omega) (s_does hw hj6 hR (Nat.le_refl _) ?_)
  intro p0
  show Wp d 195 108 [some (.ref 59), some (.int (Int32.ofNat j)), some (.int (8))] [.int (willS (h.2.2.1 60) RL j)] (hPl h p0) Q
  exact Wp.reti rfl rfl (hQ p0)
set_option maxHeartbeats 4000000 in
theorem t_choX {d : Nat} {Q : KO → Prop} {h : KH} (hw : WF h) {A : Nat → Int32} {RL : List Rul} {n c dn en : Nat} (hk : cityOK h 1 A RL n c dn en) {j kd p f y : Nat} (hj : j < n) (hj6 : j < 6) (hk0 : h.2.2.1 (1 + 1) (4 * j + 0) = Int32.ofNat kd) (hk1 : h.2.2.1 (1 + 1) (4 * j + 1) = Int32.ofNat p) (hk2 : h.2.2.1 (1 + 1) (4 * j + 2) = Int32.ofNat f) (hk3 : h.2.2.1 (1 + 1) (4 * j + 3) = Int32.ofNat y) {w : Int32} (n0 : ¬ w = 0) (n1 : ¬ w = 1) (n2 : ¬ w = 2) (n3 : ¬ w = 3) (n4 : ¬ w = 4) (n5 : ¬ w = 5) (n6 : ¬ w = 6) (n7 : ¬ w = 7) (n8 : ¬ w = 8) (hd : 4 ≤ d) (hQ : Q (some (.int (-1)), h)) : Wp d 89 10 [some (.ref 0), some (.int (Int32.ofNat j)), some (.int (w)), none] [] h Q := by
  refine Wp.seg 1 (pc1 := 11) (ls1 := [some (.ref 0), some (.int (Int32.ofNat j)), some (.int (w)), none]) (st1 := [.ref 0]) rfl ?_
  refine Wp.gr (t := (10, 0)) (v := some (1)) rfl (WF.t hw 0 rfl) rfl (WF.r hw 0 0 0 rfl) ?_
  show Wp d 89 14 [some (.ref 0), some (.int (Int32.ofNat j)), some (.int (w)), none] [.ref 1] h Q
  refine Wp.seg 2 (pc1 := 16) (ls1 := [some (.ref 0), some (.int (Int32.ofNat j)), some (.int (w)), none]) (st1 := [.int (0), .int (Int32.ofNat j), .ref 1]) rfl ?_
  refine Wp.invV (d2 := 0) (as := [.ref 1, .int (Int32.ofNat j), .int (0)]) (r := []) (t := (1, 0)) rfl rfl rfl rfl (WF.t hw 1 rfl) rfl rfl ⟨rfl, rfl⟩ (by omega) (s_cget hw cA1 (n := j) (w := 0) rfl (by omega) hk0 ?_)
  show Wp d 89 19 [some (.ref 0), some (.int (Int32.ofNat j)), some (.int (w)), none] [.int (Int32.ofNat kd)] h Q
  refine Wp.seg 2 (pc1 := 21) (ls1 := [some (.ref 0), some (.int (Int32.ofNat j)), some (.int (w)), some (.int (Int32.ofNat kd))]) (st1 := [.int (w)]) rfl ?_
  refine Wp.tsw rfl ?_
  refine ⟨fun c1 => absurd c1 (n0), fun c1 => ?_⟩
  refine ⟨fun c2 => absurd c2 (n1), fun c2 => ?_⟩
  refine ⟨fun c3 => absurd c3 (n2), fun c3 => ?_⟩
  refine ⟨fun c4 => absurd c4 (n3), fun c4 => ?_⟩
  refine ⟨fun c5 => absurd c5 (n4), fun c5 => ?_⟩
  refine ⟨fun c6 => absurd c6 (n5), fun c6 => ?_⟩
  refine ⟨fun c7 => absurd c7 (n6), fun c7 => ?_⟩
  refine ⟨fun c8 => absurd c8 (n7), fun c8 => ?_⟩
  refine ⟨fun c9 => absurd c9 (n8), fun c9 => ?_⟩
  show Wp d 89 128 [some (.ref 0), some (.int (Int32.ofNat j)), some (.int (w)), some (.int (Int32.ofNat kd))] [] h Q
  refine Wp.seg 1 (pc1 := 129) (ls1 := [some (.ref 0), some (.int (Int32.ofNat j)), some (.int (w)), some (.int (Int32.ofNat kd))]) (st1 := [.int (-1)]) rfl ?_
  exact Wp.reti rfl rfl hQ
set_option maxHeartbeats 4000000 in
theorem t_mhoX {d : Nat} {Q : KO → Prop} {h : KH} {j : Nat} {w : Int32} (n0 : ¬ w = 0) (n1 : ¬ w = 1) (n2 : ¬ w = 2) (n3 : ¬ w = 3) (n4 : ¬ w = 4) (n5 : ¬ w = 5) (n6 : ¬ w = 6) (n7 : ¬ w = 7) (n8 : ¬ w = 8) (hd : 0 ≤ d) (hQ : Q (some (.int (-1)), h)) : Wp d 195 10 [some (.ref 59), some (.int (Int32.ofNat j)), some (.int (w))] [] h Q := by
  refine Wp.seg 1 (pc1 := 11) (ls1 := [some (.ref 59), some (.int (Int32.ofNat j)), some (.int (w))]) (st1 := [.int (w)]) rfl ?_
  refine Wp.tsw rfl ?_
  refine ⟨fun c1 => absurd c1 (n0), fun c1 => ?_⟩
  refine ⟨fun c2 => absurd c2 (n1), fun c2 => ?_⟩
  refine ⟨fun c3 => absurd c3 (n2), fun c3 => ?_⟩
  refine ⟨fun c4 => absurd c4 (n3), fun c4 => ?_⟩
  refine ⟨fun c5 => absurd c5 (n4), fun c5 => ?_⟩
  refine ⟨fun c6 => absurd c6 (n5), fun c6 => ?_⟩
  refine ⟨fun c7 => absurd c7 (n6), fun c7 => ?_⟩
  refine ⟨fun c8 => absurd c8 (n7), fun c8 => ?_⟩
  refine ⟨fun c9 => absurd c9 (n8), fun c9 => ?_⟩
  show Wp d 195 109 [some (.ref 59), some (.int (Int32.ofNat j)), some (.int (w))] [] h Q
  refine Wp.seg 1 (pc1 := 110) (ls1 := [some (.ref 59), some (.int (Int32.ofNat j)), some (.int (w))]) (st1 := [.int (-1)]) rfl ?_
  exact Wp.reti rfl rfl hQ
theorem qu_hP {v : Int32} {h : KH} {p0 : Nat → Int32} : qu v h (some (.int v), hPl h p0) := qu_i (quiet_m (f := ⟨rfl, rfl, fun b hb => ku_n _ _ (by unfold pT at hb; omega), fun _ _ _ => rfl⟩) (hPl_S _ _))
theorem qu_hI {v : Int32} {h : KH} {I : Nat → Nat → Int32} (i1 : ∀ b, b ≠ 1 + 2 → I b = h.2.2.1 b) : qu v h (some (.int v), hI h I) := qu_i (quiet_c (P := fun c => c = 3) (R := noP) ⟨rfl, rfl, fun b hb => i1 b (by omega), fun _ _ _ => rfl⟩ (fun c z => by unfold pQ; omega) rNo)
theorem J_handOf {h : KH} (hw : WF h) {A : Nat → Int32} {RL : List Rul} {n c dn en : Nat} (hk : both h A RL n c dn en) (v w : Int32) : JJ h RL 89 [.ref 0, .int v, .int w] 195 [.ref 59, .int v, .int w] := by
  have hn6 := hk.1.2.1.1
  by_cases q : inB v 0 ((n : Int) - 1) = true
  · obtain ⟨j, hj, rfl⟩ := inB_lt q
    have hj6 : j < 6 := by omega
    have hho := hk.1.2.1.2.2.2.2.2.2.2.2.2 j hj
    obtain ⟨kd, p, f, y, g1, g2, g3, g4, g5, g6, g7, g8, g9⟩ := okA_hand hk.1.A hj
    have c0 := (c_get hk.1 (j := j) (w := 0) (by omega)).trans g6
    have c1 := (c_get hk.1 (j := j) (w := 1) (by omega)).trans g7
    have c2 := (c_get hk.1 (j := j) (w := 2) (by omega)).trans g8
    have c3 := (c_get hk.1 (j := j) (w := 3) (by omega)).trans g9
    obtain ⟨-, -, RLc, hRc, hRe⟩ := hk.1
    have et := kall1_ok (kall1_ok kinds_ok (i := kd) (by omega)) (i := f) g4
    simp only [Bool.or_eq_true, Bool.and_eq_true, decide_eq_true_eq, beq_iff_eq, decide_eq_decide] at et
    obtain ⟨⟨⟨t1, t2⟩, t3⟩, t4⟩ := et.resolve_left (by omega)
    have md : ∀ k : KH, refOK k A RL n c dn en → (k.2.2.1 60 (11 + 4 * j + 0) = Int32.ofNat kd ∧ k.2.2.1 60 (11 + 4 * j + 1) = Int32.ofNat p ∧ k.2.2.1 60 (11 + 4 * j + 2) = Int32.ofNat f ∧ k.2.2.1 60 (11 + 4 * j + 3) = Int32.ofNat y) := fun k kk => ⟨(m_get kk (j := j) (w := 0) (by omega)).trans g6, (m_get kk (j := j) (w := 1) (by omega)).trans g7, (m_get kk (j := j) (w := 2) (by omega)).trans g8, (m_get kk (j := j) (w := 3) (by omega)).trans g9⟩
    have go : ∀ v0 : Int32, Wp 4 89 10 [some (.ref 0), some (.int (Int32.ofNat j)), some (.int w), none] [] h (qu v0 h) → (∀ k, WF k → refOK k A RL n c dn en → Wp 5 195 10 [some (.ref 59), some (.int (Int32.ofNat j)), some (.int w)] [] k (qu v0 k)) → JJ h RL 89 [.ref 0, .int (Int32.ofNat j), .int w] 195 [.ref 59, .int (Int32.ofNat j), .int w] := by
      intro v0 z1 z2
      exact J_q (v := v0) (dc := 4) (dm := 5) hw hk (t_cho hw hk.1 (by decide) (⟨fun c1 => z1, fun c1 => absurd (c1) (by rw [q]; decide)⟩)) (fun k kw kk => t_mho kw kk (by decide) (⟨fun c1 => (z2 k kw kk), fun c1 => absurd (c1) (by rw [q]; decide)⟩))
    by_cases w0 : w = 0
    · subst w0
      exact go (Int32.ofNat kd) (t_cho0 hw hk.1 hj hj6 c0 c1 c2 c3 hho hRc (by decide) (qu_i (Quiet.refl h))) (fun k kw kk => by
        obtain ⟨m0, m1, m2, m3⟩ := md k kk
        exact t_mho0 kw hj6 m0 m1 m2 m3 kk.2.2 (by decide) (qu_i (Quiet.refl k)))
    by_cases w1 : w = 1
    · subst w1
      exact go (Int32.ofNat p) (t_cho1 hw hk.1 hj hj6 c0 c1 c2 c3 hho hRc (by decide) (qu_i (Quiet.refl h))) (fun k kw kk => by
        obtain ⟨m0, m1, m2, m3⟩ := md k kk
        exact t_mho1 kw hj6 m0 m1 m2 m3 kk.2.2 (by decide) (qu_i (Quiet.refl k)))
    by_cases w2 : w = 2
    · subst w2
      exact go (Int32.ofNat f) (t_cho2 hw hk.1 hj hj6 c0 c1 c2 c3 hho hRc (by decide) (qu_i (Quiet.refl h))) (fun k kw kk => by
        obtain ⟨m0, m1, m2, m3⟩ := md k kk
        exact t_mho2 kw hj6 m0 m1 m2 m3 kk.2.2 (by decide) (qu_i (Quiet.refl k)))
    by_cases w3 : w = 3
    · subst w3
      exact go (Int32.ofNat y) (t_cho3 hw hk.1 hj hj6 c0 c1 c2 c3 hho hRc (by decide) (qu_i (Quiet.refl h))) (fun k kw kk => by
        obtain ⟨m0, m1, m2, m3⟩ := md k kk
        exact t_mho3 kw hj6 m0 m1 m2 m3 kk.2.2 (by decide) (qu_i (Quiet.refl k)))
    by_cases w4 : w = 4
    · subst w4
      exact go (f_cStrokes (Int32.ofNat kd) (Int32.ofNat f)) (t_cho4 hw hk.1 hj hj6 c0 c1 c2 c3 hho hRc (by decide) (qu_i (Quiet.refl h))) (fun k kw kk => by
        obtain ⟨m0, m1, m2, m3⟩ := md k kk
        exact t_mho4 kw hj6 m0 m1 m2 m3 kk.2.2 (by decide) (by rw [g_strokesOf_eq, m0, m2, t1]; exact qu_i (Quiet.refl k)))
    by_cases w5 : w = 5
    · subst w5
      exact go (f_cCosts (Int32.ofNat kd)) (t_cho5 hw hk.1 hj hj6 c0 c1 c2 c3 hho hRc (by decide) (qu_i (Quiet.refl h))) (fun k kw kk => by
        obtain ⟨m0, m1, m2, m3⟩ := md k kk
        exact t_mho5 kw hj6 m0 m1 m2 m3 kk.2.2 (by decide) (by rw [g_costsOf_eq, m0, m2, t2]; exact qu_i (Quiet.refl k)))
    by_cases w6 : w = 6
    · subst w6
      exact go (f_cTurns (Int32.ofNat kd)) (t_cho6 hw hk.1 hj hj6 c0 c1 c2 c3 hho hRc (by decide) (qu_i (Quiet.refl h))) (fun k kw kk => by
        obtain ⟨m0, m1, m2, m3⟩ := md k kk
        exact t_mho6 kw hj6 m0 m1 m2 m3 kk.2.2 (by decide) (by rw [t4]; exact qu_i (Quiet.refl k)))
    by_cases w7 : w = 7
    · subst w7
      exact go (if f_cRubs (Int32.ofNat kd) = 0 then 0 else 1) (t_cho7 hw hk.1 hj hj6 c0 c1 c2 c3 hho hRc (by decide) ⟨fun e => by rw [if_pos e]; exact qu_i (Quiet.refl h), fun e => by rw [if_neg e]; exact qu_i (Quiet.refl h)⟩) (fun k kw kk => by
        obtain ⟨m0, m1, m2, m3⟩ := md k kk
        exact (have e7 : f_doesRub (k.2.2.1 60) j = 0 ↔ f_cRubs (Int32.ofNat kd) = 0 := by rw [g_doesRub_eq, m0, m2]; exact t3
        t_mho7 kw hj6 m0 m1 m2 m3 kk.2.2 (by decide) ⟨fun e => by rw [if_pos (e7.mp e)]; exact qu_i (Quiet.refl k), fun e => by rw [if_neg (fun z => e (e7.mpr z))]; exact qu_i (Quiet.refl k)⟩))
    by_cases w8 : w = 8
    · subst w8
      exact go (willS A RL j) (t_cho8 hw hk.1 hj hj6 c0 c1 c2 c3 hho hRc (by decide) (fun I i1 => by rw [eqRL_will hRe, agr_will (nrm_get hk.1.1) hj6]; exact qu_hI i1)) (fun k kw kk => by
        obtain ⟨m0, m1, m2, m3⟩ := md k kk
        exact t_mho8 kw hj6 m0 m1 m2 m3 kk.2.2 (by decide) (fun p0 => by rw [agr_will (nrm_get kk.1) hj6]; exact qu_hP))
    exact go (-1) (t_choX hw hk.1 hj hj6 c0 c1 c2 c3 w0 w1 w2 w3 w4 w5 w6 w7 w8 (by decide) (qu_i (Quiet.refl h))) (fun k kw kk => t_mhoX w0 w1 w2 w3 w4 w5 w6 w7 w8 (by decide) (qu_i (Quiet.refl k)))
  · exact J_q (v := -1) (dc := 4) (dm := 5) hw hk (t_cho hw hk.1 (by decide) (⟨fun c1 => absurd c1 q, fun c1 => qu_i (Quiet.refl h)⟩)) (fun k kw kk => t_mho kw kk (by decide) (⟨fun c1 => absurd c1 q, fun c1 => qu_i (Quiet.refl k)⟩))
