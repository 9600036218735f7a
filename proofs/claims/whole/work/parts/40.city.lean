/-! KM: the class, a city's readers -/
/-- where the cities lie -/
def cityA (a : Nat) : Prop := a ∈ ([1, 4, 7, 14, 17, 20, 23, 26] : List Nat)
theorem cA_t {h : KH} (hw : WF h) {a : Nat} (ha : cityA a) : h.1 a = (1, 0) := by
  simp only [cityA, List.mem_cons, List.not_mem_nil, or_false] at ha
  rcases ha with rfl | rfl | rfl | rfl | rfl | rfl | rfl | rfl <;> exact WF.t hw _ rfl
theorem cA_t1 {h : KH} (hw : WF h) {a : Nat} (ha : cityA a) : h.1 (a + 1) = (20, 24) := by
  simp only [cityA, List.mem_cons, List.not_mem_nil, or_false] at ha
  rcases ha with rfl | rfl | rfl | rfl | rfl | rfl | rfl | rfl <;> exact WF.t hw _ rfl
theorem cA_t2 {h : KH} (hw : WF h) {a : Nat} (ha : cityA a) : h.1 (a + 2) = (20, 5) := by
  simp only [cityA, List.mem_cons, List.not_mem_nil, or_false] at ha
  rcases ha with rfl | rfl | rfl | rfl | rfl | rfl | rfl | rfl <;> exact WF.t hw _ rfl
theorem cA_r0 {h : KH} (hw : WF h) {a : Nat} (ha : cityA a) : h.2.1 a 0 = some (a + 1) := by
  simp only [cityA, List.mem_cons, List.not_mem_nil, or_false] at ha
  rcases ha with rfl | rfl | rfl | rfl | rfl | rfl | rfl | rfl
  · exact WF.r hw 1 0 13 rfl
  · exact WF.r hw 4 0 15 rfl
  · exact WF.r hw 7 0 17 rfl
  · exact WF.r hw 14 0 27 rfl
  · exact WF.r hw 17 0 29 rfl
  · exact WF.r hw 20 0 31 rfl
  · exact WF.r hw 23 0 33 rfl
  · exact WF.r hw 26 0 35 rfl
theorem cA_r12 {h : KH} (hw : WF h) {a : Nat} (ha : cityA a) : h.2.1 a 12 = some (a + 2) := by
  simp only [cityA, List.mem_cons, List.not_mem_nil, or_false] at ha
  rcases ha with rfl | rfl | rfl | rfl | rfl | rfl | rfl | rfl
  · exact WF.r hw 1 12 14 rfl
  · exact WF.r hw 4 12 16 rfl
  · exact WF.r hw 7 12 18 rfl
  · exact WF.r hw 14 12 28 rfl
  · exact WF.r hw 17 12 30 rfl
  · exact WF.r hw 20 12 32 rfl
  · exact WF.r hw 23 12 34 rfl
  · exact WF.r hw 26 12 36 rfl
theorem gidx (n w : Nat) : Int32.ofNat n * 4 + Int32.ofNat w = Int32.ofNat (4 * n + w) := by
  rw [show (4 : Int32) = Int32.ofNat 4 from rfl, ← Int32.ofNat_mul, ← Int32.ofNat_add, Nat.mul_comm]
theorem gneg {n w : Nat} (hj : 4 * n + w < 24) : ¬ Int32.ofNat n * 4 + Int32.ofNat w < 0 := by
  rw [gidx]
  intro c
  have := (zlt (n := 0) (znat (n := 4 * n + w) (by omega)) rfl).mp c
  omega
theorem glt {n w : Nat} (hj : 4 * n + w < 24) : Int32.ofNat n * 4 + Int32.ofNat w < Int32.ofNat 24 := by
  rw [gidx]
  exact (olt (by omega) (by omega)).mpr hj
set_option maxHeartbeats 4000000 in
theorem t_cget {d : Nat} {Q : KO → Prop} {h : KH} (hw : WF h) {a : Nat} (ha : cityA a) {n w : Nat} (hj : 4 * n + w < 24) (hd : 0 ≤ d) (hQ : Q (some (.int (h.2.2.1 (a + 1) ((4 * n + w)))), h)) : Cl d 5 [.ref a, .int (Int32.ofNat n), .int (Int32.ofNat w)] h Q := by
  refine Cl.of (ls := [some (.ref a), some (.int (Int32.ofNat n)), some (.int (Int32.ofNat w)), none]) rfl rfl ?_
  refine Wp.seg 7 (pc1 := 7) (ls1 := [some (.ref a), some (.int (Int32.ofNat n)), some (.int (Int32.ofNat w)), some (.int (((Int32.ofNat n) * (4 : Int32)) + (Int32.ofNat w)))]) (st1 := [.int (((Int32.ofNat n) * (4 : Int32)) + (Int32.ofNat w))]) rfl ?_
  refine Wp.if1 rfl (fun c1 => absurd c1 (gneg hj)) (fun c1 => ?_)
  refine Wp.seg 2 (pc1 := 12) (ls1 := [some (.ref a), some (.int (Int32.ofNat n)), some (.int (Int32.ofNat w)), some (.int (((Int32.ofNat n) * (4 : Int32)) + (Int32.ofNat w)))]) (st1 := [.ref a, .int (((Int32.ofNat n) * (4 : Int32)) + (Int32.ofNat w))]) rfl ?_
  refine Wp.gr (t := (1, 0)) (v := some (a + 1)) rfl (cA_t hw ha) rfl (cA_r0 hw ha) ?_
  show Wp d 5 15 [some (.ref a), some (.int (Int32.ofNat n)), some (.int (Int32.ofNat w)), some (.int (((Int32.ofNat n) * (4 : Int32)) + (Int32.ofNat w)))] [.ref (a + 1), .int (((Int32.ofNat n) * (4 : Int32)) + (Int32.ofNat w))] h Q
  refine Wp.alen (n := 24) (k := 20) rfl (cA_t1 hw ha) rfl ?_
  refine Wp.if2 rfl (fun c2 => absurd c2 (Int32.not_le.mpr (glt hj))) (fun c2 => ?_)
  refine Wp.seg 1 (pc1 := 20) (ls1 := [some (.ref a), some (.int (Int32.ofNat n)), some (.int (Int32.ofNat w)), some (.int (((Int32.ofNat n) * (4 : Int32)) + (Int32.ofNat w)))]) (st1 := [.ref a]) rfl ?_
  refine Wp.gr (t := (1, 0)) (v := some (a + 1)) rfl (cA_t hw ha) rfl (cA_r0 hw ha) ?_
  show Wp d 5 23 [some (.ref a), some (.int (Int32.ofNat n)), some (.int (Int32.ofNat w)), some (.int (((Int32.ofNat n) * (4 : Int32)) + (Int32.ofNat w)))] [.ref (a + 1)] h Q
  refine Wp.seg 1 (pc1 := 24) (ls1 := [some (.ref a), some (.int (Int32.ofNat n)), some (.int (Int32.ofNat w)), some (.int (((Int32.ofNat n) * (4 : Int32)) + (Int32.ofNat w)))]) (st1 := [.int (((Int32.ofNat n) * (4 : Int32)) + (Int32.ofNat w)), .ref (a + 1)]) rfl ?_
  refine Wp.iald (j := (4 * n + w)) (k := 20) (n := 24) rfl (cA_t1 hw ha) rfl (gidx n w) hj (by decide) ?_
  refine Wp.seg 1 (pc1 := 29) (ls1 := [some (.ref a), some (.int (Int32.ofNat n)), some (.int (Int32.ofNat w)), some (.int (((Int32.ofNat n) * (4 : Int32)) + (Int32.ofNat w)))]) (st1 := [.int (h.2.2.1 (a + 1) ((4 * n + w)))]) rfl ?_
  exact Wp.reti rfl rfl hQ
set_option maxHeartbeats 4000000 in
theorem t_cput {d : Nat} {Q : KO → Prop} {h : KH} (hw : WF h) {a : Nat} (ha : cityA a) {n w : Nat} {x : Int32} (hj : 4 * n + w < 24) (hd : 0 ≤ d) (hQ : Q (some (.int (h.2.2.1 (a + 1) ((4 * n + w)))), kwi h (a + 1) ((4 * n + w)) x)) : Cl d 6 [.ref a, .int (Int32.ofNat n), .int (Int32.ofNat w), .int (x)] h Q := by
  refine Cl.of (ls := [some (.ref a), some (.int (Int32.ofNat n)), some (.int (Int32.ofNat w)), some (.int (x)), none, none]) rfl rfl ?_
  refine Wp.seg 7 (pc1 := 9) (ls1 := [some (.ref a), some (.int (Int32.ofNat n)), some (.int (Int32.ofNat w)), some (.int (x)), some (.int (((Int32.ofNat n) * (4 : Int32)) + (Int32.ofNat w))), none]) (st1 := [.int (((Int32.ofNat n) * (4 : Int32)) + (Int32.ofNat w))]) rfl ?_
  refine Wp.if1 rfl (fun c1 => absurd c1 (gneg hj)) (fun c1 => ?_)
  refine Wp.seg 2 (pc1 := 15) (ls1 := [some (.ref a), some (.int (Int32.ofNat n)), some (.int (Int32.ofNat w)), some (.int (x)), some (.int (((Int32.ofNat n) * (4 : Int32)) + (Int32.ofNat w))), none]) (st1 := [.ref a, .int (((Int32.ofNat n) * (4 : Int32)) + (Int32.ofNat w))]) rfl ?_
  refine Wp.gr (t := (1, 0)) (v := some (a + 1)) rfl (cA_t hw ha) rfl (cA_r0 hw ha) ?_
  show Wp d 6 18 [some (.ref a), some (.int (Int32.ofNat n)), some (.int (Int32.ofNat w)), some (.int (x)), some (.int (((Int32.ofNat n) * (4 : Int32)) + (Int32.ofNat w))), none] [.ref (a + 1), .int (((Int32.ofNat n) * (4 : Int32)) + (Int32.ofNat w))] h Q
  refine Wp.alen (n := 24) (k := 20) rfl (cA_t1 hw ha) rfl ?_
  refine Wp.if2 rfl (fun c2 => ?_) (fun c2 => absurd (glt hj) c2)
  refine Wp.seg 1 (pc1 := 25) (ls1 := [some (.ref a), some (.int (Int32.ofNat n)), some (.int (Int32.ofNat w)), some (.int (x)), some (.int (((Int32.ofNat n) * (4 : Int32)) + (Int32.ofNat w))), none]) (st1 := [.ref a]) rfl ?_
  refine Wp.gr (t := (1, 0)) (v := some (a + 1)) rfl (cA_t hw ha) rfl (cA_r0 hw ha) ?_
  show Wp d 6 28 [some (.ref a), some (.int (Int32.ofNat n)), some (.int (Int32.ofNat w)), some (.int (x)), some (.int (((Int32.ofNat n) * (4 : Int32)) + (Int32.ofNat w))), none] [.ref (a + 1)] h Q
  refine Wp.seg 1 (pc1 := 30) (ls1 := [some (.ref a), some (.int (Int32.ofNat n)), some (.int (Int32.ofNat w)), some (.int (x)), some (.int (((Int32.ofNat n) * (4 : Int32)) + (Int32.ofNat w))), none]) (st1 := [.int (((Int32.ofNat n) * (4 : Int32)) + (Int32.ofNat w)), .ref (a + 1)]) rfl ?_
  refine Wp.iald (j := (4 * n + w)) (k := 20) (n := 24) rfl (cA_t1 hw ha) rfl (gidx n w) hj (by decide) ?_
  refine Wp.seg 2 (pc1 := 34) (ls1 := [some (.ref a), some (.int (Int32.ofNat n)), some (.int (Int32.ofNat w)), some (.int (x)), some (.int (((Int32.ofNat n) * (4 : Int32)) + (Int32.ofNat w))), some (.int (h.2.2.1 (a + 1) ((4 * n + w))))]) (st1 := [.ref a]) rfl ?_
  refine Wp.gr (t := (1, 0)) (v := some (a + 1)) rfl (cA_t hw ha) rfl (cA_r0 hw ha) ?_
  show Wp d 6 37 [some (.ref a), some (.int (Int32.ofNat n)), some (.int (Int32.ofNat w)), some (.int (x)), some (.int (((Int32.ofNat n) * (4 : Int32)) + (Int32.ofNat w))), some (.int (h.2.2.1 (a + 1) ((4 * n + w))))] [.ref (a + 1)] h Q
  refine Wp.seg 2 (pc1 := 40) (ls1 := [some (.ref a), some (.int (Int32.ofNat n)), some (.int (Int32.ofNat w)), some (.int (x)), some (.int (((Int32.ofNat n) * (4 : Int32)) + (Int32.ofNat w))), some (.int (h.2.2.1 (a + 1) ((4 * n + w))))]) (st1 := [.int (x), .int (((Int32.ofNat n) * (4 : Int32)) + (Int32.ofNat w)), .ref (a + 1)]) rfl ?_
  refine Wp.iast (j := (4 * n + w)) (n := 24) rfl (cA_t1 hw ha) (gidx n w) hj (by decide) ?_
  refine Wp.seg 1 (pc1 := 43) (ls1 := [some (.ref a), some (.int (Int32.ofNat n)), some (.int (Int32.ofNat w)), some (.int (x)), some (.int (((Int32.ofNat n) * (4 : Int32)) + (Int32.ofNat w))), some (.int (h.2.2.1 (a + 1) ((4 * n + w))))]) (st1 := [.int (h.2.2.1 (a + 1) ((4 * n + w)))]) rfl ?_
  exact Wp.reti rfl rfl hQ
theorem s_cget {d : Nat} {Q : KO → Prop} {h : KH} (hw : WF h) {a : Nat} (ha : cityA a) {n w : Nat} {wi x : Int32} (hwi : wi = Int32.ofNat w) (hj : 4 * n + w < 24) (hv : h.2.2.1 (a + 1) (4 * n + w) = x) (hQ : Q (some (.int x), h)) : Cl d 5 [.ref a, .int (Int32.ofNat n), .int wi] h Q := by
  subst hwi
  exact t_cget hw ha hj (Nat.zero_le _) (by rw [hv]; exact hQ)
theorem s_cput {d : Nat} {Q : KO → Prop} {h : KH} (hw : WF h) {a : Nat} (ha : cityA a) {n w : Nat} {wi x : Int32} (hwi : wi = Int32.ofNat w) (hj : 4 * n + w < 24) (hQ : Q (some (.int (h.2.2.1 (a + 1) (4 * n + w))), kwi h (a + 1) (4 * n + w) x)) : Cl d 6 [.ref a, .int (Int32.ofNat n), .int wi, .int x] h Q := by
  subst hwi
  exact t_cput hw ha hj (Nat.zero_le _) hQ
def f_cOver (I : Nat → Nat → Int32) (a : Nat) : Int32 := if (I a 7) < (I a 6) then (0 : Int32) else (1 : Int32)
set_option maxHeartbeats 4000000 in
theorem s_cOver {d : Nat} {Q : KO → Prop} {h : KH} (hw : WF h) {a : Nat} (ha : cityA a) (hd : 0 ≤ d) (hQ : Q (some (.int (f_cOver h.2.2.1 a)), h)) : Cl d 8 [.ref a] h Q := by
  refine Cl.of (ls := [some (.ref a)]) rfl rfl ?_
  refine Wp.seg 1 (pc1 := 1) (ls1 := [some (.ref a)]) (st1 := [.ref a]) rfl ?_
  refine Wp.gi (t := (1, 0)) rfl (cA_t hw ha) (Or.inl rfl) ?_
  refine Wp.seg 1 (pc1 := 5) (ls1 := [some (.ref a)]) (st1 := [.ref a, .int (h.2.2.1 a 7)]) rfl ?_
  refine Wp.gi (t := (1, 0)) rfl (cA_t hw ha) (Or.inl rfl) ?_
  refine Wp.if2 rfl (fun (c1 : (h.2.2.1 a 7) < (h.2.2.1 a 6)) => ?_) (fun (c1 : ¬ ((h.2.2.1 a 7) < (h.2.2.1 a 6))) => ?_)
  · refine Wp.seg 1 (pc1 := 16) (ls1 := [some (.ref a)]) (st1 := [.int (0)]) rfl ?_
    exact Wp.reti rfl rfl (by unfold f_cOver at hQ; rw [if_pos c1] at hQ; exact hQ)
  · refine Wp.seg 2 (pc1 := 16) (ls1 := [some (.ref a)]) (st1 := [.int (1)]) rfl ?_
    exact Wp.reti rfl rfl (by unfold f_cOver at hQ; rw [if_neg c1] at hQ; exact hQ)
def f_cBeside (v f : Int32) : Int32 := if f = 0 then if (3 : Int32) ≤ (v &&& (3 : Int32)) then (-1 : Int32) else v + (1 : Int32) else if f = 1 then if (8 : Int32) ≤ v then (-1 : Int32) else v + (4 : Int32) else if f = 2 then if (v &&& (3 : Int32)) ≤ 0 then (-1 : Int32) else v - (1 : Int32) else v - (4 : Int32)
set_option maxHeartbeats 4000000 in
theorem s_cBeside {d : Nat} {Q : KO → Prop} {h : KH} {v f : Int32} (hd : 0 ≤ d) (hQ : Q (some (.int (f_cBeside v f)), h)) : Cl d 27 [.int (v), .int (f)] h Q := by
  refine Cl.of (ls := [some (.int (v)), some (.int (f))]) rfl rfl ?_
  refine Wp.seg 1 (pc1 := 1) (ls1 := [some (.int (v)), some (.int (f))]) (st1 := [.int (f)]) rfl ?_
  refine Wp.tsw rfl ?_
  refine ⟨fun c1 => ?_, fun c1 => ?_⟩
  · have c1 : f = 0 := c1
    show Wp d 27 28 [some (.int (v)), some (.int (f))] [] h Q
    refine Wp.seg 4 (pc1 := 32) (ls1 := [some (.int (v)), some (.int (f))]) (st1 := [.int (3), .int (v &&& (3 : Int32))]) rfl ?_
    refine Wp.if2 rfl (fun (c2 : (3 : Int32) ≤ (v &&& (3 : Int32))) => ?_) (fun (c2 : ¬ ((3 : Int32) ≤ (v &&& (3 : Int32)))) => ?_)
    · refine Wp.seg 1 (pc1 := 42) (ls1 := [some (.int (v)), some (.int (f))]) (st1 := [.int (-1)]) rfl ?_
      exact Wp.reti rfl rfl (by unfold f_cBeside at hQ; rw [if_pos c1] at hQ; rw [if_pos c2] at hQ; exact hQ)
    · refine Wp.seg 4 (pc1 := 42) (ls1 := [some (.int (v)), some (.int (f))]) (st1 := [.int (v + (1 : Int32))]) rfl ?_
      exact Wp.reti rfl rfl (by unfold f_cBeside at hQ; rw [if_pos c1] at hQ; rw [if_neg c2] at hQ; exact hQ)
  have c1 : ¬ f = 0 := c1
  refine ⟨fun c3 => ?_, fun c3 => ?_⟩
  · have c3 : f = 1 := c3
    show Wp d 27 43 [some (.int (v)), some (.int (f))] [] h Q
    refine Wp.seg 2 (pc1 := 46) (ls1 := [some (.int (v)), some (.int (f))]) (st1 := [.int (8), .int (v)]) rfl ?_
    refine Wp.if2 rfl (fun (c4 : (8 : Int32) ≤ v) => ?_) (fun (c4 : ¬ ((8 : Int32) ≤ v)) => ?_)
    · refine Wp.seg 1 (pc1 := 56) (ls1 := [some (.int (v)), some (.int (f))]) (st1 := [.int (-1)]) rfl ?_
      exact Wp.reti rfl rfl (by unfold f_cBeside at hQ; rw [if_neg c1] at hQ; rw [if_pos c3] at hQ; rw [if_pos c4] at hQ; exact hQ)
    · refine Wp.seg 4 (pc1 := 56) (ls1 := [some (.int (v)), some (.int (f))]) (st1 := [.int (v + (4 : Int32))]) rfl ?_
      exact Wp.reti rfl rfl (by unfold f_cBeside at hQ; rw [if_neg c1] at hQ; rw [if_pos c3] at hQ; rw [if_neg c4] at hQ; exact hQ)
  have c3 : ¬ f = 1 := c3
  refine ⟨fun c5 => ?_, fun c5 => ?_⟩
  · have c5 : f = 2 := c5
    show Wp d 27 57 [some (.int (v)), some (.int (f))] [] h Q
    refine Wp.seg 3 (pc1 := 60) (ls1 := [some (.int (v)), some (.int (f))]) (st1 := [.int (v &&& (3 : Int32))]) rfl ?_
    refine Wp.if1 rfl (fun (c6 : (v &&& (3 : Int32)) ≤ 0) => ?_) (fun (c6 : ¬ ((v &&& (3 : Int32)) ≤ 0)) => ?_)
    · refine Wp.seg 1 (pc1 := 70) (ls1 := [some (.int (v)), some (.int (f))]) (st1 := [.int (-1)]) rfl ?_
      exact Wp.reti rfl rfl (by unfold f_cBeside at hQ; rw [if_neg c1] at hQ; rw [if_neg c3] at hQ; rw [if_pos c5] at hQ; rw [if_pos c6] at hQ; exact hQ)
    · refine Wp.seg 4 (pc1 := 70) (ls1 := [some (.int (v)), some (.int (f))]) (st1 := [.int (v - (1 : Int32))]) rfl ?_
      exact Wp.reti rfl rfl (by unfold f_cBeside at hQ; rw [if_neg c1] at hQ; rw [if_neg c3] at hQ; rw [if_pos c5] at hQ; rw [if_neg c6] at hQ; exact hQ)
  have c5 : ¬ f = 2 := c5
  show Wp d 27 71 [some (.int (v)), some (.int (f))] [] h Q
  refine Wp.seg 3 (pc1 := 74) (ls1 := [some (.int (v)), some (.int (f))]) (st1 := [.int (v - (4 : Int32))]) rfl ?_
  exact Wp.reti rfl rfl (by unfold f_cBeside at hQ; rw [if_neg c1] at hQ; rw [if_neg c3] at hQ; rw [if_neg c5] at hQ; exact hQ)
def f_cEdge (v f : Int32) : Int32 := if f = 0 then v - (v >>> ((2 : Int32) &&& 31)) else if f = 1 then (9 : Int32) + v else if f = 2 then (v - (1 : Int32)) - (v >>> ((2 : Int32) &&& 31)) else (5 : Int32) + v
set_option maxHeartbeats 4000000 in
theorem s_cEdge {d : Nat} {Q : KO → Prop} {h : KH} {v f : Int32} (hd : 0 ≤ d) (hQ : Q (some (.int (f_cEdge v f)), h)) : Cl d 28 [.int (v), .int (f)] h Q := by
  refine Cl.of (ls := [some (.int (v)), some (.int (f))]) rfl rfl ?_
  refine Wp.seg 1 (pc1 := 1) (ls1 := [some (.int (v)), some (.int (f))]) (st1 := [.int (f)]) rfl ?_
  refine Wp.tsw rfl ?_
  refine ⟨fun c1 => ?_, fun c1 => ?_⟩
  · have c1 : f = 0 := c1
    show Wp d 28 28 [some (.int (v)), some (.int (f))] [] h Q
    refine Wp.seg 5 (pc1 := 33) (ls1 := [some (.int (v)), some (.int (f))]) (st1 := [.int (v - (v >>> ((2 : Int32) &&& 31)))]) rfl ?_
    exact Wp.reti rfl rfl (by unfold f_cEdge at hQ; rw [if_pos c1] at hQ; exact hQ)
  have c1 : ¬ f = 0 := c1
  refine ⟨fun c2 => ?_, fun c2 => ?_⟩
  · have c2 : f = 1 := c2
    show Wp d 28 34 [some (.int (v)), some (.int (f))] [] h Q
    refine Wp.seg 3 (pc1 := 38) (ls1 := [some (.int (v)), some (.int (f))]) (st1 := [.int ((9 : Int32) + v)]) rfl ?_
    exact Wp.reti rfl rfl (by unfold f_cEdge at hQ; rw [if_neg c1] at hQ; rw [if_pos c2] at hQ; exact hQ)
  have c2 : ¬ f = 1 := c2
  refine ⟨fun c3 => ?_, fun c3 => ?_⟩
  · have c3 : f = 2 := c3
    show Wp d 28 39 [some (.int (v)), some (.int (f))] [] h Q
    refine Wp.seg 7 (pc1 := 46) (ls1 := [some (.int (v)), some (.int (f))]) (st1 := [.int ((v - (1 : Int32)) - (v >>> ((2 : Int32) &&& 31)))]) rfl ?_
    exact Wp.reti rfl rfl (by unfold f_cEdge at hQ; rw [if_neg c1] at hQ; rw [if_neg c2] at hQ; rw [if_pos c3] at hQ; exact hQ)
  have c3 : ¬ f = 2 := c3
  show Wp d 28 47 [some (.int (v)), some (.int (f))] [] h Q
  refine Wp.seg 3 (pc1 := 50) (ls1 := [some (.int (v)), some (.int (f))]) (st1 := [.int ((5 : Int32) + v)]) rfl ?_
  exact Wp.reti rfl rfl (by unfold f_cEdge at hQ; rw [if_neg c1] at hQ; rw [if_neg c2] at hQ; rw [if_neg c3] at hQ; exact hQ)
def f_cTurned (v f : Int32) : Int32 := (v + f) &&& (3 : Int32)
set_option maxHeartbeats 4000000 in
theorem s_cTurned {d : Nat} {Q : KO → Prop} {h : KH} {v f : Int32} (hd : 0 ≤ d) (hQ : Q (some (.int (f_cTurned v f)), h)) : Cl d 30 [.int (v), .int (f)] h Q := by
  refine Cl.of (ls := [some (.int (v)), some (.int (f))]) rfl rfl ?_
  refine Wp.seg 5 (pc1 := 5) (ls1 := [some (.int (v)), some (.int (f))]) (st1 := [.int ((v + f) &&& (3 : Int32))]) rfl ?_
  exact Wp.reti rfl rfl (by unfold f_cTurned at hQ; exact hQ)
def f_cStrokes (v f : Int32) : Int32 := if v = 1 then (((5 : Int32) <<< (f &&& 31)) ||| ((5 : Int32) >>> (((4 : Int32) - f) &&& 31))) &&& (15 : Int32) else if v = 2 then (((11 : Int32) <<< (f &&& 31)) ||| ((11 : Int32) >>> (((4 : Int32) - f) &&& 31))) &&& (15 : Int32) else if v = 3 then (((10 : Int32) <<< (f &&& 31)) ||| ((10 : Int32) >>> (((4 : Int32) - f) &&& 31))) &&& (15 : Int32) else if v = 4 then (((1 : Int32) <<< (f &&& 31)) ||| ((1 : Int32) >>> (((4 : Int32) - f) &&& 31))) &&& (15 : Int32) else if v = 5 then (((15 : Int32) <<< (f &&& 31)) ||| ((15 : Int32) >>> (((4 : Int32) - f) &&& 31))) &&& (15 : Int32) else (((1 : Int32) <<< (f &&& 31)) ||| ((1 : Int32) >>> (((4 : Int32) - f) &&& 31))) &&& (15 : Int32)
set_option maxHeartbeats 4000000 in
theorem s_cStrokes {d : Nat} {Q : KO → Prop} {h : KH} {v f : Int32} (hd : 0 ≤ d) (hQ : Q (some (.int (f_cStrokes v f)), h)) : Cl d 31 [.int (v), .int (f)] h Q := by
  refine Cl.of (ls := [some (.int (v)), some (.int (f)), none]) rfl rfl ?_
  refine Wp.seg 1 (pc1 := 1) (ls1 := [some (.int (v)), some (.int (f)), none]) (st1 := [.int (v)]) rfl ?_
  refine Wp.tsw rfl ?_
  refine ⟨fun c1 => ?_, fun c1 => ?_⟩
  · have c1 : v = 1 := c1
    show Wp d 31 36 [some (.int (v)), some (.int (f)), none] [] h Q
    refine Wp.seg 14 (pc1 := 73) (ls1 := [some (.int (v)), some (.int (f)), some (.int (5))]) (st1 := [.int ((((5 : Int32) <<< (f &&& 31)) ||| ((5 : Int32) >>> (((4 : Int32) - f) &&& 31))) &&& (15 : Int32))]) rfl ?_
    exact Wp.reti rfl rfl (by unfold f_cStrokes at hQ; rw [if_pos c1] at hQ; exact hQ)
  have c1 : ¬ v = 1 := c1
  refine ⟨fun c2 => ?_, fun c2 => ?_⟩
  · have c2 : v = 2 := c2
    show Wp d 31 41 [some (.int (v)), some (.int (f)), none] [] h Q
    refine Wp.seg 14 (pc1 := 73) (ls1 := [some (.int (v)), some (.int (f)), some (.int (11))]) (st1 := [.int ((((11 : Int32) <<< (f &&& 31)) ||| ((11 : Int32) >>> (((4 : Int32) - f) &&& 31))) &&& (15 : Int32))]) rfl ?_
    exact Wp.reti rfl rfl (by unfold f_cStrokes at hQ; rw [if_neg c1] at hQ; rw [if_pos c2] at hQ; exact hQ)
  have c2 : ¬ v = 2 := c2
  refine ⟨fun c3 => ?_, fun c3 => ?_⟩
  · have c3 : v = 3 := c3
    show Wp d 31 47 [some (.int (v)), some (.int (f)), none] [] h Q
    refine Wp.seg 14 (pc1 := 73) (ls1 := [some (.int (v)), some (.int (f)), some (.int (10))]) (st1 := [.int ((((10 : Int32) <<< (f &&& 31)) ||| ((10 : Int32) >>> (((4 : Int32) - f) &&& 31))) &&& (15 : Int32))]) rfl ?_
    exact Wp.reti rfl rfl (by unfold f_cStrokes at hQ; rw [if_neg c1] at hQ; rw [if_neg c2] at hQ; rw [if_pos c3] at hQ; exact hQ)
  have c3 : ¬ v = 3 := c3
  refine ⟨fun c4 => ?_, fun c4 => ?_⟩
  · have c4 : v = 4 := c4
    show Wp d 31 59 [some (.int (v)), some (.int (f)), none] [] h Q
    refine Wp.seg 13 (pc1 := 73) (ls1 := [some (.int (v)), some (.int (f)), some (.int (1))]) (st1 := [.int ((((1 : Int32) <<< (f &&& 31)) ||| ((1 : Int32) >>> (((4 : Int32) - f) &&& 31))) &&& (15 : Int32))]) rfl ?_
    exact Wp.reti rfl rfl (by unfold f_cStrokes at hQ; rw [if_neg c1] at hQ; rw [if_neg c2] at hQ; rw [if_neg c3] at hQ; rw [if_pos c4] at hQ; exact hQ)
  have c4 : ¬ v = 4 := c4
  refine ⟨fun c5 => ?_, fun c5 => ?_⟩
  · have c5 : v = 5 := c5
    show Wp d 31 53 [some (.int (v)), some (.int (f)), none] [] h Q
    refine Wp.seg 14 (pc1 := 73) (ls1 := [some (.int (v)), some (.int (f)), some (.int (15))]) (st1 := [.int ((((15 : Int32) <<< (f &&& 31)) ||| ((15 : Int32) >>> (((4 : Int32) - f) &&& 31))) &&& (15 : Int32))]) rfl ?_
    exact Wp.reti rfl rfl (by unfold f_cStrokes at hQ; rw [if_neg c1] at hQ; rw [if_neg c2] at hQ; rw [if_neg c3] at hQ; rw [if_neg c4] at hQ; rw [if_pos c5] at hQ; exact hQ)
  have c5 : ¬ v = 5 := c5
  show Wp d 31 59 [some (.int (v)), some (.int (f)), none] [] h Q
  refine Wp.seg 13 (pc1 := 73) (ls1 := [some (.int (v)), some (.int (f)), some (.int (1))]) (st1 := [.int ((((1 : Int32) <<< (f &&& 31)) ||| ((1 : Int32) >>> (((4 : Int32) - f) &&& 31))) &&& (15 : Int32))]) rfl ?_
  exact Wp.reti rfl rfl (by unfold f_cStrokes at hQ; rw [if_neg c1] at hQ; rw [if_neg c2] at hQ; rw [if_neg c3] at hQ; rw [if_neg c4] at hQ; rw [if_neg c5] at hQ; exact hQ)
def f_cCosts (v : Int32) : Int32 := if v = 1 then (2 : Int32) else if v = 2 then (3 : Int32) else if v = 3 then (2 : Int32) else if v = 4 then (0 : Int32) else if v = 5 then (0 : Int32) else (1 : Int32)
set_option maxHeartbeats 4000000 in
theorem s_cCosts {d : Nat} {Q : KO → Prop} {h : KH} {v : Int32} (hd : 0 ≤ d) (hQ : Q (some (.int (f_cCosts v)), h)) : Cl d 32 [.int (v)] h Q := by
  refine Cl.of (ls := [some (.int (v))]) rfl rfl ?_
  refine Wp.seg 1 (pc1 := 1) (ls1 := [some (.int (v))]) (st1 := [.int (v)]) rfl ?_
  refine Wp.tsw rfl ?_
  refine ⟨fun c1 => ?_, fun c1 => ?_⟩
  · have c1 : v = 1 := c1
    show Wp d 32 36 [some (.int (v))] [] h Q
    refine Wp.seg 1 (pc1 := 37) (ls1 := [some (.int (v))]) (st1 := [.int (2)]) rfl ?_
    exact Wp.reti rfl rfl (by unfold f_cCosts at hQ; rw [if_pos c1] at hQ; exact hQ)
  have c1 : ¬ v = 1 := c1
  refine ⟨fun c2 => ?_, fun c2 => ?_⟩
  · have c2 : v = 2 := c2
    show Wp d 32 38 [some (.int (v))] [] h Q
    refine Wp.seg 1 (pc1 := 39) (ls1 := [some (.int (v))]) (st1 := [.int (3)]) rfl ?_
    exact Wp.reti rfl rfl (by unfold f_cCosts at hQ; rw [if_neg c1] at hQ; rw [if_pos c2] at hQ; exact hQ)
  have c2 : ¬ v = 2 := c2
  refine ⟨fun c3 => ?_, fun c3 => ?_⟩
  · have c3 : v = 3 := c3
    show Wp d 32 40 [some (.int (v))] [] h Q
    refine Wp.seg 1 (pc1 := 41) (ls1 := [some (.int (v))]) (st1 := [.int (2)]) rfl ?_
    exact Wp.reti rfl rfl (by unfold f_cCosts at hQ; rw [if_neg c1] at hQ; rw [if_neg c2] at hQ; rw [if_pos c3] at hQ; exact hQ)
  have c3 : ¬ v = 3 := c3
  refine ⟨fun c4 => ?_, fun c4 => ?_⟩
  · have c4 : v = 4 := c4
    show Wp d 32 42 [some (.int (v))] [] h Q
    refine Wp.seg 1 (pc1 := 43) (ls1 := [some (.int (v))]) (st1 := [.int (0)]) rfl ?_
    exact Wp.reti rfl rfl (by unfold f_cCosts at hQ; rw [if_neg c1] at hQ; rw [if_neg c2] at hQ; rw [if_neg c3] at hQ; rw [if_pos c4] at hQ; exact hQ)
  have c4 : ¬ v = 4 := c4
  refine ⟨fun c5 => ?_, fun c5 => ?_⟩
  · have c5 : v = 5 := c5
    show Wp d 32 42 [some (.int (v))] [] h Q
    refine Wp.seg 1 (pc1 := 43) (ls1 := [some (.int (v))]) (st1 := [.int (0)]) rfl ?_
    exact Wp.reti rfl rfl (by unfold f_cCosts at hQ; rw [if_neg c1] at hQ; rw [if_neg c2] at hQ; rw [if_neg c3] at hQ; rw [if_neg c4] at hQ; rw [if_pos c5] at hQ; exact hQ)
  have c5 : ¬ v = 5 := c5
  show Wp d 32 44 [some (.int (v))] [] h Q
  refine Wp.seg 1 (pc1 := 45) (ls1 := [some (.int (v))]) (st1 := [.int (1)]) rfl ?_
  exact Wp.reti rfl rfl (by unfold f_cCosts at hQ; rw [if_neg c1] at hQ; rw [if_neg c2] at hQ; rw [if_neg c3] at hQ; rw [if_neg c4] at hQ; rw [if_neg c5] at hQ; exact hQ)
def f_cTurns (v : Int32) : Int32 := if v = 1 then (2 : Int32) else if v = 2 then (1 : Int32) else if v = 3 then (3 : Int32) else if v = 4 then (1 : Int32) else if v = 5 then (2 : Int32) else (1 : Int32)
set_option maxHeartbeats 4000000 in
theorem s_cTurns {d : Nat} {Q : KO → Prop} {h : KH} {v : Int32} (hd : 0 ≤ d) (hQ : Q (some (.int (f_cTurns v)), h)) : Cl d 33 [.int (v)] h Q := by
  refine Cl.of (ls := [some (.int (v))]) rfl rfl ?_
  refine Wp.seg 1 (pc1 := 1) (ls1 := [some (.int (v))]) (st1 := [.int (v)]) rfl ?_
  refine Wp.tsw rfl ?_
  refine ⟨fun c1 => ?_, fun c1 => ?_⟩
  · have c1 : v = 1 := c1
    show Wp d 33 36 [some (.int (v))] [] h Q
    refine Wp.seg 1 (pc1 := 37) (ls1 := [some (.int (v))]) (st1 := [.int (2)]) rfl ?_
    exact Wp.reti rfl rfl (by unfold f_cTurns at hQ; rw [if_pos c1] at hQ; exact hQ)
  have c1 : ¬ v = 1 := c1
  refine ⟨fun c2 => ?_, fun c2 => ?_⟩
  · have c2 : v = 2 := c2
    show Wp d 33 42 [some (.int (v))] [] h Q
    refine Wp.seg 1 (pc1 := 43) (ls1 := [some (.int (v))]) (st1 := [.int (1)]) rfl ?_
    exact Wp.reti rfl rfl (by unfold f_cTurns at hQ; rw [if_neg c1] at hQ; rw [if_pos c2] at hQ; exact hQ)
  have c2 : ¬ v = 2 := c2
  refine ⟨fun c3 => ?_, fun c3 => ?_⟩
  · have c3 : v = 3 := c3
    show Wp d 33 38 [some (.int (v))] [] h Q
    refine Wp.seg 1 (pc1 := 39) (ls1 := [some (.int (v))]) (st1 := [.int (3)]) rfl ?_
    exact Wp.reti rfl rfl (by unfold f_cTurns at hQ; rw [if_neg c1] at hQ; rw [if_neg c2] at hQ; rw [if_pos c3] at hQ; exact hQ)
  have c3 : ¬ v = 3 := c3
  refine ⟨fun c4 => ?_, fun c4 => ?_⟩
  · have c4 : v = 4 := c4
    show Wp d 33 42 [some (.int (v))] [] h Q
    refine Wp.seg 1 (pc1 := 43) (ls1 := [some (.int (v))]) (st1 := [.int (1)]) rfl ?_
    exact Wp.reti rfl rfl (by unfold f_cTurns at hQ; rw [if_neg c1] at hQ; rw [if_neg c2] at hQ; rw [if_neg c3] at hQ; rw [if_pos c4] at hQ; exact hQ)
  have c4 : ¬ v = 4 := c4
  refine ⟨fun c5 => ?_, fun c5 => ?_⟩
  · have c5 : v = 5 := c5
    show Wp d 33 40 [some (.int (v))] [] h Q
    refine Wp.seg 1 (pc1 := 41) (ls1 := [some (.int (v))]) (st1 := [.int (2)]) rfl ?_
    exact Wp.reti rfl rfl (by unfold f_cTurns at hQ; rw [if_neg c1] at hQ; rw [if_neg c2] at hQ; rw [if_neg c3] at hQ; rw [if_neg c4] at hQ; rw [if_pos c5] at hQ; exact hQ)
  have c5 : ¬ v = 5 := c5
  show Wp d 33 42 [some (.int (v))] [] h Q
  refine Wp.seg 1 (pc1 := 43) (ls1 := [some (.int (v))]) (st1 := [.int (1)]) rfl ?_
  exact Wp.reti rfl rfl (by unfold f_cTurns at hQ; rw [if_neg c1] at hQ; rw [if_neg c2] at hQ; rw [if_neg c3] at hQ; rw [if_neg c4] at hQ; rw [if_neg c5] at hQ; exact hQ)
def f_cUnder (v f : Int32) : Int32 := if f = 0 then (1 : Int32) else if v = f then (1 : Int32) else if ¬ v = (3 : Int32) then if ¬ v = (5 : Int32) then (0 : Int32) else if ¬ f = (4 : Int32) then (0 : Int32) else (1 : Int32) else if f = (2 : Int32) then (1 : Int32) else if ¬ v = (5 : Int32) then (0 : Int32) else if ¬ f = (4 : Int32) then (0 : Int32) else (1 : Int32)
set_option maxHeartbeats 4000000 in
theorem s_cUnder {d : Nat} {Q : KO → Prop} {h : KH} {v f : Int32} (hd : 0 ≤ d) (hQ : Q (some (.int (f_cUnder v f)), h)) : Cl d 35 [.int (v), .int (f)] h Q := by
  refine Cl.of (ls := [some (.int (v)), some (.int (f))]) rfl rfl ?_
  refine Wp.seg 1 (pc1 := 1) (ls1 := [some (.int (v)), some (.int (f))]) (st1 := [.int (f)]) rfl ?_
  refine Wp.if1 rfl (fun (c1 : f = 0) => ?_) (fun (c1 : ¬ (f = 0)) => ?_)
  · refine Wp.seg 2 (pc1 := 34) (ls1 := [some (.int (v)), some (.int (f))]) (st1 := [.int (1)]) rfl ?_
    exact Wp.reti rfl rfl (by unfold f_cUnder at hQ; rw [if_pos c1] at hQ; exact hQ)
  · refine Wp.seg 2 (pc1 := 6) (ls1 := [some (.int (v)), some (.int (f))]) (st1 := [.int (f), .int (v)]) rfl ?_
    refine Wp.if2 rfl (fun (c2 : v = f) => ?_) (fun (c2 : ¬ (v = f)) => ?_)
    · refine Wp.seg 2 (pc1 := 34) (ls1 := [some (.int (v)), some (.int (f))]) (st1 := [.int (1)]) rfl ?_
      exact Wp.reti rfl rfl (by unfold f_cUnder at hQ; rw [if_neg c1] at hQ; rw [if_pos c2] at hQ; exact hQ)
    · refine Wp.seg 2 (pc1 := 11) (ls1 := [some (.int (v)), some (.int (f))]) (st1 := [.int (3), .int (v)]) rfl ?_
      refine Wp.if2 rfl (fun (c3 : ¬ v = (3 : Int32)) => ?_) (fun (c3 : ¬ (¬ v = (3 : Int32))) => ?_)
      · refine Wp.seg 2 (pc1 := 21) (ls1 := [some (.int (v)), some (.int (f))]) (st1 := [.int (5), .int (v)]) rfl ?_
        refine Wp.if2 rfl (fun (c4 : ¬ v = (5 : Int32)) => ?_) (fun (c4 : ¬ (¬ v = (5 : Int32))) => ?_)
        · refine Wp.seg 1 (pc1 := 34) (ls1 := [some (.int (v)), some (.int (f))]) (st1 := [.int (0)]) rfl ?_
          exact Wp.reti rfl rfl (by unfold f_cUnder at hQ; rw [if_neg c1] at hQ; rw [if_neg c2] at hQ; rw [if_pos c3] at hQ; rw [if_pos c4] at hQ; exact hQ)
        · refine Wp.seg 2 (pc1 := 26) (ls1 := [some (.int (v)), some (.int (f))]) (st1 := [.int (4), .int (f)]) rfl ?_
          refine Wp.if2 rfl (fun (c5 : ¬ f = (4 : Int32)) => ?_) (fun (c5 : ¬ (¬ f = (4 : Int32))) => ?_)
          · refine Wp.seg 1 (pc1 := 34) (ls1 := [some (.int (v)), some (.int (f))]) (st1 := [.int (0)]) rfl ?_
            exact Wp.reti rfl rfl (by unfold f_cUnder at hQ; rw [if_neg c1] at hQ; rw [if_neg c2] at hQ; rw [if_pos c3] at hQ; rw [if_neg c4] at hQ; rw [if_pos c5] at hQ; exact hQ)
          · refine Wp.seg 2 (pc1 := 34) (ls1 := [some (.int (v)), some (.int (f))]) (st1 := [.int (1)]) rfl ?_
            exact Wp.reti rfl rfl (by unfold f_cUnder at hQ; rw [if_neg c1] at hQ; rw [if_neg c2] at hQ; rw [if_pos c3] at hQ; rw [if_neg c4] at hQ; rw [if_neg c5] at hQ; exact hQ)
      · refine Wp.seg 2 (pc1 := 16) (ls1 := [some (.int (v)), some (.int (f))]) (st1 := [.int (2), .int (f)]) rfl ?_
        refine Wp.if2 rfl (fun (c6 : f = (2 : Int32)) => ?_) (fun (c6 : ¬ (f = (2 : Int32))) => ?_)
        · refine Wp.seg 2 (pc1 := 34) (ls1 := [some (.int (v)), some (.int (f))]) (st1 := [.int (1)]) rfl ?_
          exact Wp.reti rfl rfl (by unfold f_cUnder at hQ; rw [if_neg c1] at hQ; rw [if_neg c2] at hQ; rw [if_neg c3] at hQ; rw [if_pos c6] at hQ; exact hQ)
        · refine Wp.seg 2 (pc1 := 21) (ls1 := [some (.int (v)), some (.int (f))]) (st1 := [.int (5), .int (v)]) rfl ?_
          refine Wp.if2 rfl (fun (c7 : ¬ v = (5 : Int32)) => ?_) (fun (c7 : ¬ (¬ v = (5 : Int32))) => ?_)
          · refine Wp.seg 1 (pc1 := 34) (ls1 := [some (.int (v)), some (.int (f))]) (st1 := [.int (0)]) rfl ?_
            exact Wp.reti rfl rfl (by unfold f_cUnder at hQ; rw [if_neg c1] at hQ; rw [if_neg c2] at hQ; rw [if_neg c3] at hQ; rw [if_neg c6] at hQ; rw [if_pos c7] at hQ; exact hQ)
          · refine Wp.seg 2 (pc1 := 26) (ls1 := [some (.int (v)), some (.int (f))]) (st1 := [.int (4), .int (f)]) rfl ?_
            refine Wp.if2 rfl (fun (c8 : ¬ f = (4 : Int32)) => ?_) (fun (c8 : ¬ (¬ f = (4 : Int32))) => ?_)
            · refine Wp.seg 1 (pc1 := 34) (ls1 := [some (.int (v)), some (.int (f))]) (st1 := [.int (0)]) rfl ?_
              exact Wp.reti rfl rfl (by unfold f_cUnder at hQ; rw [if_neg c1] at hQ; rw [if_neg c2] at hQ; rw [if_neg c3] at hQ; rw [if_neg c6] at hQ; rw [if_neg c7] at hQ; rw [if_pos c8] at hQ; exact hQ)
            · refine Wp.seg 2 (pc1 := 34) (ls1 := [some (.int (v)), some (.int (f))]) (st1 := [.int (1)]) rfl ?_
              exact Wp.reti rfl rfl (by unfold f_cUnder at hQ; rw [if_neg c1] at hQ; rw [if_neg c2] at hQ; rw [if_neg c3] at hQ; rw [if_neg c6] at hQ; rw [if_neg c7] at hQ; rw [if_neg c8] at hQ; exact hQ)
def f_cRight (v : Int32) : Int32 := (((v ^^^ (-1 : Int32)) &&& (7 : Int32)) ||| (((v ^^^ (-1 : Int32)) &&& (56 : Int32)) <<< ((1 : Int32) &&& 31))) ||| (((v ^^^ (-1 : Int32)) &&& (448 : Int32)) <<< ((2 : Int32) &&& 31))
set_option maxHeartbeats 4000000 in
theorem s_cRight {d : Nat} {Q : KO → Prop} {h : KH} {v : Int32} (hd : 0 ≤ d) (hQ : Q (some (.int (f_cRight v)), h)) : Cl d 23 [.int (v)] h Q := by
  refine Cl.of (ls := [some (.int (v)), none]) rfl rfl ?_
  refine Wp.seg 19 (pc1 := 23) (ls1 := [some (.int (v)), some (.int (v ^^^ (-1 : Int32)))]) (st1 := [.int ((((v ^^^ (-1 : Int32)) &&& (7 : Int32)) ||| (((v ^^^ (-1 : Int32)) &&& (56 : Int32)) <<< ((1 : Int32) &&& 31))) ||| (((v ^^^ (-1 : Int32)) &&& (448 : Int32)) <<< ((2 : Int32) &&& 31)))]) rfl ?_
  exact Wp.reti rfl rfl (by unfold f_cRight at hQ; exact hQ)
def f_cDown (v : Int32) : Int32 := ((v ^^^ (-1 : Int32)) >>> ((9 : Int32) &&& 31)) &&& (255 : Int32)
set_option maxHeartbeats 4000000 in
theorem s_cDown {d : Nat} {Q : KO → Prop} {h : KH} {v : Int32} (hd : 0 ≤ d) (hQ : Q (some (.int (f_cDown v)), h)) : Cl d 24 [.int (v)] h Q := by
  refine Cl.of (ls := [some (.int (v))]) rfl rfl ?_
  refine Wp.seg 7 (pc1 := 10) (ls1 := [some (.int (v))]) (st1 := [.int (((v ^^^ (-1 : Int32)) >>> ((9 : Int32) &&& 31)) &&& (255 : Int32))]) rfl ?_
  exact Wp.reti rfl rfl (by unfold f_cDown at hQ; exact hQ)
def f_cWider (c r q : Int32) : Int32 := (((c ||| ((c &&& r) <<< ((1 : Int32) &&& 31))) ||| ((c >>> ((1 : Int32) &&& 31)) &&& r)) ||| ((c &&& q) <<< ((4 : Int32) &&& 31))) ||| ((c >>> ((4 : Int32) &&& 31)) &&& q)
set_option maxHeartbeats 4000000 in
theorem s_cWider {d : Nat} {Q : KO → Prop} {h : KH} {c r q : Int32} (hd : 0 ≤ d) (hQ : Q (some (.int (f_cWider c r q)), h)) : Cl d 25 [.int (c), .int (r), .int (q)] h Q := by
  refine Cl.of (ls := [some (.int (c)), some (.int (r)), some (.int (q))]) rfl rfl ?_
  refine Wp.seg 25 (pc1 := 25) (ls1 := [some (.int (c)), some (.int (r)), some (.int (q))]) (st1 := [.int ((((c ||| ((c &&& r) <<< ((1 : Int32) &&& 31))) ||| ((c >>> ((1 : Int32) &&& 31)) &&& r)) ||| ((c &&& q) <<< ((4 : Int32) &&& 31))) ||| ((c >>> ((4 : Int32) &&& 31)) &&& q))]) rfl ?_
  exact Wp.reti rfl rfl (by unfold f_cWider at hQ; exact hQ)
def f_cLeaving (c : Int32) : Int32 := ((((c ^^^ (c >>> ((1 : Int32) &&& 31))) &&& (7 : Int32)) ||| (((c ^^^ (c >>> ((1 : Int32) &&& 31))) >>> ((1 : Int32) &&& 31)) &&& (56 : Int32))) ||| (((c ^^^ (c >>> ((1 : Int32) &&& 31))) >>> ((2 : Int32) &&& 31)) &&& (448 : Int32))) ||| (((c ^^^ (c >>> ((4 : Int32) &&& 31))) &&& (255 : Int32)) <<< ((9 : Int32) &&& 31))
set_option maxHeartbeats 4000000 in
theorem s_cLeaving {d : Nat} {Q : KO → Prop} {h : KH} {c : Int32} (hd : 0 ≤ d) (hQ : Q (some (.int (f_cLeaving c)), h)) : Cl d 26 [.int (c)] h Q := by
  refine Cl.of (ls := [some (.int (c)), none, none]) rfl rfl ?_
  refine Wp.seg 33 (pc1 := 40) (ls1 := [some (.int (c)), some (.int (c ^^^ (c >>> ((1 : Int32) &&& 31)))), some (.int ((c ^^^ (c >>> ((4 : Int32) &&& 31))) &&& (255 : Int32)))]) (st1 := [.int (((((c ^^^ (c >>> ((1 : Int32) &&& 31))) &&& (7 : Int32)) ||| (((c ^^^ (c >>> ((1 : Int32) &&& 31))) >>> ((1 : Int32) &&& 31)) &&& (56 : Int32))) ||| (((c ^^^ (c >>> ((1 : Int32) &&& 31))) >>> ((2 : Int32) &&& 31)) &&& (448 : Int32))) ||| (((c ^^^ (c >>> ((4 : Int32) &&& 31))) &&& (255 : Int32)) <<< ((9 : Int32) &&& 31)))]) rfl ?_
  exact Wp.reti rfl rfl (by unfold f_cLeaving at hQ; exact hQ)
def f_bitCount (v : Int32) : Int32 := (((((((v - ((kushr v (1 : Int32)) &&& (1431655765 : Int32))) &&& (858993459 : Int32)) + ((kushr (v - ((kushr v (1 : Int32)) &&& (1431655765 : Int32))) (2 : Int32)) &&& (858993459 : Int32))) + (kushr (((v - ((kushr v (1 : Int32)) &&& (1431655765 : Int32))) &&& (858993459 : Int32)) + ((kushr (v - ((kushr v (1 : Int32)) &&& (1431655765 : Int32))) (2 : Int32)) &&& (858993459 : Int32))) (4 : Int32))) &&& (252645135 : Int32)) + (kushr (((((v - ((kushr v (1 : Int32)) &&& (1431655765 : Int32))) &&& (858993459 : Int32)) + ((kushr (v - ((kushr v (1 : Int32)) &&& (1431655765 : Int32))) (2 : Int32)) &&& (858993459 : Int32))) + (kushr (((v - ((kushr v (1 : Int32)) &&& (1431655765 : Int32))) &&& (858993459 : Int32)) + ((kushr (v - ((kushr v (1 : Int32)) &&& (1431655765 : Int32))) (2 : Int32)) &&& (858993459 : Int32))) (4 : Int32))) &&& (252645135 : Int32)) (8 : Int32))) + (kushr ((((((v - ((kushr v (1 : Int32)) &&& (1431655765 : Int32))) &&& (858993459 : Int32)) + ((kushr (v - ((kushr v (1 : Int32)) &&& (1431655765 : Int32))) (2 : Int32)) &&& (858993459 : Int32))) + (kushr (((v - ((kushr v (1 : Int32)) &&& (1431655765 : Int32))) &&& (858993459 : Int32)) + ((kushr (v - ((kushr v (1 : Int32)) &&& (1431655765 : Int32))) (2 : Int32)) &&& (858993459 : Int32))) (4 : Int32))) &&& (252645135 : Int32)) + (kushr (((((v - ((kushr v (1 : Int32)) &&& (1431655765 : Int32))) &&& (858993459 : Int32)) + ((kushr (v - ((kushr v (1 : Int32)) &&& (1431655765 : Int32))) (2 : Int32)) &&& (858993459 : Int32))) + (kushr (((v - ((kushr v (1 : Int32)) &&& (1431655765 : Int32))) &&& (858993459 : Int32)) + ((kushr (v - ((kushr v (1 : Int32)) &&& (1431655765 : Int32))) (2 : Int32)) &&& (858993459 : Int32))) (4 : Int32))) &&& (252645135 : Int32)) (8 : Int32))) (16 : Int32))) &&& (63 : Int32)
set_option maxHeartbeats 4000000 in
theorem s_bitCount {d : Nat} {Q : KO → Prop} {h : KH} {v : Int32} (hd : 0 ≤ d) (hQ : Q (some (.int (f_bitCount v)), h)) : Cl d 289 [.int (v)] h Q := by
  refine Cl.of (ls := [some (.int (v))]) rfl rfl ?_
  refine Wp.seg 41 (pc1 := 52) (ls1 := [some (.int (((((((v - ((kushr v (1 : Int32)) &&& (1431655765 : Int32))) &&& (858993459 : Int32)) + ((kushr (v - ((kushr v (1 : Int32)) &&& (1431655765 : Int32))) (2 : Int32)) &&& (858993459 : Int32))) + (kushr (((v - ((kushr v (1 : Int32)) &&& (1431655765 : Int32))) &&& (858993459 : Int32)) + ((kushr (v - ((kushr v (1 : Int32)) &&& (1431655765 : Int32))) (2 : Int32)) &&& (858993459 : Int32))) (4 : Int32))) &&& (252645135 : Int32)) + (kushr (((((v - ((kushr v (1 : Int32)) &&& (1431655765 : Int32))) &&& (858993459 : Int32)) + ((kushr (v - ((kushr v (1 : Int32)) &&& (1431655765 : Int32))) (2 : Int32)) &&& (858993459 : Int32))) + (kushr (((v - ((kushr v (1 : Int32)) &&& (1431655765 : Int32))) &&& (858993459 : Int32)) + ((kushr (v - ((kushr v (1 : Int32)) &&& (1431655765 : Int32))) (2 : Int32)) &&& (858993459 : Int32))) (4 : Int32))) &&& (252645135 : Int32)) (8 : Int32))) + (kushr ((((((v - ((kushr v (1 : Int32)) &&& (1431655765 : Int32))) &&& (858993459 : Int32)) + ((kushr (v - ((kushr v (1 : Int32)) &&& (1431655765 : Int32))) (2 : Int32)) &&& (858993459 : Int32))) + (kushr (((v - ((kushr v (1 : Int32)) &&& (1431655765 : Int32))) &&& (858993459 : Int32)) + ((kushr (v - ((kushr v (1 : Int32)) &&& (1431655765 : Int32))) (2 : Int32)) &&& (858993459 : Int32))) (4 : Int32))) &&& (252645135 : Int32)) + (kushr (((((v - ((kushr v (1 : Int32)) &&& (1431655765 : Int32))) &&& (858993459 : Int32)) + ((kushr (v - ((kushr v (1 : Int32)) &&& (1431655765 : Int32))) (2 : Int32)) &&& (858993459 : Int32))) + (kushr (((v - ((kushr v (1 : Int32)) &&& (1431655765 : Int32))) &&& (858993459 : Int32)) + ((kushr (v - ((kushr v (1 : Int32)) &&& (1431655765 : Int32))) (2 : Int32)) &&& (858993459 : Int32))) (4 : Int32))) &&& (252645135 : Int32)) (8 : Int32))) (16 : Int32))))]) (st1 := [.int ((((((((v - ((kushr v (1 : Int32)) &&& (1431655765 : Int32))) &&& (858993459 : Int32)) + ((kushr (v - ((kushr v (1 : Int32)) &&& (1431655765 : Int32))) (2 : Int32)) &&& (858993459 : Int32))) + (kushr (((v - ((kushr v (1 : Int32)) &&& (1431655765 : Int32))) &&& (858993459 : Int32)) + ((kushr (v - ((kushr v (1 : Int32)) &&& (1431655765 : Int32))) (2 : Int32)) &&& (858993459 : Int32))) (4 : Int32))) &&& (252645135 : Int32)) + (kushr (((((v - ((kushr v (1 : Int32)) &&& (1431655765 : Int32))) &&& (858993459 : Int32)) + ((kushr (v - ((kushr v (1 : Int32)) &&& (1431655765 : Int32))) (2 : Int32)) &&& (858993459 : Int32))) + (kushr (((v - ((kushr v (1 : Int32)) &&& (1431655765 : Int32))) &&& (858993459 : Int32)) + ((kushr (v - ((kushr v (1 : Int32)) &&& (1431655765 : Int32))) (2 : Int32)) &&& (858993459 : Int32))) (4 : Int32))) &&& (252645135 : Int32)) (8 : Int32))) + (kushr ((((((v - ((kushr v (1 : Int32)) &&& (1431655765 : Int32))) &&& (858993459 : Int32)) + ((kushr (v - ((kushr v (1 : Int32)) &&& (1431655765 : Int32))) (2 : Int32)) &&& (858993459 : Int32))) + (kushr (((v - ((kushr v (1 : Int32)) &&& (1431655765 : Int32))) &&& (858993459 : Int32)) + ((kushr (v - ((kushr v (1 : Int32)) &&& (1431655765 : Int32))) (2 : Int32)) &&& (858993459 : Int32))) (4 : Int32))) &&& (252645135 : Int32)) + (kushr (((((v - ((kushr v (1 : Int32)) &&& (1431655765 : Int32))) &&& (858993459 : Int32)) + ((kushr (v - ((kushr v (1 : Int32)) &&& (1431655765 : Int32))) (2 : Int32)) &&& (858993459 : Int32))) + (kushr (((v - ((kushr v (1 : Int32)) &&& (1431655765 : Int32))) &&& (858993459 : Int32)) + ((kushr (v - ((kushr v (1 : Int32)) &&& (1431655765 : Int32))) (2 : Int32)) &&& (858993459 : Int32))) (4 : Int32))) &&& (252645135 : Int32)) (8 : Int32))) (16 : Int32))) &&& (63 : Int32))]) rfl ?_
  exact Wp.reti rfl rfl (by unfold f_bitCount at hQ; exact hQ)
