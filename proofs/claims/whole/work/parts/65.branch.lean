/-! KM: the class, all plans by turns: the levels -/
def lev (l : Nat) : Nat := 14 + 3 * l
theorem lev_c {l : Nat} (hl : l < 5) : cityA (lev l) := by
  have h5 : l = 0 ∨ l = 1 ∨ l = 2 ∨ l = 3 ∨ l = 4 := by omega
  rcases h5 with rfl | rfl | rfl | rfl | rfl <;> (unfold cityA lev; decide)
theorem lev_r {h : KH} (hw : WF h) {l : Nat} (hl : l < 5) : h.2.1 11 l = some (lev l) := by
  have h5 : l = 0 ∨ l = 1 ∨ l = 2 ∨ l = 3 ∨ l = 4 := by omega
  rcases h5 with rfl | rfl | rfl | rfl | rfl
  · exact WF.r hw 11 0 22 rfl
  · exact WF.r hw 11 1 23 rfl
  · exact WF.r hw 11 2 24 rfl
  · exact WF.r hw 11 3 25 rfl
  · exact WF.r hw 11 4 26 rfl
/-- what a branch from level l on may change -/
def pL (l : Nat) : Nat → Prop := fun c => c = 10 ∨ c = 12 ∨ c = 13 ∨ (lev l ≤ c ∧ c ≤ 28)
def rL (l : Nat) : Nat → Prop := fun c => lev l < c ∧ c ≤ 28
/-- the acts so far -/
def actsR (h : KH) (pre : List Nat) : Prop := firstR (h.2.2.1 12) pre
set_option maxHeartbeats 4000000 in
theorem t_brL {d : Nat} {Q : KO → Prop} {h : KH} (hw : WF h) {set s t sh : Int32} {L : Nat} {st : WSt} {plan : List Nat} (hs : WS h set L st) (hp : firstR (h.2.2.1 12) plan) (hpl : plan.length ≤ 4) (hd : 2 ≤ d) (hQ : ∀ k, Fr pW noP h k → WS k set L (weighS set st (s, t, sh) plan) → (Q (none, k))) : Cl d 47 [.ref 10, .int (Int32.ofNat L), .int (s), .int (t), .int (sh)] h Q := by
  refine Cl.of (ls := [some (.ref 10), some (.int (Int32.ofNat L)), some (.int (s)), some (.int (t)), some (.int (sh)), none, none, none, none]) rfl rfl ?_
  refine Wp.seg 2 (pc1 := 2) (ls1 := [some (.ref 10), some (.int (Int32.ofNat L)), some (.int (s)), some (.int (t)), some (.int (sh)), none, none, none, none]) (st1 := [.ref 10, .int (Int32.ofNat L)]) rfl ?_
  refine Wp.gi (t := (5, 0)) rfl (WF.t hw 10 rfl) (Or.inl rfl) ?_
  rw [show h.2.2.1 10 3 = Int32.ofNat L from hs.2.2.2.2.2.2]
  refine Wp.if2 rfl (fun c1 => ?_) (fun c1 => absurd (Int32.le_refl _) c1)
  refine Wp.seg 4 (pc1 := 18) (ls1 := [some (.ref 10), some (.int (Int32.ofNat L)), some (.int (s)), some (.int (t)), some (.int (sh)), none, none, none, none]) (st1 := [.int (sh), .int (t), .int (s), .ref 10]) rfl ?_
  refine Wp.invV (d2 := 1) (as := [.ref 10, .int (s), .int (t), .int (sh)]) (r := []) (t := (5, 0)) rfl rfl rfl rfl (WF.t hw 10 rfl) rfl rfl ⟨rfl, rfl⟩ (by omega) (s_weigh hw (Nat.le_refl _) hs hp hpl ?_)
  intro k f g
  show Wp d 47 21 [some (.ref 10), some (.int (Int32.ofNat L)), some (.int (s)), some (.int (t)), some (.int (sh)), none, none, none, none] [] k Q
  exact Wp.retv rfl rfl (hQ k f g)
set_option maxHeartbeats 4000000 in
theorem t_brS {d : Nat} {Q : KO → Prop} {h : KH} (hw : WF h) {A : Nat → Int32} {RL : List Rul} {n c dn en l : Nat} (hk : cityOK h (lev l) A RL n c dn en) (hl : l < 5) (hl1 : l + 1 < 5) {s t sh : Int32} {L : Nat} (h3 : h.2.2.1 10 3 = Int32.ofNat L) (hlL : l < L) (hL : L ≤ 4) (hd : 2 ≤ d) (hQ : ∀ k, Fr (pC (lev l)) noP h k → cityOK k (lev l) (walkA n A) RL n c dn en → (Wp d 47 48 ([some (.ref 10), some (.int (Int32.ofNat l)), some (.int (s)), some (.int (t)), some (.int (sh)), some (.ref (lev l)), some (.ref (lev (l + 1))), some (.int (0)), none]) [] k Q)) : Cl d 47 [.ref 10, .int (Int32.ofNat l), .int (s), .int (t), .int (sh)] h Q := by
  refine Cl.of (ls := [some (.ref 10), some (.int (Int32.ofNat l)), some (.int (s)), some (.int (t)), some (.int (sh)), none, none, none, none]) rfl rfl ?_
  refine Wp.seg 2 (pc1 := 2) (ls1 := [some (.ref 10), some (.int (Int32.ofNat l)), some (.int (s)), some (.int (t)), some (.int (sh)), none, none, none, none]) (st1 := [.ref 10, .int (Int32.ofNat l)]) rfl ?_
  refine Wp.gi (t := (5, 0)) rfl (WF.t hw 10 rfl) (Or.inl rfl) ?_
  rw [show h.2.2.1 10 3 = Int32.ofNat L from h3]
  refine Wp.if2 rfl (fun c1 => absurd c1 (fun c => by have := (ole (by omega) (by omega)).mp c; omega)) (fun c1 => ?_)
  refine Wp.seg 2 (pc1 := 10) (ls1 := [some (.ref 10), some (.int (Int32.ofNat l)), some (.int (s)), some (.int (t)), some (.int (sh)), none, none, none, none]) (st1 := [.int (4), .int (Int32.ofNat l)]) rfl ?_
  refine Wp.if2 rfl (fun c2 => ?_) (fun c2 => absurd ((zlt (n := 4) (znat (n := l) (by omega)) rfl).mpr (by omega)) c2)
  refine Wp.seg 1 (pc1 := 23) (ls1 := [some (.ref 10), some (.int (Int32.ofNat l)), some (.int (s)), some (.int (t)), some (.int (sh)), none, none, none, none]) (st1 := [.ref 10]) rfl ?_
  refine Wp.gr (t := (5, 0)) (v := some (11)) rfl (WF.t hw 10 rfl) rfl (WF.r hw 10 0 19 rfl) ?_
  show Wp d 47 26 [some (.ref 10), some (.int (Int32.ofNat l)), some (.int (s)), some (.int (t)), some (.int (sh)), none, none, none, none] [.ref 11] h Q
  refine Wp.seg 1 (pc1 := 27) (ls1 := [some (.ref 10), some (.int (Int32.ofNat l)), some (.int (s)), some (.int (t)), some (.int (sh)), none, none, none, none]) (st1 := [.int (Int32.ofNat l), .ref 11]) rfl ?_
  refine Wp.aald (j := l) (k := 24) (n := 5) (v := some (lev l)) rfl (WF.t hw 11 rfl) rfl rfl hl (by decide) (lev_r hw hl) ?_
  show Wp d 47 28 [some (.ref 10), some (.int (Int32.ofNat l)), some (.int (s)), some (.int (t)), some (.int (sh)), none, none, none, none] [.ref (lev l)] h Q
  refine Wp.seg 2 (pc1 := 31) (ls1 := [some (.ref 10), some (.int (Int32.ofNat l)), some (.int (s)), some (.int (t)), some (.int (sh)), some (.ref (lev l)), none, none, none]) (st1 := [.ref 10]) rfl ?_
  refine Wp.gr (t := (5, 0)) (v := some (11)) rfl (WF.t hw 10 rfl) rfl (WF.r hw 10 0 19 rfl) ?_
  show Wp d 47 34 [some (.ref 10), some (.int (Int32.ofNat l)), some (.int (s)), some (.int (t)), some (.int (sh)), some (.ref (lev l)), none, none, none] [.ref 11] h Q
  refine Wp.seg 3 (pc1 := 37) (ls1 := [some (.ref 10), some (.int (Int32.ofNat l)), some (.int (s)), some (.int (t)), some (.int (sh)), some (.ref (lev l)), none, none, none]) (st1 := [.int ((Int32.ofNat l) + (1 : Int32)), .ref 11]) rfl ?_
  refine Wp.aald (j := (l + 1)) (k := 24) (n := 5) (v := some (lev (l + 1))) rfl (WF.t hw 11 rfl) rfl (ofadd l 1) hl1 (by decide) (lev_r hw hl1) ?_
  show Wp d 47 38 [some (.ref 10), some (.int (Int32.ofNat l)), some (.int (s)), some (.int (t)), some (.int (sh)), some (.ref (lev l)), none, none, none] [.ref (lev (l + 1))] h Q
  refine Wp.seg 2 (pc1 := 42) (ls1 := [some (.ref 10), some (.int (Int32.ofNat l)), some (.int (s)), some (.int (t)), some (.int (sh)), some (.ref (lev l)), some (.ref (lev (l + 1))), none, none]) (st1 := [.ref (lev l)]) rfl ?_
  refine Wp.invV (d2 := 1) (as := [.ref (lev l)]) (r := []) (t := (1, 0)) rfl rfl rfl rfl (cA_t hw (lev_c hl)) rfl rfl ⟨rfl, rfl⟩ (by omega) (s_cwalkF hw (lev_c hl) hk (Nat.le_refl _) ?_)
  intro k f g
  show Wp d 47 45 [some (.ref 10), some (.int (Int32.ofNat l)), some (.int (s)), some (.int (t)), some (.int (sh)), some (.ref (lev l)), some (.ref (lev (l + 1))), none, none] [] k Q
  refine Wp.seg 2 (pc1 := 48) (ls1 := [some (.ref 10), some (.int (Int32.ofNat l)), some (.int (s)), some (.int (t)), some (.int (sh)), some (.ref (lev l)), some (.ref (lev (l + 1))), some (.int (0)), none]) (st1 := []) rfl ?_
  exact (hQ k f g)
set_option maxHeartbeats 4000000 in
theorem t_brB {d : Nat} {Q : KO → Prop} {h : KH} (hw : WF h) {B : Nat → Int32} {RL : List Rul} {n c dn en l : Nat} (hk : cityOK h (lev l) B RL n c dn en) (hl : l < 5) (hl1 : l + 1 < 5) (hl4 : l < 4) (hn6 : n ≤ 6) (hlt : dn < en) {s t sh : Int32} {a : Nat} {z : Option Value} (han : a ≤ n) (hd : 5 ≤ d) (hQ : ∀ k, Fr (pC (lev (l + 1))) (fun c => c = lev (l + 1)) h k → nrm (cS k.2.2.1 (lev (l + 1))) = nrm (cS h.2.2.1 (lev l)) → k.2.1 (lev (l + 1)) 10 = h.2.1 (lev l) 10 → k.2.1 (lev (l + 1)) 11 = h.2.1 (lev l) 11 → (∀ k2, Fr (pC (lev (l + 1))) noP k k2 → cityOK k2 (lev (l + 1)) (setA RL B (actT a)) RL n c (dn + 1) en → ((¬ (Int32.ofNat a) = 0 → Wp d 47 109 ([some (.ref 10), some (.int (Int32.ofNat l)), some (.int (s)), some (.int (t)), some (.int (sh)), some (.ref (lev l)), some (.ref (lev (l + 1))), some (.int (Int32.ofNat a)), some (.int (shA c (setA RL B (actT a))))]) [.int (shA c (setA RL B (actT a))), .int (t + (1 : Int32)), .int (s + (f_bitCount (shA c (setA RL B (actT a))))), .int ((Int32.ofNat l) + (1 : Int32)), .ref 10] (kwi k2 12 l (Int32.ofNat a)) Q) ∧ (¬ (¬ (Int32.ofNat a) = 0) → Wp d 47 109 ([some (.ref 10), some (.int (Int32.ofNat l)), some (.int (s)), some (.int (t)), some (.int (sh)), some (.ref (lev l)), some (.ref (lev (l + 1))), some (.int (Int32.ofNat a)), some (.int (shA c (setA RL B (actT a))))]) [.int (shA c (setA RL B (actT a))), .int (t), .int (s + (f_bitCount (shA c (setA RL B (actT a))))), .int ((Int32.ofNat l) + (1 : Int32)), .ref 10] (kwi k2 12 l (Int32.ofNat a)) Q)))) : Wp d 47 48 [some (.ref 10), some (.int (Int32.ofNat l)), some (.int (s)), some (.int (t)), some (.int (sh)), some (.ref (lev l)), some (.ref (lev (l + 1))), some (.int (Int32.ofNat a)), z] [] h Q := by
  refine Wp.seg 2 (pc1 := 52) (ls1 := [some (.ref 10), some (.int (Int32.ofNat l)), some (.int (s)), some (.int (t)), some (.int (sh)), some (.ref (lev l)), some (.ref (lev (l + 1))), some (.int (Int32.ofNat a)), z]) (st1 := [.ref (lev l), .int (Int32.ofNat a)]) rfl ?_
  refine Wp.gi (t := (1, 0)) rfl (cA_t hw (lev_c hl)) (Or.inl rfl) ?_
  rw [show h.2.2.1 (lev l) 1 = Int32.ofNat n from hk.2.1.2.1]
  refine Wp.if2 rfl (fun c1 => absurd c1 (fun c => by have := (zlt (znat (n := n) (by omega)) (znat (n := a) (by omega))).mp c; omega)) (fun c1 => ?_)
  refine Wp.seg 2 (pc1 := 62) (ls1 := [some (.ref 10), some (.int (Int32.ofNat l)), some (.int (s)), some (.int (t)), some (.int (sh)), some (.ref (lev l)), some (.ref (lev (l + 1))), some (.int (Int32.ofNat a)), z]) (st1 := [.ref (lev l), .ref (lev (l + 1))]) rfl ?_
  refine Wp.invV (d2 := 1) (as := [.ref (lev (l + 1)), .ref (lev l)]) (r := []) (t := (1, 0)) rfl rfl rfl rfl (cA_t hw (lev_c hl1)) rfl rfl ⟨rfl, rfl⟩ (by omega) (s_copy hw (lev_c hl1) (lev_c hl) (by unfold lev; omega) (Nat.le_refl _) ?_)
  intro k f e1 e2 e3
  show Wp d 47 65 [some (.ref 10), some (.int (Int32.ofNat l)), some (.int (s)), some (.int (t)), some (.int (sh)), some (.ref (lev l)), some (.ref (lev (l + 1))), some (.int (Int32.ofNat a)), z] [] k Q
  refine Wp.seg 4 (pc1 := 71) (ls1 := [some (.ref 10), some (.int (Int32.ofNat l)), some (.int (s)), some (.int (t)), some (.int (sh)), some (.ref (lev l)), some (.ref (lev (l + 1))), some (.int (Int32.ofNat a)), z]) (st1 := [.int ((Int32.ofNat a) - (1 : Int32)), .ref (lev (l + 1))]) rfl ?_
  refine Wp.invV (d2 := 3) (as := [.ref (lev (l + 1)), .int ((Int32.ofNat a) - (1 : Int32))]) (r := []) (t := (1, 0)) rfl rfl rfl rfl (cA_t (f.wf hw (fun z => by unfold lev at z; omega)) (lev_c hl1)) rfl rfl ⟨rfl, rfl⟩ (by omega) (s_settleF (t := actT a) (f.wf hw (fun z => by unfold lev at z; omega)) (lev_c hl1) (copy_ok hk f e1 e2) hlt (actT_ok (by omega) hn6) (Nat.le_refl _) ?_)
  intro k2 f2 g2
  show Wp d 47 74 [some (.ref 10), some (.int (Int32.ofNat l)), some (.int (s)), some (.int (t)), some (.int (sh)), some (.ref (lev l)), some (.ref (lev (l + 1))), some (.int (Int32.ofNat a)), z] [.int (shA c (setA RL B (actT a)))] k2 Q
  refine Wp.seg 2 (pc1 := 77) (ls1 := [some (.ref 10), some (.int (Int32.ofNat l)), some (.int (s)), some (.int (t)), some (.int (sh)), some (.ref (lev l)), some (.ref (lev (l + 1))), some (.int (Int32.ofNat a)), some (.int (shA c (setA RL B (actT a))))]) (st1 := [.ref 10]) rfl ?_
  refine Wp.gr (t := (5, 0)) (v := some (12)) rfl (WF.t (f2.wf (f.wf hw (fun z => by unfold lev at z; omega)) (fun z => z)) 10 rfl) rfl (WF.r (f2.wf (f.wf hw (fun z => by unfold lev at z; omega)) (fun z => z)) 10 1 20 rfl) ?_
  show Wp d 47 80 [some (.ref 10), some (.int (Int32.ofNat l)), some (.int (s)), some (.int (t)), some (.int (sh)), some (.ref (lev l)), some (.ref (lev (l + 1))), some (.int (Int32.ofNat a)), some (.int (shA c (setA RL B (actT a))))] [.ref 12] k2 Q
  refine Wp.seg 2 (pc1 := 83) (ls1 := [some (.ref 10), some (.int (Int32.ofNat l)), some (.int (s)), some (.int (t)), some (.int (sh)), some (.ref (lev l)), some (.ref (lev (l + 1))), some (.int (Int32.ofNat a)), some (.int (shA c (setA RL B (actT a))))]) (st1 := [.int (Int32.ofNat a), .int (Int32.ofNat l), .ref 12]) rfl ?_
  refine Wp.iast (j := l) (n := 4) rfl (WF.t (f2.wf (f.wf hw (fun z => by unfold lev at z; omega)) (fun z => z)) 12 rfl) rfl hl4 (by decide) ?_
  refine Wp.seg 6 (pc1 := 91) (ls1 := [some (.ref 10), some (.int (Int32.ofNat l)), some (.int (s)), some (.int (t)), some (.int (sh)), some (.ref (lev l)), some (.ref (lev (l + 1))), some (.int (Int32.ofNat a)), some (.int (shA c (setA RL B (actT a))))]) (st1 := [.int (shA c (setA RL B (actT a))), .int (s), .int ((Int32.ofNat l) + (1 : Int32)), .ref 10]) rfl ?_
  refine Wp.inv (d2 := 0) (as := [.int (shA c (setA RL B (actT a)))]) (r := [.int (s), .int ((Int32.ofNat l) + (1 : Int32)), .ref 10]) rfl rfl rfl rfl rfl rfl (by omega) (s_bitCount (Nat.le_refl _) ?_)
  show Wp d 47 94 [some (.ref 10), some (.int (Int32.ofNat l)), some (.int (s)), some (.int (t)), some (.int (sh)), some (.ref (lev l)), some (.ref (lev (l + 1))), some (.int (Int32.ofNat a)), some (.int (shA c (setA RL B (actT a))))] [.int (f_bitCount (shA c (setA RL B (actT a)))), .int (s), .int ((Int32.ofNat l) + (1 : Int32)), .ref 10] (kwi k2 12 l (Int32.ofNat a)) Q
  refine Wp.seg 2 (pc1 := 97) (ls1 := [some (.ref 10), some (.int (Int32.ofNat l)), some (.int (s)), some (.int (t)), some (.int (sh)), some (.ref (lev l)), some (.ref (lev (l + 1))), some (.int (Int32.ofNat a)), some (.int (shA c (setA RL B (actT a))))]) (st1 := [.int (Int32.ofNat a), .int (s + (f_bitCount (shA c (setA RL B (actT a))))), .int ((Int32.ofNat l) + (1 : Int32)), .ref 10]) rfl ?_
  refine Wp.if1 rfl (fun (c2 : ¬ (Int32.ofNat a) = 0) => ?_) (fun (c2 : ¬ (¬ (Int32.ofNat a) = 0)) => ?_)
  · refine Wp.seg 4 (pc1 := 109) (ls1 := [some (.ref 10), some (.int (Int32.ofNat l)), some (.int (s)), some (.int (t)), some (.int (sh)), some (.ref (lev l)), some (.ref (lev (l + 1))), some (.int (Int32.ofNat a)), some (.int (shA c (setA RL B (actT a))))]) (st1 := [.int (shA c (setA RL B (actT a))), .int (t + (1 : Int32)), .int (s + (f_bitCount (shA c (setA RL B (actT a))))), .int ((Int32.ofNat l) + (1 : Int32)), .ref 10]) rfl ?_
    exact (((hQ k f e1 e2 e3) k2 f2 g2).1 c2)
  · refine Wp.seg 3 (pc1 := 109) (ls1 := [some (.ref 10), some (.int (Int32.ofNat l)), some (.int (s)), some (.int (t)), some (.int (sh)), some (.ref (lev l)), some (.ref (lev (l + 1))), some (.int (Int32.ofNat a)), some (.int (shA c (setA RL B (actT a))))]) (st1 := [.int (shA c (setA RL B (actT a))), .int (t), .int (s + (f_bitCount (shA c (setA RL B (actT a))))), .int ((Int32.ofNat l) + (1 : Int32)), .ref 10]) rfl ?_
    exact (((hQ k f e1 e2 e3) k2 f2 g2).2 c2)
set_option maxHeartbeats 4000000 in
theorem t_brN {d : Nat} {Q : KO → Prop} {h : KH} {l s t sh : Int32} {a x y : Nat} {z : Option Value} (hd : 0 ≤ d) (hQ : Wp d 47 48 ([some (.ref 10), some (.int (l)), some (.int (s)), some (.int (t)), some (.int (sh)), some (.ref x), some (.ref y), some (.int ((Int32.ofNat a) + 1)), z]) [] h Q) : Wp d 47 112 [some (.ref 10), some (.int (l)), some (.int (s)), some (.int (t)), some (.int (sh)), some (.ref x), some (.ref y), some (.int (Int32.ofNat a)), z] [] h Q := by
  refine Wp.seg 2 (pc1 := 48) (ls1 := [some (.ref 10), some (.int (l)), some (.int (s)), some (.int (t)), some (.int (sh)), some (.ref x), some (.ref y), some (.int ((Int32.ofNat a) + 1)), z]) (st1 := []) rfl ?_
  exact hQ
set_option maxHeartbeats 4000000 in
theorem t_brE {d : Nat} {Q : KO → Prop} {h : KH} (hw : WF h) {B : Nat → Int32} {RL : List Rul} {n c dn en l : Nat} (hk : cityOK h (lev l) B RL n c dn en) (hl : l < 5) (hn6 : n ≤ 6) {s t sh : Int32} {z : Option Value} (hd : 0 ≤ d) (hQ : Q (none, h)) : Wp d 47 48 [some (.ref 10), some (.int (Int32.ofNat l)), some (.int (s)), some (.int (t)), some (.int (sh)), some (.ref (lev l)), some (.ref (lev (l + 1))), some (.int (Int32.ofNat (n + 1))), z] [] h Q := by
  refine Wp.seg 2 (pc1 := 52) (ls1 := [some (.ref 10), some (.int (Int32.ofNat l)), some (.int (s)), some (.int (t)), some (.int (sh)), some (.ref (lev l)), some (.ref (lev (l + 1))), some (.int (Int32.ofNat (n + 1))), z]) (st1 := [.ref (lev l), .int (Int32.ofNat (n + 1))]) rfl ?_
  refine Wp.gi (t := (1, 0)) rfl (cA_t hw (lev_c hl)) (Or.inl rfl) ?_
  rw [show h.2.2.1 (lev l) 1 = Int32.ofNat n from hk.2.1.2.1]
  refine Wp.if2 rfl (fun c1 => ?_) (fun c1 => absurd ((zlt (znat (n := n) (by omega)) (znat (n := n + 1) (by omega))).mpr (by omega)) c1)
  exact Wp.retv rfl rfl hQ
theorem ws_fr {P R : Nat → Prop} {h k : KH} {set : Int32} {L : Nat} {st : WSt} (hs : WS h set L st) (f : Fr P R h k) (p10 : ¬ P 10) (p13 : ¬ P 13) : WS k set L st := by
  unfold WS
  rw [f.2.2.1 10 (Or.inl p10), f.2.2.1 13 (Or.inl p13)]
  exact hs
theorem firstR_ku {F : Nat → Int32} {pre : List Nat} {a : Nat} (h : firstR F pre) : firstR (ku F pre.length (Int32.ofNat a)) (pre ++ [a]) := by
  intro i hi
  rw [List.length_append] at hi
  have hi2 : i < pre.length + 1 := hi
  by_cases q : i = pre.length
  · subst q
    rw [ku_s]
    simp
  · rw [ku_n _ _ q, h i (by omega)]
    have hlt : i < pre.length := by omega
    simp [List.getElem?_append_left hlt]
theorem firstR_le {F G : Nat → Int32} {pre : List Nat} (h : firstR F pre) (e : ∀ i, i < pre.length → G i = F i) : firstR G pre := fun i hi => by rw [e i hi]; exact h i hi
def brPost (l : Nat) (set : Int32) (L : Nat) (h : KH) (st2 : WSt) (k : KH) : Prop := Fr (pL l) (rL l) h k ∧ WS k set L st2 ∧ (∀ i, i < l → k.2.2.1 12 i = h.2.2.1 12 i)
set_option maxHeartbeats 2000000 in
theorem s_branch {set : Int32} {RL : List Rul} {n c en L : Nat} (hL : L ≤ 4) : ∀ (K l : Nat) (d : Nat) (h : KH) (A : Nat → Int32) (dn : Nat) (s t sh : Int32) (st : WSt) (pre : List Nat) (Q : KO → Prop), K + 5 ≤ d → l + K = L → WF h → cityOK h (lev l) A RL n c dn en → dn + K ≤ en → WS h set L st → actsR h pre → pre.length = l →
    (∀ k, brPost l set L h (cW RL c n set K pre A s t sh st) k → Q (none, k)) → Cl d 47 [.ref 10, .int (Int32.ofNat l), .int s, .int t, .int sh] h Q
  | 0, l, d, h, A, dn, s, t, sh, st, pre, Q, hd, hlL, hw, hk, hdn, hs, hp, hpl, hQ => by
    obtain rfl : l = L := by omega
    refine t_brL hw hs hp (by omega) (by omega) (fun k f g => hQ k ⟨f.mono (fun c z => by unfold pW at z; unfold pL; omega) (fun c z => absurd z (fun y => y)), g, fun i hi => ?_⟩)
    rw [f.2.2.1 12 (Or.inl (by unfold pW; decide))]
  | K + 1, l, d, h, A, dn, s, t, sh, st, pre, Q, hd, hlL, hw, hk, hdn, hs, hp, hpl, hQ => by
    have hn6 := hk.2.1.1
    have hA := hk.A
    refine t_brS hw hk (by omega) (by omega) hs.2.2.2.2.2.2 (by omega) hL (by omega) (fun k f g => ?_)
    -- the loop
    have loop : ∀ (j a : Nat) (x : KH) (st1 : WSt) (z : Option Value), a + j = n + 1 → WF x → cityOK x (lev l) (walkA n A) RL n c dn en → WS x set L st1 → actsR x pre →
        (∀ y, brPost l set L x (foldN (fun st a => cW RL c n set K (pre ++ [a]) (goA RL A (actT a)) (s + wA RL A (actT a)) (if a = 0 then t else t + 1) (shA c (goA RL A (actT a))) st) j a st1) y → Q (none, y)) →
        Wp d 47 48 [some (.ref 10), some (.int (Int32.ofNat l)), some (.int s), some (.int t), some (.int sh), some (.ref (lev l)), some (.ref (lev (l + 1))), some (.int (Int32.ofNat a)), z] [] x Q := by
      intro j
      induction j with
      | zero =>
        intro a x st1 z ha hwx hkx hsx hpx hQx
        obtain rfl : a = n + 1 := ha
        exact t_brE hwx hkx (by omega) hn6 (Nat.zero_le _) (hQx x ⟨Fr.refl x, hsx, fun _ _ => rfl⟩)
      | succ j ih =>
        intro a x st1 z ha hwx hkx hsx hpx hQx
        have han : a ≤ n := by omega
        have ht := actT_ok han hn6
        have eg := set_walk (RL := RL) hA ht
        have ew := wA_set (RL := RL) hA ht
        refine t_brB hwx hkx (by omega) (by omega) (by omega) hn6 (by omega) han (by omega) (fun k1 f1 e1 e2 e3 k2 f2 g2 => ?_)
        rw [eg] at g2 ⊢
        have epop : f_bitCount (shA c (goA RL A (actT a))) = wA RL A (actT a) := by
          rw [ew]
          exact pop_shut _ _
        rw [epop]
        have fP : Fr (fun c => lev (l + 1) ≤ c ∧ c ≤ lev (l + 1) + 2) (fun c => c = lev (l + 1)) x k2 := Fr.trans f1 (f2.mono (fun _ z => z) (fun _ z => absurd z (fun y => y)))
        have hlev : lev (l + 1) = lev l + 3 := by unfold lev; omega
        have hlv : lev l = 14 + 3 * l := rfl
        have w2 : WF k2 := fP.wf hwx (fun z => by omega)
        have s2 : WS k2 set L st1 := ws_fr hsx fP (fun z => by omega) (fun z => by omega)
        have p2 : k2.2.2.1 12 = x.2.2.1 12 := fP.2.2.1 12 (Or.inl (fun z => by omega))
        have h3 : Fr (fun c => c = 12) noP k2 (kwi k2 12 l (Int32.ofNat a)) := fr_kwi rfl (by decide)
        have w3 : WF (kwi k2 12 l (Int32.ofNat a)) := w2
        have c3 : cityOK (kwi k2 12 l (Int32.ofNat a)) (lev (l + 1)) (goA RL A (actT a)) RL n c (dn + 1) en := city_fr g2 h3 (fun z => by omega) (fun z => by omega) (fun z => z)
        have s3 : WS (kwi k2 12 l (Int32.ofNat a)) set L st1 := ws_fr s2 h3 (fun z => by omega) (fun z => by omega)
        have e12 : (kwi k2 12 l (Int32.ofNat a)).2.2.1 12 = ku (k2.2.2.1 12) l (Int32.ofNat a) := ku_s k2.2.2.1 12 (ku (k2.2.2.1 12) l (Int32.ofNat a))
        have p3 : actsR (kwi k2 12 l (Int32.ofNat a)) (pre ++ [a]) := by
          unfold actsR
          rw [e12, p2, ← hpl]
          exact firstR_ku hpx
        have el : Int32.ofNat l + 1 = Int32.ofNat (l + 1) := ofadd l 1
        have call : ∀ tt, tt = (if a = 0 then t else t + 1) → ∀ z2, Wp d 47 109 [some (.ref 10), some (.int (Int32.ofNat l)), some (.int s), some (.int t), some (.int sh), some (.ref (lev l)), some (.ref (lev (l + 1))), some (.int (Int32.ofNat a)), z2] [.int (shA c (goA RL A (actT a))), .int tt, .int (s + wA RL A (actT a)), .int (Int32.ofNat l + 1), .ref 10] (kwi k2 12 l (Int32.ofNat a)) Q := by
          intro tt htt z2
          subst htt
          rw [el]
          refine Wp.invV (d2 := d - 1) (as := [.ref 10, .int (Int32.ofNat (l + 1)), .int (s + wA RL A (actT a)), .int (if a = 0 then t else t + 1), .int (shA c (goA RL A (actT a)))]) (r := []) (t := (5, 0)) rfl rfl rfl rfl (WF.t w3 10 rfl) rfl rfl ⟨rfl, rfl⟩ (by omega) ?_
          refine s_branch hL K (l + 1) (d - 1) _ _ (dn + 1) _ _ _ st1 (pre ++ [a]) _ (by omega) (by omega) w3 c3 (by omega) s3 p3 (by rw [List.length_append, hpl]; rfl) ?_
          rintro k4 ⟨q1, q2, q3⟩
          show Wp d 47 112 [some (.ref 10), some (.int (Int32.ofNat l)), some (.int s), some (.int t), some (.int sh), some (.ref (lev l)), some (.ref (lev (l + 1))), some (.int (Int32.ofNat a)), z2] [] k4 Q
          refine t_brN (Nat.zero_le _) ?_
          rw [show Int32.ofNat a + 1 = Int32.ofNat (a + 1) from ofadd a 1]
          have fA : Fr (pL l) (rL l) x k4 := by
            refine Fr.trans (fP.mono ?_ ?_) (Fr.trans (h3.mono ?_ ?_) (q1.mono ?_ ?_))
            · intro c z; unfold pL; omega
            · intro c z; unfold rL; omega
            · intro c z; unfold pL; omega
            · intro c z; exact absurd z (fun y => y)
            · intro c z; unfold pL at z ⊢; omega
            · intro c z; unfold rL at z ⊢; omega
          have fB : Fr (fun c => c = 10 ∨ c = 12 ∨ c = 13 ∨ lev (l + 1) ≤ c) (fun c => lev (l + 1) ≤ c) x k4 := by
            refine Fr.trans (fP.mono ?_ ?_) (Fr.trans (h3.mono ?_ ?_) (q1.mono ?_ ?_))
            · intro c z; omega
            · intro c z; omega
            · intro c z; omega
            · intro c z; exact absurd z (fun y => y)
            · intro c z; unfold pL at z; omega
            · intro c z; unfold rL at z; omega
          have e4 : ∀ i, i < l → k4.2.2.1 12 i = x.2.2.1 12 i := fun i hi => by
            rw [q3 i (by omega), e12, ku_n _ _ (by omega), p2]
          refine ih (a + 1) k4 _ _ (by omega) (fA.wf hwx (fun z => by unfold rL at z; omega)) (city_fr hkx fB (fun z => by omega) (fun z => by omega) (fun z => by omega)) q2 (firstR_le hpx (fun i hi => e4 i (by omega))) (fun y hy => hQx y ?_)
          obtain ⟨y1, y2, y3⟩ := hy
          exact ⟨fA.trans y1, y2, fun i hi => (y3 i hi).trans (e4 i hi)⟩
        exact ⟨fun c1 => call _ (by rw [if_neg (fun z => c1 (by rw [z]; rfl))]) _, fun c1 => call _ (by rw [if_pos ((oeq (b := 0) (by omega) (by decide)).mp (Decidable.not_not.mp c1))]) _⟩
    have hlv : lev l = 14 + 3 * l := rfl
    have fk : Fr (pL l) (rL l) h k := f.mono (fun c z => by unfold pC at z; unfold pL; omega) (fun _ z => absurd z (fun y => y))
    refine loop (n + 1) 0 k st none (by omega) (f.wf hw (fun z => z)) g (ws_fr hs f (fun z => by unfold pC at z; omega) (fun z => by unfold pC at z; omega)) ?_ (fun y hy => hQ y ?_)
    · unfold actsR
      rw [f.2.2.1 12 (Or.inl (fun z => by unfold pC at z; omega))]
      exact hp
    · obtain ⟨y1, y2, y3⟩ := hy
      exact ⟨fk.trans y1, y2, fun i hi => (y3 i hi).trans (by rw [f.2.2.1 12 (Or.inl (fun z => by unfold pC at z; omega))])⟩
