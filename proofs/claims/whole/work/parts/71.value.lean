/-! KM: the class: a game -/
/-- one act more of a game: what it would come to, and the act -/
def gmW (RL : List Rul) (V : (Nat → Int32) → Int32) (A : Nat → Int32) (a : Nat) : Int32 := wA RL A (actT a) + V (goA RL A (actT a))
def gmF (w : Nat → Int32) (b : Bool) (st : Int32 × Int32) (a : Nat) : Int32 × Int32 := if a = 0 ∨ (if b = true then st.1 < w a else w a < st.1) then (w a, Int32.ofNat a) else st
def gameV (RL : List Rul) (n : Nat) : Nat → Bool → (Nat → Int32) → Int32
  | 0, _, _ => 0
  | K + 1, b, A => (foldN (gmF (gmW RL (gameV RL n K (!b)) A) b) (n + 1) 0 (0, 0)).1
def gameO (RL : List Rul) (n K : Nat) (A : Nat → Int32) : Int32 := (foldN (gmF (gmW RL (gameV RL n K false) A) true) (n + 1) 0 (0, 0)).2
def pV (l : Nat) : Nat → Prop := fun c => c = 10 ∨ (lev l ≤ c ∧ c ≤ 28)
def evB (l : Nat) : Bool := decide (l % 2 = 0)
theorem ev_all : kall1 4 (fun l => decide (Int32.ofNat l - Int32.ofNat l / 2 * 2 = if l % 2 = 0 then 0 else 1)) = true := by decide +kernel
set_option maxHeartbeats 4000000 in
theorem t_vaL {d : Nat} {Q : KO → Prop} {h : KH} (hw : WF h) {L : Nat} (h3 : h.2.2.1 10 3 = Int32.ofNat L) (hd : 0 ≤ d) (hQ : Q (some (.int (0)), h)) : Cl d 50 [.ref 10, .int (Int32.ofNat L)] h Q := by
  refine Cl.of (ls := [some (.ref 10), some (.int (Int32.ofNat L)), none, none, none, none, none, none]) rfl rfl ?_
  refine Wp.seg 2 (pc1 := 2) (ls1 := [some (.ref 10), some (.int (Int32.ofNat L)), none, none, none, none, none, none]) (st1 := [.ref 10, .int (Int32.ofNat L)]) rfl ?_
  refine Wp.gi (t := (5, 0)) rfl (WF.t hw 10 rfl) (Or.inl rfl) ?_
  rw [show h.2.2.1 10 3 = Int32.ofNat L from h3]
  refine Wp.if2 rfl (fun c1 => ?_) (fun c1 => absurd (Int32.le_refl _) c1)
  refine Wp.seg 1 (pc1 := 14) (ls1 := [some (.ref 10), some (.int (Int32.ofNat L)), none, none, none, none, none, none]) (st1 := [.int (0)]) rfl ?_
  exact Wp.reti rfl rfl hQ
set_option maxHeartbeats 4000000 in
theorem t_vaS1 {d : Nat} {Q : KO → Prop} {h : KH} (hw : WF h) {A : Nat → Int32} {RL : List Rul} {n c dn en l : Nat} (hk : cityOK h (lev l) A RL n c dn en) (hl : l < 5) (hl1 : l + 1 < 5) {L : Nat} (h3 : h.2.2.1 10 3 = Int32.ofNat L) (hlL : l < L) (hL : L ≤ 4) (hev : (Int32.ofNat l) - (Int32.ofNat l) / (2 : Int32) * (2 : Int32) = 0) (hd : 2 ≤ d) (hQ : ∀ k, Fr (pC (lev l)) noP h k → cityOK k (lev l) (walkA n A) RL n c dn en → (Wp d 50 54 ([some (.ref 10), some (.int (Int32.ofNat l)), some (.ref (lev l)), some (.ref (lev (l + 1))), some (.int (1)), some (.int (0)), some (.int (0)), none]) [] k Q)) : Cl d 50 [.ref 10, .int (Int32.ofNat l)] h Q := by
  refine Cl.of (ls := [some (.ref 10), some (.int (Int32.ofNat l)), none, none, none, none, none, none]) rfl rfl ?_
  refine Wp.seg 2 (pc1 := 2) (ls1 := [some (.ref 10), some (.int (Int32.ofNat l)), none, none, none, none, none, none]) (st1 := [.ref 10, .int (Int32.ofNat l)]) rfl ?_
  refine Wp.gi (t := (5, 0)) rfl (WF.t hw 10 rfl) (Or.inl rfl) ?_
  rw [show h.2.2.1 10 3 = Int32.ofNat L from h3]
  refine Wp.if2 rfl (fun c1 => absurd c1 (fun c => by have := (ole (by omega) (by omega)).mp c; omega)) (fun c1 => ?_)
  refine Wp.seg 2 (pc1 := 10) (ls1 := [some (.ref 10), some (.int (Int32.ofNat l)), none, none, none, none, none, none]) (st1 := [.int (4), .int (Int32.ofNat l)]) rfl ?_
  refine Wp.if2 rfl (fun c2 => ?_) (fun c2 => absurd ((zlt (n := 4) (znat (n := l) (by omega)) rfl).mpr (by omega)) c2)
  refine Wp.seg 1 (pc1 := 16) (ls1 := [some (.ref 10), some (.int (Int32.ofNat l)), none, none, none, none, none, none]) (st1 := [.ref 10]) rfl ?_
  refine Wp.gr (t := (5, 0)) (v := some (11)) rfl (WF.t hw 10 rfl) rfl (WF.r hw 10 0 19 rfl) ?_
  show Wp d 50 19 [some (.ref 10), some (.int (Int32.ofNat l)), none, none, none, none, none, none] [.ref 11] h Q
  refine Wp.seg 1 (pc1 := 20) (ls1 := [some (.ref 10), some (.int (Int32.ofNat l)), none, none, none, none, none, none]) (st1 := [.int (Int32.ofNat l), .ref 11]) rfl ?_
  refine Wp.aald (j := l) (k := 24) (n := 5) (v := some (lev l)) rfl (WF.t hw 11 rfl) rfl rfl hl (by decide) (lev_r hw hl) ?_
  show Wp d 50 21 [some (.ref 10), some (.int (Int32.ofNat l)), none, none, none, none, none, none] [.ref (lev l)] h Q
  refine Wp.seg 2 (pc1 := 23) (ls1 := [some (.ref 10), some (.int (Int32.ofNat l)), some (.ref (lev l)), none, none, none, none, none]) (st1 := [.ref 10]) rfl ?_
  refine Wp.gr (t := (5, 0)) (v := some (11)) rfl (WF.t hw 10 rfl) rfl (WF.r hw 10 0 19 rfl) ?_
  show Wp d 50 26 [some (.ref 10), some (.int (Int32.ofNat l)), some (.ref (lev l)), none, none, none, none, none] [.ref 11] h Q
  refine Wp.seg 3 (pc1 := 29) (ls1 := [some (.ref 10), some (.int (Int32.ofNat l)), some (.ref (lev l)), none, none, none, none, none]) (st1 := [.int ((Int32.ofNat l) + (1 : Int32)), .ref 11]) rfl ?_
  refine Wp.aald (j := (l + 1)) (k := 24) (n := 5) (v := some (lev (l + 1))) rfl (WF.t hw 11 rfl) rfl (ofadd l 1) hl1 (by decide) (lev_r hw hl1) ?_
  show Wp d 50 30 [some (.ref 10), some (.int (Int32.ofNat l)), some (.ref (lev l)), none, none, none, none, none] [.ref (lev (l + 1))] h Q
  refine Wp.seg 3 (pc1 := 33) (ls1 := [some (.ref 10), some (.int (Int32.ofNat l)), some (.ref (lev l)), some (.ref (lev (l + 1))), none, none, none, none]) (st1 := [.int (2), .int (Int32.ofNat l)]) rfl ?_
  refine Wp.rem rfl (by decide) ?_
  refine Wp.if1 rfl (fun c3 => absurd c3 (fun c => c hev)) (fun c3 => ?_)
  refine Wp.seg 6 (pc1 := 48) (ls1 := [some (.ref 10), some (.int (Int32.ofNat l)), some (.ref (lev l)), some (.ref (lev (l + 1))), some (.int (1)), some (.int (0)), none, none]) (st1 := [.ref (lev l)]) rfl ?_
  refine Wp.invV (d2 := 1) (as := [.ref (lev l)]) (r := []) (t := (1, 0)) rfl rfl rfl rfl (cA_t hw (lev_c hl)) rfl rfl ⟨rfl, rfl⟩ (by omega) (s_cwalkF hw (lev_c hl) hk (Nat.le_refl _) ?_)
  intro k f g
  show Wp d 50 51 [some (.ref 10), some (.int (Int32.ofNat l)), some (.ref (lev l)), some (.ref (lev (l + 1))), some (.int (1)), some (.int (0)), none, none] [] k Q
  refine Wp.seg 2 (pc1 := 54) (ls1 := [some (.ref 10), some (.int (Int32.ofNat l)), some (.ref (lev l)), some (.ref (lev (l + 1))), some (.int (1)), some (.int (0)), some (.int (0)), none]) (st1 := []) rfl ?_
  exact (hQ k f g)
set_option maxHeartbeats 4000000 in
theorem t_vaS0 {d : Nat} {Q : KO → Prop} {h : KH} (hw : WF h) {A : Nat → Int32} {RL : List Rul} {n c dn en l : Nat} (hk : cityOK h (lev l) A RL n c dn en) (hl : l < 5) (hl1 : l + 1 < 5) {L : Nat} (h3 : h.2.2.1 10 3 = Int32.ofNat L) (hlL : l < L) (hL : L ≤ 4) (hev : ¬ (Int32.ofNat l) - (Int32.ofNat l) / (2 : Int32) * (2 : Int32) = 0) (hd : 2 ≤ d) (hQ : ∀ k, Fr (pC (lev l)) noP h k → cityOK k (lev l) (walkA n A) RL n c dn en → (Wp d 50 54 ([some (.ref 10), some (.int (Int32.ofNat l)), some (.ref (lev l)), some (.ref (lev (l + 1))), some (.int (0)), some (.int (0)), some (.int (0)), none]) [] k Q)) : Cl d 50 [.ref 10, .int (Int32.ofNat l)] h Q := by
  refine Cl.of (ls := [some (.ref 10), some (.int (Int32.ofNat l)), none, none, none, none, none, none]) rfl rfl ?_
  refine Wp.seg 2 (pc1 := 2) (ls1 := [some (.ref 10), some (.int (Int32.ofNat l)), none, none, none, none, none, none]) (st1 := [.ref 10, .int (Int32.ofNat l)]) rfl ?_
  refine Wp.gi (t := (5, 0)) rfl (WF.t hw 10 rfl) (Or.inl rfl) ?_
  rw [show h.2.2.1 10 3 = Int32.ofNat L from h3]
  refine Wp.if2 rfl (fun c1 => absurd c1 (fun c => by have := (ole (by omega) (by omega)).mp c; omega)) (fun c1 => ?_)
  refine Wp.seg 2 (pc1 := 10) (ls1 := [some (.ref 10), some (.int (Int32.ofNat l)), none, none, none, none, none, none]) (st1 := [.int (4), .int (Int32.ofNat l)]) rfl ?_
  refine Wp.if2 rfl (fun c2 => ?_) (fun c2 => absurd ((zlt (n := 4) (znat (n := l) (by omega)) rfl).mpr (by omega)) c2)
  refine Wp.seg 1 (pc1 := 16) (ls1 := [some (.ref 10), some (.int (Int32.ofNat l)), none, none, none, none, none, none]) (st1 := [.ref 10]) rfl ?_
  refine Wp.gr (t := (5, 0)) (v := some (11)) rfl (WF.t hw 10 rfl) rfl (WF.r hw 10 0 19 rfl) ?_
  show Wp d 50 19 [some (.ref 10), some (.int (Int32.ofNat l)), none, none, none, none, none, none] [.ref 11] h Q
  refine Wp.seg 1 (pc1 := 20) (ls1 := [some (.ref 10), some (.int (Int32.ofNat l)), none, none, none, none, none, none]) (st1 := [.int (Int32.ofNat l), .ref 11]) rfl ?_
  refine Wp.aald (j := l) (k := 24) (n := 5) (v := some (lev l)) rfl (WF.t hw 11 rfl) rfl rfl hl (by decide) (lev_r hw hl) ?_
  show Wp d 50 21 [some (.ref 10), some (.int (Int32.ofNat l)), none, none, none, none, none, none] [.ref (lev l)] h Q
  refine Wp.seg 2 (pc1 := 23) (ls1 := [some (.ref 10), some (.int (Int32.ofNat l)), some (.ref (lev l)), none, none, none, none, none]) (st1 := [.ref 10]) rfl ?_
  refine Wp.gr (t := (5, 0)) (v := some (11)) rfl (WF.t hw 10 rfl) rfl (WF.r hw 10 0 19 rfl) ?_
  show Wp d 50 26 [some (.ref 10), some (.int (Int32.ofNat l)), some (.ref (lev l)), none, none, none, none, none] [.ref 11] h Q
  refine Wp.seg 3 (pc1 := 29) (ls1 := [some (.ref 10), some (.int (Int32.ofNat l)), some (.ref (lev l)), none, none, none, none, none]) (st1 := [.int ((Int32.ofNat l) + (1 : Int32)), .ref 11]) rfl ?_
  refine Wp.aald (j := (l + 1)) (k := 24) (n := 5) (v := some (lev (l + 1))) rfl (WF.t hw 11 rfl) rfl (ofadd l 1) hl1 (by decide) (lev_r hw hl1) ?_
  show Wp d 50 30 [some (.ref 10), some (.int (Int32.ofNat l)), some (.ref (lev l)), none, none, none, none, none] [.ref (lev (l + 1))] h Q
  refine Wp.seg 3 (pc1 := 33) (ls1 := [some (.ref 10), some (.int (Int32.ofNat l)), some (.ref (lev l)), some (.ref (lev (l + 1))), none, none, none, none]) (st1 := [.int (2), .int (Int32.ofNat l)]) rfl ?_
  refine Wp.rem rfl (by decide) ?_
  refine Wp.if1 rfl (fun c3 => ?_) (fun c3 => absurd (hev) c3)
  refine Wp.seg 5 (pc1 := 48) (ls1 := [some (.ref 10), some (.int (Int32.ofNat l)), some (.ref (lev l)), some (.ref (lev (l + 1))), some (.int (0)), some (.int (0)), none, none]) (st1 := [.ref (lev l)]) rfl ?_
  refine Wp.invV (d2 := 1) (as := [.ref (lev l)]) (r := []) (t := (1, 0)) rfl rfl rfl rfl (cA_t hw (lev_c hl)) rfl rfl ⟨rfl, rfl⟩ (by omega) (s_cwalkF hw (lev_c hl) hk (Nat.le_refl _) ?_)
  intro k f g
  show Wp d 50 51 [some (.ref 10), some (.int (Int32.ofNat l)), some (.ref (lev l)), some (.ref (lev (l + 1))), some (.int (0)), some (.int (0)), none, none] [] k Q
  refine Wp.seg 2 (pc1 := 54) (ls1 := [some (.ref 10), some (.int (Int32.ofNat l)), some (.ref (lev l)), some (.ref (lev (l + 1))), some (.int (0)), some (.int (0)), some (.int (0)), none]) (st1 := []) rfl ?_
  exact (hQ k f g)
set_option maxHeartbeats 4000000 in
theorem t_vaB {d : Nat} {Q : KO → Prop} {h : KH} (hw : WF h) {B : Nat → Int32} {RL : List Rul} {n c dn en l : Nat} (hk : cityOK h (lev l) B RL n c dn en) (hl : l < 5) (hl1 : l + 1 < 5) (hn6 : n ≤ 6) (hlt : dn < en) {v : Int32} {b : Bool} {a : Nat} {z : Option Value} (han : a ≤ n) (hd : 4 ≤ d) (hQ : ∀ k, Fr (pC (lev (l + 1))) (fun c => c = lev (l + 1)) h k → nrm (cS k.2.2.1 (lev (l + 1))) = nrm (cS h.2.2.1 (lev l)) → k.2.1 (lev (l + 1)) 10 = h.2.1 (lev l) 10 → k.2.1 (lev (l + 1)) 11 = h.2.1 (lev l) 11 → (∀ k2, Fr (pC (lev (l + 1))) noP k k2 → cityOK k2 (lev (l + 1)) (setA RL B (actT a)) RL n c (dn + 1) en → (Wp d 50 83 ([some (.ref 10), some (.int (Int32.ofNat l)), some (.ref (lev l)), some (.ref (lev (l + 1))), some (.int (b32 b)), some (.int (v)), some (.int (Int32.ofNat a)), z]) [.int ((Int32.ofNat l) + (1 : Int32)), .ref 10, .int (f_bitCount (shA c (setA RL B (actT a))))] k2 Q))) : Wp d 50 54 [some (.ref 10), some (.int (Int32.ofNat l)), some (.ref (lev l)), some (.ref (lev (l + 1))), some (.int (b32 b)), some (.int (v)), some (.int (Int32.ofNat a)), z] [] h Q := by
  refine Wp.seg 2 (pc1 := 57) (ls1 := [some (.ref 10), some (.int (Int32.ofNat l)), some (.ref (lev l)), some (.ref (lev (l + 1))), some (.int (b32 b)), some (.int (v)), some (.int (Int32.ofNat a)), z]) (st1 := [.ref (lev l), .int (Int32.ofNat a)]) rfl ?_
  refine Wp.gi (t := (1, 0)) rfl (cA_t hw (lev_c hl)) (Or.inl rfl) ?_
  rw [show h.2.2.1 (lev l) 1 = Int32.ofNat n from hk.2.1.2.1]
  refine Wp.if2 rfl (fun c1 => absurd c1 (fun c => by have := (zlt (znat (n := n) (by omega)) (znat (n := a) (by omega))).mp c; omega)) (fun c1 => ?_)
  refine Wp.seg 2 (pc1 := 65) (ls1 := [some (.ref 10), some (.int (Int32.ofNat l)), some (.ref (lev l)), some (.ref (lev (l + 1))), some (.int (b32 b)), some (.int (v)), some (.int (Int32.ofNat a)), z]) (st1 := [.ref (lev l), .ref (lev (l + 1))]) rfl ?_
  refine Wp.invV (d2 := 1) (as := [.ref (lev (l + 1)), .ref (lev l)]) (r := []) (t := (1, 0)) rfl rfl rfl rfl (cA_t hw (lev_c hl1)) rfl rfl ⟨rfl, rfl⟩ (by omega) (s_copy hw (lev_c hl1) (lev_c hl) (by unfold lev; omega) (Nat.le_refl _) ?_)
  intro k f e1 e2 e3
  show Wp d 50 68 [some (.ref 10), some (.int (Int32.ofNat l)), some (.ref (lev l)), some (.ref (lev (l + 1))), some (.int (b32 b)), some (.int (v)), some (.int (Int32.ofNat a)), z] [] k Q
  refine Wp.seg 4 (pc1 := 73) (ls1 := [some (.ref 10), some (.int (Int32.ofNat l)), some (.ref (lev l)), some (.ref (lev (l + 1))), some (.int (b32 b)), some (.int (v)), some (.int (Int32.ofNat a)), z]) (st1 := [.int ((Int32.ofNat a) - (1 : Int32)), .ref (lev (l + 1))]) rfl ?_
  refine Wp.invV (d2 := 3) (as := [.ref (lev (l + 1)), .int ((Int32.ofNat a) - (1 : Int32))]) (r := []) (t := (1, 0)) rfl rfl rfl rfl (cA_t (f.wf hw (fun z => by unfold lev at z; omega)) (lev_c hl1)) rfl rfl ⟨rfl, rfl⟩ (by omega) (s_settleF (t := actT a) (f.wf hw (fun z => by unfold lev at z; omega)) (lev_c hl1) (copy_ok hk f e1 e2) hlt (actT_ok (by omega) hn6) (Nat.le_refl _) ?_)
  intro k2 f2 g2
  show Wp d 50 76 [some (.ref 10), some (.int (Int32.ofNat l)), some (.ref (lev l)), some (.ref (lev (l + 1))), some (.int (b32 b)), some (.int (v)), some (.int (Int32.ofNat a)), z] [.int (shA c (setA RL B (actT a)))] k2 Q
  refine Wp.inv (d2 := 0) (as := [.int (shA c (setA RL B (actT a)))]) (r := []) rfl rfl rfl rfl rfl rfl (by omega) (s_bitCount (Nat.le_refl _) ?_)
  show Wp d 50 79 [some (.ref 10), some (.int (Int32.ofNat l)), some (.ref (lev l)), some (.ref (lev (l + 1))), some (.int (b32 b)), some (.int (v)), some (.int (Int32.ofNat a)), z] [.int (f_bitCount (shA c (setA RL B (actT a))))] k2 Q
  refine Wp.seg 4 (pc1 := 83) (ls1 := [some (.ref 10), some (.int (Int32.ofNat l)), some (.ref (lev l)), some (.ref (lev (l + 1))), some (.int (b32 b)), some (.int (v)), some (.int (Int32.ofNat a)), z]) (st1 := [.int ((Int32.ofNat l) + (1 : Int32)), .ref 10, .int (f_bitCount (shA c (setA RL B (actT a))))]) rfl ?_
  exact ((hQ k f e1 e2 e3) k2 f2 g2)
set_option maxHeartbeats 4000000 in
theorem t_vaC {d : Nat} {Q : KO → Prop} {h : KH} (hw : WF h) {l a x y : Nat} {b : Bool} {v u bc : Int32} {z : Option Value} (hd : 0 ≤ d) (hQ : ((Int32.ofNat a) = 0 → (¬ (Int32.ofNat l) = 0 → Wp d 50 137 ([some (.ref 10), some (.int (Int32.ofNat l)), some (.ref x), some (.ref y), some (.int (b32 b)), some (.int (bc + u)), some (.int (Int32.ofNat a)), some (.int (bc + u))]) [] (kwi h 10 9 (h.2.2.1 10 9)) Q) ∧ (¬ (¬ (Int32.ofNat l) = 0) → Wp d 50 137 ([some (.ref 10), some (.int (Int32.ofNat l)), some (.ref x), some (.ref y), some (.int (b32 b)), some (.int (bc + u)), some (.int (Int32.ofNat a)), some (.int (bc + u))]) [] (kwi h 10 9 (Int32.ofNat a)) Q)) ∧ (¬ ((Int32.ofNat a) = 0) → (b = false → (v ≤ (bc + u) → Wp d 50 137 ([some (.ref 10), some (.int (Int32.ofNat l)), some (.ref x), some (.ref y), some (.int (b32 b)), some (.int (v)), some (.int (Int32.ofNat a)), some (.int (bc + u))]) [] h Q) ∧ (¬ (v ≤ (bc + u)) → (¬ (Int32.ofNat l) = 0 → Wp d 50 137 ([some (.ref 10), some (.int (Int32.ofNat l)), some (.ref x), some (.ref y), some (.int (b32 b)), some (.int (bc + u)), some (.int (Int32.ofNat a)), some (.int (bc + u))]) [] (kwi h 10 9 (h.2.2.1 10 9)) Q) ∧ (¬ (¬ (Int32.ofNat l) = 0) → Wp d 50 137 ([some (.ref 10), some (.int (Int32.ofNat l)), some (.ref x), some (.ref y), some (.int (b32 b)), some (.int (bc + u)), some (.int (Int32.ofNat a)), some (.int (bc + u))]) [] (kwi h 10 9 (Int32.ofNat a)) Q))) ∧ (b = true → ((bc + u) ≤ v → Wp d 50 137 ([some (.ref 10), some (.int (Int32.ofNat l)), some (.ref x), some (.ref y), some (.int (b32 b)), some (.int (v)), some (.int (Int32.ofNat a)), some (.int (bc + u))]) [] h Q) ∧ (¬ ((bc + u) ≤ v) → (¬ (Int32.ofNat l) = 0 → Wp d 50 137 ([some (.ref 10), some (.int (Int32.ofNat l)), some (.ref x), some (.ref y), some (.int (b32 b)), some (.int (bc + u)), some (.int (Int32.ofNat a)), some (.int (bc + u))]) [] (kwi h 10 9 (h.2.2.1 10 9)) Q) ∧ (¬ (¬ (Int32.ofNat l) = 0) → Wp d 50 137 ([some (.ref 10), some (.int (Int32.ofNat l)), some (.ref x), some (.ref y), some (.int (b32 b)), some (.int (bc + u)), some (.int (Int32.ofNat a)), some (.int (bc + u))]) [] (kwi h 10 9 (Int32.ofNat a)) Q))))) : Wp d 50 86 [some (.ref 10), some (.int (Int32.ofNat l)), some (.ref x), some (.ref y), some (.int (b32 b)), some (.int (v)), some (.int (Int32.ofNat a)), z] [.int (u), .int (bc)] h Q := by
  refine Wp.seg 3 (pc1 := 91) (ls1 := [some (.ref 10), some (.int (Int32.ofNat l)), some (.ref x), some (.ref y), some (.int (b32 b)), some (.int (v)), some (.int (Int32.ofNat a)), some (.int (bc + u))]) (st1 := [.int (Int32.ofNat a)]) rfl ?_
  refine Wp.if1 rfl (fun (c1 : (Int32.ofNat a) = 0) => ?_) (fun (c1 : ¬ ((Int32.ofNat a) = 0)) => ?_)
  · refine Wp.seg 4 (pc1 := 122) (ls1 := [some (.ref 10), some (.int (Int32.ofNat l)), some (.ref x), some (.ref y), some (.int (b32 b)), some (.int (bc + u)), some (.int (Int32.ofNat a)), some (.int (bc + u))]) (st1 := [.int (Int32.ofNat l), .ref 10]) rfl ?_
    refine Wp.if1 rfl (fun (c2 : ¬ (Int32.ofNat l) = 0) => ?_) (fun (c2 : ¬ (¬ (Int32.ofNat l) = 0)) => ?_)
    · refine Wp.seg 1 (pc1 := 131) (ls1 := [some (.ref 10), some (.int (Int32.ofNat l)), some (.ref x), some (.ref y), some (.int (b32 b)), some (.int (bc + u)), some (.int (Int32.ofNat a)), some (.int (bc + u))]) (st1 := [.ref 10, .ref 10]) rfl ?_
      refine Wp.gi (t := (5, 0)) rfl (WF.t hw 10 rfl) (Or.inl rfl) ?_
      refine Wp.pi (t := (5, 0)) rfl (WF.t hw 10 rfl) (Or.inl rfl) ?_
      exact ((hQ.1 c1).1 c2)
    · refine Wp.seg 2 (pc1 := 134) (ls1 := [some (.ref 10), some (.int (Int32.ofNat l)), some (.ref x), some (.ref y), some (.int (b32 b)), some (.int (bc + u)), some (.int (Int32.ofNat a)), some (.int (bc + u))]) (st1 := [.int (Int32.ofNat a), .ref 10]) rfl ?_
      refine Wp.pi (t := (5, 0)) rfl (WF.t hw 10 rfl) (Or.inl rfl) ?_
      exact ((hQ.1 c1).2 c2)
  · refine Wp.seg 1 (pc1 := 96) (ls1 := [some (.ref 10), some (.int (Int32.ofNat l)), some (.ref x), some (.ref y), some (.int (b32 b)), some (.int (v)), some (.int (Int32.ofNat a)), some (.int (bc + u))]) (st1 := [.int (b32 b)]) rfl ?_
    refine Wp.ifz rfl (fun (c3 : b = false) => ?_) (fun (c3 : b = true) => ?_)
    · refine Wp.seg 2 (pc1 := 113) (ls1 := [some (.ref 10), some (.int (Int32.ofNat l)), some (.ref x), some (.ref y), some (.int (b32 b)), some (.int (v)), some (.int (Int32.ofNat a)), some (.int (bc + u))]) (st1 := [.int (v), .int (bc + u)]) rfl ?_
      refine Wp.if2 rfl (fun (c4 : v ≤ (bc + u)) => ?_) (fun (c4 : ¬ (v ≤ (bc + u))) => ?_)
      · exact (((hQ.2 c1).1 c3).1 c4)
      · refine Wp.seg 4 (pc1 := 122) (ls1 := [some (.ref 10), some (.int (Int32.ofNat l)), some (.ref x), some (.ref y), some (.int (b32 b)), some (.int (bc + u)), some (.int (Int32.ofNat a)), some (.int (bc + u))]) (st1 := [.int (Int32.ofNat l), .ref 10]) rfl ?_
        refine Wp.if1 rfl (fun (c5 : ¬ (Int32.ofNat l) = 0) => ?_) (fun (c5 : ¬ (¬ (Int32.ofNat l) = 0)) => ?_)
        · refine Wp.seg 1 (pc1 := 131) (ls1 := [some (.ref 10), some (.int (Int32.ofNat l)), some (.ref x), some (.ref y), some (.int (b32 b)), some (.int (bc + u)), some (.int (Int32.ofNat a)), some (.int (bc + u))]) (st1 := [.ref 10, .ref 10]) rfl ?_
          refine Wp.gi (t := (5, 0)) rfl (WF.t hw 10 rfl) (Or.inl rfl) ?_
          refine Wp.pi (t := (5, 0)) rfl (WF.t hw 10 rfl) (Or.inl rfl) ?_
          exact ((((hQ.2 c1).1 c3).2 c4).1 c5)
        · refine Wp.seg 2 (pc1 := 134) (ls1 := [some (.ref 10), some (.int (Int32.ofNat l)), some (.ref x), some (.ref y), some (.int (b32 b)), some (.int (bc + u)), some (.int (Int32.ofNat a)), some (.int (bc + u))]) (st1 := [.int (Int32.ofNat a), .ref 10]) rfl ?_
          refine Wp.pi (t := (5, 0)) rfl (WF.t hw 10 rfl) (Or.inl rfl) ?_
          exact ((((hQ.2 c1).1 c3).2 c4).2 c5)
    · refine Wp.seg 2 (pc1 := 103) (ls1 := [some (.ref 10), some (.int (Int32.ofNat l)), some (.ref x), some (.ref y), some (.int (b32 b)), some (.int (v)), some (.int (Int32.ofNat a)), some (.int (bc + u))]) (st1 := [.int (v), .int (bc + u)]) rfl ?_
      refine Wp.if2 rfl (fun (c6 : (bc + u) ≤ v) => ?_) (fun (c6 : ¬ ((bc + u) ≤ v)) => ?_)
      · exact (((hQ.2 c1).2 c3).1 c6)
      · refine Wp.seg 5 (pc1 := 122) (ls1 := [some (.ref 10), some (.int (Int32.ofNat l)), some (.ref x), some (.ref y), some (.int (b32 b)), some (.int (bc + u)), some (.int (Int32.ofNat a)), some (.int (bc + u))]) (st1 := [.int (Int32.ofNat l), .ref 10]) rfl ?_
        refine Wp.if1 rfl (fun (c7 : ¬ (Int32.ofNat l) = 0) => ?_) (fun (c7 : ¬ (¬ (Int32.ofNat l) = 0)) => ?_)
        · refine Wp.seg 1 (pc1 := 131) (ls1 := [some (.ref 10), some (.int (Int32.ofNat l)), some (.ref x), some (.ref y), some (.int (b32 b)), some (.int (bc + u)), some (.int (Int32.ofNat a)), some (.int (bc + u))]) (st1 := [.ref 10, .ref 10]) rfl ?_
          refine Wp.gi (t := (5, 0)) rfl (WF.t hw 10 rfl) (Or.inl rfl) ?_
          refine Wp.pi (t := (5, 0)) rfl (WF.t hw 10 rfl) (Or.inl rfl) ?_
          exact ((((hQ.2 c1).2 c3).2 c6).1 c7)
        · refine Wp.seg 2 (pc1 := 134) (ls1 := [some (.ref 10), some (.int (Int32.ofNat l)), some (.ref x), some (.ref y), some (.int (b32 b)), some (.int (bc + u)), some (.int (Int32.ofNat a)), some (.int (bc + u))]) (st1 := [.int (Int32.ofNat a), .ref 10]) rfl ?_
          refine Wp.pi (t := (5, 0)) rfl (WF.t hw 10 rfl) (Or.inl rfl) ?_
          exact ((((hQ.2 c1).2 c3).2 c6).2 c7)
set_option maxHeartbeats 4000000 in
theorem t_vaN {d : Nat} {Q : KO → Prop} {h : KH} {l v b : Int32} {a x y : Nat} {z : Option Value} (hd : 0 ≤ d) (hQ : Wp d 50 54 ([some (.ref 10), some (.int (l)), some (.ref x), some (.ref y), some (.int (b)), some (.int (v)), some (.int ((Int32.ofNat a) + 1)), z]) [] h Q) : Wp d 50 137 [some (.ref 10), some (.int (l)), some (.ref x), some (.ref y), some (.int (b)), some (.int (v)), some (.int (Int32.ofNat a)), z] [] h Q := by
  refine Wp.seg 2 (pc1 := 54) (ls1 := [some (.ref 10), some (.int (l)), some (.ref x), some (.ref y), some (.int (b)), some (.int (v)), some (.int ((Int32.ofNat a) + 1)), z]) (st1 := []) rfl ?_
  exact hQ
set_option maxHeartbeats 4000000 in
theorem t_vaE {d : Nat} {Q : KO → Prop} {h : KH} (hw : WF h) {B : Nat → Int32} {RL : List Rul} {n c dn en l : Nat} (hk : cityOK h (lev l) B RL n c dn en) (hl : l < 5) (hn6 : n ≤ 6) {v b : Int32} {z : Option Value} (hd : 0 ≤ d) (hQ : Q (some (.int (v)), h)) : Wp d 50 54 [some (.ref 10), some (.int (Int32.ofNat l)), some (.ref (lev l)), some (.ref (lev (l + 1))), some (.int (b)), some (.int (v)), some (.int (Int32.ofNat (n + 1))), z] [] h Q := by
  refine Wp.seg 2 (pc1 := 57) (ls1 := [some (.ref 10), some (.int (Int32.ofNat l)), some (.ref (lev l)), some (.ref (lev (l + 1))), some (.int (b)), some (.int (v)), some (.int (Int32.ofNat (n + 1))), z]) (st1 := [.ref (lev l), .int (Int32.ofNat (n + 1))]) rfl ?_
  refine Wp.gi (t := (1, 0)) rfl (cA_t hw (lev_c hl)) (Or.inl rfl) ?_
  rw [show h.2.2.1 (lev l) 1 = Int32.ofNat n from hk.2.1.2.1]
  refine Wp.if2 rfl (fun c1 => ?_) (fun c1 => absurd ((zlt (znat (n := n) (by omega)) (znat (n := n + 1) (by omega))).mpr (by omega)) c1)
  refine Wp.seg 1 (pc1 := 145) (ls1 := [some (.ref 10), some (.int (Int32.ofNat l)), some (.ref (lev l)), some (.ref (lev (l + 1))), some (.int (b)), some (.int (v)), some (.int (Int32.ofNat (n + 1))), z]) (st1 := [.int (v)]) rfl ?_
  exact Wp.reti rfl rfl hQ
def vaPost (l K : Nat) (o : Int32) (h k : KH) : Prop := Fr (pV l) (rL l) h k ∧ (∀ i, i ≠ 9 → k.2.2.1 10 i = h.2.2.1 10 i) ∧ k.2.2.1 10 9 = (if l = 0 ∧ 0 < K then o else h.2.2.1 10 9)
set_option maxHeartbeats 2000000 in
theorem s_value {RL : List Rul} {n c en L : Nat} (hL : L ≤ 4) : ∀ (K l : Nat) (d : Nat) (h : KH) (A : Nat → Int32) (dn : Nat) (Q : KO → Prop), K + 4 ≤ d → l + K = L → WF h → cityOK h (lev l) A RL n c dn en → dn + K ≤ en → h.2.2.1 10 3 = Int32.ofNat L →
    (∀ k, vaPost l K (gameO RL n (K - 1) A) h k → Q (some (.int (gameV RL n K (evB l) A)), k)) → Cl d 50 [.ref 10, .int (Int32.ofNat l)] h Q := by
  intro K
  induction K with
  | zero =>
    intro l d h A dn Q hd hlL hw hk hdn h3 hQ
    have hl2 : l = L := by omega
    subst hl2
    exact t_vaL hw h3 (Nat.zero_le _) (hQ h ⟨Fr.refl h, fun _ _ => rfl, by rw [if_neg (fun z => absurd z.2 (Nat.lt_irrefl 0))]⟩)
  | succ K ih =>
    intro l d h A dn Q hd hlL hw hk hdn h3 hQ
    have hn6 := hk.2.1.1
    have hA := hk.A
    have hlv : lev l = 14 + 3 * l := rfl
    have hlev : lev (l + 1) = lev l + 3 := by unfold lev; omega
    have hev := of_decide_eq_true (kall1_ok ev_all (i := l) (by omega))
    -- the loop
    have loop : ∀ (b : Bool), b = evB l → ∀ (j a : Nat) (x : KH) (st : Int32 × Int32) (z : Option Value), a + j = n + 1 → WF x → cityOK x (lev l) (walkA n A) RL n c dn en → x.2.2.1 10 3 = Int32.ofNat L → (l = 0 → 0 < a → x.2.2.1 10 9 = st.2) →
        (∀ y, Fr (pV l) (rL l) x y → (∀ i, i ≠ 9 → y.2.2.1 10 i = x.2.2.1 10 i) → (l = 0 → y.2.2.1 10 9 = (foldN (gmF (gmW RL (gameV RL n K (!b)) A) b) j a st).2) → (l ≠ 0 → y.2.2.1 10 9 = x.2.2.1 10 9) → Q (some (.int (foldN (gmF (gmW RL (gameV RL n K (!b)) A) b) j a st).1), y)) →
        Wp d 50 54 [some (.ref 10), some (.int (Int32.ofNat l)), some (.ref (lev l)), some (.ref (lev (l + 1))), some (.int (b32 b)), some (.int st.1), some (.int (Int32.ofNat a)), z] [] x Q := by
      intro b hb j
      induction j with
      | zero =>
        intro a x st z ha hwx hkx h3x h9x hQx
        have ha2 : a = n + 1 := ha
        subst ha2
        exact t_vaE hwx hkx (by omega) hn6 (Nat.zero_le _) (hQx x (Fr.refl x) (fun _ _ => rfl) (fun hl => h9x hl (Nat.succ_pos n)) (fun _ => rfl))
      | succ j ihj =>
        intro a x st z ha hwx hkx h3x h9x hQx
        have han : a ≤ n := by omega
        have ht := actT_ok han hn6
        have eg := set_walk (RL := RL) hA ht
        have ew := wA_set (RL := RL) hA ht
        refine t_vaB hwx hkx (by omega) (by omega) hn6 (by omega) han (by omega) (fun k1 f1 e1 e2 e3 k2 f2 g2 => ?_)
        rw [eg] at g2 ⊢
        have epop : f_bitCount (shA c (goA RL A (actT a))) = wA RL A (actT a) := by
          rw [ew]
          exact pop_shut _ _
        rw [epop]
        have fP : Fr (fun c => lev (l + 1) ≤ c ∧ c ≤ lev (l + 1) + 2) (fun c => c = lev (l + 1)) x k2 := Fr.trans f1 (f2.mono (fun _ z => z) (fun _ z => absurd z (fun y => y)))
        have w2 : WF k2 := fP.wf hwx (fun z => by omega)
        have e10 : k2.2.2.1 10 = x.2.2.1 10 := fP.2.2.1 10 (Or.inl (fun z => by omega))
        rw [show Int32.ofNat l + 1 = Int32.ofNat (l + 1) from ofadd l 1]
        refine Wp.invV (d2 := d - 1) (as := [.ref 10, .int (Int32.ofNat (l + 1))]) (r := [.int (wA RL A (actT a))]) (t := (5, 0)) rfl rfl rfl rfl (WF.t w2 10 rfl) rfl rfl ⟨rfl, rfl⟩ (by omega) ?_
        refine ih (l + 1) (d - 1) k2 _ (dn + 1) _ (by omega) (by omega) w2 g2 (by omega) (by rw [e10]; exact h3x) ?_
        rintro k4 ⟨q1, q2, q3⟩
        rw [if_neg (by omega)] at q3
        show Wp d 50 86 [some (.ref 10), some (.int (Int32.ofNat l)), some (.ref (lev l)), some (.ref (lev (l + 1))), some (.int (b32 b)), some (.int st.1), some (.int (Int32.ofNat a)), z] [.int (gameV RL n K (evB (l + 1)) (goA RL A (actT a))), .int (wA RL A (actT a))] k4 Q
        have eb : evB (l + 1) = !b := by
          rw [hb]
          unfold evB
          by_cases q : l % 2 = 0
          · rw [decide_eq_true q, decide_eq_false (by omega)]; rfl
          · rw [decide_eq_false q, decide_eq_true (by omega)]; rfl
        rw [eb]
        have w4 : WF k4 := q1.wf w2 (fun z => by unfold rL at z; omega)
        have fB : Fr (fun c => c = 10 ∨ lev (l + 1) ≤ c) (fun c => lev (l + 1) ≤ c) x k4 := by
          refine Fr.trans (fP.mono ?_ ?_) (q1.mono ?_ ?_)
          · intro c z; omega
          · intro c z; omega
          · intro c z; unfold pV at z; omega
          · intro c z; unfold rL at z; omega
        have fA : Fr (pV l) (rL l) x k4 := by
          refine Fr.trans (fP.mono ?_ ?_) (q1.mono ?_ ?_)
          · intro c z; unfold pV; omega
          · intro c z; unfold rL; omega
          · intro c z; unfold pV at z ⊢; omega
          · intro c z; unfold rL at z ⊢; omega
        have c4 : cityOK k4 (lev l) (walkA n A) RL n c dn en := city_fr hkx fB (fun z => by omega) (fun z => by omega) (fun z => by omega)
        have i4 : ∀ i, i ≠ 9 → k4.2.2.1 10 i = x.2.2.1 10 i := fun i hi => (q2 i hi).trans (by rw [e10])
        have n4 : k4.2.2.1 10 9 = x.2.2.1 10 9 := q3.trans (by rw [e10])
        -- what follows
        have next : ∀ (y : KH) (st2 : Int32 × Int32) (zz : Option Value), st2 = gmF (gmW RL (gameV RL n K (!b)) A) b st a → Fr (fun c => c = 10) noP k4 y → (∀ i, i ≠ 9 → y.2.2.1 10 i = k4.2.2.1 10 i) → (l = 0 → y.2.2.1 10 9 = st2.2) → (l ≠ 0 → y.2.2.1 10 9 = k4.2.2.1 10 9) →
            Wp d 50 137 [some (.ref 10), some (.int (Int32.ofNat l)), some (.ref (lev l)), some (.ref (lev (l + 1))), some (.int (b32 b)), some (.int st2.1), some (.int (Int32.ofNat a)), zz] [] y Q := by
          intro y st2 zz hst fy y1 y2 y3
          refine t_vaN (Nat.zero_le _) ?_
          rw [show Int32.ofNat a + 1 = Int32.ofNat (a + 1) from ofadd a 1]
          have fxy : Fr (pV l) (rL l) x y := fA.trans (fy.mono (fun c z => Or.inl z) (fun c z => absurd z (fun y => y)))
          refine ihj (a + 1) y st2 zz (by omega) (fy.wf w4 (fun z => z)) (city_fr c4 fy (fun z => by omega) (fun z => by omega) (fun z => z)) ((y1 3 (by decide)).trans ((i4 3 (by decide)).trans h3x)) (fun hl _ => y2 hl) (fun y' g1 g2 g3 g4 => ?_)
          have := hQx y' (fxy.trans g1) (fun i hi => (g2 i hi).trans ((y1 i hi).trans (i4 i hi)))
          rw [hst] at g3 ⊢
          exact this g3 (fun hl => (g4 hl).trans ((y3 hl).trans n4))
        have hwv : wA RL A (actT a) + gameV RL n K (!b) (goA RL A (actT a)) = gmW RL (gameV RL n K (!b)) A a := rfl
        have take : (a = 0 ∨ (if b = true then st.1 < gmW RL (gameV RL n K (!b)) A a else gmW RL (gameV RL n K (!b)) A a < st.1)) → ∀ (zz : Option Value), (¬ Int32.ofNat l = 0 → Wp d 50 137 [some (.ref 10), some (.int (Int32.ofNat l)), some (.ref (lev l)), some (.ref (lev (l + 1))), some (.int (b32 b)), some (.int (gmW RL (gameV RL n K (!b)) A a)), some (.int (Int32.ofNat a)), zz] [] (kwi k4 10 9 (k4.2.2.1 10 9)) Q) ∧ (¬ ¬ Int32.ofNat l = 0 → Wp d 50 137 [some (.ref 10), some (.int (Int32.ofNat l)), some (.ref (lev l)), some (.ref (lev (l + 1))), some (.int (b32 b)), some (.int (gmW RL (gameV RL n K (!b)) A a)), some (.int (Int32.ofNat a)), zz] [] (kwi k4 10 9 (Int32.ofNat a)) Q) := by
          intro hc zz
          have est : gmF (gmW RL (gameV RL n K (!b)) A) b st a = (gmW RL (gameV RL n K (!b)) A a, Int32.ofNat a) := if_pos hc
          refine ⟨fun c1 => ?_, fun c1 => ?_⟩
          · exact next _ (gmW RL (gameV RL n K (!b)) A a, Int32.ofNat a) zz est.symm (fr_kwi rfl (by decide)) (fun i hi => kwi_o hi) (fun hl => absurd (by rw [hl]; rfl) c1) (fun _ => kwi_s)
          · exact next _ (gmW RL (gameV RL n K (!b)) A a, Int32.ofNat a) zz est.symm (fr_kwi rfl (by decide)) (fun i hi => kwi_o hi) (fun _ => kwi_s) (fun hl => absurd ((oeq (b := 0) (by omega) (by decide)).mp (Decidable.not_not.mp c1)) hl)
        have skip : ¬ (a = 0 ∨ (if b = true then st.1 < gmW RL (gameV RL n K (!b)) A a else gmW RL (gameV RL n K (!b)) A a < st.1)) → ∀ (zz : Option Value), Wp d 50 137 [some (.ref 10), some (.int (Int32.ofNat l)), some (.ref (lev l)), some (.ref (lev (l + 1))), some (.int (b32 b)), some (.int st.1), some (.int (Int32.ofNat a)), zz] [] k4 Q := by
          intro hc zz
          have est : gmF (gmW RL (gameV RL n K (!b)) A) b st a = st := if_neg hc
          exact next k4 st zz est.symm (Fr.refl _) (fun _ _ => rfl) (fun hl => n4.trans (h9x hl (by have : ¬ a = 0 := fun z => hc (Or.inl z); omega))) (fun _ => rfl)
        refine t_vaC w4 (Nat.zero_le _) ?_
        rw [hwv]
        have a0 : Int32.ofNat a = 0 → a = 0 := fun z => (oeq (b := 0) (by omega) (by decide)).mp z
        refine ⟨fun c1 => take (Or.inl (a0 c1)) _, fun c1 => ?_⟩
        have na : ¬ a = 0 := fun z => c1 (by rw [z]; rfl)
        refine ⟨fun hb0 => ?_, fun hb0 => ?_⟩
        · refine ⟨fun c2 => skip (fun z => z.elim na (fun y => ?_)) _, fun c2 => take (Or.inr ?_) _⟩
          · rw [if_neg (by rw [hb0]; decide)] at y
            exact Int32.not_lt.mpr c2 y
          · rw [if_neg (by rw [hb0]; decide)]
            exact Int32.not_le.mp c2
        · refine ⟨fun c2 => skip (fun z => z.elim na (fun y => ?_)) _, fun c2 => take (Or.inr ?_) _⟩
          · rw [if_pos hb0] at y
            exact Int32.not_lt.mpr c2 y
          · rw [if_pos hb0]
            exact Int32.not_le.mp c2
    have start : ∀ b : Bool, b = evB l → ∀ k : KH, Fr (pC (lev l)) noP h k → cityOK k (lev l) (walkA n A) RL n c dn en → Wp d 50 54 [some (.ref 10), some (.int (Int32.ofNat l)), some (.ref (lev l)), some (.ref (lev (l + 1))), some (.int (b32 b)), some (.int 0), some (.int (Int32.ofNat 0)), none] [] k Q := by
      intro b hb k f g
      have fk : Fr (pV l) (rL l) h k := f.mono (fun c z => by unfold pC at z; unfold pV; omega) (fun _ z => absurd z (fun y => y))
      have e10 : k.2.2.1 10 = h.2.2.1 10 := f.2.2.1 10 (Or.inl (fun z => by unfold pC at z; omega))
      refine loop b hb (n + 1) 0 k (0, 0) none (by omega) (f.wf hw (fun z => z)) g (by rw [e10]; exact h3) (fun _ z => absurd z (Nat.lt_irrefl 0)) (fun y g1 g2 g3 g4 => ?_)
      have := hQ y ⟨fk.trans g1, fun i hi => (g2 i hi).trans (by rw [e10]), ?_⟩
      · rw [← hb] at this
        exact this
      · by_cases hl : l = 0
        · have hbt : b = true := by rw [hb, hl]; rfl
          rw [if_pos ⟨hl, Nat.succ_pos K⟩, g3 hl, hbt]
          rfl
        · rw [if_neg (fun z => hl z.1), g4 hl, e10]
    by_cases q : l % 2 = 0
    · rw [if_pos q] at hev
      exact t_vaS1 hw hk (by omega) (by omega) h3 (by omega) hL hev (by omega) (fun k f g => start true (by unfold evB; rw [decide_eq_true q]) k f g)
    · rw [if_neg q] at hev
      exact t_vaS0 hw hk (by omega) (by omega) h3 (by omega) hL (by rw [hev]; decide) (by omega) (fun k f g => start false (by unfold evB; rw [decide_eq_false q]) k f g)
