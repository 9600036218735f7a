/-! KM: the class: game(), play() -/
set_option maxHeartbeats 4000000 in
theorem t_pout {d : Nat} {Q : KO → Prop} {h : KH} (hw : WF h) {A : Nat → Int32} {RL : List Rul} {n c dn en : Nat} (hk : cityOK h 1 A RL n c dn en) {m : Nat} (hm : m ≤ 4) (hde : dn ≤ en) (hd : 9 ≤ d) (hQ : ∀ k, Fr pB (fun c => c = 14) h k → cityOK k (lev 0) A RL n c dn en → k.2.2.1 10 3 = Int32.ofNat (min m (en - dn)) → (∀ k2, vaPost 0 (min m (en - dn)) (gameO RL n (min m (en - dn) - 1) A) (kwi k 10 9 (0 : Int32)) k2 → (Q (some (.int (gameV RL n (min m (en - dn)) true A)), k2)))) : Cl d 49 [.ref 10, .ref 1, .int (Int32.ofNat m)] h Q := by
  refine Cl.of (ls := [some (.ref 10), some (.ref 1), some (.int (Int32.ofNat m))]) rfl rfl ?_
  refine Wp.seg 3 (pc1 := 3) (ls1 := [some (.ref 10), some (.ref 1), some (.int (Int32.ofNat m))]) (st1 := [.int (Int32.ofNat m), .ref 1, .ref 10]) rfl ?_
  refine Wp.invV (d2 := 2) (as := [.ref 10, .ref 1, .int (Int32.ofNat m)]) (r := []) (t := (5, 0)) rfl rfl rfl rfl (WF.t hw 10 rfl) rfl rfl ⟨rfl, rfl⟩ (by omega) (s_begin hw hk hm (Nat.le_refl _) ?_)
  intro k f g g3
  show Wp d 49 6 [some (.ref 10), some (.ref 1), some (.int (Int32.ofNat m))] [] k Q
  refine Wp.seg 2 (pc1 := 8) (ls1 := [some (.ref 10), some (.ref 1), some (.int (Int32.ofNat m))]) (st1 := [.int (0), .ref 10]) rfl ?_
  refine Wp.pi (t := (5, 0)) rfl (WF.t (f.wf hw (by omega)) 10 rfl) (Or.inl rfl) ?_
  refine Wp.seg 2 (pc1 := 13) (ls1 := [some (.ref 10), some (.ref 1), some (.int (Int32.ofNat m))]) (st1 := [.int (0), .ref 10]) rfl ?_
  refine Wp.invV (d2 := 8) (as := [.ref 10, .int (0)]) (r := []) (t := (5, 0)) rfl rfl rfl rfl (WF.t (f.wf hw (by omega)) 10 rfl) rfl rfl ⟨rfl, rfl⟩ (by omega) (s_value (RL := RL) (n := n) (c := c) (en := en) (L := min m (en - dn)) (by omega) (min m (en - dn)) 0 8 (kwi k 10 9 (0 : Int32)) A dn _ (by omega) (by omega) (f.wf hw (by omega)) (city_fr g (fr_kwi (P := fun c => c = 10) (R := noP) rfl (by decide)) (by unfold lev; omega) (by unfold lev; omega) (fun z => z)) (by omega) ((kwi_o (by decide)).trans g3) ?_)
  intro k2 p2
  show Wp d 49 16 [some (.ref 10), some (.ref 1), some (.int (Int32.ofNat m))] [.int (gameV RL n (min m (en - dn)) true A)] k2 Q
  exact Wp.reti rfl rfl ((hQ k f g g3) k2 p2)
theorem s_playOut {d : Nat} {Q : KO → Prop} {h : KH} (hw : WF h) {A : Nat → Int32} {RL : List Rul} {n c dn en : Nat} (hk : cityOK h 1 A RL n c dn en) {m : Nat} (hm : m ≤ 4) (hd : 9 ≤ d)
    (hQ : ∀ k, Fr pE pE h k → (0 < min m (en - dn) → k.2.2.1 10 9 = gameO RL n (min m (en - dn) - 1) A) → Q (some (.int (gameV RL n (min m (en - dn)) true A)), k)) : Cl d 49 [.ref 10, .ref 1, .int (Int32.ofNat m)] h Q := by
  refine t_pout hw hk hm hk.2.1.2.2.2.2.2.2.1 hd (fun k f g g3 k2 p2 => hQ k2 ?_ (fun h0 => ?_))
  · refine (f.mono ?_ ?_).trans ((fr_kwi (P := pE) (R := pE) (j := 9) (x := 0) (by unfold pE; omega) (by decide)).trans (p2.1.mono ?_ ?_))
    · intro c z; unfold pB at z; unfold pE; omega
    · intro c z; unfold pE; omega
    · intro c z; unfold pV lev at z; unfold pE; omega
    · intro c z; unfold rL lev at z; unfold pE; omega
  · rw [p2.2.2, if_pos ⟨rfl, h0⟩]
def gameS (RL : List Rul) (n dn en : Nat) (A : Nat → Int32) (v : Int32) : Int32 := if inB v 1 4 = true then gameV RL n (plN dn en v) true A else -1
def playS (RL : List Rul) (n dn en : Nat) (A : Nat → Int32) (v : Int32) : Int32 := if inB v 1 4 = true then (if dn < en then gameO RL n (plN dn en v - 1) A else -3) else -1
set_option maxHeartbeats 4000000 in
theorem t_cgaB {d : Nat} {Q : KO → Prop} {h : KH} (hw : WF h) {A : Nat → Int32} {RL : List Rul} {n c dn en : Nat} (hk : cityOK h 1 A RL n c dn en) {m : Nat} (hm : m ≤ 4) (hd : 10 ≤ d) (hQ : ∀ k, Fr pE pE h k → (0 < min m (en - dn) → k.2.2.1 10 9 = gameO RL n (min m (en - dn) - 1) A) → (Q (some (.int (gameV RL n (min m (en - dn)) true A)), k))) : Wp d 129 12 [some (.ref 0), some (.int (Int32.ofNat m))] [] h Q := by
  refine Wp.seg 1 (pc1 := 13) (ls1 := [some (.ref 0), some (.int (Int32.ofNat m))]) (st1 := [.ref 0]) rfl ?_
  refine Wp.gr (t := (10, 0)) (v := some (10)) rfl (WF.t hw 0 rfl) rfl (WF.r hw 0 3 3 rfl) ?_
  show Wp d 129 16 [some (.ref 0), some (.int (Int32.ofNat m))] [.ref 10] h Q
  refine Wp.seg 1 (pc1 := 17) (ls1 := [some (.ref 0), some (.int (Int32.ofNat m))]) (st1 := [.ref 0, .ref 10]) rfl ?_
  refine Wp.gr (t := (10, 0)) (v := some (1)) rfl (WF.t hw 0 rfl) rfl (WF.r hw 0 0 0 rfl) ?_
  show Wp d 129 20 [some (.ref 0), some (.int (Int32.ofNat m))] [.ref 1, .ref 10] h Q
  refine Wp.seg 1 (pc1 := 21) (ls1 := [some (.ref 0), some (.int (Int32.ofNat m))]) (st1 := [.int (Int32.ofNat m), .ref 1, .ref 10]) rfl ?_
  refine Wp.invV (d2 := 9) (as := [.ref 10, .ref 1, .int (Int32.ofNat m)]) (r := []) (t := (5, 0)) rfl rfl rfl rfl (WF.t hw 10 rfl) rfl rfl ⟨rfl, rfl⟩ (by omega) (s_playOut hw hk hm (Nat.le_refl _) ?_)
  intro k f g
  show Wp d 129 24 [some (.ref 0), some (.int (Int32.ofNat m))] [.int (gameV RL n (min m (en - dn)) true A)] k Q
  exact Wp.reti rfl rfl (hQ k f g)
set_option maxHeartbeats 4000000 in
theorem t_cga {d : Nat} {Q : KO → Prop} {h : KH} {v : Int32} (hd : 10 ≤ d) (hQ : (v < (1 : Int32) → Q (some (.int (-1)), h)) ∧ (¬ (v < (1 : Int32)) → (v ≤ (4 : Int32) → Wp d 129 12 ([some (.ref 0), some (.int (v))]) [] h Q) ∧ (¬ (v ≤ (4 : Int32)) → Q (some (.int (-1)), h)))) : Cl d 129 [.ref 0, .int (v)] h Q := by
  refine Cl.of (ls := [some (.ref 0), some (.int (v))]) rfl rfl ?_
  refine Wp.seg 2 (pc1 := 2) (ls1 := [some (.ref 0), some (.int (v))]) (st1 := [.int (1), .int (v)]) rfl ?_
  refine Wp.if2 rfl (fun (c1 : v < (1 : Int32)) => ?_) (fun (c1 : ¬ (v < (1 : Int32))) => ?_)
  · refine Wp.seg 1 (pc1 := 11) (ls1 := [some (.ref 0), some (.int (v))]) (st1 := [.int (-1)]) rfl ?_
    exact Wp.reti rfl rfl (hQ.1 c1)
  · refine Wp.seg 2 (pc1 := 7) (ls1 := [some (.ref 0), some (.int (v))]) (st1 := [.int (4), .int (v)]) rfl ?_
    refine Wp.if2 rfl (fun (c2 : v ≤ (4 : Int32)) => ?_) (fun (c2 : ¬ (v ≤ (4 : Int32))) => ?_)
    · exact ((hQ.2 c1).1 c2)
    · refine Wp.seg 1 (pc1 := 11) (ls1 := [some (.ref 0), some (.int (v))]) (st1 := [.int (-1)]) rfl ?_
      exact Wp.reti rfl rfl ((hQ.2 c1).2 c2)
set_option maxHeartbeats 4000000 in
theorem t_cplB {d : Nat} {Q : KO → Prop} {h : KH} (hw : WF h) {A : Nat → Int32} {RL : List Rul} {n c dn en : Nat} (hk : cityOK h 1 A RL n c dn en) {m : Nat} (hm : m ≤ 4) (hlt : dn < en) (h0 : 0 < min m (en - dn)) (hd : 10 ≤ d) (hQ : ∀ k, Fr pE pE h k → (0 < min m (en - dn) → k.2.2.1 10 9 = gameO RL n (min m (en - dn) - 1) A) → (Q (some (.int (gameO RL n (min m (en - dn) - 1) A)), k))) : Wp d 130 12 [some (.ref 0), some (.int (Int32.ofNat m))] [] h Q := by
  refine Wp.seg 1 (pc1 := 13) (ls1 := [some (.ref 0), some (.int (Int32.ofNat m))]) (st1 := [.ref 0]) rfl ?_
  refine Wp.gr (t := (10, 0)) (v := some (1)) rfl (WF.t hw 0 rfl) rfl (WF.r hw 0 0 0 rfl) ?_
  show Wp d 130 16 [some (.ref 0), some (.int (Int32.ofNat m))] [.ref 1] h Q
  refine Wp.invV (d2 := 0) (as := [.ref 1]) (r := []) (t := (1, 0)) rfl rfl rfl rfl (WF.t hw 1 rfl) rfl rfl ⟨rfl, rfl⟩ (by omega) (s_over0 hw cA1 hk hlt ?_)
  show Wp d 130 19 [some (.ref 0), some (.int (Int32.ofNat m))] [.int (0)] h Q
  refine Wp.if1 rfl (fun c1 => ?_) (fun c1 => absurd (show (0 : Int32) = 0 by decide) c1)
  refine Wp.seg 1 (pc1 := 26) (ls1 := [some (.ref 0), some (.int (Int32.ofNat m))]) (st1 := [.ref 0]) rfl ?_
  refine Wp.gr (t := (10, 0)) (v := some (10)) rfl (WF.t hw 0 rfl) rfl (WF.r hw 0 3 3 rfl) ?_
  show Wp d 130 29 [some (.ref 0), some (.int (Int32.ofNat m))] [.ref 10] h Q
  refine Wp.seg 1 (pc1 := 30) (ls1 := [some (.ref 0), some (.int (Int32.ofNat m))]) (st1 := [.ref 0, .ref 10]) rfl ?_
  refine Wp.gr (t := (10, 0)) (v := some (1)) rfl (WF.t hw 0 rfl) rfl (WF.r hw 0 0 0 rfl) ?_
  show Wp d 130 33 [some (.ref 0), some (.int (Int32.ofNat m))] [.ref 1, .ref 10] h Q
  refine Wp.seg 1 (pc1 := 34) (ls1 := [some (.ref 0), some (.int (Int32.ofNat m))]) (st1 := [.int (Int32.ofNat m), .ref 1, .ref 10]) rfl ?_
  refine Wp.invV (d2 := 9) (as := [.ref 10, .ref 1, .int (Int32.ofNat m)]) (r := []) (t := (5, 0)) rfl rfl rfl rfl (WF.t hw 10 rfl) rfl rfl ⟨rfl, rfl⟩ (by omega) (s_playOut hw hk hm (Nat.le_refl _) ?_)
  intro k f g
  show Wp d 130 37 [some (.ref 0), some (.int (Int32.ofNat m))] [.int (gameV RL n (min m (en - dn)) true A)] k Q
  refine Wp.seg 2 (pc1 := 39) (ls1 := [some (.ref 0), some (.int (Int32.ofNat m))]) (st1 := [.ref 0]) rfl ?_
  refine Wp.gr (t := (10, 0)) (v := some (10)) rfl (WF.t (f.wf hw (by unfold pE; omega)) 0 rfl) rfl (WF.r (f.wf hw (by unfold pE; omega)) 0 3 3 rfl) ?_
  show Wp d 130 42 [some (.ref 0), some (.int (Int32.ofNat m))] [.ref 10] k Q
  refine Wp.gi (t := (5, 0)) rfl (WF.t (f.wf hw (by unfold pE; omega)) 10 rfl) (Or.inl rfl) ?_
  rw [show k.2.2.1 10 9 = gameO RL n (min m (en - dn) - 1) A from g h0]
  exact Wp.reti rfl rfl (hQ k f g)
set_option maxHeartbeats 4000000 in
theorem t_cplO {d : Nat} {Q : KO → Prop} {h : KH} (hw : WF h) {A : Nat → Int32} {RL : List Rul} {n c dn en : Nat} (hk : cityOK h 1 A RL n c dn en) {m : Int32} (hlt : ¬ dn < en) (hd : 10 ≤ d) (hQ : Q (some (.int (-3)), h)) : Wp d 130 12 [some (.ref 0), some (.int (m))] [] h Q := by
  refine Wp.seg 1 (pc1 := 13) (ls1 := [some (.ref 0), some (.int (m))]) (st1 := [.ref 0]) rfl ?_
  refine Wp.gr (t := (10, 0)) (v := some (1)) rfl (WF.t hw 0 rfl) rfl (WF.r hw 0 0 0 rfl) ?_
  show Wp d 130 16 [some (.ref 0), some (.int (m))] [.ref 1] h Q
  refine Wp.invV (d2 := 0) (as := [.ref 1]) (r := []) (t := (1, 0)) rfl rfl rfl rfl (WF.t hw 1 rfl) rfl rfl ⟨rfl, rfl⟩ (by omega) (s_over1 hw cA1 hk hlt ?_)
  show Wp d 130 19 [some (.ref 0), some (.int (m))] [.int (1)] h Q
  refine Wp.if1 rfl (fun c1 => absurd c1 (show ¬ ((1 : Int32) = 0) by decide)) (fun c1 => ?_)
  refine Wp.seg 1 (pc1 := 24) (ls1 := [some (.ref 0), some (.int (m))]) (st1 := [.int (-3)]) rfl ?_
  exact Wp.reti rfl rfl hQ
set_option maxHeartbeats 4000000 in
theorem t_cpl {d : Nat} {Q : KO → Prop} {h : KH} {v : Int32} (hd : 10 ≤ d) (hQ : (v < (1 : Int32) → Q (some (.int (-1)), h)) ∧ (¬ (v < (1 : Int32)) → (v ≤ (4 : Int32) → Wp d 130 12 ([some (.ref 0), some (.int (v))]) [] h Q) ∧ (¬ (v ≤ (4 : Int32)) → Q (some (.int (-1)), h)))) : Cl d 130 [.ref 0, .int (v)] h Q := by
  refine Cl.of (ls := [some (.ref 0), some (.int (v))]) rfl rfl ?_
  refine Wp.seg 2 (pc1 := 2) (ls1 := [some (.ref 0), some (.int (v))]) (st1 := [.int (1), .int (v)]) rfl ?_
  refine Wp.if2 rfl (fun (c1 : v < (1 : Int32)) => ?_) (fun (c1 : ¬ (v < (1 : Int32))) => ?_)
  · refine Wp.seg 1 (pc1 := 11) (ls1 := [some (.ref 0), some (.int (v))]) (st1 := [.int (-1)]) rfl ?_
    exact Wp.reti rfl rfl (hQ.1 c1)
  · refine Wp.seg 2 (pc1 := 7) (ls1 := [some (.ref 0), some (.int (v))]) (st1 := [.int (4), .int (v)]) rfl ?_
    refine Wp.if2 rfl (fun (c2 : v ≤ (4 : Int32)) => ?_) (fun (c2 : ¬ (v ≤ (4 : Int32))) => ?_)
    · exact ((hQ.2 c1).1 c2)
    · refine Wp.seg 1 (pc1 := 11) (ls1 := [some (.ref 0), some (.int (v))]) (st1 := [.int (-1)]) rfl ?_
      exact Wp.reti rfl rfl ((hQ.2 c1).2 c2)
theorem c_game {d : Nat} {h : KH} (hw : WF h) {A : Nat → Int32} {RL : List Rul} {n c dn en : Nat} (hk : cityOK h 1 A RL n c dn en) (hd : 10 ≤ d) {v : Int32} : Cl d 129 [.ref 0, .int v] h (qu (gameS RL n dn en A v) h) := by
  unfold gameS plN
  refine t_cga hd ⟨fun c1 => ?_, fun c1 => ⟨fun c2 => ?_, fun c2 => ?_⟩⟩
  · have k1 := (zlt (rfl : v.toInt = v.toInt) (show (1 : Int32).toInt = 1 from rfl)).mp c1
    rw [inB_f (by omega), if_neg (by decide)]
    exact qu_i (Quiet.refl h)
  · have k1 := mt (zlt (rfl : v.toInt = v.toInt) (show (1 : Int32).toInt = 1 from rfl)).mpr c1
    have k2 := (zle (rfl : v.toInt = v.toInt) (show (4 : Int32).toInt = 4 from rfl)).mp c2
    have q : inB v 1 4 = true := inB_t (by omega)
    rw [if_pos q]
    obtain ⟨m, hm1, hm, rfl⟩ := inB_natL (a := 1) (b := 4) q
    rw [clamp_ofNat (by omega)]
    · exact t_cgaB hw hk hm hd (fun k f g => qu_i (quiet_e f))
  · have k2 := mt (zle (rfl : v.toInt = v.toInt) (show (4 : Int32).toInt = 4 from rfl)).mpr c2
    rw [inB_f (by omega), if_neg (by decide)]
    exact qu_i (Quiet.refl h)
theorem c_play {d : Nat} {h : KH} (hw : WF h) {A : Nat → Int32} {RL : List Rul} {n c dn en : Nat} (hk : cityOK h 1 A RL n c dn en) (hd : 10 ≤ d) {v : Int32} : Cl d 130 [.ref 0, .int v] h (qu (playS RL n dn en A v) h) := by
  unfold playS plN
  refine t_cpl hd ⟨fun c1 => ?_, fun c1 => ⟨fun c2 => ?_, fun c2 => ?_⟩⟩
  · have k1 := (zlt (rfl : v.toInt = v.toInt) (show (1 : Int32).toInt = 1 from rfl)).mp c1
    rw [inB_f (by omega), if_neg (by decide)]
    exact qu_i (Quiet.refl h)
  · have k1 := mt (zlt (rfl : v.toInt = v.toInt) (show (1 : Int32).toInt = 1 from rfl)).mpr c1
    have k2 := (zle (rfl : v.toInt = v.toInt) (show (4 : Int32).toInt = 4 from rfl)).mp c2
    have q : inB v 1 4 = true := inB_t (by omega)
    rw [if_pos q]
    obtain ⟨m, hm1, hm, rfl⟩ := inB_natL (a := 1) (b := 4) q
    rw [clamp_ofNat (by omega)]
    · by_cases hlt : dn < en
      · rw [if_pos hlt]
        exact t_cplB hw hk hm hlt (by omega) hd (fun k f g => qu_i (quiet_e f))
      · rw [if_neg hlt]
        exact t_cplO hw hk hlt hd (qu_i (Quiet.refl h))
  · have k2 := mt (zle (rfl : v.toInt = v.toInt) (show (4 : Int32).toInt = 4 from rfl)).mpr c2
    rw [inB_f (by omega), if_neg (by decide)]
    exact qu_i (Quiet.refl h)
