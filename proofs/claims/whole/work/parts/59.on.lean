/-! KM: both sides: dusks that come, on() -/
theorem cA1 : cityA 1 := by unfold cityA; decide
theorem cA4 : cityA 4 := by unfold cityA; decide
theorem cA7 : cityA 7 := by unfold cityA; decide
theorem cA14 : cityA 14 := by unfold cityA; decide
theorem cA17 : cityA 17 := by unfold cityA; decide
theorem cA20 : cityA 20 := by unfold cityA; decide
theorem cA23 : cityA 23 := by unfold cityA; decide
theorem cA26 : cityA 26 := by unfold cityA; decide
theorem q7 (c : Nat) (h : pC 7 c) : pQ c ∧ c < 59 := by unfold pC at h; unfold pQ; omega
theorem r7 (c : Nat) (h : c = 7) : rQ c := by unfold rQ; omega
theorem rNo (c : Nat) (h : noP c) : rQ c := absurd h (fun y => y)
theorem Q7 {h k : KH} (f : Fr (pC 7) noP h k) : Quiet h k := quiet_c f q7 rNo
theorem Q7r {h k : KH} (f : Fr (pC 7) (fun c => c = 7) h k) : Quiet h k := quiet_c f q7 r7
theorem QM {h k : KH} (f : Fr pM noP h k) (e : k.2.2.1 60 = h.2.2.1 60) : Quiet h k := quiet_m (FrM f) e
/-- the cells that are shut now -/
def shA (c : Nat) (A : Nat → Int32) : Int32 := shutS (Int32.ofNat c) (A 3)
theorem s_shutC {d : Nat} {Q : KO → Prop} {h : KH} (hw : WF h) {a n c dn en : Nat} {A : Nat → Int32} {RL : List Rul} (ha : cityA a) (hk : cityOK h a A RL n c dn en) (hd : 2 ≤ d) (hQ : Q (some (.int (shA c A)), h)) : Cl d 21 [.ref a] h Q :=
  s_cshutCells hw ha hd hk.2.1.2.2.1 hk.2.1.2.2.2.1 (l := A 3) (congrFun hk.1 3) hQ
theorem r_shut {d : Nat} {Q : KO → Prop} {h : KH} (hw : WF h) {n c dn en : Nat} {A : Nat → Int32} {RL : List Rul} (hk : refOK h A RL n c dn en) (hd : 3 ≤ d) (hQ : Q (some (.int (shA c A)), h)) : Cl d 186 [.ref 59] h Q := by
  have e2 := hk.2.1.2.2.2.1
  have e3 : h.2.2.1 60 3 = A 3 := congrFun hk.1 3
  refine s_shutNow hw (by rw [e2]; exact fixS_all hk.2.1.2.2.1 _) hd ?_
  unfold f_shutNow
  rw [e2, e3]
  exact hQ
/-- both cities are others, all else is as it was -/
def pU : Nat → Prop := fun c => pQ c ∨ c = 1 ∨ c = 2
def Mild (h k : KH) : Prop := Fr pU rQ h k ∧ keepS (k.2.2.1 60) (h.2.2.1 60) ∧ (∀ i, (i = 3 ∨ i = 5 ∨ i = 20 ∨ i = 29) → k.2.2.1 59 i = h.2.2.1 59 i)
theorem Mild.trans {h k l : KH} (f : Mild h k) (g : Mild k l) : Mild h l := ⟨f.1.trans g.1, g.2.1.trans f.2.1, fun i hi => (g.2.2 i hi).trans (f.2.2 i hi)⟩
theorem Quiet.mild {h k : KH} (f : Quiet h k) : Mild h k := ⟨f.1.mono (fun c z => Or.inl z) (fun _ z => z), fun m _ => by rw [f.2.1], f.2.2⟩
theorem Mild.wf {h k : KH} (f : Mild h k) (hw : WF h) : WF k := f.1.wf hw (by unfold rQ; omega)
theorem mild_c {h k : KH} (f : Fr (pC 1) noP h k) : Mild h k := ⟨f.mono (fun c z => by unfold pC at z; unfold pU pQ; omega) (fun _ z => absurd z (fun y => y)), fun m _ => by rw [f.2.2.1 60 (Or.inl (by unfold pC; omega))], fun i _ => by rw [f.2.2.1 59 (Or.inl (by unfold pC; omega))]⟩
theorem mild_m {h k : KH} (f : Fr pM noP h k) (e : keepS (k.2.2.1 60) (h.2.2.1 60)) : Mild h k := ⟨f.mono (fun c z => by unfold pM at z; unfold pU pQ; omega) (fun _ z => absurd z (fun y => y)), e, fun i _ => by rw [f.2.2.1 59 (Or.inl (by unfold pM; decide))]⟩
/-- an answer, and the class's city is other -/
def mc (a : Int32) (A : Nat → Int32) (RL : List Rul) (n c dn en : Nat) (h : KH) : KO → Prop := fun o => ∃ k, o = (some (.int a), k) ∧ Mild h k ∧ cityOK k 1 A RL n c dn en ∧ k.2.2.1 60 = h.2.2.1 60
def mm (a : Int32) (A : Nat → Int32) (RL : List Rul) (n c dn en : Nat) (h : KH) : KO → Prop := fun o => ∃ k, o = (some (.int a), k) ∧ Mild h k ∧ refOK k A RL n c dn en ∧ (∀ b, b ≤ 58 → k.2.2.1 b = h.2.2.1 b)
set_option maxHeartbeats 4000000 in
theorem t_cdusk0 {d : Nat} {Q : KO → Prop} {h : KH} (hw : WF h) {A : Nat → Int32} {RL : List Rul} {n c dn en : Nat} (hk : cityOK h 1 A RL n c dn en) (hlt : dn < en) (hd : 6 ≤ d) (hQ : ∀ k, Fr (pC 1) noP h k → cityOK k 1 (goA RL A (turnT n dn)) RL n c (dn + 1) en → (Q (some (.int (wA RL A (turnT n dn))), k))) : Cl d 111 [.ref 0] h Q := by
  refine Cl.of (ls := [some (.ref 0)]) rfl rfl ?_
  refine Wp.seg 1 (pc1 := 1) (ls1 := [some (.ref 0)]) (st1 := [.ref 0]) rfl ?_
  refine Wp.gr (t := (10, 0)) (v := some (1)) rfl (WF.t hw 0 rfl) rfl (WF.r hw 0 0 0 rfl) ?_
  show Wp d 111 4 [some (.ref 0)] [.ref 1] h Q
  refine Wp.invV (d2 := 0) (as := [.ref 1]) (r := []) (t := (1, 0)) rfl rfl rfl rfl (WF.t hw 1 rfl) rfl rfl ⟨rfl, rfl⟩ (by omega) (s_over0 hw cA1 hk hlt ?_)
  show Wp d 111 7 [some (.ref 0)] [.int (0)] h Q
  refine Wp.if1 rfl (fun c1 => ?_) (fun c1 => absurd (show (0 : Int32) = 0 by decide) c1)
  refine Wp.seg 1 (pc1 := 16) (ls1 := [some (.ref 0)]) (st1 := [.ref 0]) rfl ?_
  refine Wp.gr (t := (10, 0)) (v := some (1)) rfl (WF.t hw 0 rfl) rfl (WF.r hw 0 0 0 rfl) ?_
  show Wp d 111 19 [some (.ref 0)] [.ref 1] h Q
  refine Wp.seg 1 (pc1 := 20) (ls1 := [some (.ref 0)]) (st1 := [.ref 0, .ref 1]) rfl ?_
  refine Wp.gr (t := (10, 0)) (v := some (1)) rfl (WF.t hw 0 rfl) rfl (WF.r hw 0 0 0 rfl) ?_
  show Wp d 111 23 [some (.ref 0)] [.ref 1, .ref 1] h Q
  refine Wp.invV (d2 := 0) (as := [.ref 1]) (r := [.ref 1]) (t := (1, 0)) rfl rfl rfl rfl (WF.t hw 1 rfl) rfl rfl ⟨rfl, rfl⟩ (by omega) (s_byTurns hw cA1 hk ?_)
  show Wp d 111 26 [some (.ref 0)] [.int (turnT n dn), .ref 1] h Q
  refine Wp.invV (d2 := 4) (as := [.ref 1, .int (turnT n dn)]) (r := []) (t := (1, 0)) rfl rfl rfl rfl (WF.t hw 1 rfl) rfl rfl ⟨rfl, rfl⟩ (by omega) (s_cpassF hw cA1 hk hlt (turn_okT n dn) (Nat.le_refl _) ?_)
  intro k f g
  show Wp d 111 29 [some (.ref 0)] [.int (wA RL A (turnT n dn))] k Q
  exact Wp.reti rfl rfl (hQ k f g)
set_option maxHeartbeats 4000000 in
theorem t_cdusk1 {d : Nat} {Q : KO → Prop} {h : KH} (hw : WF h) {A : Nat → Int32} {RL : List Rul} {n c dn en : Nat} (hk : cityOK h 1 A RL n c dn en) (hlt : ¬ dn < en) (hd : 1 ≤ d) (hQ : Q (some (.int (-4)), h)) : Cl d 111 [.ref 0] h Q := by
  refine Cl.of (ls := [some (.ref 0)]) rfl rfl ?_
  refine Wp.seg 1 (pc1 := 1) (ls1 := [some (.ref 0)]) (st1 := [.ref 0]) rfl ?_
  refine Wp.gr (t := (10, 0)) (v := some (1)) rfl (WF.t hw 0 rfl) rfl (WF.r hw 0 0 0 rfl) ?_
  show Wp d 111 4 [some (.ref 0)] [.ref 1] h Q
  refine Wp.invV (d2 := 0) (as := [.ref 1]) (r := []) (t := (1, 0)) rfl rfl rfl rfl (WF.t hw 1 rfl) rfl rfl ⟨rfl, rfl⟩ (by omega) (s_over1 hw cA1 hk hlt ?_)
  show Wp d 111 7 [some (.ref 0)] [.int (1)] h Q
  refine Wp.if1 rfl (fun c1 => absurd c1 (show ¬ ((1 : Int32) = 0) by decide)) (fun c1 => ?_)
  refine Wp.seg 2 (pc1 := 29) (ls1 := [some (.ref 0)]) (st1 := [.int (-4)]) rfl ?_
  exact Wp.reti rfl rfl hQ
set_option maxHeartbeats 4000000 in
theorem t_clot0 {d : Nat} {Q : KO → Prop} {h : KH} (hw : WF h) {A : Nat → Int32} {RL : List Rul} {n c dn en : Nat} (hk : cityOK h 1 A RL n c dn en) (hlt : dn < en) (hd : 6 ≤ d) (hQ : ∀ k, Fr (pC 1) noP h k → cityOK k 1 (lotA RL n A) RL n c (dn + 1) en → (Q (some (.int (lotW RL n A)), k))) : Cl d 140 [.ref 0] h Q := by
  refine Cl.of (ls := [some (.ref 0)]) rfl rfl ?_
  refine Wp.seg 1 (pc1 := 1) (ls1 := [some (.ref 0)]) (st1 := [.ref 0]) rfl ?_
  refine Wp.gr (t := (10, 0)) (v := some (1)) rfl (WF.t hw 0 rfl) rfl (WF.r hw 0 0 0 rfl) ?_
  show Wp d 140 4 [some (.ref 0)] [.ref 1] h Q
  refine Wp.invV (d2 := 0) (as := [.ref 1]) (r := []) (t := (1, 0)) rfl rfl rfl rfl (WF.t hw 1 rfl) rfl rfl ⟨rfl, rfl⟩ (by omega) (s_over0 hw cA1 hk hlt ?_)
  show Wp d 140 7 [some (.ref 0)] [.int (0)] h Q
  refine Wp.if1 rfl (fun c1 => ?_) (fun c1 => absurd (show (0 : Int32) = 0 by decide) c1)
  refine Wp.seg 1 (pc1 := 16) (ls1 := [some (.ref 0)]) (st1 := [.ref 0]) rfl ?_
  refine Wp.gr (t := (10, 0)) (v := some (1)) rfl (WF.t hw 0 rfl) rfl (WF.r hw 0 0 0 rfl) ?_
  show Wp d 140 19 [some (.ref 0)] [.ref 1] h Q
  refine Wp.invV (d2 := 5) (as := [.ref 1]) (r := []) (t := (1, 0)) rfl rfl rfl rfl (WF.t hw 1 rfl) rfl rfl ⟨rfl, rfl⟩ (by omega) (s_byLot hw cA1 hk hlt (Nat.le_refl _) ?_)
  intro k f g
  show Wp d 140 22 [some (.ref 0)] [.int (lotW RL n A)] k Q
  exact Wp.reti rfl rfl (hQ k f g)
set_option maxHeartbeats 4000000 in
theorem t_clot1 {d : Nat} {Q : KO → Prop} {h : KH} (hw : WF h) {A : Nat → Int32} {RL : List Rul} {n c dn en : Nat} (hk : cityOK h 1 A RL n c dn en) (hlt : ¬ dn < en) (hd : 1 ≤ d) (hQ : Q (some (.int (-4)), h)) : Cl d 140 [.ref 0] h Q := by
  refine Cl.of (ls := [some (.ref 0)]) rfl rfl ?_
  refine Wp.seg 1 (pc1 := 1) (ls1 := [some (.ref 0)]) (st1 := [.ref 0]) rfl ?_
  refine Wp.gr (t := (10, 0)) (v := some (1)) rfl (WF.t hw 0 rfl) rfl (WF.r hw 0 0 0 rfl) ?_
  show Wp d 140 4 [some (.ref 0)] [.ref 1] h Q
  refine Wp.invV (d2 := 0) (as := [.ref 1]) (r := []) (t := (1, 0)) rfl rfl rfl rfl (WF.t hw 1 rfl) rfl rfl ⟨rfl, rfl⟩ (by omega) (s_over1 hw cA1 hk hlt ?_)
  show Wp d 140 7 [some (.ref 0)] [.int (1)] h Q
  refine Wp.if1 rfl (fun c1 => absurd c1 (show ¬ ((1 : Int32) = 0) by decide)) (fun c1 => ?_)
  refine Wp.seg 2 (pc1 := 22) (ls1 := [some (.ref 0)]) (st1 := [.int (-4)]) rfl ?_
  exact Wp.reti rfl rfl hQ
set_option maxHeartbeats 4000000 in
theorem t_mdusk0 {d : Nat} {Q : KO → Prop} {h : KH} (hw : WF h) {A : Nat → Int32} {RL : List Rul} {n c dn en : Nat} (hk : refOK h A RL n c dn en) (hlt : dn < en) (hd : 7 ≤ d) (hQ : ∀ k, Fr pM noP h k → refOK k (goA RL A (turnT n dn)) RL n c (dn + 1) en → keepS (k.2.2.1 60) (h.2.2.1 60) → (Q (some (.int (wA RL A (turnT n dn))), k))) : Cl d 224 [.ref 59] h Q := by
  refine Cl.of (ls := [some (.ref 59)]) rfl rfl ?_
  refine Wp.seg 1 (pc1 := 1) (ls1 := [some (.ref 59)]) (st1 := [.ref 59]) rfl ?_
  refine Wp.invV (d2 := 0) (as := [.ref 59]) (r := []) (t := (11, 0)) rfl rfl rfl rfl (WF.t hw 59 rfl) rfl rfl ⟨rfl, rfl⟩ (by omega) (r_over0 hw hk hlt ?_)
  show Wp d 224 4 [some (.ref 59)] [.int (0)] h Q
  refine Wp.if1 rfl (fun c1 => ?_) (fun c1 => absurd (show (0 : Int32) = 0 by decide) c1)
  refine Wp.seg 1 (pc1 := 13) (ls1 := [some (.ref 59)]) (st1 := [.ref 59]) rfl ?_
  refine Wp.invV (d2 := 6) (as := [.ref 59]) (r := []) (t := (11, 0)) rfl rfl rfl rfl (WF.t hw 59 rfl) rfl rfl ⟨rfl, rfl⟩ (by omega) (r_byTurns hw hk hlt (Nat.le_refl _) ?_)
  intro k f g e
  show Wp d 224 16 [some (.ref 59)] [.int (wA RL A (turnT n dn))] k Q
  exact Wp.reti rfl rfl (hQ k f g e)
set_option maxHeartbeats 4000000 in
theorem t_mdusk1 {d : Nat} {Q : KO → Prop} {h : KH} (hw : WF h) {A : Nat → Int32} {RL : List Rul} {n c dn en : Nat} (hk : refOK h A RL n c dn en) (hlt : ¬ dn < en) (hd : 1 ≤ d) (hQ : Q (some (.int (-4)), h)) : Cl d 224 [.ref 59] h Q := by
  refine Cl.of (ls := [some (.ref 59)]) rfl rfl ?_
  refine Wp.seg 1 (pc1 := 1) (ls1 := [some (.ref 59)]) (st1 := [.ref 59]) rfl ?_
  refine Wp.invV (d2 := 0) (as := [.ref 59]) (r := []) (t := (11, 0)) rfl rfl rfl rfl (WF.t hw 59 rfl) rfl rfl ⟨rfl, rfl⟩ (by omega) (r_over1 hw hk hlt ?_)
  show Wp d 224 4 [some (.ref 59)] [.int (1)] h Q
  refine Wp.if1 rfl (fun c1 => absurd c1 (show ¬ ((1 : Int32) = 0) by decide)) (fun c1 => ?_)
  refine Wp.seg 2 (pc1 := 16) (ls1 := [some (.ref 59)]) (st1 := [.int (-4)]) rfl ?_
  exact Wp.reti rfl rfl hQ
set_option maxHeartbeats 4000000 in
theorem t_mlot0 {d : Nat} {Q : KO → Prop} {h : KH} (hw : WF h) {A : Nat → Int32} {RL : List Rul} {n c dn en : Nat} (hk : refOK h A RL n c dn en) (hlt : dn < en) (hd : 7 ≤ d) (hQ : ∀ k, Fr pM noP h k → refOK k (lotA RL n A) RL n c (dn + 1) en → keepS (k.2.2.1 60) (h.2.2.1 60) → (Q (some (.int (lotW RL n A)), k))) : Cl d 257 [.ref 59] h Q := by
  refine Cl.of (ls := [some (.ref 59)]) rfl rfl ?_
  refine Wp.seg 1 (pc1 := 1) (ls1 := [some (.ref 59)]) (st1 := [.ref 59]) rfl ?_
  refine Wp.invV (d2 := 0) (as := [.ref 59]) (r := []) (t := (11, 0)) rfl rfl rfl rfl (WF.t hw 59 rfl) rfl rfl ⟨rfl, rfl⟩ (by omega) (r_over0 hw hk hlt ?_)
  show Wp d 257 4 [some (.ref 59)] [.int (0)] h Q
  refine Wp.if1 rfl (fun c1 => ?_) (fun c1 => absurd (show (0 : Int32) = 0 by decide) c1)
  refine Wp.seg 1 (pc1 := 13) (ls1 := [some (.ref 59)]) (st1 := [.ref 59]) rfl ?_
  refine Wp.invV (d2 := 6) (as := [.ref 59]) (r := []) (t := (11, 0)) rfl rfl rfl rfl (WF.t hw 59 rfl) rfl rfl ⟨rfl, rfl⟩ (by omega) (r_byLot hw hk hlt (Nat.le_refl _) ?_)
  intro k f g e
  show Wp d 257 16 [some (.ref 59)] [.int (lotW RL n A)] k Q
  exact Wp.reti rfl rfl (hQ k f g e)
set_option maxHeartbeats 4000000 in
theorem t_mlot1 {d : Nat} {Q : KO → Prop} {h : KH} (hw : WF h) {A : Nat → Int32} {RL : List Rul} {n c dn en : Nat} (hk : refOK h A RL n c dn en) (hlt : ¬ dn < en) (hd : 1 ≤ d) (hQ : Q (some (.int (-4)), h)) : Cl d 257 [.ref 59] h Q := by
  refine Cl.of (ls := [some (.ref 59)]) rfl rfl ?_
  refine Wp.seg 1 (pc1 := 1) (ls1 := [some (.ref 59)]) (st1 := [.ref 59]) rfl ?_
  refine Wp.invV (d2 := 0) (as := [.ref 59]) (r := []) (t := (11, 0)) rfl rfl rfl rfl (WF.t hw 59 rfl) rfl rfl ⟨rfl, rfl⟩ (by omega) (r_over1 hw hk hlt ?_)
  show Wp d 257 4 [some (.ref 59)] [.int (1)] h Q
  refine Wp.if1 rfl (fun c1 => absurd c1 (show ¬ ((1 : Int32) = 0) by decide)) (fun c1 => ?_)
  refine Wp.seg 2 (pc1 := 16) (ls1 := [some (.ref 59)]) (st1 := [.int (-4)]) rfl ?_
  exact Wp.reti rfl rfl hQ
theorem c_dusk {d : Nat} {h : KH} (hw : WF h) {A : Nat → Int32} {RL : List Rul} {n c dn en : Nat} (hk : cityOK h 1 A RL n c dn en) (hd : 6 ≤ d) : Cl d 111 [.ref 0] h (mc (if dn < en then wA RL A (turnT n dn) else -4) (if dn < en then goA RL A (turnT n dn) else A) RL n c (if dn < en then dn + 1 else dn) en h) := by
  by_cases q : dn < en
  · simp only [if_pos q]
    exact t_cdusk0 hw hk q hd (fun k f g => ⟨k, rfl, mild_c f, g, f.2.2.1 60 (Or.inl (by unfold pC; omega))⟩)
  · simp only [if_neg q]
    exact t_cdusk1 hw hk q (by omega) ⟨h, rfl, (Quiet.refl h).mild, hk, rfl⟩
theorem m_dusk {d : Nat} {h : KH} (hw : WF h) {A : Nat → Int32} {RL : List Rul} {n c dn en : Nat} (hk : refOK h A RL n c dn en) (hd : 7 ≤ d) : Cl d 224 [.ref 59] h (mm (if dn < en then wA RL A (turnT n dn) else -4) (if dn < en then goA RL A (turnT n dn) else A) RL n c (if dn < en then dn + 1 else dn) en h) := by
  by_cases q : dn < en
  · simp only [if_pos q]
    exact t_mdusk0 hw hk q hd (fun k f g e => ⟨k, rfl, mild_m f e, g, fun b hb => f.2.2.1 b (Or.inl (by unfold pM; omega))⟩)
  · simp only [if_neg q]
    exact t_mdusk1 hw hk q (by omega) ⟨h, rfl, (Quiet.refl h).mild, hk, fun _ _ => rfl⟩
theorem c_lot {d : Nat} {h : KH} (hw : WF h) {A : Nat → Int32} {RL : List Rul} {n c dn en : Nat} (hk : cityOK h 1 A RL n c dn en) (hd : 6 ≤ d) : Cl d 140 [.ref 0] h (mc (if dn < en then lotW RL n A else -4) (if dn < en then lotA RL n A else A) RL n c (if dn < en then dn + 1 else dn) en h) := by
  by_cases q : dn < en
  · simp only [if_pos q]
    exact t_clot0 hw hk q hd (fun k f g => ⟨k, rfl, mild_c f, g, f.2.2.1 60 (Or.inl (by unfold pC; omega))⟩)
  · simp only [if_neg q]
    exact t_clot1 hw hk q (by omega) ⟨h, rfl, (Quiet.refl h).mild, hk, rfl⟩
theorem m_lot {d : Nat} {h : KH} (hw : WF h) {A : Nat → Int32} {RL : List Rul} {n c dn en : Nat} (hk : refOK h A RL n c dn en) (hd : 7 ≤ d) : Cl d 257 [.ref 59] h (mm (if dn < en then lotW RL n A else -4) (if dn < en then lotA RL n A else A) RL n c (if dn < en then dn + 1 else dn) en h) := by
  by_cases q : dn < en
  · simp only [if_pos q]
    exact t_mlot0 hw hk q hd (fun k f g e => ⟨k, rfl, mild_m f e, g, fun b hb => f.2.2.1 b (Or.inl (by unfold pM; omega))⟩)
  · simp only [if_neg q]
    exact t_mlot1 hw hk q (by omega) ⟨h, rfl, (Quiet.refl h).mild, hk, fun _ _ => rfl⟩
set_option maxHeartbeats 4000000 in
theorem t_conB {d : Nat} {Q : KO → Prop} {h : KH} (hw : WF h) {A : Nat → Int32} {RL : List Rul} {n c dn en : Nat} (hk : cityOK h 1 A RL n c dn en) {m : Nat} (hm : m ≤ 16) (hd : 6 ≤ d) (hQ : ∀ k, Fr (pC 7) (fun c => c = 7) h k → nrm (cS k.2.2.1 7) = nrm (cS h.2.2.1 1) → k.2.1 7 10 = h.2.1 1 10 → k.2.1 7 11 = h.2.1 1 11 → (∀ k2, Fr (pC 7) noP k k2 → cityOK k2 7 (restA RL n en m dn A 0).2.1 RL n c (restA RL n en m dn A 0).2.2 en → (Q (some (.int ((restA RL n en m dn A 0).1)), k2)))) : Wp d 112 12 [some (.ref 0), some (.int (Int32.ofNat m))] [] h Q := by
  refine Wp.seg 1 (pc1 := 13) (ls1 := [some (.ref 0), some (.int (Int32.ofNat m))]) (st1 := [.ref 0]) rfl ?_
  refine Wp.gr (t := (10, 0)) (v := some (7)) rfl (WF.t hw 0 rfl) rfl (WF.r hw 0 2 2 rfl) ?_
  show Wp d 112 16 [some (.ref 0), some (.int (Int32.ofNat m))] [.ref 7] h Q
  refine Wp.seg 1 (pc1 := 17) (ls1 := [some (.ref 0), some (.int (Int32.ofNat m))]) (st1 := [.ref 0, .ref 7]) rfl ?_
  refine Wp.gr (t := (10, 0)) (v := some (1)) rfl (WF.t hw 0 rfl) rfl (WF.r hw 0 0 0 rfl) ?_
  show Wp d 112 20 [some (.ref 0), some (.int (Int32.ofNat m))] [.ref 1, .ref 7] h Q
  refine Wp.invV (d2 := 1) (as := [.ref 7, .ref 1]) (r := []) (t := (1, 0)) rfl rfl rfl rfl (WF.t hw 7 rfl) rfl rfl ⟨rfl, rfl⟩ (by omega) (s_copy (h := h) hw cA7 cA1 (by decide) (Nat.le_refl _) ?_)
  intro k f e1 e2 e3
  show Wp d 112 23 [some (.ref 0), some (.int (Int32.ofNat m))] [] k Q
  refine Wp.seg 1 (pc1 := 24) (ls1 := [some (.ref 0), some (.int (Int32.ofNat m))]) (st1 := [.ref 0]) rfl ?_
  refine Wp.gr (t := (10, 0)) (v := some (7)) rfl (WF.t (f.wf hw (fun z => absurd z (by decide))) 0 rfl) rfl (WF.r (f.wf hw (fun z => absurd z (by decide))) 0 2 2 rfl) ?_
  show Wp d 112 27 [some (.ref 0), some (.int (Int32.ofNat m))] [.ref 7] k Q
  refine Wp.seg 1 (pc1 := 28) (ls1 := [some (.ref 0), some (.int (Int32.ofNat m))]) (st1 := [.int (Int32.ofNat m), .ref 7]) rfl ?_
  refine Wp.invV (d2 := 5) (as := [.ref 7, .int (Int32.ofNat m)]) (r := []) (t := (1, 0)) rfl rfl rfl rfl (WF.t (f.wf hw (fun z => absurd z (by decide))) 7 rfl) rfl rfl ⟨rfl, rfl⟩ (by omega) (s_passOn (h := k) (f.wf hw (fun z => absurd z (by decide))) cA7 (copy_ok hk f e1 e2) hm (Nat.le_refl _) ?_)
  intro k2 f2 g2
  show Wp d 112 31 [some (.ref 0), some (.int (Int32.ofNat m))] [.int ((restA RL n en m dn A 0).1)] k2 Q
  exact Wp.reti rfl rfl ((hQ k f e1 e2 e3) k2 f2 g2)
set_option maxHeartbeats 4000000 in
theorem t_con {d : Nat} {Q : KO → Prop} {h : KH} {v : Int32} (hd : 6 ≤ d) (hQ : (v < 0 → Q (some (.int (-1)), h)) ∧ (¬ (v < 0) → (v ≤ (16 : Int32) → Wp d 112 12 ([some (.ref 0), some (.int (v))]) [] h Q) ∧ (¬ (v ≤ (16 : Int32)) → Q (some (.int (-1)), h)))) : Cl d 112 [.ref 0, .int (v)] h Q := by
  refine Cl.of (ls := [some (.ref 0), some (.int (v))]) rfl rfl ?_
  refine Wp.seg 1 (pc1 := 1) (ls1 := [some (.ref 0), some (.int (v))]) (st1 := [.int (v)]) rfl ?_
  refine Wp.if1 rfl (fun (c1 : v < 0) => ?_) (fun (c1 : ¬ (v < 0)) => ?_)
  · refine Wp.seg 1 (pc1 := 11) (ls1 := [some (.ref 0), some (.int (v))]) (st1 := [.int (-1)]) rfl ?_
    exact Wp.reti rfl rfl (hQ.1 c1)
  · refine Wp.seg 2 (pc1 := 7) (ls1 := [some (.ref 0), some (.int (v))]) (st1 := [.int (16), .int (v)]) rfl ?_
    refine Wp.if2 rfl (fun (c2 : v ≤ (16 : Int32)) => ?_) (fun (c2 : ¬ (v ≤ (16 : Int32))) => ?_)
    · exact ((hQ.2 c1).1 c2)
    · refine Wp.seg 1 (pc1 := 11) (ls1 := [some (.ref 0), some (.int (v))]) (st1 := [.int (-1)]) rfl ?_
      exact Wp.reti rfl rfl ((hQ.2 c1).2 c2)
set_option maxHeartbeats 4000000 in
theorem t_monB {d : Nat} {Q : KO → Prop} {h : KH} (hw : WF h) {A : Nat → Int32} {RL : List Rul} {n c dn en : Nat} (hk : refOK h A RL n c dn en) {m : Nat} (hm : m ≤ 16) (hd : 8 ≤ d) (hQ : ∀ k, Fr (fun c => c = 62) noP h k → refTh k (h.2.2.1 60) A RL n c dn en → (∀ k2, Fr pM noP k k2 → k2.2.2.1 60 = h.2.2.1 60 → (Q (some (.int ((restA RL n en m dn A 0).1)), k2)))) : Wp d 226 12 [some (.ref 59), some (.int (Int32.ofNat m))] [] h Q := by
  refine Wp.seg 1 (pc1 := 13) (ls1 := [some (.ref 59), some (.int (Int32.ofNat m))]) (st1 := [.ref 59]) rfl ?_
  refine Wp.invV (d2 := 1) (as := [.ref 59]) (r := []) (t := (11, 0)) rfl rfl rfl rfl (WF.t hw 59 rfl) rfl rfl ⟨rfl, rfl⟩ (by omega) (r_thinks hw hk (Nat.le_refl _) ?_)
  intro k f g
  show Wp d 226 16 [some (.ref 59), some (.int (Int32.ofNat m))] [] k Q
  refine Wp.seg 2 (pc1 := 18) (ls1 := [some (.ref 59), some (.int (Int32.ofNat m))]) (st1 := [.int (Int32.ofNat m), .ref 59]) rfl ?_
  refine Wp.invV (d2 := 7) (as := [.ref 59, .int (Int32.ofNat m)]) (r := []) (t := (11, 0)) rfl rfl rfl rfl (WF.t (f.wf hw (fun z => z)) 59 rfl) rfl rfl ⟨rfl, rfl⟩ (by omega) (r_rest (h := k) (f.wf hw (fun z => z)) g hm (Nat.le_refl _) ?_)
  intro k2 f2 e2
  show Wp d 226 21 [some (.ref 59), some (.int (Int32.ofNat m))] [.int ((restA RL n en m dn A 0).1)] k2 Q
  exact Wp.reti rfl rfl ((hQ k f g) k2 f2 e2)
set_option maxHeartbeats 4000000 in
theorem t_mon {d : Nat} {Q : KO → Prop} {h : KH} {v : Int32} (hd : 8 ≤ d) (hQ : ((inB v 0 16) = true → Wp d 226 12 ([some (.ref 59), some (.int (v))]) [] h Q) ∧ ((inB v 0 16) = false → Q (some (.int (-1)), h))) : Cl d 226 [.ref 59, .int (v)] h Q := by
  refine Cl.of (ls := [some (.ref 59), some (.int (v))]) rfl rfl ?_
  refine Wp.seg 3 (pc1 := 4) (ls1 := [some (.ref 59), some (.int (v))]) (st1 := [.int (16), .int (0), .int (v)]) rfl ?_
  refine Wp.inv (d2 := 0) (as := [.int (v), .int (0), .int (16)]) (r := []) rfl rfl rfl rfl rfl rfl (by omega) (s_inB (x := 0) (y := 16) rfl rfl ?_)
  show Wp d 226 7 [some (.ref 59), some (.int (v))] [.int (b32 (inB v 0 16))] h Q
  refine Wp.ifnz rfl (fun (c1 : (inB v 0 16) = true) => ?_) (fun (c1 : (inB v 0 16) = false) => ?_)
  · exact (hQ.1 c1)
  · refine Wp.seg 1 (pc1 := 11) (ls1 := [some (.ref 59), some (.int (v))]) (st1 := [.int (-1)]) rfl ?_
    exact Wp.reti rfl rfl (hQ.2 c1)
def onS (RL : List Rul) (n dn en : Nat) (A : Nat → Int32) (v : Int32) : Int32 := if inB v 0 16 = true then (restA RL n en v.toNatClampNeg dn A 0).1 else -1
theorem c_on {d : Nat} {h : KH} (hw : WF h) {A : Nat → Int32} {RL : List Rul} {n c dn en : Nat} (hk : cityOK h 1 A RL n c dn en) (hd : 6 ≤ d) {v : Int32} : Cl d 112 [.ref 0, .int v] h (qu (onS RL n dn en A v) h) := by
  unfold onS
  by_cases q : inB v 0 16 = true
  · rw [if_pos q]
    obtain ⟨m, hm, rfl⟩ := inB_nat (b := 16) q
    rw [clamp_ofNat (by omega)]
    have B := t_conB (Q := qu (restA RL n en m dn A 0).1 h) hw hk hm hd (fun k f e1 e2 e3 k2 f2 g2 => qu_i ((Q7r f).trans (Q7 f2)))
    exact t_con hd ⟨fun c1 => absurd c1 (fun c1 => by have := (zlt (n := 0) (znat (n := m) (by omega)) rfl).mp c1; omega), fun c1 => ⟨fun c2 => B, fun c2 => absurd ((zle (n := 16) (znat (n := m) (by omega)) rfl).mpr (by omega)) c2⟩⟩
  · rw [if_neg q]
    have q2 := fun z => q (inB_t (v := v) (a := 0) (b := 16) z)
    refine t_con hd ⟨fun c1 => qu_i (Quiet.refl h), fun c1 => ⟨fun c2 => ?_, fun c2 => qu_i (Quiet.refl h)⟩⟩
    have k1 := mt (zlt (rfl : v.toInt = v.toInt) (show (0 : Int32).toInt = 0 from rfl)).mpr c1
    have k2 := (zle (rfl : v.toInt = v.toInt) (show (16 : Int32).toInt = 16 from rfl)).mp c2
    exact absurd ⟨by omega, k2⟩ q2
theorem m_on {d : Nat} {h : KH} (hw : WF h) {A : Nat → Int32} {RL : List Rul} {n c dn en : Nat} (hk : refOK h A RL n c dn en) (hd : 8 ≤ d) {v : Int32} : Cl d 226 [.ref 59, .int v] h (qu (onS RL n dn en A v) h) := by
  unfold onS
  refine t_mon hd ⟨fun q => ?_, fun q => ?_⟩
  · rw [if_pos q]
    obtain ⟨m, hm, rfl⟩ := inB_nat (b := 16) q
    rw [clamp_ofNat (by omega)]
    exact t_monB hw hk hm hd (fun k f g k2 f2 e2 => qu_i (quiet_m ((Fr62 f).trans (FrM f2)) e2))
  · rw [if_neg (by rw [q]; decide)]
    exact qu_i (Quiet.refl h)
