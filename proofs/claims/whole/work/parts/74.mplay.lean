/-! KM: the reference: game(), play() -/
theorem r_gameI {RL : List Rul} {n c en left d dn : Nat} {h : KH} {A : Nat → Int32} {b : Bool} {x y : Int32} {Q : KO → Prop} (hx : x = Int32.ofNat left) (hy : y = b32 b) (h4 : left ≤ 4) (hd : left + 7 ≤ d) (hw : WF h) (hk : refOK h A RL n c dn en)
    (hQ : ∀ k, Fr pG noP h k → k.2.2.1 60 = h.2.2.1 60 → Q (some (.int (gameV RL n (min left (en - dn)) b A)), k)) : Cl d 246 [.ref 59, .int x, .int y] h Q := by
  subst hx hy
  exact r_game left d h A dn b Q h4 hd hw hk (fun k f e _ => hQ k f e)
theorem quiet_g {h k : KH} (f : Fr (fun c => pG c ∨ c = 66) noP h k) (e : k.2.2.1 60 = h.2.2.1 60) : Quiet h k := ⟨f.mono (fun c z => by unfold pG at z; unfold pQ; omega) (fun c z => absurd z (fun y => y)), e, fun i _ => by rw [f.2.2.1 59 (Or.inl (by unfold pG; omega))]⟩
/-- the first of the best -/
theorem first_best {w : Nat → Int32} {n : Nat} : ∃ p, p ≤ n ∧ (foldN (gmF w true) (n + 1) 0 (0, 0)).1 = w p ∧ (foldN (gmF w true) (n + 1) 0 (0, 0)).2 = Int32.ofNat p ∧ ∀ a, a < p → ¬ w a = w p := by
  have h := foldN_ind (f := gmF w true) (P := fun q st => q = 0 ∨ ∃ p, p < q ∧ st.1 = w p ∧ st.2 = Int32.ofNat p ∧ (∀ a, a < p → w a < w p) ∧ (∀ a, a < q → w a ≤ w p)) (n + 1) 0 (0, 0) (Or.inl rfl) (fun q st _ hq hP => ?_)
  · rcases h with h | ⟨p, h1, h2, h3, h4, -⟩
    · omega
    · exact ⟨p, by omega, h2, h3, fun a ha e => absurd (h4 a ha) (by rw [e]; exact fun z => Int32.lt_irrefl z)⟩
  · refine Or.inr ?_
    unfold gmF
    by_cases z : q = 0 ∨ (if (true : Bool) = true then st.1 < w q else w q < st.1)
    · rw [if_pos z]
      refine ⟨q, by omega, rfl, rfl, fun a ha => ?_, fun a ha => ?_⟩
      · rcases hP with hP | ⟨p, h1, h2, h3, h4, h5⟩
        · omega
        · rcases z with z | z
          · omega
          · rw [if_pos rfl, h2] at z
            have h6 := (zle rfl rfl).mp (h5 a (by omega))
            have h7 := (zlt rfl rfl).mp z
            exact (zlt rfl rfl).mpr (by omega)
      · rcases hP with hP | ⟨p, h1, h2, h3, h4, h5⟩
        · have : a = q := by omega
          subst this
          exact Int32.le_refl _
        · rcases z with z | z
          · omega
          · by_cases e : a = q
            · subst e
              exact Int32.le_refl _
            · rw [if_pos rfl, h2] at z
              have h6 := (zle rfl rfl).mp (h5 a (by omega))
              have h7 := (zlt rfl rfl).mp z
              exact (zle rfl rfl).mpr (by omega)
    · rw [if_neg z]
      rcases hP with hP | ⟨p, h1, h2, h3, h4, h5⟩
      · exact absurd (Or.inl hP) z
      · refine ⟨p, by omega, h2, h3, h4, fun a ha => ?_⟩
        by_cases e : a = q
        · subst e
          have z2 : ¬ st.1 < w a := fun y => z (Or.inr (by rw [if_pos rfl]; exact y))
          rw [h2] at z2
          exact Int32.not_lt.mp z2
        · exact h5 a (by omega)
set_option maxHeartbeats 4000000 in
theorem t_mgaB {d : Nat} {Q : KO → Prop} {h : KH} (hw : WF h) {A : Nat → Int32} {RL : List Rul} {n c dn en : Nat} (hk : refOK h A RL n c dn en) {m : Nat} (hm : m ≤ 4) (hd : 12 ≤ d) (hQ : ∀ k, Fr pG noP h k → k.2.2.1 60 = h.2.2.1 60 → (Q (some (.int (gameV RL n (min m (en - dn)) true A)), k))) : Wp d 247 9 [some (.ref 59), some (.int (Int32.ofNat m))] [] h Q := by
  refine Wp.seg 3 (pc1 := 12) (ls1 := [some (.ref 59), some (.int (Int32.ofNat m))]) (st1 := [.int (1), .int (Int32.ofNat m), .ref 59]) rfl ?_
  refine Wp.invV (d2 := 11) (as := [.ref 59, .int (Int32.ofNat m), .int (1)]) (r := []) (t := (11, 0)) rfl rfl rfl rfl (WF.t hw 59 rfl) rfl rfl ⟨rfl, rfl⟩ (by omega) (r_gameI (left := m) (b := true) rfl rfl hm (by omega) hw hk ?_)
  intro k f e
  show Wp d 247 15 [some (.ref 59), some (.int (Int32.ofNat m))] [.int (gameV RL n (min m (en - dn)) true A)] k Q
  refine Wp.seg 1 (pc1 := 19) (ls1 := [some (.ref 59), some (.int (Int32.ofNat m))]) (st1 := [.int (gameV RL n (min m (en - dn)) true A)]) rfl ?_
  exact Wp.reti rfl rfl (hQ k f e)
set_option maxHeartbeats 4000000 in
theorem t_mga {d : Nat} {Q : KO → Prop} {h : KH} {v : Int32} (hd : 12 ≤ d) (hQ : ((inB v 1 4) = false → Q (some (.int (-1)), h)) ∧ ((inB v 1 4) = true → Wp d 247 9 ([some (.ref 59), some (.int (v))]) [] h Q)) : Cl d 247 [.ref 59, .int (v)] h Q := by
  refine Cl.of (ls := [some (.ref 59), some (.int (v))]) rfl rfl ?_
  refine Wp.seg 3 (pc1 := 3) (ls1 := [some (.ref 59), some (.int (v))]) (st1 := [.int (4), .int (1), .int (v)]) rfl ?_
  refine Wp.inv (d2 := 0) (as := [.int (v), .int (1), .int (4)]) (r := []) rfl rfl rfl rfl rfl rfl (by omega) (s_inB (x := 1) (y := 4) rfl rfl ?_)
  show Wp d 247 6 [some (.ref 59), some (.int (v))] [.int (b32 (inB v 1 4))] h Q
  refine Wp.ifz rfl (fun (c1 : (inB v 1 4) = false) => ?_) (fun (c1 : (inB v 1 4) = true) => ?_)
  · refine Wp.seg 1 (pc1 := 19) (ls1 := [some (.ref 59), some (.int (v))]) (st1 := [.int (-1)]) rfl ?_
    exact Wp.reti rfl rfl (hQ.1 c1)
  · exact (hQ.2 c1)
theorem m_game {d : Nat} {h : KH} (hw : WF h) {A : Nat → Int32} {RL : List Rul} {n c dn en : Nat} (hk : refOK h A RL n c dn en) (hd : 12 ≤ d) {v : Int32} : Cl d 247 [.ref 59, .int v] h (qu (gameS RL n dn en A v) h) := by
  unfold gameS plN
  refine t_mga hd ⟨fun q => ?_, fun q => ?_⟩
  · rw [if_neg (by rw [q]; decide)]
    exact qu_i (Quiet.refl h)
  · rw [if_pos q]
    obtain ⟨m, hm1, hm, rfl⟩ := inB_natL (a := 1) (b := 4) q
    rw [clamp_ofNat (by omega)]
    exact t_mgaB hw hk hm hd (fun k f e => qu_i (quiet_g (f.mono (fun c z => Or.inl z) (fun _ z => z)) e))
set_option maxHeartbeats 4000000 in
theorem t_mplO {d : Nat} {Q : KO → Prop} {h : KH} (hw : WF h) {A : Nat → Int32} {RL : List Rul} {n c dn en : Nat} (hk : refOK h A RL n c dn en) {m : Int32} (hlt : ¬ dn < en) (hd : 1 ≤ d) (hQ : Q (some (.int (-3)), h)) : Wp d 248 11 [some (.ref 59), some (.int (m)), none, none, none] [] h Q := by
  refine Wp.seg 1 (pc1 := 12) (ls1 := [some (.ref 59), some (.int (m)), none, none, none]) (st1 := [.ref 59]) rfl ?_
  refine Wp.invV (d2 := 0) (as := [.ref 59]) (r := []) (t := (11, 0)) rfl rfl rfl rfl (WF.t hw 59 rfl) rfl rfl ⟨rfl, rfl⟩ (by omega) (r_over1 hw hk hlt ?_)
  show Wp d 248 15 [some (.ref 59), some (.int (m)), none, none, none] [.int (1)] h Q
  refine Wp.if1 rfl (fun c1 => absurd c1 (show ¬ ((1 : Int32) = 0) by decide)) (fun c1 => ?_)
  refine Wp.seg 1 (pc1 := 20) (ls1 := [some (.ref 59), some (.int (m)), none, none, none]) (st1 := [.int (-3)]) rfl ?_
  exact Wp.reti rfl rfl hQ
set_option maxHeartbeats 4000000 in
theorem t_mplS {d : Nat} {Q : KO → Prop} {h : KH} (hw : WF h) {A : Nat → Int32} {RL : List Rul} {n c dn en : Nat} (hk : refOK h A RL n c dn en) {m : Nat} (hm : m ≤ 4) (hlt : dn < en) (hd : 12 ≤ d) (hQ : ∀ k, Fr pG noP h k → k.2.2.1 60 = h.2.2.1 60 → (Wp d 248 30 ([some (.ref 59), some (.int (Int32.ofNat m)), some (.int (gameV RL n (min m (en - dn)) true A)), some (.int (0)), none]) [] k Q)) : Wp d 248 11 [some (.ref 59), some (.int (Int32.ofNat m)), none, none, none] [] h Q := by
  refine Wp.seg 1 (pc1 := 12) (ls1 := [some (.ref 59), some (.int (Int32.ofNat m)), none, none, none]) (st1 := [.ref 59]) rfl ?_
  refine Wp.invV (d2 := 0) (as := [.ref 59]) (r := []) (t := (11, 0)) rfl rfl rfl rfl (WF.t hw 59 rfl) rfl rfl ⟨rfl, rfl⟩ (by omega) (r_over0 hw hk hlt ?_)
  show Wp d 248 15 [some (.ref 59), some (.int (Int32.ofNat m)), none, none, none] [.int (0)] h Q
  refine Wp.if1 rfl (fun c1 => ?_) (fun c1 => absurd (show (0 : Int32) = 0 by decide) c1)
  refine Wp.seg 3 (pc1 := 24) (ls1 := [some (.ref 59), some (.int (Int32.ofNat m)), none, none, none]) (st1 := [.int (1), .int (Int32.ofNat m), .ref 59]) rfl ?_
  refine Wp.invV (d2 := 11) (as := [.ref 59, .int (Int32.ofNat m), .int (1)]) (r := []) (t := (11, 0)) rfl rfl rfl rfl (WF.t hw 59 rfl) rfl rfl ⟨rfl, rfl⟩ (by omega) (r_gameI (left := m) (b := true) rfl rfl hm (by omega) hw hk ?_)
  intro k f e
  show Wp d 248 27 [some (.ref 59), some (.int (Int32.ofNat m)), none, none, none] [.int (gameV RL n (min m (en - dn)) true A)] k Q
  refine Wp.seg 3 (pc1 := 30) (ls1 := [some (.ref 59), some (.int (Int32.ofNat m)), some (.int (gameV RL n (min m (en - dn)) true A)), some (.int (0)), none]) (st1 := []) rfl ?_
  exact (hQ k f e)
set_option maxHeartbeats 4000000 in
theorem t_mpl {d : Nat} {Q : KO → Prop} {h : KH} {v : Int32} (hd : 12 ≤ d) (hQ : ((inB v 1 4) = true → Wp d 248 11 ([some (.ref 59), some (.int (v)), none, none, none]) [] h Q) ∧ ((inB v 1 4) = false → Q (some (.int (-1)), h))) : Cl d 248 [.ref 59, .int (v)] h Q := by
  refine Cl.of (ls := [some (.ref 59), some (.int (v)), none, none, none]) rfl rfl ?_
  refine Wp.seg 3 (pc1 := 3) (ls1 := [some (.ref 59), some (.int (v)), none, none, none]) (st1 := [.int (4), .int (1), .int (v)]) rfl ?_
  refine Wp.inv (d2 := 0) (as := [.int (v), .int (1), .int (4)]) (r := []) rfl rfl rfl rfl rfl rfl (by omega) (s_inB (x := 1) (y := 4) rfl rfl ?_)
  show Wp d 248 6 [some (.ref 59), some (.int (v)), none, none, none] [.int (b32 (inB v 1 4))] h Q
  refine Wp.ifnz rfl (fun (c1 : (inB v 1 4) = true) => ?_) (fun (c1 : (inB v 1 4) = false) => ?_)
  · exact (hQ.1 c1)
  · refine Wp.seg 1 (pc1 := 10) (ls1 := [some (.ref 59), some (.int (v)), none, none, none]) (st1 := [.int (-1)]) rfl ?_
    exact Wp.reti rfl rfl (hQ.2 c1)
set_option maxHeartbeats 4000000 in
theorem t_mplB {d : Nat} {Q : KO → Prop} {h : KH} (hw : WF h) {A : Nat → Int32} {RL : List Rul} {n c dn en : Nat} (hk : refOK h A RL n c dn en) {l a : Nat} {v : Int32} {z : Option Value} (hl : l < 4) (hn : n ≤ 6) (hlt : dn < en) (han : a ≤ n) (hd : 12 ≤ d) (hQ : ∀ k, Fr (fun c => c = 66) noP h k → (∀ m, m < 585 → k.2.2.1 66 m = h.2.2.1 60 m) → (∀ m, 585 ≤ m → k.2.2.1 66 m = h.2.2.1 66 m) → (∀ k2, Fr pM noP k k2 → refOK k2 (goA RL A (actT a)) RL n c (dn + 1) en → keepS (k2.2.2.1 60) (k.2.2.1 60) → (∀ k3, Fr pG noP k2 k3 → k3.2.2.1 60 = k2.2.2.1 60 → (∀ k4, Fr (fun c => c = 60) noP k3 k4 → (∀ m, m < 585 → k4.2.2.1 60 m = k3.2.2.1 66 m) → (∀ m, 585 ≤ m → k4.2.2.1 60 m = k3.2.2.1 60 m) → ((¬ ((wA RL A (actT a)) + (gameV RL n (min l (en - (dn + 1))) false (goA RL A (actT a)))) = v → Wp d 248 30 ([some (.ref 59), some (.int (Int32.ofNat (l + 1))), some (.int (v)), some (.int ((Int32.ofNat a) + 1)), some (.int ((wA RL A (actT a)) + (gameV RL n (min l (en - (dn + 1))) false (goA RL A (actT a)))))]) [] k4 Q) ∧ (¬ (¬ ((wA RL A (actT a)) + (gameV RL n (min l (en - (dn + 1))) false (goA RL A (actT a)))) = v) → Q (some (.int (Int32.ofNat a)), k4))))))) : Wp d 248 30 [some (.ref 59), some (.int (Int32.ofNat (l + 1))), some (.int (v)), some (.int (Int32.ofNat a)), z] [] h Q := by
  refine Wp.seg 2 (pc1 := 32) (ls1 := [some (.ref 59), some (.int (Int32.ofNat (l + 1))), some (.int (v)), some (.int (Int32.ofNat a)), z]) (st1 := [.ref 59, .int (Int32.ofNat a)]) rfl ?_
  refine Wp.gr (t := (11, 0)) (v := some (60)) rfl (WF.t hw 59 rfl) rfl (WF.r hw 59 0 58 rfl) ?_
  show Wp d 248 35 [some (.ref 59), some (.int (Int32.ofNat (l + 1))), some (.int (v)), some (.int (Int32.ofNat a)), z] [.ref 60, .int (Int32.ofNat a)] h Q
  refine Wp.seg 1 (pc1 := 37) (ls1 := [some (.ref 59), some (.int (Int32.ofNat (l + 1))), some (.int (v)), some (.int (Int32.ofNat a)), z]) (st1 := [.int (8), .ref 60, .int (Int32.ofNat a)]) rfl ?_
  refine Wp.iald (j := 8) (k := 20) (n := 585) rfl (WF.t hw 60 rfl) rfl rfl (by decide) (by decide) ?_
  rw [show h.2.2.1 60 8 = Int32.ofNat n from hk.2.1.2.1]
  refine Wp.if2 rfl (fun c1 => absurd c1 (fun c => by have := (zlt (znat (n := n) (by omega)) (znat (n := a) (by omega))).mp c; omega)) (fun c1 => ?_)
  refine Wp.seg 1 (pc1 := 42) (ls1 := [some (.ref 59), some (.int (Int32.ofNat (l + 1))), some (.int (v)), some (.int (Int32.ofNat a)), z]) (st1 := [.ref 59]) rfl ?_
  refine Wp.gr (t := (11, 0)) (v := some (60)) rfl (WF.t hw 59 rfl) rfl (WF.r hw 59 0 58 rfl) ?_
  show Wp d 248 45 [some (.ref 59), some (.int (Int32.ofNat (l + 1))), some (.int (v)), some (.int (Int32.ofNat a)), z] [.ref 60] h Q
  refine Wp.seg 1 (pc1 := 46) (ls1 := [some (.ref 59), some (.int (Int32.ofNat (l + 1))), some (.int (v)), some (.int (Int32.ofNat a)), z]) (st1 := [.ref 59, .ref 60]) rfl ?_
  refine Wp.gr (t := (11, 0)) (v := some (66)) rfl (WF.t hw 59 rfl) rfl (WF.r hw 59 19 64 rfl) ?_
  show Wp d 248 49 [some (.ref 59), some (.int (Int32.ofNat (l + 1))), some (.int (v)), some (.int (Int32.ofNat a)), z] [.ref 66, .ref 60] h Q
  refine Wp.inv (d2 := 0) (as := [.ref 60, .ref 66]) (r := []) rfl rfl rfl rfl rfl rfl (by omega) (s_copyAll (f := 60) (t := 66) (by decide) (by decide) (WF.t hw 60 rfl) (WF.t hw 66 rfl) ?_)
  intro k f q1 q2
  show Wp d 248 52 [some (.ref 59), some (.int (Int32.ofNat (l + 1))), some (.int (v)), some (.int (Int32.ofNat a)), z] [] k Q
  refine Wp.seg 4 (pc1 := 56) (ls1 := [some (.ref 59), some (.int (Int32.ofNat (l + 1))), some (.int (v)), some (.int (Int32.ofNat a)), z]) (st1 := [.int ((Int32.ofNat a) - (1 : Int32)), .ref 59]) rfl ?_
  refine Wp.invV (d2 := 5) (as := [.ref 59, .int ((Int32.ofNat a) - (1 : Int32))]) (r := []) (t := (11, 0)) rfl rfl rfl rfl (WF.t (f.wf hw (fun z => z)) 59 rfl) rfl rfl ⟨rfl, rfl⟩ (by omega) (s_goesF (h := k) (t := actT a) (f.wf hw (fun z => z)) (refOK_eq hk (f.2.2.1 60 (Or.inl (by decide)))) hlt (actT_ok han hn) (Nat.le_refl _) ?_)
  intro k2 f2 g2 e2
  show Wp d 248 59 [some (.ref 59), some (.int (Int32.ofNat (l + 1))), some (.int (v)), some (.int (Int32.ofNat a)), z] [.int (wA RL A (actT a))] k2 Q
  refine Wp.seg 7 (pc1 := 68) (ls1 := [some (.ref 59), some (.int (Int32.ofNat (l + 1))), some (.int (v)), some (.int (Int32.ofNat a)), some (.int (wA RL A (actT a)))]) (st1 := [.int (0), .int ((Int32.ofNat (l + 1)) - (1 : Int32)), .ref 59, .int (wA RL A (actT a))]) rfl ?_
  refine Wp.invV (d2 := 11) (as := [.ref 59, .int ((Int32.ofNat (l + 1)) - (1 : Int32)), .int (0)]) (r := [.int (wA RL A (actT a))]) (t := (11, 0)) rfl rfl rfl rfl (WF.t (f2.wf (f.wf hw (fun z => z)) (fun z => z)) 59 rfl) rfl rfl ⟨rfl, rfl⟩ (by omega) (r_gameI (left := l) (b := false) (ofdec2 l) rfl (by omega) (by omega) (f2.wf (f.wf hw (fun z => z)) (fun z => z)) g2 ?_)
  intro k3 f3 e3
  show Wp d 248 71 [some (.ref 59), some (.int (Int32.ofNat (l + 1))), some (.int (v)), some (.int (Int32.ofNat a)), some (.int (wA RL A (actT a)))] [.int (gameV RL n (min l (en - (dn + 1))) false (goA RL A (actT a))), .int (wA RL A (actT a))] k3 Q
  refine Wp.seg 3 (pc1 := 75) (ls1 := [some (.ref 59), some (.int (Int32.ofNat (l + 1))), some (.int (v)), some (.int (Int32.ofNat a)), some (.int ((wA RL A (actT a)) + (gameV RL n (min l (en - (dn + 1))) false (goA RL A (actT a)))))]) (st1 := [.ref 59]) rfl ?_
  refine Wp.gr (t := (11, 0)) (v := some (66)) rfl (WF.t (f3.wf (f2.wf (f.wf hw (fun z => z)) (fun z => z)) (fun z => z)) 59 rfl) rfl (WF.r (f3.wf (f2.wf (f.wf hw (fun z => z)) (fun z => z)) (fun z => z)) 59 19 64 rfl) ?_
  show Wp d 248 78 [some (.ref 59), some (.int (Int32.ofNat (l + 1))), some (.int (v)), some (.int (Int32.ofNat a)), some (.int ((wA RL A (actT a)) + (gameV RL n (min l (en - (dn + 1))) false (goA RL A (actT a)))))] [.ref 66] k3 Q
  refine Wp.seg 1 (pc1 := 79) (ls1 := [some (.ref 59), some (.int (Int32.ofNat (l + 1))), some (.int (v)), some (.int (Int32.ofNat a)), some (.int ((wA RL A (actT a)) + (gameV RL n (min l (en - (dn + 1))) false (goA RL A (actT a)))))]) (st1 := [.ref 59, .ref 66]) rfl ?_
  refine Wp.gr (t := (11, 0)) (v := some (60)) rfl (WF.t (f3.wf (f2.wf (f.wf hw (fun z => z)) (fun z => z)) (fun z => z)) 59 rfl) rfl (WF.r (f3.wf (f2.wf (f.wf hw (fun z => z)) (fun z => z)) (fun z => z)) 59 0 58 rfl) ?_
  show Wp d 248 82 [some (.ref 59), some (.int (Int32.ofNat (l + 1))), some (.int (v)), some (.int (Int32.ofNat a)), some (.int ((wA RL A (actT a)) + (gameV RL n (min l (en - (dn + 1))) false (goA RL A (actT a)))))] [.ref 60, .ref 66] k3 Q
  refine Wp.inv (d2 := 0) (as := [.ref 66, .ref 60]) (r := []) rfl rfl rfl rfl rfl rfl (by omega) (s_copyAll (h := k3) (f := 66) (t := 60) (by decide) (by decide) (WF.t (f3.wf (f2.wf (f.wf hw (fun z => z)) (fun z => z)) (fun z => z)) 66 rfl) (WF.t (f3.wf (f2.wf (f.wf hw (fun z => z)) (fun z => z)) (fun z => z)) 60 rfl) ?_)
  intro k4 f4 r1 r2
  show Wp d 248 85 [some (.ref 59), some (.int (Int32.ofNat (l + 1))), some (.int (v)), some (.int (Int32.ofNat a)), some (.int ((wA RL A (actT a)) + (gameV RL n (min l (en - (dn + 1))) false (goA RL A (actT a)))))] [] k4 Q
  refine Wp.seg 2 (pc1 := 88) (ls1 := [some (.ref 59), some (.int (Int32.ofNat (l + 1))), some (.int (v)), some (.int (Int32.ofNat a)), some (.int ((wA RL A (actT a)) + (gameV RL n (min l (en - (dn + 1))) false (goA RL A (actT a)))))]) (st1 := [.int (v), .int ((wA RL A (actT a)) + (gameV RL n (min l (en - (dn + 1))) false (goA RL A (actT a))))]) rfl ?_
  refine Wp.if2 rfl (fun (c2 : ¬ ((wA RL A (actT a)) + (gameV RL n (min l (en - (dn + 1))) false (goA RL A (actT a)))) = v) => ?_) (fun (c2 : ¬ (¬ ((wA RL A (actT a)) + (gameV RL n (min l (en - (dn + 1))) false (goA RL A (actT a)))) = v)) => ?_)
  · refine Wp.seg 2 (pc1 := 30) (ls1 := [some (.ref 59), some (.int (Int32.ofNat (l + 1))), some (.int (v)), some (.int ((Int32.ofNat a) + 1)), some (.int ((wA RL A (actT a)) + (gameV RL n (min l (en - (dn + 1))) false (goA RL A (actT a)))))]) (st1 := []) rfl ?_
    exact (((((hQ k f q1 q2) k2 f2 g2 e2) k3 f3 e3) k4 f4 r1 r2).1 c2)
  · refine Wp.seg 1 (pc1 := 92) (ls1 := [some (.ref 59), some (.int (Int32.ofNat (l + 1))), some (.int (v)), some (.int (Int32.ofNat a)), some (.int ((wA RL A (actT a)) + (gameV RL n (min l (en - (dn + 1))) false (goA RL A (actT a)))))]) (st1 := [.int (Int32.ofNat a)]) rfl ?_
    exact Wp.reti rfl rfl (((((hQ k f q1 q2) k2 f2 g2 e2) k3 f3 e3) k4 f4 r1 r2).2 c2)
theorem m_playL {d : Nat} {Q : KO → Prop} {S A : Nat → Int32} {RL : List Rul} {n c dn en l p : Nat} (hl : l < 4) (hlt : dn < en) (hpn : p ≤ n) (hd : 12 ≤ d) (hne : ∀ a, a < p → ¬ gmW RL (gameV RL n (min l (en - (dn + 1))) false) A a = gmW RL (gameV RL n (min l (en - (dn + 1))) false) A p) :
    ∀ (j a : Nat) (h : KH) (z : Option Value), a + j = p → WF h → refOK h A RL n c dn en → h.2.2.1 60 = S → (∀ k, Fr (fun c => pG c ∨ c = 66) noP h k → k.2.2.1 60 = S → Q (some (.int (Int32.ofNat p)), k)) →
    Wp d 248 30 [some (.ref 59), some (.int (Int32.ofNat (l + 1))), some (.int (gmW RL (gameV RL n (min l (en - (dn + 1))) false) A p)), some (.int (Int32.ofNat a)), z] [] h Q := by
  intro j
  induction j with
  | zero =>
    intro a h z haj hw hk e0 hQ
    have hap : a = p := haj
    subst hap
    refine t_mplB hw hk hl hk.2.1.1 hlt hpn hd (fun k f q1 q2 k2 f2 g2 e2 k3 f3 e3 k4 f4 r1 r2 => ⟨fun c1 => absurd rfl c1, fun c1 => ?_⟩)
    have fA : Fr (fun c => pG c ∨ c = 66) noP h k4 := (f.mono (fun c z => Or.inr z) (fun _ z => z)).trans ((f2.mono (fun c z => by unfold pM at z; unfold pG; omega) (fun _ z => z)).trans ((f3.mono (fun c z => Or.inl z) (fun _ z => z)).trans (f4.mono (fun c z => by unfold pG; omega) (fun _ z => z))))
    have k60 : k.2.2.1 60 = h.2.2.1 60 := f.2.2.1 60 (Or.inl (by decide))
    have k66 : k3.2.2.1 66 = k.2.2.1 66 := (f3.2.2.1 66 (Or.inl (by unfold pG; decide))).trans (f2.2.2.1 66 (Or.inl (by unfold pM; decide)))
    have e4 : k4.2.2.1 60 = S := by
      funext m
      by_cases q : m < 585
      · rw [r1 m q, k66, q1 m q, e0]
      · rw [r2 m (by omega), e3, e2 m (by omega), k60, e0]
    exact hQ k4 fA e4
  | succ j ih =>
    intro a h z haj hw hk e0 hQ
    refine t_mplB hw hk hl hk.2.1.1 hlt (by omega) hd (fun k f q1 q2 k2 f2 g2 e2 k3 f3 e3 k4 f4 r1 r2 => ⟨fun c1 => ?_, fun c1 => absurd (Decidable.not_not.mp c1) (hne a (by omega))⟩)
    have fA : Fr (fun c => pG c ∨ c = 66) noP h k4 := (f.mono (fun c z => Or.inr z) (fun _ z => z)).trans ((f2.mono (fun c z => by unfold pM at z; unfold pG; omega) (fun _ z => z)).trans ((f3.mono (fun c z => Or.inl z) (fun _ z => z)).trans (f4.mono (fun c z => by unfold pG; omega) (fun _ z => z))))
    have k60 : k.2.2.1 60 = h.2.2.1 60 := f.2.2.1 60 (Or.inl (by decide))
    have k66 : k3.2.2.1 66 = k.2.2.1 66 := (f3.2.2.1 66 (Or.inl (by unfold pG; decide))).trans (f2.2.2.1 66 (Or.inl (by unfold pM; decide)))
    have e4 : k4.2.2.1 60 = S := by
      funext m
      by_cases q : m < 585
      · rw [r1 m q, k66, q1 m q, e0]
      · rw [r2 m (by omega), e3, e2 m (by omega), k60, e0]
    rw [show Int32.ofNat a + 1 = Int32.ofNat (a + 1) from ofadd a 1]
    exact ih (a + 1) k4 _ (by omega) (fA.wf hw (fun z => z)) (refOK_eq hk (e4.trans e0.symm)) e4 (fun k5 f5 e5 => hQ k5 (fA.trans f5) e5)
theorem m_play {d : Nat} {h : KH} (hw : WF h) {A : Nat → Int32} {RL : List Rul} {n c dn en : Nat} (hk : refOK h A RL n c dn en) (hd : 12 ≤ d) {v : Int32} : Cl d 248 [.ref 59, .int v] h (qu (playS RL n dn en A v) h) := by
  unfold playS plN
  refine t_mpl hd ⟨fun q => ?_, fun q => ?_⟩
  · rw [if_pos q]
    obtain ⟨m, hm1, hm, rfl⟩ := inB_natL (a := 1) (b := 4) q
    rw [clamp_ofNat (by omega)]
    by_cases hlt : dn < en
    · rw [if_pos hlt]
      refine t_mplS hw hk hm hlt hd (fun k f e => ?_)
      obtain ⟨l, rfl⟩ : ∃ l, m = l + 1 := ⟨m - 1, by omega⟩
      have hK : min (l + 1) (en - dn) = min l (en - (dn + 1)) + 1 := by omega
      rw [hK, Nat.add_sub_cancel]
      obtain ⟨p, p1, p2, p3, p4⟩ := first_best (w := gmW RL (gameV RL n (min l (en - (dn + 1))) false) A) (n := n)
      have e1 : gameV RL n (min l (en - (dn + 1)) + 1) true A = gmW RL (gameV RL n (min l (en - (dn + 1))) false) A p := p2
      have e2 : gameO RL n (min l (en - (dn + 1))) A = Int32.ofNat p := p3
      rw [e1, e2]
      exact m_playL (S := h.2.2.1 60) (by omega) hlt p1 hd p4 p 0 k _ (by omega) (f.wf hw (fun z => z)) (refOK_eq hk e) e (fun k2 f2 e2 => qu_i (quiet_g ((f.mono (fun c z => Or.inl z) (fun _ z => z)).trans f2) e2))
    · rw [if_neg hlt]
      exact t_mplO hw hk hlt (by omega) (qu_i (Quiet.refl h))
  · rw [if_neg (by rw [q]; decide)]
    exact qu_i (Quiet.refl h)
