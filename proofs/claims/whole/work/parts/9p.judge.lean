/-! KM: both sides: judge, its walks -/
set_option maxHeartbeats 4000000 in
theorem t_rg1 {d : Nat} {Q : KO → Prop} {h : KH} (hw : WF h) {i : Nat} {a b y : Int32} (hi4 : i < 4) (h0 : h.2.2.1 (34 + i) 0 = a) (h1 : h.2.2.1 (34 + i) 1 = b) (h2 : h.2.2.1 (34 + i) 2 = y) {A1 : Nat → Int32} {RL1 : List Rul} {dn1 : Nat} {A : Nat → Int32} {RL : List Rul} {n c dn en : Nat} (hk1 : cityOK h 1 A1 RL1 n c dn1 en) (hk : cityOK h 7 A RL n c dn en) (hlt : ¬ dn < en) (hd : 5 ≤ d) (hQ : Q (some (.int (0)), h)) : Cl d 147 [.ref 0, .int (Int32.ofNat i)] h Q := by
  refine Cl.of (ls := [some (.ref 0), some (.int (Int32.ofNat i)), none, none]) rfl rfl ?_
  refine Wp.seg 1 (pc1 := 1) (ls1 := [some (.ref 0), some (.int (Int32.ofNat i)), none, none]) (st1 := [.ref 0]) rfl ?_
  refine Wp.gr (t := (10, 0)) (v := some (33)) rfl (WF.t hw 0 rfl) rfl (WF.r hw 0 6 5 rfl) ?_
  show Wp d 147 4 [some (.ref 0), some (.int (Int32.ofNat i)), none, none] [.ref 33] h Q
  refine Wp.seg 1 (pc1 := 5) (ls1 := [some (.ref 0), some (.int (Int32.ofNat i)), none, none]) (st1 := [.int (Int32.ofNat i), .ref 33]) rfl ?_
  refine Wp.aald (j := i) (k := 26) (n := 4) (v := some (34 + i)) rfl (WF.t hw 33 rfl) rfl rfl hi4 (by decide) (row_r hw hi4) ?_
  show Wp d 147 6 [some (.ref 0), some (.int (Int32.ofNat i)), none, none] [.ref (34 + i)] h Q
  refine Wp.seg 1 (pc1 := 7) (ls1 := [some (.ref 0), some (.int (Int32.ofNat i)), none, none]) (st1 := [.int (0), .ref (34 + i)]) rfl ?_
  refine Wp.iald (j := 0) (k := 20) (n := 3) rfl (row_t hw hi4) rfl rfl (by decide) (by decide) ?_
  rw [show h.2.2.1 (34 + i) 0 = a from h0]
  refine Wp.seg 2 (pc1 := 10) (ls1 := [some (.ref 0), some (.int (Int32.ofNat i)), some (.int (a)), none]) (st1 := [.ref 0]) rfl ?_
  refine Wp.gr (t := (10, 0)) (v := some (7)) rfl (WF.t hw 0 rfl) rfl (WF.r hw 0 2 2 rfl) ?_
  show Wp d 147 13 [some (.ref 0), some (.int (Int32.ofNat i)), some (.int (a)), none] [.ref 7] h Q
  refine Wp.invV (d2 := 0) (as := [.ref 7]) (r := []) (t := (1, 0)) rfl rfl rfl rfl (WF.t hw 7 rfl) rfl rfl ⟨rfl, rfl⟩ (by omega) (s_over1 hw cA7 hk hlt ?_)
  show Wp d 147 16 [some (.ref 0), some (.int (Int32.ofNat i)), some (.int (a)), none] [.int (1)] h Q
  refine Wp.if1 rfl (fun c1 => ?_) (fun c1 => absurd (show ¬ (1 : Int32) = 0 by decide) c1)
  refine Wp.seg 1 (pc1 := 28) (ls1 := [some (.ref 0), some (.int (Int32.ofNat i)), some (.int (a)), none]) (st1 := [.int (0)]) rfl ?_
  exact Wp.reti rfl rfl hQ
set_option maxHeartbeats 4000000 in
theorem t_rg2 {d : Nat} {Q : KO → Prop} {h : KH} (hw : WF h) {i : Nat} {a b y : Int32} (hi4 : i < 4) (h0 : h.2.2.1 (34 + i) 0 = a) (h1 : h.2.2.1 (34 + i) 1 = b) (h2 : h.2.2.1 (34 + i) 2 = y) {A1 : Nat → Int32} {RL1 : List Rul} {dn1 : Nat} {A : Nat → Int32} {RL : List Rul} {n c dn en : Nat} (hk1 : cityOK h 1 A1 RL1 n c dn1 en) (hk : cityOK h 7 A RL n c dn en) (hlt : dn < en) (qx : inB a 0 (n : Int) = false) (hd : 5 ≤ d) (hQ : Q (some (.int (0)), h)) : Cl d 147 [.ref 0, .int (Int32.ofNat i)] h Q := by
  refine Cl.of (ls := [some (.ref 0), some (.int (Int32.ofNat i)), none, none]) rfl rfl ?_
  refine Wp.seg 1 (pc1 := 1) (ls1 := [some (.ref 0), some (.int (Int32.ofNat i)), none, none]) (st1 := [.ref 0]) rfl ?_
  refine Wp.gr (t := (10, 0)) (v := some (33)) rfl (WF.t hw 0 rfl) rfl (WF.r hw 0 6 5 rfl) ?_
  show Wp d 147 4 [some (.ref 0), some (.int (Int32.ofNat i)), none, none] [.ref 33] h Q
  refine Wp.seg 1 (pc1 := 5) (ls1 := [some (.ref 0), some (.int (Int32.ofNat i)), none, none]) (st1 := [.int (Int32.ofNat i), .ref 33]) rfl ?_
  refine Wp.aald (j := i) (k := 26) (n := 4) (v := some (34 + i)) rfl (WF.t hw 33 rfl) rfl rfl hi4 (by decide) (row_r hw hi4) ?_
  show Wp d 147 6 [some (.ref 0), some (.int (Int32.ofNat i)), none, none] [.ref (34 + i)] h Q
  refine Wp.seg 1 (pc1 := 7) (ls1 := [some (.ref 0), some (.int (Int32.ofNat i)), none, none]) (st1 := [.int (0), .ref (34 + i)]) rfl ?_
  refine Wp.iald (j := 0) (k := 20) (n := 3) rfl (row_t hw hi4) rfl rfl (by decide) (by decide) ?_
  rw [show h.2.2.1 (34 + i) 0 = a from h0]
  refine Wp.seg 2 (pc1 := 10) (ls1 := [some (.ref 0), some (.int (Int32.ofNat i)), some (.int (a)), none]) (st1 := [.ref 0]) rfl ?_
  refine Wp.gr (t := (10, 0)) (v := some (7)) rfl (WF.t hw 0 rfl) rfl (WF.r hw 0 2 2 rfl) ?_
  show Wp d 147 13 [some (.ref 0), some (.int (Int32.ofNat i)), some (.int (a)), none] [.ref 7] h Q
  refine Wp.invV (d2 := 0) (as := [.ref 7]) (r := []) (t := (1, 0)) rfl rfl rfl rfl (WF.t hw 7 rfl) rfl rfl ⟨rfl, rfl⟩ (by omega) (s_over0 hw cA7 hk hlt ?_)
  show Wp d 147 16 [some (.ref 0), some (.int (Int32.ofNat i)), some (.int (a)), none] [.int (0)] h Q
  refine Wp.if1 rfl (fun c1 => absurd c1 (show ¬ (¬ (0 : Int32) = 0) by decide)) (fun c1 => ?_)
  refine Wp.seg 2 (pc1 := 21) (ls1 := [some (.ref 0), some (.int (Int32.ofNat i)), some (.int (a)), none]) (st1 := [.int (a), .ref 0]) rfl ?_
  refine Wp.invV (d2 := 0) (as := [.ref 0, .int (a)]) (r := []) (t := (10, 0)) rfl rfl rfl rfl (WF.t hw 0 rfl) rfl rfl ⟨rfl, rfl⟩ (by omega) (s_act hw hk1 ?_)
  show Wp d 147 24 [some (.ref 0), some (.int (Int32.ofNat i)), some (.int (a)), none] [.int (b32 (inB a 0 (n : Int)))] h Q
  refine Wp.ifnz rfl (fun c2 => absurd (c2.symm.trans (qx)) (by decide)) (fun c2 => ?_)
  refine Wp.seg 1 (pc1 := 28) (ls1 := [some (.ref 0), some (.int (Int32.ofNat i)), some (.int (a)), none]) (st1 := [.int (0)]) rfl ?_
  exact Wp.reti rfl rfl hQ
set_option maxHeartbeats 4000000 in
theorem t_rg3 {d : Nat} {Q : KO → Prop} {h : KH} (hw : WF h) {i : Nat} {a b y : Int32} (hi4 : i < 4) (h0 : h.2.2.1 (34 + i) 0 = a) (h1 : h.2.2.1 (34 + i) 1 = b) (h2 : h.2.2.1 (34 + i) 2 = y) {A1 : Nat → Int32} {RL1 : List Rul} {dn1 : Nat} {A : Nat → Int32} {RL : List Rul} {n c dn en : Nat} (hk1 : cityOK h 1 A1 RL1 n c dn1 en) (hk : cityOK h 7 A RL n c dn en) (hlt : dn < en) (qx : inB a 0 (n : Int) = true) (ht : okT n (a - 1)) (e1 : ¬ b = wA RL A (a - 1)) (hd : 5 ≤ d) (hQ : ∀ k, Fr (pC 7) noP h k → cityOK k 7 (goA RL A (a - 1)) RL n c (dn + 1) en → (Q (some (.int (0)), k))) : Cl d 147 [.ref 0, .int (Int32.ofNat i)] h Q := by
  refine Cl.of (ls := [some (.ref 0), some (.int (Int32.ofNat i)), none, none]) rfl rfl ?_
  refine Wp.seg 1 (pc1 := 1) (ls1 := [some (.ref 0), some (.int (Int32.ofNat i)), none, none]) (st1 := [.ref 0]) rfl ?_
  refine Wp.gr (t := (10, 0)) (v := some (33)) rfl (WF.t hw 0 rfl) rfl (WF.r hw 0 6 5 rfl) ?_
  show Wp d 147 4 [some (.ref 0), some (.int (Int32.ofNat i)), none, none] [.ref 33] h Q
  refine Wp.seg 1 (pc1 := 5) (ls1 := [some (.ref 0), some (.int (Int32.ofNat i)), none, none]) (st1 := [.int (Int32.ofNat i), .ref 33]) rfl ?_
  refine Wp.aald (j := i) (k := 26) (n := 4) (v := some (34 + i)) rfl (WF.t hw 33 rfl) rfl rfl hi4 (by decide) (row_r hw hi4) ?_
  show Wp d 147 6 [some (.ref 0), some (.int (Int32.ofNat i)), none, none] [.ref (34 + i)] h Q
  refine Wp.seg 1 (pc1 := 7) (ls1 := [some (.ref 0), some (.int (Int32.ofNat i)), none, none]) (st1 := [.int (0), .ref (34 + i)]) rfl ?_
  refine Wp.iald (j := 0) (k := 20) (n := 3) rfl (row_t hw hi4) rfl rfl (by decide) (by decide) ?_
  rw [show h.2.2.1 (34 + i) 0 = a from h0]
  refine Wp.seg 2 (pc1 := 10) (ls1 := [some (.ref 0), some (.int (Int32.ofNat i)), some (.int (a)), none]) (st1 := [.ref 0]) rfl ?_
  refine Wp.gr (t := (10, 0)) (v := some (7)) rfl (WF.t hw 0 rfl) rfl (WF.r hw 0 2 2 rfl) ?_
  show Wp d 147 13 [some (.ref 0), some (.int (Int32.ofNat i)), some (.int (a)), none] [.ref 7] h Q
  refine Wp.invV (d2 := 0) (as := [.ref 7]) (r := []) (t := (1, 0)) rfl rfl rfl rfl (WF.t hw 7 rfl) rfl rfl ⟨rfl, rfl⟩ (by omega) (s_over0 hw cA7 hk hlt ?_)
  show Wp d 147 16 [some (.ref 0), some (.int (Int32.ofNat i)), some (.int (a)), none] [.int (0)] h Q
  refine Wp.if1 rfl (fun c1 => absurd c1 (show ¬ (¬ (0 : Int32) = 0) by decide)) (fun c1 => ?_)
  refine Wp.seg 2 (pc1 := 21) (ls1 := [some (.ref 0), some (.int (Int32.ofNat i)), some (.int (a)), none]) (st1 := [.int (a), .ref 0]) rfl ?_
  refine Wp.invV (d2 := 0) (as := [.ref 0, .int (a)]) (r := []) (t := (10, 0)) rfl rfl rfl rfl (WF.t hw 0 rfl) rfl rfl ⟨rfl, rfl⟩ (by omega) (s_act hw hk1 ?_)
  show Wp d 147 24 [some (.ref 0), some (.int (Int32.ofNat i)), some (.int (a)), none] [.int (b32 (inB a 0 (n : Int)))] h Q
  refine Wp.ifnz rfl (fun c2 => ?_) (fun c2 => absurd (c2.symm.trans (qx)) (by decide))
  refine Wp.seg 1 (pc1 := 30) (ls1 := [some (.ref 0), some (.int (Int32.ofNat i)), some (.int (a)), none]) (st1 := [.ref 0]) rfl ?_
  refine Wp.gr (t := (10, 0)) (v := some (7)) rfl (WF.t hw 0 rfl) rfl (WF.r hw 0 2 2 rfl) ?_
  show Wp d 147 33 [some (.ref 0), some (.int (Int32.ofNat i)), some (.int (a)), none] [.ref 7] h Q
  refine Wp.seg 3 (pc1 := 36) (ls1 := [some (.ref 0), some (.int (Int32.ofNat i)), some (.int (a)), none]) (st1 := [.int (a - (1 : Int32)), .ref 7]) rfl ?_
  refine Wp.invV (d2 := 4) (as := [.ref 7, .int (a - (1 : Int32))]) (r := []) (t := (1, 0)) rfl rfl rfl rfl (WF.t hw 7 rfl) rfl rfl ⟨rfl, rfl⟩ (by omega) (s_cpassF hw cA7 hk hlt ht (Nat.le_refl _) ?_)
  intro k f g
  show Wp d 147 39 [some (.ref 0), some (.int (Int32.ofNat i)), some (.int (a)), none] [.int (wA RL A (a - 1))] k Q
  refine Wp.seg 2 (pc1 := 41) (ls1 := [some (.ref 0), some (.int (Int32.ofNat i)), some (.int (a)), some (.int (wA RL A (a - 1)))]) (st1 := [.ref 0]) rfl ?_
  refine Wp.gr (t := (10, 0)) (v := some (33)) rfl (WF.t (f.wf hw (fun z => z)) 0 rfl) rfl (WF.r (f.wf hw (fun z => z)) 0 6 5 rfl) ?_
  show Wp d 147 44 [some (.ref 0), some (.int (Int32.ofNat i)), some (.int (a)), some (.int (wA RL A (a - 1)))] [.ref 33] k Q
  refine Wp.seg 1 (pc1 := 45) (ls1 := [some (.ref 0), some (.int (Int32.ofNat i)), some (.int (a)), some (.int (wA RL A (a - 1)))]) (st1 := [.int (Int32.ofNat i), .ref 33]) rfl ?_
  refine Wp.aald (j := i) (k := 26) (n := 4) (v := some (34 + i)) rfl (WF.t (f.wf hw (fun z => z)) 33 rfl) rfl rfl hi4 (by decide) (row_r (f.wf hw (fun z => z)) hi4) ?_
  show Wp d 147 46 [some (.ref 0), some (.int (Int32.ofNat i)), some (.int (a)), some (.int (wA RL A (a - 1)))] [.ref (34 + i)] k Q
  refine Wp.seg 1 (pc1 := 47) (ls1 := [some (.ref 0), some (.int (Int32.ofNat i)), some (.int (a)), some (.int (wA RL A (a - 1)))]) (st1 := [.int (1), .ref (34 + i)]) rfl ?_
  refine Wp.iald (j := 1) (k := 20) (n := 3) rfl (row_t (f.wf hw (fun z => z)) hi4) rfl rfl (by decide) (by decide) ?_
  rw [show k.2.2.1 (34 + i) 1 = b from (by rw [f.2.2.1 (34 + i) (Or.inl (by unfold pC; omega))]; exact h1)]
  refine Wp.seg 1 (pc1 := 49) (ls1 := [some (.ref 0), some (.int (Int32.ofNat i)), some (.int (a)), some (.int (wA RL A (a - 1)))]) (st1 := [.int (wA RL A (a - 1)), .int (b)]) rfl ?_
  refine Wp.if2 rfl (fun c3 => ?_) (fun c3 => absurd (e1) c3)
  refine Wp.seg 1 (pc1 := 75) (ls1 := [some (.ref 0), some (.int (Int32.ofNat i)), some (.int (a)), some (.int (wA RL A (a - 1)))]) (st1 := [.int (0)]) rfl ?_
  exact Wp.reti rfl rfl (hQ k f g)
set_option maxHeartbeats 4000000 in
theorem t_rg4 {d : Nat} {Q : KO → Prop} {h : KH} (hw : WF h) {i : Nat} {a b y : Int32} (hi4 : i < 4) (h0 : h.2.2.1 (34 + i) 0 = a) (h1 : h.2.2.1 (34 + i) 1 = b) (h2 : h.2.2.1 (34 + i) 2 = y) {A1 : Nat → Int32} {RL1 : List Rul} {dn1 : Nat} {A : Nat → Int32} {RL : List Rul} {n c dn en : Nat} (hk1 : cityOK h 1 A1 RL1 n c dn1 en) (hk : cityOK h 7 A RL n c dn en) (hlt : dn < en) (qx : inB a 0 (n : Int) = true) (ht : okT n (a - 1)) (e1 : b = wA RL A (a - 1)) (e2 : ¬ y = shA c (goA RL A (a - 1))) (hd : 5 ≤ d) (hQ : ∀ k, Fr (pC 7) noP h k → cityOK k 7 (goA RL A (a - 1)) RL n c (dn + 1) en → (Q (some (.int (0)), k))) : Cl d 147 [.ref 0, .int (Int32.ofNat i)] h Q := by
  refine Cl.of (ls := [some (.ref 0), some (.int (Int32.ofNat i)), none, none]) rfl rfl ?_
  refine Wp.seg 1 (pc1 := 1) (ls1 := [some (.ref 0), some (.int (Int32.ofNat i)), none, none]) (st1 := [.ref 0]) rfl ?_
  refine Wp.gr (t := (10, 0)) (v := some (33)) rfl (WF.t hw 0 rfl) rfl (WF.r hw 0 6 5 rfl) ?_
  show Wp d 147 4 [some (.ref 0), some (.int (Int32.ofNat i)), none, none] [.ref 33] h Q
  refine Wp.seg 1 (pc1 := 5) (ls1 := [some (.ref 0), some (.int (Int32.ofNat i)), none, none]) (st1 := [.int (Int32.ofNat i), .ref 33]) rfl ?_
  refine Wp.aald (j := i) (k := 26) (n := 4) (v := some (34 + i)) rfl (WF.t hw 33 rfl) rfl rfl hi4 (by decide) (row_r hw hi4) ?_
  show Wp d 147 6 [some (.ref 0), some (.int (Int32.ofNat i)), none, none] [.ref (34 + i)] h Q
  refine Wp.seg 1 (pc1 := 7) (ls1 := [some (.ref 0), some (.int (Int32.ofNat i)), none, none]) (st1 := [.int (0), .ref (34 + i)]) rfl ?_
  refine Wp.iald (j := 0) (k := 20) (n := 3) rfl (row_t hw hi4) rfl rfl (by decide) (by decide) ?_
  rw [show h.2.2.1 (34 + i) 0 = a from h0]
  refine Wp.seg 2 (pc1 := 10) (ls1 := [some (.ref 0), some (.int (Int32.ofNat i)), some (.int (a)), none]) (st1 := [.ref 0]) rfl ?_
  refine Wp.gr (t := (10, 0)) (v := some (7)) rfl (WF.t hw 0 rfl) rfl (WF.r hw 0 2 2 rfl) ?_
  show Wp d 147 13 [some (.ref 0), some (.int (Int32.ofNat i)), some (.int (a)), none] [.ref 7] h Q
  refine Wp.invV (d2 := 0) (as := [.ref 7]) (r := []) (t := (1, 0)) rfl rfl rfl rfl (WF.t hw 7 rfl) rfl rfl ⟨rfl, rfl⟩ (by omega) (s_over0 hw cA7 hk hlt ?_)
  show Wp d 147 16 [some (.ref 0), some (.int (Int32.ofNat i)), some (.int (a)), none] [.int (0)] h Q
  refine Wp.if1 rfl (fun c1 => absurd c1 (show ¬ (¬ (0 : Int32) = 0) by decide)) (fun c1 => ?_)
  refine Wp.seg 2 (pc1 := 21) (ls1 := [some (.ref 0), some (.int (Int32.ofNat i)), some (.int (a)), none]) (st1 := [.int (a), .ref 0]) rfl ?_
  refine Wp.invV (d2 := 0) (as := [.ref 0, .int (a)]) (r := []) (t := (10, 0)) rfl rfl rfl rfl (WF.t hw 0 rfl) rfl rfl ⟨rfl, rfl⟩ (by omega) (s_act hw hk1 ?_)
  show Wp d 147 24 [some (.ref 0), some (.int (Int32.ofNat i)), some (.int (a)), none] [.int (b32 (inB a 0 (n : Int)))] h Q
  refine Wp.ifnz rfl (fun c2 => ?_) (fun c2 => absurd (c2.symm.trans (qx)) (by decide))
  refine Wp.seg 1 (pc1 := 30) (ls1 := [some (.ref 0), some (.int (Int32.ofNat i)), some (.int (a)), none]) (st1 := [.ref 0]) rfl ?_
  refine Wp.gr (t := (10, 0)) (v := some (7)) rfl (WF.t hw 0 rfl) rfl (WF.r hw 0 2 2 rfl) ?_
  show Wp d 147 33 [some (.ref 0), some (.int (Int32.ofNat i)), some (.int (a)), none] [.ref 7] h Q
  refine Wp.seg 3 (pc1 := 36) (ls1 := [some (.ref 0), some (.int (Int32.ofNat i)), some (.int (a)), none]) (st1 := [.int (a - (1 : Int32)), .ref 7]) rfl ?_
  refine Wp.invV (d2 := 4) (as := [.ref 7, .int (a - (1 : Int32))]) (r := []) (t := (1, 0)) rfl rfl rfl rfl (WF.t hw 7 rfl) rfl rfl ⟨rfl, rfl⟩ (by omega) (s_cpassF hw cA7 hk hlt ht (Nat.le_refl _) ?_)
  intro k f g
  show Wp d 147 39 [some (.ref 0), some (.int (Int32.ofNat i)), some (.int (a)), none] [.int (wA RL A (a - 1))] k Q
  refine Wp.seg 2 (pc1 := 41) (ls1 := [some (.ref 0), some (.int (Int32.ofNat i)), some (.int (a)), some (.int (wA RL A (a - 1)))]) (st1 := [.ref 0]) rfl ?_
  refine Wp.gr (t := (10, 0)) (v := some (33)) rfl (WF.t (f.wf hw (fun z => z)) 0 rfl) rfl (WF.r (f.wf hw (fun z => z)) 0 6 5 rfl) ?_
  show Wp d 147 44 [some (.ref 0), some (.int (Int32.ofNat i)), some (.int (a)), some (.int (wA RL A (a - 1)))] [.ref 33] k Q
  refine Wp.seg 1 (pc1 := 45) (ls1 := [some (.ref 0), some (.int (Int32.ofNat i)), some (.int (a)), some (.int (wA RL A (a - 1)))]) (st1 := [.int (Int32.ofNat i), .ref 33]) rfl ?_
  refine Wp.aald (j := i) (k := 26) (n := 4) (v := some (34 + i)) rfl (WF.t (f.wf hw (fun z => z)) 33 rfl) rfl rfl hi4 (by decide) (row_r (f.wf hw (fun z => z)) hi4) ?_
  show Wp d 147 46 [some (.ref 0), some (.int (Int32.ofNat i)), some (.int (a)), some (.int (wA RL A (a - 1)))] [.ref (34 + i)] k Q
  refine Wp.seg 1 (pc1 := 47) (ls1 := [some (.ref 0), some (.int (Int32.ofNat i)), some (.int (a)), some (.int (wA RL A (a - 1)))]) (st1 := [.int (1), .ref (34 + i)]) rfl ?_
  refine Wp.iald (j := 1) (k := 20) (n := 3) rfl (row_t (f.wf hw (fun z => z)) hi4) rfl rfl (by decide) (by decide) ?_
  rw [show k.2.2.1 (34 + i) 1 = b from (by rw [f.2.2.1 (34 + i) (Or.inl (by unfold pC; omega))]; exact h1)]
  refine Wp.seg 1 (pc1 := 49) (ls1 := [some (.ref 0), some (.int (Int32.ofNat i)), some (.int (a)), some (.int (wA RL A (a - 1)))]) (st1 := [.int (wA RL A (a - 1)), .int (b)]) rfl ?_
  refine Wp.if2 rfl (fun c3 => absurd c3 (fun z => z e1)) (fun c3 => ?_)
  refine Wp.seg 1 (pc1 := 53) (ls1 := [some (.ref 0), some (.int (Int32.ofNat i)), some (.int (a)), some (.int (wA RL A (a - 1)))]) (st1 := [.ref 0]) rfl ?_
  refine Wp.gr (t := (10, 0)) (v := some (33)) rfl (WF.t (f.wf hw (fun z => z)) 0 rfl) rfl (WF.r (f.wf hw (fun z => z)) 0 6 5 rfl) ?_
  show Wp d 147 56 [some (.ref 0), some (.int (Int32.ofNat i)), some (.int (a)), some (.int (wA RL A (a - 1)))] [.ref 33] k Q
  refine Wp.seg 1 (pc1 := 57) (ls1 := [some (.ref 0), some (.int (Int32.ofNat i)), some (.int (a)), some (.int (wA RL A (a - 1)))]) (st1 := [.int (Int32.ofNat i), .ref 33]) rfl ?_
  refine Wp.aald (j := i) (k := 26) (n := 4) (v := some (34 + i)) rfl (WF.t (f.wf hw (fun z => z)) 33 rfl) rfl rfl hi4 (by decide) (row_r (f.wf hw (fun z => z)) hi4) ?_
  show Wp d 147 58 [some (.ref 0), some (.int (Int32.ofNat i)), some (.int (a)), some (.int (wA RL A (a - 1)))] [.ref (34 + i)] k Q
  refine Wp.seg 1 (pc1 := 59) (ls1 := [some (.ref 0), some (.int (Int32.ofNat i)), some (.int (a)), some (.int (wA RL A (a - 1)))]) (st1 := [.int (2), .ref (34 + i)]) rfl ?_
  refine Wp.iald (j := 2) (k := 20) (n := 3) rfl (row_t (f.wf hw (fun z => z)) hi4) rfl rfl (by decide) (by decide) ?_
  rw [show k.2.2.1 (34 + i) 2 = y from (by rw [f.2.2.1 (34 + i) (Or.inl (by unfold pC; omega))]; exact h2)]
  refine Wp.seg 1 (pc1 := 61) (ls1 := [some (.ref 0), some (.int (Int32.ofNat i)), some (.int (a)), some (.int (wA RL A (a - 1)))]) (st1 := [.ref 0, .int (y)]) rfl ?_
  refine Wp.gr (t := (10, 0)) (v := some (7)) rfl (WF.t (f.wf hw (fun z => z)) 0 rfl) rfl (WF.r (f.wf hw (fun z => z)) 0 2 2 rfl) ?_
  show Wp d 147 64 [some (.ref 0), some (.int (Int32.ofNat i)), some (.int (a)), some (.int (wA RL A (a - 1)))] [.ref 7, .int (y)] k Q
  refine Wp.invV (d2 := 2) (as := [.ref 7]) (r := [.int (y)]) (t := (1, 0)) rfl rfl rfl rfl (WF.t (f.wf hw (fun z => z)) 7 rfl) rfl rfl ⟨rfl, rfl⟩ (by omega) (s_shutC (f.wf hw (fun z => z)) cA7 g (Nat.le_refl _) ?_)
  show Wp d 147 67 [some (.ref 0), some (.int (Int32.ofNat i)), some (.int (a)), some (.int (wA RL A (a - 1)))] [.int (shA c (goA RL A (a - 1))), .int (y)] k Q
  refine Wp.if2 rfl (fun c4 => ?_) (fun c4 => absurd (e2) c4)
  refine Wp.seg 1 (pc1 := 75) (ls1 := [some (.ref 0), some (.int (Int32.ofNat i)), some (.int (a)), some (.int (wA RL A (a - 1)))]) (st1 := [.int (0)]) rfl ?_
  exact Wp.reti rfl rfl (hQ k f g)
set_option maxHeartbeats 4000000 in
theorem t_rg5 {d : Nat} {Q : KO → Prop} {h : KH} (hw : WF h) {i : Nat} {a b y : Int32} (hi4 : i < 4) (h0 : h.2.2.1 (34 + i) 0 = a) (h1 : h.2.2.1 (34 + i) 1 = b) (h2 : h.2.2.1 (34 + i) 2 = y) {A1 : Nat → Int32} {RL1 : List Rul} {dn1 : Nat} {A : Nat → Int32} {RL : List Rul} {n c dn en : Nat} (hk1 : cityOK h 1 A1 RL1 n c dn1 en) (hk : cityOK h 7 A RL n c dn en) (hlt : dn < en) (qx : inB a 0 (n : Int) = true) (ht : okT n (a - 1)) (e1 : b = wA RL A (a - 1)) (e2 : y = shA c (goA RL A (a - 1))) (hd : 5 ≤ d) (hQ : ∀ k, Fr (pC 7) noP h k → cityOK k 7 (goA RL A (a - 1)) RL n c (dn + 1) en → (Q (some (.int (1)), k))) : Cl d 147 [.ref 0, .int (Int32.ofNat i)] h Q := by
  refine Cl.of (ls := [some (.ref 0), some (.int (Int32.ofNat i)), none, none]) rfl rfl ?_
  refine Wp.seg 1 (pc1 := 1) (ls1 := [some (.ref 0), some (.int (Int32.ofNat i)), none, none]) (st1 := [.ref 0]) rfl ?_
  refine Wp.gr (t := (10, 0)) (v := some (33)) rfl (WF.t hw 0 rfl) rfl (WF.r hw 0 6 5 rfl) ?_
  show Wp d 147 4 [some (.ref 0), some (.int (Int32.ofNat i)), none, none] [.ref 33] h Q
  refine Wp.seg 1 (pc1 := 5) (ls1 := [some (.ref 0), some (.int (Int32.ofNat i)), none, none]) (st1 := [.int (Int32.ofNat i), .ref 33]) rfl ?_
  refine Wp.aald (j := i) (k := 26) (n := 4) (v := some (34 + i)) rfl (WF.t hw 33 rfl) rfl rfl hi4 (by decide) (row_r hw hi4) ?_
  show Wp d 147 6 [some (.ref 0), some (.int (Int32.ofNat i)), none, none] [.ref (34 + i)] h Q
  refine Wp.seg 1 (pc1 := 7) (ls1 := [some (.ref 0), some (.int (Int32.ofNat i)), none, none]) (st1 := [.int (0), .ref (34 + i)]) rfl ?_
  refine Wp.iald (j := 0) (k := 20) (n := 3) rfl (row_t hw hi4) rfl rfl (by decide) (by decide) ?_
  rw [show h.2.2.1 (34 + i) 0 = a from h0]
  refine Wp.seg 2 (pc1 := 10) (ls1 := [some (.ref 0), some (.int (Int32.ofNat i)), some (.int (a)), none]) (st1 := [.ref 0]) rfl ?_
  refine Wp.gr (t := (10, 0)) (v := some (7)) rfl (WF.t hw 0 rfl) rfl (WF.r hw 0 2 2 rfl) ?_
  show Wp d 147 13 [some (.ref 0), some (.int (Int32.ofNat i)), some (.int (a)), none] [.ref 7] h Q
  refine Wp.invV (d2 := 0) (as := [.ref 7]) (r := []) (t := (1, 0)) rfl rfl rfl rfl (WF.t hw 7 rfl) rfl rfl ⟨rfl, rfl⟩ (by omega) (s_over0 hw cA7 hk hlt ?_)
  show Wp d 147 16 [some (.ref 0), some (.int (Int32.ofNat i)), some (.int (a)), none] [.int (0)] h Q
  refine Wp.if1 rfl (fun c1 => absurd c1 (show ¬ (¬ (0 : Int32) = 0) by decide)) (fun c1 => ?_)
  refine Wp.seg 2 (pc1 := 21) (ls1 := [some (.ref 0), some (.int (Int32.ofNat i)), some (.int (a)), none]) (st1 := [.int (a), .ref 0]) rfl ?_
  refine Wp.invV (d2 := 0) (as := [.ref 0, .int (a)]) (r := []) (t := (10, 0)) rfl rfl rfl rfl (WF.t hw 0 rfl) rfl rfl ⟨rfl, rfl⟩ (by omega) (s_act hw hk1 ?_)
  show Wp d 147 24 [some (.ref 0), some (.int (Int32.ofNat i)), some (.int (a)), none] [.int (b32 (inB a 0 (n : Int)))] h Q
  refine Wp.ifnz rfl (fun c2 => ?_) (fun c2 => absurd (c2.symm.trans (qx)) (by decide))
  refine Wp.seg 1 (pc1 := 30) (ls1 := [some (.ref 0), some (.int (Int32.ofNat i)), some (.int (a)), none]) (st1 := [.ref 0]) rfl ?_
  refine Wp.gr (t := (10, 0)) (v := some (7)) rfl (WF.t hw 0 rfl) rfl (WF.r hw 0 2 2 rfl) ?_
  show Wp d 147 33 [some (.ref 0), some (.int (Int32.ofNat i)), some (.int (a)), none] [.ref 7] h Q
  refine Wp.seg 3 (pc1 := 36) (ls1 := [some (.ref 0), some (.int (Int32.ofNat i)), some (.int (a)), none]) (st1 := [.int (a - (1 : Int32)), .ref 7]) rfl ?_
  refine Wp.invV (d2 := 4) (as := [.ref 7, .int (a - (1 : Int32))]) (r := []) (t := (1, 0)) rfl rfl rfl rfl (WF.t hw 7 rfl) rfl rfl ⟨rfl, rfl⟩ (by omega) (s_cpassF hw cA7 hk hlt ht (Nat.le_refl _) ?_)
  intro k f g
  show Wp d 147 39 [some (.ref 0), some (.int (Int32.ofNat i)), some (.int (a)), none] [.int (wA RL A (a - 1))] k Q
  refine Wp.seg 2 (pc1 := 41) (ls1 := [some (.ref 0), some (.int (Int32.ofNat i)), some (.int (a)), some (.int (wA RL A (a - 1)))]) (st1 := [.ref 0]) rfl ?_
  refine Wp.gr (t := (10, 0)) (v := some (33)) rfl (WF.t (f.wf hw (fun z => z)) 0 rfl) rfl (WF.r (f.wf hw (fun z => z)) 0 6 5 rfl) ?_
  show Wp d 147 44 [some (.ref 0), some (.int (Int32.ofNat i)), some (.int (a)), some (.int (wA RL A (a - 1)))] [.ref 33] k Q
  refine Wp.seg 1 (pc1 := 45) (ls1 := [some (.ref 0), some (.int (Int32.ofNat i)), some (.int (a)), some (.int (wA RL A (a - 1)))]) (st1 := [.int (Int32.ofNat i), .ref 33]) rfl ?_
  refine Wp.aald (j := i) (k := 26) (n := 4) (v := some (34 + i)) rfl (WF.t (f.wf hw (fun z => z)) 33 rfl) rfl rfl hi4 (by decide) (row_r (f.wf hw (fun z => z)) hi4) ?_
  show Wp d 147 46 [some (.ref 0), some (.int (Int32.ofNat i)), some (.int (a)), some (.int (wA RL A (a - 1)))] [.ref (34 + i)] k Q
  refine Wp.seg 1 (pc1 := 47) (ls1 := [some (.ref 0), some (.int (Int32.ofNat i)), some (.int (a)), some (.int (wA RL A (a - 1)))]) (st1 := [.int (1), .ref (34 + i)]) rfl ?_
  refine Wp.iald (j := 1) (k := 20) (n := 3) rfl (row_t (f.wf hw (fun z => z)) hi4) rfl rfl (by decide) (by decide) ?_
  rw [show k.2.2.1 (34 + i) 1 = b from (by rw [f.2.2.1 (34 + i) (Or.inl (by unfold pC; omega))]; exact h1)]
  refine Wp.seg 1 (pc1 := 49) (ls1 := [some (.ref 0), some (.int (Int32.ofNat i)), some (.int (a)), some (.int (wA RL A (a - 1)))]) (st1 := [.int (wA RL A (a - 1)), .int (b)]) rfl ?_
  refine Wp.if2 rfl (fun c3 => absurd c3 (fun z => z e1)) (fun c3 => ?_)
  refine Wp.seg 1 (pc1 := 53) (ls1 := [some (.ref 0), some (.int (Int32.ofNat i)), some (.int (a)), some (.int (wA RL A (a - 1)))]) (st1 := [.ref 0]) rfl ?_
  refine Wp.gr (t := (10, 0)) (v := some (33)) rfl (WF.t (f.wf hw (fun z => z)) 0 rfl) rfl (WF.r (f.wf hw (fun z => z)) 0 6 5 rfl) ?_
  show Wp d 147 56 [some (.ref 0), some (.int (Int32.ofNat i)), some (.int (a)), some (.int (wA RL A (a - 1)))] [.ref 33] k Q
  refine Wp.seg 1 (pc1 := 57) (ls1 := [some (.ref 0), some (.int (Int32.ofNat i)), some (.int (a)), some (.int (wA RL A (a - 1)))]) (st1 := [.int (Int32.ofNat i), .ref 33]) rfl ?_
  refine Wp.aald (j := i) (k := 26) (n := 4) (v := some (34 + i)) rfl (WF.t (f.wf hw (fun z => z)) 33 rfl) rfl rfl hi4 (by decide) (row_r (f.wf hw (fun z => z)) hi4) ?_
  show Wp d 147 58 [some (.ref 0), some (.int (Int32.ofNat i)), some (.int (a)), some (.int (wA RL A (a - 1)))] [.ref (34 + i)] k Q
  refine Wp.seg 1 (pc1 := 59) (ls1 := [some (.ref 0), some (.int (Int32.ofNat i)), some (.int (a)), some (.int (wA RL A (a - 1)))]) (st1 := [.int (2), .ref (34 + i)]) rfl ?_
  refine Wp.iald (j := 2) (k := 20) (n := 3) rfl (row_t (f.wf hw (fun z => z)) hi4) rfl rfl (by decide) (by decide) ?_
  rw [show k.2.2.1 (34 + i) 2 = y from (by rw [f.2.2.1 (34 + i) (Or.inl (by unfold pC; omega))]; exact h2)]
  refine Wp.seg 1 (pc1 := 61) (ls1 := [some (.ref 0), some (.int (Int32.ofNat i)), some (.int (a)), some (.int (wA RL A (a - 1)))]) (st1 := [.ref 0, .int (y)]) rfl ?_
  refine Wp.gr (t := (10, 0)) (v := some (7)) rfl (WF.t (f.wf hw (fun z => z)) 0 rfl) rfl (WF.r (f.wf hw (fun z => z)) 0 2 2 rfl) ?_
  show Wp d 147 64 [some (.ref 0), some (.int (Int32.ofNat i)), some (.int (a)), some (.int (wA RL A (a - 1)))] [.ref 7, .int (y)] k Q
  refine Wp.invV (d2 := 2) (as := [.ref 7]) (r := [.int (y)]) (t := (1, 0)) rfl rfl rfl rfl (WF.t (f.wf hw (fun z => z)) 7 rfl) rfl rfl ⟨rfl, rfl⟩ (by omega) (s_shutC (f.wf hw (fun z => z)) cA7 g (Nat.le_refl _) ?_)
  show Wp d 147 67 [some (.ref 0), some (.int (Int32.ofNat i)), some (.int (a)), some (.int (wA RL A (a - 1)))] [.int (shA c (goA RL A (a - 1))), .int (y)] k Q
  refine Wp.if2 rfl (fun c4 => absurd c4 (fun z => z e2)) (fun c4 => ?_)
  refine Wp.seg 2 (pc1 := 75) (ls1 := [some (.ref 0), some (.int (Int32.ofNat i)), some (.int (a)), some (.int (wA RL A (a - 1)))]) (st1 := [.int (1)]) rfl ?_
  exact Wp.reti rfl rfl (hQ k f g)
abbrev rgB (RL : List Rul) (n c en : Nat) (A : Nat → Int32) (dn : Nat) (a b y : Int32) : Prop := inB a 0 (n : Int) = true ∧ dn < en ∧ b = wA RL A (a - 1) ∧ y = shA c (goA RL A (a - 1))
theorem s_rgT {d : Nat} {Q : KO → Prop} {h : KH} (hw : WF h) {i : Nat} {a b y : Int32} (hi4 : i < 4) (h0 : h.2.2.1 (34 + i) 0 = a) (h1 : h.2.2.1 (34 + i) 1 = b) (h2 : h.2.2.1 (34 + i) 2 = y) {A1 : Nat → Int32} {RL1 : List Rul} {dn1 : Nat} {A : Nat → Int32} {RL : List Rul} {n c dn en : Nat} (hk1 : cityOK h 1 A1 RL1 n c dn1 en) (hk : cityOK h 7 A RL n c dn en) (q : rgB RL n c en A dn a b y) (hd : 5 ≤ d) (hQ : ∀ k, Fr (pC 7) noP h k → cityOK k 7 (goA RL A (a - 1)) RL n c (dn + 1) en → Q (some (.int 1), k)) : Cl d 147 [.ref 0, .int (Int32.ofNat i)] h Q :=
  t_rg5 hw hi4 h0 h1 h2 hk1 hk q.2.1 q.1 (ok_x hk.2.1.1 q.1) q.2.2.1 q.2.2.2 hd hQ
theorem s_rgF {d : Nat} {Q : KO → Prop} {h : KH} (hw : WF h) {i : Nat} {a b y : Int32} (hi4 : i < 4) (h0 : h.2.2.1 (34 + i) 0 = a) (h1 : h.2.2.1 (34 + i) 1 = b) (h2 : h.2.2.1 (34 + i) 2 = y) {A1 : Nat → Int32} {RL1 : List Rul} {dn1 : Nat} {A : Nat → Int32} {RL : List Rul} {n c dn en : Nat} (hk1 : cityOK h 1 A1 RL1 n c dn1 en) (hk : cityOK h 7 A RL n c dn en) (q : ¬ rgB RL n c en A dn a b y) (hd : 5 ≤ d) (hQ : ∀ k, Fr (pC 7) noP h k → Q (some (.int 0), k)) : Cl d 147 [.ref 0, .int (Int32.ofNat i)] h Q := by
  by_cases hlt : dn < en
  · rcases qx : inB a 0 (n : Int) with _ | _
    · exact t_rg2 hw hi4 h0 h1 h2 hk1 hk hlt qx hd (hQ h (Fr.refl h))
    · by_cases e1 : b = wA RL A (a - 1)
      · by_cases e2 : y = shA c (goA RL A (a - 1))
        · exact absurd ⟨qx, hlt, e1, e2⟩ q
        · exact t_rg4 hw hi4 h0 h1 h2 hk1 hk hlt qx (ok_x hk.2.1.1 qx) e1 e2 hd (fun k f _ => hQ k f)
      · exact t_rg3 hw hi4 h0 h1 h2 hk1 hk hlt qx (ok_x hk.2.1.1 qx) e1 hd (fun k f _ => hQ k f)
  · exact t_rg1 hw hi4 h0 h1 h2 hk1 hk hlt hd (hQ h (Fr.refl h))
set_option maxHeartbeats 4000000 in
theorem t_cjd {d : Nat} {Q : KO → Prop} {h : KH} (hw : WF h) (hd : 2 ≤ d) (hQ : ∀ k, Fr (pC 7) (fun c => c = 7) h k → nrm (cS k.2.2.1 7) = nrm (cS h.2.2.1 1) → k.2.1 7 10 = h.2.1 1 10 → k.2.1 7 11 = h.2.1 1 11 → (Wp d 146 13 ([some (.ref 0), some (.int (0))]) [] k Q)) : Cl d 146 [.ref 0] h Q := by
  refine Cl.of (ls := [some (.ref 0), none]) rfl rfl ?_
  refine Wp.seg 1 (pc1 := 1) (ls1 := [some (.ref 0), none]) (st1 := [.ref 0]) rfl ?_
  refine Wp.gr (t := (10, 0)) (v := some (7)) rfl (WF.t hw 0 rfl) rfl (WF.r hw 0 2 2 rfl) ?_
  show Wp d 146 4 [some (.ref 0), none] [.ref 7] h Q
  refine Wp.seg 1 (pc1 := 5) (ls1 := [some (.ref 0), none]) (st1 := [.ref 0, .ref 7]) rfl ?_
  refine Wp.gr (t := (10, 0)) (v := some (1)) rfl (WF.t hw 0 rfl) rfl (WF.r hw 0 0 0 rfl) ?_
  show Wp d 146 8 [some (.ref 0), none] [.ref 1, .ref 7] h Q
  refine Wp.invV (d2 := 1) (as := [.ref 7, .ref 1]) (r := []) (t := (1, 0)) rfl rfl rfl rfl (WF.t hw 7 rfl) rfl rfl ⟨rfl, rfl⟩ (by omega) (s_copy (h := h) hw cA7 cA1 (by decide) (Nat.le_refl _) ?_)
  intro k f e1 e2 e3
  show Wp d 146 11 [some (.ref 0), none] [] k Q
  refine Wp.seg 2 (pc1 := 13) (ls1 := [some (.ref 0), some (.int (0))]) (st1 := []) rfl ?_
  exact (hQ k f e1 e2 e3)
set_option maxHeartbeats 4000000 in
theorem t_cj0 {d : Nat} {Q : KO → Prop} {h : KH} (hw : WF h) {L i : Nat} (h7 : h.2.2.1 0 7 = Int32.ofNat L) (ge : Int32.ofNat L ≤ Int32.ofNat i) (hd : 6 ≤ d) (hQ : Q (some (.int (0)), h)) : Wp d 146 13 [some (.ref 0), some (.int (Int32.ofNat i))] [] h Q := by
  refine Wp.seg 2 (pc1 := 15) (ls1 := [some (.ref 0), some (.int (Int32.ofNat i))]) (st1 := [.ref 0, .int (Int32.ofNat i)]) rfl ?_
  refine Wp.gi (t := (10, 0)) rfl (WF.t hw 0 rfl) (Or.inl rfl) ?_
  rw [show h.2.2.1 0 7 = Int32.ofNat L from h7]
  refine Wp.if2 rfl (fun c1 => ?_) (fun c1 => absurd (ge) c1)
  refine Wp.seg 1 (pc1 := 49) (ls1 := [some (.ref 0), some (.int (Int32.ofNat i))]) (st1 := [.int (0)]) rfl ?_
  exact Wp.reti rfl rfl hQ
set_option maxHeartbeats 4000000 in
theorem t_cj1 {d : Nat} {Q : KO → Prop} {h : KH} (hw : WF h) {i : Nat} {a b y : Int32} (hi4 : i < 4) (h0 : h.2.2.1 (34 + i) 0 = a) (h1 : h.2.2.1 (34 + i) 1 = b) (h2 : h.2.2.1 (34 + i) 2 = y) {A1 : Nat → Int32} {RL1 : List Rul} {dn1 : Nat} {A : Nat → Int32} {RL : List Rul} {n c dn en : Nat} (hk1 : cityOK h 1 A1 RL1 n c dn1 en) (hk : cityOK h 7 A RL n c dn en) {L : Nat} (h7 : h.2.2.1 0 7 = Int32.ofNat L) (ge : ¬ (Int32.ofNat L ≤ Int32.ofNat i)) (g4 : ¬ (Int32.ofNat 4 ≤ Int32.ofNat i)) (q : ¬ rgB RL n c en A dn a b y) (hd : 6 ≤ d) (hQ : ∀ k, Fr (pC 7) noP h k → (Q (some (.int ((Int32.ofNat i) + (1 : Int32))), k))) : Wp d 146 13 [some (.ref 0), some (.int (Int32.ofNat i))] [] h Q := by
  refine Wp.seg 2 (pc1 := 15) (ls1 := [some (.ref 0), some (.int (Int32.ofNat i))]) (st1 := [.ref 0, .int (Int32.ofNat i)]) rfl ?_
  refine Wp.gi (t := (10, 0)) rfl (WF.t hw 0 rfl) (Or.inl rfl) ?_
  rw [show h.2.2.1 0 7 = Int32.ofNat L from h7]
  refine Wp.if2 rfl (fun c1 => absurd c1 (ge)) (fun c1 => ?_)
  refine Wp.seg 2 (pc1 := 23) (ls1 := [some (.ref 0), some (.int (Int32.ofNat i))]) (st1 := [.ref 0, .int (Int32.ofNat i)]) rfl ?_
  refine Wp.gr (t := (10, 0)) (v := some (33)) rfl (WF.t hw 0 rfl) rfl (WF.r hw 0 6 5 rfl) ?_
  show Wp d 146 26 [some (.ref 0), some (.int (Int32.ofNat i))] [.ref 33, .int (Int32.ofNat i)] h Q
  refine Wp.alen (n := 4) (k := 26) rfl (WF.t hw 33 rfl) rfl ?_
  refine Wp.if2 rfl (fun c2 => absurd c2 (g4)) (fun c2 => ?_)
  refine Wp.seg 2 (pc1 := 32) (ls1 := [some (.ref 0), some (.int (Int32.ofNat i))]) (st1 := [.int (Int32.ofNat i), .ref 0]) rfl ?_
  refine Wp.invV (d2 := 5) (as := [.ref 0, .int (Int32.ofNat i)]) (r := []) (t := (10, 0)) rfl rfl rfl rfl (WF.t hw 0 rfl) rfl rfl ⟨rfl, rfl⟩ (by omega) (s_rgF hw hi4 h0 h1 h2 hk1 hk q (Nat.le_refl _) ?_)
  intro k f
  show Wp d 146 35 [some (.ref 0), some (.int (Int32.ofNat i))] [.int (0)] k Q
  refine Wp.if1 rfl (fun c3 => absurd c3 (show ¬ (¬ (0 : Int32) = 0) by decide)) (fun c3 => ?_)
  refine Wp.seg 3 (pc1 := 41) (ls1 := [some (.ref 0), some (.int (Int32.ofNat i))]) (st1 := [.int ((Int32.ofNat i) + (1 : Int32))]) rfl ?_
  exact Wp.reti rfl rfl (hQ k f)
set_option maxHeartbeats 4000000 in
theorem t_cj2 {d : Nat} {Q : KO → Prop} {h : KH} (hw : WF h) {i : Nat} {a b y : Int32} (hi4 : i < 4) (h0 : h.2.2.1 (34 + i) 0 = a) (h1 : h.2.2.1 (34 + i) 1 = b) (h2 : h.2.2.1 (34 + i) 2 = y) {A1 : Nat → Int32} {RL1 : List Rul} {dn1 : Nat} {A : Nat → Int32} {RL : List Rul} {n c dn en : Nat} (hk1 : cityOK h 1 A1 RL1 n c dn1 en) (hk : cityOK h 7 A RL n c dn en) {L : Nat} (h7 : h.2.2.1 0 7 = Int32.ofNat L) (ge : ¬ (Int32.ofNat L ≤ Int32.ofNat i)) (g4 : ¬ (Int32.ofNat 4 ≤ Int32.ofNat i)) (q : rgB RL n c en A dn a b y) (hd : 6 ≤ d) (hQ : ∀ k, Fr (pC 7) noP h k → cityOK k 7 (goA RL A (a - 1)) RL n c (dn + 1) en → (Wp d 146 13 ([some (.ref 0), some (.int ((Int32.ofNat i) + 1))]) [] k Q)) : Wp d 146 13 [some (.ref 0), some (.int (Int32.ofNat i))] [] h Q := by
  refine Wp.seg 2 (pc1 := 15) (ls1 := [some (.ref 0), some (.int (Int32.ofNat i))]) (st1 := [.ref 0, .int (Int32.ofNat i)]) rfl ?_
  refine Wp.gi (t := (10, 0)) rfl (WF.t hw 0 rfl) (Or.inl rfl) ?_
  rw [show h.2.2.1 0 7 = Int32.ofNat L from h7]
  refine Wp.if2 rfl (fun c1 => absurd c1 (ge)) (fun c1 => ?_)
  refine Wp.seg 2 (pc1 := 23) (ls1 := [some (.ref 0), some (.int (Int32.ofNat i))]) (st1 := [.ref 0, .int (Int32.ofNat i)]) rfl ?_
  refine Wp.gr (t := (10, 0)) (v := some (33)) rfl (WF.t hw 0 rfl) rfl (WF.r hw 0 6 5 rfl) ?_
  show Wp d 146 26 [some (.ref 0), some (.int (Int32.ofNat i))] [.ref 33, .int (Int32.ofNat i)] h Q
  refine Wp.alen (n := 4) (k := 26) rfl (WF.t hw 33 rfl) rfl ?_
  refine Wp.if2 rfl (fun c2 => absurd c2 (g4)) (fun c2 => ?_)
  refine Wp.seg 2 (pc1 := 32) (ls1 := [some (.ref 0), some (.int (Int32.ofNat i))]) (st1 := [.int (Int32.ofNat i), .ref 0]) rfl ?_
  refine Wp.invV (d2 := 5) (as := [.ref 0, .int (Int32.ofNat i)]) (r := []) (t := (10, 0)) rfl rfl rfl rfl (WF.t hw 0 rfl) rfl rfl ⟨rfl, rfl⟩ (by omega) (s_rgT hw hi4 h0 h1 h2 hk1 hk q (Nat.le_refl _) ?_)
  intro k f g
  show Wp d 146 35 [some (.ref 0), some (.int (Int32.ofNat i))] [.int (1)] k Q
  refine Wp.if1 rfl (fun c3 => ?_) (fun c3 => absurd (show ¬ (1 : Int32) = 0 by decide) c3)
  refine Wp.seg 2 (pc1 := 13) (ls1 := [some (.ref 0), some (.int ((Int32.ofNat i) + 1))]) (st1 := []) rfl ?_
  exact (hQ k f g)
set_option maxHeartbeats 4000000 in
theorem t_mjd {d : Nat} {Q : KO → Prop} {h : KH} (hw : WF h) {A : Nat → Int32} {RL : List Rul} {n c dn en : Nat} (hk : refOK h A RL n c dn en) (hd : 2 ≤ d) (hQ : ∀ k, Fr (fun c => c = 62) noP h k → refTh k (h.2.2.1 60) A RL n c dn en → (Wp d 263 8 ([some (.ref 59), some (.int (0)), some (.int (0)), none, none]) [] k Q)) : Cl d 263 [.ref 59] h Q := by
  refine Cl.of (ls := [some (.ref 59), none, none, none, none]) rfl rfl ?_
  refine Wp.seg 1 (pc1 := 1) (ls1 := [some (.ref 59), none, none, none, none]) (st1 := [.ref 59]) rfl ?_
  refine Wp.invV (d2 := 1) (as := [.ref 59]) (r := []) (t := (11, 0)) rfl rfl rfl rfl (WF.t hw 59 rfl) rfl rfl ⟨rfl, rfl⟩ (by omega) (r_thinks hw hk (Nat.le_refl _) ?_)
  intro k f g
  show Wp d 263 4 [some (.ref 59), none, none, none, none] [] k Q
  refine Wp.seg 4 (pc1 := 8) (ls1 := [some (.ref 59), some (.int (0)), some (.int (0)), none, none]) (st1 := []) rfl ?_
  exact (hQ k f g)
set_option maxHeartbeats 4000000 in
theorem t_mje {d : Nat} {Q : KO → Prop} {h : KH} (hw : WF h) {S A : Nat → Int32} {RL : List Rul} {n c dn en : Nat} (hk : refTh h S A RL n c dn en) {r : Int32} {i : Nat} {z3 z4 : Option Value} (hd : 6 ≤ d) (hQ : ∀ k, Fr (fun c => c = 60) noP h k → k.2.2.1 60 = S → (Q (some (.int (r)), k))) : Wp d 263 139 [some (.ref 59), some (.int (r)), some (.int (Int32.ofNat i)), z3, z4] [] h Q := by
  refine Wp.seg 1 (pc1 := 140) (ls1 := [some (.ref 59), some (.int (r)), some (.int (Int32.ofNat i)), z3, z4]) (st1 := [.ref 59]) rfl ?_
  refine Wp.invV (d2 := 1) (as := [.ref 59]) (r := []) (t := (11, 0)) rfl rfl rfl rfl (WF.t hw 59 rfl) rfl rfl ⟨rfl, rfl⟩ (by omega) (r_back hw hk (Nat.le_refl _) ?_)
  intro k f e
  show Wp d 263 143 [some (.ref 59), some (.int (r)), some (.int (Int32.ofNat i)), z3, z4] [] k Q
  refine Wp.seg 1 (pc1 := 144) (ls1 := [some (.ref 59), some (.int (r)), some (.int (Int32.ofNat i)), z3, z4]) (st1 := [.int (r)]) rfl ?_
  exact Wp.reti rfl rfl (hQ k f e)
set_option maxHeartbeats 4000000 in
theorem t_mj0 {d : Nat} {Q : KO → Prop} {h : KH} (hw : WF h) {i L : Nat} {z3 z4 : Option Value} (h20 : h.2.2.1 59 20 = Int32.ofNat L) (ge : Int32.ofNat L ≤ Int32.ofNat i) (hd : 6 ≤ d) (hQ : Wp d 263 139 ([some (.ref 59), some (.int (0)), some (.int (Int32.ofNat i)), z3, z4]) [] h Q) : Wp d 263 8 [some (.ref 59), some (.int (0)), some (.int (Int32.ofNat i)), z3, z4] [] h Q := by
  refine Wp.seg 2 (pc1 := 10) (ls1 := [some (.ref 59), some (.int (0)), some (.int (Int32.ofNat i)), z3, z4]) (st1 := [.ref 59, .int (Int32.ofNat i)]) rfl ?_
  refine Wp.gi (t := (11, 0)) rfl (WF.t hw 59 rfl) (Or.inl rfl) ?_
  rw [show h.2.2.1 59 20 = Int32.ofNat L from h20]
  refine Wp.if2 rfl (fun c1 => ?_) (fun c1 => absurd (ge) c1)
  exact hQ
set_option maxHeartbeats 4000000 in
theorem t_mjx {d : Nat} {Q : KO → Prop} {h : KH} (hw : WF h) {i L : Nat} {z3 z4 : Option Value} (h20 : h.2.2.1 59 20 = Int32.ofNat L) {r : Int32} (r0 : ¬ r = 0) (hd : 6 ≤ d) (hQ : ((Int32.ofNat L) ≤ (Int32.ofNat i) → Wp d 263 139 ([some (.ref 59), some (.int (r)), some (.int (Int32.ofNat i)), z3, z4]) [] h Q) ∧ (¬ ((Int32.ofNat L) ≤ (Int32.ofNat i)) → Wp d 263 139 ([some (.ref 59), some (.int (r)), some (.int (Int32.ofNat i)), z3, z4]) [] h Q)) : Wp d 263 8 [some (.ref 59), some (.int (r)), some (.int (Int32.ofNat i)), z3, z4] [] h Q := by
  refine Wp.seg 2 (pc1 := 10) (ls1 := [some (.ref 59), some (.int (r)), some (.int (Int32.ofNat i)), z3, z4]) (st1 := [.ref 59, .int (Int32.ofNat i)]) rfl ?_
  refine Wp.gi (t := (11, 0)) rfl (WF.t hw 59 rfl) (Or.inl rfl) ?_
  rw [show h.2.2.1 59 20 = Int32.ofNat L from h20]
  refine Wp.if2 rfl (fun (c1 : (Int32.ofNat L) ≤ (Int32.ofNat i)) => ?_) (fun (c1 : ¬ ((Int32.ofNat L) ≤ (Int32.ofNat i))) => ?_)
  · exact (hQ.1 c1)
  · refine Wp.seg 1 (pc1 := 17) (ls1 := [some (.ref 59), some (.int (r)), some (.int (Int32.ofNat i)), z3, z4]) (st1 := [.int (r)]) rfl ?_
    refine Wp.if1 rfl (fun c2 => ?_) (fun c2 => absurd (r0) c2)
    exact (hQ.2 c1)
set_option maxHeartbeats 4000000 in
theorem t_mj1 {d : Nat} {Q : KO → Prop} {h : KH} (hw : WF h) {S A : Nat → Int32} {RL : List Rul} {n c dn en : Nat} (hk : refTh h S A RL n c dn en) {i L : Nat} {z3 z4 : Option Value} (h20 : h.2.2.1 59 20 = Int32.ofNat L) {a b y : Int32} (hi4 : i < 4) (h0 : h.2.2.1 67 (3 * i) = a) (h1 : h.2.2.1 67 (3 * i + 1) = b) (h2 : h.2.2.1 67 (3 * i + 2) = y) (ge : ¬ (Int32.ofNat L ≤ Int32.ofNat i)) (qx : inB a 0 (n : Int) = false) (hd : 6 ≤ d) (hQ : Wp d 263 8 ([some (.ref 59), some (.int ((1 : Int32) + (Int32.ofNat i))), some (.int ((Int32.ofNat i) + 1)), some (.int (0)), some (.int (0))]) [] h Q) : Wp d 263 8 [some (.ref 59), some (.int (0)), some (.int (Int32.ofNat i)), z3, z4] [] h Q := by
  refine Wp.seg 2 (pc1 := 10) (ls1 := [some (.ref 59), some (.int (0)), some (.int (Int32.ofNat i)), z3, z4]) (st1 := [.ref 59, .int (Int32.ofNat i)]) rfl ?_
  refine Wp.gi (t := (11, 0)) rfl (WF.t hw 59 rfl) (Or.inl rfl) ?_
  rw [show h.2.2.1 59 20 = Int32.ofNat L from h20]
  refine Wp.if2 rfl (fun c1 => absurd c1 (ge)) (fun c1 => ?_)
  refine Wp.seg 1 (pc1 := 17) (ls1 := [some (.ref 59), some (.int (0)), some (.int (Int32.ofNat i)), z3, z4]) (st1 := [.int (0)]) rfl ?_
  refine Wp.if1 rfl (fun c2 => absurd c2 (show ¬ (¬ (0 : Int32) = 0) by decide)) (fun c2 => ?_)
  refine Wp.seg 1 (pc1 := 21) (ls1 := [some (.ref 59), some (.int (0)), some (.int (Int32.ofNat i)), z3, z4]) (st1 := [.ref 59]) rfl ?_
  refine Wp.gr (t := (11, 0)) (v := some (67)) rfl (WF.t hw 59 rfl) rfl (WF.r hw 59 21 65 rfl) ?_
  show Wp d 263 24 [some (.ref 59), some (.int (0)), some (.int (Int32.ofNat i)), z3, z4] [.ref 67] h Q
  refine Wp.seg 3 (pc1 := 27) (ls1 := [some (.ref 59), some (.int (0)), some (.int (Int32.ofNat i)), z3, z4]) (st1 := [.int ((3 : Int32) * (Int32.ofNat i)), .ref 67]) rfl ?_
  refine Wp.iald (j := (3 * i)) (k := 20) (n := 12) rfl (WF.t hw 67 rfl) rfl (three0 i) (by omega) (by decide) ?_
  rw [show h.2.2.1 67 ((3 * i)) = a from h0]
  refine Wp.seg 2 (pc1 := 30) (ls1 := [some (.ref 59), some (.int (0)), some (.int (Int32.ofNat i)), z3, z4]) (st1 := [.ref 59, .int (0), .int (a)]) rfl ?_
  refine Wp.gr (t := (11, 0)) (v := some (60)) rfl (WF.t hw 59 rfl) rfl (WF.r hw 59 0 58 rfl) ?_
  show Wp d 263 33 [some (.ref 59), some (.int (0)), some (.int (Int32.ofNat i)), z3, z4] [.ref 60, .int (0), .int (a)] h Q
  refine Wp.seg 1 (pc1 := 35) (ls1 := [some (.ref 59), some (.int (0)), some (.int (Int32.ofNat i)), z3, z4]) (st1 := [.int (8), .ref 60, .int (0), .int (a)]) rfl ?_
  refine Wp.iald (j := 8) (k := 20) (n := 585) rfl (WF.t hw 60 rfl) rfl rfl (by decide) (by decide) ?_
  rw [show h.2.2.1 60 8 = Int32.ofNat n from hk.1.2.1.2.1]
  refine Wp.inv (d2 := 0) (as := [.int (a), .int (0), .int (Int32.ofNat n)]) (r := []) rfl rfl rfl rfl rfl rfl (by omega) (s_inB (x := 0) (y := (n : Int)) rfl (znat (by have := hk.1.2.1.1; omega)) ?_)
  show Wp d 263 39 [some (.ref 59), some (.int (0)), some (.int (Int32.ofNat i)), z3, z4] [.int (b32 (inB a 0 (n : Int)))] h Q
  refine Wp.ifz rfl (fun c3 => ?_) (fun c3 => absurd (c3.symm.trans (qx)) (by decide))
  refine Wp.seg 3 (pc1 := 56) (ls1 := [some (.ref 59), some (.int (0)), some (.int (Int32.ofNat i)), some (.int (0)), z4]) (st1 := [.int (0)]) rfl ?_
  refine Wp.if1 rfl (fun c4 => ?_) (fun c4 => absurd (show (0 : Int32) = 0 by decide) c4)
  refine Wp.seg 3 (pc1 := 80) (ls1 := [some (.ref 59), some (.int (0)), some (.int (Int32.ofNat i)), some (.int (0)), some (.int (0))]) (st1 := [.int (0)]) rfl ?_
  refine Wp.if1 rfl (fun c5 => ?_) (fun c5 => absurd (show (0 : Int32) = 0 by decide) c5)
  refine Wp.seg 3 (pc1 := 122) (ls1 := [some (.ref 59), some (.int (0)), some (.int (Int32.ofNat i)), some (.int (0)), some (.int (0))]) (st1 := [.int (0)]) rfl ?_
  refine Wp.if1 rfl (fun c6 => ?_) (fun c6 => absurd (show (0 : Int32) = 0 by decide) c6)
  refine Wp.seg 6 (pc1 := 8) (ls1 := [some (.ref 59), some (.int ((1 : Int32) + (Int32.ofNat i))), some (.int ((Int32.ofNat i) + 1)), some (.int (0)), some (.int (0))]) (st1 := []) rfl ?_
  exact hQ
set_option maxHeartbeats 4000000 in
theorem t_mj2 {d : Nat} {Q : KO → Prop} {h : KH} (hw : WF h) {S A : Nat → Int32} {RL : List Rul} {n c dn en : Nat} (hk : refTh h S A RL n c dn en) {i L : Nat} {z3 z4 : Option Value} (h20 : h.2.2.1 59 20 = Int32.ofNat L) {a b y : Int32} (hi4 : i < 4) (h0 : h.2.2.1 67 (3 * i) = a) (h1 : h.2.2.1 67 (3 * i + 1) = b) (h2 : h.2.2.1 67 (3 * i + 2) = y) (ge : ¬ (Int32.ofNat L ≤ Int32.ofNat i)) (qx : inB a 0 (n : Int) = true) (hlt : ¬ dn < en) (hd : 6 ≤ d) (hQ : Wp d 263 8 ([some (.ref 59), some (.int ((1 : Int32) + (Int32.ofNat i))), some (.int ((Int32.ofNat i) + 1)), some (.int (0)), some (.int (0))]) [] h Q) : Wp d 263 8 [some (.ref 59), some (.int (0)), some (.int (Int32.ofNat i)), z3, z4] [] h Q := by
  refine Wp.seg 2 (pc1 := 10) (ls1 := [some (.ref 59), some (.int (0)), some (.int (Int32.ofNat i)), z3, z4]) (st1 := [.ref 59, .int (Int32.ofNat i)]) rfl ?_
  refine Wp.gi (t := (11, 0)) rfl (WF.t hw 59 rfl) (Or.inl rfl) ?_
  rw [show h.2.2.1 59 20 = Int32.ofNat L from h20]
  refine Wp.if2 rfl (fun c1 => absurd c1 (ge)) (fun c1 => ?_)
  refine Wp.seg 1 (pc1 := 17) (ls1 := [some (.ref 59), some (.int (0)), some (.int (Int32.ofNat i)), z3, z4]) (st1 := [.int (0)]) rfl ?_
  refine Wp.if1 rfl (fun c2 => absurd c2 (show ¬ (¬ (0 : Int32) = 0) by decide)) (fun c2 => ?_)
  refine Wp.seg 1 (pc1 := 21) (ls1 := [some (.ref 59), some (.int (0)), some (.int (Int32.ofNat i)), z3, z4]) (st1 := [.ref 59]) rfl ?_
  refine Wp.gr (t := (11, 0)) (v := some (67)) rfl (WF.t hw 59 rfl) rfl (WF.r hw 59 21 65 rfl) ?_
  show Wp d 263 24 [some (.ref 59), some (.int (0)), some (.int (Int32.ofNat i)), z3, z4] [.ref 67] h Q
  refine Wp.seg 3 (pc1 := 27) (ls1 := [some (.ref 59), some (.int (0)), some (.int (Int32.ofNat i)), z3, z4]) (st1 := [.int ((3 : Int32) * (Int32.ofNat i)), .ref 67]) rfl ?_
  refine Wp.iald (j := (3 * i)) (k := 20) (n := 12) rfl (WF.t hw 67 rfl) rfl (three0 i) (by omega) (by decide) ?_
  rw [show h.2.2.1 67 ((3 * i)) = a from h0]
  refine Wp.seg 2 (pc1 := 30) (ls1 := [some (.ref 59), some (.int (0)), some (.int (Int32.ofNat i)), z3, z4]) (st1 := [.ref 59, .int (0), .int (a)]) rfl ?_
  refine Wp.gr (t := (11, 0)) (v := some (60)) rfl (WF.t hw 59 rfl) rfl (WF.r hw 59 0 58 rfl) ?_
  show Wp d 263 33 [some (.ref 59), some (.int (0)), some (.int (Int32.ofNat i)), z3, z4] [.ref 60, .int (0), .int (a)] h Q
  refine Wp.seg 1 (pc1 := 35) (ls1 := [some (.ref 59), some (.int (0)), some (.int (Int32.ofNat i)), z3, z4]) (st1 := [.int (8), .ref 60, .int (0), .int (a)]) rfl ?_
  refine Wp.iald (j := 8) (k := 20) (n := 585) rfl (WF.t hw 60 rfl) rfl rfl (by decide) (by decide) ?_
  rw [show h.2.2.1 60 8 = Int32.ofNat n from hk.1.2.1.2.1]
  refine Wp.inv (d2 := 0) (as := [.int (a), .int (0), .int (Int32.ofNat n)]) (r := []) rfl rfl rfl rfl rfl rfl (by omega) (s_inB (x := 0) (y := (n : Int)) rfl (znat (by have := hk.1.2.1.1; omega)) ?_)
  show Wp d 263 39 [some (.ref 59), some (.int (0)), some (.int (Int32.ofNat i)), z3, z4] [.int (b32 (inB a 0 (n : Int)))] h Q
  refine Wp.ifz rfl (fun c3 => absurd (c3.symm.trans (qx)) (by decide)) (fun c3 => ?_)
  refine Wp.seg 1 (pc1 := 43) (ls1 := [some (.ref 59), some (.int (0)), some (.int (Int32.ofNat i)), z3, z4]) (st1 := [.ref 59]) rfl ?_
  refine Wp.invV (d2 := 0) (as := [.ref 59]) (r := []) (t := (11, 0)) rfl rfl rfl rfl (WF.t hw 59 rfl) rfl rfl ⟨rfl, rfl⟩ (by omega) (r_over1 hw hk.1 hlt ?_)
  show Wp d 263 46 [some (.ref 59), some (.int (0)), some (.int (Int32.ofNat i)), z3, z4] [.int (1)] h Q
  refine Wp.if1 rfl (fun c4 => ?_) (fun c4 => absurd (show ¬ (1 : Int32) = 0 by decide) c4)
  refine Wp.seg 3 (pc1 := 56) (ls1 := [some (.ref 59), some (.int (0)), some (.int (Int32.ofNat i)), some (.int (0)), z4]) (st1 := [.int (0)]) rfl ?_
  refine Wp.if1 rfl (fun c5 => ?_) (fun c5 => absurd (show (0 : Int32) = 0 by decide) c5)
  refine Wp.seg 3 (pc1 := 80) (ls1 := [some (.ref 59), some (.int (0)), some (.int (Int32.ofNat i)), some (.int (0)), some (.int (0))]) (st1 := [.int (0)]) rfl ?_
  refine Wp.if1 rfl (fun c6 => ?_) (fun c6 => absurd (show (0 : Int32) = 0 by decide) c6)
  refine Wp.seg 3 (pc1 := 122) (ls1 := [some (.ref 59), some (.int (0)), some (.int (Int32.ofNat i)), some (.int (0)), some (.int (0))]) (st1 := [.int (0)]) rfl ?_
  refine Wp.if1 rfl (fun c7 => ?_) (fun c7 => absurd (show (0 : Int32) = 0 by decide) c7)
  refine Wp.seg 6 (pc1 := 8) (ls1 := [some (.ref 59), some (.int ((1 : Int32) + (Int32.ofNat i))), some (.int ((Int32.ofNat i) + 1)), some (.int (0)), some (.int (0))]) (st1 := []) rfl ?_
  exact hQ
set_option maxHeartbeats 4000000 in
theorem t_mj3 {d : Nat} {Q : KO → Prop} {h : KH} (hw : WF h) {S A : Nat → Int32} {RL : List Rul} {n c dn en : Nat} (hk : refTh h S A RL n c dn en) {i L : Nat} {z3 z4 : Option Value} (h20 : h.2.2.1 59 20 = Int32.ofNat L) {a b y : Int32} (hi4 : i < 4) (h0 : h.2.2.1 67 (3 * i) = a) (h1 : h.2.2.1 67 (3 * i + 1) = b) (h2 : h.2.2.1 67 (3 * i + 2) = y) (ge : ¬ (Int32.ofNat L ≤ Int32.ofNat i)) (hlt : dn < en) (qx : inB a 0 (n : Int) = true) (ht : okT n (a - 1)) (e1 : ¬ wA RL A (a - 1) = b) (hd : 6 ≤ d) (hQ : ∀ k, Fr pM noP h k → refOK k (goA RL A (a - 1)) RL n c (dn + 1) en → keepS (k.2.2.1 60) (h.2.2.1 60) → (Wp d 263 8 ([some (.ref 59), some (.int ((1 : Int32) + (Int32.ofNat i))), some (.int ((Int32.ofNat i) + 1)), some (.int (0)), some (.int (wA RL A (a - 1)))]) [] k Q)) : Wp d 263 8 [some (.ref 59), some (.int (0)), some (.int (Int32.ofNat i)), z3, z4] [] h Q := by
  refine Wp.seg 2 (pc1 := 10) (ls1 := [some (.ref 59), some (.int (0)), some (.int (Int32.ofNat i)), z3, z4]) (st1 := [.ref 59, .int (Int32.ofNat i)]) rfl ?_
  refine Wp.gi (t := (11, 0)) rfl (WF.t hw 59 rfl) (Or.inl rfl) ?_
  rw [show h.2.2.1 59 20 = Int32.ofNat L from h20]
  refine Wp.if2 rfl (fun c1 => absurd c1 (ge)) (fun c1 => ?_)
  refine Wp.seg 1 (pc1 := 17) (ls1 := [some (.ref 59), some (.int (0)), some (.int (Int32.ofNat i)), z3, z4]) (st1 := [.int (0)]) rfl ?_
  refine Wp.if1 rfl (fun c2 => absurd c2 (show ¬ (¬ (0 : Int32) = 0) by decide)) (fun c2 => ?_)
  refine Wp.seg 1 (pc1 := 21) (ls1 := [some (.ref 59), some (.int (0)), some (.int (Int32.ofNat i)), z3, z4]) (st1 := [.ref 59]) rfl ?_
  refine Wp.gr (t := (11, 0)) (v := some (67)) rfl (WF.t hw 59 rfl) rfl (WF.r hw 59 21 65 rfl) ?_
  show Wp d 263 24 [some (.ref 59), some (.int (0)), some (.int (Int32.ofNat i)), z3, z4] [.ref 67] h Q
  refine Wp.seg 3 (pc1 := 27) (ls1 := [some (.ref 59), some (.int (0)), some (.int (Int32.ofNat i)), z3, z4]) (st1 := [.int ((3 : Int32) * (Int32.ofNat i)), .ref 67]) rfl ?_
  refine Wp.iald (j := (3 * i)) (k := 20) (n := 12) rfl (WF.t hw 67 rfl) rfl (three0 i) (by omega) (by decide) ?_
  rw [show h.2.2.1 67 ((3 * i)) = a from h0]
  refine Wp.seg 2 (pc1 := 30) (ls1 := [some (.ref 59), some (.int (0)), some (.int (Int32.ofNat i)), z3, z4]) (st1 := [.ref 59, .int (0), .int (a)]) rfl ?_
  refine Wp.gr (t := (11, 0)) (v := some (60)) rfl (WF.t hw 59 rfl) rfl (WF.r hw 59 0 58 rfl) ?_
  show Wp d 263 33 [some (.ref 59), some (.int (0)), some (.int (Int32.ofNat i)), z3, z4] [.ref 60, .int (0), .int (a)] h Q
  refine Wp.seg 1 (pc1 := 35) (ls1 := [some (.ref 59), some (.int (0)), some (.int (Int32.ofNat i)), z3, z4]) (st1 := [.int (8), .ref 60, .int (0), .int (a)]) rfl ?_
  refine Wp.iald (j := 8) (k := 20) (n := 585) rfl (WF.t hw 60 rfl) rfl rfl (by decide) (by decide) ?_
  rw [show h.2.2.1 60 8 = Int32.ofNat n from hk.1.2.1.2.1]
  refine Wp.inv (d2 := 0) (as := [.int (a), .int (0), .int (Int32.ofNat n)]) (r := []) rfl rfl rfl rfl rfl rfl (by omega) (s_inB (x := 0) (y := (n : Int)) rfl (znat (by have := hk.1.2.1.1; omega)) ?_)
  show Wp d 263 39 [some (.ref 59), some (.int (0)), some (.int (Int32.ofNat i)), z3, z4] [.int (b32 (inB a 0 (n : Int)))] h Q
  refine Wp.ifz rfl (fun c3 => absurd (c3.symm.trans (qx)) (by decide)) (fun c3 => ?_)
  refine Wp.seg 1 (pc1 := 43) (ls1 := [some (.ref 59), some (.int (0)), some (.int (Int32.ofNat i)), z3, z4]) (st1 := [.ref 59]) rfl ?_
  refine Wp.invV (d2 := 0) (as := [.ref 59]) (r := []) (t := (11, 0)) rfl rfl rfl rfl (WF.t hw 59 rfl) rfl rfl ⟨rfl, rfl⟩ (by omega) (r_over0 hw hk.1 hlt ?_)
  show Wp d 263 46 [some (.ref 59), some (.int (0)), some (.int (Int32.ofNat i)), z3, z4] [.int (0)] h Q
  refine Wp.if1 rfl (fun c4 => absurd c4 (show ¬ (¬ (0 : Int32) = 0) by decide)) (fun c4 => ?_)
  refine Wp.seg 4 (pc1 := 56) (ls1 := [some (.ref 59), some (.int (0)), some (.int (Int32.ofNat i)), some (.int (1)), z4]) (st1 := [.int (1)]) rfl ?_
  refine Wp.if1 rfl (fun c5 => absurd c5 (show ¬ ((1 : Int32) = 0) by decide)) (fun c5 => ?_)
  refine Wp.seg 2 (pc1 := 61) (ls1 := [some (.ref 59), some (.int (0)), some (.int (Int32.ofNat i)), some (.int (1)), z4]) (st1 := [.ref 59, .ref 59]) rfl ?_
  refine Wp.gr (t := (11, 0)) (v := some (67)) rfl (WF.t hw 59 rfl) rfl (WF.r hw 59 21 65 rfl) ?_
  show Wp d 263 64 [some (.ref 59), some (.int (0)), some (.int (Int32.ofNat i)), some (.int (1)), z4] [.ref 67, .ref 59] h Q
  refine Wp.seg 3 (pc1 := 67) (ls1 := [some (.ref 59), some (.int (0)), some (.int (Int32.ofNat i)), some (.int (1)), z4]) (st1 := [.int ((3 : Int32) * (Int32.ofNat i)), .ref 67, .ref 59]) rfl ?_
  refine Wp.iald (j := (3 * i)) (k := 20) (n := 12) rfl (WF.t hw 67 rfl) rfl (three0 i) (by omega) (by decide) ?_
  rw [show h.2.2.1 67 ((3 * i)) = a from h0]
  refine Wp.seg 2 (pc1 := 70) (ls1 := [some (.ref 59), some (.int (0)), some (.int (Int32.ofNat i)), some (.int (1)), z4]) (st1 := [.int (a - (1 : Int32)), .ref 59]) rfl ?_
  refine Wp.invV (d2 := 5) (as := [.ref 59, .int (a - (1 : Int32))]) (r := []) (t := (11, 0)) rfl rfl rfl rfl (WF.t hw 59 rfl) rfl rfl ⟨rfl, rfl⟩ (by omega) (s_goesF hw hk.1 hlt ht (Nat.le_refl _) ?_)
  intro k f g e
  show Wp d 263 73 [some (.ref 59), some (.int (0)), some (.int (Int32.ofNat i)), some (.int (1)), z4] [.int (wA RL A (a - 1))] k Q
  refine Wp.seg 3 (pc1 := 80) (ls1 := [some (.ref 59), some (.int (0)), some (.int (Int32.ofNat i)), some (.int (1)), some (.int (wA RL A (a - 1)))]) (st1 := [.int (1)]) rfl ?_
  refine Wp.if1 rfl (fun c6 => absurd c6 (show ¬ ((1 : Int32) = 0) by decide)) (fun c6 => ?_)
  refine Wp.seg 2 (pc1 := 86) (ls1 := [some (.ref 59), some (.int (0)), some (.int (Int32.ofNat i)), some (.int (1)), some (.int (wA RL A (a - 1)))]) (st1 := [.ref 59, .int (wA RL A (a - 1))]) rfl ?_
  refine Wp.gr (t := (11, 0)) (v := some (67)) rfl (WF.t (f.wf hw (fun z => z)) 59 rfl) rfl (WF.r (f.wf hw (fun z => z)) 59 21 65 rfl) ?_
  show Wp d 263 89 [some (.ref 59), some (.int (0)), some (.int (Int32.ofNat i)), some (.int (1)), some (.int (wA RL A (a - 1)))] [.ref 67, .int (wA RL A (a - 1))] k Q
  refine Wp.seg 5 (pc1 := 94) (ls1 := [some (.ref 59), some (.int (0)), some (.int (Int32.ofNat i)), some (.int (1)), some (.int (wA RL A (a - 1)))]) (st1 := [.int (((3 : Int32) * (Int32.ofNat i)) + (1 : Int32)), .ref 67, .int (wA RL A (a - 1))]) rfl ?_
  refine Wp.iald (j := (3 * i + 1)) (k := 20) (n := 12) rfl (WF.t (f.wf hw (fun z => z)) 67 rfl) rfl (three i 1) (by omega) (by decide) ?_
  rw [show k.2.2.1 67 ((3 * i + 1)) = b from (by rw [f.2.2.1 67 (Or.inl (by unfold pM; decide))]; exact h1)]
  refine Wp.if2 rfl (fun c7 => ?_) (fun c7 => absurd (e1) c7)
  refine Wp.seg 3 (pc1 := 122) (ls1 := [some (.ref 59), some (.int (0)), some (.int (Int32.ofNat i)), some (.int (0)), some (.int (wA RL A (a - 1)))]) (st1 := [.int (0)]) rfl ?_
  refine Wp.if1 rfl (fun c8 => ?_) (fun c8 => absurd (show (0 : Int32) = 0 by decide) c8)
  refine Wp.seg 6 (pc1 := 8) (ls1 := [some (.ref 59), some (.int ((1 : Int32) + (Int32.ofNat i))), some (.int ((Int32.ofNat i) + 1)), some (.int (0)), some (.int (wA RL A (a - 1)))]) (st1 := []) rfl ?_
  exact (hQ k f g e)
set_option maxHeartbeats 4000000 in
theorem t_mj4 {d : Nat} {Q : KO → Prop} {h : KH} (hw : WF h) {S A : Nat → Int32} {RL : List Rul} {n c dn en : Nat} (hk : refTh h S A RL n c dn en) {i L : Nat} {z3 z4 : Option Value} (h20 : h.2.2.1 59 20 = Int32.ofNat L) {a b y : Int32} (hi4 : i < 4) (h0 : h.2.2.1 67 (3 * i) = a) (h1 : h.2.2.1 67 (3 * i + 1) = b) (h2 : h.2.2.1 67 (3 * i + 2) = y) (ge : ¬ (Int32.ofNat L ≤ Int32.ofNat i)) (hlt : dn < en) (qx : inB a 0 (n : Int) = true) (ht : okT n (a - 1)) (e1 : wA RL A (a - 1) = b) (e2 : ¬ shA c (goA RL A (a - 1)) = y) (hd : 6 ≤ d) (hQ : ∀ k, Fr pM noP h k → refOK k (goA RL A (a - 1)) RL n c (dn + 1) en → keepS (k.2.2.1 60) (h.2.2.1 60) → (Wp d 263 8 ([some (.ref 59), some (.int ((1 : Int32) + (Int32.ofNat i))), some (.int ((Int32.ofNat i) + 1)), some (.int (0)), some (.int (wA RL A (a - 1)))]) [] k Q)) : Wp d 263 8 [some (.ref 59), some (.int (0)), some (.int (Int32.ofNat i)), z3, z4] [] h Q := by
  refine Wp.seg 2 (pc1 := 10) (ls1 := [some (.ref 59), some (.int (0)), some (.int (Int32.ofNat i)), z3, z4]) (st1 := [.ref 59, .int (Int32.ofNat i)]) rfl ?_
  refine Wp.gi (t := (11, 0)) rfl (WF.t hw 59 rfl) (Or.inl rfl) ?_
  rw [show h.2.2.1 59 20 = Int32.ofNat L from h20]
  refine Wp.if2 rfl (fun c1 => absurd c1 (ge)) (fun c1 => ?_)
  refine Wp.seg 1 (pc1 := 17) (ls1 := [some (.ref 59), some (.int (0)), some (.int (Int32.ofNat i)), z3, z4]) (st1 := [.int (0)]) rfl ?_
  refine Wp.if1 rfl (fun c2 => absurd c2 (show ¬ (¬ (0 : Int32) = 0) by decide)) (fun c2 => ?_)
  refine Wp.seg 1 (pc1 := 21) (ls1 := [some (.ref 59), some (.int (0)), some (.int (Int32.ofNat i)), z3, z4]) (st1 := [.ref 59]) rfl ?_
  refine Wp.gr (t := (11, 0)) (v := some (67)) rfl (WF.t hw 59 rfl) rfl (WF.r hw 59 21 65 rfl) ?_
  show Wp d 263 24 [some (.ref 59), some (.int (0)), some (.int (Int32.ofNat i)), z3, z4] [.ref 67] h Q
  refine Wp.seg 3 (pc1 := 27) (ls1 := [some (.ref 59), some (.int (0)), some (.int (Int32.ofNat i)), z3, z4]) (st1 := [.int ((3 : Int32) * (Int32.ofNat i)), .ref 67]) rfl ?_
  refine Wp.iald (j := (3 * i)) (k := 20) (n := 12) rfl (WF.t hw 67 rfl) rfl (three0 i) (by omega) (by decide) ?_
  rw [show h.2.2.1 67 ((3 * i)) = a from h0]
  refine Wp.seg 2 (pc1 := 30) (ls1 := [some (.ref 59), some (.int (0)), some (.int (Int32.ofNat i)), z3, z4]) (st1 := [.ref 59, .int (0), .int (a)]) rfl ?_
  refine Wp.gr (t := (11, 0)) (v := some (60)) rfl (WF.t hw 59 rfl) rfl (WF.r hw 59 0 58 rfl) ?_
  show Wp d 263 33 [some (.ref 59), some (.int (0)), some (.int (Int32.ofNat i)), z3, z4] [.ref 60, .int (0), .int (a)] h Q
  refine Wp.seg 1 (pc1 := 35) (ls1 := [some (.ref 59), some (.int (0)), some (.int (Int32.ofNat i)), z3, z4]) (st1 := [.int (8), .ref 60, .int (0), .int (a)]) rfl ?_
  refine Wp.iald (j := 8) (k := 20) (n := 585) rfl (WF.t hw 60 rfl) rfl rfl (by decide) (by decide) ?_
  rw [show h.2.2.1 60 8 = Int32.ofNat n from hk.1.2.1.2.1]
  refine Wp.inv (d2 := 0) (as := [.int (a), .int (0), .int (Int32.ofNat n)]) (r := []) rfl rfl rfl rfl rfl rfl (by omega) (s_inB (x := 0) (y := (n : Int)) rfl (znat (by have := hk.1.2.1.1; omega)) ?_)
  show Wp d 263 39 [some (.ref 59), some (.int (0)), some (.int (Int32.ofNat i)), z3, z4] [.int (b32 (inB a 0 (n : Int)))] h Q
  refine Wp.ifz rfl (fun c3 => absurd (c3.symm.trans (qx)) (by decide)) (fun c3 => ?_)
  refine Wp.seg 1 (pc1 := 43) (ls1 := [some (.ref 59), some (.int (0)), some (.int (Int32.ofNat i)), z3, z4]) (st1 := [.ref 59]) rfl ?_
  refine Wp.invV (d2 := 0) (as := [.ref 59]) (r := []) (t := (11, 0)) rfl rfl rfl rfl (WF.t hw 59 rfl) rfl rfl ⟨rfl, rfl⟩ (by omega) (r_over0 hw hk.1 hlt ?_)
  show Wp d 263 46 [some (.ref 59), some (.int (0)), some (.int (Int32.ofNat i)), z3, z4] [.int (0)] h Q
  refine Wp.if1 rfl (fun c4 => absurd c4 (show ¬ (¬ (0 : Int32) = 0) by decide)) (fun c4 => ?_)
  refine Wp.seg 4 (pc1 := 56) (ls1 := [some (.ref 59), some (.int (0)), some (.int (Int32.ofNat i)), some (.int (1)), z4]) (st1 := [.int (1)]) rfl ?_
  refine Wp.if1 rfl (fun c5 => absurd c5 (show ¬ ((1 : Int32) = 0) by decide)) (fun c5 => ?_)
  refine Wp.seg 2 (pc1 := 61) (ls1 := [some (.ref 59), some (.int (0)), some (.int (Int32.ofNat i)), some (.int (1)), z4]) (st1 := [.ref 59, .ref 59]) rfl ?_
  refine Wp.gr (t := (11, 0)) (v := some (67)) rfl (WF.t hw 59 rfl) rfl (WF.r hw 59 21 65 rfl) ?_
  show Wp d 263 64 [some (.ref 59), some (.int (0)), some (.int (Int32.ofNat i)), some (.int (1)), z4] [.ref 67, .ref 59] h Q
  refine Wp.seg 3 (pc1 := 67) (ls1 := [some (.ref 59), some (.int (0)), some (.int (Int32.ofNat i)), some (.int (1)), z4]) (st1 := [.int ((3 : Int32) * (Int32.ofNat i)), .ref 67, .ref 59]) rfl ?_
  refine Wp.iald (j := (3 * i)) (k := 20) (n := 12) rfl (WF.t hw 67 rfl) rfl (three0 i) (by omega) (by decide) ?_
  rw [show h.2.2.1 67 ((3 * i)) = a from h0]
  refine Wp.seg 2 (pc1 := 70) (ls1 := [some (.ref 59), some (.int (0)), some (.int (Int32.ofNat i)), some (.int (1)), z4]) (st1 := [.int (a - (1 : Int32)), .ref 59]) rfl ?_
  refine Wp.invV (d2 := 5) (as := [.ref 59, .int (a - (1 : Int32))]) (r := []) (t := (11, 0)) rfl rfl rfl rfl (WF.t hw 59 rfl) rfl rfl ⟨rfl, rfl⟩ (by omega) (s_goesF hw hk.1 hlt ht (Nat.le_refl _) ?_)
  intro k f g e
  show Wp d 263 73 [some (.ref 59), some (.int (0)), some (.int (Int32.ofNat i)), some (.int (1)), z4] [.int (wA RL A (a - 1))] k Q
  refine Wp.seg 3 (pc1 := 80) (ls1 := [some (.ref 59), some (.int (0)), some (.int (Int32.ofNat i)), some (.int (1)), some (.int (wA RL A (a - 1)))]) (st1 := [.int (1)]) rfl ?_
  refine Wp.if1 rfl (fun c6 => absurd c6 (show ¬ ((1 : Int32) = 0) by decide)) (fun c6 => ?_)
  refine Wp.seg 2 (pc1 := 86) (ls1 := [some (.ref 59), some (.int (0)), some (.int (Int32.ofNat i)), some (.int (1)), some (.int (wA RL A (a - 1)))]) (st1 := [.ref 59, .int (wA RL A (a - 1))]) rfl ?_
  refine Wp.gr (t := (11, 0)) (v := some (67)) rfl (WF.t (f.wf hw (fun z => z)) 59 rfl) rfl (WF.r (f.wf hw (fun z => z)) 59 21 65 rfl) ?_
  show Wp d 263 89 [some (.ref 59), some (.int (0)), some (.int (Int32.ofNat i)), some (.int (1)), some (.int (wA RL A (a - 1)))] [.ref 67, .int (wA RL A (a - 1))] k Q
  refine Wp.seg 5 (pc1 := 94) (ls1 := [some (.ref 59), some (.int (0)), some (.int (Int32.ofNat i)), some (.int (1)), some (.int (wA RL A (a - 1)))]) (st1 := [.int (((3 : Int32) * (Int32.ofNat i)) + (1 : Int32)), .ref 67, .int (wA RL A (a - 1))]) rfl ?_
  refine Wp.iald (j := (3 * i + 1)) (k := 20) (n := 12) rfl (WF.t (f.wf hw (fun z => z)) 67 rfl) rfl (three i 1) (by omega) (by decide) ?_
  rw [show k.2.2.1 67 ((3 * i + 1)) = b from (by rw [f.2.2.1 67 (Or.inl (by unfold pM; decide))]; exact h1)]
  refine Wp.if2 rfl (fun c7 => absurd c7 (fun z => z e1)) (fun c7 => ?_)
  refine Wp.seg 1 (pc1 := 99) (ls1 := [some (.ref 59), some (.int (0)), some (.int (Int32.ofNat i)), some (.int (1)), some (.int (wA RL A (a - 1)))]) (st1 := [.ref 59]) rfl ?_
  refine Wp.invV (d2 := 3) (as := [.ref 59]) (r := []) (t := (11, 0)) rfl rfl rfl rfl (WF.t (f.wf hw (fun z => z)) 59 rfl) rfl rfl ⟨rfl, rfl⟩ (by omega) (r_shut (f.wf hw (fun z => z)) g (Nat.le_refl _) ?_)
  show Wp d 263 102 [some (.ref 59), some (.int (0)), some (.int (Int32.ofNat i)), some (.int (1)), some (.int (wA RL A (a - 1)))] [.int (shA c (goA RL A (a - 1)))] k Q
  refine Wp.seg 1 (pc1 := 103) (ls1 := [some (.ref 59), some (.int (0)), some (.int (Int32.ofNat i)), some (.int (1)), some (.int (wA RL A (a - 1)))]) (st1 := [.ref 59, .int (shA c (goA RL A (a - 1)))]) rfl ?_
  refine Wp.gr (t := (11, 0)) (v := some (67)) rfl (WF.t (f.wf hw (fun z => z)) 59 rfl) rfl (WF.r (f.wf hw (fun z => z)) 59 21 65 rfl) ?_
  show Wp d 263 106 [some (.ref 59), some (.int (0)), some (.int (Int32.ofNat i)), some (.int (1)), some (.int (wA RL A (a - 1)))] [.ref 67, .int (shA c (goA RL A (a - 1)))] k Q
  refine Wp.seg 5 (pc1 := 111) (ls1 := [some (.ref 59), some (.int (0)), some (.int (Int32.ofNat i)), some (.int (1)), some (.int (wA RL A (a - 1)))]) (st1 := [.int (((3 : Int32) * (Int32.ofNat i)) + (2 : Int32)), .ref 67, .int (shA c (goA RL A (a - 1)))]) rfl ?_
  refine Wp.iald (j := (3 * i + 2)) (k := 20) (n := 12) rfl (WF.t (f.wf hw (fun z => z)) 67 rfl) rfl (three i 2) (by omega) (by decide) ?_
  rw [show k.2.2.1 67 ((3 * i + 2)) = y from (by rw [f.2.2.1 67 (Or.inl (by unfold pM; decide))]; exact h2)]
  refine Wp.if2 rfl (fun c8 => ?_) (fun c8 => absurd (e2) c8)
  refine Wp.seg 3 (pc1 := 122) (ls1 := [some (.ref 59), some (.int (0)), some (.int (Int32.ofNat i)), some (.int (0)), some (.int (wA RL A (a - 1)))]) (st1 := [.int (0)]) rfl ?_
  refine Wp.if1 rfl (fun c9 => ?_) (fun c9 => absurd (show (0 : Int32) = 0 by decide) c9)
  refine Wp.seg 6 (pc1 := 8) (ls1 := [some (.ref 59), some (.int ((1 : Int32) + (Int32.ofNat i))), some (.int ((Int32.ofNat i) + 1)), some (.int (0)), some (.int (wA RL A (a - 1)))]) (st1 := []) rfl ?_
  exact (hQ k f g e)
set_option maxHeartbeats 4000000 in
theorem t_mj5 {d : Nat} {Q : KO → Prop} {h : KH} (hw : WF h) {S A : Nat → Int32} {RL : List Rul} {n c dn en : Nat} (hk : refTh h S A RL n c dn en) {i L : Nat} {z3 z4 : Option Value} (h20 : h.2.2.1 59 20 = Int32.ofNat L) {a b y : Int32} (hi4 : i < 4) (h0 : h.2.2.1 67 (3 * i) = a) (h1 : h.2.2.1 67 (3 * i + 1) = b) (h2 : h.2.2.1 67 (3 * i + 2) = y) (ge : ¬ (Int32.ofNat L ≤ Int32.ofNat i)) (hlt : dn < en) (qx : inB a 0 (n : Int) = true) (ht : okT n (a - 1)) (e1 : wA RL A (a - 1) = b) (e2 : shA c (goA RL A (a - 1)) = y) (hd : 6 ≤ d) (hQ : ∀ k, Fr pM noP h k → refOK k (goA RL A (a - 1)) RL n c (dn + 1) en → keepS (k.2.2.1 60) (h.2.2.1 60) → (Wp d 263 8 ([some (.ref 59), some (.int (0)), some (.int ((Int32.ofNat i) + 1)), some (.int (1)), some (.int (wA RL A (a - 1)))]) [] k Q)) : Wp d 263 8 [some (.ref 59), some (.int (0)), some (.int (Int32.ofNat i)), z3, z4] [] h Q := by
  refine Wp.seg 2 (pc1 := 10) (ls1 := [some (.ref 59), some (.int (0)), some (.int (Int32.ofNat i)), z3, z4]) (st1 := [.ref 59, .int (Int32.ofNat i)]) rfl ?_
  refine Wp.gi (t := (11, 0)) rfl (WF.t hw 59 rfl) (Or.inl rfl) ?_
  rw [show h.2.2.1 59 20 = Int32.ofNat L from h20]
  refine Wp.if2 rfl (fun c1 => absurd c1 (ge)) (fun c1 => ?_)
  refine Wp.seg 1 (pc1 := 17) (ls1 := [some (.ref 59), some (.int (0)), some (.int (Int32.ofNat i)), z3, z4]) (st1 := [.int (0)]) rfl ?_
  refine Wp.if1 rfl (fun c2 => absurd c2 (show ¬ (¬ (0 : Int32) = 0) by decide)) (fun c2 => ?_)
  refine Wp.seg 1 (pc1 := 21) (ls1 := [some (.ref 59), some (.int (0)), some (.int (Int32.ofNat i)), z3, z4]) (st1 := [.ref 59]) rfl ?_
  refine Wp.gr (t := (11, 0)) (v := some (67)) rfl (WF.t hw 59 rfl) rfl (WF.r hw 59 21 65 rfl) ?_
  show Wp d 263 24 [some (.ref 59), some (.int (0)), some (.int (Int32.ofNat i)), z3, z4] [.ref 67] h Q
  refine Wp.seg 3 (pc1 := 27) (ls1 := [some (.ref 59), some (.int (0)), some (.int (Int32.ofNat i)), z3, z4]) (st1 := [.int ((3 : Int32) * (Int32.ofNat i)), .ref 67]) rfl ?_
  refine Wp.iald (j := (3 * i)) (k := 20) (n := 12) rfl (WF.t hw 67 rfl) rfl (three0 i) (by omega) (by decide) ?_
  rw [show h.2.2.1 67 ((3 * i)) = a from h0]
  refine Wp.seg 2 (pc1 := 30) (ls1 := [some (.ref 59), some (.int (0)), some (.int (Int32.ofNat i)), z3, z4]) (st1 := [.ref 59, .int (0), .int (a)]) rfl ?_
  refine Wp.gr (t := (11, 0)) (v := some (60)) rfl (WF.t hw 59 rfl) rfl (WF.r hw 59 0 58 rfl) ?_
  show Wp d 263 33 [some (.ref 59), some (.int (0)), some (.int (Int32.ofNat i)), z3, z4] [.ref 60, .int (0), .int (a)] h Q
  refine Wp.seg 1 (pc1 := 35) (ls1 := [some (.ref 59), some (.int (0)), some (.int (Int32.ofNat i)), z3, z4]) (st1 := [.int (8), .ref 60, .int (0), .int (a)]) rfl ?_
  refine Wp.iald (j := 8) (k := 20) (n := 585) rfl (WF.t hw 60 rfl) rfl rfl (by decide) (by decide) ?_
  rw [show h.2.2.1 60 8 = Int32.ofNat n from hk.1.2.1.2.1]
  refine Wp.inv (d2 := 0) (as := [.int (a), .int (0), .int (Int32.ofNat n)]) (r := []) rfl rfl rfl rfl rfl rfl (by omega) (s_inB (x := 0) (y := (n : Int)) rfl (znat (by have := hk.1.2.1.1; omega)) ?_)
  show Wp d 263 39 [some (.ref 59), some (.int (0)), some (.int (Int32.ofNat i)), z3, z4] [.int (b32 (inB a 0 (n : Int)))] h Q
  refine Wp.ifz rfl (fun c3 => absurd (c3.symm.trans (qx)) (by decide)) (fun c3 => ?_)
  refine Wp.seg 1 (pc1 := 43) (ls1 := [some (.ref 59), some (.int (0)), some (.int (Int32.ofNat i)), z3, z4]) (st1 := [.ref 59]) rfl ?_
  refine Wp.invV (d2 := 0) (as := [.ref 59]) (r := []) (t := (11, 0)) rfl rfl rfl rfl (WF.t hw 59 rfl) rfl rfl ⟨rfl, rfl⟩ (by omega) (r_over0 hw hk.1 hlt ?_)
  show Wp d 263 46 [some (.ref 59), some (.int (0)), some (.int (Int32.ofNat i)), z3, z4] [.int (0)] h Q
  refine Wp.if1 rfl (fun c4 => absurd c4 (show ¬ (¬ (0 : Int32) = 0) by decide)) (fun c4 => ?_)
  refine Wp.seg 4 (pc1 := 56) (ls1 := [some (.ref 59), some (.int (0)), some (.int (Int32.ofNat i)), some (.int (1)), z4]) (st1 := [.int (1)]) rfl ?_
  refine Wp.if1 rfl (fun c5 => absurd c5 (show ¬ ((1 : Int32) = 0) by decide)) (fun c5 => ?_)
  refine Wp.seg 2 (pc1 := 61) (ls1 := [some (.ref 59), some (.int (0)), some (.int (Int32.ofNat i)), some (.int (1)), z4]) (st1 := [.ref 59, .ref 59]) rfl ?_
  refine Wp.gr (t := (11, 0)) (v := some (67)) rfl (WF.t hw 59 rfl) rfl (WF.r hw 59 21 65 rfl) ?_
  show Wp d 263 64 [some (.ref 59), some (.int (0)), some (.int (Int32.ofNat i)), some (.int (1)), z4] [.ref 67, .ref 59] h Q
  refine Wp.seg 3 (pc1 := 67) (ls1 := [some (.ref 59), some (.int (0)), some (.int (Int32.ofNat i)), some (.int (1)), z4]) (st1 := [.int ((3 : Int32) * (Int32.ofNat i)), .ref 67, .ref 59]) rfl ?_
  refine Wp.iald (j := (3 * i)) (k := 20) (n := 12) rfl (WF.t hw 67 rfl) rfl (three0 i) (by omega) (by decide) ?_
  rw [show h.2.2.1 67 ((3 * i)) = a from h0]
  refine Wp.seg 2 (pc1 := 70) (ls1 := [some (.ref 59), some (.int (0)), some (.int (Int32.ofNat i)), some (.int (1)), z4]) (st1 := [.int (a - (1 : Int32)), .ref 59]) rfl ?_
  refine Wp.invV (d2 := 5) (as := [.ref 59, .int (a - (1 : Int32))]) (r := []) (t := (11, 0)) rfl rfl rfl rfl (WF.t hw 59 rfl) rfl rfl ⟨rfl, rfl⟩ (by omega) (s_goesF hw hk.1 hlt ht (Nat.le_refl _) ?_)
  intro k f g e
  show Wp d 263 73 [some (.ref 59), some (.int (0)), some (.int (Int32.ofNat i)), some (.int (1)), z4] [.int (wA RL A (a - 1))] k Q
  refine Wp.seg 3 (pc1 := 80) (ls1 := [some (.ref 59), some (.int (0)), some (.int (Int32.ofNat i)), some (.int (1)), some (.int (wA RL A (a - 1)))]) (st1 := [.int (1)]) rfl ?_
  refine Wp.if1 rfl (fun c6 => absurd c6 (show ¬ ((1 : Int32) = 0) by decide)) (fun c6 => ?_)
  refine Wp.seg 2 (pc1 := 86) (ls1 := [some (.ref 59), some (.int (0)), some (.int (Int32.ofNat i)), some (.int (1)), some (.int (wA RL A (a - 1)))]) (st1 := [.ref 59, .int (wA RL A (a - 1))]) rfl ?_
  refine Wp.gr (t := (11, 0)) (v := some (67)) rfl (WF.t (f.wf hw (fun z => z)) 59 rfl) rfl (WF.r (f.wf hw (fun z => z)) 59 21 65 rfl) ?_
  show Wp d 263 89 [some (.ref 59), some (.int (0)), some (.int (Int32.ofNat i)), some (.int (1)), some (.int (wA RL A (a - 1)))] [.ref 67, .int (wA RL A (a - 1))] k Q
  refine Wp.seg 5 (pc1 := 94) (ls1 := [some (.ref 59), some (.int (0)), some (.int (Int32.ofNat i)), some (.int (1)), some (.int (wA RL A (a - 1)))]) (st1 := [.int (((3 : Int32) * (Int32.ofNat i)) + (1 : Int32)), .ref 67, .int (wA RL A (a - 1))]) rfl ?_
  refine Wp.iald (j := (3 * i + 1)) (k := 20) (n := 12) rfl (WF.t (f.wf hw (fun z => z)) 67 rfl) rfl (three i 1) (by omega) (by decide) ?_
  rw [show k.2.2.1 67 ((3 * i + 1)) = b from (by rw [f.2.2.1 67 (Or.inl (by unfold pM; decide))]; exact h1)]
  refine Wp.if2 rfl (fun c7 => absurd c7 (fun z => z e1)) (fun c7 => ?_)
  refine Wp.seg 1 (pc1 := 99) (ls1 := [some (.ref 59), some (.int (0)), some (.int (Int32.ofNat i)), some (.int (1)), some (.int (wA RL A (a - 1)))]) (st1 := [.ref 59]) rfl ?_
  refine Wp.invV (d2 := 3) (as := [.ref 59]) (r := []) (t := (11, 0)) rfl rfl rfl rfl (WF.t (f.wf hw (fun z => z)) 59 rfl) rfl rfl ⟨rfl, rfl⟩ (by omega) (r_shut (f.wf hw (fun z => z)) g (Nat.le_refl _) ?_)
  show Wp d 263 102 [some (.ref 59), some (.int (0)), some (.int (Int32.ofNat i)), some (.int (1)), some (.int (wA RL A (a - 1)))] [.int (shA c (goA RL A (a - 1)))] k Q
  refine Wp.seg 1 (pc1 := 103) (ls1 := [some (.ref 59), some (.int (0)), some (.int (Int32.ofNat i)), some (.int (1)), some (.int (wA RL A (a - 1)))]) (st1 := [.ref 59, .int (shA c (goA RL A (a - 1)))]) rfl ?_
  refine Wp.gr (t := (11, 0)) (v := some (67)) rfl (WF.t (f.wf hw (fun z => z)) 59 rfl) rfl (WF.r (f.wf hw (fun z => z)) 59 21 65 rfl) ?_
  show Wp d 263 106 [some (.ref 59), some (.int (0)), some (.int (Int32.ofNat i)), some (.int (1)), some (.int (wA RL A (a - 1)))] [.ref 67, .int (shA c (goA RL A (a - 1)))] k Q
  refine Wp.seg 5 (pc1 := 111) (ls1 := [some (.ref 59), some (.int (0)), some (.int (Int32.ofNat i)), some (.int (1)), some (.int (wA RL A (a - 1)))]) (st1 := [.int (((3 : Int32) * (Int32.ofNat i)) + (2 : Int32)), .ref 67, .int (shA c (goA RL A (a - 1)))]) rfl ?_
  refine Wp.iald (j := (3 * i + 2)) (k := 20) (n := 12) rfl (WF.t (f.wf hw (fun z => z)) 67 rfl) rfl (three i 2) (by omega) (by decide) ?_
  rw [show k.2.2.1 67 ((3 * i + 2)) = y from (by rw [f.2.2.1 67 (Or.inl (by unfold pM; decide))]; exact h2)]
  refine Wp.if2 rfl (fun c8 => absurd c8 (fun z => z e2)) (fun c8 => ?_)
  refine Wp.seg 4 (pc1 := 122) (ls1 := [some (.ref 59), some (.int (0)), some (.int (Int32.ofNat i)), some (.int (1)), some (.int (wA RL A (a - 1)))]) (st1 := [.int (1)]) rfl ?_
  refine Wp.if1 rfl (fun c9 => absurd c9 (show ¬ ((1 : Int32) = 0) by decide)) (fun c9 => ?_)
  refine Wp.seg 5 (pc1 := 8) (ls1 := [some (.ref 59), some (.int (0)), some (.int ((Int32.ofNat i) + 1)), some (.int (1)), some (.int (wA RL A (a - 1)))]) (st1 := []) rfl ?_
  exact (hQ k f g e)
