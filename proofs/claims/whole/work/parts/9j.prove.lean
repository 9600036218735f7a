/-! KM: the class: prove, its walks -/
set_option maxHeartbeats 4000000 in
theorem t_cpv0 {d : Nat} {Q : KO → Prop} {h : KH} (hw : WF h) {v : Int32} (q : inB v 0 4 = false) (hd : 11 ≤ d) (hQ : Q (some (.int (-1)), h)) : Cl d 142 [.ref 0, .int (v)] h Q := by
  refine Cl.of (ls := [some (.ref 0), some (.int (v)), none, none]) rfl rfl ?_
  refine Wp.seg 1 (pc1 := 1) (ls1 := [some (.ref 0), some (.int (v)), none, none]) (st1 := [.int (v)]) rfl ?_
  refine Wp.inv (d2 := 0) (as := [.int (v)]) (r := []) rfl rfl rfl rfl rfl rfl (by omega) (s_b127 ?_)
  show Wp d 142 4 [some (.ref 0), some (.int (v)), none, none] [.int (b32 (inB v 0 4))] h Q
  refine Wp.ifnz rfl (fun c1 => absurd (c1.symm.trans (q)) (by decide)) (fun c1 => ?_)
  refine Wp.seg 1 (pc1 := 8) (ls1 := [some (.ref 0), some (.int (v)), none, none]) (st1 := [.int (-1)]) rfl ?_
  exact Wp.reti rfl rfl hQ
set_option maxHeartbeats 4000000 in
theorem t_cpv1 {d : Nat} {Q : KO → Prop} {h : KH} (hw : WF h) {A : Nat → Int32} {RL : List Rul} {n c dn en : Nat} (hk : cityOK h 1 A RL n c dn en) {m : Nat} (hm : m ≤ 4) (q : inB (Int32.ofNat m) 0 4 = true) (hd : 11 ≤ d) (hQ : ∀ k, Fr pE pE h k → WS k 0 (min m (en - dn)) (PL RL c n 0 (min m (en - dn)) A) → (Wp d 142 33 ([some (.ref 0), some (.int (Int32.ofNat m)), none, none]) [] (kwi k 0 7 (Int32.ofNat (min m (en - dn)))) Q)) : Cl d 142 [.ref 0, .int (Int32.ofNat m)] h Q := by
  refine Cl.of (ls := [some (.ref 0), some (.int (Int32.ofNat m)), none, none]) rfl rfl ?_
  refine Wp.seg 1 (pc1 := 1) (ls1 := [some (.ref 0), some (.int (Int32.ofNat m)), none, none]) (st1 := [.int (Int32.ofNat m)]) rfl ?_
  refine Wp.inv (d2 := 0) (as := [.int (Int32.ofNat m)]) (r := []) rfl rfl rfl rfl rfl rfl (by omega) (s_b127 ?_)
  show Wp d 142 4 [some (.ref 0), some (.int (Int32.ofNat m)), none, none] [.int (b32 (inB (Int32.ofNat m) 0 4))] h Q
  refine Wp.ifnz rfl (fun c1 => ?_) (fun c1 => absurd (c1.symm.trans (q)) (by decide))
  refine Wp.seg 1 (pc1 := 10) (ls1 := [some (.ref 0), some (.int (Int32.ofNat m)), none, none]) (st1 := [.ref 0]) rfl ?_
  refine Wp.gr (t := (10, 0)) (v := some (10)) rfl (WF.t hw 0 rfl) rfl (WF.r hw 0 3 3 rfl) ?_
  show Wp d 142 13 [some (.ref 0), some (.int (Int32.ofNat m)), none, none] [.ref 10] h Q
  refine Wp.seg 1 (pc1 := 14) (ls1 := [some (.ref 0), some (.int (Int32.ofNat m)), none, none]) (st1 := [.ref 0, .ref 10]) rfl ?_
  refine Wp.gr (t := (10, 0)) (v := some (1)) rfl (WF.t hw 0 rfl) rfl (WF.r hw 0 0 0 rfl) ?_
  show Wp d 142 17 [some (.ref 0), some (.int (Int32.ofNat m)), none, none] [.ref 1, .ref 10] h Q
  refine Wp.seg 2 (pc1 := 19) (ls1 := [some (.ref 0), some (.int (Int32.ofNat m)), none, none]) (st1 := [.int (0), .int (Int32.ofNat m), .ref 1, .ref 10]) rfl ?_
  refine Wp.invV (d2 := 10) (as := [.ref 10, .ref 1, .int (Int32.ofNat m), .int (0)]) (r := []) (t := (5, 0)) rfl rfl rfl rfl (WF.t hw 10 rfl) rfl rfl ⟨rfl, rfl⟩ (by omega) (s_explore hw hk hm (Nat.le_refl _) ?_)
  intro k f g
  show Wp d 142 22 [some (.ref 0), some (.int (Int32.ofNat m)), none, none] [] k Q
  refine Wp.seg 2 (pc1 := 24) (ls1 := [some (.ref 0), some (.int (Int32.ofNat m)), none, none]) (st1 := [.ref 0, .ref 0]) rfl ?_
  refine Wp.gr (t := (10, 0)) (v := some (10)) rfl (WF.t (f.wf hw (by unfold pE; omega)) 0 rfl) rfl (WF.r (f.wf hw (by unfold pE; omega)) 0 3 3 rfl) ?_
  show Wp d 142 27 [some (.ref 0), some (.int (Int32.ofNat m)), none, none] [.ref 10, .ref 0] k Q
  refine Wp.gi (t := (5, 0)) rfl (WF.t (f.wf hw (by unfold pE; omega)) 10 rfl) (Or.inl rfl) ?_
  rw [show k.2.2.1 10 3 = Int32.ofNat (min m (en - dn)) from g.2.2.2.2.2.2]
  refine Wp.pi (t := (10, 0)) rfl (WF.t (f.wf hw (by unfold pE; omega)) 0 rfl) (Or.inl rfl) ?_
  exact (hQ k f g)
set_option maxHeartbeats 4000000 in
theorem t_cpv2 {d : Nat} {Q : KO → Prop} {h : KH} (hw : WF h) {v : Int32} (hd : 2 ≤ d) (hQ : ∀ k, Fr (pC 7) (fun c => c = 7) h k → nrm (cS k.2.2.1 7) = nrm (cS h.2.2.1 1) → k.2.1 7 10 = h.2.1 1 10 → k.2.1 7 11 = h.2.1 1 11 → (Wp d 142 46 ([some (.ref 0), some (.int (v)), some (.int (0)), none]) [] k Q)) : Wp d 142 33 [some (.ref 0), some (.int (v)), none, none] [] h Q := by
  refine Wp.seg 1 (pc1 := 34) (ls1 := [some (.ref 0), some (.int (v)), none, none]) (st1 := [.ref 0]) rfl ?_
  refine Wp.gr (t := (10, 0)) (v := some (7)) rfl (WF.t hw 0 rfl) rfl (WF.r hw 0 2 2 rfl) ?_
  show Wp d 142 37 [some (.ref 0), some (.int (v)), none, none] [.ref 7] h Q
  refine Wp.seg 1 (pc1 := 38) (ls1 := [some (.ref 0), some (.int (v)), none, none]) (st1 := [.ref 0, .ref 7]) rfl ?_
  refine Wp.gr (t := (10, 0)) (v := some (1)) rfl (WF.t hw 0 rfl) rfl (WF.r hw 0 0 0 rfl) ?_
  show Wp d 142 41 [some (.ref 0), some (.int (v)), none, none] [.ref 1, .ref 7] h Q
  refine Wp.invV (d2 := 1) (as := [.ref 7, .ref 1]) (r := []) (t := (1, 0)) rfl rfl rfl rfl (WF.t hw 7 rfl) rfl rfl ⟨rfl, rfl⟩ (by omega) (s_copy (h := h) hw cA7 cA1 (by decide) (Nat.le_refl _) ?_)
  intro k f e1 e2 e3
  show Wp d 142 44 [some (.ref 0), some (.int (v)), none, none] [] k Q
  refine Wp.seg 2 (pc1 := 46) (ls1 := [some (.ref 0), some (.int (v)), some (.int (0)), none]) (st1 := []) rfl ?_
  exact (hQ k f e1 e2 e3)
theorem WF_i {h : KH} {a j : Nat} {x : Int32} (hw : WF h) : WF (kwi h a j x) := hw
set_option maxHeartbeats 4000000 in
theorem t_cpv3 {d : Nat} {Q : KO → Prop} {h : KH} (hw : WF h) {v : Int32} {L i : Nat} {z : Option Value} (h7 : h.2.2.1 0 7 = Int32.ofNat L) (ge : Int32.ofNat L ≤ Int32.ofNat i) (hd : 5 ≤ d) (hQ : Q (some (.int (Int32.ofNat L)), h)) : Wp d 142 46 [some (.ref 0), some (.int (v)), some (.int (Int32.ofNat i)), z] [] h Q := by
  refine Wp.seg 2 (pc1 := 48) (ls1 := [some (.ref 0), some (.int (v)), some (.int (Int32.ofNat i)), z]) (st1 := [.ref 0, .int (Int32.ofNat i)]) rfl ?_
  refine Wp.gi (t := (10, 0)) rfl (WF.t hw 0 rfl) (Or.inl rfl) ?_
  rw [show h.2.2.1 0 7 = Int32.ofNat L from h7]
  refine Wp.if2 rfl (fun c1 => ?_) (fun c1 => absurd (ge) c1)
  refine Wp.seg 1 (pc1 := 122) (ls1 := [some (.ref 0), some (.int (v)), some (.int (Int32.ofNat i)), z]) (st1 := [.ref 0]) rfl ?_
  refine Wp.gi (t := (10, 0)) rfl (WF.t hw 0 rfl) (Or.inl rfl) ?_
  rw [show h.2.2.1 0 7 = Int32.ofNat L from h7]
  exact Wp.reti rfl rfl hQ
set_option maxHeartbeats 4000000 in
theorem t_cpv4 {d : Nat} {Q : KO → Prop} {h : KH} (hw : WF h) {v : Int32} {L i : Nat} {z : Option Value} (h7 : h.2.2.1 0 7 = Int32.ofNat L) (ge : ¬ (Int32.ofNat L ≤ Int32.ofNat i)) (g4 : ¬ (Int32.ofNat 4 ≤ Int32.ofNat i)) (hi4 : i < 4) {a : Nat} (ha : h.2.2.1 13 i = Int32.ofNat a) {A : Nat → Int32} {RL : List Rul} {n c dn en : Nat} (hk : cityOK h 7 A RL n c dn en) (hlt : dn < en) (ht : okT n (Int32.ofNat a - 1)) (hd : 5 ≤ d) (hQ : ∀ k, Fr (pC 7) noP (kwi h (34 + i) 0 (Int32.ofNat a)) k → cityOK k 7 (goA RL A (Int32.ofNat a - 1)) RL n c (dn + 1) en → (Wp d 142 46 ([some (.ref 0), some (.int (v)), some (.int ((Int32.ofNat i) + 1)), some (.int (Int32.ofNat a))]) [] (kwi (kwi k (34 + i) 1 (wA RL A (Int32.ofNat a - 1))) (34 + i) 2 (shA c (goA RL A (Int32.ofNat a - 1)))) Q)) : Wp d 142 46 [some (.ref 0), some (.int (v)), some (.int (Int32.ofNat i)), z] [] h Q := by
  refine Wp.seg 2 (pc1 := 48) (ls1 := [some (.ref 0), some (.int (v)), some (.int (Int32.ofNat i)), z]) (st1 := [.ref 0, .int (Int32.ofNat i)]) rfl ?_
  refine Wp.gi (t := (10, 0)) rfl (WF.t hw 0 rfl) (Or.inl rfl) ?_
  rw [show h.2.2.1 0 7 = Int32.ofNat L from h7]
  refine Wp.if2 rfl (fun c1 => absurd c1 (ge)) (fun c1 => ?_)
  refine Wp.seg 2 (pc1 := 56) (ls1 := [some (.ref 0), some (.int (v)), some (.int (Int32.ofNat i)), z]) (st1 := [.ref 0, .int (Int32.ofNat i)]) rfl ?_
  refine Wp.gr (t := (10, 0)) (v := some (33)) rfl (WF.t hw 0 rfl) rfl (WF.r hw 0 6 5 rfl) ?_
  show Wp d 142 59 [some (.ref 0), some (.int (v)), some (.int (Int32.ofNat i)), z] [.ref 33, .int (Int32.ofNat i)] h Q
  refine Wp.alen (n := 4) (k := 26) rfl (WF.t hw 33 rfl) rfl ?_
  refine Wp.if2 rfl (fun c2 => absurd c2 (g4)) (fun c2 => ?_)
  refine Wp.seg 1 (pc1 := 64) (ls1 := [some (.ref 0), some (.int (v)), some (.int (Int32.ofNat i)), z]) (st1 := [.ref 0]) rfl ?_
  refine Wp.gr (t := (10, 0)) (v := some (10)) rfl (WF.t hw 0 rfl) rfl (WF.r hw 0 3 3 rfl) ?_
  show Wp d 142 67 [some (.ref 0), some (.int (v)), some (.int (Int32.ofNat i)), z] [.ref 10] h Q
  refine Wp.gr (t := (5, 0)) (v := some (13)) rfl (WF.t hw 10 rfl) rfl (WF.r hw 10 2 21 rfl) ?_
  show Wp d 142 70 [some (.ref 0), some (.int (v)), some (.int (Int32.ofNat i)), z] [.ref 13] h Q
  refine Wp.seg 1 (pc1 := 71) (ls1 := [some (.ref 0), some (.int (v)), some (.int (Int32.ofNat i)), z]) (st1 := [.int (Int32.ofNat i), .ref 13]) rfl ?_
  refine Wp.iald (j := i) (k := 20) (n := 4) rfl (WF.t hw 13 rfl) rfl rfl hi4 (by decide) ?_
  rw [show h.2.2.1 13 i = Int32.ofNat a from ha]
  refine Wp.seg 2 (pc1 := 74) (ls1 := [some (.ref 0), some (.int (v)), some (.int (Int32.ofNat i)), some (.int (Int32.ofNat a))]) (st1 := [.ref 0]) rfl ?_
  refine Wp.gr (t := (10, 0)) (v := some (33)) rfl (WF.t hw 0 rfl) rfl (WF.r hw 0 6 5 rfl) ?_
  show Wp d 142 77 [some (.ref 0), some (.int (v)), some (.int (Int32.ofNat i)), some (.int (Int32.ofNat a))] [.ref 33] h Q
  refine Wp.seg 1 (pc1 := 78) (ls1 := [some (.ref 0), some (.int (v)), some (.int (Int32.ofNat i)), some (.int (Int32.ofNat a))]) (st1 := [.int (Int32.ofNat i), .ref 33]) rfl ?_
  refine Wp.aald (j := i) (k := 26) (n := 4) (v := some (34 + i)) rfl (WF.t hw 33 rfl) rfl rfl hi4 (by decide) (row_r hw hi4) ?_
  show Wp d 142 79 [some (.ref 0), some (.int (v)), some (.int (Int32.ofNat i)), some (.int (Int32.ofNat a))] [.ref (34 + i)] h Q
  refine Wp.seg 2 (pc1 := 81) (ls1 := [some (.ref 0), some (.int (v)), some (.int (Int32.ofNat i)), some (.int (Int32.ofNat a))]) (st1 := [.int (Int32.ofNat a), .int (0), .ref (34 + i)]) rfl ?_
  refine Wp.iast (j := 0) (n := 3) rfl (row_t hw hi4) rfl (by decide) (by decide) ?_
  refine Wp.seg 1 (pc1 := 83) (ls1 := [some (.ref 0), some (.int (v)), some (.int (Int32.ofNat i)), some (.int (Int32.ofNat a))]) (st1 := [.ref 0]) rfl ?_
  refine Wp.gr (t := (10, 0)) (v := some (33)) rfl (WF.t hw 0 rfl) rfl (WF.r hw 0 6 5 rfl) ?_
  show Wp d 142 86 [some (.ref 0), some (.int (v)), some (.int (Int32.ofNat i)), some (.int (Int32.ofNat a))] [.ref 33] (kwi h (34 + i) 0 (Int32.ofNat a)) Q
  refine Wp.seg 1 (pc1 := 87) (ls1 := [some (.ref 0), some (.int (v)), some (.int (Int32.ofNat i)), some (.int (Int32.ofNat a))]) (st1 := [.int (Int32.ofNat i), .ref 33]) rfl ?_
  refine Wp.aald (j := i) (k := 26) (n := 4) (v := some (34 + i)) rfl (WF.t hw 33 rfl) rfl rfl hi4 (by decide) (row_r hw hi4) ?_
  show Wp d 142 88 [some (.ref 0), some (.int (v)), some (.int (Int32.ofNat i)), some (.int (Int32.ofNat a))] [.ref (34 + i)] (kwi h (34 + i) 0 (Int32.ofNat a)) Q
  refine Wp.seg 2 (pc1 := 90) (ls1 := [some (.ref 0), some (.int (v)), some (.int (Int32.ofNat i)), some (.int (Int32.ofNat a))]) (st1 := [.ref 0, .int (1), .ref (34 + i)]) rfl ?_
  refine Wp.gr (t := (10, 0)) (v := some (7)) rfl (WF.t hw 0 rfl) rfl (WF.r hw 0 2 2 rfl) ?_
  show Wp d 142 93 [some (.ref 0), some (.int (v)), some (.int (Int32.ofNat i)), some (.int (Int32.ofNat a))] [.ref 7, .int (1), .ref (34 + i)] (kwi h (34 + i) 0 (Int32.ofNat a)) Q
  refine Wp.seg 3 (pc1 := 96) (ls1 := [some (.ref 0), some (.int (v)), some (.int (Int32.ofNat i)), some (.int (Int32.ofNat a))]) (st1 := [.int ((Int32.ofNat a) - (1 : Int32)), .ref 7, .int (1), .ref (34 + i)]) rfl ?_
  refine Wp.invV (d2 := 4) (as := [.ref 7, .int ((Int32.ofNat a) - (1 : Int32))]) (r := [.int (1), .ref (34 + i)]) (t := (1, 0)) rfl rfl rfl rfl (WF.t hw 7 rfl) rfl rfl ⟨rfl, rfl⟩ (by omega) (s_cpassF (h := kwi h (34 + i) 0 (Int32.ofNat a)) hw cA7 (city_fr hk (fr_kwi (P := fun c => c = 34 + i) (R := noP) rfl (by omega)) (by omega) (by omega) (fun z => z)) hlt ht (Nat.le_refl _) ?_)
  intro k f g
  show Wp d 142 99 [some (.ref 0), some (.int (v)), some (.int (Int32.ofNat i)), some (.int (Int32.ofNat a))] [.int (wA RL A (Int32.ofNat a - 1)), .int (1), .ref (34 + i)] k Q
  refine Wp.iast (j := 1) (n := 3) rfl (row_t (f.wf hw (fun z => z)) hi4) rfl (by decide) (by decide) ?_
  refine Wp.seg 1 (pc1 := 101) (ls1 := [some (.ref 0), some (.int (v)), some (.int (Int32.ofNat i)), some (.int (Int32.ofNat a))]) (st1 := [.ref 0]) rfl ?_
  refine Wp.gr (t := (10, 0)) (v := some (33)) rfl (WF.t (f.wf hw (fun z => z)) 0 rfl) rfl (WF.r (f.wf hw (fun z => z)) 0 6 5 rfl) ?_
  show Wp d 142 104 [some (.ref 0), some (.int (v)), some (.int (Int32.ofNat i)), some (.int (Int32.ofNat a))] [.ref 33] (kwi k (34 + i) 1 (wA RL A (Int32.ofNat a - 1))) Q
  refine Wp.seg 1 (pc1 := 105) (ls1 := [some (.ref 0), some (.int (v)), some (.int (Int32.ofNat i)), some (.int (Int32.ofNat a))]) (st1 := [.int (Int32.ofNat i), .ref 33]) rfl ?_
  refine Wp.aald (j := i) (k := 26) (n := 4) (v := some (34 + i)) rfl (WF.t (f.wf hw (fun z => z)) 33 rfl) rfl rfl hi4 (by decide) (row_r (f.wf hw (fun z => z)) hi4) ?_
  show Wp d 142 106 [some (.ref 0), some (.int (v)), some (.int (Int32.ofNat i)), some (.int (Int32.ofNat a))] [.ref (34 + i)] (kwi k (34 + i) 1 (wA RL A (Int32.ofNat a - 1))) Q
  refine Wp.seg 2 (pc1 := 108) (ls1 := [some (.ref 0), some (.int (v)), some (.int (Int32.ofNat i)), some (.int (Int32.ofNat a))]) (st1 := [.ref 0, .int (2), .ref (34 + i)]) rfl ?_
  refine Wp.gr (t := (10, 0)) (v := some (7)) rfl (WF.t (f.wf hw (fun z => z)) 0 rfl) rfl (WF.r (f.wf hw (fun z => z)) 0 2 2 rfl) ?_
  show Wp d 142 111 [some (.ref 0), some (.int (v)), some (.int (Int32.ofNat i)), some (.int (Int32.ofNat a))] [.ref 7, .int (2), .ref (34 + i)] (kwi k (34 + i) 1 (wA RL A (Int32.ofNat a - 1))) Q
  refine Wp.invV (d2 := 2) (as := [.ref 7]) (r := [.int (2), .ref (34 + i)]) (t := (1, 0)) rfl rfl rfl rfl (WF.t (f.wf hw (fun z => z)) 7 rfl) rfl rfl ⟨rfl, rfl⟩ (by omega) (s_shutC (h := kwi k (34 + i) 1 (wA RL A (Int32.ofNat a - 1))) (WF_i (f.wf hw (fun z => z))) cA7 (city_fr g (fr_kwi (P := fun c => c = 34 + i) (R := noP) rfl (by omega)) (by omega) (by omega) (fun z => z)) (Nat.le_refl _) ?_)
  show Wp d 142 114 [some (.ref 0), some (.int (v)), some (.int (Int32.ofNat i)), some (.int (Int32.ofNat a))] [.int (shA c (goA RL A (Int32.ofNat a - 1))), .int (2), .ref (34 + i)] (kwi k (34 + i) 1 (wA RL A (Int32.ofNat a - 1))) Q
  refine Wp.iast (j := 2) (n := 3) rfl (row_t (f.wf hw (fun z => z)) hi4) rfl (by decide) (by decide) ?_
  refine Wp.seg 2 (pc1 := 46) (ls1 := [some (.ref 0), some (.int (v)), some (.int ((Int32.ofNat i) + 1)), some (.int (Int32.ofNat a))]) (st1 := []) rfl ?_
  exact (hQ k f g)
