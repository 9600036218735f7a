/-! KM: both sides: set(), anew(), seed(), hand() -/
theorem city_kwiG {h : KH} {a n c dn en n2 c2 dn2 en2 m : Nat} {A : Nat → Int32} {x : Int32} {RL : List Rul} (ha : cityA a) (hk : cityOK h a A RL n c dn en) (hm : m < 9) (ok : okS (ku (cS h.2.2.1 a) m x) n2 c2 dn2 en2) : cityOK (kwi h a (fld m) x) a (ku A m x) RL n2 c2 dn2 en2 := by
  obtain ⟨k1, k2, RLc, k3, k4⟩ := hk
  have ha26 := cA_le ha
  refine ⟨?_, ?_, RLc, ?_, k4⟩
  · rw [cS_kwi _ _ hm, nrm_ku (Or.inl hm), k1]
  · rw [cS_kwi _ _ hm]
    exact ok
  · exact crul_hI (h := h) (I := (kwi h a (fld m) x).2.2.1) (fun b hb => kwi_r (by omega)) k3
theorem ref_kwiG {h : KH} {n c dn en n2 c2 dn2 en2 m : Nat} {A : Nat → Int32} {x : Int32} {RL : List Rul} (hk : refOK h A RL n c dn en) (hm : m < 9) (ok : okS (ku (h.2.2.1 60) m x) n2 c2 dn2 en2) : refOK (kwi h 60 m x) (ku A m x) RL n2 c2 dn2 en2 := by
  obtain ⟨k1, k2, k3⟩ := hk
  have e : (kwi h 60 m x).2.2.1 60 = ku (h.2.2.1 60) m x := ku_s h.2.2.1 60 (ku (h.2.2.1 60) m x)
  unfold refOK
  rw [e]
  exact ⟨by rw [nrm_ku (Or.inl hm), k1], ok, rules_keep (fun i hi => ku_n _ _ (by omega)) k3⟩
theorem okS_0 {S : Nat → Int32} {x n c dn en : Nat} (h : okS S n c dn en) (h1 : 1 ≤ x) (h2 : x ≤ 16) (h3 : dn ≤ x) : okS (ku S 0 (Int32.ofNat x)) n c dn x := by
  obtain ⟨o1, o2, o3, o4, o5, o6, o7, o8, o9, o10⟩ := h
  exact ⟨o1, by rw [ku_n _ _ (by omega)]; exact o2, o3, by rw [ku_n _ _ (by omega)]; exact o4, by rw [ku_n _ _ (by omega)]; exact o5, ku_s _ _ _, h3, h1, h2, fun i hi => handOK_other (j := 0) (by omega) (o10 i hi)⟩
theorem okS_2 {S : Nat → Int32} {x n c dn en : Nat} (h : okS S n c dn en) (h1 : x < 12) : okS (ku S 2 (Int32.ofNat x)) n x dn en := by
  obtain ⟨o1, o2, o3, o4, o5, o6, o7, o8, o9, o10⟩ := h
  exact ⟨o1, by rw [ku_n _ _ (by omega)]; exact o2, h1, ku_s _ _ _, by rw [ku_n _ _ (by omega)]; exact o5, by rw [ku_n _ _ (by omega)]; exact o6, o7, o8, o9, fun i hi => handOK_other (j := 0) (by omega) (o10 i hi)⟩
theorem okS_1 {S : Nat → Int32} {n c dn en : Nat} (h : okS S n c dn en) : okS (ku S 1 0) n c 0 en := by
  obtain ⟨o1, o2, o3, o4, o5, o6, o7, o8, o9, o10⟩ := h
  exact ⟨o1, by rw [ku_n _ _ (by omega)]; exact o2, o3, by rw [ku_n _ _ (by omega)]; exact o4, ku_s _ _ _, by rw [ku_n _ _ (by omega)]; exact o6, Nat.zero_le _, o8, o9, fun i hi => handOK_other (j := 0) (by omega) (o10 i hi)⟩
theorem i32T {a b : Int32} {x y : Int} (ha : a.toInt = x) (hb : b.toInt = y) (h : a < b) : x < y := (zlt ha hb).mp h
theorem i32F {a b : Int32} {x y : Int} (ha : a.toInt = x) (hb : b.toInt = y) (h : ¬ a < b) : y ≤ x := by
  have := mt (zlt ha hb).mpr h
  omega
theorem i32L {a b : Int32} {x y : Int} (ha : a.toInt = x) (hb : b.toInt = y) (h : a ≤ b) : x ≤ y := (zle ha hb).mp h
theorem i32G {a b : Int32} {x y : Int} (ha : a.toInt = x) (hb : b.toInt = y) (h : ¬ a ≤ b) : y < x := by
  have := mt (zle ha hb).mpr h
  omega
set_option maxHeartbeats 4000000 in
theorem t_s94 {d : Nat} {Q : KO → Prop} {h : KH} (hw : WF h) {v : Int32} (hd : 0 ≤ d) (hQ : Q (some (.int (h.2.2.1 1 2)), kwi h 1 2 v)) : Cl d 94 [.ref 0, .int (v)] h Q := by
  refine Cl.of (ls := [some (.ref 0), some (.int (v)), none]) rfl rfl ?_
  refine Wp.seg 1 (pc1 := 1) (ls1 := [some (.ref 0), some (.int (v)), none]) (st1 := [.ref 0]) rfl ?_
  refine Wp.gr (t := (10, 0)) (v := some (1)) rfl (WF.t hw 0 rfl) rfl (WF.r hw 0 0 0 rfl) ?_
  show Wp d 94 4 [some (.ref 0), some (.int (v)), none] [.ref 1] h Q
  refine Wp.gi (t := (1, 0)) rfl (WF.t hw 1 rfl) (Or.inl rfl) ?_
  refine Wp.seg 2 (pc1 := 9) (ls1 := [some (.ref 0), some (.int (v)), some (.int (h.2.2.1 1 2))]) (st1 := [.ref 0]) rfl ?_
  refine Wp.gr (t := (10, 0)) (v := some (1)) rfl (WF.t hw 0 rfl) rfl (WF.r hw 0 0 0 rfl) ?_
  show Wp d 94 12 [some (.ref 0), some (.int (v)), some (.int (h.2.2.1 1 2))] [.ref 1] h Q
  refine Wp.seg 1 (pc1 := 13) (ls1 := [some (.ref 0), some (.int (v)), some (.int (h.2.2.1 1 2))]) (st1 := [.int (v), .ref 1]) rfl ?_
  refine Wp.pi (t := (1, 0)) rfl (WF.t hw 1 rfl) (Or.inl rfl) ?_
  refine Wp.seg 1 (pc1 := 17) (ls1 := [some (.ref 0), some (.int (v)), some (.int (h.2.2.1 1 2))]) (st1 := [.int (h.2.2.1 1 2)]) rfl ?_
  exact Wp.reti rfl rfl hQ
set_option maxHeartbeats 4000000 in
theorem t_s95 {d : Nat} {Q : KO → Prop} {h : KH} (hw : WF h) {v : Int32} (hd : 0 ≤ d) (hQ : Q (some (.int (h.2.2.1 1 3)), kwi h 1 3 v)) : Cl d 95 [.ref 0, .int (v)] h Q := by
  refine Cl.of (ls := [some (.ref 0), some (.int (v)), none]) rfl rfl ?_
  refine Wp.seg 1 (pc1 := 1) (ls1 := [some (.ref 0), some (.int (v)), none]) (st1 := [.ref 0]) rfl ?_
  refine Wp.gr (t := (10, 0)) (v := some (1)) rfl (WF.t hw 0 rfl) rfl (WF.r hw 0 0 0 rfl) ?_
  show Wp d 95 4 [some (.ref 0), some (.int (v)), none] [.ref 1] h Q
  refine Wp.gi (t := (1, 0)) rfl (WF.t hw 1 rfl) (Or.inl rfl) ?_
  refine Wp.seg 2 (pc1 := 9) (ls1 := [some (.ref 0), some (.int (v)), some (.int (h.2.2.1 1 3))]) (st1 := [.ref 0]) rfl ?_
  refine Wp.gr (t := (10, 0)) (v := some (1)) rfl (WF.t hw 0 rfl) rfl (WF.r hw 0 0 0 rfl) ?_
  show Wp d 95 12 [some (.ref 0), some (.int (v)), some (.int (h.2.2.1 1 3))] [.ref 1] h Q
  refine Wp.seg 1 (pc1 := 13) (ls1 := [some (.ref 0), some (.int (v)), some (.int (h.2.2.1 1 3))]) (st1 := [.int (v), .ref 1]) rfl ?_
  refine Wp.pi (t := (1, 0)) rfl (WF.t hw 1 rfl) (Or.inl rfl) ?_
  refine Wp.seg 1 (pc1 := 17) (ls1 := [some (.ref 0), some (.int (v)), some (.int (h.2.2.1 1 3))]) (st1 := [.int (h.2.2.1 1 3)]) rfl ?_
  exact Wp.reti rfl rfl hQ
set_option maxHeartbeats 4000000 in
theorem t_s96 {d : Nat} {Q : KO → Prop} {h : KH} (hw : WF h) {v : Int32} (hd : 0 ≤ d) (hQ : Q (some (.int (h.2.2.1 1 4)), kwi h 1 4 v)) : Cl d 96 [.ref 0, .int (v)] h Q := by
  refine Cl.of (ls := [some (.ref 0), some (.int (v)), none]) rfl rfl ?_
  refine Wp.seg 1 (pc1 := 1) (ls1 := [some (.ref 0), some (.int (v)), none]) (st1 := [.ref 0]) rfl ?_
  refine Wp.gr (t := (10, 0)) (v := some (1)) rfl (WF.t hw 0 rfl) rfl (WF.r hw 0 0 0 rfl) ?_
  show Wp d 96 4 [some (.ref 0), some (.int (v)), none] [.ref 1] h Q
  refine Wp.gi (t := (1, 0)) rfl (WF.t hw 1 rfl) (Or.inl rfl) ?_
  refine Wp.seg 2 (pc1 := 9) (ls1 := [some (.ref 0), some (.int (v)), some (.int (h.2.2.1 1 4))]) (st1 := [.ref 0]) rfl ?_
  refine Wp.gr (t := (10, 0)) (v := some (1)) rfl (WF.t hw 0 rfl) rfl (WF.r hw 0 0 0 rfl) ?_
  show Wp d 96 12 [some (.ref 0), some (.int (v)), some (.int (h.2.2.1 1 4))] [.ref 1] h Q
  refine Wp.seg 1 (pc1 := 13) (ls1 := [some (.ref 0), some (.int (v)), some (.int (h.2.2.1 1 4))]) (st1 := [.int (v), .ref 1]) rfl ?_
  refine Wp.pi (t := (1, 0)) rfl (WF.t hw 1 rfl) (Or.inl rfl) ?_
  refine Wp.seg 1 (pc1 := 17) (ls1 := [some (.ref 0), some (.int (v)), some (.int (h.2.2.1 1 4))]) (st1 := [.int (h.2.2.1 1 4)]) rfl ?_
  exact Wp.reti rfl rfl hQ
set_option maxHeartbeats 4000000 in
theorem t_s97 {d : Nat} {Q : KO → Prop} {h : KH} (hw : WF h) {v : Int32} (hd : 0 ≤ d) (hQ : Q (some (.int (h.2.2.1 1 5)), kwi h 1 5 v)) : Cl d 97 [.ref 0, .int (v)] h Q := by
  refine Cl.of (ls := [some (.ref 0), some (.int (v)), none]) rfl rfl ?_
  refine Wp.seg 1 (pc1 := 1) (ls1 := [some (.ref 0), some (.int (v)), none]) (st1 := [.ref 0]) rfl ?_
  refine Wp.gr (t := (10, 0)) (v := some (1)) rfl (WF.t hw 0 rfl) rfl (WF.r hw 0 0 0 rfl) ?_
  show Wp d 97 4 [some (.ref 0), some (.int (v)), none] [.ref 1] h Q
  refine Wp.gi (t := (1, 0)) rfl (WF.t hw 1 rfl) (Or.inl rfl) ?_
  refine Wp.seg 2 (pc1 := 9) (ls1 := [some (.ref 0), some (.int (v)), some (.int (h.2.2.1 1 5))]) (st1 := [.ref 0]) rfl ?_
  refine Wp.gr (t := (10, 0)) (v := some (1)) rfl (WF.t hw 0 rfl) rfl (WF.r hw 0 0 0 rfl) ?_
  show Wp d 97 12 [some (.ref 0), some (.int (v)), some (.int (h.2.2.1 1 5))] [.ref 1] h Q
  refine Wp.seg 1 (pc1 := 13) (ls1 := [some (.ref 0), some (.int (v)), some (.int (h.2.2.1 1 5))]) (st1 := [.int (v), .ref 1]) rfl ?_
  refine Wp.pi (t := (1, 0)) rfl (WF.t hw 1 rfl) (Or.inl rfl) ?_
  refine Wp.seg 1 (pc1 := 17) (ls1 := [some (.ref 0), some (.int (v)), some (.int (h.2.2.1 1 5))]) (st1 := [.int (h.2.2.1 1 5)]) rfl ?_
  exact Wp.reti rfl rfl hQ
set_option maxHeartbeats 4000000 in
theorem t_s93 {d : Nat} {Q : KO → Prop} {h : KH} (hw : WF h) {A : Nat → Int32} {RL : List Rul} {n c dn en : Nat} (hk : cityOK h 1 A RL n c dn en) {v : Int32} (hd : 0 ≤ d) (hQ : (v < (1 : Int32) → Q (some (.int (-1)), h)) ∧ (¬ (v < (1 : Int32)) → (v ≤ (16 : Int32) → ((Int32.ofNat dn) ≤ v → Q (some (.int (h.2.2.1 1 6)), kwi h 1 6 v)) ∧ (¬ ((Int32.ofNat dn) ≤ v) → Q (some (.int (-4)), h))) ∧ (¬ (v ≤ (16 : Int32)) → Q (some (.int (-1)), h)))) : Cl d 93 [.ref 0, .int (v)] h Q := by
  refine Cl.of (ls := [some (.ref 0), some (.int (v)), none]) rfl rfl ?_
  refine Wp.seg 2 (pc1 := 2) (ls1 := [some (.ref 0), some (.int (v)), none]) (st1 := [.int (1), .int (v)]) rfl ?_
  refine Wp.if2 rfl (fun (c1 : v < (1 : Int32)) => ?_) (fun (c1 : ¬ (v < (1 : Int32))) => ?_)
  · refine Wp.seg 1 (pc1 := 12) (ls1 := [some (.ref 0), some (.int (v)), none]) (st1 := [.int (-1)]) rfl ?_
    exact Wp.reti rfl rfl (hQ.1 c1)
  · refine Wp.seg 2 (pc1 := 8) (ls1 := [some (.ref 0), some (.int (v)), none]) (st1 := [.int (16), .int (v)]) rfl ?_
    refine Wp.if2 rfl (fun (c2 : v ≤ (16 : Int32)) => ?_) (fun (c2 : ¬ (v ≤ (16 : Int32))) => ?_)
    · refine Wp.seg 2 (pc1 := 15) (ls1 := [some (.ref 0), some (.int (v)), none]) (st1 := [.ref 0, .int (v)]) rfl ?_
      refine Wp.gr (t := (10, 0)) (v := some (1)) rfl (WF.t hw 0 rfl) rfl (WF.r hw 0 0 0 rfl) ?_
      show Wp d 93 18 [some (.ref 0), some (.int (v)), none] [.ref 1, .int (v)] h Q
      refine Wp.gi (t := (1, 0)) rfl (WF.t hw 1 rfl) (Or.inl rfl) ?_
      rw [show h.2.2.1 1 7 = Int32.ofNat dn from hk.2.1.2.2.2.2.1]
      refine Wp.if2 rfl (fun (c3 : (Int32.ofNat dn) ≤ v) => ?_) (fun (c3 : ¬ ((Int32.ofNat dn) ≤ v)) => ?_)
      · refine Wp.seg 1 (pc1 := 28) (ls1 := [some (.ref 0), some (.int (v)), none]) (st1 := [.ref 0]) rfl ?_
        refine Wp.gr (t := (10, 0)) (v := some (1)) rfl (WF.t hw 0 rfl) rfl (WF.r hw 0 0 0 rfl) ?_
        show Wp d 93 31 [some (.ref 0), some (.int (v)), none] [.ref 1] h Q
        refine Wp.gi (t := (1, 0)) rfl (WF.t hw 1 rfl) (Or.inl rfl) ?_
        refine Wp.seg 2 (pc1 := 36) (ls1 := [some (.ref 0), some (.int (v)), some (.int (h.2.2.1 1 6))]) (st1 := [.ref 0]) rfl ?_
        refine Wp.gr (t := (10, 0)) (v := some (1)) rfl (WF.t hw 0 rfl) rfl (WF.r hw 0 0 0 rfl) ?_
        show Wp d 93 39 [some (.ref 0), some (.int (v)), some (.int (h.2.2.1 1 6))] [.ref 1] h Q
        refine Wp.seg 1 (pc1 := 40) (ls1 := [some (.ref 0), some (.int (v)), some (.int (h.2.2.1 1 6))]) (st1 := [.int (v), .ref 1]) rfl ?_
        refine Wp.pi (t := (1, 0)) rfl (WF.t hw 1 rfl) (Or.inl rfl) ?_
        refine Wp.seg 1 (pc1 := 44) (ls1 := [some (.ref 0), some (.int (v)), some (.int (h.2.2.1 1 6))]) (st1 := [.int (h.2.2.1 1 6)]) rfl ?_
        exact Wp.reti rfl rfl (((hQ.2 c1).1 c2).1 c3)
      · refine Wp.seg 1 (pc1 := 26) (ls1 := [some (.ref 0), some (.int (v)), none]) (st1 := [.int (-4)]) rfl ?_
        exact Wp.reti rfl rfl (((hQ.2 c1).1 c2).2 c3)
    · refine Wp.seg 1 (pc1 := 12) (ls1 := [some (.ref 0), some (.int (v)), none]) (st1 := [.int (-1)]) rfl ?_
      exact Wp.reti rfl rfl ((hQ.2 c1).2 c2)
set_option maxHeartbeats 4000000 in
theorem t_cs1 {d : Nat} {Q : KO → Prop} {h : KH} (hw : WF h) {v : Int32} (hd : 1 ≤ d) (hQ : ((inB v 0 11) = false → Q (some (.int (-1)), h)) ∧ ((inB v 0 11) = true → Q (some (.int (h.2.2.1 1 2)), kwi h 1 2 v))) : Cl d 92 [.ref 0, .int (1), .int (v)] h Q := by
  refine Cl.of (ls := [some (.ref 0), some (.int (1)), some (.int (v))]) rfl rfl ?_
  refine Wp.seg 1 (pc1 := 1) (ls1 := [some (.ref 0), some (.int (1)), some (.int (v))]) (st1 := [.int (1)]) rfl ?_
  refine Wp.br (pc1 := 42) (st1 := []) rfl rfl ?_
  refine Wp.seg 1 (pc1 := 43) (ls1 := [some (.ref 0), some (.int (1)), some (.int (v))]) (st1 := [.int (v)]) rfl ?_
  refine Wp.inv (d2 := 0) (as := [.int (v)]) (r := []) rfl rfl rfl rfl rfl rfl (by omega) (s_b104 ?_)
  show Wp d 92 46 [some (.ref 0), some (.int (1)), some (.int (v))] [.int (b32 (inB v 0 11))] h Q
  refine Wp.ifz rfl (fun (c1 : (inB v 0 11) = false) => ?_) (fun (c1 : (inB v 0 11) = true) => ?_)
  · refine Wp.seg 1 (pc1 := 58) (ls1 := [some (.ref 0), some (.int (1)), some (.int (v))]) (st1 := [.int (-1)]) rfl ?_
    exact Wp.reti rfl rfl (hQ.1 c1)
  · refine Wp.seg 2 (pc1 := 51) (ls1 := [some (.ref 0), some (.int (1)), some (.int (v))]) (st1 := [.int (v), .ref 0]) rfl ?_
    refine Wp.invV (d2 := 0) (as := [.ref 0, .int (v)]) (r := []) (t := (10, 0)) rfl rfl rfl rfl (WF.t hw 0 rfl) rfl rfl ⟨rfl, rfl⟩ (by omega) (t_s94 hw (Nat.zero_le _) ?_)
    show Wp d 92 54 [some (.ref 0), some (.int (1)), some (.int (v))] [.int (h.2.2.1 1 2)] (kwi h 1 2 v) Q
    refine Wp.seg 1 (pc1 := 58) (ls1 := [some (.ref 0), some (.int (1)), some (.int (v))]) (st1 := [.int (h.2.2.1 1 2)]) rfl ?_
    exact Wp.reti rfl rfl (hQ.2 c1)
set_option maxHeartbeats 4000000 in
theorem t_cs2 {d : Nat} {Q : KO → Prop} {h : KH} (hw : WF h) {v : Int32} (hd : 1 ≤ d) (hQ : ((inB v 0 131071) = false → Q (some (.int (-1)), h)) ∧ ((inB v 0 131071) = true → Q (some (.int (h.2.2.1 1 3)), kwi h 1 3 v))) : Cl d 92 [.ref 0, .int (2), .int (v)] h Q := by
  refine Cl.of (ls := [some (.ref 0), some (.int (2)), some (.int (v))]) rfl rfl ?_
  refine Wp.seg 1 (pc1 := 1) (ls1 := [some (.ref 0), some (.int (2)), some (.int (v))]) (st1 := [.int (2)]) rfl ?_
  refine Wp.br (pc1 := 59) (st1 := []) rfl rfl ?_
  refine Wp.seg 2 (pc1 := 62) (ls1 := [some (.ref 0), some (.int (2)), some (.int (v))]) (st1 := [.int (131071), .int (v)]) rfl ?_
  refine Wp.inv (d2 := 0) (as := [.int (v), .int (131071)]) (r := []) rfl rfl rfl rfl rfl rfl (by omega) (s_b107 (y := 131071) rfl ?_)
  show Wp d 92 65 [some (.ref 0), some (.int (2)), some (.int (v))] [.int (b32 (inB v 0 131071))] h Q
  refine Wp.ifz rfl (fun (c1 : (inB v 0 131071) = false) => ?_) (fun (c1 : (inB v 0 131071) = true) => ?_)
  · refine Wp.seg 1 (pc1 := 77) (ls1 := [some (.ref 0), some (.int (2)), some (.int (v))]) (st1 := [.int (-1)]) rfl ?_
    exact Wp.reti rfl rfl (hQ.1 c1)
  · refine Wp.seg 2 (pc1 := 70) (ls1 := [some (.ref 0), some (.int (2)), some (.int (v))]) (st1 := [.int (v), .ref 0]) rfl ?_
    refine Wp.invV (d2 := 0) (as := [.ref 0, .int (v)]) (r := []) (t := (10, 0)) rfl rfl rfl rfl (WF.t hw 0 rfl) rfl rfl ⟨rfl, rfl⟩ (by omega) (t_s95 hw (Nat.zero_le _) ?_)
    show Wp d 92 73 [some (.ref 0), some (.int (2)), some (.int (v))] [.int (h.2.2.1 1 3)] (kwi h 1 3 v) Q
    refine Wp.seg 1 (pc1 := 77) (ls1 := [some (.ref 0), some (.int (2)), some (.int (v))]) (st1 := [.int (h.2.2.1 1 3)]) rfl ?_
    exact Wp.reti rfl rfl (hQ.2 c1)
set_option maxHeartbeats 4000000 in
theorem t_cs3 {d : Nat} {Q : KO → Prop} {h : KH} (hw : WF h) {v : Int32} (hd : 1 ≤ d) (hQ : ((inB v 0 131071) = false → Q (some (.int (-1)), h)) ∧ ((inB v 0 131071) = true → Q (some (.int (h.2.2.1 1 4)), kwi h 1 4 v))) : Cl d 92 [.ref 0, .int (3), .int (v)] h Q := by
  refine Cl.of (ls := [some (.ref 0), some (.int (3)), some (.int (v))]) rfl rfl ?_
  refine Wp.seg 1 (pc1 := 1) (ls1 := [some (.ref 0), some (.int (3)), some (.int (v))]) (st1 := [.int (3)]) rfl ?_
  refine Wp.br (pc1 := 78) (st1 := []) rfl rfl ?_
  refine Wp.seg 2 (pc1 := 81) (ls1 := [some (.ref 0), some (.int (3)), some (.int (v))]) (st1 := [.int (131071), .int (v)]) rfl ?_
  refine Wp.inv (d2 := 0) (as := [.int (v), .int (131071)]) (r := []) rfl rfl rfl rfl rfl rfl (by omega) (s_b107 (y := 131071) rfl ?_)
  show Wp d 92 84 [some (.ref 0), some (.int (3)), some (.int (v))] [.int (b32 (inB v 0 131071))] h Q
  refine Wp.ifz rfl (fun (c1 : (inB v 0 131071) = false) => ?_) (fun (c1 : (inB v 0 131071) = true) => ?_)
  · refine Wp.seg 1 (pc1 := 96) (ls1 := [some (.ref 0), some (.int (3)), some (.int (v))]) (st1 := [.int (-1)]) rfl ?_
    exact Wp.reti rfl rfl (hQ.1 c1)
  · refine Wp.seg 2 (pc1 := 89) (ls1 := [some (.ref 0), some (.int (3)), some (.int (v))]) (st1 := [.int (v), .ref 0]) rfl ?_
    refine Wp.invV (d2 := 0) (as := [.ref 0, .int (v)]) (r := []) (t := (10, 0)) rfl rfl rfl rfl (WF.t hw 0 rfl) rfl rfl ⟨rfl, rfl⟩ (by omega) (t_s96 hw (Nat.zero_le _) ?_)
    show Wp d 92 92 [some (.ref 0), some (.int (3)), some (.int (v))] [.int (h.2.2.1 1 4)] (kwi h 1 4 v) Q
    refine Wp.seg 1 (pc1 := 96) (ls1 := [some (.ref 0), some (.int (3)), some (.int (v))]) (st1 := [.int (h.2.2.1 1 4)]) rfl ?_
    exact Wp.reti rfl rfl (hQ.2 c1)
set_option maxHeartbeats 4000000 in
theorem t_cs4 {d : Nat} {Q : KO → Prop} {h : KH} (hw : WF h) {v : Int32} (hd : 1 ≤ d) (hQ : ((inB v 0 65535) = false → Q (some (.int (-1)), h)) ∧ ((inB v 0 65535) = true → Q (some (.int (h.2.2.1 1 5)), kwi h 1 5 v))) : Cl d 92 [.ref 0, .int (4), .int (v)] h Q := by
  refine Cl.of (ls := [some (.ref 0), some (.int (4)), some (.int (v))]) rfl rfl ?_
  refine Wp.seg 1 (pc1 := 1) (ls1 := [some (.ref 0), some (.int (4)), some (.int (v))]) (st1 := [.int (4)]) rfl ?_
  refine Wp.br (pc1 := 97) (st1 := []) rfl rfl ?_
  refine Wp.seg 2 (pc1 := 100) (ls1 := [some (.ref 0), some (.int (4)), some (.int (v))]) (st1 := [.int (65535), .int (v)]) rfl ?_
  refine Wp.inv (d2 := 0) (as := [.int (v), .int (65535)]) (r := []) rfl rfl rfl rfl rfl rfl (by omega) (s_b107 (y := 65535) rfl ?_)
  show Wp d 92 103 [some (.ref 0), some (.int (4)), some (.int (v))] [.int (b32 (inB v 0 65535))] h Q
  refine Wp.ifz rfl (fun (c1 : (inB v 0 65535) = false) => ?_) (fun (c1 : (inB v 0 65535) = true) => ?_)
  · refine Wp.seg 1 (pc1 := 115) (ls1 := [some (.ref 0), some (.int (4)), some (.int (v))]) (st1 := [.int (-1)]) rfl ?_
    exact Wp.reti rfl rfl (hQ.1 c1)
  · refine Wp.seg 2 (pc1 := 108) (ls1 := [some (.ref 0), some (.int (4)), some (.int (v))]) (st1 := [.int (v), .ref 0]) rfl ?_
    refine Wp.invV (d2 := 0) (as := [.ref 0, .int (v)]) (r := []) (t := (10, 0)) rfl rfl rfl rfl (WF.t hw 0 rfl) rfl rfl ⟨rfl, rfl⟩ (by omega) (t_s97 hw (Nat.zero_le _) ?_)
    show Wp d 92 111 [some (.ref 0), some (.int (4)), some (.int (v))] [.int (h.2.2.1 1 5)] (kwi h 1 5 v) Q
    refine Wp.seg 1 (pc1 := 115) (ls1 := [some (.ref 0), some (.int (4)), some (.int (v))]) (st1 := [.int (h.2.2.1 1 5)]) rfl ?_
    exact Wp.reti rfl rfl (hQ.2 c1)
set_option maxHeartbeats 4000000 in
theorem t_ms0 {d : Nat} {Q : KO → Prop} {h : KH} (hw : WF h) {A : Nat → Int32} {RL : List Rul} {n c dn en : Nat} (hk : refOK h A RL n c dn en) {v : Int32} (hd : 2 ≤ d) (hQ : ((inB v 1 16) = true → ((Int32.ofNat dn) ≤ v → Q (some (.int (h.2.2.1 60 0)), kwi h 60 0 v)) ∧ (¬ ((Int32.ofNat dn) ≤ v) → Q (some (.int (-4)), h))) ∧ ((inB v 1 16) = false → Q (some (.int (-1)), h))) : Cl d 198 [.ref 59, .int (0), .int (v)] h Q := by
  refine Cl.of (ls := [some (.ref 59), some (.int (0)), some (.int (v))]) rfl rfl ?_
  refine Wp.seg 1 (pc1 := 1) (ls1 := [some (.ref 59), some (.int (0)), some (.int (v))]) (st1 := [.int (0)]) rfl ?_
  refine Wp.br (pc1 := 36) (st1 := []) rfl rfl ?_
  refine Wp.seg 3 (pc1 := 40) (ls1 := [some (.ref 59), some (.int (0)), some (.int (v))]) (st1 := [.int (16), .int (1), .int (v)]) rfl ?_
  refine Wp.inv (d2 := 0) (as := [.int (v), .int (1), .int (16)]) (r := []) rfl rfl rfl rfl rfl rfl (by omega) (s_inB (x := 1) (y := 16) rfl rfl ?_)
  show Wp d 198 43 [some (.ref 59), some (.int (0)), some (.int (v))] [.int (b32 (inB v 1 16))] h Q
  refine Wp.ifnz rfl (fun (c1 : (inB v 1 16) = true) => ?_) (fun (c1 : (inB v 1 16) = false) => ?_)
  · refine Wp.seg 2 (pc1 := 52) (ls1 := [some (.ref 59), some (.int (0)), some (.int (v))]) (st1 := [.ref 59, .int (v)]) rfl ?_
    refine Wp.gr (t := (11, 0)) (v := some (60)) rfl (WF.t hw 59 rfl) rfl (WF.r hw 59 0 58 rfl) ?_
    show Wp d 198 55 [some (.ref 59), some (.int (0)), some (.int (v))] [.ref 60, .int (v)] h Q
    refine Wp.seg 1 (pc1 := 56) (ls1 := [some (.ref 59), some (.int (0)), some (.int (v))]) (st1 := [.int (1), .ref 60, .int (v)]) rfl ?_
    refine Wp.iald (j := 1) (k := 20) (n := 585) rfl (WF.t hw 60 rfl) rfl rfl (by decide) (by decide) ?_
    rw [show h.2.2.1 60 1 = Int32.ofNat dn from hk.2.1.2.2.2.2.1]
    refine Wp.if2 rfl (fun (c2 : (Int32.ofNat dn) ≤ v) => ?_) (fun (c2 : ¬ ((Int32.ofNat dn) ≤ v)) => ?_)
    · refine Wp.seg 3 (pc1 := 68) (ls1 := [some (.ref 59), some (.int (0)), some (.int (v))]) (st1 := [.int (v), .int (0), .ref 59]) rfl ?_
      refine Wp.invV (d2 := 0) (as := [.ref 59, .int (0), .int (v)]) (r := []) (t := (11, 0)) rfl rfl rfl rfl (WF.t hw 59 rfl) rfl rfl ⟨rfl, rfl⟩ (by omega) (s_becomes hw (i := 0) rfl (by decide) ?_)
      show Wp d 198 71 [some (.ref 59), some (.int (0)), some (.int (v))] [.int (h.2.2.1 60 0)] (kwi h 60 0 v) Q
      exact Wp.reti rfl rfl ((hQ.1 c1).1 c2)
    · refine Wp.seg 2 (pc1 := 71) (ls1 := [some (.ref 59), some (.int (0)), some (.int (v))]) (st1 := [.int (-4)]) rfl ?_
      exact Wp.reti rfl rfl ((hQ.1 c1).2 c2)
  · refine Wp.seg 2 (pc1 := 71) (ls1 := [some (.ref 59), some (.int (0)), some (.int (v))]) (st1 := [.int (-1)]) rfl ?_
    exact Wp.reti rfl rfl (hQ.2 c1)
set_option maxHeartbeats 4000000 in
theorem t_ms1 {d : Nat} {Q : KO → Prop} {h : KH} (hw : WF h) {A : Nat → Int32} {RL : List Rul} {n c dn en : Nat} (hk : refOK h A RL n c dn en) {v : Int32} (hd : 2 ≤ d) (hQ : ((inB v 0 11) = false → Q (some (.int (-1)), h)) ∧ ((inB v 0 11) = true → Q (some (.int (h.2.2.1 60 2)), kwi h 60 2 v))) : Cl d 198 [.ref 59, .int (1), .int (v)] h Q := by
  refine Cl.of (ls := [some (.ref 59), some (.int (1)), some (.int (v))]) rfl rfl ?_
  refine Wp.seg 1 (pc1 := 1) (ls1 := [some (.ref 59), some (.int (1)), some (.int (v))]) (st1 := [.int (1)]) rfl ?_
  refine Wp.br (pc1 := 72) (st1 := []) rfl rfl ?_
  refine Wp.seg 1 (pc1 := 73) (ls1 := [some (.ref 59), some (.int (1)), some (.int (v))]) (st1 := [.int (v)]) rfl ?_
  refine Wp.inv (d2 := 1) (as := [.int (v)]) (r := []) rfl rfl rfl rfl rfl rfl (by omega) (s_b176 (Nat.le_refl _) ?_)
  show Wp d 198 76 [some (.ref 59), some (.int (1)), some (.int (v))] [.int (b32 (inB v 0 11))] h Q
  refine Wp.ifz rfl (fun (c1 : (inB v 0 11) = false) => ?_) (fun (c1 : (inB v 0 11) = true) => ?_)
  · refine Wp.seg 1 (pc1 := 89) (ls1 := [some (.ref 59), some (.int (1)), some (.int (v))]) (st1 := [.int (-1)]) rfl ?_
    exact Wp.reti rfl rfl (hQ.1 c1)
  · refine Wp.seg 3 (pc1 := 82) (ls1 := [some (.ref 59), some (.int (1)), some (.int (v))]) (st1 := [.int (v), .int (2), .ref 59]) rfl ?_
    refine Wp.invV (d2 := 0) (as := [.ref 59, .int (2), .int (v)]) (r := []) (t := (11, 0)) rfl rfl rfl rfl (WF.t hw 59 rfl) rfl rfl ⟨rfl, rfl⟩ (by omega) (s_becomes hw (i := 2) rfl (by decide) ?_)
    show Wp d 198 85 [some (.ref 59), some (.int (1)), some (.int (v))] [.int (h.2.2.1 60 2)] (kwi h 60 2 v) Q
    refine Wp.seg 1 (pc1 := 89) (ls1 := [some (.ref 59), some (.int (1)), some (.int (v))]) (st1 := [.int (h.2.2.1 60 2)]) rfl ?_
    exact Wp.reti rfl rfl (hQ.2 c1)
set_option maxHeartbeats 4000000 in
theorem t_ms2 {d : Nat} {Q : KO → Prop} {h : KH} (hw : WF h) {A : Nat → Int32} {RL : List Rul} {n c dn en : Nat} (hk : refOK h A RL n c dn en) {v : Int32} (hd : 2 ≤ d) (hQ : ((inB v 0 131071) = false → Q (some (.int (-1)), h)) ∧ ((inB v 0 131071) = true → Q (some (.int (h.2.2.1 60 3)), kwi h 60 3 v))) : Cl d 198 [.ref 59, .int (2), .int (v)] h Q := by
  refine Cl.of (ls := [some (.ref 59), some (.int (2)), some (.int (v))]) rfl rfl ?_
  refine Wp.seg 1 (pc1 := 1) (ls1 := [some (.ref 59), some (.int (2)), some (.int (v))]) (st1 := [.int (2)]) rfl ?_
  refine Wp.br (pc1 := 90) (st1 := []) rfl rfl ?_
  refine Wp.seg 3 (pc1 := 94) (ls1 := [some (.ref 59), some (.int (2)), some (.int (v))]) (st1 := [.int (131071), .int (0), .int (v)]) rfl ?_
  refine Wp.inv (d2 := 0) (as := [.int (v), .int (0), .int (131071)]) (r := []) rfl rfl rfl rfl rfl rfl (by omega) (s_inB (x := 0) (y := 131071) rfl rfl ?_)
  show Wp d 198 97 [some (.ref 59), some (.int (2)), some (.int (v))] [.int (b32 (inB v 0 131071))] h Q
  refine Wp.ifz rfl (fun (c1 : (inB v 0 131071) = false) => ?_) (fun (c1 : (inB v 0 131071) = true) => ?_)
  · refine Wp.seg 1 (pc1 := 114) (ls1 := [some (.ref 59), some (.int (2)), some (.int (v))]) (st1 := [.int (-1)]) rfl ?_
    exact Wp.reti rfl rfl (hQ.1 c1)
  · refine Wp.seg 7 (pc1 := 107) (ls1 := [some (.ref 59), some (.int (2)), some (.int (v))]) (st1 := [.int (v), .int (3), .ref 59]) rfl ?_
    refine Wp.invV (d2 := 0) (as := [.ref 59, .int (3), .int (v)]) (r := []) (t := (11, 0)) rfl rfl rfl rfl (WF.t hw 59 rfl) rfl rfl ⟨rfl, rfl⟩ (by omega) (s_becomes hw (i := 3) rfl (by decide) ?_)
    show Wp d 198 110 [some (.ref 59), some (.int (2)), some (.int (v))] [.int (h.2.2.1 60 3)] (kwi h 60 3 v) Q
    refine Wp.seg 1 (pc1 := 114) (ls1 := [some (.ref 59), some (.int (2)), some (.int (v))]) (st1 := [.int (h.2.2.1 60 3)]) rfl ?_
    exact Wp.reti rfl rfl (hQ.2 c1)
set_option maxHeartbeats 4000000 in
theorem t_ms3 {d : Nat} {Q : KO → Prop} {h : KH} (hw : WF h) {A : Nat → Int32} {RL : List Rul} {n c dn en : Nat} (hk : refOK h A RL n c dn en) {v : Int32} (hd : 2 ≤ d) (hQ : ((inB v 0 131071) = false → Q (some (.int (-1)), h)) ∧ ((inB v 0 131071) = true → Q (some (.int (h.2.2.1 60 4)), kwi h 60 4 v))) : Cl d 198 [.ref 59, .int (3), .int (v)] h Q := by
  refine Cl.of (ls := [some (.ref 59), some (.int (3)), some (.int (v))]) rfl rfl ?_
  refine Wp.seg 1 (pc1 := 1) (ls1 := [some (.ref 59), some (.int (3)), some (.int (v))]) (st1 := [.int (3)]) rfl ?_
  refine Wp.br (pc1 := 90) (st1 := []) rfl rfl ?_
  refine Wp.seg 3 (pc1 := 94) (ls1 := [some (.ref 59), some (.int (3)), some (.int (v))]) (st1 := [.int (131071), .int (0), .int (v)]) rfl ?_
  refine Wp.inv (d2 := 0) (as := [.int (v), .int (0), .int (131071)]) (r := []) rfl rfl rfl rfl rfl rfl (by omega) (s_inB (x := 0) (y := 131071) rfl rfl ?_)
  show Wp d 198 97 [some (.ref 59), some (.int (3)), some (.int (v))] [.int (b32 (inB v 0 131071))] h Q
  refine Wp.ifz rfl (fun (c1 : (inB v 0 131071) = false) => ?_) (fun (c1 : (inB v 0 131071) = true) => ?_)
  · refine Wp.seg 1 (pc1 := 114) (ls1 := [some (.ref 59), some (.int (3)), some (.int (v))]) (st1 := [.int (-1)]) rfl ?_
    exact Wp.reti rfl rfl (hQ.1 c1)
  · refine Wp.seg 7 (pc1 := 107) (ls1 := [some (.ref 59), some (.int (3)), some (.int (v))]) (st1 := [.int (v), .int (4), .ref 59]) rfl ?_
    refine Wp.invV (d2 := 0) (as := [.ref 59, .int (4), .int (v)]) (r := []) (t := (11, 0)) rfl rfl rfl rfl (WF.t hw 59 rfl) rfl rfl ⟨rfl, rfl⟩ (by omega) (s_becomes hw (i := 4) rfl (by decide) ?_)
    show Wp d 198 110 [some (.ref 59), some (.int (3)), some (.int (v))] [.int (h.2.2.1 60 4)] (kwi h 60 4 v) Q
    refine Wp.seg 1 (pc1 := 114) (ls1 := [some (.ref 59), some (.int (3)), some (.int (v))]) (st1 := [.int (h.2.2.1 60 4)]) rfl ?_
    exact Wp.reti rfl rfl (hQ.2 c1)
set_option maxHeartbeats 4000000 in
theorem t_ms4 {d : Nat} {Q : KO → Prop} {h : KH} (hw : WF h) {A : Nat → Int32} {RL : List Rul} {n c dn en : Nat} (hk : refOK h A RL n c dn en) {v : Int32} (hd : 2 ≤ d) (hQ : ((inB v 0 65535) = false → Q (some (.int (-1)), h)) ∧ ((inB v 0 65535) = true → Q (some (.int (h.2.2.1 60 5)), kwi h 60 5 v))) : Cl d 198 [.ref 59, .int (4), .int (v)] h Q := by
  refine Cl.of (ls := [some (.ref 59), some (.int (4)), some (.int (v))]) rfl rfl ?_
  refine Wp.seg 1 (pc1 := 1) (ls1 := [some (.ref 59), some (.int (4)), some (.int (v))]) (st1 := [.int (4)]) rfl ?_
  refine Wp.br (pc1 := 115) (st1 := []) rfl rfl ?_
  refine Wp.seg 3 (pc1 := 119) (ls1 := [some (.ref 59), some (.int (4)), some (.int (v))]) (st1 := [.int (65535), .int (0), .int (v)]) rfl ?_
  refine Wp.inv (d2 := 0) (as := [.int (v), .int (0), .int (65535)]) (r := []) rfl rfl rfl rfl rfl rfl (by omega) (s_inB (x := 0) (y := 65535) rfl rfl ?_)
  show Wp d 198 122 [some (.ref 59), some (.int (4)), some (.int (v))] [.int (b32 (inB v 0 65535))] h Q
  refine Wp.ifz rfl (fun (c1 : (inB v 0 65535) = false) => ?_) (fun (c1 : (inB v 0 65535) = true) => ?_)
  · refine Wp.seg 1 (pc1 := 135) (ls1 := [some (.ref 59), some (.int (4)), some (.int (v))]) (st1 := [.int (-1)]) rfl ?_
    exact Wp.reti rfl rfl (hQ.1 c1)
  · refine Wp.seg 3 (pc1 := 128) (ls1 := [some (.ref 59), some (.int (4)), some (.int (v))]) (st1 := [.int (v), .int (5), .ref 59]) rfl ?_
    refine Wp.invV (d2 := 0) (as := [.ref 59, .int (5), .int (v)]) (r := []) (t := (11, 0)) rfl rfl rfl rfl (WF.t hw 59 rfl) rfl rfl ⟨rfl, rfl⟩ (by omega) (s_becomes hw (i := 5) rfl (by decide) ?_)
    show Wp d 198 131 [some (.ref 59), some (.int (4)), some (.int (v))] [.int (h.2.2.1 60 5)] (kwi h 60 5 v) Q
    refine Wp.seg 1 (pc1 := 135) (ls1 := [some (.ref 59), some (.int (4)), some (.int (v))]) (st1 := [.int (h.2.2.1 60 5)]) rfl ?_
    exact Wp.reti rfl rfl (hQ.2 c1)
set_option maxHeartbeats 4000000 in
theorem t_csX {d : Nat} {Q : KO → Prop} {h : KH} {w v : Int32} (n0 : ¬ w = 0) (n1 : ¬ w = 1) (n2 : ¬ w = 2) (n3 : ¬ w = 3) (n4 : ¬ w = 4) (hd : 0 ≤ d) (hQ : Q (some (.int (-1)), h)) : Cl d 92 [.ref 0, .int (w), .int (v)] h Q := by
  refine Cl.of (ls := [some (.ref 0), some (.int (w)), some (.int (v))]) rfl rfl ?_
  refine Wp.seg 1 (pc1 := 1) (ls1 := [some (.ref 0), some (.int (w)), some (.int (v))]) (st1 := [.int (w)]) rfl ?_
  refine Wp.tsw rfl ?_
  refine ⟨fun c1 => absurd c1 (n0), fun c1 => ?_⟩
  refine ⟨fun c2 => absurd c2 (n1), fun c2 => ?_⟩
  refine ⟨fun c3 => absurd c3 (n2), fun c3 => ?_⟩
  refine ⟨fun c4 => absurd c4 (n3), fun c4 => ?_⟩
  refine ⟨fun c5 => absurd c5 (n4), fun c5 => ?_⟩
  show Wp d 92 116 [some (.ref 0), some (.int (w)), some (.int (v))] [] h Q
  refine Wp.seg 1 (pc1 := 117) (ls1 := [some (.ref 0), some (.int (w)), some (.int (v))]) (st1 := [.int (-1)]) rfl ?_
  exact Wp.reti rfl rfl hQ
set_option maxHeartbeats 4000000 in
theorem t_msX {d : Nat} {Q : KO → Prop} {h : KH} {w v : Int32} (n0 : ¬ w = 0) (n1 : ¬ w = 1) (n2 : ¬ w = 2) (n3 : ¬ w = 3) (n4 : ¬ w = 4) (hd : 0 ≤ d) (hQ : Q (some (.int (-1)), h)) : Cl d 198 [.ref 59, .int (w), .int (v)] h Q := by
  refine Cl.of (ls := [some (.ref 59), some (.int (w)), some (.int (v))]) rfl rfl ?_
  refine Wp.seg 1 (pc1 := 1) (ls1 := [some (.ref 59), some (.int (w)), some (.int (v))]) (st1 := [.int (w)]) rfl ?_
  refine Wp.tsw rfl ?_
  refine ⟨fun c1 => absurd c1 (n0), fun c1 => ?_⟩
  refine ⟨fun c2 => absurd c2 (n1), fun c2 => ?_⟩
  refine ⟨fun c3 => absurd c3 (n2), fun c3 => ?_⟩
  refine ⟨fun c4 => absurd c4 (n3), fun c4 => ?_⟩
  refine ⟨fun c5 => absurd c5 (n4), fun c5 => ?_⟩
  show Wp d 198 136 [some (.ref 59), some (.int (w)), some (.int (v))] [] h Q
  refine Wp.seg 1 (pc1 := 137) (ls1 := [some (.ref 59), some (.int (w)), some (.int (v))]) (st1 := [.int (-1)]) rfl ?_
  exact Wp.reti rfl rfl hQ
theorem t_cs0 {d : Nat} {Q : KO → Prop} {h : KH} (hw : WF h) {v : Int32} (hd : 1 ≤ d) (hc : Cl 0 93 [.ref 0, .int v] h (fun o => ∃ x, o.1 = some (.int x) ∧ Q (some (.int x), o.2))) : Cl d 92 [.ref 0, .int 0, .int v] h Q := by
  refine Cl.of (ls := [some (.ref 0), some (.int (0)), some (.int (v))]) rfl rfl ?_
  refine Wp.seg 1 (pc1 := 1) (ls1 := [some (.ref 0), some (.int (0)), some (.int (v))]) (st1 := [.int 0]) rfl ?_
  refine Wp.br (pc1 := 36) (st1 := []) rfl rfl ?_
  refine Wp.seg 2 (pc1 := 38) (ls1 := [some (.ref 0), some (.int (0)), some (.int (v))]) (st1 := [.int v, .ref 0]) rfl ?_
  refine Wp.invV (d2 := 0) (as := [.ref 0, .int v]) (r := []) (t := (10, 0)) rfl rfl rfl rfl (WF.t hw 0 rfl) rfl rfl ⟨rfl, rfl⟩ (by omega) (hc.post ?_)
  rintro ⟨o1, o2⟩ ⟨x, rfl, hx⟩
  show Wp d 92 41 [some (.ref 0), some (.int (0)), some (.int (v))] [.int x] o2 Q
  exact Wp.reti rfl rfl hx
theorem J_set {h : KH} (hw : WF h) {A : Nat → Int32} {RL : List Rul} {n c dn en : Nat} (hk : both h A RL n c dn en) (w v : Int32) : JJ h RL 92 [.ref 0, .int w, .int v] 198 [.ref 59, .int w, .int v] := by
  have o := hk.1.2.1
  have hdn16 : dn ≤ 16 := by
    have a := o.2.2.2.2.2.2.1
    have b := o.2.2.2.2.2.2.2.2.1
    omega
  by_cases w0 : w = 0
  · subst w0
    by_cases q : inB v 1 16 = true
    · obtain ⟨x, hx1, hx2, rfl⟩ := inB_natL (a := 1) (b := 16) q
      by_cases hdx : dn ≤ x
      · refine J_m (v := A 0) (B := ku A 0 (Int32.ofNat x)) (n2 := n) (c2 := c) (dn2 := dn) (en2 := x) (dc := 1) (dm := 2) hw hk (t_cs0 hw (by decide) (t_s93 hw hk.1 (by decide) ?_)) (fun k kw kk => ?_)
        · have z : mc (A 0) (ku A 0 (Int32.ofNat x)) RL n c dn x h (some (.int (h.2.2.1 1 6)), kwi h 1 6 (Int32.ofNat x)) := by
            rw [show h.2.2.1 1 6 = A 0 from congrFun hk.1.1 0]
            exact mc_i (fr_kwi (by unfold pC; omega) (by decide)) (city_kwiG (m := 0) cA1 hk.1 (by decide) (okS_0 hk.1.2.1 hx1 hx2 hdx))
          exact ⟨fun c1 => absurd (i32T (znat (n := x) (by omega)) (show (1 : Int32).toInt = 1 from rfl) c1) (by omega), fun _ => ⟨fun _ => ⟨fun _ => ⟨_, rfl, z⟩, fun c3 => absurd ((ole (by omega) (by omega)).mpr hdx) c3⟩, fun c2 => absurd (i32G (znat (n := x) (by omega)) (show (16 : Int32).toInt = 16 from rfl) c2) (by omega)⟩⟩
        · have z : mm (A 0) (ku A 0 (Int32.ofNat x)) RL n c dn x k (some (.int (k.2.2.1 60 0)), kwi k 60 0 (Int32.ofNat x)) := by
            rw [show k.2.2.1 60 0 = A 0 from congrFun kk.1 0]
            exact mm_i (fr_kwi rfl (by decide)) (fun m hm => kwi_o (by omega)) (ref_kwiG (m := 0) kk (by decide) (okS_0 kk.2.1 hx1 hx2 hdx))
          exact t_ms0 kw kk (Nat.le_refl _) ⟨fun _ => ⟨fun _ => z, fun c2 => absurd ((ole (by omega) (by omega)).mpr hdx) c2⟩, fun c1 => absurd q (by rw [c1]; decide)⟩
      · refine J_m (v := -4) (B := A) (n2 := n) (c2 := c) (dn2 := dn) (en2 := en) (dc := 1) (dm := 2) hw hk (t_cs0 hw (by decide) (t_s93 hw hk.1 (by decide) ?_)) (fun k kw kk => ?_)
        · exact ⟨fun c1 => absurd (i32T (znat (n := x) (by omega)) (show (1 : Int32).toInt = 1 from rfl) c1) (by omega), fun _ => ⟨fun _ => ⟨fun c3 => absurd ((ole (by omega) (by omega)).mp c3) hdx, fun _ => ⟨_, rfl, mc_bad hk.1⟩⟩, fun c2 => absurd (i32G (znat (n := x) (by omega)) (show (16 : Int32).toInt = 16 from rfl) c2) (by omega)⟩⟩
        · exact t_ms0 kw kk (Nat.le_refl _) ⟨fun _ => ⟨fun c2 => absurd ((ole (by omega) (by omega)).mp c2) hdx, fun _ => mm_bad kk⟩, fun c1 => absurd q (by rw [c1]; decide)⟩
    · refine J_m (v := -1) (B := A) (n2 := n) (c2 := c) (dn2 := dn) (en2 := en) (dc := 1) (dm := 2) hw hk (t_cs0 hw (by decide) (t_s93 hw hk.1 (by decide) ?_)) (fun k kw kk => ?_)
      · have bad : (∃ x : Int32, some (.int (-1)) = some (Value.int x) ∧ mc (-1) A RL n c dn en h (some (.int x), h)) := ⟨_, rfl, mc_bad hk.1⟩
        refine ⟨fun _ => bad, fun c1 => ⟨fun c2 => ?_, fun _ => bad⟩⟩
        have k1 := i32F (rfl : v.toInt = v.toInt) (show (1 : Int32).toInt = 1 from rfl) c1
        have k2 := i32L (rfl : v.toInt = v.toInt) (show (16 : Int32).toInt = 16 from rfl) c2
        exact absurd (inB_t ⟨k1, k2⟩) q
      · exact t_ms0 kw kk (Nat.le_refl _) ⟨fun c1 => absurd c1 q, fun _ => mm_bad kk⟩
  by_cases w1 : w = 1
  · subst w1
    by_cases q : inB v 0 11 = true
    · obtain ⟨x, hx, rfl⟩ := inB_nat (b := 11) q
      refine J_m (v := A 2) (B := ku A 2 (Int32.ofNat x)) (n2 := n) (c2 := x) (dn2 := dn) (en2 := en) (dc := 1) (dm := 2) hw hk ?_ (fun k kw kk => ?_)
      · have z : mc (A 2) (ku A 2 (Int32.ofNat x)) RL n x dn en h (some (.int (h.2.2.1 1 2)), kwi h 1 2 (Int32.ofNat x)) := by
          rw [show h.2.2.1 1 2 = A 2 from congrFun hk.1.1 2]
          exact mc_i (fr_kwi (by unfold pC; omega) (by decide)) (city_kwiG (m := 2) cA1 hk.1 (by decide) (okS_2 hk.1.2.1 (show x < 12 by omega)))
        exact t_cs1 hw (Nat.le_refl _) ⟨fun c1 => absurd q (by rw [c1]; decide), fun _ => z⟩
      · have z : mm (A 2) (ku A 2 (Int32.ofNat x)) RL n x dn en k (some (.int (k.2.2.1 60 2)), kwi k 60 2 (Int32.ofNat x)) := by
          rw [show k.2.2.1 60 2 = A 2 from congrFun kk.1 2]
          exact mm_i (fr_kwi rfl (by decide)) (fun m hm => kwi_o (by omega)) (ref_kwiG (m := 2) kk (by decide) (okS_2 kk.2.1 (show x < 12 by omega)))
        exact t_ms1 kw kk (Nat.le_refl _) ⟨fun c1 => absurd q (by rw [c1]; decide), fun _ => z⟩
    · refine J_m (v := -1) (B := A) (n2 := n) (c2 := c) (dn2 := dn) (en2 := en) (dc := 1) (dm := 2) hw hk ?_ (fun k kw kk => ?_)
      · exact t_cs1 hw (Nat.le_refl _) ⟨fun _ => mc_bad hk.1, fun c1 => absurd c1 q⟩
      · exact t_ms1 kw kk (Nat.le_refl _) ⟨fun _ => mm_bad kk, fun c1 => absurd c1 q⟩
  by_cases w2 : w = 2
  · subst w2
    by_cases q : inB v 0 131071 = true
    · obtain ⟨x, hx, rfl⟩ := inB_nat (b := 131071) q
      refine J_m (v := A 3) (B := ku A 3 (Int32.ofNat x)) (n2 := n) (c2 := c) (dn2 := dn) (en2 := en) (dc := 1) (dm := 2) hw hk ?_ (fun k kw kk => ?_)
      · have z : mc (A 3) (ku A 3 (Int32.ofNat x)) RL n c dn en h (some (.int (h.2.2.1 1 3)), kwi h 1 3 (Int32.ofNat x)) := by
          rw [show h.2.2.1 1 3 = A 3 from congrFun hk.1.1 3]
          exact mc_i (fr_kwi (by unfold pC; omega) (by decide)) (city_kwiG (m := 3) cA1 hk.1 (by decide) (okS_ku (by omega) hk.1.2.1))
        exact t_cs2 hw (Nat.le_refl _) ⟨fun c1 => absurd q (by rw [c1]; decide), fun _ => z⟩
      · have z : mm (A 3) (ku A 3 (Int32.ofNat x)) RL n c dn en k (some (.int (k.2.2.1 60 3)), kwi k 60 3 (Int32.ofNat x)) := by
          rw [show k.2.2.1 60 3 = A 3 from congrFun kk.1 3]
          exact mm_i (fr_kwi rfl (by decide)) (fun m hm => kwi_o (by omega)) (ref_kwiG (m := 3) kk (by decide) (okS_ku (by omega) kk.2.1))
        exact t_ms2 kw kk (Nat.le_refl _) ⟨fun c1 => absurd q (by rw [c1]; decide), fun _ => z⟩
    · refine J_m (v := -1) (B := A) (n2 := n) (c2 := c) (dn2 := dn) (en2 := en) (dc := 1) (dm := 2) hw hk ?_ (fun k kw kk => ?_)
      · exact t_cs2 hw (Nat.le_refl _) ⟨fun _ => mc_bad hk.1, fun c1 => absurd c1 q⟩
      · exact t_ms2 kw kk (Nat.le_refl _) ⟨fun _ => mm_bad kk, fun c1 => absurd c1 q⟩
  by_cases w3 : w = 3
  · subst w3
    by_cases q : inB v 0 131071 = true
    · obtain ⟨x, hx, rfl⟩ := inB_nat (b := 131071) q
      refine J_m (v := A 4) (B := ku A 4 (Int32.ofNat x)) (n2 := n) (c2 := c) (dn2 := dn) (en2 := en) (dc := 1) (dm := 2) hw hk ?_ (fun k kw kk => ?_)
      · have z : mc (A 4) (ku A 4 (Int32.ofNat x)) RL n c dn en h (some (.int (h.2.2.1 1 4)), kwi h 1 4 (Int32.ofNat x)) := by
          rw [show h.2.2.1 1 4 = A 4 from congrFun hk.1.1 4]
          exact mc_i (fr_kwi (by unfold pC; omega) (by decide)) (city_kwiG (m := 4) cA1 hk.1 (by decide) (okS_ku (by omega) hk.1.2.1))
        exact t_cs3 hw (Nat.le_refl _) ⟨fun c1 => absurd q (by rw [c1]; decide), fun _ => z⟩
      · have z : mm (A 4) (ku A 4 (Int32.ofNat x)) RL n c dn en k (some (.int (k.2.2.1 60 4)), kwi k 60 4 (Int32.ofNat x)) := by
          rw [show k.2.2.1 60 4 = A 4 from congrFun kk.1 4]
          exact mm_i (fr_kwi rfl (by decide)) (fun m hm => kwi_o (by omega)) (ref_kwiG (m := 4) kk (by decide) (okS_ku (by omega) kk.2.1))
        exact t_ms3 kw kk (Nat.le_refl _) ⟨fun c1 => absurd q (by rw [c1]; decide), fun _ => z⟩
    · refine J_m (v := -1) (B := A) (n2 := n) (c2 := c) (dn2 := dn) (en2 := en) (dc := 1) (dm := 2) hw hk ?_ (fun k kw kk => ?_)
      · exact t_cs3 hw (Nat.le_refl _) ⟨fun _ => mc_bad hk.1, fun c1 => absurd c1 q⟩
      · exact t_ms3 kw kk (Nat.le_refl _) ⟨fun _ => mm_bad kk, fun c1 => absurd c1 q⟩
  by_cases w4 : w = 4
  · subst w4
    by_cases q : inB v 0 65535 = true
    · obtain ⟨x, hx, rfl⟩ := inB_nat (b := 65535) q
      refine J_m (v := A 5) (B := ku A 5 (Int32.ofNat x)) (n2 := n) (c2 := c) (dn2 := dn) (en2 := en) (dc := 1) (dm := 2) hw hk ?_ (fun k kw kk => ?_)
      · have z : mc (A 5) (ku A 5 (Int32.ofNat x)) RL n c dn en h (some (.int (h.2.2.1 1 5)), kwi h 1 5 (Int32.ofNat x)) := by
          rw [show h.2.2.1 1 5 = A 5 from congrFun hk.1.1 5]
          exact mc_i (fr_kwi (by unfold pC; omega) (by decide)) (city_kwiG (m := 5) cA1 hk.1 (by decide) (okS_ku (by omega) hk.1.2.1))
        exact t_cs4 hw (Nat.le_refl _) ⟨fun c1 => absurd q (by rw [c1]; decide), fun _ => z⟩
      · have z : mm (A 5) (ku A 5 (Int32.ofNat x)) RL n c dn en k (some (.int (k.2.2.1 60 5)), kwi k 60 5 (Int32.ofNat x)) := by
          rw [show k.2.2.1 60 5 = A 5 from congrFun kk.1 5]
          exact mm_i (fr_kwi rfl (by decide)) (fun m hm => kwi_o (by omega)) (ref_kwiG (m := 5) kk (by decide) (okS_ku (by omega) kk.2.1))
        exact t_ms4 kw kk (Nat.le_refl _) ⟨fun c1 => absurd q (by rw [c1]; decide), fun _ => z⟩
    · refine J_m (v := -1) (B := A) (n2 := n) (c2 := c) (dn2 := dn) (en2 := en) (dc := 1) (dm := 2) hw hk ?_ (fun k kw kk => ?_)
      · exact t_cs4 hw (Nat.le_refl _) ⟨fun _ => mc_bad hk.1, fun c1 => absurd c1 q⟩
      · exact t_ms4 kw kk (Nat.le_refl _) ⟨fun _ => mm_bad kk, fun c1 => absurd c1 q⟩
  · refine J_m (v := -1) (B := A) (n2 := n) (c2 := c) (dn2 := dn) (en2 := en) (dc := 0) (dm := 0) hw hk (t_csX w0 w1 w2 w3 w4 (by decide) (mc_bad hk.1)) (fun k kw kk => t_msX w0 w1 w2 w3 w4 (by decide) (mm_bad kk))
set_option maxHeartbeats 4000000 in
theorem t_can {d : Nat} {Q : KO → Prop} {h : KH} (hw : WF h) (hd : 0 ≤ d) (hQ : Q (some (.int (h.2.2.1 1 7)), kwi (kwi (kwi h 1 7 (0 : Int32)) 1 8 (0 : Int32)) 1 3 (0 : Int32))) : Cl d 99 [.ref 0] h Q := by
  refine Cl.of (ls := [some (.ref 0), none]) rfl rfl ?_
  refine Wp.seg 1 (pc1 := 1) (ls1 := [some (.ref 0), none]) (st1 := [.ref 0]) rfl ?_
  refine Wp.gr (t := (10, 0)) (v := some (1)) rfl (WF.t hw 0 rfl) rfl (WF.r hw 0 0 0 rfl) ?_
  show Wp d 99 4 [some (.ref 0), none] [.ref 1] h Q
  refine Wp.gi (t := (1, 0)) rfl (WF.t hw 1 rfl) (Or.inl rfl) ?_
  refine Wp.seg 2 (pc1 := 9) (ls1 := [some (.ref 0), some (.int (h.2.2.1 1 7))]) (st1 := [.ref 0]) rfl ?_
  refine Wp.gr (t := (10, 0)) (v := some (1)) rfl (WF.t hw 0 rfl) rfl (WF.r hw 0 0 0 rfl) ?_
  show Wp d 99 12 [some (.ref 0), some (.int (h.2.2.1 1 7))] [.ref 1] h Q
  refine Wp.seg 1 (pc1 := 13) (ls1 := [some (.ref 0), some (.int (h.2.2.1 1 7))]) (st1 := [.int (0), .ref 1]) rfl ?_
  refine Wp.pi (t := (1, 0)) rfl (WF.t hw 1 rfl) (Or.inl rfl) ?_
  refine Wp.seg 1 (pc1 := 17) (ls1 := [some (.ref 0), some (.int (h.2.2.1 1 7))]) (st1 := [.ref 0]) rfl ?_
  refine Wp.gr (t := (10, 0)) (v := some (1)) rfl (WF.t hw 0 rfl) rfl (WF.r hw 0 0 0 rfl) ?_
  show Wp d 99 20 [some (.ref 0), some (.int (h.2.2.1 1 7))] [.ref 1] (kwi h 1 7 (0 : Int32)) Q
  refine Wp.seg 1 (pc1 := 21) (ls1 := [some (.ref 0), some (.int (h.2.2.1 1 7))]) (st1 := [.int (0), .ref 1]) rfl ?_
  refine Wp.pi (t := (1, 0)) rfl (WF.t hw 1 rfl) (Or.inl rfl) ?_
  refine Wp.seg 1 (pc1 := 25) (ls1 := [some (.ref 0), some (.int (h.2.2.1 1 7))]) (st1 := [.ref 0]) rfl ?_
  refine Wp.gr (t := (10, 0)) (v := some (1)) rfl (WF.t hw 0 rfl) rfl (WF.r hw 0 0 0 rfl) ?_
  show Wp d 99 28 [some (.ref 0), some (.int (h.2.2.1 1 7))] [.ref 1] (kwi (kwi h 1 7 (0 : Int32)) 1 8 (0 : Int32)) Q
  refine Wp.seg 1 (pc1 := 29) (ls1 := [some (.ref 0), some (.int (h.2.2.1 1 7))]) (st1 := [.int (0), .ref 1]) rfl ?_
  refine Wp.pi (t := (1, 0)) rfl (WF.t hw 1 rfl) (Or.inl rfl) ?_
  refine Wp.seg 1 (pc1 := 33) (ls1 := [some (.ref 0), some (.int (h.2.2.1 1 7))]) (st1 := [.int (h.2.2.1 1 7)]) rfl ?_
  exact Wp.reti rfl rfl hQ
set_option maxHeartbeats 4000000 in
theorem t_man {d : Nat} {Q : KO → Prop} {h : KH} (hw : WF h) (hd : 0 ≤ d) (hQ : Q (some (.int (h.2.2.1 60 1)), kwi (kwi (kwi h 60 1 (0 : Int32)) 60 6 (0 : Int32)) 60 3 (0 : Int32))) : Cl d 200 [.ref 59] h Q := by
  refine Cl.of (ls := [some (.ref 59), none]) rfl rfl ?_
  refine Wp.seg 1 (pc1 := 1) (ls1 := [some (.ref 59), none]) (st1 := [.ref 59]) rfl ?_
  refine Wp.gr (t := (11, 0)) (v := some (60)) rfl (WF.t hw 59 rfl) rfl (WF.r hw 59 0 58 rfl) ?_
  show Wp d 200 4 [some (.ref 59), none] [.ref 60] h Q
  refine Wp.seg 1 (pc1 := 5) (ls1 := [some (.ref 59), none]) (st1 := [.int (1), .ref 60]) rfl ?_
  refine Wp.iald (j := 1) (k := 20) (n := 585) rfl (WF.t hw 60 rfl) rfl rfl (by decide) (by decide) ?_
  refine Wp.seg 2 (pc1 := 8) (ls1 := [some (.ref 59), some (.int (h.2.2.1 60 1))]) (st1 := [.ref 59]) rfl ?_
  refine Wp.gr (t := (11, 0)) (v := some (60)) rfl (WF.t hw 59 rfl) rfl (WF.r hw 59 0 58 rfl) ?_
  show Wp d 200 11 [some (.ref 59), some (.int (h.2.2.1 60 1))] [.ref 60] h Q
  refine Wp.seg 2 (pc1 := 13) (ls1 := [some (.ref 59), some (.int (h.2.2.1 60 1))]) (st1 := [.int (0), .int (1), .ref 60]) rfl ?_
  refine Wp.iast (j := 1) (n := 585) rfl (WF.t hw 60 rfl) rfl (by decide) (by decide) ?_
  refine Wp.seg 1 (pc1 := 15) (ls1 := [some (.ref 59), some (.int (h.2.2.1 60 1))]) (st1 := [.ref 59]) rfl ?_
  refine Wp.gr (t := (11, 0)) (v := some (60)) rfl (WF.t hw 59 rfl) rfl (WF.r hw 59 0 58 rfl) ?_
  show Wp d 200 18 [some (.ref 59), some (.int (h.2.2.1 60 1))] [.ref 60] (kwi h 60 1 (0 : Int32)) Q
  refine Wp.seg 2 (pc1 := 21) (ls1 := [some (.ref 59), some (.int (h.2.2.1 60 1))]) (st1 := [.int (0), .int (6), .ref 60]) rfl ?_
  refine Wp.iast (j := 6) (n := 585) rfl (WF.t hw 60 rfl) rfl (by decide) (by decide) ?_
  refine Wp.seg 1 (pc1 := 23) (ls1 := [some (.ref 59), some (.int (h.2.2.1 60 1))]) (st1 := [.ref 59]) rfl ?_
  refine Wp.gr (t := (11, 0)) (v := some (60)) rfl (WF.t hw 59 rfl) rfl (WF.r hw 59 0 58 rfl) ?_
  show Wp d 200 26 [some (.ref 59), some (.int (h.2.2.1 60 1))] [.ref 60] (kwi (kwi h 60 1 (0 : Int32)) 60 6 (0 : Int32)) Q
  refine Wp.seg 2 (pc1 := 28) (ls1 := [some (.ref 59), some (.int (h.2.2.1 60 1))]) (st1 := [.int (0), .int (3), .ref 60]) rfl ?_
  refine Wp.iast (j := 3) (n := 585) rfl (WF.t hw 60 rfl) rfl (by decide) (by decide) ?_
  refine Wp.seg 1 (pc1 := 30) (ls1 := [some (.ref 59), some (.int (h.2.2.1 60 1))]) (st1 := [.int (h.2.2.1 60 1)]) rfl ?_
  exact Wp.reti rfl rfl hQ
theorem J_anew {h : KH} (hw : WF h) {A : Nat → Int32} {RL : List Rul} {n c dn en : Nat} (hk : both h A RL n c dn en) : JJ h RL 99 [.ref 0] 200 [.ref 59] := by
  refine J_m (v := A 1) (B := ku (ku (ku A 1 0) 6 0) 3 0) (n2 := n) (c2 := c) (dn2 := 0) (en2 := en) (dc := 0) (dm := 0) hw hk (t_can hw (by decide) ?_) (fun k kw kk => t_man kw (by decide) ?_)
  · rw [show h.2.2.1 1 7 = A 1 from congrFun hk.1.1 1]
    have k1 := city_kwiG (m := 1) cA1 hk.1 (by decide) (okS_1 hk.1.2.1)
    have k2 := city_kwiG (m := 6) cA1 k1 (by decide) (okS_ku (x := 0) (by omega) k1.2.1)
    have k3 := city_kwiG (m := 3) cA1 k2 (by decide) (okS_ku (x := 0) (by omega) k2.2.1)
    exact mc_i (Fr.trans (fr_kwi (by unfold pC; omega) (by decide)) (Fr.trans (fr_kwi (by unfold pC; omega) (by decide)) (fr_kwi (by unfold pC; omega) (by decide)))) k3
  · rw [show k.2.2.1 60 1 = A 1 from congrFun kk.1 1]
    have k1 := ref_kwiG (m := 1) kk (by decide) (okS_1 kk.2.1)
    have k2 := ref_kwiG (m := 6) k1 (by decide) (okS_ku (x := 0) (by omega) k1.2.1)
    have k3 := ref_kwiG (m := 3) k2 (by decide) (okS_ku (x := 0) (by omega) k2.2.1)
    exact mm_i (Fr.trans (fr_kwi rfl (by decide)) (Fr.trans (fr_kwi rfl (by decide)) (fr_kwi rfl (by decide)))) (fun m hm => (kwi_o (by omega)).trans ((kwi_o (by omega)).trans (kwi_o (by omega)))) k3
set_option maxHeartbeats 4000000 in
theorem t_csd {d : Nat} {Q : KO → Prop} {h : KH} (hw : WF h) {v : Int32} (hd : 0 ≤ d) (hQ : Q (some (.int (h.2.2.1 1 9)), kwi h 1 9 v)) : Cl d 139 [.ref 0, .int (v)] h Q := by
  refine Cl.of (ls := [some (.ref 0), some (.int (v)), none]) rfl rfl ?_
  refine Wp.seg 1 (pc1 := 1) (ls1 := [some (.ref 0), some (.int (v)), none]) (st1 := [.ref 0]) rfl ?_
  refine Wp.gr (t := (10, 0)) (v := some (1)) rfl (WF.t hw 0 rfl) rfl (WF.r hw 0 0 0 rfl) ?_
  show Wp d 139 4 [some (.ref 0), some (.int (v)), none] [.ref 1] h Q
  refine Wp.gi (t := (1, 0)) rfl (WF.t hw 1 rfl) (Or.inl rfl) ?_
  refine Wp.seg 2 (pc1 := 9) (ls1 := [some (.ref 0), some (.int (v)), some (.int (h.2.2.1 1 9))]) (st1 := [.ref 0]) rfl ?_
  refine Wp.gr (t := (10, 0)) (v := some (1)) rfl (WF.t hw 0 rfl) rfl (WF.r hw 0 0 0 rfl) ?_
  show Wp d 139 12 [some (.ref 0), some (.int (v)), some (.int (h.2.2.1 1 9))] [.ref 1] h Q
  refine Wp.seg 1 (pc1 := 13) (ls1 := [some (.ref 0), some (.int (v)), some (.int (h.2.2.1 1 9))]) (st1 := [.int (v), .ref 1]) rfl ?_
  refine Wp.pi (t := (1, 0)) rfl (WF.t hw 1 rfl) (Or.inl rfl) ?_
  refine Wp.seg 1 (pc1 := 17) (ls1 := [some (.ref 0), some (.int (v)), some (.int (h.2.2.1 1 9))]) (st1 := [.int (h.2.2.1 1 9)]) rfl ?_
  exact Wp.reti rfl rfl hQ
set_option maxHeartbeats 4000000 in
theorem t_msd {d : Nat} {Q : KO → Prop} {h : KH} (hw : WF h) {v : Int32} (hd : 1 ≤ d) (hQ : Q (some (.int (h.2.2.1 60 7)), kwi h 60 7 v)) : Cl d 255 [.ref 59, .int (v)] h Q := by
  refine Cl.of (ls := [some (.ref 59), some (.int (v))]) rfl rfl ?_
  refine Wp.seg 3 (pc1 := 4) (ls1 := [some (.ref 59), some (.int (v))]) (st1 := [.int (v), .int (7), .ref 59]) rfl ?_
  refine Wp.invV (d2 := 0) (as := [.ref 59, .int (7), .int (v)]) (r := []) (t := (11, 0)) rfl rfl rfl rfl (WF.t hw 59 rfl) rfl rfl ⟨rfl, rfl⟩ (by omega) (s_becomes hw (i := 7) rfl (by decide) ?_)
  show Wp d 255 7 [some (.ref 59), some (.int (v))] [.int (h.2.2.1 60 7)] (kwi h 60 7 v) Q
  exact Wp.reti rfl rfl hQ
theorem J_seed {h : KH} (hw : WF h) {A : Nat → Int32} {RL : List Rul} {n c dn en : Nat} (hk : both h A RL n c dn en) (v : Int32) : JJ h RL 139 [.ref 0, .int v] 255 [.ref 59, .int v] := by
  refine J_m (v := A 7) (B := ku A 7 v) (n2 := n) (c2 := c) (dn2 := dn) (en2 := en) (dc := 0) (dm := 1) hw hk (t_csd hw (by decide) ?_) (fun k kw kk => t_msd kw (by decide) ?_)
  · rw [show h.2.2.1 1 9 = A 7 from congrFun hk.1.1 7]
    exact mc_i (fr_kwi (by unfold pC; omega) (by decide)) (city_kwiG (m := 7) cA1 hk.1 (by decide) (okS_ku (by omega) hk.1.2.1))
  · rw [show k.2.2.1 60 7 = A 7 from congrFun kk.1 7]
    exact mm_i (fr_kwi rfl (by decide)) (fun m hm => kwi_o (by omega)) (ref_kwiG (m := 7) kk (by decide) (okS_ku (by omega) kk.2.1))
