/-! KM: the class: rules, what is made -/
theorem Wp.nar {d M pc : Nat} {ls : KL} {r : List Value} {h : KH} {Q : KO → Prop} {ty : ClassFile.ArrayType} {nx tg : Nat} {w : Value} {ts : List (Nat × Nat)} {i : Int32} {m : Nat} (he : kpf M pc = some (.newarray ty, nx, tg, w, ts)) (hn : h.2.2.2.2.1 < 900000000) (hi : i = Int32.ofNat m) (hm : m < 10000) (hw : Wp d M nx ls (.ref h.2.2.2.2.1 :: r) (kmake h tg m m) Q) : Wp d M pc ls (.int i :: r) h Q := by
  obtain ⟨q1, q2⟩ := kin_i hi hm (by decide)
  refine Wp.heap he (st1 := .ref h.2.2.2.2.1 :: r) (h1 := kmake h tg m m) ?_ hw
  show knewa tg (.int i :: r) h = _
  unfold knewa
  simp only [q1, q2, Nat.blt_eq.mpr hn, Bool.and_self, cond_true]
/-- an array is made, and kept in the field j of o -/
def stA (h : KH) (o m j : Nat) : KH := kwr (kmake h 20 m m) o j (some h.2.2.2.2.1)
theorem stA_t {h : KH} {o m j c : Nat} (hc : c ≠ h.2.2.2.2.1) : (stA h o m j).1 c = h.1 c := ku_n _ _ hc
theorem stA_tb {h : KH} {o m j : Nat} : (stA h o m j).1 h.2.2.2.2.1 = (20, m) := ku_s _ _ _
theorem stA_i {h : KH} {o m j c : Nat} (hc : c ≠ h.2.2.2.2.1) : (stA h o m j).2.2.1 c = h.2.2.1 c := ku_n _ _ hc
theorem stA_n {h : KH} {o m j : Nat} : (stA h o m j).2.2.2.2.1 = h.2.2.2.2.1 + 1 := rfl
theorem stA_s {h : KH} {o m j : Nat} : (stA h o m j).2.2.2.2.2 = h.2.2.2.2.2 + m := rfl
theorem stA_r {h : KH} {o m j : Nat} : (stA h o m j).2.1 o j = some h.2.2.2.2.1 := kwr_s
theorem stA_ro {h : KH} {o m j i : Nat} (hi : i ≠ j) (ho : o ≠ h.2.2.2.2.1) : (stA h o m j).2.1 o i = h.2.1 o i := by
  unfold stA
  rw [kwr_o hi]
  exact congrFun (ku_n h.2.1 (fun _ => none) ho) i
theorem stA_al {h k : KH} {o m j : Nat} (a : Al h k) (hn : k.2.2.2.2.1 < 900000000) (ho : h.2.2.2.2.1 ≤ o) (ho2 : o < 900000000) : Al h (stA k o m j) := (a.make hn).kwr ho ho2
theorem t_st0 {d : Nat} {Q : KO → Prop} {h : KH} {o : Nat} {n : Int32} (ho : h.1 o = (9, 0)) (on : o ≠ h.2.2.2.2.1) (hn : h.2.2.2.2.1 < 900000000) (hQ : Wp d 74 12 [some (.ref o), some (.int n)] [] (stA h o 8 0) Q) : Wp d 74 4 [some (.ref o), some (.int n)] [] h Q := by
  refine Wp.seg 2 (pc1 := 7) (ls1 := [some (.ref o), some (.int n)]) (st1 := [.int 8, .ref o]) rfl ?_
  refine Wp.nar (m := 8) rfl hn rfl (by decide) ?_
  exact Wp.pr (t := (9, 0)) rfl ((ku_n h.1 _ on).trans ho) rfl hQ
theorem t_st1 {d : Nat} {Q : KO → Prop} {h : KH} {o : Nat} {n : Int32} (ho : h.1 o = (9, 0)) (on : o ≠ h.2.2.2.2.1) (hn : h.2.2.2.2.1 < 900000000) (hQ : Wp d 74 20 [some (.ref o), some (.int n)] [] (stA h o 8 1) Q) : Wp d 74 12 [some (.ref o), some (.int n)] [] h Q := by
  refine Wp.seg 2 (pc1 := 15) (ls1 := [some (.ref o), some (.int n)]) (st1 := [.int 8, .ref o]) rfl ?_
  refine Wp.nar (m := 8) rfl hn rfl (by decide) ?_
  exact Wp.pr (t := (9, 0)) rfl ((ku_n h.1 _ on).trans ho) rfl hQ
theorem t_st2 {d : Nat} {Q : KO → Prop} {h : KH} {o : Nat} {n : Int32} (ho : h.1 o = (9, 0)) (on : o ≠ h.2.2.2.2.1) (hn : h.2.2.2.2.1 < 900000000) (hQ : Wp d 74 28 [some (.ref o), some (.int n)] [] (stA h o 8 2) Q) : Wp d 74 20 [some (.ref o), some (.int n)] [] h Q := by
  refine Wp.seg 2 (pc1 := 23) (ls1 := [some (.ref o), some (.int n)]) (st1 := [.int 8, .ref o]) rfl ?_
  refine Wp.nar (m := 8) rfl hn rfl (by decide) ?_
  exact Wp.pr (t := (9, 0)) rfl ((ku_n h.1 _ on).trans ho) rfl hQ
theorem t_st3 {d : Nat} {Q : KO → Prop} {h : KH} {o L : Nat} (ho : h.1 o = (9, 0)) (on : o ≠ h.2.2.2.2.1) (hn : h.2.2.2.2.1 < 900000000) (hL : L ≤ 200) (hd : 1 ≤ d) (hQ : Wp d 74 39 [some (.ref o), some (.int (Int32.ofNat L))] [] (stA h o L 3) Q) : Wp d 74 28 [some (.ref o), some (.int (Int32.ofNat L))] [] h Q := by
  refine Wp.seg 3 (pc1 := 31) (ls1 := [some (.ref o), some (.int (Int32.ofNat L))]) (st1 := [.int 0, .int (Int32.ofNat L), .ref o]) rfl ?_
  refine Wp.mm rfl (by omega) rfl ?_
  have e : kmm 0 (Int32.ofNat L) 0 = Int32.ofNat L := if_neg (fun c => by
    have := (nlt2 (b := 0) (by omega) (by omega)).mp c
    omega)
  refine Wp.nar (m := L) rfl hn e (by omega) ?_
  exact Wp.pr (t := (9, 0)) rfl ((ku_n h.1 _ on).trans ho) rfl hQ
/-- the rules that are made -/
def ruN (h : KH) (o L : Nat) : KH := stA (stA (stA (stA h o 8 0) o 8 1) o 8 2) o L 3
theorem s_rinit {Q : KO → Prop} {h : KH} {o L : Nat} (ho : h.1 o = (9, 0)) (hn : h.2.2.2.2.1 = o + 1) (ob : o + 10 < 900000000) (hL : L ≤ 200) (hQ : Q (none, ruN h o L)) : Cl 1 74 [.ref o, .int (Int32.ofNat L)] h Q := by
  have n0 : h.2.2.2.2.1 = o + 1 := hn
  have n1 : (stA h o 8 0).2.2.2.2.1 = o + 2 := by rw [stA_n, hn]
  have n2 : (stA (stA h o 8 0) o 8 1).2.2.2.2.1 = o + 3 := by rw [stA_n, n1]
  have n3 : (stA (stA (stA h o 8 0) o 8 1) o 8 2).2.2.2.2.1 = o + 4 := by rw [stA_n, n2]
  have t1 : (stA h o 8 0).1 o = (9, 0) := (stA_t (by omega)).trans ho
  have t2 : (stA (stA h o 8 0) o 8 1).1 o = (9, 0) := (stA_t (by omega)).trans t1
  have t3 : (stA (stA (stA h o 8 0) o 8 1) o 8 2).1 o = (9, 0) := (stA_t (by omega)).trans t2
  refine Cl.of (ls := [some (.ref o), some (.int (Int32.ofNat L))]) rfl rfl ?_
  refine Wp.seg 1 (pc1 := 1) (ls1 := [some (.ref o), some (.int (Int32.ofNat L))]) (st1 := [.ref o]) rfl ?_
  refine Wp.objinit rfl (by decide) rfl ?_
  refine t_st0 ho (by omega) (by omega) ?_
  refine t_st1 t1 (by omega) (by omega) ?_
  refine t_st2 t2 (by omega) (by omega) ?_
  refine t_st3 t3 (by omega) (by omega) hL (Nat.le_refl _) ?_
  exact Wp.retv rfl rfl hQ
theorem ruN_al {h k : KH} {o L : Nat} (a : Al h k) (hn : k.2.2.2.2.1 = o + 1) (ho : h.2.2.2.2.1 ≤ o) (ob : o + 10 < 900000000) : Al h (ruN k o L) := by
  have n1 : (stA k o 8 0).2.2.2.2.1 = o + 2 := by rw [stA_n, hn]
  have n2 : (stA (stA k o 8 0) o 8 1).2.2.2.2.1 = o + 3 := by rw [stA_n, n1]
  have n3 : (stA (stA (stA k o 8 0) o 8 1) o 8 2).2.2.2.2.1 = o + 4 := by rw [stA_n, n2]
  exact stA_al (stA_al (stA_al (stA_al a (by omega) ho (by omega)) (by omega) ho (by omega)) (by omega) ho (by omega)) (by omega) ho (by omega)
theorem ruN_o {h : KH} {o L : Nat} (ho : h.1 o = (9, 0)) (hn : h.2.2.2.2.1 = o + 1) (o75 : 75 ≤ o) (hL : L ≤ 200) : rulO (ruN h o L) o L ∧ (ruN h o L).2.2.1 o = h.2.2.1 o ∧ (ruN h o L).2.2.2.2.1 = o + 5 ∧ (ruN h o L).2.2.2.2.2 = h.2.2.2.2.2 + 24 + L := by
  have n1 : (stA h o 8 0).2.2.2.2.1 = o + 2 := by rw [stA_n, hn]
  have n2 : (stA (stA h o 8 0) o 8 1).2.2.2.2.1 = o + 3 := by rw [stA_n, n1]
  have n3 : (stA (stA (stA h o 8 0) o 8 1) o 8 2).2.2.2.2.1 = o + 4 := by rw [stA_n, n2]
  have b0 : (stA h o 8 0).1 (o + 1) = (20, 8) := by rw [← hn]; exact stA_tb
  have b1 : (stA (stA h o 8 0) o 8 1).1 (o + 2) = (20, 8) := by rw [← n1]; exact stA_tb
  have b2 : (stA (stA (stA h o 8 0) o 8 1) o 8 2).1 (o + 3) = (20, 8) := by rw [← n2]; exact stA_tb
  have b3 : (stA (stA (stA (stA h o 8 0) o 8 1) o 8 2) o L 3).1 (o + 4) = (20, L) := by rw [← n3]; exact stA_tb
  unfold ruN
  refine ⟨⟨?_, ?_, ?_, ?_, b3, ?_, ?_, ?_, ?_, o75, hL⟩, ?_, by rw [stA_n, n3], ?_⟩
  · rw [stA_t (by omega), stA_t (by omega), stA_t (by omega), stA_t (by omega)]
    exact ho
  · rw [stA_t (by omega), stA_t (by omega), stA_t (by omega)]
    exact b0
  · rw [stA_t (by omega), stA_t (by omega)]
    exact b1
  · rw [stA_t (by omega)]
    exact b2
  · rw [stA_ro (by decide) (by omega), stA_ro (by decide) (by omega), stA_ro (by decide) (by omega), stA_r, hn]
  · rw [stA_ro (by decide) (by omega), stA_ro (by decide) (by omega), stA_r, n1]
  · rw [stA_ro (by decide) (by omega), stA_r, n2]
  · rw [stA_r, n3]
  · rw [stA_i (by omega), stA_i (by omega), stA_i (by omega), stA_i (by omega)]
  · rw [stA_s, stA_s, stA_s, stA_s]
set_option maxHeartbeats 4000000 in
theorem t_ru0 {d : Nat} {Q : KO → Prop} {h : KH} (hw : WF h) {k1 : KH} (hwk1 : WF k1) {k2 : KH} (hwk2 : WF k2) {k3 : KH} (hwk3 : WF k3) {o L D : Nat} (h29 : h.2.2.1 29 1 = Int32.ofNat L) {y : Int32} (g1 : ∀ Q : KO → Prop, Q (none, k1) → Cl D 74 [.ref o, .int (Int32.ofNat L)] h Q) (g2 : ∀ Q : KO → Prop, Q (none, k2) → Cl D 53 [.ref 29] k1 Q) (g3 : ∀ Q : KO → Prop, Q (some (.int 0), k3) → Cl D 63 [.ref 29, .ref o] k2 Q) (g4 : ∀ Q : KO → Prop, Q (some (.int y), k3) → Cl D 61 [.ref 29] k3 Q) (hd : D + 1 ≤ d) (hQ : Q (some (.int ((-100 : Int32) - y)), k3)) : Wp d 110 3 [some (.ref 0), none] [.ref o] h Q := by
  refine Wp.seg 2 (pc1 := 5) (ls1 := [some (.ref 0), none]) (st1 := [.ref 0, .ref o, .ref o]) rfl ?_
  refine Wp.gr (t := (10, 0)) (v := some (29)) rfl (WF.t hw 0 rfl) rfl (WF.r hw 0 5 4 rfl) ?_
  show Wp d 110 8 [some (.ref 0), none] [.ref 29, .ref o, .ref o] h Q
  refine Wp.gi (t := (6, 0)) rfl (WF.t hw 29 rfl) (Or.inl rfl) ?_
  rw [show h.2.2.1 29 1 = Int32.ofNat L from h29]
  refine Wp.inv (d2 := D) (as := [.ref o, .int (Int32.ofNat L)]) (r := [.ref o]) rfl rfl rfl rfl rfl rfl (by omega) (g1 _ ?_)
  show Wp d 110 14 [some (.ref 0), none] [.ref o] k1 Q
  refine Wp.seg 2 (pc1 := 16) (ls1 := [some (.ref 0), some (.ref o)]) (st1 := [.ref 0]) rfl ?_
  refine Wp.gr (t := (10, 0)) (v := some (29)) rfl (WF.t hwk1 0 rfl) rfl (WF.r hwk1 0 5 4 rfl) ?_
  show Wp d 110 19 [some (.ref 0), some (.ref o)] [.ref 29] k1 Q
  refine Wp.invV (d2 := D) (as := [.ref 29]) (r := []) (t := (6, 0)) rfl rfl rfl rfl (WF.t hwk1 29 rfl) rfl rfl ⟨rfl, rfl⟩ (by omega) (g2 _ ?_)
  show Wp d 110 22 [some (.ref 0), some (.ref o)] [] k2 Q
  refine Wp.seg 1 (pc1 := 23) (ls1 := [some (.ref 0), some (.ref o)]) (st1 := [.ref 0]) rfl ?_
  refine Wp.gr (t := (10, 0)) (v := some (29)) rfl (WF.t hwk2 0 rfl) rfl (WF.r hwk2 0 5 4 rfl) ?_
  show Wp d 110 26 [some (.ref 0), some (.ref o)] [.ref 29] k2 Q
  refine Wp.seg 1 (pc1 := 27) (ls1 := [some (.ref 0), some (.ref o)]) (st1 := [.ref o, .ref 29]) rfl ?_
  refine Wp.invV (d2 := D) (as := [.ref 29, .ref o]) (r := []) (t := (6, 0)) rfl rfl rfl rfl (WF.t hwk2 29 rfl) rfl rfl ⟨rfl, rfl⟩ (by omega) (g3 _ ?_)
  show Wp d 110 30 [some (.ref 0), some (.ref o)] [.int (0)] k3 Q
  refine Wp.if1 rfl (fun c1 => absurd c1 (show ¬ (¬ (0 : Int32) = 0) by decide)) (fun c1 => ?_)
  refine Wp.seg 2 (pc1 := 36) (ls1 := [some (.ref 0), some (.ref o)]) (st1 := [.ref 0, .int (-100)]) rfl ?_
  refine Wp.gr (t := (10, 0)) (v := some (29)) rfl (WF.t hwk3 0 rfl) rfl (WF.r hwk3 0 5 4 rfl) ?_
  show Wp d 110 39 [some (.ref 0), some (.ref o)] [.ref 29, .int (-100)] k3 Q
  refine Wp.invV (d2 := D) (as := [.ref 29]) (r := [.int (-100)]) (t := (6, 0)) rfl rfl rfl rfl (WF.t hwk3 29 rfl) rfl rfl ⟨rfl, rfl⟩ (by omega) (g4 _ ?_)
  show Wp d 110 42 [some (.ref 0), some (.ref o)] [.int (y), .int (-100)] k3 Q
  refine Wp.seg 1 (pc1 := 43) (ls1 := [some (.ref 0), some (.ref o)]) (st1 := [.int ((-100 : Int32) - y)]) rfl ?_
  exact Wp.reti rfl rfl hQ
set_option maxHeartbeats 4000000 in
theorem t_ru1 {d : Nat} {Q : KO → Prop} {h : KH} (hw : WF h) {k1 : KH} (hwk1 : WF k1) {k2 : KH} (hwk2 : WF k2) {k3 : KH} (hwk3 : WF k3) {o L D : Nat} (hO : rulO k3 o L) (h29 : h.2.2.1 29 1 = Int32.ofNat L) {x : Int32} (hx : k3.2.2.1 o 4 = x) (g1 : ∀ Q : KO → Prop, Q (none, k1) → Cl D 74 [.ref o, .int (Int32.ofNat L)] h Q) (g2 : ∀ Q : KO → Prop, Q (none, k2) → Cl D 53 [.ref 29] k1 Q) (g3 : ∀ Q : KO → Prop, Q (some (.int 1), k3) → Cl D 63 [.ref 29, .ref o] k2 Q) (hd : D + 1 ≤ d) (hQ : Q (some (.int (x)), kwr k3 1 10 (some o))) : Wp d 110 3 [some (.ref 0), none] [.ref o] h Q := by
  refine Wp.seg 2 (pc1 := 5) (ls1 := [some (.ref 0), none]) (st1 := [.ref 0, .ref o, .ref o]) rfl ?_
  refine Wp.gr (t := (10, 0)) (v := some (29)) rfl (WF.t hw 0 rfl) rfl (WF.r hw 0 5 4 rfl) ?_
  show Wp d 110 8 [some (.ref 0), none] [.ref 29, .ref o, .ref o] h Q
  refine Wp.gi (t := (6, 0)) rfl (WF.t hw 29 rfl) (Or.inl rfl) ?_
  rw [show h.2.2.1 29 1 = Int32.ofNat L from h29]
  refine Wp.inv (d2 := D) (as := [.ref o, .int (Int32.ofNat L)]) (r := [.ref o]) rfl rfl rfl rfl rfl rfl (by omega) (g1 _ ?_)
  show Wp d 110 14 [some (.ref 0), none] [.ref o] k1 Q
  refine Wp.seg 2 (pc1 := 16) (ls1 := [some (.ref 0), some (.ref o)]) (st1 := [.ref 0]) rfl ?_
  refine Wp.gr (t := (10, 0)) (v := some (29)) rfl (WF.t hwk1 0 rfl) rfl (WF.r hwk1 0 5 4 rfl) ?_
  show Wp d 110 19 [some (.ref 0), some (.ref o)] [.ref 29] k1 Q
  refine Wp.invV (d2 := D) (as := [.ref 29]) (r := []) (t := (6, 0)) rfl rfl rfl rfl (WF.t hwk1 29 rfl) rfl rfl ⟨rfl, rfl⟩ (by omega) (g2 _ ?_)
  show Wp d 110 22 [some (.ref 0), some (.ref o)] [] k2 Q
  refine Wp.seg 1 (pc1 := 23) (ls1 := [some (.ref 0), some (.ref o)]) (st1 := [.ref 0]) rfl ?_
  refine Wp.gr (t := (10, 0)) (v := some (29)) rfl (WF.t hwk2 0 rfl) rfl (WF.r hwk2 0 5 4 rfl) ?_
  show Wp d 110 26 [some (.ref 0), some (.ref o)] [.ref 29] k2 Q
  refine Wp.seg 1 (pc1 := 27) (ls1 := [some (.ref 0), some (.ref o)]) (st1 := [.ref o, .ref 29]) rfl ?_
  refine Wp.invV (d2 := D) (as := [.ref 29, .ref o]) (r := []) (t := (6, 0)) rfl rfl rfl rfl (WF.t hwk2 29 rfl) rfl rfl ⟨rfl, rfl⟩ (by omega) (g3 _ ?_)
  show Wp d 110 30 [some (.ref 0), some (.ref o)] [.int (1)] k3 Q
  refine Wp.if1 rfl (fun c1 => ?_) (fun c1 => absurd (show ¬ (1 : Int32) = 0 by decide) c1)
  refine Wp.seg 1 (pc1 := 45) (ls1 := [some (.ref 0), some (.ref o)]) (st1 := [.ref 0]) rfl ?_
  refine Wp.gr (t := (10, 0)) (v := some (1)) rfl (WF.t hwk3 0 rfl) rfl (WF.r hwk3 0 0 0 rfl) ?_
  show Wp d 110 48 [some (.ref 0), some (.ref o)] [.ref 1] k3 Q
  refine Wp.seg 1 (pc1 := 49) (ls1 := [some (.ref 0), some (.ref o)]) (st1 := [.ref o, .ref 1]) rfl ?_
  refine Wp.pr (t := (1, 0)) rfl (WF.t hwk3 1 rfl) rfl ?_
  refine Wp.seg 1 (pc1 := 53) (ls1 := [some (.ref 0), some (.ref o)]) (st1 := [.ref o]) rfl ?_
  refine Wp.gi (t := (9, 0)) rfl hO.1 (Or.inl rfl) ?_
  rw [show (kwr k3 1 10 (some o)).2.2.1 o 4 = x from hx]
  exact Wp.reti rfl rfl hQ
