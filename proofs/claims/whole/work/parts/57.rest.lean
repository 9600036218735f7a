/-! KM: the reference: what is thought, put back; dusks in a row -/
/-- the reference holds A, under the rules RL -/
def refOK (h : KH) (A : Nat → Int32) (RL : List Rul) (n c dn en : Nat) : Prop := nrm (h.2.2.1 60) = A ∧ okS (h.2.2.1 60) n c dn en ∧ rulesS (h.2.2.1 60) RL
theorem refOK.A {h : KH} {A : Nat → Int32} {RL : List Rul} {n c dn en : Nat} (k : refOK h A RL n c dn en) : okS A n c dn en := by
  rw [← k.1]
  exact okS_nrm k.2.1
def pM : Nat → Prop := fun c => c = 60 ∨ c = 64
def keepS (S T : Nat → Int32) : Prop := ∀ m, (m = 9 ∨ m = 10 ∨ 35 ≤ m) → S m = T m
theorem pM62 : ¬ pM 62 := by unfold pM; decide
theorem keepS.trans {S T U : Nat → Int32} (h : keepS S T) (g : keepS T U) : keepS S U := fun m hm => (h m hm).trans (g m hm)
theorem go_keep {S : Nat → Int32} {RL : List Rul} {n : Nat} {t : Int32} (hn : n ≤ 6) (ht : okT n t) : keepS (goS S RL n t) S := by
  intro m hm
  rw [goS_e, tail_out (by omega) (by omega) (by omega), actX_out ht hn (by omega) (by omega), walkL_out _ _ _ _ (by omega)]
theorem rules_keep {S T : Nat → Int32} {RL : List Rul} (h : keepS S T) (hR : rulesS T RL) : rulesS S RL := rulesS_congr (fun m hm => h m (by omega)) (h 10 (by omega)) hR
theorem s_goesF {d : Nat} {Q : KO → Prop} {h : KH} (hw : WF h) {n c dn en : Nat} {A : Nat → Int32} {t : Int32} {RL : List Rul} (hk : refOK h A RL n c dn en) (hlt : dn < en) (ht : okT n t) (hd : 5 ≤ d)
    (hQ : ∀ k, Fr pM noP h k → refOK k (goA RL A t) RL n c (dn + 1) en → keepS (k.2.2.1 60) (h.2.2.1 60) → Q (some (.int (wA RL A t)), k)) : Cl d 222 [.ref 59, .int t] h Q := by
  obtain ⟨k1, k2, k3⟩ := hk
  have g := go_nrm k1 (RL := RL) k2 ht
  have hkp := go_keep (S := h.2.2.1 60) (RL := RL) k2.1 ht
  refine s_goes hw hd k2.1 k2.2.1 k2.2.2.2.2.2.2.2.2.2 k3 ht (fun l _ => ?_) (fun p => ?_)
  · rw [k2.2.2.2.1]
    exact ⟨fixS_all k2.2.2.1 l, clr_shut _ l⟩
  · rw [g.2]
    have e60 : (hG h (goS (h.2.2.1 60) RL n t) p).2.2.1 60 = goS (h.2.2.1 60) RL n t := hG_S _ _ _
    refine hQ _ ⟨rfl, rfl, fun b hb => ?_, fun _ _ _ => rfl⟩ ⟨?_, ?_, ?_⟩ ?_
    · unfold pM at hb
      show ku (ku _ 64 p) 60 _ b = _
      rw [ku_n _ _ (by omega), ku_n _ _ (by omega)]
    · rw [e60]; exact g.1
    · rw [e60]; exact go_okS k2 ht hlt
    · rw [e60]; exact rules_keep hkp k3
    · rw [e60]; exact hkp
theorem r_over0 {d : Nat} {Q : KO → Prop} {h : KH} (hw : WF h) {n c dn en : Nat} {A : Nat → Int32} {RL : List Rul} (hk : refOK h A RL n c dn en) (hlt : dn < en) (hQ : Q (some (.int 0), h)) : Cl d 180 [.ref 59] h Q := by
  refine s_isOver hw (Nat.zero_le _) ?_
  obtain ⟨-, ⟨o1, o2, o3, o4, o5, o6, o7, o8, o9, o10⟩, -⟩ := hk
  unfold f_isOver
  rw [o5, o6, if_pos ((olt (by omega) (by omega)).mpr hlt)]
  exact hQ
theorem r_over1 {d : Nat} {Q : KO → Prop} {h : KH} (hw : WF h) {n c dn en : Nat} {A : Nat → Int32} {RL : List Rul} (hk : refOK h A RL n c dn en) (hlt : ¬ dn < en) (hQ : Q (some (.int 1), h)) : Cl d 180 [.ref 59] h Q := by
  refine s_isOver hw (Nat.zero_le _) ?_
  obtain ⟨-, ⟨o1, o2, o3, o4, o5, o6, o7, o8, o9, o10⟩, -⟩ := hk
  unfold f_isOver
  rw [o5, o6, if_neg (fun z => hlt ((olt (by omega) (by omega)).mp z))]
  exact hQ
set_option maxHeartbeats 4000000 in
theorem t_gbt0 {d : Nat} {Q : KO → Prop} {h : KH} (hw : WF h) {A : Nat → Int32} {RL : List Rul} {n c dn en : Nat} (hk : refOK h A RL n c dn en) (hlt : dn < en) (h8 : h.2.2.1 60 8 = 0) (ht : okT n (-1)) (hd : 6 ≤ d) (hQ : ∀ k, Fr pM noP h k → refOK k (goA RL A (-1)) RL n c (dn + 1) en → keepS (k.2.2.1 60) (h.2.2.1 60) → (Q (some (.int (wA RL A (-1))), k))) : Cl d 223 [.ref 59] h Q := by
  refine Cl.of (ls := [some (.ref 59)]) rfl rfl ?_
  refine Wp.seg 2 (pc1 := 2) (ls1 := [some (.ref 59)]) (st1 := [.ref 59, .ref 59]) rfl ?_
  refine Wp.gr (t := (11, 0)) (v := some (60)) rfl (WF.t hw 59 rfl) rfl (WF.r hw 59 0 58 rfl) ?_
  show Wp d 223 5 [some (.ref 59)] [.ref 60, .ref 59] h Q
  refine Wp.seg 1 (pc1 := 7) (ls1 := [some (.ref 59)]) (st1 := [.int (8), .ref 60, .ref 59]) rfl ?_
  refine Wp.iald (j := 8) (k := 20) (n := 585) rfl (WF.t hw 60 rfl) rfl rfl (by decide) (by decide) ?_
  rw [show h.2.2.1 60 8 = 0 from h8]
  refine Wp.if1 rfl (fun c1 => absurd c1 (show ¬ (¬ (0 : Int32) = 0) by decide)) (fun c1 => ?_)
  refine Wp.seg 2 (pc1 := 29) (ls1 := [some (.ref 59)]) (st1 := [.int (-1), .ref 59]) rfl ?_
  refine Wp.invV (d2 := 5) (as := [.ref 59, .int (-1)]) (r := []) (t := (11, 0)) rfl rfl rfl rfl (WF.t hw 59 rfl) rfl rfl ⟨rfl, rfl⟩ (by omega) (s_goesF hw hk hlt ht (Nat.le_refl _) ?_)
  intro k f g e
  show Wp d 223 32 [some (.ref 59)] [.int (wA RL A (-1))] k Q
  exact Wp.reti rfl rfl (hQ k f g e)
set_option maxHeartbeats 4000000 in
theorem t_gbt1 {d : Nat} {Q : KO → Prop} {h : KH} (hw : WF h) {A : Nat → Int32} {RL : List Rul} {n c dn en : Nat} (hk : refOK h A RL n c dn en) (hlt : dn < en) (h8 : h.2.2.1 60 8 = Int32.ofNat n) (h1 : h.2.2.1 60 1 = Int32.ofNat dn) (hn0 : ¬ Int32.ofNat n = 0) (ht : okT n ((Int32.ofNat dn) - (Int32.ofNat dn) / (Int32.ofNat n) * (Int32.ofNat n))) (hd : 6 ≤ d) (hQ : ∀ k, Fr pM noP h k → refOK k (goA RL A ((Int32.ofNat dn) - (Int32.ofNat dn) / (Int32.ofNat n) * (Int32.ofNat n))) RL n c (dn + 1) en → keepS (k.2.2.1 60) (h.2.2.1 60) → (Q (some (.int (wA RL A ((Int32.ofNat dn) - (Int32.ofNat dn) / (Int32.ofNat n) * (Int32.ofNat n)))), k))) : Cl d 223 [.ref 59] h Q := by
  refine Cl.of (ls := [some (.ref 59)]) rfl rfl ?_
  refine Wp.seg 2 (pc1 := 2) (ls1 := [some (.ref 59)]) (st1 := [.ref 59, .ref 59]) rfl ?_
  refine Wp.gr (t := (11, 0)) (v := some (60)) rfl (WF.t hw 59 rfl) rfl (WF.r hw 59 0 58 rfl) ?_
  show Wp d 223 5 [some (.ref 59)] [.ref 60, .ref 59] h Q
  refine Wp.seg 1 (pc1 := 7) (ls1 := [some (.ref 59)]) (st1 := [.int (8), .ref 60, .ref 59]) rfl ?_
  refine Wp.iald (j := 8) (k := 20) (n := 585) rfl (WF.t hw 60 rfl) rfl rfl (by decide) (by decide) ?_
  rw [show h.2.2.1 60 8 = Int32.ofNat n from h8]
  refine Wp.if1 rfl (fun c1 => ?_) (fun c1 => absurd (hn0) c1)
  refine Wp.seg 1 (pc1 := 16) (ls1 := [some (.ref 59)]) (st1 := [.ref 59, .ref 59]) rfl ?_
  refine Wp.gr (t := (11, 0)) (v := some (60)) rfl (WF.t hw 59 rfl) rfl (WF.r hw 59 0 58 rfl) ?_
  show Wp d 223 19 [some (.ref 59)] [.ref 60, .ref 59] h Q
  refine Wp.seg 1 (pc1 := 20) (ls1 := [some (.ref 59)]) (st1 := [.int (1), .ref 60, .ref 59]) rfl ?_
  refine Wp.iald (j := 1) (k := 20) (n := 585) rfl (WF.t hw 60 rfl) rfl rfl (by decide) (by decide) ?_
  rw [show h.2.2.1 60 1 = Int32.ofNat dn from h1]
  refine Wp.seg 1 (pc1 := 22) (ls1 := [some (.ref 59)]) (st1 := [.ref 59, .int (Int32.ofNat dn), .ref 59]) rfl ?_
  refine Wp.gr (t := (11, 0)) (v := some (60)) rfl (WF.t hw 59 rfl) rfl (WF.r hw 59 0 58 rfl) ?_
  show Wp d 223 25 [some (.ref 59)] [.ref 60, .int (Int32.ofNat dn), .ref 59] h Q
  refine Wp.seg 1 (pc1 := 27) (ls1 := [some (.ref 59)]) (st1 := [.int (8), .ref 60, .int (Int32.ofNat dn), .ref 59]) rfl ?_
  refine Wp.iald (j := 8) (k := 20) (n := 585) rfl (WF.t hw 60 rfl) rfl rfl (by decide) (by decide) ?_
  rw [show h.2.2.1 60 8 = Int32.ofNat n from h8]
  refine Wp.rem rfl (hn0) ?_
  refine Wp.invV (d2 := 5) (as := [.ref 59, .int ((Int32.ofNat dn) - (Int32.ofNat dn) / (Int32.ofNat n) * (Int32.ofNat n))]) (r := []) (t := (11, 0)) rfl rfl rfl rfl (WF.t hw 59 rfl) rfl rfl ⟨rfl, rfl⟩ (by omega) (s_goesF hw hk hlt ht (Nat.le_refl _) ?_)
  intro k f g e
  show Wp d 223 32 [some (.ref 59)] [.int (wA RL A ((Int32.ofNat dn) - (Int32.ofNat dn) / (Int32.ofNat n) * (Int32.ofNat n)))] k Q
  exact Wp.reti rfl rfl (hQ k f g e)
theorem r_byTurns {d : Nat} {Q : KO → Prop} {h : KH} (hw : WF h) {n c dn en : Nat} {A : Nat → Int32} {RL : List Rul} (hk : refOK h A RL n c dn en) (hlt : dn < en) (hd : 6 ≤ d)
    (hQ : ∀ k, Fr pM noP h k → refOK k (goA RL A (turnT n dn)) RL n c (dn + 1) en → keepS (k.2.2.1 60) (h.2.2.1 60) → Q (some (.int (wA RL A (turnT n dn))), k)) : Cl d 223 [.ref 59] h Q := by
  have ht := turn_okT n dn
  obtain ⟨o1, o2, o3, o4, o5, o6, o7, o8, o9, o10⟩ := hk.2.1
  unfold turnT at hQ ht
  by_cases q : n = 0
  · subst q
    exact t_gbt0 hw hk hlt o2 ht hd hQ
  · have er := orem (p := dn) (q := n) (by omega) (by omega) (by omega)
    simp only [if_neg q] at hQ ht
    refine t_gbt1 hw hk hlt o2 o5 (fun z => q ((oeq (b := 0) (by omega) (by decide)).mp z)) (by rw [er]; exact ht) hd ?_
    rw [er]
    exact hQ
/-! all is copied -/
set_option maxHeartbeats 4000000 in
theorem t_cpaB {d : Nat} {Q : KO → Prop} {h : KH} {f t i : Nat} (hf : h.1 f = (20, 585)) (ht : h.1 t = (20, 585)) (hi : i < 585) (hd : 0 ≤ d) (hQ : Wp d 171 2 ([some (.ref f), some (.ref t), some (.int ((Int32.ofNat i) + 1))]) [] (kwi h t i (h.2.2.1 f i)) Q) : Wp d 171 2 [some (.ref f), some (.ref t), some (.int (Int32.ofNat i))] [] h Q := by
  refine Wp.seg 2 (pc1 := 6) (ls1 := [some (.ref f), some (.ref t), some (.int (Int32.ofNat i))]) (st1 := [.int (585), .int (Int32.ofNat i)]) rfl ?_
  refine Wp.if2 rfl (fun c1 => absurd c1 (fun c => by have := (zle (m := 585) rfl (znat (n := i) (by omega))).mp c; omega)) (fun c1 => ?_)
  refine Wp.seg 4 (pc1 := 13) (ls1 := [some (.ref f), some (.ref t), some (.int (Int32.ofNat i))]) (st1 := [.int (Int32.ofNat i), .ref f, .int (Int32.ofNat i), .ref t]) rfl ?_
  refine Wp.iald (j := i) (k := 20) (n := 585) rfl hf rfl rfl (by omega) (by decide) ?_
  refine Wp.iast (j := i) (n := 585) rfl ht rfl (by omega) (by decide) ?_
  refine Wp.seg 2 (pc1 := 2) (ls1 := [some (.ref f), some (.ref t), some (.int ((Int32.ofNat i) + 1))]) (st1 := []) rfl ?_
  exact hQ
set_option maxHeartbeats 4000000 in
theorem t_cpaE {d : Nat} {Q : KO → Prop} {h : KH} {f t : Nat} (hd : 0 ≤ d) (hQ : Q (none, h)) : Wp d 171 2 [some (.ref f), some (.ref t), some (.int (585))] [] h Q := by
  refine Wp.seg 2 (pc1 := 6) (ls1 := [some (.ref f), some (.ref t), some (.int (585))]) (st1 := [.int (585), .int (585)]) rfl ?_
  refine Wp.if2 rfl (fun c1 => ?_) (fun c1 => absurd (show (585 : Int32) ≤ (585 : Int32) by decide) c1)
  exact Wp.retv rfl rfl hQ
set_option maxHeartbeats 4000000 in
theorem t_cpa {d : Nat} {Q : KO → Prop} {h : KH} {f t : Nat} (hd : 0 ≤ d) (hQ : Wp d 171 2 ([some (.ref f), some (.ref t), some (.int (0))]) [] h Q) : Cl d 171 [.ref f, .ref t] h Q := by
  refine Cl.of (ls := [some (.ref f), some (.ref t), none]) rfl rfl ?_
  refine Wp.seg 2 (pc1 := 2) (ls1 := [some (.ref f), some (.ref t), some (.int (0))]) (st1 := []) rfl ?_
  exact hQ
theorem s_copyAllL {d : Nat} {Q : KO → Prop} {f t : Nat} (hft : f ≠ t) (ht75 : t < 75) : ∀ (j i : Nat) (h : KH), i + j = 585 → h.1 f = (20, 585) → h.1 t = (20, 585) →
    (∀ k, Fr (fun c => c = t) noP h k → (∀ m, i ≤ m → m < 585 → k.2.2.1 t m = h.2.2.1 f m) → (∀ m, (m < i ∨ 585 ≤ m) → k.2.2.1 t m = h.2.2.1 t m) → Q (none, k)) → Wp d 171 2 [some (.ref f), some (.ref t), some (.int (Int32.ofNat i))] [] h Q
  | 0, i, h, hij, hf, ht, hQ => by
    obtain rfl : i = 585 := hij
    exact t_cpaE (Nat.zero_le _) (hQ h (Fr.refl h) (fun m h1 h2 => by omega) (fun m _ => rfl))
  | j + 1, i, h, hij, hf, ht, hQ => by
    refine t_cpaB hf ht (by omega) (Nat.zero_le _) ?_
    have ei : Int32.ofNat i + 1 = Int32.ofNat (i + 1) := ofadd i 1
    rw [ei]
    have ef : (kwi h t i (h.2.2.1 f i)).2.2.1 f = h.2.2.1 f := kwi_r hft
    refine s_copyAllL hft ht75 j (i + 1) (kwi h t i (h.2.2.1 f i)) (by omega) hf ht (fun k f2 q1 q2 => hQ k (Fr.trans (fr_kwi rfl ht75) f2) (fun m h1 h2 => ?_) (fun m hm => ?_))
    · by_cases e : m = i
      · subst e
        rw [q2 m (by omega)]
        exact kwi_s
      · rw [q1 m (by omega) h2, ef]
    · rw [q2 m (by omega)]
      exact kwi_o (by omega)
theorem s_copyAll {d : Nat} {Q : KO → Prop} {h : KH} {f t : Nat} (hft : f ≠ t) (ht75 : t < 75) (hf : h.1 f = (20, 585)) (ht : h.1 t = (20, 585))
    (hQ : ∀ k, Fr (fun c => c = t) noP h k → (∀ m, m < 585 → k.2.2.1 t m = h.2.2.1 f m) → (∀ m, 585 ≤ m → k.2.2.1 t m = h.2.2.1 t m) → Q (none, k)) : Cl d 171 [.ref f, .ref t] h Q :=
  t_cpa (Nat.zero_le _) (s_copyAllL hft ht75 585 0 h (by omega) hf ht (fun k f q1 q2 => hQ k f (fun m hm => q1 m (Nat.zero_le _) hm) (fun m hm => q2 m (Or.inr hm))))
set_option maxHeartbeats 4000000 in
theorem s_thinks {d : Nat} {Q : KO → Prop} {h : KH} (hw : WF h) (hd : 1 ≤ d) (hQ : ∀ k, Fr (fun c => c = 62) noP h k → (∀ m, m < 585 → k.2.2.1 62 m = h.2.2.1 60 m) → (∀ m, 585 ≤ m → k.2.2.1 62 m = h.2.2.1 62 m) → (Q (none, k))) : Cl d 172 [.ref 59] h Q := by
  refine Cl.of (ls := [some (.ref 59)]) rfl rfl ?_
  refine Wp.seg 1 (pc1 := 1) (ls1 := [some (.ref 59)]) (st1 := [.ref 59]) rfl ?_
  refine Wp.gr (t := (11, 0)) (v := some (60)) rfl (WF.t hw 59 rfl) rfl (WF.r hw 59 0 58 rfl) ?_
  show Wp d 172 4 [some (.ref 59)] [.ref 60] h Q
  refine Wp.seg 1 (pc1 := 5) (ls1 := [some (.ref 59)]) (st1 := [.ref 59, .ref 60]) rfl ?_
  refine Wp.gr (t := (11, 0)) (v := some (62)) rfl (WF.t hw 59 rfl) rfl (WF.r hw 59 2 60 rfl) ?_
  show Wp d 172 8 [some (.ref 59)] [.ref 62, .ref 60] h Q
  refine Wp.inv (d2 := 0) (as := [.ref 60, .ref 62]) (r := []) rfl rfl rfl rfl rfl rfl (by omega) (s_copyAll (f := 60) (t := 62) (by decide) (by decide) (WF.t hw 60 rfl) (WF.t hw 62 rfl) ?_)
  intro k f q1 q2
  show Wp d 172 11 [some (.ref 59)] [] k Q
  exact Wp.retv rfl rfl (hQ k f q1 q2)
set_option maxHeartbeats 4000000 in
theorem s_putsBack {d : Nat} {Q : KO → Prop} {h : KH} (hw : WF h) (hd : 1 ≤ d) (hQ : ∀ k, Fr (fun c => c = 60) noP h k → (∀ m, m < 585 → k.2.2.1 60 m = h.2.2.1 62 m) → (∀ m, 585 ≤ m → k.2.2.1 60 m = h.2.2.1 60 m) → (Q (none, k))) : Cl d 173 [.ref 59] h Q := by
  refine Cl.of (ls := [some (.ref 59)]) rfl rfl ?_
  refine Wp.seg 1 (pc1 := 1) (ls1 := [some (.ref 59)]) (st1 := [.ref 59]) rfl ?_
  refine Wp.gr (t := (11, 0)) (v := some (62)) rfl (WF.t hw 59 rfl) rfl (WF.r hw 59 2 60 rfl) ?_
  show Wp d 173 4 [some (.ref 59)] [.ref 62] h Q
  refine Wp.seg 1 (pc1 := 5) (ls1 := [some (.ref 59)]) (st1 := [.ref 59, .ref 62]) rfl ?_
  refine Wp.gr (t := (11, 0)) (v := some (60)) rfl (WF.t hw 59 rfl) rfl (WF.r hw 59 0 58 rfl) ?_
  show Wp d 173 8 [some (.ref 59)] [.ref 60, .ref 62] h Q
  refine Wp.inv (d2 := 0) (as := [.ref 62, .ref 60]) (r := []) rfl rfl rfl rfl rfl rfl (by omega) (s_copyAll (f := 62) (t := 60) (by decide) (by decide) (WF.t hw 62 rfl) (WF.t hw 60 rfl) ?_)
  intro k f q1 q2
  show Wp d 173 11 [some (.ref 59)] [] k Q
  exact Wp.retv rfl rfl (hQ k f q1 q2)
/-- in thought: S is kept -/
def refTh (h : KH) (S A : Nat → Int32) (RL : List Rul) (n c dn en : Nat) : Prop := refOK h A RL n c dn en ∧ (∀ j, j < 585 → h.2.2.1 62 j = S j) ∧ keepS (h.2.2.1 60) S
theorem refTh.next {h k : KH} {S A B : Nat → Int32} {RL : List Rul} {n c dn dm en : Nat} {P : Nat → Prop} (t : refTh h S A RL n c dn en) (f : Fr P noP h k) (h62 : ¬ P 62) (g : refOK k B RL n c dm en) (e : keepS (k.2.2.1 60) (h.2.2.1 60)) : refTh k S B RL n c dm en :=
  ⟨g, fun j hj => by rw [f.2.2.1 62 (Or.inl h62)]; exact t.2.1 j hj, e.trans t.2.2⟩
theorem r_back {d : Nat} {Q : KO → Prop} {h : KH} (hw : WF h) {S A : Nat → Int32} {RL : List Rul} {n c dn en : Nat} (hk : refTh h S A RL n c dn en) (hd : 1 ≤ d)
    (hQ : ∀ k, Fr (fun c => c = 60) noP h k → k.2.2.1 60 = S → Q (none, k)) : Cl d 173 [.ref 59] h Q := by
  refine s_putsBack hw hd (fun k f q1 q2 => hQ k f ?_)
  funext m
  by_cases q : m < 585
  · rw [q1 m q, hk.2.1 m q]
  · rw [q2 m (by omega), hk.2.2 m (by omega)]
theorem r_thinks {d : Nat} {Q : KO → Prop} {h : KH} (hw : WF h) {A : Nat → Int32} {RL : List Rul} {n c dn en : Nat} (hk : refOK h A RL n c dn en) (hd : 1 ≤ d)
    (hQ : ∀ k, Fr (fun c => c = 62) noP h k → refTh k (h.2.2.1 60) A RL n c dn en → Q (none, k)) : Cl d 172 [.ref 59] h Q := by
  refine s_thinks hw hd (fun k f q1 q2 => hQ k f ⟨?_, q1, fun m _ => by rw [f.2.2.1 60 (Or.inl (by decide))]⟩)
  unfold refOK
  rw [f.2.2.1 60 (Or.inl (by decide))]
  exact hk
def pT : Nat → Prop := fun c => c = 60 ∨ c = 62 ∨ c = 64
theorem pM_T (c : Nat) (h : pM c) : pT c := by unfold pM at h; unfold pT; omega
theorem FrM {h k : KH} (f : Fr pM noP h k) : Fr pT noP h k := f.mono pM_T (fun _ z => z)
theorem Fr60 {h k : KH} (f : Fr (fun c => c = 60) noP h k) : Fr pM noP h k := f.mono (fun _ z => Or.inl z) (fun _ z => z)
theorem Fr62 {h k : KH} (f : Fr (fun c => c = 62) noP h k) : Fr pT noP h k := f.mono (fun _ z => Or.inr (Or.inl z)) (fun _ z => z)
theorem refOK_eq {h k : KH} {A : Nat → Int32} {RL : List Rul} {n c dn en : Nat} (hk : refOK h A RL n c dn en) (e : k.2.2.1 60 = h.2.2.1 60) : refOK k A RL n c dn en := by
  unfold refOK
  rw [e]
  exact hk
set_option maxHeartbeats 4000000 in
theorem t_roB {d : Nat} {Q : KO → Prop} {h : KH} (hw : WF h) {A : Nat → Int32} {RL : List Rul} {n c dn en : Nat} (hk : refOK h A RL n c dn en) (hlt : dn < en) {m i : Nat} {s : Int32} (him : i < m) (hm : m ≤ 16) (hd : 7 ≤ d) (hQ : ∀ k, Fr pM noP h k → refOK k (goA RL A (turnT n dn)) RL n c (dn + 1) en → keepS (k.2.2.1 60) (h.2.2.1 60) → (Wp d 225 4 ([some (.ref 59), some (.int (Int32.ofNat m)), some (.int (s + (wA RL A (turnT n dn)))), some (.int ((Int32.ofNat i) + 1))]) [] k Q)) : Wp d 225 4 [some (.ref 59), some (.int (Int32.ofNat m)), some (.int (s)), some (.int (Int32.ofNat i))] [] h Q := by
  refine Wp.seg 2 (pc1 := 6) (ls1 := [some (.ref 59), some (.int (Int32.ofNat m)), some (.int (s)), some (.int (Int32.ofNat i))]) (st1 := [.int (Int32.ofNat m), .int (Int32.ofNat i)]) rfl ?_
  refine Wp.if2 rfl (fun c1 => absurd c1 (fun c => by have := (ole (by omega) (by omega)).mp c; omega)) (fun c1 => ?_)
  refine Wp.seg 1 (pc1 := 10) (ls1 := [some (.ref 59), some (.int (Int32.ofNat m)), some (.int (s)), some (.int (Int32.ofNat i))]) (st1 := [.ref 59]) rfl ?_
  refine Wp.invV (d2 := 0) (as := [.ref 59]) (r := []) (t := (11, 0)) rfl rfl rfl rfl (WF.t hw 59 rfl) rfl rfl ⟨rfl, rfl⟩ (by omega) (r_over0 hw hk hlt ?_)
  show Wp d 225 13 [some (.ref 59), some (.int (Int32.ofNat m)), some (.int (s)), some (.int (Int32.ofNat i))] [.int (0)] h Q
  refine Wp.if1 rfl (fun c2 => absurd c2 (show ¬ (¬ (0 : Int32) = 0) by decide)) (fun c2 => ?_)
  refine Wp.seg 2 (pc1 := 18) (ls1 := [some (.ref 59), some (.int (Int32.ofNat m)), some (.int (s)), some (.int (Int32.ofNat i))]) (st1 := [.ref 59, .int (s)]) rfl ?_
  refine Wp.invV (d2 := 6) (as := [.ref 59]) (r := [.int (s)]) (t := (11, 0)) rfl rfl rfl rfl (WF.t hw 59 rfl) rfl rfl ⟨rfl, rfl⟩ (by omega) (r_byTurns hw hk hlt (Nat.le_refl _) ?_)
  intro k f g e
  show Wp d 225 21 [some (.ref 59), some (.int (Int32.ofNat m)), some (.int (s)), some (.int (Int32.ofNat i))] [.int (wA RL A (turnT n dn)), .int (s)] k Q
  refine Wp.seg 4 (pc1 := 4) (ls1 := [some (.ref 59), some (.int (Int32.ofNat m)), some (.int (s + (wA RL A (turnT n dn)))), some (.int ((Int32.ofNat i) + 1))]) (st1 := []) rfl ?_
  exact (hQ k f g e)
set_option maxHeartbeats 4000000 in
theorem t_roO {d : Nat} {Q : KO → Prop} {h : KH} (hw : WF h) {A : Nat → Int32} {RL : List Rul} {n c dn en : Nat} (hk : refOK h A RL n c dn en) (hlt : ¬ dn < en) {m i : Nat} {s : Int32} (him : i < m) (hm : m ≤ 16) (hd : 1 ≤ d) (hQ : Wp d 225 29 ([some (.ref 59), some (.int (Int32.ofNat m)), some (.int (s)), some (.int (Int32.ofNat i))]) [] h Q) : Wp d 225 4 [some (.ref 59), some (.int (Int32.ofNat m)), some (.int (s)), some (.int (Int32.ofNat i))] [] h Q := by
  refine Wp.seg 2 (pc1 := 6) (ls1 := [some (.ref 59), some (.int (Int32.ofNat m)), some (.int (s)), some (.int (Int32.ofNat i))]) (st1 := [.int (Int32.ofNat m), .int (Int32.ofNat i)]) rfl ?_
  refine Wp.if2 rfl (fun c1 => absurd c1 (fun c => by have := (ole (by omega) (by omega)).mp c; omega)) (fun c1 => ?_)
  refine Wp.seg 1 (pc1 := 10) (ls1 := [some (.ref 59), some (.int (Int32.ofNat m)), some (.int (s)), some (.int (Int32.ofNat i))]) (st1 := [.ref 59]) rfl ?_
  refine Wp.invV (d2 := 0) (as := [.ref 59]) (r := []) (t := (11, 0)) rfl rfl rfl rfl (WF.t hw 59 rfl) rfl rfl ⟨rfl, rfl⟩ (by omega) (r_over1 hw hk hlt ?_)
  show Wp d 225 13 [some (.ref 59), some (.int (Int32.ofNat m)), some (.int (s)), some (.int (Int32.ofNat i))] [.int (1)] h Q
  refine Wp.if1 rfl (fun c2 => ?_) (fun c2 => absurd (show ¬ (1 : Int32) = 0 by decide) c2)
  exact hQ
set_option maxHeartbeats 4000000 in
theorem t_roX {d : Nat} {Q : KO → Prop} {h : KH} {m : Nat} {s : Int32} (hd : 0 ≤ d) (hQ : Wp d 225 29 ([some (.ref 59), some (.int (Int32.ofNat m)), some (.int (s)), some (.int (Int32.ofNat m))]) [] h Q) : Wp d 225 4 [some (.ref 59), some (.int (Int32.ofNat m)), some (.int (s)), some (.int (Int32.ofNat m))] [] h Q := by
  refine Wp.seg 2 (pc1 := 6) (ls1 := [some (.ref 59), some (.int (Int32.ofNat m)), some (.int (s)), some (.int (Int32.ofNat m))]) (st1 := [.int (Int32.ofNat m), .int (Int32.ofNat m)]) rfl ?_
  refine Wp.if2 rfl (fun c1 => ?_) (fun c1 => absurd (Int32.le_refl _) c1)
  exact hQ
set_option maxHeartbeats 4000000 in
theorem t_roE {d : Nat} {Q : KO → Prop} {h : KH} (hw : WF h) {S A : Nat → Int32} {RL : List Rul} {n c dn en : Nat} (hk : refTh h S A RL n c dn en) {m i s : Int32} (hd : 2 ≤ d) (hQ : ∀ k, Fr (fun c => c = 60) noP h k → k.2.2.1 60 = S → (Q (some (.int (s)), k))) : Wp d 225 29 [some (.ref 59), some (.int (m)), some (.int (s)), some (.int (i))] [] h Q := by
  refine Wp.seg 1 (pc1 := 30) (ls1 := [some (.ref 59), some (.int (m)), some (.int (s)), some (.int (i))]) (st1 := [.ref 59]) rfl ?_
  refine Wp.invV (d2 := 1) (as := [.ref 59]) (r := []) (t := (11, 0)) rfl rfl rfl rfl (WF.t hw 59 rfl) rfl rfl ⟨rfl, rfl⟩ (by omega) (r_back hw hk (Nat.le_refl _) ?_)
  intro k f e
  show Wp d 225 33 [some (.ref 59), some (.int (m)), some (.int (s)), some (.int (i))] [] k Q
  refine Wp.seg 1 (pc1 := 34) (ls1 := [some (.ref 59), some (.int (m)), some (.int (s)), some (.int (i))]) (st1 := [.int (s)]) rfl ?_
  exact Wp.reti rfl rfl (hQ k f e)
set_option maxHeartbeats 4000000 in
theorem t_ro {d : Nat} {Q : KO → Prop} {h : KH} {m : Int32} (hd : 7 ≤ d) (hQ : Wp d 225 4 ([some (.ref 59), some (.int (m)), some (.int (0)), some (.int (0))]) [] h Q) : Cl d 225 [.ref 59, .int (m)] h Q := by
  refine Cl.of (ls := [some (.ref 59), some (.int (m)), none, none]) rfl rfl ?_
  refine Wp.seg 4 (pc1 := 4) (ls1 := [some (.ref 59), some (.int (m)), some (.int (0)), some (.int (0))]) (st1 := []) rfl ?_
  exact hQ
theorem r_restL {d : Nat} {Q : KO → Prop} {S : Nat → Int32} {n c en m : Nat} {RL : List Rul} (hm : m ≤ 16) (hd : 7 ≤ d) : ∀ (j i dn : Nat) (A : Nat → Int32) (s : Int32) (h : KH), i + j = m → WF h → refTh h S A RL n c dn en →
    (∀ k, Fr pM noP h k → k.2.2.1 60 = S → Q (some (.int (restA RL n en j dn A s).1), k)) → Wp d 225 4 [some (.ref 59), some (.int (Int32.ofNat m)), some (.int s), some (.int (Int32.ofNat i))] [] h Q
  | 0, i, dn, A, s, h, hij, hw, hk, hQ => by
    obtain rfl : i = m := hij
    exact t_roX (Nat.zero_le _) (t_roE hw hk (by omega) (fun k f e => hQ k (Fr60 f) e))
  | j + 1, i, dn, A, s, h, hij, hw, hk, hQ => by
    unfold restA at hQ
    by_cases q : dn < en
    · simp only [if_pos q] at hQ
      refine t_roB hw hk.1 q (by omega) hm hd (fun k f g e => ?_)
      have ei : Int32.ofNat i + 1 = Int32.ofNat (i + 1) := ofadd i 1
      rw [ei]
      exact r_restL hm hd j (i + 1) (dn + 1) _ _ k (by omega) (f.wf hw (fun z => z)) (hk.next f pM62 g e) (fun k2 f2 g2 => hQ k2 (f.trans f2) g2)
    · simp only [if_neg q] at hQ
      exact t_roO hw hk.1 q (by omega) hm (by omega) (t_roE hw hk (by omega) (fun k f e => hQ k (Fr60 f) e))
theorem r_rest {d : Nat} {Q : KO → Prop} {h : KH} (hw : WF h) {S A : Nat → Int32} {n c dn en m : Nat} {RL : List Rul} (hk : refTh h S A RL n c dn en) (hm : m ≤ 16) (hd : 7 ≤ d)
    (hQ : ∀ k, Fr pM noP h k → k.2.2.1 60 = S → Q (some (.int (restA RL n en m dn A 0).1), k)) : Cl d 225 [.ref 59, .int (Int32.ofNat m)] h Q :=
  t_ro hd (r_restL hm hd m 0 dn A 0 h (by omega) hw hk hQ)
/-! by lot -/
theorem ref_kwi {h : KH} {n c dn en m : Nat} {A : Nat → Int32} {x : Int32} {RL : List Rul} (hk : refOK h A RL n c dn en) (hm : m = 3 ∨ m = 4 ∨ m = 5 ∨ m = 6 ∨ m = 7) : refOK (kwi h 60 m x) (ku A m x) RL n c dn en := by
  obtain ⟨k1, k2, k3⟩ := hk
  have e : (kwi h 60 m x).2.2.1 60 = ku (h.2.2.1 60) m x := ku_s h.2.2.1 60 (ku (h.2.2.1 60) m x)
  unfold refOK
  rw [e]
  exact ⟨by rw [nrm_ku (by omega), k1], okS_ku (by omega) k2, rules_keep (fun i hi => ku_n _ _ (by omega)) k3⟩
set_option maxHeartbeats 4000000 in
theorem t_rLot {d : Nat} {Q : KO → Prop} {h : KH} (hw : WF h) {A : Nat → Int32} {RL : List Rul} {n c dn en : Nat} (hk : refOK h A RL n c dn en) (hlt : dn < en) (h8 : h.2.2.1 60 8 = Int32.ofNat n) (h7 : h.2.2.1 60 7 = A 7) (hn6 : n ≤ 6) (hd : 6 ≤ d) (hQ : ∀ k, Fr pM noP (kwi h 60 7 (lotZ A)) k → refOK k (lotA RL n A) RL n c (dn + 1) en → keepS (k.2.2.1 60) ((kwi h 60 7 (lotZ A)).2.2.1 60) → (Q (some (.int (lotW RL n A)), k))) : Cl d 256 [.ref 59] h Q := by
  refine Cl.of (ls := [some (.ref 59)]) rfl rfl ?_
  refine Wp.seg 1 (pc1 := 1) (ls1 := [some (.ref 59)]) (st1 := [.ref 59]) rfl ?_
  refine Wp.gr (t := (11, 0)) (v := some (60)) rfl (WF.t hw 59 rfl) rfl (WF.r hw 59 0 58 rfl) ?_
  show Wp d 256 4 [some (.ref 59)] [.ref 60] h Q
  refine Wp.seg 2 (pc1 := 7) (ls1 := [some (.ref 59)]) (st1 := [.ref 59, .int (7), .ref 60]) rfl ?_
  refine Wp.gr (t := (11, 0)) (v := some (60)) rfl (WF.t hw 59 rfl) rfl (WF.r hw 59 0 58 rfl) ?_
  show Wp d 256 10 [some (.ref 59)] [.ref 60, .int (7), .ref 60] h Q
  refine Wp.seg 1 (pc1 := 12) (ls1 := [some (.ref 59)]) (st1 := [.int (7), .ref 60, .int (7), .ref 60]) rfl ?_
  refine Wp.iald (j := 7) (k := 20) (n := 585) rfl (WF.t hw 60 rfl) rfl rfl (by decide) (by decide) ?_
  rw [show h.2.2.1 60 7 = A 7 from h7]
  refine Wp.seg 4 (pc1 := 21) (ls1 := [some (.ref 59)]) (st1 := [.int (((A 7) * (1103515245 : Int32)) + (12345 : Int32)), .int (7), .ref 60]) rfl ?_
  refine Wp.iast (j := 7) (n := 585) rfl (WF.t hw 60 rfl) rfl (by decide) (by decide) ?_
  refine Wp.seg 2 (pc1 := 24) (ls1 := [some (.ref 59)]) (st1 := [.ref 59, .ref 59]) rfl ?_
  refine Wp.gr (t := (11, 0)) (v := some (60)) rfl (WF.t hw 59 rfl) rfl (WF.r hw 59 0 58 rfl) ?_
  show Wp d 256 27 [some (.ref 59)] [.ref 60, .ref 59] (kwi h 60 7 (((A 7) * (1103515245 : Int32)) + (12345 : Int32))) Q
  refine Wp.seg 1 (pc1 := 29) (ls1 := [some (.ref 59)]) (st1 := [.int (7), .ref 60, .ref 59]) rfl ?_
  refine Wp.iald (j := 7) (k := 20) (n := 585) rfl (WF.t hw 60 rfl) rfl rfl (by decide) (by decide) ?_
  rw [show (kwi h 60 7 (((A 7) * (1103515245 : Int32)) + (12345 : Int32))).2.2.1 60 7 = ((A 7) * (1103515245 : Int32)) + (12345 : Int32) from kwi_s]
  refine Wp.seg 3 (pc1 := 34) (ls1 := [some (.ref 59)]) (st1 := [.ref 59, .int (kushr (((A 7) * (1103515245 : Int32)) + (12345 : Int32)) (16 : Int32)), .ref 59]) rfl ?_
  refine Wp.gr (t := (11, 0)) (v := some (60)) rfl (WF.t hw 59 rfl) rfl (WF.r hw 59 0 58 rfl) ?_
  show Wp d 256 37 [some (.ref 59)] [.ref 60, .int (kushr (((A 7) * (1103515245 : Int32)) + (12345 : Int32)) (16 : Int32)), .ref 59] (kwi h 60 7 (((A 7) * (1103515245 : Int32)) + (12345 : Int32))) Q
  refine Wp.seg 1 (pc1 := 39) (ls1 := [some (.ref 59)]) (st1 := [.int (8), .ref 60, .int (kushr (((A 7) * (1103515245 : Int32)) + (12345 : Int32)) (16 : Int32)), .ref 59]) rfl ?_
  refine Wp.iald (j := 8) (k := 20) (n := 585) rfl (WF.t hw 60 rfl) rfl rfl (by decide) (by decide) ?_
  rw [show (kwi h 60 7 (((A 7) * (1103515245 : Int32)) + (12345 : Int32))).2.2.1 60 8 = Int32.ofNat n from ((kwi_o (by decide)).trans (rfl)).trans h8]
  refine Wp.seg 2 (pc1 := 42) (ls1 := [some (.ref 59)]) (st1 := [.int ((Int32.ofNat n) + (1 : Int32)), .int (kushr (((A 7) * (1103515245 : Int32)) + (12345 : Int32)) (16 : Int32)), .ref 59]) rfl ?_
  refine Wp.rem rfl (fun c => by have := (zeq (zc (znat (n := n) (by omega)) (n := 1) rfl (by omega)) (n := 0) rfl).mp c; omega) ?_
  refine Wp.seg 2 (pc1 := 45) (ls1 := [some (.ref 59)]) (st1 := [.int (((kushr (((A 7) * (1103515245 : Int32)) + (12345 : Int32)) (16 : Int32)) - (kushr (((A 7) * (1103515245 : Int32)) + (12345 : Int32)) (16 : Int32)) / ((Int32.ofNat n) + (1 : Int32)) * ((Int32.ofNat n) + (1 : Int32))) - (1 : Int32)), .ref 59]) rfl ?_
  refine Wp.invV (d2 := 5) (as := [.ref 59, .int (((kushr (((A 7) * (1103515245 : Int32)) + (12345 : Int32)) (16 : Int32)) - (kushr (((A 7) * (1103515245 : Int32)) + (12345 : Int32)) (16 : Int32)) / ((Int32.ofNat n) + (1 : Int32)) * ((Int32.ofNat n) + (1 : Int32))) - (1 : Int32))]) (r := []) (t := (11, 0)) rfl rfl rfl rfl (WF.t hw 59 rfl) rfl rfl ⟨rfl, rfl⟩ (by omega) (s_goesF (h := kwi h 60 7 (lotZ A)) hw (ref_kwi (m := 7) hk (by decide)) hlt (lot_okT hk.2.1.1 _) (Nat.le_refl _) ?_)
  intro k f g e
  show Wp d 256 48 [some (.ref 59)] [.int (lotW RL n A)] k Q
  exact Wp.reti rfl rfl (hQ k f g e)
theorem r_byLot {d : Nat} {Q : KO → Prop} {h : KH} (hw : WF h) {n c dn en : Nat} {A : Nat → Int32} {RL : List Rul} (hk : refOK h A RL n c dn en) (hlt : dn < en) (hd : 6 ≤ d)
    (hQ : ∀ k, Fr pM noP h k → refOK k (lotA RL n A) RL n c (dn + 1) en → keepS (k.2.2.1 60) (h.2.2.1 60) → Q (some (.int (lotW RL n A)), k)) : Cl d 256 [.ref 59] h Q := by
  have h7 : h.2.2.1 60 7 = A 7 := congrFun hk.1 7
  refine t_rLot hw hk hlt hk.2.1.2.1 h7 hk.2.1.1 hd (fun k f g e => hQ k (Fr.trans (fr_kwi (Or.inl rfl) (by decide)) f) g (e.trans (fun m hm => ?_)))
  exact kwi_o (by omega)
