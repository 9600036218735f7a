/-! KM: the class, all plans by turns -/
/-- the hands walk; one acts and the dusk ends -/
def walkA (n : Nat) (A : Nat → Int32) : Nat → Int32 := nrm (walkL n 0 A)
def setA (RL : List Rul) (B : Nat → Int32) (t : Int32) : Nat → Int32 := nrm (tailS (actX B RL t))
theorem set_walk {RL : List Rul} {A : Nat → Int32} {n c dn en : Nat} {t : Int32} (hk : okS A n c dn en) (ht : okT n t) : setA RL (walkA n A) t = goA RL A t := by
  unfold setA goA walkA
  rw [nh_e hk, goS_e]
  exact agr_nrm (agr_tail (agr_actX (nrm_agr _) hk.1 RL ht))
theorem goA_3 {RL : List Rul} {B : Nat → Int32} {t : Int32} : setA RL B t 3 = rainL (actX B RL t) := by
  unfold setA nrm tailS
  rw [if_pos (by decide), ku_n _ _ (by decide), ku_n _ _ (by decide), ku_s]
theorem wA_set {RL : List Rul} {A : Nat → Int32} {n c dn en : Nat} {t : Int32} (hk : okS A n c dn en) (ht : okT n t) : wA RL A t = popS (shA c (goA RL A t)) := by
  rw [← set_walk hk ht]
  have hw := okS_nrm (walkL_okS hk)
  have e2 : actX (walkL n 0 A) RL t 2 = Int32.ofNat c := by rw [actX_out ht hk.1 (by decide) (Or.inl (by decide)), walkL_out _ _ _ _ (by omega)]; exact hk.2.2.2.1
  unfold wA shA
  rw [nh_e hk, goW_e, goA_3]
  unfold worthS
  rw [e2]
  unfold walkA
  rw [agr_rain (agr_actX (nrm_agr (walkL n 0 A)) hk.1 RL ht)]
theorem s_cwalkF {d : Nat} {Q : KO → Prop} {h : KH} (hw : WF h) {a n c dn en : Nat} {A : Nat → Int32} {RL : List Rul} (ha : cityA a) (hk : cityOK h a A RL n c dn en) (hd : 1 ≤ d)
    (hQ : ∀ k, Fr (pC a) noP h k → cityOK k a (walkA n A) RL n c dn en → Q (none, k)) : Cl d 14 [.ref a] h Q := by
  obtain ⟨k1, k2, RLc, k3, k4⟩ := hk
  have ha26 := cA_le ha
  refine s_cwalk hw ha hd k2.1 k2.2.1 k2.2.2.2.2.2.2.2.2.2 (fun I i1 i2 => hQ _ ⟨rfl, rfl, fun b hb => i2 b (by unfold pC at hb; omega), fun _ _ _ => rfl⟩ ⟨?_, ?_, RLc, crul_hI (fun b hb => i2 b (by omega)) k3, k4⟩)
  · show nrm (cS I a) = _
    rw [i1]
    exact agr_nrm (agr_walkL n 0 (nrm_get k1) (by have := k2.1; omega))
  · show okS (cS I a) _ _ _ _
    rw [i1]
    exact walkL_okS k2
theorem tail_okS {S : Nat → Int32} {RL : List Rul} {n c dn en : Nat} {t : Int32} (hw : okS S n c dn en) (ht : okT n t) (hlt : dn < en) : okS (tailS (actX S RL t)) n c (dn + 1) en := by
  obtain ⟨o1, o2, o3, o4, o5, o6, o7, o8, o9, o10⟩ := hw
  have x : ∀ m, m ≠ 3 → m ≠ 6 → m ≠ 1 → m < 11 → tailS (actX S RL t) m = S m := fun m h3 h6 h1 h11 => by
    rw [tail_out h3 h6 h1, actX_out ht o1 h3 (Or.inl h11)]
  refine ⟨o1, by rw [x 8 (by decide) (by decide) (by decide) (by decide)]; exact o2, o3, by rw [x 2 (by decide) (by decide) (by decide) (by decide)]; exact o4, ?_, by rw [x 0 (by decide) (by decide) (by decide) (by decide)]; exact o6, by omega, o8, o9, fun j hj => ?_⟩
  · unfold tailS
    rw [ku_s, actX_out ht o1 (by decide) (Or.inl (by decide)), o5]
    exact ofadd dn 1
  · unfold tailS
    exact handOK_other (j := 0) (by omega) (handOK_other (j := 0) (by omega) (handOK_other (j := 0) (by omega) (actX_ok o1 ht o10 j hj)))
theorem s_settleF {d : Nat} {Q : KO → Prop} {h : KH} (hw : WF h) {a n c dn en : Nat} {B : Nat → Int32} {t : Int32} {RL : List Rul} (ha : cityA a) (hk : cityOK h a B RL n c dn en) (hlt : dn < en) (ht : okT n t) (hd : 3 ≤ d)
    (hQ : ∀ k, Fr (pC a) noP h k → cityOK k a (setA RL B t) RL n c (dn + 1) en → Q (some (.int (shA c (setA RL B t))), k)) : Cl d 15 [.ref a, .int t] h Q := by
  obtain ⟨k1, k2, RLc, k3, k4⟩ := hk
  have ha26 := cA_le ha
  have eX : ∀ X, actX X RLc t = actX X RL t := fun X => by
    unfold actX
    rw [eqRL_will k4]
  have hag := agr_actX (nrm_get k1) k2.1 RL ht
  refine s_settle hw ha hd k2 k3 ht (fun I i1 i2 => ?_)
  rw [eX] at i1 ⊢
  have e2 : cS h.2.2.1 a 2 = Int32.ofNat c := k2.2.2.2.1
  rw [e2, agr_rain hag, ← goA_3]
  refine hQ _ ⟨rfl, rfl, fun b hb => i2 b (by unfold pC at hb; omega) (by unfold pC at hb; omega) (by unfold pC at hb; omega), fun _ _ _ => rfl⟩ ⟨?_, ?_, RLc, crul_hI (fun b hb => i2 b (by omega) (by omega) (by omega)) k3, k4⟩
  · show nrm (cS I a) = _
    rw [i1]
    exact agr_nrm (agr_tail hag)
  · show okS (cS I a) _ _ _ _
    rw [i1]
    exact tail_okS k2 ht hlt
/-! weigh -/
def firstR (F : Nat → Int32) (ps : List Nat) : Prop := ∀ i, i < ps.length → F i = Int32.ofNat (ps.getD i 0)
def WS (h : KH) (set : Int32) (L : Nat) (st : WSt) : Prop := h.2.2.1 10 4 = st.1 ∧ h.2.2.1 10 5 = st.2.1 ∧ h.2.2.1 10 7 = st.2.2.1 ∧ h.2.2.1 10 8 = st.2.2.2.1 ∧ firstR (h.2.2.1 13) st.2.2.2.2 ∧ h.2.2.1 10 6 = set ∧ h.2.2.1 10 3 = Int32.ofNat L
def pW : Nat → Prop := fun c => c = 10 ∨ c = 13
theorem kcopy4 {h : KH} {s e : Nat} {r : List Value} (hs : h.1 s = (20, 4)) (he : h.1 e = (20, 4)) : kcopy (.int 4 :: .int 0 :: .ref e :: .int 0 :: .ref s :: r) h = some (r, hI h (ku h.2.2.1 e (va_cpy (h.2.2.1 s) (h.2.2.1 e) 0 0 4))) := by
  unfold kcopy
  simp only [hs, he]
  rfl
set_option maxHeartbeats 4000000 in
theorem t_wgA {d : Nat} {Q : KO → Prop} {h : KH} (hw : WF h) {mo wy fw ev set s t sh : Int32} (e4 : h.2.2.1 10 4 = mo) (e5 : h.2.2.1 10 5 = wy) (e6 : h.2.2.1 10 6 = set) (e7 : h.2.2.1 10 7 = fw) (e8 : h.2.2.1 10 8 = ev) (hd : 1 ≤ d) (hQ : (¬ (sh &&& set) = set → Wp d 48 36 ([some (.ref 10), some (.int (s)), some (.int (t)), some (.int (sh))]) [] (kwi h 10 8 (ev ||| sh)) Q) ∧ (¬ (¬ (sh &&& set) = set) → (fw ≤ t → Wp d 48 36 ([some (.ref 10), some (.int (s)), some (.int (t)), some (.int (sh))]) [] (kwi h 10 8 (ev ||| sh)) Q) ∧ (¬ (fw ≤ t) → Wp d 48 36 ([some (.ref 10), some (.int (s)), some (.int (t)), some (.int (sh))]) [] (kwi (kwi h 10 8 (ev ||| sh)) 10 7 t) Q))) : Cl d 48 [.ref 10, .int (s), .int (t), .int (sh)] h Q := by
  refine Cl.of (ls := [some (.ref 10), some (.int (s)), some (.int (t)), some (.int (sh))]) rfl rfl ?_
  refine Wp.seg 2 (pc1 := 2) (ls1 := [some (.ref 10), some (.int (s)), some (.int (t)), some (.int (sh))]) (st1 := [.ref 10, .ref 10]) rfl ?_
  refine Wp.gi (t := (5, 0)) rfl (WF.t hw 10 rfl) (Or.inl rfl) ?_
  rw [show h.2.2.1 10 8 = ev from e8]
  refine Wp.seg 2 (pc1 := 7) (ls1 := [some (.ref 10), some (.int (s)), some (.int (t)), some (.int (sh))]) (st1 := [.int (ev ||| sh), .ref 10]) rfl ?_
  refine Wp.pi (t := (5, 0)) rfl (WF.t hw 10 rfl) (Or.inl rfl) ?_
  refine Wp.seg 2 (pc1 := 12) (ls1 := [some (.ref 10), some (.int (s)), some (.int (t)), some (.int (sh))]) (st1 := [.ref 10, .int (sh)]) rfl ?_
  refine Wp.gi (t := (5, 0)) rfl (WF.t hw 10 rfl) (Or.inl rfl) ?_
  rw [show (kwi h 10 8 (ev ||| sh)).2.2.1 10 6 = set from ((kwi_o (by decide)).trans (rfl)).trans e6]
  refine Wp.seg 2 (pc1 := 17) (ls1 := [some (.ref 10), some (.int (s)), some (.int (t)), some (.int (sh))]) (st1 := [.ref 10, .int (sh &&& set)]) rfl ?_
  refine Wp.gi (t := (5, 0)) rfl (WF.t hw 10 rfl) (Or.inl rfl) ?_
  rw [show (kwi h 10 8 (ev ||| sh)).2.2.1 10 6 = set from ((kwi_o (by decide)).trans (rfl)).trans e6]
  refine Wp.if2 rfl (fun (c1 : ¬ (sh &&& set) = set) => ?_) (fun (c1 : ¬ (¬ (sh &&& set) = set)) => ?_)
  · exact (hQ.1 c1)
  · refine Wp.seg 2 (pc1 := 25) (ls1 := [some (.ref 10), some (.int (s)), some (.int (t)), some (.int (sh))]) (st1 := [.ref 10, .int (t)]) rfl ?_
    refine Wp.gi (t := (5, 0)) rfl (WF.t hw 10 rfl) (Or.inl rfl) ?_
    rw [show (kwi h 10 8 (ev ||| sh)).2.2.1 10 7 = fw from ((kwi_o (by decide)).trans (rfl)).trans e7]
    refine Wp.if2 rfl (fun (c2 : fw ≤ t) => ?_) (fun (c2 : ¬ (fw ≤ t)) => ?_)
    · exact ((hQ.2 c1).1 c2)
    · refine Wp.seg 2 (pc1 := 33) (ls1 := [some (.ref 10), some (.int (s)), some (.int (t)), some (.int (sh))]) (st1 := [.int (t), .ref 10]) rfl ?_
      refine Wp.pi (t := (5, 0)) rfl (WF.t hw 10 rfl) (Or.inl rfl) ?_
      exact ((hQ.2 c1).2 c2)
set_option maxHeartbeats 4000000 in
theorem t_wgB {d : Nat} {Q : KO → Prop} {h : KH} (hw : WF h) {mo wy fw ev set s t sh : Int32} (e4 : h.2.2.1 10 4 = mo) (e5 : h.2.2.1 10 5 = wy) (e6 : h.2.2.1 10 6 = set) (e7 : h.2.2.1 10 7 = fw) (e8 : h.2.2.1 10 8 = ev) (hd : 1 ≤ d) (hQ : (s ≤ mo → Wp d 48 68 ([some (.ref 10), some (.int (s)), some (.int (t)), some (.int (sh))]) [] h Q) ∧ (¬ (s ≤ mo) → Wp d 48 68 ([some (.ref 10), some (.int (s)), some (.int (t)), some (.int (sh))]) [] (hI (kwi (kwi h 10 4 s) 10 5 (0 : Int32)) (ku (kwi (kwi h 10 4 s) 10 5 (0 : Int32)).2.2.1 13 (va_cpy ((kwi (kwi h 10 4 s) 10 5 (0 : Int32)).2.2.1 12) ((kwi (kwi h 10 4 s) 10 5 (0 : Int32)).2.2.1 13) 0 0 4))) Q)) : Wp d 48 36 [some (.ref 10), some (.int (s)), some (.int (t)), some (.int (sh))] [] h Q := by
  refine Wp.seg 2 (pc1 := 38) (ls1 := [some (.ref 10), some (.int (s)), some (.int (t)), some (.int (sh))]) (st1 := [.ref 10, .int (s)]) rfl ?_
  refine Wp.gi (t := (5, 0)) rfl (WF.t hw 10 rfl) (Or.inl rfl) ?_
  rw [show h.2.2.1 10 4 = mo from e4]
  refine Wp.if2 rfl (fun (c1 : s ≤ mo) => ?_) (fun (c1 : ¬ (s ≤ mo)) => ?_)
  · exact (hQ.1 c1)
  · refine Wp.seg 2 (pc1 := 46) (ls1 := [some (.ref 10), some (.int (s)), some (.int (t)), some (.int (sh))]) (st1 := [.int (s), .ref 10]) rfl ?_
    refine Wp.pi (t := (5, 0)) rfl (WF.t hw 10 rfl) (Or.inl rfl) ?_
    refine Wp.seg 2 (pc1 := 51) (ls1 := [some (.ref 10), some (.int (s)), some (.int (t)), some (.int (sh))]) (st1 := [.int (0), .ref 10]) rfl ?_
    refine Wp.pi (t := (5, 0)) rfl (WF.t hw 10 rfl) (Or.inl rfl) ?_
    refine Wp.seg 1 (pc1 := 55) (ls1 := [some (.ref 10), some (.int (s)), some (.int (t)), some (.int (sh))]) (st1 := [.ref 10]) rfl ?_
    refine Wp.gr (t := (5, 0)) (v := some (12)) rfl (WF.t hw 10 rfl) rfl (WF.r hw 10 1 20 rfl) ?_
    show Wp d 48 58 [some (.ref 10), some (.int (s)), some (.int (t)), some (.int (sh))] [.ref 12] (kwi (kwi h 10 4 s) 10 5 (0 : Int32)) Q
    refine Wp.seg 2 (pc1 := 60) (ls1 := [some (.ref 10), some (.int (s)), some (.int (t)), some (.int (sh))]) (st1 := [.ref 10, .int (0), .ref 12]) rfl ?_
    refine Wp.gr (t := (5, 0)) (v := some (13)) rfl (WF.t hw 10 rfl) rfl (WF.r hw 10 2 21 rfl) ?_
    show Wp d 48 63 [some (.ref 10), some (.int (s)), some (.int (t)), some (.int (sh))] [.ref 13, .int (0), .ref 12] (kwi (kwi h 10 4 s) 10 5 (0 : Int32)) Q
    refine Wp.seg 2 (pc1 := 65) (ls1 := [some (.ref 10), some (.int (s)), some (.int (t)), some (.int (sh))]) (st1 := [.int (4), .int (0), .ref 13, .int (0), .ref 12]) rfl ?_
    refine Wp.cpy (r := []) (h1 := hI (kwi (kwi h 10 4 s) 10 5 (0 : Int32)) (ku (kwi (kwi h 10 4 s) 10 5 (0 : Int32)).2.2.1 13 (va_cpy ((kwi (kwi h 10 4 s) 10 5 (0 : Int32)).2.2.1 12) ((kwi (kwi h 10 4 s) 10 5 (0 : Int32)).2.2.1 13) 0 0 4))) rfl (by omega) (kcopy4 (WF.t hw 12 rfl) (WF.t hw 13 rfl)) rfl ?_
    exact (hQ.2 c1)
set_option maxHeartbeats 4000000 in
theorem t_wgC {d : Nat} {Q : KO → Prop} {h : KH} (hw : WF h) {mo wy fw ev set s t sh : Int32} (e4 : h.2.2.1 10 4 = mo) (e5 : h.2.2.1 10 5 = wy) (e6 : h.2.2.1 10 6 = set) (e7 : h.2.2.1 10 7 = fw) (e8 : h.2.2.1 10 8 = ev) (hd : 1 ≤ d) (hQ : (¬ s = mo → Q (none, h)) ∧ (¬ (¬ s = mo) → Q (none, kwi h 10 5 (wy + (1 : Int32))))) : Wp d 48 68 [some (.ref 10), some (.int (s)), some (.int (t)), some (.int (sh))] [] h Q := by
  refine Wp.seg 2 (pc1 := 70) (ls1 := [some (.ref 10), some (.int (s)), some (.int (t)), some (.int (sh))]) (st1 := [.ref 10, .int (s)]) rfl ?_
  refine Wp.gi (t := (5, 0)) rfl (WF.t hw 10 rfl) (Or.inl rfl) ?_
  rw [show h.2.2.1 10 4 = mo from e4]
  refine Wp.if2 rfl (fun (c1 : ¬ s = mo) => ?_) (fun (c1 : ¬ (¬ s = mo)) => ?_)
  · exact Wp.retv rfl rfl (hQ.1 c1)
  · refine Wp.seg 2 (pc1 := 78) (ls1 := [some (.ref 10), some (.int (s)), some (.int (t)), some (.int (sh))]) (st1 := [.ref 10, .ref 10]) rfl ?_
    refine Wp.gi (t := (5, 0)) rfl (WF.t hw 10 rfl) (Or.inl rfl) ?_
    rw [show h.2.2.1 10 5 = wy from e5]
    refine Wp.seg 2 (pc1 := 83) (ls1 := [some (.ref 10), some (.int (s)), some (.int (t)), some (.int (sh))]) (st1 := [.int (wy + (1 : Int32)), .ref 10]) rfl ?_
    refine Wp.pi (t := (5, 0)) rfl (WF.t hw 10 rfl) (Or.inl rfl) ?_
    exact Wp.retv rfl rfl (hQ.2 c1)
theorem fr_kwiW {h : KH} {j : Nat} {x : Int32} : Fr pW noP h (kwi h 10 j x) := fr_kwi (Or.inl rfl) (by decide)
/-- the last part: is it one of the best -/
theorem s_wgC {d : Nat} {Q : KO → Prop} {h : KH} (hw : WF h) {set s t sh : Int32} {L : Nat} {st : WSt} (hd : 1 ≤ d) (hs : WS h set L st)
    (hQ : ∀ k, Fr pW noP h k → WS k set L (st.1, (if s = st.1 then st.2.1 + 1 else st.2.1), st.2.2.1, st.2.2.2.1, st.2.2.2.2) → Q (none, k)) : Wp d 48 68 [some (.ref 10), some (.int s), some (.int t), some (.int sh)] [] h Q := by
  obtain ⟨e4, e5, e7, e8, ef, e6, e3⟩ := hs
  refine t_wgC hw e4 e5 e6 e7 e8 hd ⟨fun c1 => ?_, fun c1 => ?_⟩
  · rw [if_neg c1] at hQ
    exact hQ h (Fr.refl h) ⟨e4, e5, e7, e8, ef, e6, e3⟩
  · rw [if_pos (Decidable.not_not.mp c1)] at hQ
    exact hQ _ fr_kwiW ⟨(kwi_o (by decide)).trans e4, kwi_s, (kwi_o (by decide)).trans e7, (kwi_o (by decide)).trans e8, ef, (kwi_o (by decide)).trans e6, (kwi_o (by decide)).trans e3⟩
theorem s_wgB {d : Nat} {Q : KO → Prop} {h : KH} (hw : WF h) {set s t sh : Int32} {L : Nat} {st : WSt} {plan : List Nat} (hd : 1 ≤ d) (hs : WS h set L st) (hp : firstR (h.2.2.1 12) plan) (hpl : plan.length ≤ 4)
    (hQ : ∀ k, Fr pW noP h k → WS k set L (if st.1 < s then s else st.1, if st.1 < s then 1 else if s = st.1 then st.2.1 + 1 else st.2.1, st.2.2.1, st.2.2.2.1, if st.1 < s then plan else st.2.2.2.2) → Q (none, k)) : Wp d 48 36 [some (.ref 10), some (.int s), some (.int t), some (.int sh)] [] h Q := by
  obtain ⟨e4, e5, e7, e8, ef, e6, e3⟩ := hs
  refine t_wgB hw e4 e5 e6 e7 e8 hd ⟨fun c1 => ?_, fun c1 => ?_⟩
  · have c2 : ¬ st.1 < s := Int32.not_lt.mpr c1
    simp only [if_neg c2] at hQ
    exact s_wgC hw hd ⟨e4, e5, e7, e8, ef, e6, e3⟩ hQ
  · have c2 : st.1 < s := Int32.not_le.mp c1
    simp only [if_pos c2] at hQ
    have e12 : (kwi (kwi h 10 4 s) 10 5 0).2.2.1 12 = h.2.2.1 12 := (kwi_r (by decide)).trans (kwi_r (by decide))
    have f : Fr pW noP h (hI (kwi (kwi h 10 4 s) 10 5 0) (ku (kwi (kwi h 10 4 s) 10 5 0).2.2.1 13 (va_cpy ((kwi (kwi h 10 4 s) 10 5 0).2.2.1 12) ((kwi (kwi h 10 4 s) 10 5 0).2.2.1 13) 0 0 4))) := by
      refine (Fr.trans (fr_kwiW (j := 4) (x := s)) (fr_kwiW (j := 5) (x := 0))).trans ⟨rfl, rfl, fun b hb => ku_n _ _ (by unfold pW at hb; omega), fun _ _ _ => rfl⟩
    have r10 : ∀ i, (hI (kwi (kwi h 10 4 s) 10 5 0) (ku (kwi (kwi h 10 4 s) 10 5 0).2.2.1 13 (va_cpy ((kwi (kwi h 10 4 s) 10 5 0).2.2.1 12) ((kwi (kwi h 10 4 s) 10 5 0).2.2.1 13) 0 0 4))).2.2.1 10 i = (kwi (kwi h 10 4 s) 10 5 0).2.2.1 10 i := fun i => congrFun (ku_n (k := 13) (j := 10) (kwi (kwi h 10 4 s) 10 5 0).2.2.1 (va_cpy ((kwi (kwi h 10 4 s) 10 5 0).2.2.1 12) ((kwi (kwi h 10 4 s) 10 5 0).2.2.1 13) 0 0 4) (by decide)) i
    refine s_wgC (st := (s, 0, st.2.2.1, st.2.2.2.1, plan)) (L := L) (set := set) (f.wf hw (fun z => z)) hd ⟨?_, ?_, ?_, ?_, ?_, ?_, ?_⟩ (fun k f2 g2 => hQ k (f.trans f2) ?_)
    · rw [r10]; exact (kwi_o (by decide)).trans kwi_s
    · rw [r10]; exact kwi_s
    · rw [r10]; exact (kwi_o (by decide)).trans ((kwi_o (by decide)).trans e7)
    · rw [r10]; exact (kwi_o (by decide)).trans ((kwi_o (by decide)).trans e8)
    · intro i hi
      have hi2 : i < plan.length := hi
      have e13 : (hI (kwi (kwi h 10 4 s) 10 5 0) (ku (kwi (kwi h 10 4 s) 10 5 0).2.2.1 13 (va_cpy ((kwi (kwi h 10 4 s) 10 5 0).2.2.1 12) ((kwi (kwi h 10 4 s) 10 5 0).2.2.1 13) 0 0 4))).2.2.1 13 = va_cpy ((kwi (kwi h 10 4 s) 10 5 0).2.2.1 12) ((kwi (kwi h 10 4 s) 10 5 0).2.2.1 13) 0 0 4 := ku_s (kwi (kwi h 10 4 s) 10 5 0).2.2.1 13 _
      rw [e13, e12]
      unfold va_cpy
      rw [if_pos (by omega), show 0 + (i - 0) = i by omega]
      exact hp i hi
    · rw [r10]; exact (kwi_o (by decide)).trans ((kwi_o (by decide)).trans e6)
    · rw [r10]; exact (kwi_o (by decide)).trans ((kwi_o (by decide)).trans e3)
    · simp only [if_pos] at g2
      exact g2
theorem s_weigh {d : Nat} {Q : KO → Prop} {h : KH} (hw : WF h) {set s t sh : Int32} {L : Nat} {st : WSt} {plan : List Nat} (hd : 1 ≤ d) (hs : WS h set L st) (hp : firstR (h.2.2.1 12) plan) (hpl : plan.length ≤ 4)
    (hQ : ∀ k, Fr pW noP h k → WS k set L (weighS set st (s, t, sh) plan) → Q (none, k)) : Cl d 48 [.ref 10, .int s, .int t, .int sh] h Q := by
  obtain ⟨e4, e5, e7, e8, ef, e6, e3⟩ := hs
  have q : ∀ fw x, fw = (if sh &&& set = set ∧ t < st.2.2.1 then t else st.2.2.1) → Fr pW noP h x → x.2.2.1 12 = h.2.2.1 12 → WS x set L (st.1, st.2.1, fw, st.2.2.2.1 ||| sh, st.2.2.2.2) → Wp d 48 36 [some (.ref 10), some (.int s), some (.int t), some (.int sh)] [] x Q := by
    intro fw x ef fx ex hx
    refine s_wgB (fx.wf hw (fun z => z)) hd hx (by rw [ex]; exact hp) hpl (fun k f g => hQ k (fx.trans f) ?_)
    unfold weighS
    rw [← ef]
    exact g
  refine t_wgA hw e4 e5 e6 e7 e8 hd ⟨fun c1 => ?_, fun c1 => ⟨fun c2 => ?_, fun c2 => ?_⟩⟩
  · exact q _ _ (by rw [if_neg (fun z => c1 z.1)]) fr_kwiW (kwi_r (by decide)) ⟨(kwi_o (by decide)).trans e4, (kwi_o (by decide)).trans e5, (kwi_o (by decide)).trans e7, kwi_s, ef, (kwi_o (by decide)).trans e6, (kwi_o (by decide)).trans e3⟩
  · exact q _ _ (by rw [if_neg (fun z => Int32.not_lt.mpr c2 z.2)]) fr_kwiW (kwi_r (by decide)) ⟨(kwi_o (by decide)).trans e4, (kwi_o (by decide)).trans e5, (kwi_o (by decide)).trans e7, kwi_s, ef, (kwi_o (by decide)).trans e6, (kwi_o (by decide)).trans e3⟩
  · exact q t _ (by rw [if_pos ⟨Decidable.not_not.mp c1, Int32.not_le.mp c2⟩]) (Fr.trans fr_kwiW fr_kwiW) ((kwi_r (by decide)).trans (kwi_r (by decide))) ⟨(kwi_o (by decide)).trans ((kwi_o (by decide)).trans e4), (kwi_o (by decide)).trans ((kwi_o (by decide)).trans e5), kwi_s, (kwi_o (by decide)).trans kwi_s, ef, (kwi_o (by decide)).trans ((kwi_o (by decide)).trans e6), (kwi_o (by decide)).trans ((kwi_o (by decide)).trans e3)⟩
