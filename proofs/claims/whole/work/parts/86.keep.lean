/-! KM: both sides: keep(), again() -/
theorem laidS_congr2 {S T : Nat → Int32} {N : Nat} (h : ∀ m, 85 ≤ m → m < N → T m = S m) : ∀ {P : List Op} {k e : Nat}, 85 ≤ k → e ≤ N → laidS S k P e → laidS T k P e
  | [], _, _, _, _, hl => hl
  | (t, a, b) :: r, k, e, hk, he, hl => by
    rcases hl with ⟨l0, l1, l2, l3, l4⟩ | ⟨l0, l5, l1, l4⟩
    · have := laidS_le l4
      exact Or.inl ⟨l0, by rw [h _ hk (by omega)]; exact l1, by rw [h _ (by omega) (by omega)]; exact l2, by rw [h _ (by omega) (by omega)]; exact l3, laidS_congr2 h (by omega) he l4⟩
    · have := laidS_le l4
      exact Or.inr ⟨l0, l5, by rw [h _ hk (by omega)]; exact l1, laidS_congr2 h (by omega) he l4⟩
theorem rulS_congr2 {S T : Nat → Int32} (h : ∀ m, 53 ≤ m → m < 585 → T m = S m) : ∀ {RL : List Rul} {r : Nat}, r + RL.length ≤ 8 → rulS S r RL → rulS T r RL
  | [], _, _, hl => hl
  | (kd, wl, P) :: rest, r, hr, hl => by
    have hr2 : r + (rest.length + 1) ≤ 8 := hr
    obtain ⟨l1, l2, ⟨b, e, l3, l4, l5, l6⟩, l7, l8⟩ := hl
    exact ⟨by rw [h _ (by omega) (by omega)]; exact l1, by rw [h _ (by omega) (by omega)]; exact l2, ⟨b, e, by rw [h _ (by omega) (by omega)]; exact l3, by rw [h _ (by omega) (by omega)]; exact l4, l5, laidS_congr2 (fun m h1 h2 => h m (by omega) (by omega)) (by omega) (by omega : 85 + e ≤ 585) l6⟩, l7, rulS_congr2 h (by omega) l8⟩
theorem rulesS_congr2 {S T : Nat → Int32} {RL : List Rul} (h : ∀ m, m < 585 → T m = S m) (hR : rulesS S RL) : rulesS T RL := ⟨by rw [h 10 (by decide)]; exact hR.1, hR.2.1, rulS_congr2 (fun m _ h2 => h m h2) (by have := hR.2.1; omega) hR.2.2⟩
theorem refS_congr {S T A : Nat → Int32} {RL : List Rul} {n c dn en : Nat} (h : ∀ m, m < 585 → T m = S m) (hk : refS S A RL n c dn en) : refS T A RL n c dn en := by
  have ag : agr S T := fun m hm => (h m (by omega)).symm
  exact ⟨(agr_nrm ag).symm.trans hk.1, okS_agr ag hk.2.1, rulesS_congr2 h hk.2.2⟩
theorem mrep_congr {S T : Nat → Int32} (h : ∀ m, m < 585 → T m = S m) : ∀ (RP : List (Nat × Nat × Nat)), RP.length ≤ 6 → mrep S RP → mrep T RP
  | [], _, _ => trivial
  | (a, l, m) :: r, hl, hr => by
    have hl2 : r.length + 1 ≤ 6 := hl
    obtain ⟨p1, p2, p3, p4⟩ := hr
    exact ⟨by rw [h _ (by omega)]; exact p1, by rw [h _ (by omega)]; exact p2, by rw [h _ (by omega)]; exact p3, p4.1, p4.2.1, p4.2.2.1, mrep_congr h r (by omega) p4.2.2.2⟩
theorem reps_new {P R : Nat → Prop} {h k : KH} {v w : Option Nat} {S T : Nat → Int32} {RP : List (Nat × Nat × Nat)} (hr : reps h v S RP) (f : Fr P R h k) (ev : w = v) (e : ∀ m, m < 585 → T m = S m) : reps k w T RP := by
  subst ev
  exact ⟨crep_fr (by rw [f.2.1]; exact Nat.le_refl _) (fun c _ _ => by rw [f.1]) (fun c i hc _ => f.2.2.2 c i (Or.inl (Or.inr hc))) (fun c hc _ => f.2.2.1 c (Or.inr hc)) RP _ hr.1, by rw [e 9 (by decide)]; exact hr.2.1, hr.2.2.1, mrep_congr e RP hr.2.2.1 hr.2.2.2⟩
/-- all but what is kept -/
theorem oth_kept {h k : KH} {P R : Nat → Prop} (ho : Oth h) (f : Fr P R h k) (hP : ∀ c, P c → pU c ∨ c = 4 ∨ c = 5 ∨ c = 61 ∨ c = 0) (h0 : ∀ i, i ≠ 4 → k.2.2.1 0 i = h.2.2.1 0 i) (h59 : ∀ i, (i = 5 ∨ i = 20 ∨ i = 29) → k.2.2.1 59 i = h.2.2.1 59 i) (hk : keptOK k) : Oth k := by
  obtain ⟨o1, ⟨T, o2⟩, ⟨RR, o3⟩, o4, o5, o6⟩ := ho
  have fc : ∀ c, (29 ≤ c ∧ c ≤ 58) ∨ c = 63 ∨ (67 ≤ c ∧ c ≤ 74) → k.2.2.1 c = h.2.2.1 c := fun c hc => f.2.2.1 c (Or.inl (fun z => by have := hP c z; unfold pU pQ at this; omega))
  have r15 : k.2.1 0 15 = h.2.1 0 15 := f.2.2.2 0 15 (Or.inr ⟨by decide, by decide⟩)
  refine ⟨hk, ⟨T, ?_⟩, ⟨RR, ?_⟩, fun s hs => ?_, fun s hs => ?_, ?_⟩
  · unfold tapeOK at o2 ⊢
    rw [fc 29 (by omega), h59 5 (by omega), fc 30 (by omega), fc 63 (by omega)]
    exact o2
  · unfold rowsOK at o3 ⊢
    rw [h0 7 (by decide), h59 20 (by omega), fc 67 (by omega)]
    refine ⟨o3.1, o3.2.1, o3.2.2.1, fun i w hi hw => ?_⟩
    rw [fc (34 + i) (by omega)]
    exact o3.2.2.2 i w hi hw
  · have := o4 s hs
    unfold sheetOK at this ⊢
    rw [fc 38 (by omega), fc 39 (by omega), fc 68 (by omega), fc 69 (by omega), fc (41 + s) (by omega), f.2.1]
    exact this
  · have := o5 s hs
    unfold shelfOK at this ⊢
    rw [fc 45 (by omega), fc 46 (by omega), fc 47 (by omega), fc 71 (by omega), fc 72 (by omega), fc 73 (by omega)]
    exact this
  · unfold traceOK at o6 ⊢
    rw [r15, h59 29 (by omega), fc 74 (by omega)]
    rcases o6 with o6 | ⟨t, gg, b1, b2, b3, b4, b5, b6⟩
    · exact Or.inl o6
    · have ht := thing_le b1
      have hp : t ≠ 58 := fun e => by
        subst e
        simp only [thingA, List.mem_cons, List.not_mem_nil, or_false] at b1
        omega
      refine Or.inr ⟨t, gg, b1, b2, b3, by rw [fc t (by omega)]; exact b4, b5, fun i hi => ?_⟩
      rw [fc (t + 1) (by omega)]
      exact b6 i hi
set_option maxHeartbeats 4000000 in
theorem t_ckp {d : Nat} {Q : KO → Prop} {h : KH} (hw : WF h) (hd : 2 ≤ d) (hQ : ∀ k, Fr (pC 4) (fun c => c = 4) h k → nrm (cS k.2.2.1 4) = nrm (cS h.2.2.1 1) → k.2.1 4 10 = h.2.1 1 10 → k.2.1 4 11 = h.2.1 1 11 → (Q (some (.int (1)), kwi k 0 4 (1 : Int32)))) : Cl d 167 [.ref 0] h Q := by
  refine Cl.of (ls := [some (.ref 0)]) rfl rfl ?_
  refine Wp.seg 1 (pc1 := 1) (ls1 := [some (.ref 0)]) (st1 := [.ref 0]) rfl ?_
  refine Wp.gr (t := (10, 0)) (v := some (4)) rfl (WF.t hw 0 rfl) rfl (WF.r hw 0 1 1 rfl) ?_
  show Wp d 167 4 [some (.ref 0)] [.ref 4] h Q
  refine Wp.seg 1 (pc1 := 5) (ls1 := [some (.ref 0)]) (st1 := [.ref 0, .ref 4]) rfl ?_
  refine Wp.gr (t := (10, 0)) (v := some (1)) rfl (WF.t hw 0 rfl) rfl (WF.r hw 0 0 0 rfl) ?_
  show Wp d 167 8 [some (.ref 0)] [.ref 1, .ref 4] h Q
  refine Wp.invV (d2 := 1) (as := [.ref 4, .ref 1]) (r := []) (t := (1, 0)) rfl rfl rfl rfl (WF.t hw 4 rfl) rfl rfl ⟨rfl, rfl⟩ (by omega) (s_copy (h := h) hw cA4 cA1 (by decide) (Nat.le_refl _) ?_)
  intro k f e1 e2 e3
  show Wp d 167 11 [some (.ref 0)] [] k Q
  refine Wp.seg 2 (pc1 := 13) (ls1 := [some (.ref 0)]) (st1 := [.int (1), .ref 0]) rfl ?_
  refine Wp.pi (t := (10, 0)) rfl (WF.t (f.wf hw (fun z => absurd z (by decide))) 0 rfl) (Or.inr ⟨rfl, Or.inr rfl⟩) ?_
  refine Wp.seg 1 (pc1 := 17) (ls1 := [some (.ref 0)]) (st1 := [.int (1)]) rfl ?_
  exact Wp.reti rfl rfl (hQ k f e1 e2 e3)
set_option maxHeartbeats 4000000 in
theorem t_mkp {d : Nat} {Q : KO → Prop} {h : KH} (hw : WF h) (hd : 1 ≤ d) (hQ : ∀ k, Fr (fun c => c = 61) noP h k → (∀ m, m < 585 → k.2.2.1 61 m = h.2.2.1 60 m) → (∀ m, 585 ≤ m → k.2.2.1 61 m = h.2.2.1 61 m) → (Q (some (.int (1)), kwi k 59 3 (1 : Int32)))) : Cl d 287 [.ref 59] h Q := by
  refine Cl.of (ls := [some (.ref 59)]) rfl rfl ?_
  refine Wp.seg 1 (pc1 := 1) (ls1 := [some (.ref 59)]) (st1 := [.ref 59]) rfl ?_
  refine Wp.gr (t := (11, 0)) (v := some (60)) rfl (WF.t hw 59 rfl) rfl (WF.r hw 59 0 58 rfl) ?_
  show Wp d 287 4 [some (.ref 59)] [.ref 60] h Q
  refine Wp.seg 1 (pc1 := 5) (ls1 := [some (.ref 59)]) (st1 := [.ref 59, .ref 60]) rfl ?_
  refine Wp.gr (t := (11, 0)) (v := some (61)) rfl (WF.t hw 59 rfl) rfl (WF.r hw 59 1 59 rfl) ?_
  show Wp d 287 8 [some (.ref 59)] [.ref 61, .ref 60] h Q
  refine Wp.inv (d2 := 0) (as := [.ref 60, .ref 61]) (r := []) rfl rfl rfl rfl rfl rfl (by omega) (s_copyAll (f := 60) (t := 61) (by decide) (by decide) (WF.t hw 60 rfl) (WF.t hw 61 rfl) ?_)
  intro k f q1 q2
  show Wp d 287 11 [some (.ref 59)] [] k Q
  refine Wp.seg 2 (pc1 := 13) (ls1 := [some (.ref 59)]) (st1 := [.int (1), .ref 59]) rfl ?_
  refine Wp.pi (t := (11, 0)) rfl (WF.t (f.wf hw (fun z => z)) 59 rfl) (Or.inr ⟨rfl, Or.inr rfl⟩) ?_
  refine Wp.seg 1 (pc1 := 17) (ls1 := [some (.ref 59)]) (st1 := [.int (1)]) rfl ?_
  exact Wp.reti rfl rfl (hQ k f q1 q2)
theorem J_keep {h : KH} (hi : Inv h) : JI h 167 [.ref 0] 287 [.ref 59] := by
  obtain ⟨hw, ⟨A, RL, n, c, dn, en, RP, hb, hr⟩, ho, hf⟩ := hi
  refine ⟨1, t_ckp hw (by decide) (fun k f e1 e2 e3 => ⟨_, rfl, ?_⟩)⟩
  have fk : Fr (fun c => c = 0 ∨ pC 4 c) (fun c => c = 4) h (kwi k 0 4 1) := (f.mono (fun c z => Or.inr z) (fun _ z => z)).trans (fr_kwi (Or.inl rfl) (by decide))
  have kw : WF (kwi k 0 4 1) := fk.wf hw (by omega)
  refine t_mkp kw (by decide) (fun k2 f2 q1 q2 => ⟨_, rfl, ?_⟩)
  have ff : Fr (fun c => c = 0 ∨ pC 4 c ∨ c = 59 ∨ c = 61) (fun c => c = 4) h (kwi k2 59 3 1) := (fk.mono (fun c z => z.imp id Or.inl) (fun _ z => z)).trans ((f2.mono (fun c z => Or.inr (Or.inr (Or.inr z))) (fun _ z => absurd z (fun y => y))).trans (fr_kwi (Or.inr (Or.inr (Or.inl rfl))) (by decide)))
  have fw : WF (kwi k2 59 3 1) := ff.wf hw (by omega)
  have e60 : (kwi k2 59 3 1).2.2.1 60 = h.2.2.1 60 := ff.2.2.1 60 (Or.inl (by unfold pC; omega))
  have e61 : ∀ m, m < 585 → (kwi k2 59 3 1).2.2.1 61 m = h.2.2.1 60 m := fun m hm => by
    rw [show (kwi k2 59 3 1).2.2.1 61 = k2.2.2.1 61 from kwi_r (by decide), q1 m hm, fk.2.2.1 60 (Or.inl (by unfold pC; omega))]
  have c1 : cityOK (kwi k2 59 3 1) 1 A RL n c dn en := city_fr hb.1 ff (by unfold pC; omega) (by unfold pC; omega) (by omega)
  have m1 : refOK (kwi k2 59 3 1) A RL n c dn en := refOK_eq hb.2 e60
  have r1 : (kwi k2 59 3 1).2.1 1 11 = h.2.1 1 11 := ff.2.2.2 1 11 (Or.inl (Or.inl (by omega)))
  -- city 4
  have fx : Fr (fun c => c = 0 ∨ c = 59 ∨ c = 61) noP k (kwi k2 59 3 1) := (fr_kwi (P := fun c => c = 0 ∨ c = 59 ∨ c = 61) (R := noP) (h := k) (j := 4) (x := 1) (Or.inl rfl) (by decide)).trans ((f2.mono (fun c z => Or.inr (Or.inr z)) (fun _ z => z)).trans (fr_kwi (Or.inr (Or.inl rfl)) (by decide)))
  have c4 : cityOK (kwi k2 59 3 1) 4 A RL n c dn en := city_fr (copy_ok hb.1 f e1 e2) fx (by omega) (by omega) (fun z => z)
  have fre : freeOK (kwi k2 59 3 1) := by
    intro a ha o e
    rw [ff.2.1]
    rcases ha with rfl | rfl
    · rw [ff.2.2.2 1 10 (Or.inl (Or.inl (by omega)))] at e
      exact hf 1 (Or.inl rfl) o e
    · rw [fx.2.2.2 4 10 (Or.inl (Or.inl (fun z => z))), e2] at e
      exact hf 1 (Or.inl rfl) o e
  have r4 : (kwi k2 59 3 1).2.1 4 11 = h.2.1 1 11 := (fx.2.2.2 4 11 (Or.inl (Or.inl (fun z => z)))).trans e3
  refine ⟨⟨fw, ⟨A, RL, n, c, dn, en, RP, ⟨c1, m1⟩, reps_new hr ff r1 (fun m _ => by rw [e60])⟩, oth_kept ho ff (fun c z => ?_) (fun i hi => ?_) (fun i hi => ?_) ?_, fre⟩, ?_, ?_, far_fr ff⟩
  · unfold pC at z
    unfold pU pQ
    omega
  · rw [show (kwi k2 59 3 1).2.2.1 0 = (kwi k 0 4 1).2.2.1 0 from (kwi_r (by decide)).trans (f2.2.2.1 0 (Or.inl (by decide)))]
    rw [kwi_o hi, f.2.2.1 0 (Or.inl (by unfold pC; omega))]
  · rw [kwi_o (by omega), f2.2.2.1 59 (Or.inl (by decide)), fk.2.2.1 59 (Or.inl (by unfold pC; omega))]
  · refine Or.inr ⟨?_, kwi_s, A, RL, n, c, dn, en, RP, c4, refS_congr e61 hb.2, reps_new hr ff r4 e61⟩
    rw [show (kwi k2 59 3 1).2.2.1 0 = (kwi k 0 4 1).2.2.1 0 from (kwi_r (by decide)).trans (f2.2.2.1 0 (Or.inl (by decide)))]
    exact kwi_s
  · rw [ff.2.1]
    omega
  · rw [ff.2.1]
    omega
set_option maxHeartbeats 4000000 in
theorem t_cag0 {d : Nat} {Q : KO → Prop} {h : KH} (hw : WF h) (h4 : h.2.2.1 0 4 = 0) (hd : 0 ≤ d) (hQ : Q (some (.int (-3)), h)) : Cl d 168 [.ref 0] h Q := by
  refine Cl.of (ls := [some (.ref 0)]) rfl rfl ?_
  refine Wp.seg 1 (pc1 := 1) (ls1 := [some (.ref 0)]) (st1 := [.ref 0]) rfl ?_
  refine Wp.gi (t := (10, 0)) rfl (WF.t hw 0 rfl) (Or.inr rfl) ?_
  rw [show h.2.2.1 0 4 = 0 from h4]
  refine Wp.if1 rfl (fun c1 => absurd c1 (show ¬ (¬ (0 : Int32) = 0) by decide)) (fun c1 => ?_)
  refine Wp.seg 1 (pc1 := 9) (ls1 := [some (.ref 0)]) (st1 := [.int (-3)]) rfl ?_
  exact Wp.reti rfl rfl hQ
set_option maxHeartbeats 4000000 in
theorem t_mag0 {d : Nat} {Q : KO → Prop} {h : KH} (hw : WF h) (h3 : h.2.2.1 59 3 = 0) (hd : 0 ≤ d) (hQ : Q (some (.int (-3)), h)) : Cl d 288 [.ref 59] h Q := by
  refine Cl.of (ls := [some (.ref 59)]) rfl rfl ?_
  refine Wp.seg 1 (pc1 := 1) (ls1 := [some (.ref 59)]) (st1 := [.ref 59]) rfl ?_
  refine Wp.gi (t := (11, 0)) rfl (WF.t hw 59 rfl) (Or.inr rfl) ?_
  rw [show h.2.2.1 59 3 = 0 from h3]
  refine Wp.if1 rfl (fun c1 => absurd c1 (show ¬ (¬ (0 : Int32) = 0) by decide)) (fun c1 => ?_)
  refine Wp.seg 1 (pc1 := 9) (ls1 := [some (.ref 59)]) (st1 := [.int (-3)]) rfl ?_
  exact Wp.reti rfl rfl hQ
set_option maxHeartbeats 4000000 in
theorem t_cag1 {d : Nat} {Q : KO → Prop} {h : KH} (hw : WF h) (h4 : h.2.2.1 0 4 = 1) (hd : 2 ≤ d) (hQ : ∀ k, Fr (pC 1) (fun c => c = 1) h k → nrm (cS k.2.2.1 1) = nrm (cS h.2.2.1 4) → k.2.1 1 10 = h.2.1 4 10 → k.2.1 1 11 = h.2.1 4 11 → (Q (some (.int (k.2.2.1 1 1)), k))) : Cl d 168 [.ref 0] h Q := by
  refine Cl.of (ls := [some (.ref 0)]) rfl rfl ?_
  refine Wp.seg 1 (pc1 := 1) (ls1 := [some (.ref 0)]) (st1 := [.ref 0]) rfl ?_
  refine Wp.gi (t := (10, 0)) rfl (WF.t hw 0 rfl) (Or.inr rfl) ?_
  rw [show h.2.2.1 0 4 = 1 from h4]
  refine Wp.if1 rfl (fun c1 => ?_) (fun c1 => absurd (show ¬ (1 : Int32) = 0 by decide) c1)
  refine Wp.seg 1 (pc1 := 11) (ls1 := [some (.ref 0)]) (st1 := [.ref 0]) rfl ?_
  refine Wp.gr (t := (10, 0)) (v := some (1)) rfl (WF.t hw 0 rfl) rfl (WF.r hw 0 0 0 rfl) ?_
  show Wp d 168 14 [some (.ref 0)] [.ref 1] h Q
  refine Wp.seg 1 (pc1 := 15) (ls1 := [some (.ref 0)]) (st1 := [.ref 0, .ref 1]) rfl ?_
  refine Wp.gr (t := (10, 0)) (v := some (4)) rfl (WF.t hw 0 rfl) rfl (WF.r hw 0 1 1 rfl) ?_
  show Wp d 168 18 [some (.ref 0)] [.ref 4, .ref 1] h Q
  refine Wp.invV (d2 := 1) (as := [.ref 1, .ref 4]) (r := []) (t := (1, 0)) rfl rfl rfl rfl (WF.t hw 1 rfl) rfl rfl ⟨rfl, rfl⟩ (by omega) (s_copy (h := h) hw cA1 cA4 (by decide) (Nat.le_refl _) ?_)
  intro k f e1 e2 e3
  show Wp d 168 21 [some (.ref 0)] [] k Q
  refine Wp.seg 1 (pc1 := 22) (ls1 := [some (.ref 0)]) (st1 := [.ref 0]) rfl ?_
  refine Wp.gr (t := (10, 0)) (v := some (1)) rfl (WF.t (f.wf hw (fun z => absurd z (by decide))) 0 rfl) rfl (WF.r (f.wf hw (fun z => absurd z (by decide))) 0 0 0 rfl) ?_
  show Wp d 168 25 [some (.ref 0)] [.ref 1] k Q
  refine Wp.gi (t := (1, 0)) rfl (WF.t (f.wf hw (fun z => absurd z (by decide))) 1 rfl) (Or.inl rfl) ?_
  exact Wp.reti rfl rfl (hQ k f e1 e2 e3)
set_option maxHeartbeats 4000000 in
theorem t_mag1 {d : Nat} {Q : KO → Prop} {h : KH} (hw : WF h) (h3 : h.2.2.1 59 3 = 1) (hd : 1 ≤ d) (hQ : ∀ k, Fr (fun c => c = 60) noP h k → (∀ m, m < 585 → k.2.2.1 60 m = h.2.2.1 61 m) → (∀ m, 585 ≤ m → k.2.2.1 60 m = h.2.2.1 60 m) → (Q (some (.int (k.2.2.1 60 8)), k))) : Cl d 288 [.ref 59] h Q := by
  refine Cl.of (ls := [some (.ref 59)]) rfl rfl ?_
  refine Wp.seg 1 (pc1 := 1) (ls1 := [some (.ref 59)]) (st1 := [.ref 59]) rfl ?_
  refine Wp.gi (t := (11, 0)) rfl (WF.t hw 59 rfl) (Or.inr rfl) ?_
  rw [show h.2.2.1 59 3 = 1 from h3]
  refine Wp.if1 rfl (fun c1 => ?_) (fun c1 => absurd (show ¬ (1 : Int32) = 0 by decide) c1)
  refine Wp.seg 1 (pc1 := 11) (ls1 := [some (.ref 59)]) (st1 := [.ref 59]) rfl ?_
  refine Wp.gr (t := (11, 0)) (v := some (61)) rfl (WF.t hw 59 rfl) rfl (WF.r hw 59 1 59 rfl) ?_
  show Wp d 288 14 [some (.ref 59)] [.ref 61] h Q
  refine Wp.seg 1 (pc1 := 15) (ls1 := [some (.ref 59)]) (st1 := [.ref 59, .ref 61]) rfl ?_
  refine Wp.gr (t := (11, 0)) (v := some (60)) rfl (WF.t hw 59 rfl) rfl (WF.r hw 59 0 58 rfl) ?_
  show Wp d 288 18 [some (.ref 59)] [.ref 60, .ref 61] h Q
  refine Wp.inv (d2 := 0) (as := [.ref 61, .ref 60]) (r := []) rfl rfl rfl rfl rfl rfl (by omega) (s_copyAll (f := 61) (t := 60) (by decide) (by decide) (WF.t hw 61 rfl) (WF.t hw 60 rfl) ?_)
  intro k f q1 q2
  show Wp d 288 21 [some (.ref 59)] [] k Q
  refine Wp.seg 1 (pc1 := 22) (ls1 := [some (.ref 59)]) (st1 := [.ref 59]) rfl ?_
  refine Wp.gr (t := (11, 0)) (v := some (60)) rfl (WF.t (f.wf hw (fun z => z)) 59 rfl) rfl (WF.r (f.wf hw (fun z => z)) 59 0 58 rfl) ?_
  show Wp d 288 25 [some (.ref 59)] [.ref 60] k Q
  refine Wp.seg 1 (pc1 := 27) (ls1 := [some (.ref 59)]) (st1 := [.int (8), .ref 60]) rfl ?_
  refine Wp.iald (j := 8) (k := 20) (n := 585) rfl (WF.t (f.wf hw (fun z => z)) 60 rfl) rfl rfl (by decide) (by decide) ?_
  exact Wp.reti rfl rfl (hQ k f q1 q2)
theorem JI_quiet {h : KH} {Mc Mm dc dm : Nat} {ca ma : List Value} {v : Int32} (hi : Inv h) (h1 : Cl dc Mc ca h (qu v h)) (h2 : ∀ k, Inv k → Quiet h k → Cl dm Mm ma k (qu v k)) (hdc : dc ≤ 15 := by decide) (hdm : dm ≤ 15 := by decide) : JI h Mc ca Mm ma := by
  have inv : ∀ {h k : KH}, Inv h → Quiet h k → Inv k := fun {h k} hi q => by
    obtain ⟨hw, ⟨A, RL, n, c, dn, en, RP, hb, hr⟩, ho, hf⟩ := hi
    refine ⟨q.wf hw, ⟨A, RL, n, c, dn, en, RP, q.b hb, ?_⟩, Oth_mild ho q.mild, free_fr hf q.1 (by unfold rQ; omega)⟩
    rw [q.1.2.2.2 1 11 (Or.inl (Or.inl (by unfold rQ; omega)))]
    exact reps_fr hr q.1 (fun m _ => by rw [q.2.1])
  refine ⟨v, (h1.depth hdc).post ?_⟩
  rintro o ⟨k, rfl, q⟩
  refine ⟨k, rfl, ((h2 k (inv hi q) q).depth hdm).post ?_⟩
  rintro o2 ⟨k2, rfl, q2⟩
  refine ⟨k2, rfl, inv (inv hi q) q2, ?_, ?_, (far_fr q.1).tr (far_fr q2.1)⟩
  · rw [q2.1.2.1, q.1.2.1]
    omega
  · rw [q2.1.2.1, q.1.2.1]
    omega
theorem J_again {h : KH} (hi : Inv h) : JI h 168 [.ref 0] 288 [.ref 59] := by
  have hi0 := hi
  obtain ⟨hw, ⟨A, RL, n, c, dn, en, RP, hb, hr⟩, ho, hf⟩ := hi
  rcases ho.1 with ⟨a1, a2⟩ | ⟨a1, a2, A4, RL4, n4, c4, dn4, en4, RP4, g1, g2, g3⟩
  · refine JI_quiet (v := -3) (dc := 0) (dm := 0) hi0 (t_cag0 hw a1 (by decide) (qu_i (Quiet.refl h))) (fun k ki q => t_mag0 (q.wf hw) ?_ (by decide) (qu_i (Quiet.refl k)))
    rw [q.2.2 3 (by omega)]
    exact a2
  · refine ⟨Int32.ofNat n4, t_cag1 hw a1 (by decide) (fun k f e1 e2 e3 => ?_)⟩
    have ck := copy_ok g1 f e1 e2
    have ec : k.2.2.1 1 1 = Int32.ofNat n4 := ck.2.1.2.1
    rw [ec]
    refine ⟨k, rfl, ?_⟩
    have kw : WF k := f.wf hw (by omega)
    refine t_mag1 kw (by rw [f.2.2.1 59 (Or.inl (by unfold pC; omega))]; exact a2) (by decide) (fun k2 f2 q1 q2 => ?_)
    have k61 : k.2.2.1 61 = h.2.2.1 61 := f.2.2.1 61 (Or.inl (by unfold pC; omega))
    have e60 : ∀ m, m < 585 → k2.2.2.1 60 m = h.2.2.1 61 m := fun m hm => by rw [q1 m hm, k61]
    have m2 : refOK k2 A4 RL4 n4 c4 dn4 en4 := refS_congr e60 g2
    have e8 : k2.2.2.1 60 8 = Int32.ofNat n4 := m2.2.1.2.1
    rw [e8]
    have ff : Fr (fun c => pC 1 c ∨ c = 60) (fun c => c = 1) h k2 := (f.mono (fun c z => Or.inl z) (fun _ z => z)).trans (f2.mono (fun c z => Or.inr z) (fun _ z => absurd z (fun y => y)))
    have c2 : cityOK k2 1 A4 RL4 n4 c4 dn4 en4 := city_fr ck f2 (by omega) (by omega) (fun z => z)
    have fre : freeOK k2 := by
      intro a ha o e
      rw [ff.2.1]
      rcases ha with rfl | rfl
      · rw [f2.2.2.2 1 10 (Or.inl (Or.inl (fun z => z))), e2] at e
        exact hf 4 (Or.inr rfl) o e
      · rw [ff.2.2.2 4 10 (Or.inl (Or.inl (by omega)))] at e
        exact hf 4 (Or.inr rfl) o e
    have r2 : k2.2.1 1 11 = h.2.1 4 11 := (f2.2.2.2 1 11 (Or.inl (Or.inl (fun z => z)))).trans e3
    refine ⟨k2, rfl, ⟨ff.wf hw (by omega), ⟨A4, RL4, n4, c4, dn4, en4, RP4, ⟨c2, m2⟩, reps_new g3 ff r2 e60⟩, oth_kept ho ff (fun c z => ?_) (fun i hi => ?_) (fun i hi => ?_) ?_, fre⟩, ?_, ?_, far_fr ff⟩
    · unfold pC at z
      unfold pU pQ
      omega
    · rw [ff.2.2.1 0 (Or.inl (by unfold pC; omega))]
    · rw [ff.2.2.1 59 (Or.inl (by unfold pC; omega))]
    · refine Or.inr ⟨by rw [ff.2.2.1 0 (Or.inl (by unfold pC; omega))]; exact a1, by rw [ff.2.2.1 59 (Or.inl (by unfold pC; omega))]; exact a2, A4, RL4, n4, c4, dn4, en4, RP4, city_fr g1 ff (by unfold pC; omega) (by unfold pC; omega) (by omega), ?_, ?_⟩
      · rw [ff.2.2.1 61 (Or.inl (by unfold pC; omega))]
        exact g2
      · exact reps_new g3 ff (ff.2.2.2 4 11 (Or.inl (Or.inl (by omega)))) (fun m _ => by rw [ff.2.2.1 61 (Or.inl (by unfold pC; omega))])
    · rw [ff.2.1]
      omega
    · rw [ff.2.1]
      omega
