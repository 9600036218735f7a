/-! KM: the class: best(), ith(), ways(), siege(), bars() -/
theorem len_all : kall1 5 (fun m => kall1 17 (fun en => kall1 17 (fun dn => decide (en < dn) || decide (kmm 0 0 (kmm 1 (kmm 1 (Int32.ofNat m) 4) (Int32.ofNat en - Int32.ofNat dn)) = Int32.ofNat (min m (en - dn)))))) = true := by decide +kernel
theorem len_ok {m en dn : Nat} (hm : m ≤ 4) (he : en ≤ 16) (hd : dn ≤ en) : kmm 0 0 (kmm 1 (kmm 1 (Int32.ofNat m) 4) (Int32.ofNat en - Int32.ofNat dn)) = Int32.ofNat (min m (en - dn)) := by
  have := kall1_ok (kall1_ok (kall1_ok len_all (i := m) (by omega)) (i := en) (by omega)) (i := dn) (by omega)
  simp only [Bool.or_eq_true, decide_eq_true_eq] at this
  exact this.resolve_left (by omega)
theorem cA14' : cityA (lev 0) := lev_c (by decide)
set_option maxHeartbeats 4000000 in
theorem t_beg {d : Nat} {Q : KO → Prop} {h : KH} (hw : WF h) {A : Nat → Int32} {RL : List Rul} {n c dn en : Nat} (hk : cityOK h 1 A RL n c dn en) {m : Nat} (hd : 2 ≤ d) (hQ : ∀ k, Fr (pC (lev 0)) (fun c => c = lev 0) (kwi h 10 3 (kmm 0 (0 : Int32) (kmm 1 (kmm 1 (Int32.ofNat m) (4 : Int32)) ((Int32.ofNat en) - (Int32.ofNat dn))))) k → nrm (cS k.2.2.1 (lev 0)) = nrm (cS (kwi h 10 3 (kmm 0 (0 : Int32) (kmm 1 (kmm 1 (Int32.ofNat m) (4 : Int32)) ((Int32.ofNat en) - (Int32.ofNat dn))))).2.2.1 1) → k.2.1 (lev 0) 10 = (kwi h 10 3 (kmm 0 (0 : Int32) (kmm 1 (kmm 1 (Int32.ofNat m) (4 : Int32)) ((Int32.ofNat en) - (Int32.ofNat dn))))).2.1 1 10 → k.2.1 (lev 0) 11 = (kwi h 10 3 (kmm 0 (0 : Int32) (kmm 1 (kmm 1 (Int32.ofNat m) (4 : Int32)) ((Int32.ofNat en) - (Int32.ofNat dn))))).2.1 1 11 → (Q (none, k))) : Cl d 45 [.ref 10, .ref 1, .int (Int32.ofNat m)] h Q := by
  refine Cl.of (ls := [some (.ref 10), some (.ref 1), some (.int (Int32.ofNat m))]) rfl rfl ?_
  refine Wp.seg 4 (pc1 := 4) (ls1 := [some (.ref 10), some (.ref 1), some (.int (Int32.ofNat m))]) (st1 := [.int (4), .int (Int32.ofNat m), .int (0), .ref 10]) rfl ?_
  refine Wp.mm rfl (by omega) rfl ?_
  refine Wp.seg 1 (pc1 := 8) (ls1 := [some (.ref 10), some (.ref 1), some (.int (Int32.ofNat m))]) (st1 := [.ref 1, .int (kmm 1 (Int32.ofNat m) (4 : Int32)), .int (0), .ref 10]) rfl ?_
  refine Wp.gi (t := (1, 0)) rfl (WF.t hw 1 rfl) (Or.inl rfl) ?_
  rw [show h.2.2.1 1 6 = Int32.ofNat en from hk.2.1.2.2.2.2.2.1]
  refine Wp.seg 1 (pc1 := 12) (ls1 := [some (.ref 10), some (.ref 1), some (.int (Int32.ofNat m))]) (st1 := [.ref 1, .int (Int32.ofNat en), .int (kmm 1 (Int32.ofNat m) (4 : Int32)), .int (0), .ref 10]) rfl ?_
  refine Wp.gi (t := (1, 0)) rfl (WF.t hw 1 rfl) (Or.inl rfl) ?_
  rw [show h.2.2.1 1 7 = Int32.ofNat dn from hk.2.1.2.2.2.2.1]
  refine Wp.seg 1 (pc1 := 16) (ls1 := [some (.ref 10), some (.ref 1), some (.int (Int32.ofNat m))]) (st1 := [.int ((Int32.ofNat en) - (Int32.ofNat dn)), .int (kmm 1 (Int32.ofNat m) (4 : Int32)), .int (0), .ref 10]) rfl ?_
  refine Wp.mm rfl (by omega) rfl ?_
  refine Wp.mm rfl (by omega) rfl ?_
  refine Wp.pi (t := (5, 0)) rfl (WF.t hw 10 rfl) (Or.inl rfl) ?_
  refine Wp.seg 1 (pc1 := 26) (ls1 := [some (.ref 10), some (.ref 1), some (.int (Int32.ofNat m))]) (st1 := [.ref 10]) rfl ?_
  refine Wp.gr (t := (5, 0)) (v := some (11)) rfl (WF.t hw 10 rfl) rfl (WF.r hw 10 0 19 rfl) ?_
  show Wp d 45 29 [some (.ref 10), some (.ref 1), some (.int (Int32.ofNat m))] [.ref 11] (kwi h 10 3 (kmm 0 (0 : Int32) (kmm 1 (kmm 1 (Int32.ofNat m) (4 : Int32)) ((Int32.ofNat en) - (Int32.ofNat dn))))) Q
  refine Wp.seg 1 (pc1 := 30) (ls1 := [some (.ref 10), some (.ref 1), some (.int (Int32.ofNat m))]) (st1 := [.int (0), .ref 11]) rfl ?_
  refine Wp.aald (j := 0) (k := 24) (n := 5) (v := some (14)) rfl (WF.t hw 11 rfl) rfl rfl (by decide) (by decide) (WF.r hw 11 0 22 rfl) ?_
  show Wp d 45 31 [some (.ref 10), some (.ref 1), some (.int (Int32.ofNat m))] [.ref 14] (kwi h 10 3 (kmm 0 (0 : Int32) (kmm 1 (kmm 1 (Int32.ofNat m) (4 : Int32)) ((Int32.ofNat en) - (Int32.ofNat dn))))) Q
  refine Wp.seg 1 (pc1 := 32) (ls1 := [some (.ref 10), some (.ref 1), some (.int (Int32.ofNat m))]) (st1 := [.ref 1, .ref 14]) rfl ?_
  refine Wp.invV (d2 := 1) (as := [.ref 14, .ref 1]) (r := []) (t := (1, 0)) rfl rfl rfl rfl (WF.t hw 14 rfl) rfl rfl ⟨rfl, rfl⟩ (by omega) (s_copy (a := lev 0) (b := 1) (h := kwi h 10 3 (kmm 0 (0 : Int32) (kmm 1 (kmm 1 (Int32.ofNat m) (4 : Int32)) ((Int32.ofNat en) - (Int32.ofNat dn))))) hw cA14' cA1 (by decide) (Nat.le_refl _) ?_)
  intro k f e1 e2 e3
  show Wp d 45 35 [some (.ref 10), some (.ref 1), some (.int (Int32.ofNat m))] [] k Q
  exact Wp.retv rfl rfl (hQ k f e1 e2 e3)
def pB : Nat → Prop := fun c => c = 10 ∨ (14 ≤ c ∧ c ≤ 16)
theorem s_begin {d : Nat} {Q : KO → Prop} {h : KH} (hw : WF h) {A : Nat → Int32} {RL : List Rul} {n c dn en m : Nat} (hk : cityOK h 1 A RL n c dn en) (hm : m ≤ 4) (hd : 2 ≤ d)
    (hQ : ∀ k, Fr pB (fun c => c = 14) h k → cityOK k (lev 0) A RL n c dn en → k.2.2.1 10 3 = Int32.ofNat (min m (en - dn)) → Q (none, k)) : Cl d 45 [.ref 10, .ref 1, .int (Int32.ofNat m)] h Q := by
  have o := hk.2.1
  have el := len_ok (m := m) (en := en) (dn := dn) hm o.2.2.2.2.2.2.2.2.1 o.2.2.2.2.2.2.1
  refine t_beg hw hk hd (fun k f e1 e2 e3 => ?_)
  have fk : Fr pB (fun c => c = 14) h (kwi h 10 3 (kmm 0 (0 : Int32) (kmm 1 (kmm 1 (Int32.ofNat m) (4 : Int32)) ((Int32.ofNat en) - (Int32.ofNat dn))))) := fr_kwi (Or.inl rfl) (by decide)
  have ck := city_fr hk fk (by unfold pB; omega) (by unfold pB; omega) (by omega)
  refine hQ k (fk.trans (f.mono (fun c z => by unfold pC lev at z; unfold pB; omega) (fun c z => z))) (copy_ok ck f e1 e2) ?_
  rw [f.2.2.1 10 (Or.inl (by unfold pC lev; omega)), ← el]
  exact kwi_s
/-- all plans of L dusks -/
def PL (RL : List Rul) (c n : Nat) (set : Int32) (L : Nat) (A : Nat → Int32) : WSt := cW RL c n set L [] A 0 0 (shA c A) (-1, 0, 5, 0, [])
def exH (k : KH) (set : Int32) : KH := kwi (kwi (kwi (kwi (kwi k 10 4 (-1 : Int32)) 10 5 (0 : Int32)) 10 6 set) 10 7 (5 : Int32)) 10 8 (0 : Int32)
theorem exH_fr (k : KH) (set : Int32) : Fr (fun c => c = 10) noP k (exH k set) := Fr.trans (fr_kwi rfl (by decide)) (Fr.trans (fr_kwi rfl (by decide)) (Fr.trans (fr_kwi rfl (by decide)) (Fr.trans (fr_kwi rfl (by decide)) (fr_kwi rfl (by decide)))))
theorem exH_ws (k : KH) (set : Int32) {L : Nat} (h3 : k.2.2.1 10 3 = Int32.ofNat L) : WS (exH k set) set L (-1, 0, 5, 0, []) := by
  refine ⟨(kwi_o (by decide)).trans ((kwi_o (by decide)).trans ((kwi_o (by decide)).trans ((kwi_o (by decide)).trans kwi_s))), (kwi_o (by decide)).trans ((kwi_o (by decide)).trans ((kwi_o (by decide)).trans kwi_s)), (kwi_o (by decide)).trans kwi_s, kwi_s, fun i hi => absurd hi (Nat.not_lt_zero i), (kwi_o (by decide)).trans ((kwi_o (by decide)).trans kwi_s), ?_⟩
  exact (kwi_o (by decide)).trans ((kwi_o (by decide)).trans ((kwi_o (by decide)).trans ((kwi_o (by decide)).trans ((kwi_o (by decide)).trans h3))))
set_option maxHeartbeats 4000000 in
theorem t_ex {d : Nat} {Q : KO → Prop} {h : KH} (hw : WF h) {A : Nat → Int32} {RL : List Rul} {n c dn en : Nat} (hk : cityOK h 1 A RL n c dn en) {m : Nat} {set : Int32} (hm : m ≤ 4) (hd : 3 ≤ d) (hQ : ∀ k, Fr pB (fun c => c = 14) h k → cityOK k (lev 0) A RL n c dn en → k.2.2.1 10 3 = Int32.ofNat (min m (en - dn)) → (Wp d 46 39 ([some (.ref 10), some (.ref 1), some (.int (Int32.ofNat m)), some (.int (set))]) [.int (shA c A), .int (0), .int (0), .int (0), .ref 10] (kwi (kwi (kwi (kwi (kwi k 10 4 (-1 : Int32)) 10 5 (0 : Int32)) 10 6 set) 10 7 (5 : Int32)) 10 8 (0 : Int32)) Q)) : Cl d 46 [.ref 10, .ref 1, .int (Int32.ofNat m), .int (set)] h Q := by
  refine Cl.of (ls := [some (.ref 10), some (.ref 1), some (.int (Int32.ofNat m)), some (.int (set))]) rfl rfl ?_
  refine Wp.seg 3 (pc1 := 3) (ls1 := [some (.ref 10), some (.ref 1), some (.int (Int32.ofNat m)), some (.int (set))]) (st1 := [.int (Int32.ofNat m), .ref 1, .ref 10]) rfl ?_
  refine Wp.invV (d2 := 2) (as := [.ref 10, .ref 1, .int (Int32.ofNat m)]) (r := []) (t := (5, 0)) rfl rfl rfl rfl (WF.t hw 10 rfl) rfl rfl ⟨rfl, rfl⟩ (by omega) (s_begin hw hk hm (Nat.le_refl _) ?_)
  intro k f g g3
  show Wp d 46 6 [some (.ref 10), some (.ref 1), some (.int (Int32.ofNat m)), some (.int (set))] [] k Q
  refine Wp.seg 2 (pc1 := 8) (ls1 := [some (.ref 10), some (.ref 1), some (.int (Int32.ofNat m)), some (.int (set))]) (st1 := [.int (-1), .ref 10]) rfl ?_
  refine Wp.pi (t := (5, 0)) rfl (WF.t (f.wf hw (by omega)) 10 rfl) (Or.inl rfl) ?_
  refine Wp.seg 2 (pc1 := 13) (ls1 := [some (.ref 10), some (.ref 1), some (.int (Int32.ofNat m)), some (.int (set))]) (st1 := [.int (0), .ref 10]) rfl ?_
  refine Wp.pi (t := (5, 0)) rfl (WF.t (f.wf hw (by omega)) 10 rfl) (Or.inl rfl) ?_
  refine Wp.seg 2 (pc1 := 18) (ls1 := [some (.ref 10), some (.ref 1), some (.int (Int32.ofNat m)), some (.int (set))]) (st1 := [.int (set), .ref 10]) rfl ?_
  refine Wp.pi (t := (5, 0)) rfl (WF.t (f.wf hw (by omega)) 10 rfl) (Or.inl rfl) ?_
  refine Wp.seg 2 (pc1 := 23) (ls1 := [some (.ref 10), some (.ref 1), some (.int (Int32.ofNat m)), some (.int (set))]) (st1 := [.int (5), .ref 10]) rfl ?_
  refine Wp.pi (t := (5, 0)) rfl (WF.t (f.wf hw (by omega)) 10 rfl) (Or.inl rfl) ?_
  refine Wp.seg 2 (pc1 := 28) (ls1 := [some (.ref 10), some (.ref 1), some (.int (Int32.ofNat m)), some (.int (set))]) (st1 := [.int (0), .ref 10]) rfl ?_
  refine Wp.pi (t := (5, 0)) rfl (WF.t (f.wf hw (by omega)) 10 rfl) (Or.inl rfl) ?_
  refine Wp.seg 5 (pc1 := 36) (ls1 := [some (.ref 10), some (.ref 1), some (.int (Int32.ofNat m)), some (.int (set))]) (st1 := [.ref 1, .int (0), .int (0), .int (0), .ref 10]) rfl ?_
  refine Wp.invV (d2 := 2) (as := [.ref 1]) (r := [.int (0), .int (0), .int (0), .ref 10]) (t := (1, 0)) rfl rfl rfl rfl (WF.t (f.wf hw (by omega)) 1 rfl) rfl rfl ⟨rfl, rfl⟩ (by omega) (s_shutC (h := exH k set) (f.wf hw (by omega)) cA1 (city_fr (city_fr hk f (by unfold pB; omega) (by unfold pB; omega) (by omega)) (exH_fr k set) (by omega) (by omega) (fun z => z)) (Nat.le_refl _) ?_)
  show Wp d 46 39 [some (.ref 10), some (.ref 1), some (.int (Int32.ofNat m)), some (.int (set))] [.int (shA c A), .int (0), .int (0), .int (0), .ref 10] (kwi (kwi (kwi (kwi (kwi k 10 4 (-1 : Int32)) 10 5 (0 : Int32)) 10 6 set) 10 7 (5 : Int32)) 10 8 (0 : Int32)) Q
  exact (hQ k f g g3)
def pE : Nat → Prop := fun c => 10 ≤ c ∧ c ≤ 28
theorem s_explore {d : Nat} {Q : KO → Prop} {h : KH} (hw : WF h) {A : Nat → Int32} {RL : List Rul} {n c dn en m : Nat} {set : Int32} (hk : cityOK h 1 A RL n c dn en) (hm : m ≤ 4) (hd : 10 ≤ d)
    (hQ : ∀ k, Fr pE pE h k → WS k set (min m (en - dn)) (PL RL c n set (min m (en - dn)) A) → Q (none, k)) : Cl d 46 [.ref 10, .ref 1, .int (Int32.ofNat m), .int set] h Q := by
  have o := hk.2.1.2.2.2.2.2.2.1
  refine t_ex hw hk hm (by omega) (fun k f g g3 => ?_)
  have wk := f.wf hw (by omega)
  have fe := exH_fr k set
  refine Wp.invV (M2 := 47) (d2 := 9) (as := [.ref 10, .int (Int32.ofNat 0), .int 0, .int 0, .int (shA c A)]) (r := []) (t := (5, 0)) rfl rfl rfl rfl (WF.t wk 10 rfl) rfl rfl ⟨rfl, rfl⟩ (by omega) ?_
  refine s_branch (h := exH k set) (A := A) (dn := dn) (RL := RL) (n := n) (c := c) (en := en) (L := min m (en - dn)) (by omega) (min m (en - dn)) 0 9 0 0 (shA c A) (-1, 0, 5, 0, []) [] _ (by omega) (by omega) (fe.wf wk (fun z => z)) (city_fr g fe (by unfold lev; omega) (by unfold lev; omega) (fun z => z)) (by omega) (exH_ws k set g3) (fun i hi => absurd hi (Nat.not_lt_zero i)) rfl ?_
  rintro k2 ⟨q1, q2, -⟩
  show Wp d 46 42 _ [] k2 Q
  refine Wp.retv rfl rfl (hQ k2 ?_ q2)
  refine (f.mono ?_ ?_).trans ((fe.mono ?_ ?_).trans (q1.mono ?_ ?_))
  · intro c z; unfold pB at z; unfold pE; omega
  · intro c z; unfold pE; omega
  · intro c z; unfold pE; omega
  · intro c z; exact absurd z (fun y => y)
  · intro c z; unfold pL lev at z; unfold pE; omega
  · intro c z; unfold rL lev at z; unfold pE; omega
theorem foldN_ind {σ : Type} {f : σ → Nat → σ} {P : Nat → σ → Prop} : ∀ (k p : Nat) (s : σ), P p s → (∀ q s, p ≤ q → q < p + k → P q s → P (q + 1) (f s q)) → P (p + k) (foldN f k p s)
  | 0, p, s, h, _ => h
  | k + 1, p, s, h, hs => by
    have := foldN_ind k (p + 1) (f s p) (hs p s (Nat.le_refl _) (by omega) h) (fun q s h1 h2 h3 => hs q s (by omega) (by omega) h3)
    rw [show p + (k + 1) = p + 1 + k by omega]
    exact this
theorem PL_num (RL : List Rul) (c n : Nat) (set : Int32) (L : Nat) (A : Nat → Int32) : PL RL c n set L A = foldN (fun st p => weighS set st (outc RL c (digsR (n + 1) L p) A 0 0 (shA c A)) (digsR (n + 1) L p)) ((n + 1) ^ L) 0 (-1, 0, 5, 0, []) := by
  unfold PL
  rw [cW_num]
  rfl
theorem PL_best (RL : List Rul) (c n : Nat) (set : Int32) {L : Nat} (hL : L ≤ 4) (A : Nat → Int32) : 0 ≤ (PL RL c n set L A).1.toInt ∧ ∃ p, p < (n + 1) ^ L ∧ (PL RL c n set L A).2.2.2.2 = digsR (n + 1) L p := by
  have hN : 0 < (n + 1) ^ L := Nat.pow_pos (Nat.succ_pos n)
  rw [PL_num]
  have h := foldN_ind (f := fun st p => weighS set st (outc RL c (digsR (n + 1) L p) A 0 0 (shA c A)) (digsR (n + 1) L p)) (P := fun q st => (q = 0 ∧ st.1 = -1) ∨ (0 ≤ st.1.toInt ∧ ∃ p, p < (n + 1) ^ L ∧ st.2.2.2.2 = digsR (n + 1) L p)) ((n + 1) ^ L) 0 ((-1, 0, 5, 0, []) : WSt) (Or.inl ⟨rfl, rfl⟩) (fun q st _ hq hP => ?_)
  · rcases h with ⟨h, -⟩ | h
    · omega
    · exact h
  · have hw := outc_pos RL c (digsR (n + 1) L q) A 0 0 (shA c A) (by decide) (by rw [digsR_len]; show (0 : Int) + _ ≤ _; omega)
    refine Or.inr ?_
    unfold weighS
    by_cases z : st.1 < (outc RL c (digsR (n + 1) L q) A 0 0 (shA c A)).1
    · simp only [if_pos z]
      exact ⟨hw, q, by omega, rfl⟩
    · simp only [if_neg z]
      rcases hP with ⟨-, hP⟩ | hP
      · exfalso
        apply z
        rw [hP]
        exact (zlt (m := -1) rfl rfl).mpr (by omega)
      · exact hP
theorem quiet_e {h k : KH} (f : Fr pE pE h k) : Quiet h k := ⟨f.mono (fun c z => by unfold pE at z; unfold pQ; omega) (fun c z => by unfold pE at z; unfold rQ; omega), f.2.2.1 60 (Or.inl (by unfold pE; omega)), fun i _ => by rw [f.2.2.1 59 (Or.inl (by unfold pE; omega))]⟩
