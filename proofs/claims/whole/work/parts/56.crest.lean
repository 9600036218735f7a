/-! KM: the class, dusks in a row, by turns and by lot -/
theorem s_over0 {d : Nat} {Q : KO → Prop} {h : KH} (hw : WF h) {a n c dn en : Nat} {A : Nat → Int32} {RL : List Rul} (ha : cityA a) (hk : cityOK h a A RL n c dn en) (hlt : dn < en) (hQ : Q (some (.int 0), h)) : Cl d 8 [.ref a] h Q := s_over hw ha hk (by rw [if_pos hlt]; exact hQ)
theorem s_over1 {d : Nat} {Q : KO → Prop} {h : KH} (hw : WF h) {a n c dn en : Nat} {A : Nat → Int32} {RL : List Rul} (ha : cityA a) (hk : cityOK h a A RL n c dn en) (hlt : ¬ dn < en) (hQ : Q (some (.int 1), h)) : Cl d 8 [.ref a] h Q := s_over hw ha hk (by rw [if_neg hlt]; exact hQ)
/-- dusks by turns: k at most; what they were worth with s, what is left, the dusk -/
def restA (RL : List Rul) (n en : Nat) : Nat → Nat → (Nat → Int32) → Int32 → Int32 × (Nat → Int32) × Nat
  | 0, dn, A, s => (s, A, dn)
  | k + 1, dn, A, s => if dn < en then restA RL n en k (dn + 1) (goA RL A (turnT n dn)) (s + wA RL A (turnT n dn)) else (s, A, dn)
theorem restA_le (RL : List Rul) (n en : Nat) : ∀ (k dn : Nat) (A : Nat → Int32) (s : Int32), dn ≤ en → (restA RL n en k dn A s).2.2 ≤ en
  | 0, dn, A, s, h => h
  | k + 1, dn, A, s, h => by
    unfold restA
    split
    · rename_i q
      exact restA_le RL n en k (dn + 1) _ _ q
    · exact h
set_option maxHeartbeats 4000000 in
theorem t_poB {d : Nat} {Q : KO → Prop} {h : KH} (hw : WF h) {a : Nat} (ha : cityA a) {A : Nat → Int32} {RL : List Rul} {n c dn en : Nat} (hk : cityOK h a A RL n c dn en) (hlt : dn < en) {m i : Nat} {s : Int32} (him : i < m) (hm : m ≤ 16) (hd : 5 ≤ d) (hQ : ∀ k, Fr (pC a) noP h k → cityOK k a (goA RL A (turnT n dn)) RL n c (dn + 1) en → (Wp d 11 4 ([some (.ref a), some (.int (Int32.ofNat m)), some (.int (s + (wA RL A (turnT n dn)))), some (.int ((Int32.ofNat i) + 1))]) [] k Q)) : Wp d 11 4 [some (.ref a), some (.int (Int32.ofNat m)), some (.int (s)), some (.int (Int32.ofNat i))] [] h Q := by
  refine Wp.seg 2 (pc1 := 6) (ls1 := [some (.ref a), some (.int (Int32.ofNat m)), some (.int (s)), some (.int (Int32.ofNat i))]) (st1 := [.int (Int32.ofNat m), .int (Int32.ofNat i)]) rfl ?_
  refine Wp.if2 rfl (fun c1 => absurd c1 (fun c => by have := (ole (by omega) (by omega)).mp c; omega)) (fun c1 => ?_)
  refine Wp.seg 1 (pc1 := 10) (ls1 := [some (.ref a), some (.int (Int32.ofNat m)), some (.int (s)), some (.int (Int32.ofNat i))]) (st1 := [.ref a]) rfl ?_
  refine Wp.invV (d2 := 0) (as := [.ref a]) (r := []) (t := (1, 0)) rfl rfl rfl rfl (cA_t hw ha) rfl rfl ⟨rfl, rfl⟩ (by omega) (s_over0 hw ha hk hlt ?_)
  show Wp d 11 13 [some (.ref a), some (.int (Int32.ofNat m)), some (.int (s)), some (.int (Int32.ofNat i))] [.int (0)] h Q
  refine Wp.if1 rfl (fun c2 => absurd c2 (show ¬ (¬ (0 : Int32) = 0) by decide)) (fun c2 => ?_)
  refine Wp.seg 3 (pc1 := 19) (ls1 := [some (.ref a), some (.int (Int32.ofNat m)), some (.int (s)), some (.int (Int32.ofNat i))]) (st1 := [.ref a, .ref a, .int (s)]) rfl ?_
  refine Wp.invV (d2 := 0) (as := [.ref a]) (r := [.ref a, .int (s)]) (t := (1, 0)) rfl rfl rfl rfl (cA_t hw ha) rfl rfl ⟨rfl, rfl⟩ (by omega) (s_byTurns hw ha hk ?_)
  show Wp d 11 22 [some (.ref a), some (.int (Int32.ofNat m)), some (.int (s)), some (.int (Int32.ofNat i))] [.int (turnT n dn), .ref a, .int (s)] h Q
  refine Wp.invV (d2 := 4) (as := [.ref a, .int (turnT n dn)]) (r := [.int (s)]) (t := (1, 0)) rfl rfl rfl rfl (cA_t hw ha) rfl rfl ⟨rfl, rfl⟩ (by omega) (s_cpassF hw ha hk hlt (turn_okT n dn) (Nat.le_refl _) ?_)
  intro k f g
  show Wp d 11 25 [some (.ref a), some (.int (Int32.ofNat m)), some (.int (s)), some (.int (Int32.ofNat i))] [.int (wA RL A (turnT n dn)), .int (s)] k Q
  refine Wp.seg 4 (pc1 := 4) (ls1 := [some (.ref a), some (.int (Int32.ofNat m)), some (.int (s + (wA RL A (turnT n dn)))), some (.int ((Int32.ofNat i) + 1))]) (st1 := []) rfl ?_
  exact (hQ k f g)
set_option maxHeartbeats 4000000 in
theorem t_poO {d : Nat} {Q : KO → Prop} {h : KH} (hw : WF h) {a : Nat} (ha : cityA a) {A : Nat → Int32} {RL : List Rul} {n c dn en : Nat} (hk : cityOK h a A RL n c dn en) (hlt : ¬ dn < en) {m i : Nat} {s : Int32} (him : i < m) (hm : m ≤ 16) (hd : 1 ≤ d) (hQ : Q (some (.int (s)), h)) : Wp d 11 4 [some (.ref a), some (.int (Int32.ofNat m)), some (.int (s)), some (.int (Int32.ofNat i))] [] h Q := by
  refine Wp.seg 2 (pc1 := 6) (ls1 := [some (.ref a), some (.int (Int32.ofNat m)), some (.int (s)), some (.int (Int32.ofNat i))]) (st1 := [.int (Int32.ofNat m), .int (Int32.ofNat i)]) rfl ?_
  refine Wp.if2 rfl (fun c1 => absurd c1 (fun c => by have := (ole (by omega) (by omega)).mp c; omega)) (fun c1 => ?_)
  refine Wp.seg 1 (pc1 := 10) (ls1 := [some (.ref a), some (.int (Int32.ofNat m)), some (.int (s)), some (.int (Int32.ofNat i))]) (st1 := [.ref a]) rfl ?_
  refine Wp.invV (d2 := 0) (as := [.ref a]) (r := []) (t := (1, 0)) rfl rfl rfl rfl (cA_t hw ha) rfl rfl ⟨rfl, rfl⟩ (by omega) (s_over1 hw ha hk hlt ?_)
  show Wp d 11 13 [some (.ref a), some (.int (Int32.ofNat m)), some (.int (s)), some (.int (Int32.ofNat i))] [.int (1)] h Q
  refine Wp.if1 rfl (fun c2 => ?_) (fun c2 => absurd (show ¬ (1 : Int32) = 0 by decide) c2)
  refine Wp.seg 1 (pc1 := 34) (ls1 := [some (.ref a), some (.int (Int32.ofNat m)), some (.int (s)), some (.int (Int32.ofNat i))]) (st1 := [.int (s)]) rfl ?_
  exact Wp.reti rfl rfl hQ
set_option maxHeartbeats 4000000 in
theorem t_poE {d : Nat} {Q : KO → Prop} {h : KH} {a m : Nat} {s : Int32} (hd : 0 ≤ d) (hQ : Q (some (.int (s)), h)) : Wp d 11 4 [some (.ref a), some (.int (Int32.ofNat m)), some (.int (s)), some (.int (Int32.ofNat m))] [] h Q := by
  refine Wp.seg 2 (pc1 := 6) (ls1 := [some (.ref a), some (.int (Int32.ofNat m)), some (.int (s)), some (.int (Int32.ofNat m))]) (st1 := [.int (Int32.ofNat m), .int (Int32.ofNat m)]) rfl ?_
  refine Wp.if2 rfl (fun c1 => ?_) (fun c1 => absurd (Int32.le_refl _) c1)
  refine Wp.seg 1 (pc1 := 34) (ls1 := [some (.ref a), some (.int (Int32.ofNat m)), some (.int (s)), some (.int (Int32.ofNat m))]) (st1 := [.int (s)]) rfl ?_
  exact Wp.reti rfl rfl hQ
set_option maxHeartbeats 4000000 in
theorem t_po {d : Nat} {Q : KO → Prop} {h : KH} {a : Nat} {m : Int32} (hd : 5 ≤ d) (hQ : Wp d 11 4 ([some (.ref a), some (.int (m)), some (.int (0)), some (.int (0))]) [] h Q) : Cl d 11 [.ref a, .int (m)] h Q := by
  refine Cl.of (ls := [some (.ref a), some (.int (m)), none, none]) rfl rfl ?_
  refine Wp.seg 4 (pc1 := 4) (ls1 := [some (.ref a), some (.int (m)), some (.int (0)), some (.int (0))]) (st1 := []) rfl ?_
  exact hQ
theorem s_passOnL {d : Nat} {Q : KO → Prop} {a n c en m : Nat} {RL : List Rul} (ha : cityA a) (hm : m ≤ 16) (hd : 5 ≤ d) : ∀ (j i dn : Nat) (A : Nat → Int32) (s : Int32) (h : KH), i + j = m → WF h → cityOK h a A RL n c dn en →
    (∀ k, Fr (pC a) noP h k → cityOK k a (restA RL n en j dn A s).2.1 RL n c (restA RL n en j dn A s).2.2 en → Q (some (.int (restA RL n en j dn A s).1), k)) → Wp d 11 4 [some (.ref a), some (.int (Int32.ofNat m)), some (.int s), some (.int (Int32.ofNat i))] [] h Q
  | 0, i, dn, A, s, h, hij, hw, hk, hQ => by
    obtain rfl : i = m := hij
    exact t_poE (Nat.zero_le _) (hQ h (Fr.refl h) hk)
  | j + 1, i, dn, A, s, h, hij, hw, hk, hQ => by
    unfold restA at hQ
    by_cases q : dn < en
    · simp only [if_pos q] at hQ
      refine t_poB hw ha hk q (by omega) hm hd (fun k f g => ?_)
      have ei : Int32.ofNat i + 1 = Int32.ofNat (i + 1) := ofadd i 1
      rw [ei]
      exact s_passOnL ha hm hd j (i + 1) (dn + 1) _ _ k (by omega) (f.wf hw (fun z => z)) g (fun k2 f2 g2 => hQ k2 (f.trans f2) g2)
    · simp only [if_neg q] at hQ
      exact t_poO hw ha hk q (by omega) hm (by omega) (hQ h (Fr.refl h) hk)
theorem s_passOn {d : Nat} {Q : KO → Prop} {h : KH} (hw : WF h) {a n c dn en m : Nat} {A : Nat → Int32} {RL : List Rul} (ha : cityA a) (hk : cityOK h a A RL n c dn en) (hm : m ≤ 16) (hd : 5 ≤ d)
    (hQ : ∀ k, Fr (pC a) noP h k → cityOK k a (restA RL n en m dn A 0).2.1 RL n c (restA RL n en m dn A 0).2.2 en → Q (some (.int (restA RL n en m dn A 0).1), k)) : Cl d 11 [.ref a, .int (Int32.ofNat m)] h Q :=
  t_po hd (s_passOnL ha hm hd m 0 dn A 0 h (by omega) hw hk hQ)
/-! by lot -/
def lotZ (A : Nat → Int32) : Int32 := A 7 * 1103515245 + 12345
def lotT (n : Nat) (z : Int32) : Int32 := (kushr z 16 - kushr z 16 / (Int32.ofNat n + 1) * (Int32.ofNat n + 1)) - 1
theorem kus16 (z : Int32) : ∃ p, p < 65536 ∧ kushr z 16 = Int32.ofNat p := by
  have e : (kushr z 16).toBitVec = z.toBitVec >>> 16 := rfl
  refine ⟨(kushr z 16).toBitVec.toNat, ?_, (i32_self _).symm⟩
  rw [e, BitVec.toNat_ushiftRight, Nat.shiftRight_eq_div_pow]
  have := z.toBitVec.isLt
  omega
theorem lot_okT {n : Nat} (hn : n ≤ 6) (z : Int32) : okT n (lotT n z) := by
  obtain ⟨p, hp, e⟩ := kus16 z
  unfold lotT
  rw [e, show Int32.ofNat n + 1 = Int32.ofNat (n + 1) from ofadd n 1, orem hp (by omega) (by omega)]
  have hml := Nat.mod_lt p (show 0 < n + 1 by omega)
  by_cases q : p % (n + 1) = 0
  · rw [q]
    exact Or.inl (by decide)
  · refine Or.inr ⟨p % (n + 1) - 1, by omega, ?_⟩
    exact zidx ((zs (znat (n := p % (n + 1)) (by omega)) (n := 1) rfl (by omega)).trans (by omega))
def lotA (RL : List Rul) (n : Nat) (A : Nat → Int32) : Nat → Int32 := goA RL (ku A 7 (lotZ A)) (lotT n (lotZ A))
def lotW (RL : List Rul) (n : Nat) (A : Nat → Int32) : Int32 := wA RL (ku A 7 (lotZ A)) (lotT n (lotZ A))
theorem nrm_ku {S : Nat → Int32} {j : Nat} {x : Int32} (hj : j < 9 ∨ (11 ≤ j ∧ j < 35)) : nrm (ku S j x) = ku (nrm S) j x := by
  funext m
  unfold nrm
  by_cases q : m = j
  · subst q
    rw [ku_s, if_pos hj, ku_s]
  · rw [ku_n _ _ q, ku_n _ _ q]
theorem okS_ku {S : Nat → Int32} {j : Nat} {x : Int32} {n c dn en : Nat} (hj : j = 3 ∨ j = 4 ∨ j = 5 ∨ j = 6 ∨ j = 7 ∨ 35 ≤ j ∨ j = 9 ∨ j = 10) (h : okS S n c dn en) : okS (ku S j x) n c dn en := by
  obtain ⟨o1, o2, o3, o4, o5, o6, o7, o8, o9, o10⟩ := h
  exact ⟨o1, by rw [ku_n _ _ (by omega)]; exact o2, o3, by rw [ku_n _ _ (by omega)]; exact o4, by rw [ku_n _ _ (by omega)]; exact o5, by rw [ku_n _ _ (by omega)]; exact o6, o7, o8, o9, fun i hi => handOK_other (j := 0) (by omega) (o10 i hi)⟩
theorem city_kwi {h : KH} {a n c dn en m : Nat} {A : Nat → Int32} {x : Int32} {RL : List Rul} (ha : cityA a) (hk : cityOK h a A RL n c dn en) (hm : m = 3 ∨ m = 4 ∨ m = 5 ∨ m = 6 ∨ m = 7) : cityOK (kwi h a (fld m) x) a (ku A m x) RL n c dn en := by
  obtain ⟨k1, k2, RLc, k3, k4⟩ := hk
  have ha26 := cA_le ha
  refine ⟨?_, ?_, RLc, ?_, k4⟩
  · rw [cS_kwi _ _ (by omega), nrm_ku (by omega), k1]
  · rw [cS_kwi _ _ (by omega)]
    exact okS_ku (by omega) k2
  · exact crul_hI (h := h) (I := (kwi h a (fld m) x).2.2.1) (fun b hb => kwi_r (by omega)) k3
theorem fr_kwi {P R : Nat → Prop} {h : KH} {a j : Nat} {x : Int32} (h1 : P a) (h2 : a < 75) : Fr P R h (kwi h a j x) := ⟨rfl, rfl, fun c hc => kwi_r (fun e => by subst e; exact hc.elim (fun z => z h1) (fun z => by omega)), fun _ _ _ => rfl⟩
set_option maxHeartbeats 4000000 in
theorem t_byLot {d : Nat} {Q : KO → Prop} {h : KH} (hw : WF h) {a : Nat} (ha : cityA a) {A : Nat → Int32} {RL : List Rul} {n c dn en : Nat} (hk : cityOK h a A RL n c dn en) (hlt : dn < en) (h1 : h.2.2.1 a 1 = Int32.ofNat n) (h9 : h.2.2.1 a 9 = A 7) (hn6 : n ≤ 6) (hd : 5 ≤ d) (hQ : ∀ k, Fr (pC a) noP (kwi h a 9 (lotZ A)) k → cityOK k a (lotA RL n A) RL n c (dn + 1) en → (Q (some (.int (lotW RL n A)), k))) : Cl d 12 [.ref a] h Q := by
  refine Cl.of (ls := [some (.ref a), none]) rfl rfl ?_
  refine Wp.seg 2 (pc1 := 2) (ls1 := [some (.ref a), none]) (st1 := [.ref a, .ref a]) rfl ?_
  refine Wp.gi (t := (1, 0)) rfl (cA_t hw ha) (Or.inl rfl) ?_
  rw [show h.2.2.1 a 9 = A 7 from h9]
  refine Wp.seg 4 (pc1 := 12) (ls1 := [some (.ref a), none]) (st1 := [.int (((A 7) * (1103515245 : Int32)) + (12345 : Int32)), .ref a]) rfl ?_
  refine Wp.pi (t := (1, 0)) rfl (cA_t hw ha) (Or.inl rfl) ?_
  refine Wp.seg 1 (pc1 := 16) (ls1 := [some (.ref a), none]) (st1 := [.ref a]) rfl ?_
  refine Wp.gi (t := (1, 0)) rfl (cA_t hw ha) (Or.inl rfl) ?_
  rw [show (kwi h a 9 (((A 7) * (1103515245 : Int32)) + (12345 : Int32))).2.2.1 a 1 = Int32.ofNat n from ((kwi_o (by decide)).trans (rfl)).trans h1]
  refine Wp.seg 5 (pc1 := 24) (ls1 := [some (.ref a), some (.int ((Int32.ofNat n) + (1 : Int32)))]) (st1 := [.int ((Int32.ofNat n) + (1 : Int32)), .ref a]) rfl ?_
  refine Wp.if1 rfl (fun c1 => absurd c1 (fun c => by have := (zle (zc (znat (n := n) (by omega)) (n := 1) rfl (by omega)) (n := 0) rfl).mp c; omega)) (fun c1 => ?_)
  refine Wp.seg 1 (pc1 := 28) (ls1 := [some (.ref a), some (.int ((Int32.ofNat n) + (1 : Int32)))]) (st1 := [.ref a, .ref a]) rfl ?_
  refine Wp.gi (t := (1, 0)) rfl (cA_t hw ha) (Or.inl rfl) ?_
  rw [show (kwi h a 9 (((A 7) * (1103515245 : Int32)) + (12345 : Int32))).2.2.1 a 9 = ((A 7) * (1103515245 : Int32)) + (12345 : Int32) from kwi_s]
  refine Wp.seg 3 (pc1 := 35) (ls1 := [some (.ref a), some (.int ((Int32.ofNat n) + (1 : Int32)))]) (st1 := [.int ((Int32.ofNat n) + (1 : Int32)), .int (kushr (((A 7) * (1103515245 : Int32)) + (12345 : Int32)) (16 : Int32)), .ref a]) rfl ?_
  refine Wp.rem rfl (fun c => by have := (zeq (zc (znat (n := n) (by omega)) (n := 1) rfl (by omega)) (n := 0) rfl).mp c; omega) ?_
  refine Wp.seg 3 (pc1 := 42) (ls1 := [some (.ref a), some (.int ((Int32.ofNat n) + (1 : Int32)))]) (st1 := [.int (((kushr (((A 7) * (1103515245 : Int32)) + (12345 : Int32)) (16 : Int32)) - (kushr (((A 7) * (1103515245 : Int32)) + (12345 : Int32)) (16 : Int32)) / ((Int32.ofNat n) + (1 : Int32)) * ((Int32.ofNat n) + (1 : Int32))) - (1 : Int32)), .ref a]) rfl ?_
  refine Wp.invV (d2 := 4) (as := [.ref a, .int (((kushr (((A 7) * (1103515245 : Int32)) + (12345 : Int32)) (16 : Int32)) - (kushr (((A 7) * (1103515245 : Int32)) + (12345 : Int32)) (16 : Int32)) / ((Int32.ofNat n) + (1 : Int32)) * ((Int32.ofNat n) + (1 : Int32))) - (1 : Int32))]) (r := []) (t := (1, 0)) rfl rfl rfl rfl (cA_t hw ha) rfl rfl ⟨rfl, rfl⟩ (by omega) (s_cpassF (h := kwi h a 9 (lotZ A)) hw ha (city_kwi (m := 7) ha hk (by decide)) hlt (lot_okT hk.2.1.1 _) (Nat.le_refl _) ?_)
  intro k f g
  show Wp d 12 45 [some (.ref a), some (.int ((Int32.ofNat n) + (1 : Int32)))] [.int (lotW RL n A)] k Q
  exact Wp.reti rfl rfl (hQ k f g)
theorem s_byLot {d : Nat} {Q : KO → Prop} {h : KH} (hw : WF h) {a n c dn en : Nat} {A : Nat → Int32} {RL : List Rul} (ha : cityA a) (hk : cityOK h a A RL n c dn en) (hlt : dn < en) (hd : 5 ≤ d)
    (hQ : ∀ k, Fr (pC a) noP h k → cityOK k a (lotA RL n A) RL n c (dn + 1) en → Q (some (.int (lotW RL n A)), k)) : Cl d 12 [.ref a] h Q := by
  have h9 : h.2.2.1 a 9 = A 7 := by
    have := congrFun hk.1 7
    exact this
  have ha26 := cA_le ha
  refine t_byLot hw ha hk hlt hk.2.1.2.1 h9 hk.2.1.1 hd (fun k f g => hQ k (Fr.trans (fr_kwi (by unfold pC; omega) (by omega)) f) g)
def lotsA (RL : List Rul) (n en : Nat) : Nat → Nat → (Nat → Int32) → Int32 → Int32 × (Nat → Int32) × Nat
  | 0, dn, A, s => (s, A, dn)
  | k + 1, dn, A, s => if dn < en then lotsA RL n en k (dn + 1) (lotA RL n A) (s + lotW RL n A) else (s, A, dn)
set_option maxHeartbeats 4000000 in
theorem t_plB {d : Nat} {Q : KO → Prop} {h : KH} (hw : WF h) {a : Nat} (ha : cityA a) {A : Nat → Int32} {RL : List Rul} {n c dn en : Nat} (hk : cityOK h a A RL n c dn en) (hlt : dn < en) {i : Nat} {s : Int32} (him : i < 16) (hd : 6 ≤ d) (hQ : ∀ k, Fr (pC a) noP h k → cityOK k a (lotA RL n A) RL n c (dn + 1) en → (Wp d 13 4 ([some (.ref a), some (.int (s + (lotW RL n A))), some (.int ((Int32.ofNat i) + 1))]) [] k Q)) : Wp d 13 4 [some (.ref a), some (.int (s)), some (.int (Int32.ofNat i))] [] h Q := by
  refine Wp.seg 2 (pc1 := 7) (ls1 := [some (.ref a), some (.int (s)), some (.int (Int32.ofNat i))]) (st1 := [.int (16), .int (Int32.ofNat i)]) rfl ?_
  refine Wp.if2 rfl (fun c1 => absurd c1 (fun c => by have := (zle (m := 16) rfl (znat (n := i) (by omega))).mp c; omega)) (fun c1 => ?_)
  refine Wp.seg 1 (pc1 := 11) (ls1 := [some (.ref a), some (.int (s)), some (.int (Int32.ofNat i))]) (st1 := [.ref a]) rfl ?_
  refine Wp.invV (d2 := 0) (as := [.ref a]) (r := []) (t := (1, 0)) rfl rfl rfl rfl (cA_t hw ha) rfl rfl ⟨rfl, rfl⟩ (by omega) (s_over0 hw ha hk hlt ?_)
  show Wp d 13 14 [some (.ref a), some (.int (s)), some (.int (Int32.ofNat i))] [.int (0)] h Q
  refine Wp.if1 rfl (fun c2 => absurd c2 (show ¬ (¬ (0 : Int32) = 0) by decide)) (fun c2 => ?_)
  refine Wp.seg 2 (pc1 := 19) (ls1 := [some (.ref a), some (.int (s)), some (.int (Int32.ofNat i))]) (st1 := [.ref a, .int (s)]) rfl ?_
  refine Wp.invV (d2 := 5) (as := [.ref a]) (r := [.int (s)]) (t := (1, 0)) rfl rfl rfl rfl (cA_t hw ha) rfl rfl ⟨rfl, rfl⟩ (by omega) (s_byLot hw ha hk hlt (Nat.le_refl _) ?_)
  intro k f g
  show Wp d 13 22 [some (.ref a), some (.int (s)), some (.int (Int32.ofNat i))] [.int (lotW RL n A), .int (s)] k Q
  refine Wp.seg 4 (pc1 := 4) (ls1 := [some (.ref a), some (.int (s + (lotW RL n A))), some (.int ((Int32.ofNat i) + 1))]) (st1 := []) rfl ?_
  exact (hQ k f g)
set_option maxHeartbeats 4000000 in
theorem t_plO {d : Nat} {Q : KO → Prop} {h : KH} (hw : WF h) {a : Nat} (ha : cityA a) {A : Nat → Int32} {RL : List Rul} {n c dn en : Nat} (hk : cityOK h a A RL n c dn en) (hlt : ¬ dn < en) {i : Nat} {s : Int32} (him : i < 16) (hd : 1 ≤ d) (hQ : Q (some (.int (s)), h)) : Wp d 13 4 [some (.ref a), some (.int (s)), some (.int (Int32.ofNat i))] [] h Q := by
  refine Wp.seg 2 (pc1 := 7) (ls1 := [some (.ref a), some (.int (s)), some (.int (Int32.ofNat i))]) (st1 := [.int (16), .int (Int32.ofNat i)]) rfl ?_
  refine Wp.if2 rfl (fun c1 => absurd c1 (fun c => by have := (zle (m := 16) rfl (znat (n := i) (by omega))).mp c; omega)) (fun c1 => ?_)
  refine Wp.seg 1 (pc1 := 11) (ls1 := [some (.ref a), some (.int (s)), some (.int (Int32.ofNat i))]) (st1 := [.ref a]) rfl ?_
  refine Wp.invV (d2 := 0) (as := [.ref a]) (r := []) (t := (1, 0)) rfl rfl rfl rfl (cA_t hw ha) rfl rfl ⟨rfl, rfl⟩ (by omega) (s_over1 hw ha hk hlt ?_)
  show Wp d 13 14 [some (.ref a), some (.int (s)), some (.int (Int32.ofNat i))] [.int (1)] h Q
  refine Wp.if1 rfl (fun c2 => ?_) (fun c2 => absurd (show ¬ (1 : Int32) = 0 by decide) c2)
  refine Wp.seg 1 (pc1 := 31) (ls1 := [some (.ref a), some (.int (s)), some (.int (Int32.ofNat i))]) (st1 := [.int (s)]) rfl ?_
  exact Wp.reti rfl rfl hQ
set_option maxHeartbeats 4000000 in
theorem t_plE {d : Nat} {Q : KO → Prop} {h : KH} {a : Nat} {s : Int32} (hd : 0 ≤ d) (hQ : Q (some (.int (s)), h)) : Wp d 13 4 [some (.ref a), some (.int (s)), some (.int (16))] [] h Q := by
  refine Wp.seg 2 (pc1 := 7) (ls1 := [some (.ref a), some (.int (s)), some (.int (16))]) (st1 := [.int (16), .int (16)]) rfl ?_
  refine Wp.if2 rfl (fun c1 => ?_) (fun c1 => absurd (show (16 : Int32) ≤ (16 : Int32) by decide) c1)
  refine Wp.seg 1 (pc1 := 31) (ls1 := [some (.ref a), some (.int (s)), some (.int (16))]) (st1 := [.int (s)]) rfl ?_
  exact Wp.reti rfl rfl hQ
set_option maxHeartbeats 4000000 in
theorem t_pl {d : Nat} {Q : KO → Prop} {h : KH} {a : Nat} (hd : 6 ≤ d) (hQ : Wp d 13 4 ([some (.ref a), some (.int (0)), some (.int (0))]) [] h Q) : Cl d 13 [.ref a] h Q := by
  refine Cl.of (ls := [some (.ref a), none, none]) rfl rfl ?_
  refine Wp.seg 4 (pc1 := 4) (ls1 := [some (.ref a), some (.int (0)), some (.int (0))]) (st1 := []) rfl ?_
  exact hQ
theorem s_passLotL {d : Nat} {Q : KO → Prop} {a n c en : Nat} {RL : List Rul} (ha : cityA a) (hd : 6 ≤ d) : ∀ (j i dn : Nat) (A : Nat → Int32) (s : Int32) (h : KH), i + j = 16 → WF h → cityOK h a A RL n c dn en →
    (∀ k, Fr (pC a) noP h k → cityOK k a (lotsA RL n en j dn A s).2.1 RL n c (lotsA RL n en j dn A s).2.2 en → Q (some (.int (lotsA RL n en j dn A s).1), k)) → Wp d 13 4 [some (.ref a), some (.int s), some (.int (Int32.ofNat i))] [] h Q
  | 0, i, dn, A, s, h, hij, hw, hk, hQ => by
    obtain rfl : i = 16 := hij
    exact t_plE (Nat.zero_le _) (hQ h (Fr.refl h) hk)
  | j + 1, i, dn, A, s, h, hij, hw, hk, hQ => by
    unfold lotsA at hQ
    by_cases q : dn < en
    · simp only [if_pos q] at hQ
      refine t_plB hw ha hk q (by omega) hd (fun k f g => ?_)
      have ei : Int32.ofNat i + 1 = Int32.ofNat (i + 1) := ofadd i 1
      rw [ei]
      exact s_passLotL ha hd j (i + 1) (dn + 1) _ _ k (by omega) (f.wf hw (fun z => z)) g (fun k2 f2 g2 => hQ k2 (f.trans f2) g2)
    · simp only [if_neg q] at hQ
      exact t_plO hw ha hk q (by omega) (by omega) (hQ h (Fr.refl h) hk)
theorem s_passLot {d : Nat} {Q : KO → Prop} {h : KH} (hw : WF h) {a n c dn en : Nat} {A : Nat → Int32} {RL : List Rul} (ha : cityA a) (hk : cityOK h a A RL n c dn en) (hd : 6 ≤ d)
    (hQ : ∀ k, Fr (pC a) noP h k → cityOK k a (lotsA RL n en 16 dn A 0).2.1 RL n c (lotsA RL n en 16 dn A 0).2.2 en → Q (some (.int (lotsA RL n en 16 dn A 0).1), k)) : Cl d 13 [.ref a] h Q :=
  t_pl hd (s_passLotL ha hd 16 0 dn A 0 h (by omega) hw hk hQ)
