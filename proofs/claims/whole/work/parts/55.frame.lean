/-! KM: what is left as it was; cities copied; a dusk as both sides keep it -/
theorem Wp.pk {d M pc : Nat} {ls : KL} {r : List Value} {h : KH} {Q : KO → Prop} {idx nx tg : Nat} {w : Value} {ts : List (Nat × Nat)} {a : Nat} {t : Nat × Nat} {b : Option Nat} (he : kpf M pc = some (.putfield idx, nx, tg, w, ts)) (ht : h.1 a = t) (hk : klook t.1 ts = some 2) (hw : Wp d M nx ls r (kwr h a tg b) Q) : Wp d M pc ls (krv b :: .ref a :: r) h Q := by
  cases b with
  | none => exact Wp.pn he ht hk hw
  | some b => exact Wp.pr he ht hk hw
theorem kwr_b {H : KH} {a b i j : Nat} {x : Option Nat} (h : b ≠ a) : (kwr H a j x).2.1 b i = H.2.1 b i := by
  show ku H.2.1 a (ku (H.2.1 a) j x) b i = _
  rw [ku_n _ _ h]
theorem kwr_s {H : KH} {a j : Nat} {x : Option Nat} : (kwr H a j x).2.1 a j = x := by
  show ku H.2.1 a (ku (H.2.1 a) j x) a j = x
  rw [ku_s, ku_s]
theorem kwr_o {H : KH} {a j i : Nat} {x : Option Nat} (h : i ≠ j) : (kwr H a j x).2.1 a i = H.2.1 a i := by
  show ku H.2.1 a (ku (H.2.1 a) j x) a i = _
  rw [ku_s, ku_n _ _ h]
theorem kwi_r {H : KH} {a c j : Nat} {x : Int32} (h : c ≠ a) : (kwi H a j x).2.2.1 c = H.2.2.1 c := ku_n _ _ h
/-- nothing but ints at P and the fields 10 and 11 at R is other than it was -/
def Fr (P R : Nat → Prop) (h k : KH) : Prop := k.1 = h.1 ∧ k.2.2.2 = h.2.2.2 ∧ (∀ c, (¬ P c ∨ 75 ≤ c) → k.2.2.1 c = h.2.2.1 c) ∧ (∀ c i, ((¬ R c ∨ 75 ≤ c) ∨ (i ≠ 10 ∧ i ≠ 11)) → k.2.1 c i = h.2.1 c i)
theorem Fr.refl {P R : Nat → Prop} (h : KH) : Fr P R h h := ⟨rfl, rfl, fun _ _ => rfl, fun _ _ _ => rfl⟩
theorem Fr.trans {P R : Nat → Prop} {h k l : KH} (f : Fr P R h k) (g : Fr P R k l) : Fr P R h l := ⟨g.1.trans f.1, g.2.1.trans f.2.1, fun c hc => (g.2.2.1 c hc).trans (f.2.2.1 c hc), fun c i hc => (g.2.2.2 c i hc).trans (f.2.2.2 c i hc)⟩
theorem Fr.mono {P R P2 R2 : Nat → Prop} {h k : KH} (f : Fr P R h k) (hP : ∀ c, P c → P2 c) (hR : ∀ c, R c → R2 c) : Fr P2 R2 h k := ⟨f.1, f.2.1, fun c hc => f.2.2.1 c (hc.imp (fun q z => q (hP c z)) id), fun c i hc => f.2.2.2 c i (hc.imp (fun q => q.imp (fun q z => q (hR c z)) id) id)⟩
theorem kRL_10 : ∀ q ∈ kRL, q.1 = 0 ∨ (q.2.1 ≠ 10 ∧ q.2.1 ≠ 11) := by decide
theorem Fr.wf {P R : Nat → Prop} {h k : KH} (f : Fr P R h k) (hw : WF h) (h0 : ¬ R 0) : WF k := by
  obtain ⟨w1, w2, w3, w4, w5, w6, w7⟩ := hw
  refine ⟨fun a ha => by rw [f.1]; exact w1 a ha, fun q hq => ?_, by rw [f.2.1]; exact w3, by rw [f.1]; exact w4, by rw [f.1]; exact w5, ?_, by rw [f.1]; exact w7⟩
  · rw [f.2.2.2]
    · exact w2 q hq
    · rcases kRL_10 q hq with e | e
      · exact Or.inl (Or.inl (by rw [e]; exact h0))
      · exact Or.inr e
  · rw [f.2.2.2 _ _ (Or.inr ⟨by decide, by decide⟩)]
    exact w6
theorem crul_fr {P R : Nat → Prop} {h k : KH} {a b : Nat} {RL : List Rul} (f : Fr P R h k) (e : k.2.1 a 10 = h.2.1 b 10) (hR : crul h b RL) : crul k a RL := by
  rcases hR with ⟨h1, h2⟩ | ⟨o, hr, L, hO, hq, hq8, hl⟩
  · exact Or.inl ⟨e.trans h1, h2⟩
  · have ho : 75 ≤ o := hO.2.2.2.2.2.2.2.2.2.1
    obtain ⟨p1, p2, p3, p4, p5, p6, p7, p8, p9, p10, p11⟩ := hO
    have r1 : ∀ c i, 75 ≤ c → k.2.1 c i = h.2.1 c i := fun c i hc => f.2.2.2 c i (Or.inl (Or.inr hc))
    refine Or.inr ⟨o, e.trans hr, L, ⟨by rw [f.1]; exact p1, by rw [f.1]; exact p2, by rw [f.1]; exact p3, by rw [f.1]; exact p4, by rw [f.1]; exact p5, by rw [r1 _ _ ho]; exact p6, by rw [r1 _ _ ho]; exact p7, by rw [r1 _ _ ho]; exact p8, by rw [r1 _ _ ho]; exact p9, p10, p11⟩, by rw [f.2.2.1 o (Or.inr ho)]; exact hq, hq8, rulCR_congr (fun j hj => f.2.2.1 (o + j) (Or.inr (by omega))) RL 0 0 hl⟩
/-- a city of the class that holds A, under the rules RL -/
def cityOK (h : KH) (a : Nat) (A : Nat → Int32) (RL : List Rul) (n c dn en : Nat) : Prop := nrm (cS h.2.2.1 a) = A ∧ okS (cS h.2.2.1 a) n c dn en ∧ ∃ RLc, crul h a RLc ∧ eqRL RLc RL
theorem cityOK.A {h : KH} {a : Nat} {A : Nat → Int32} {RL : List Rul} {n c dn en : Nat} (k : cityOK h a A RL n c dn en) : okS A n c dn en := by
  rw [← k.1]
  exact okS_nrm k.2.1
def pC (a : Nat) : Nat → Prop := fun c => a ≤ c ∧ c ≤ a + 2
def noP : Nat → Prop := fun _ => False
theorem s_cpassF {d : Nat} {Q : KO → Prop} {h : KH} (hw : WF h) {a n c dn en : Nat} {A : Nat → Int32} {t : Int32} {RL : List Rul} (ha : cityA a) (hk : cityOK h a A RL n c dn en) (hlt : dn < en) (ht : okT n t) (hd : 4 ≤ d)
    (hQ : ∀ k, Fr (pC a) noP h k → cityOK k a (goA RL A t) RL n c (dn + 1) en → Q (some (.int (wA RL A t)), k)) : Cl d 10 [.ref a, .int t] h Q := by
  obtain ⟨k1, k2, RLc, k3, k4⟩ := hk
  have ha26 := cA_le ha
  refine s_cpass hw ha hd k2 k3 ht (fun I i1 i2 => ?_)
  have g := go_nrm k1 (RL := RL) k2 ht
  rw [(eqRL_go k4 _ n t).1] at i1
  rw [(eqRL_go k4 _ n t).2, g.2]
  have f : Fr (pC a) noP h (hI h I) := ⟨rfl, rfl, fun b hb => i2 b (by unfold pC at hb; omega) (by unfold pC at hb; omega) (by unfold pC at hb; omega), fun _ _ _ => rfl⟩
  refine hQ _ f ⟨?_, ?_, RLc, crul_fr f rfl k3, k4⟩
  · show nrm (cS I a) = _
    rw [i1]
    exact g.1
  · show okS (cS I a) _ _ _ _
    rw [i1]
    exact go_okS k2 ht hlt
/-! over, by turns -/
theorem s_over {d : Nat} {Q : KO → Prop} {h : KH} (hw : WF h) {a n c dn en : Nat} {A : Nat → Int32} {RL : List Rul} (ha : cityA a) (hk : cityOK h a A RL n c dn en) (hQ : Q (some (.int (if dn < en then 0 else 1)), h)) : Cl d 8 [.ref a] h Q := by
  refine s_cOver hw ha (Nat.zero_le _) ?_
  obtain ⟨-, ⟨o1, o2, o3, o4, o5, o6, o7, o8, o9, o10⟩, -⟩ := hk
  have e : f_cOver h.2.2.1 a = if dn < en then 0 else 1 := by
    unfold f_cOver
    have e7 : h.2.2.1 a 7 = Int32.ofNat dn := o5
    have e6 : h.2.2.1 a 6 = Int32.ofNat en := o6
    rw [e7, e6]
    by_cases q : dn < en
    · rw [if_pos q, if_pos ((olt (by omega) (by omega)).mpr q)]
    · rw [if_neg q, if_neg (fun z => q ((olt (by omega) (by omega)).mp z))]
  rw [e]
  exact hQ
theorem orem {p q : Nat} (hp : p < 65536) (hq : 0 < q) (hq2 : q < 65536) : Int32.ofNat p - Int32.ofNat p / Int32.ofNat q * Int32.ofNat q = Int32.ofNat (p % q) := by
  have hle : p / q ≤ p := Nat.div_le_self p q
  have e1 : (Int32.ofNat p / Int32.ofNat q).toInt = ((p / q : Nat) : Int) := by
    rw [Int32.toInt_div, znat (by omega), znat (by omega), ← Int.ofNat_tdiv]
    generalize p / q = m at hle ⊢
    rw [Int.bmod_def]
    omega
  have hm := Nat.div_add_mod p q
  have hml := Nat.mod_lt p hq
  have hc : p / q * q = q * (p / q) := Nat.mul_comm _ _
  have e2 : (Int32.ofNat p / Int32.ofNat q * Int32.ofNat q).toInt = ((p / q * q : Nat) : Int) := by
    rw [zm e1 (znat (n := q) (by omega)) (by rw [← Int.natCast_mul]; omega), ← Int.natCast_mul]
  exact zidx ((zs (znat (n := p) (by omega)) e2 (by omega)).trans (by omega))
def turnT (n dn : Nat) : Int32 := if n = 0 then -1 else Int32.ofNat (dn % n)
theorem turn_okT (n dn : Nat) : okT n (turnT n dn) := by
  unfold turnT
  by_cases q : n = 0
  · rw [if_pos q]
    exact Or.inl (by decide)
  · rw [if_neg q]
    exact Or.inr ⟨dn % n, Nat.mod_lt _ (by omega), rfl⟩
set_option maxHeartbeats 4000000 in
theorem t_byT0 {d : Nat} {Q : KO → Prop} {h : KH} (hw : WF h) {a : Nat} (ha : cityA a) (hn : h.2.2.1 a 1 = 0) (hd : 0 ≤ d) (hQ : Q (some (.int (-1)), h)) : Cl d 9 [.ref a] h Q := by
  refine Cl.of (ls := [some (.ref a)]) rfl rfl ?_
  refine Wp.seg 1 (pc1 := 1) (ls1 := [some (.ref a)]) (st1 := [.ref a]) rfl ?_
  refine Wp.gi (t := (1, 0)) rfl (cA_t hw ha) (Or.inl rfl) ?_
  refine Wp.if1 rfl (fun c1 => absurd c1 (fun c => c hn)) (fun c1 => ?_)
  refine Wp.seg 2 (pc1 := 20) (ls1 := [some (.ref a)]) (st1 := [.int (-1)]) rfl ?_
  exact Wp.reti rfl rfl hQ
set_option maxHeartbeats 4000000 in
theorem t_byT1 {d : Nat} {Q : KO → Prop} {h : KH} (hw : WF h) {a : Nat} (ha : cityA a) (hn : ¬ h.2.2.1 a 1 = 0) (hd : 0 ≤ d) (hQ : Q (some (.int ((h.2.2.1 a 7) - (h.2.2.1 a 7) / (h.2.2.1 a 1) * (h.2.2.1 a 1))), h)) : Cl d 9 [.ref a] h Q := by
  refine Cl.of (ls := [some (.ref a)]) rfl rfl ?_
  refine Wp.seg 1 (pc1 := 1) (ls1 := [some (.ref a)]) (st1 := [.ref a]) rfl ?_
  refine Wp.gi (t := (1, 0)) rfl (cA_t hw ha) (Or.inl rfl) ?_
  refine Wp.if1 rfl (fun c1 => ?_) (fun c1 => absurd (hn) c1)
  refine Wp.seg 1 (pc1 := 12) (ls1 := [some (.ref a)]) (st1 := [.ref a]) rfl ?_
  refine Wp.gi (t := (1, 0)) rfl (cA_t hw ha) (Or.inl rfl) ?_
  refine Wp.seg 1 (pc1 := 16) (ls1 := [some (.ref a)]) (st1 := [.ref a, .int (h.2.2.1 a 7)]) rfl ?_
  refine Wp.gi (t := (1, 0)) rfl (cA_t hw ha) (Or.inl rfl) ?_
  refine Wp.rem rfl (hn) ?_
  exact Wp.reti rfl rfl hQ
theorem s_byTurns {d : Nat} {Q : KO → Prop} {h : KH} (hw : WF h) {a n c dn en : Nat} {A : Nat → Int32} {RL : List Rul} (ha : cityA a) (hk : cityOK h a A RL n c dn en) (hQ : Q (some (.int (turnT n dn)), h)) : Cl d 9 [.ref a] h Q := by
  obtain ⟨-, ⟨o1, o2, o3, o4, o5, o6, o7, o8, o9, o10⟩, -⟩ := hk
  have e1 : h.2.2.1 a 1 = Int32.ofNat n := o2
  have e7 : h.2.2.1 a 7 = Int32.ofNat dn := o5
  unfold turnT at hQ
  by_cases q : n = 0
  · subst q
    exact t_byT0 hw ha e1 (Nat.zero_le _) hQ
  · rw [if_neg q] at hQ
    refine t_byT1 hw ha (fun z => q ?_) (Nat.zero_le _) ?_
    · rw [e1] at z
      exact (oeq (b := 0) (by omega) (by decide)).mp z
    · rw [e7, e1, orem (by omega) (by omega) (by omega)]
      exact hQ
theorem kcopy24 {h : KH} {s e : Nat} {r : List Value} (hs : h.1 s = (20, 24)) (he : h.1 e = (20, 24)) : kcopy (.int 24 :: .int 0 :: .ref e :: .int 0 :: .ref s :: r) h = some (r, hI h (ku h.2.2.1 e (va_cpy (h.2.2.1 s) (h.2.2.1 e) 0 0 24))) := by
  unfold kcopy
  simp only [hs, he]
  rfl
set_option maxHeartbeats 4000000 in
theorem t_cpA {d : Nat} {Q : KO → Prop} {h : KH} (hw : WF h) {a b : Nat} (ha : cityA a) (hb : cityA b) (hd : 1 ≤ d) (hQ : Wp d 3 15 ([some (.ref a), some (.ref b)]) [] (hI h (ku h.2.2.1 (a + 1) (va_cpy (h.2.2.1 (b + 1)) (h.2.2.1 (a + 1)) 0 0 24))) Q) : Cl d 3 [.ref a, .ref b] h Q := by
  refine Cl.of (ls := [some (.ref a), some (.ref b)]) rfl rfl ?_
  refine Wp.seg 1 (pc1 := 1) (ls1 := [some (.ref a), some (.ref b)]) (st1 := [.ref b]) rfl ?_
  refine Wp.gr (t := (1, 0)) (v := some (b + 1)) rfl (cA_t hw hb) rfl (cA_r0 hw hb) ?_
  show Wp d 3 4 [some (.ref a), some (.ref b)] [.ref (b + 1)] h Q
  refine Wp.seg 2 (pc1 := 6) (ls1 := [some (.ref a), some (.ref b)]) (st1 := [.ref a, .int (0), .ref (b + 1)]) rfl ?_
  refine Wp.gr (t := (1, 0)) (v := some (a + 1)) rfl (cA_t hw ha) rfl (cA_r0 hw ha) ?_
  show Wp d 3 9 [some (.ref a), some (.ref b)] [.ref (a + 1), .int (0), .ref (b + 1)] h Q
  refine Wp.seg 2 (pc1 := 12) (ls1 := [some (.ref a), some (.ref b)]) (st1 := [.int (24), .int (0), .ref (a + 1), .int (0), .ref (b + 1)]) rfl ?_
  refine Wp.cpy (r := []) (h1 := hI h (ku h.2.2.1 (a + 1) (va_cpy (h.2.2.1 (b + 1)) (h.2.2.1 (a + 1)) 0 0 24))) rfl (by omega) (kcopy24 (cA_t1 hw hb) (cA_t1 hw ha)) rfl ?_
  exact hQ
set_option maxHeartbeats 4000000 in
theorem t_cpB {d : Nat} {Q : KO → Prop} {h : KH} (hw : WF h) {a b : Nat} (ha : cityA a) (hb : cityA b) (hab : a ≠ b) (hd : 0 ≤ d) (hQ : Q (none, kwr (kwr (kwi (kwi (kwi (kwi (kwi (kwi (kwi (kwi (kwi h a 1 (h.2.2.1 b 1)) a 2 (h.2.2.1 b 2)) a 3 (h.2.2.1 b 3)) a 4 (h.2.2.1 b 4)) a 5 (h.2.2.1 b 5)) a 6 (h.2.2.1 b 6)) a 7 (h.2.2.1 b 7)) a 8 (h.2.2.1 b 8)) a 9 (h.2.2.1 b 9)) a 10 (h.2.1 b 10)) a 11 (h.2.1 b 11))) : Wp d 3 15 [some (.ref a), some (.ref b)] [] h Q := by
  refine Wp.seg 2 (pc1 := 17) (ls1 := [some (.ref a), some (.ref b)]) (st1 := [.ref b, .ref a]) rfl ?_
  refine Wp.gi (t := (1, 0)) rfl (cA_t hw hb) (Or.inl rfl) ?_
  refine Wp.pi (t := (1, 0)) rfl (cA_t hw ha) (Or.inl rfl) ?_
  refine Wp.seg 2 (pc1 := 25) (ls1 := [some (.ref a), some (.ref b)]) (st1 := [.ref b, .ref a]) rfl ?_
  refine Wp.gi (t := (1, 0)) rfl (cA_t hw hb) (Or.inl rfl) ?_
  rw [show (kwi h a 1 (h.2.2.1 b 1)).2.2.1 b 2 = h.2.2.1 b 2 from (kwi_b (by omega)).trans (rfl)]
  refine Wp.pi (t := (1, 0)) rfl (cA_t hw ha) (Or.inl rfl) ?_
  refine Wp.seg 2 (pc1 := 33) (ls1 := [some (.ref a), some (.ref b)]) (st1 := [.ref b, .ref a]) rfl ?_
  refine Wp.gi (t := (1, 0)) rfl (cA_t hw hb) (Or.inl rfl) ?_
  rw [show (kwi (kwi h a 1 (h.2.2.1 b 1)) a 2 (h.2.2.1 b 2)).2.2.1 b 3 = h.2.2.1 b 3 from (kwi_b (by omega)).trans ((kwi_b (by omega)).trans (rfl))]
  refine Wp.pi (t := (1, 0)) rfl (cA_t hw ha) (Or.inl rfl) ?_
  refine Wp.seg 2 (pc1 := 41) (ls1 := [some (.ref a), some (.ref b)]) (st1 := [.ref b, .ref a]) rfl ?_
  refine Wp.gi (t := (1, 0)) rfl (cA_t hw hb) (Or.inl rfl) ?_
  rw [show (kwi (kwi (kwi h a 1 (h.2.2.1 b 1)) a 2 (h.2.2.1 b 2)) a 3 (h.2.2.1 b 3)).2.2.1 b 4 = h.2.2.1 b 4 from (kwi_b (by omega)).trans ((kwi_b (by omega)).trans ((kwi_b (by omega)).trans (rfl)))]
  refine Wp.pi (t := (1, 0)) rfl (cA_t hw ha) (Or.inl rfl) ?_
  refine Wp.seg 2 (pc1 := 49) (ls1 := [some (.ref a), some (.ref b)]) (st1 := [.ref b, .ref a]) rfl ?_
  refine Wp.gi (t := (1, 0)) rfl (cA_t hw hb) (Or.inl rfl) ?_
  rw [show (kwi (kwi (kwi (kwi h a 1 (h.2.2.1 b 1)) a 2 (h.2.2.1 b 2)) a 3 (h.2.2.1 b 3)) a 4 (h.2.2.1 b 4)).2.2.1 b 5 = h.2.2.1 b 5 from (kwi_b (by omega)).trans ((kwi_b (by omega)).trans ((kwi_b (by omega)).trans ((kwi_b (by omega)).trans (rfl))))]
  refine Wp.pi (t := (1, 0)) rfl (cA_t hw ha) (Or.inl rfl) ?_
  refine Wp.seg 2 (pc1 := 57) (ls1 := [some (.ref a), some (.ref b)]) (st1 := [.ref b, .ref a]) rfl ?_
  refine Wp.gi (t := (1, 0)) rfl (cA_t hw hb) (Or.inl rfl) ?_
  rw [show (kwi (kwi (kwi (kwi (kwi h a 1 (h.2.2.1 b 1)) a 2 (h.2.2.1 b 2)) a 3 (h.2.2.1 b 3)) a 4 (h.2.2.1 b 4)) a 5 (h.2.2.1 b 5)).2.2.1 b 6 = h.2.2.1 b 6 from (kwi_b (by omega)).trans ((kwi_b (by omega)).trans ((kwi_b (by omega)).trans ((kwi_b (by omega)).trans ((kwi_b (by omega)).trans (rfl)))))]
  refine Wp.pi (t := (1, 0)) rfl (cA_t hw ha) (Or.inl rfl) ?_
  refine Wp.seg 2 (pc1 := 65) (ls1 := [some (.ref a), some (.ref b)]) (st1 := [.ref b, .ref a]) rfl ?_
  refine Wp.gi (t := (1, 0)) rfl (cA_t hw hb) (Or.inl rfl) ?_
  rw [show (kwi (kwi (kwi (kwi (kwi (kwi h a 1 (h.2.2.1 b 1)) a 2 (h.2.2.1 b 2)) a 3 (h.2.2.1 b 3)) a 4 (h.2.2.1 b 4)) a 5 (h.2.2.1 b 5)) a 6 (h.2.2.1 b 6)).2.2.1 b 7 = h.2.2.1 b 7 from (kwi_b (by omega)).trans ((kwi_b (by omega)).trans ((kwi_b (by omega)).trans ((kwi_b (by omega)).trans ((kwi_b (by omega)).trans ((kwi_b (by omega)).trans (rfl))))))]
  refine Wp.pi (t := (1, 0)) rfl (cA_t hw ha) (Or.inl rfl) ?_
  refine Wp.seg 2 (pc1 := 73) (ls1 := [some (.ref a), some (.ref b)]) (st1 := [.ref b, .ref a]) rfl ?_
  refine Wp.gi (t := (1, 0)) rfl (cA_t hw hb) (Or.inl rfl) ?_
  rw [show (kwi (kwi (kwi (kwi (kwi (kwi (kwi h a 1 (h.2.2.1 b 1)) a 2 (h.2.2.1 b 2)) a 3 (h.2.2.1 b 3)) a 4 (h.2.2.1 b 4)) a 5 (h.2.2.1 b 5)) a 6 (h.2.2.1 b 6)) a 7 (h.2.2.1 b 7)).2.2.1 b 8 = h.2.2.1 b 8 from (kwi_b (by omega)).trans ((kwi_b (by omega)).trans ((kwi_b (by omega)).trans ((kwi_b (by omega)).trans ((kwi_b (by omega)).trans ((kwi_b (by omega)).trans ((kwi_b (by omega)).trans (rfl)))))))]
  refine Wp.pi (t := (1, 0)) rfl (cA_t hw ha) (Or.inl rfl) ?_
  refine Wp.seg 2 (pc1 := 81) (ls1 := [some (.ref a), some (.ref b)]) (st1 := [.ref b, .ref a]) rfl ?_
  refine Wp.gi (t := (1, 0)) rfl (cA_t hw hb) (Or.inl rfl) ?_
  rw [show (kwi (kwi (kwi (kwi (kwi (kwi (kwi (kwi h a 1 (h.2.2.1 b 1)) a 2 (h.2.2.1 b 2)) a 3 (h.2.2.1 b 3)) a 4 (h.2.2.1 b 4)) a 5 (h.2.2.1 b 5)) a 6 (h.2.2.1 b 6)) a 7 (h.2.2.1 b 7)) a 8 (h.2.2.1 b 8)).2.2.1 b 9 = h.2.2.1 b 9 from (kwi_b (by omega)).trans ((kwi_b (by omega)).trans ((kwi_b (by omega)).trans ((kwi_b (by omega)).trans ((kwi_b (by omega)).trans ((kwi_b (by omega)).trans ((kwi_b (by omega)).trans ((kwi_b (by omega)).trans (rfl))))))))]
  refine Wp.pi (t := (1, 0)) rfl (cA_t hw ha) (Or.inl rfl) ?_
  refine Wp.seg 2 (pc1 := 89) (ls1 := [some (.ref a), some (.ref b)]) (st1 := [.ref b, .ref a]) rfl ?_
  refine Wp.gr (t := (1, 0)) (v := h.2.1 b 10) rfl (cA_t hw hb) rfl rfl ?_
  show Wp d 3 92 [some (.ref a), some (.ref b)] [krv (h.2.1 b 10), .ref a] (kwi (kwi (kwi (kwi (kwi (kwi (kwi (kwi (kwi h a 1 (h.2.2.1 b 1)) a 2 (h.2.2.1 b 2)) a 3 (h.2.2.1 b 3)) a 4 (h.2.2.1 b 4)) a 5 (h.2.2.1 b 5)) a 6 (h.2.2.1 b 6)) a 7 (h.2.2.1 b 7)) a 8 (h.2.2.1 b 8)) a 9 (h.2.2.1 b 9)) Q
  refine Wp.pk (t := (1, 0)) rfl (cA_t hw ha) rfl ?_
  refine Wp.seg 2 (pc1 := 97) (ls1 := [some (.ref a), some (.ref b)]) (st1 := [.ref b, .ref a]) rfl ?_
  refine Wp.gr (t := (1, 0)) (v := h.2.1 b 11) rfl (cA_t hw hb) rfl (kwr_b (by omega)) ?_
  show Wp d 3 100 [some (.ref a), some (.ref b)] [krv (h.2.1 b 11), .ref a] (kwr (kwi (kwi (kwi (kwi (kwi (kwi (kwi (kwi (kwi h a 1 (h.2.2.1 b 1)) a 2 (h.2.2.1 b 2)) a 3 (h.2.2.1 b 3)) a 4 (h.2.2.1 b 4)) a 5 (h.2.2.1 b 5)) a 6 (h.2.2.1 b 6)) a 7 (h.2.2.1 b 7)) a 8 (h.2.2.1 b 8)) a 9 (h.2.2.1 b 9)) a 10 (h.2.1 b 10)) Q
  refine Wp.pk (t := (1, 0)) rfl (cA_t hw ha) rfl ?_
  exact Wp.retv rfl rfl hQ
def cpH (h : KH) (a b : Nat) : KH := kwr (kwr (kwi (kwi (kwi (kwi (kwi (kwi (kwi (kwi (kwi h a 1 (h.2.2.1 b 1)) a 2 (h.2.2.1 b 2)) a 3 (h.2.2.1 b 3)) a 4 (h.2.2.1 b 4)) a 5 (h.2.2.1 b 5)) a 6 (h.2.2.1 b 6)) a 7 (h.2.2.1 b 7)) a 8 (h.2.2.1 b 8)) a 9 (h.2.2.1 b 9)) a 10 (h.2.1 b 10)) a 11 (h.2.1 b 11)
theorem cpH_1 (h : KH) (a b : Nat) : (cpH h a b).2.2.1 a 1 = h.2.2.1 b 1 := (kwi_o (by decide)).trans ((kwi_o (by decide)).trans ((kwi_o (by decide)).trans ((kwi_o (by decide)).trans ((kwi_o (by decide)).trans ((kwi_o (by decide)).trans ((kwi_o (by decide)).trans ((kwi_o (by decide)).trans (kwi_s))))))))
theorem cpH_2 (h : KH) (a b : Nat) : (cpH h a b).2.2.1 a 2 = h.2.2.1 b 2 := (kwi_o (by decide)).trans ((kwi_o (by decide)).trans ((kwi_o (by decide)).trans ((kwi_o (by decide)).trans ((kwi_o (by decide)).trans ((kwi_o (by decide)).trans ((kwi_o (by decide)).trans (kwi_s)))))))
theorem cpH_3 (h : KH) (a b : Nat) : (cpH h a b).2.2.1 a 3 = h.2.2.1 b 3 := (kwi_o (by decide)).trans ((kwi_o (by decide)).trans ((kwi_o (by decide)).trans ((kwi_o (by decide)).trans ((kwi_o (by decide)).trans ((kwi_o (by decide)).trans (kwi_s))))))
theorem cpH_4 (h : KH) (a b : Nat) : (cpH h a b).2.2.1 a 4 = h.2.2.1 b 4 := (kwi_o (by decide)).trans ((kwi_o (by decide)).trans ((kwi_o (by decide)).trans ((kwi_o (by decide)).trans ((kwi_o (by decide)).trans (kwi_s)))))
theorem cpH_5 (h : KH) (a b : Nat) : (cpH h a b).2.2.1 a 5 = h.2.2.1 b 5 := (kwi_o (by decide)).trans ((kwi_o (by decide)).trans ((kwi_o (by decide)).trans ((kwi_o (by decide)).trans (kwi_s))))
theorem cpH_6 (h : KH) (a b : Nat) : (cpH h a b).2.2.1 a 6 = h.2.2.1 b 6 := (kwi_o (by decide)).trans ((kwi_o (by decide)).trans ((kwi_o (by decide)).trans (kwi_s)))
theorem cpH_7 (h : KH) (a b : Nat) : (cpH h a b).2.2.1 a 7 = h.2.2.1 b 7 := (kwi_o (by decide)).trans ((kwi_o (by decide)).trans (kwi_s))
theorem cpH_8 (h : KH) (a b : Nat) : (cpH h a b).2.2.1 a 8 = h.2.2.1 b 8 := (kwi_o (by decide)).trans (kwi_s)
theorem cpH_9 (h : KH) (a b : Nat) : (cpH h a b).2.2.1 a 9 = h.2.2.1 b 9 := kwi_s
theorem cpH_r (h : KH) {a b c : Nat} (hc : c ≠ a) : (cpH h a b).2.2.1 c = h.2.2.1 c := (kwi_r hc).trans ((kwi_r hc).trans ((kwi_r hc).trans ((kwi_r hc).trans ((kwi_r hc).trans ((kwi_r hc).trans ((kwi_r hc).trans ((kwi_r hc).trans ((kwi_r hc).trans (rfl)))))))))
theorem cpH_f (h : KH) (a b : Nat) (hb : b ≠ a) : (cpH h a b).2.1 a 10 = h.2.1 b 10 ∧ (cpH h a b).2.1 a 11 = h.2.1 b 11 ∧ ∀ c i, (c ≠ a ∨ (i ≠ 10 ∧ i ≠ 11)) → (cpH h a b).2.1 c i = h.2.1 c i := by
  refine ⟨(kwr_o (by decide)).trans kwr_s, kwr_s, fun c i hc => ?_⟩
  by_cases q : c = a
  · subst q
    have hc2 := hc.resolve_left (fun z => z rfl)
    exact (kwr_o hc2.2).trans (kwr_o hc2.1)
  · exact (kwr_b q).trans (kwr_b q)
theorem cA_dis {a b : Nat} (ha : cityA a) (hb : cityA b) (hab : a ≠ b) : a + 2 < b ∨ b + 2 < a := by
  simp only [cityA, List.mem_cons, List.not_mem_nil, or_false] at ha hb
  rcases ha with rfl | rfl | rfl | rfl | rfl | rfl | rfl | rfl <;> omega
/-- a city becomes as another one is -/
theorem s_copy {d : Nat} {Q : KO → Prop} {h : KH} (hw : WF h) {a b : Nat} (ha : cityA a) (hb : cityA b) (hab : a ≠ b) (hd : 1 ≤ d)
    (hQ : ∀ k, Fr (pC a) (fun c => c = a) h k → nrm (cS k.2.2.1 a) = nrm (cS h.2.2.1 b) → k.2.1 a 10 = h.2.1 b 10 → k.2.1 a 11 = h.2.1 b 11 → Q (none, k)) : Cl d 3 [.ref a, .ref b] h Q := by
  have hdis := cA_dis ha hb hab
  refine t_cpA hw ha hb hd (t_cpB (h := hI h (ku h.2.2.1 (a + 1) (va_cpy (h.2.2.1 (b + 1)) (h.2.2.1 (a + 1)) 0 0 24))) hw ha hb hab (Nat.zero_le _) ?_)
  have hq : ∀ G : KH, G = hI h (ku h.2.2.1 (a + 1) (va_cpy (h.2.2.1 (b + 1)) (h.2.2.1 (a + 1)) 0 0 24)) → Q (none, cpH G a b) := by
    intro G hG
    have g1 : G.1 = h.1 := by rw [hG]; rfl
    have g2 : G.2.1 = h.2.1 := by rw [hG]; rfl
    have g3 : G.2.2.2 = h.2.2.2 := by rw [hG]; rfl
    have g4 : ∀ c, c ≠ a + 1 → G.2.2.1 c = h.2.2.1 c := fun c hc => by rw [hG]; exact ku_n _ _ hc
    have g5 : G.2.2.1 (a + 1) = va_cpy (h.2.2.1 (b + 1)) (h.2.2.1 (a + 1)) 0 0 24 := by rw [hG]; exact ku_s _ _ _
    have f := cpH_f G a b (Ne.symm hab)
    rw [g2] at f
    refine hQ _ ⟨g1, g3, fun c hc => ?_, fun c i hc => f.2.2 c i ?_⟩ (agr_nrm (fun m hm => ?_)) f.1 f.2.1
    · unfold pC at hc
      have ha26 := cA_le ha
      rw [cpH_r G (by omega), g4 c (by omega)]
    · have ha26 := cA_le ha
      rcases hc with (hc | hc) | hc
      · exact Or.inl hc
      · exact Or.inl (by omega)
      · exact Or.inr hc
    · have gb : G.2.2.1 b = h.2.2.1 b := g4 b (by omega)
      rcases hm with hm | ⟨hm1, hm2⟩
      · match m, hm with
        | 0, _ => exact (cpH_6 G a b).trans (by rw [gb]; rfl)
        | 1, _ => exact (cpH_7 G a b).trans (by rw [gb]; rfl)
        | 2, _ => exact (cpH_2 G a b).trans (by rw [gb]; rfl)
        | 3, _ => exact (cpH_3 G a b).trans (by rw [gb]; rfl)
        | 4, _ => exact (cpH_4 G a b).trans (by rw [gb]; rfl)
        | 5, _ => exact (cpH_5 G a b).trans (by rw [gb]; rfl)
        | 6, _ => exact (cpH_8 G a b).trans (by rw [gb]; rfl)
        | 7, _ => exact (cpH_9 G a b).trans (by rw [gb]; rfl)
        | 8, _ => exact (cpH_1 G a b).trans (by rw [gb]; rfl)
        | m + 9, hm => omega
      · obtain ⟨j, rfl⟩ : ∃ j, m = 11 + j := ⟨m - 11, by omega⟩
        rw [cS_hand, cS_hand, cpH_r G (by omega), g5]
        unfold va_cpy
        rw [if_pos (by omega), show 0 + (j - 0) = j by omega]
  exact hq _ rfl
/-- so it is a copy of what the other holds -/
theorem copy_ok {h k : KH} {a b n c dn en : Nat} {P R : Nat → Prop} {A : Nat → Int32} {RL : List Rul} (hk : cityOK h b A RL n c dn en) (f : Fr P R h k) (e1 : nrm (cS k.2.2.1 a) = nrm (cS h.2.2.1 b)) (e2 : k.2.1 a 10 = h.2.1 b 10) : cityOK k a A RL n c dn en := by
  obtain ⟨k1, k2, RLc, k3, k4⟩ := hk
  refine ⟨e1.trans k1, okS_agr (fun m hm => ?_) k2, RLc, crul_fr f e2 k3, k4⟩
  have := congrFun e1 m
  unfold nrm at this
  rw [if_pos hm, if_pos hm] at this
  exact this.symm
/-- a city that is left as it was -/
theorem city_fr {h k : KH} {a n c dn en : Nat} {P R : Nat → Prop} {A : Nat → Int32} {RL : List Rul} (hk : cityOK h a A RL n c dn en) (f : Fr P R h k) (p0 : ¬ P a) (p1 : ¬ P (a + 1)) (p2 : ¬ R a) : cityOK k a A RL n c dn en := by
  refine copy_ok hk f ?_ (f.2.2.2 a 10 (Or.inl (Or.inl p2)))
  rw [cS_fr (f.2.2.1 a (Or.inl p0)) (f.2.2.1 (a + 1) (Or.inl p1))]
