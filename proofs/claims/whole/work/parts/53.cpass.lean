/-! KM: the class, a dusk goes by -/
theorem cS_fr {I J : Nat → Nat → Int32} {a : Nat} (h0 : I a = J a) (h1 : I (a + 1) = J (a + 1)) : cS I a = cS J a := by
  funext m
  unfold cS
  rw [h0, h1]
theorem cS_fr2 {I J : Nat → Nat → Int32} {a : Nat} (h : ∀ b, b ≠ a + 2 → I b = J b) : cS I a = cS J a := cS_fr (h a (by omega)) (h (a + 1) (by omega))
def wl3 (RL : List Rul) : Prop := ∀ r ∈ RL, r.2.1 = 0 ∨ r.2.1 = 1 ∨ r.2.1 = 2
theorem will3 {K : Int32} {f : Int32 → Int32} : ∀ {RL : List Rul}, wl3 RL → willR K f RL = 0 ∨ willR K f RL = 1 ∨ willR K f RL = 2
  | [], _ => Or.inl rfl
  | (kd, wl, P) :: rest, h => by
    have h1 : wl = 0 ∨ wl = 1 ∨ wl = 2 := h _ (List.mem_cons_self ..)
    have h2 := will3 (K := K) (f := f) (RL := rest) (fun r hr => h r (List.mem_cons_of_mem _ hr))
    unfold willR
    split
    · exact h2
    · split
      · exact h1
      · exact h2
theorem rulCR_wl3 {I : Nat → Nat → Int32} {o L : Nat} : ∀ {RL : List Rul} {r b : Nat}, rulCR I o L r b RL → wl3 RL
  | [], _, _, _ => fun r hr => by cases hr
  | (kd, wl, P) :: rest, r, b, hl => by
    obtain ⟨l1, l2, ⟨e, l3, l4, l5, l6⟩, l7, l8, l9⟩ := hl
    intro x hx
    rcases List.mem_cons.mp hx with rfl | hx
    · exact l9
    · exact rulCR_wl3 l6 x hx
theorem crul_wl3 {h : KH} {a : Nat} {RL : List Rul} (hR : crul h a RL) : wl3 RL := by
  rcases hR with ⟨-, rfl⟩ | ⟨o, -, L, -, -, -, hl⟩
  · exact fun r hr => by cases hr
  · exact rulCR_wl3 hl
/-- one acts, or none -/
def actX (S : Nat → Int32) (RL : List Rul) (t : Int32) : Nat → Int32 :=
  if t < 0 then S else actS S (willS S RL t.toNatClampNeg) (stE (f_strokesOf S t.toNatClampNeg) (S (11 + 4 * t.toNatClampNeg + 1)).toNatClampNeg) t.toNatClampNeg
theorem goS_e (S : Nat → Int32) (RL : List Rul) (n : Nat) (t : Int32) : goS S RL n t = tailS (actX (walkL n 0 S) RL t) := by
  unfold goS actedS actX
  rfl
theorem goW_e (S : Nat → Int32) (RL : List Rul) (n : Nat) (t : Int32) : goW S RL n t = worthS (actX (walkL n 0 S) RL t) := by
  unfold goW actedS actX
  rfl
theorem actX_g {S : Nat → Int32} {RL : List Rul} {g c : Nat} (hg : g < 6) (hcc : c < 12) (hc : S (11 + 4 * g + 1) = Int32.ofNat c) : actX S RL (Int32.ofNat g) = actS S (willS S RL g) (stE (f_strokesOf S g) c) g := by
  have hlt : ¬ Int32.ofNat g < 0 := fun c => by
    have := (zlt (n := 0) (znat (n := g) (by omega)) rfl).mp c
    omega
  unfold actX
  rw [if_neg hlt, clamp_ofNat (by omega), hc, clamp_ofNat (by omega)]
set_option maxHeartbeats 4000000 in
theorem t_setA {d : Nat} {Q : KO → Prop} {h : KH} (hw : WF h) {a : Nat} (ha : cityA a) {g n c : Nat} {RL : List Rul} (hn6 : n ≤ 6) (hgn : g < n) (hn : g < 6) (h1 : h.2.2.1 a 1 = Int32.ofNat n) (hh : handOK (cS h.2.2.1 a) g) (hcc : c < 12) (hc : cS h.2.2.1 a (11 + 4 * g + 1) = Int32.ofNat c) (hR : crul h a RL) (hwv : willS (cS h.2.2.1 a) RL g = 0 ∨ willS (cS h.2.2.1 a) RL g = 1 ∨ willS (cS h.2.2.1 a) RL g = 2) (hd : 3 ≤ d) (hQ : ∀ I : Nat → Nat → Int32, (∀ b, b ≠ a + 2 → I b = h.2.2.1 b) → (∀ J : Nat → Nat → Int32, cS J a = actS (cS I a) (willS (cS h.2.2.1 a) RL g) (stE (f_strokesOf (cS I a) g) c) g → (∀ b, b ≠ a → b ≠ a + 1 → J b = I b) → (Wp d 15 22 ([some (.ref a), some (.int (Int32.ofNat g)), none]) [] (hI h J) Q))) : Cl d 15 [.ref a, .int (Int32.ofNat g)] h Q := by
  refine Cl.of (ls := [some (.ref a), some (.int (Int32.ofNat g)), none]) rfl rfl ?_
  refine Wp.seg 1 (pc1 := 1) (ls1 := [some (.ref a), some (.int (Int32.ofNat g)), none]) (st1 := [.int (Int32.ofNat g)]) rfl ?_
  refine Wp.if1 rfl (fun c1 => absurd c1 (fun c => by have := (zlt (n := 0) (znat (n := g) (by omega)) rfl).mp c; omega)) (fun c1 => ?_)
  refine Wp.seg 2 (pc1 := 6) (ls1 := [some (.ref a), some (.int (Int32.ofNat g)), none]) (st1 := [.ref a, .int (Int32.ofNat g)]) rfl ?_
  refine Wp.gi (t := (1, 0)) rfl (cA_t hw ha) (Or.inl rfl) ?_
  rw [show h.2.2.1 a 1 = Int32.ofNat n from h1]
  refine Wp.if2 rfl (fun c2 => absurd c2 (fun c => by have := (ole (by omega) (by omega)).mp c; omega)) (fun c2 => ?_)
  refine Wp.seg 4 (pc1 := 16) (ls1 := [some (.ref a), some (.int (Int32.ofNat g)), none]) (st1 := [.int (Int32.ofNat g), .ref a, .int (Int32.ofNat g), .ref a]) rfl ?_
  refine Wp.invV (d2 := 2) (as := [.ref a, .int (Int32.ofNat g)]) (r := [.int (Int32.ofNat g), .ref a]) (t := (1, 0)) rfl rfl rfl rfl (cA_t hw ha) rfl rfl ⟨rfl, rfl⟩ (by omega) (s_will hw ha hn hh hR (Nat.le_refl _) ?_)
  intro I i1
  show Wp d 15 19 [some (.ref a), some (.int (Int32.ofNat g)), none] [.int (willS (cS h.2.2.1 a) RL g), .int (Int32.ofNat g), .ref a] (hI h I) Q
  refine Wp.invV (d2 := 2) (as := [.ref a, .int (Int32.ofNat g), .int (willS (cS h.2.2.1 a) RL g)]) (r := []) (t := (1, 0)) rfl rfl rfl rfl (cA_t hw ha) rfl rfl ⟨rfl, rfl⟩ (by omega) (s_obey (h := hI h I) hw ha hn (Nat.le_refl _) (by show handOK (cS I a) g; rw [cS_fr2 i1]; exact hh) hcc (by show cS I a _ = _; rw [cS_fr2 i1]; exact hc) hwv ?_)
  intro J j1 j2
  show Wp d 15 22 [some (.ref a), some (.int (Int32.ofNat g)), none] [] (hI h J) Q
  exact ((hQ I i1) J j1 j2)
set_option maxHeartbeats 4000000 in
theorem t_setX {d : Nat} {Q : KO → Prop} {h : KH} {a : Nat} {t : Int32} (ht : t < 0) (hd : 0 ≤ d) (hQ : Wp d 15 22 ([some (.ref a), some (.int (t)), none]) [] h Q) : Cl d 15 [.ref a, .int (t)] h Q := by
  refine Cl.of (ls := [some (.ref a), some (.int (t)), none]) rfl rfl ?_
  refine Wp.seg 1 (pc1 := 1) (ls1 := [some (.ref a), some (.int (t)), none]) (st1 := [.int (t)]) rfl ?_
  refine Wp.if1 rfl (fun c1 => ?_) (fun c1 => absurd (ht) c1)
  exact hQ
/-- the city as it should be -/
def okS (S : Nat → Int32) (n c dn en : Nat) : Prop := n ≤ 6 ∧ S 8 = Int32.ofNat n ∧ c < 12 ∧ S 2 = Int32.ofNat c ∧ S 1 = Int32.ofNat dn ∧ S 0 = Int32.ofNat en ∧ dn ≤ en ∧ 1 ≤ en ∧ en ≤ 16 ∧ ∀ j, j < n → handOK S j
def okT (n : Nat) (t : Int32) : Prop := t < 0 ∨ ∃ g, g < n ∧ t = Int32.ofNat g
theorem actX_out {S : Nat → Int32} {RL : List Rul} {n : Nat} {t : Int32} (ht : okT n t) (hn : n ≤ 6) {m : Nat} (h3 : m ≠ 3) (hm : m < 11 ∨ 35 ≤ m) : actX S RL t m = S m := by
  rcases ht with ht | ⟨g, hg, rfl⟩
  · unfold actX
    rw [if_pos ht]
  · have hlt : ¬ Int32.ofNat g < 0 := fun c => by
      have := (zlt (n := 0) (znat (n := g) (by omega)) rfl).mp c
      omega
    unfold actX
    rw [if_neg hlt, clamp_ofNat (by omega)]
    exact act_out h3 (by omega)
theorem s_settle {d : Nat} {Q : KO → Prop} {h : KH} (hw : WF h) {a n c dn en : Nat} {t : Int32} {RL : List Rul} (ha : cityA a) (hd : 3 ≤ d) (hok : okS (cS h.2.2.1 a) n c dn en) (hR : crul h a RL) (ht : okT n t)
    (hQ : ∀ I : Nat → Nat → Int32, cS I a = tailS (actX (cS h.2.2.1 a) RL t) → (∀ b, b ≠ a → b ≠ a + 1 → b ≠ a + 2 → I b = h.2.2.1 b) → Q (some (.int (shutS (cS h.2.2.1 a 2) (rainL (actX (cS h.2.2.1 a) RL t)))), hI h I)) : Cl d 15 [.ref a, .int t] h Q := by
  obtain ⟨o1, o2, o3, o4, o5, o6, o7, o8, o9, o10⟩ := hok
  have x2 : actX (cS h.2.2.1 a) RL t 2 = Int32.ofNat c := by rw [actX_out ht o1 (by decide) (Or.inl (by decide))]; exact o4
  have x1 : actX (cS h.2.2.1 a) RL t 1 = Int32.ofNat dn := by rw [actX_out ht o1 (by decide) (Or.inl (by decide))]; exact o5
  rw [o4] at hQ
  rcases ht with ht | ⟨g, hg, rfl⟩
  · have ea : actX (cS h.2.2.1 a) RL t = cS h.2.2.1 a := if_pos ht
    rw [ea] at hQ
    refine t_setX ht (Nat.zero_le _) (s_setT hw ha hd o3 o4 (dn := dn) (by omega) o5 (fun I i1 i2 => ?_))
    rw [o4]
    exact hQ I i1 (fun b b1 b2 b3 => i2 b b1)
  · have hg6 : g < 6 := by omega
    obtain ⟨kk, c2, f, ch, g1, g2, g3, g4, g5, g6, g7, g8, g9⟩ := o10 g hg
    have ea := actX_g (S := cS h.2.2.1 a) (RL := RL) hg6 g3 g7
    rw [ea] at hQ x1 x2
    refine t_setA hw ha o1 hg hg6 o2 (o10 g hg) g3 g7 hR (will3 (crul_wl3 hR)) hd (fun I i1 J j1 j2 => ?_)
    have ei : cS I a = cS h.2.2.1 a := cS_fr2 i1
    rw [ei] at j1
    refine s_setT (h := hI h J) hw ha hd o3 (by show cS J a 2 = _; rw [j1]; exact x2) (dn := dn) (by omega) (by show cS J a 1 = _; rw [j1]; exact x1) (fun K k1 k2 => ?_)
    have k1' : cS K a = tailS (cS J a) := k1
    have hv : (cS (hI h J).2.2.1 a) = cS J a := rfl
    rw [hv, j1, x2]
    refine hQ K (by rw [k1', j1]) (fun b b1 b2 b3 => ?_)
    rw [k2 b b1]
    show J b = _
    rw [j2 b b1 b2, i1 b b3]
theorem walkL_okS {S : Nat → Int32} {n c dn en : Nat} (h : okS S n c dn en) : okS (walkL n 0 S) n c dn en := by
  obtain ⟨o1, o2, o3, o4, o5, o6, o7, o8, o9, o10⟩ := h
  exact ⟨o1, by rw [walkL_out _ _ _ _ (by omega)]; exact o2, o3, by rw [walkL_out _ _ _ _ (by omega)]; exact o4, by rw [walkL_out _ _ _ _ (by omega)]; exact o5, by rw [walkL_out _ _ _ _ (by omega)]; exact o6, o7, o8, o9, fun j hj => walkL_ok n 0 S j (o10 j hj)⟩
theorem crul_hI {h : KH} {I : Nat → Nat → Int32} {a : Nat} {RL : List Rul} (h2 : ∀ b, 75 ≤ b → I b = h.2.2.1 b) (hR : crul h a RL) : crul (hI h I) a RL := by
  rcases hR with h1 | ⟨o, hr, L, hO, hq, hq8, hl⟩
  · exact Or.inl h1
  · have ho : 75 ≤ o := hO.2.2.2.2.2.2.2.2.2.1
    exact Or.inr ⟨o, hr, L, hO, by show I o 4 = _; rw [h2 o ho]; exact hq, hq8, rulCR_congr (fun j hj => h2 (o + j) (by omega)) RL 0 0 hl⟩
set_option maxHeartbeats 4000000 in
theorem t_cpass {d : Nat} {Q : KO → Prop} {h : KH} (hw : WF h) {a : Nat} (ha : cityA a) {n c dn en : Nat} {t : Int32} {RL : List Rul} (ha26 : a ≤ 26 ∧ 1 ≤ a) (hok : okS (cS h.2.2.1 a) n c dn en) (hR : crul h a RL) (ht : okT n t) (hd : 4 ≤ d) (hQ : ∀ I : Nat → Nat → Int32, cS I a = walkL n 0 (cS h.2.2.1 a) → (∀ b, b ≠ a + 1 → I b = h.2.2.1 b) → (∀ J : Nat → Nat → Int32, cS J a = tailS (actX (cS I a) RL t) → (∀ b, b ≠ a → b ≠ a + 1 → b ≠ a + 2 → J b = I b) → (Q (some (.int (f_bitCount (shutS (cS I a 2) (rainL (actX (cS I a) RL t))))), hI h J)))) : Cl d 10 [.ref a, .int (t)] h Q := by
  refine Cl.of (ls := [some (.ref a), some (.int (t))]) rfl rfl ?_
  refine Wp.seg 1 (pc1 := 1) (ls1 := [some (.ref a), some (.int (t))]) (st1 := [.ref a]) rfl ?_
  refine Wp.invV (d2 := 1) (as := [.ref a]) (r := []) (t := (1, 0)) rfl rfl rfl rfl (cA_t hw ha) rfl rfl ⟨rfl, rfl⟩ (by omega) (s_cwalk hw ha (Nat.le_refl _) hok.1 hok.2.1 hok.2.2.2.2.2.2.2.2.2 ?_)
  intro I i1 i2
  show Wp d 10 4 [some (.ref a), some (.int (t))] [] (hI h I) Q
  refine Wp.seg 2 (pc1 := 6) (ls1 := [some (.ref a), some (.int (t))]) (st1 := [.int (t), .ref a]) rfl ?_
  refine Wp.invV (d2 := 3) (as := [.ref a, .int (t)]) (r := []) (t := (1, 0)) rfl rfl rfl rfl (cA_t hw ha) rfl rfl ⟨rfl, rfl⟩ (by omega) (s_settle (h := hI h I) hw ha (Nat.le_refl _) (by show okS (cS I a) n c dn en; rw [i1]; exact walkL_okS hok) (crul_hI (fun b hb => i2 b (by omega)) hR) ht ?_)
  intro J j1 j2
  show Wp d 10 9 [some (.ref a), some (.int (t))] [.int (shutS (cS I a 2) (rainL (actX (cS I a) RL t)))] (hI h J) Q
  refine Wp.inv (d2 := 0) (as := [.int (shutS (cS I a 2) (rainL (actX (cS I a) RL t)))]) (r := []) rfl rfl rfl rfl rfl rfl (by omega) (s_bitCount (Nat.le_refl _) ?_)
  show Wp d 10 12 [some (.ref a), some (.int (t))] [.int (f_bitCount (shutS (cS I a 2) (rainL (actX (cS I a) RL t))))] (hI h J) Q
  exact Wp.reti rfl rfl ((hQ I i1 i2) J j1 j2)
theorem s_cpass {d : Nat} {Q : KO → Prop} {h : KH} (hw : WF h) {a n c dn en : Nat} {t : Int32} {RL : List Rul} (ha : cityA a) (hd : 4 ≤ d) (hok : okS (cS h.2.2.1 a) n c dn en) (hR : crul h a RL) (ht : okT n t)
    (hQ : ∀ I : Nat → Nat → Int32, cS I a = goS (cS h.2.2.1 a) RL n t → (∀ b, b ≠ a → b ≠ a + 1 → b ≠ a + 2 → I b = h.2.2.1 b) → Q (some (.int (goW (cS h.2.2.1 a) RL n t)), hI h I)) : Cl d 10 [.ref a, .int t] h Q := by
  have ha26 := cA_le ha
  refine t_cpass hw ha ha26 hok hR ht hd (fun I i1 i2 J j1 j2 => ?_)
  rw [i1] at j1 ⊢
  have e2 : walkL n 0 (cS h.2.2.1 a) 2 = actX (walkL n 0 (cS h.2.2.1 a)) RL t 2 := (actX_out ht hok.1 (by decide) (Or.inl (by decide))).symm
  rw [e2, pop_shut]
  refine hQ J (by rw [goS_e]; exact j1) (fun b b1 b2 b3 => ?_) 
  rw [j2 b b1 b2 b3, i2 b b2]
