/-! a city by itself: what both sides keep of it, and a dusk of it -/
/-- the numbers that both sides keep -/
def nrm (S : Nat → Int32) : Nat → Int32 := fun m => if m < 9 ∨ (11 ≤ m ∧ m < 35) then S m else 0
def agr (S T : Nat → Int32) : Prop := ∀ m, (m < 9 ∨ (11 ≤ m ∧ m < 35)) → S m = T m
theorem nrm_agr (S : Nat → Int32) : agr (nrm S) S := fun m hm => if_pos hm
theorem agr_nrm {S T : Nat → Int32} (h : agr S T) : nrm S = nrm T := by
  funext m
  unfold nrm
  split
  · rename_i q; exact h m q
  · rfl
theorem nrm_get {S A : Nat → Int32} (h : nrm S = A) : agr S A := fun m hm => by rw [← h]; exact (nrm_agr S m hm).symm
theorem nrm_nrm (S : Nat → Int32) : nrm (nrm S) = nrm S := agr_nrm (nrm_agr S)
theorem agr_ku {S T : Nat → Int32} (h : agr S T) (j : Nat) (x : Int32) : agr (ku S j x) (ku T j x) := by
  intro m hm
  by_cases q : m = j
  · subst q; rw [ku_s, ku_s]
  · rw [ku_n _ _ q, ku_n _ _ q]; exact h m hm
theorem agr_walk {S T : Nat → Int32} (h : agr S T) {n : Nat} (hn : n < 6) : agr (walkS S n) (walkS T n) := by
  have e0 := h (11 + 4 * n + 0) (by omega)
  have e1 := h (11 + 4 * n + 1) (by omega)
  have e2 := h (11 + 4 * n + 2) (by omega)
  have e3 := h 3 (by omega)
  unfold walkS wjS
  rw [e0, e1, e2, e3]
  split
  · exact agr_ku h _ _
  · exact agr_ku h _ _
theorem agr_walkL : ∀ (k i : Nat) {S T : Nat → Int32}, agr S T → i + k ≤ 6 → agr (walkL k i S) (walkL k i T)
  | 0, _, _, _, h, _ => h
  | k + 1, i, _, _, h, hk => agr_walkL k (i + 1) (agr_walk h (by omega)) (by omega)
theorem agr_fact {S T : Nat → Int32} (h : agr S T) {n : Nat} (hn : n < 6) : f_factOf S n = f_factOf T n := by
  funext v
  unfold f_factOf
  rw [h (11 + 4 * n + 3) (by omega), h (11 + 4 * n + 2) (by omega), h (11 + 4 * n + 1) (by omega), h 1 (by omega)]
theorem agr_will {S T : Nat → Int32} (h : agr S T) {n : Nat} (hn : n < 6) (RL : List Rul) : willS S RL n = willS T RL n := by
  unfold willS
  rw [agr_fact h hn, h (11 + 4 * n + 0) (by omega)]
theorem agr_act {S T : Nat → Int32} (h : agr S T) {n : Nat} (hn : n < 6) (w E : Int32) : agr (actS S w E n) (actS T w E n) := by
  have e0 := h (11 + 4 * n + 0) (by omega)
  have e3 := h (11 + 4 * n + 3) (by omega)
  have er : f_doesRub S n = f_doesRub T n := by unfold f_doesRub; rw [e0]
  have ec : f_costsOf S n = f_costsOf T n := by unfold f_costsOf; rw [e0]
  unfold actS
  rw [er, ec, e3, h 3 (by omega)]
  split
  · exact agr_ku h _ _
  · split
    · exact agr_ku (agr_ku h _ _) _ _
    · exact h
theorem agr_actX {S T : Nat → Int32} (h : agr S T) {n : Nat} (hn : n ≤ 6) (RL : List Rul) {t : Int32} (ht : okT n t) : agr (actX S RL t) (actX T RL t) := by
  rcases ht with ht | ⟨g, hg, rfl⟩
  · unfold actX
    rw [if_pos ht, if_pos ht]
    exact h
  · have hlt : ¬ Int32.ofNat g < 0 := fun c => by
      have := (zlt (n := 0) (znat (n := g) (by omega)) rfl).mp c
      omega
    have hg6 : g < 6 := by omega
    have es : f_strokesOf S g = f_strokesOf T g := by rw [g_strokesOf_eq, g_strokesOf_eq, h (11 + 4 * g + 0) (by omega), h (11 + 4 * g + 2) (by omega)]
    unfold actX
    rw [if_neg hlt, if_neg hlt, clamp_ofNat (by omega), agr_will h hg6, es, h (11 + 4 * g + 1) (by omega)]
    exact agr_act h hg6 _ _
theorem agr_rain {S T : Nat → Int32} (h : agr S T) : rainL S = rainL T := by
  unfold rainL
  rw [h 5 (by omega), h 1 (by omega), h 3 (by omega), h 4 (by omega)]
theorem agr_worth {S T : Nat → Int32} (h : agr S T) : worthS S = worthS T := by
  unfold worthS
  rw [agr_rain h, h 2 (by omega)]
theorem agr_tail {S T : Nat → Int32} (h : agr S T) : agr (tailS S) (tailS T) := by
  unfold tailS
  rw [agr_rain h, agr_worth h, h 6 (by omega), h 1 (by omega)]
  exact agr_ku (agr_ku (agr_ku h _ _) _ _) _ _
theorem agr_go {S T : Nat → Int32} (h : agr S T) {n : Nat} (hn : n ≤ 6) (RL : List Rul) {t : Int32} (ht : okT n t) : agr (goS S RL n t) (goS T RL n t) ∧ goW S RL n t = goW T RL n t := by
  rw [goS_e, goS_e, goW_e, goW_e]
  have h1 := agr_actX (agr_walkL n 0 h (by omega)) hn RL ht
  exact ⟨agr_tail h1, agr_worth h1⟩
/-- rules that say the same -/
def eqRL (R T : List Rul) : Prop := (∀ K f, willR K f R = willR K f T) ∧ R.length = T.length
theorem eqRL_will {R T : List Rul} (h : eqRL R T) (S : Nat → Int32) (n : Nat) : willS S R n = willS S T n := h.1 _ _
theorem eqRL_go {R T : List Rul} (h : eqRL R T) (S : Nat → Int32) (n : Nat) (t : Int32) : goS S R n t = goS S T n t ∧ goW S R n t = goW S T n t := by
  have e : ∀ X, actX X R t = actX X T t := fun X => by
    unfold actX
    rw [eqRL_will h]
  rw [goS_e, goS_e, goW_e, goW_e, e]
  exact ⟨rfl, rfl⟩
/-- a dusk of what is kept -/
def nh (A : Nat → Int32) : Nat := (A 8).toNatClampNeg
def goA (RL : List Rul) (A : Nat → Int32) (t : Int32) : Nat → Int32 := nrm (goS A RL (nh A) t)
def wA (RL : List Rul) (A : Nat → Int32) (t : Int32) : Int32 := goW A RL (nh A) t
theorem nh_e {A : Nat → Int32} {n c dn en : Nat} (h : okS A n c dn en) : nh A = n := by
  unfold nh
  rw [h.2.1, clamp_ofNat (by have := h.1; omega)]
theorem handOK_agr {S T : Nat → Int32} (h : agr S T) {j : Nat} (hj : j < 6) (h1 : handOK S j) : handOK T j := by
  obtain ⟨kk, c, f, ch, g1, g2, g3, g4, g5, g6, g7, g8, g9⟩ := h1
  exact ⟨kk, c, f, ch, g1, g2, g3, g4, g5, by rw [← h _ (by omega)]; exact g6, by rw [← h _ (by omega)]; exact g7, by rw [← h _ (by omega)]; exact g8, by rw [← h _ (by omega)]; exact g9⟩
theorem okS_agr {S T : Nat → Int32} (h : agr S T) {n c dn en : Nat} (hk : okS S n c dn en) : okS T n c dn en := by
  obtain ⟨o1, o2, o3, o4, o5, o6, o7, o8, o9, o10⟩ := hk
  exact ⟨o1, by rw [← h 8 (by omega)]; exact o2, o3, by rw [← h 2 (by omega)]; exact o4, by rw [← h 1 (by omega)]; exact o5, by rw [← h 0 (by omega)]; exact o6, o7, o8, o9, fun j hj => handOK_agr h (by omega) (o10 j hj)⟩
theorem okS_nrm {S : Nat → Int32} {n c dn en : Nat} (hk : okS S n c dn en) : okS (nrm S) n c dn en := okS_agr (fun m hm => ((nrm_agr S) m hm).symm) hk
theorem costs_ok (S : Nat → Int32) (n : Nat) : ∃ k : Nat, k ≤ 3 ∧ f_costsOf S n = Int32.ofNat k := by
  unfold f_costsOf
  repeat' split
  · exact ⟨2, by decide, rfl⟩
  · exact ⟨3, by decide, rfl⟩
  · exact ⟨2, by decide, rfl⟩
  · exact ⟨0, by decide, rfl⟩
  · exact ⟨0, by decide, rfl⟩
  · exact ⟨1, by decide, rfl⟩
theorem act_ok {S : Nat → Int32} {w E : Int32} {g j : Nat} (hg : handOK S g) (h : handOK S j) : handOK (actS S w E g) j := by
  unfold actS
  split
  · exact handOK_other (j := 0) (by omega) h
  · split
    · rename_i q
      refine handOK_other (j := 0) (by omega) ?_
      by_cases e : j = g
      · subst e
        obtain ⟨kk, c, f, ch, g1, g2, g3, g4, g5, g6, g7, g8, g9⟩ := h
        obtain ⟨k, hk, ek⟩ := costs_ok S j
        have q2 := q.2
        rw [ek, g9] at q2
        have hle := (ole (by omega) (by omega)).mp q2
        refine ⟨kk, c, f, ch - k, g1, g2, g3, g4, by omega, ?_, ?_, ?_, ?_⟩
        · rw [ku_n _ _ (by omega)]; exact g6
        · rw [ku_n _ _ (by omega)]; exact g7
        · rw [ku_n _ _ (by omega)]; exact g8
        · rw [ku_s, ek, g9]
          exact zidx ((zs (znat (n := ch) (by omega)) (znat (n := k) (by omega)) (by omega)).trans (by omega))
      · exact handOK_other (j := 0) (by omega) h
    · exact h
theorem actX_ok {S : Nat → Int32} {RL : List Rul} {n : Nat} {t : Int32} (hn : n ≤ 6) (ht : okT n t) (h : ∀ j, j < n → handOK S j) : ∀ j, j < n → handOK (actX S RL t) j := by
  intro j hj
  rcases ht with ht | ⟨g, hg, rfl⟩
  · unfold actX
    rw [if_pos ht]
    exact h j hj
  · have hlt : ¬ Int32.ofNat g < 0 := fun c => by
      have := (zlt (n := 0) (znat (n := g) (by omega)) rfl).mp c
      omega
    unfold actX
    rw [if_neg hlt, clamp_ofNat (by omega)]
    exact act_ok (h g hg) (h j hj)
theorem tail_out {S : Nat → Int32} {m : Nat} (h3 : m ≠ 3) (h6 : m ≠ 6) (h1 : m ≠ 1) : tailS S m = S m := by
  unfold tailS
  rw [ku_n _ _ h1, ku_n _ _ h6, ku_n _ _ h3]
theorem go_okS {S : Nat → Int32} {RL : List Rul} {n c dn en : Nat} {t : Int32} (hk : okS S n c dn en) (ht : okT n t) (hlt : dn < en) : okS (goS S RL n t) n c (dn + 1) en := by
  have hw := walkL_okS hk
  obtain ⟨o1, o2, o3, o4, o5, o6, o7, o8, o9, o10⟩ := hw
  rw [goS_e]
  have x : ∀ m, m ≠ 3 → m ≠ 6 → m ≠ 1 → m < 11 → tailS (actX (walkL n 0 S) RL t) m = walkL n 0 S m := fun m h3 h6 h1 h11 => by
    rw [tail_out h3 h6 h1, actX_out ht o1 h3 (Or.inl h11)]
  refine ⟨o1, by rw [x 8 (by decide) (by decide) (by decide) (by decide)]; exact o2, o3, by rw [x 2 (by decide) (by decide) (by decide) (by decide)]; exact o4, ?_, by rw [x 0 (by decide) (by decide) (by decide) (by decide)]; exact o6, by omega, o8, o9, fun j hj => ?_⟩
  · unfold tailS
    rw [ku_s, actX_out ht o1 (by decide) (Or.inl (by decide)), o5]
    exact ofadd dn 1
  · unfold tailS
    exact handOK_other (j := 0) (by omega) (handOK_other (j := 0) (by omega) (handOK_other (j := 0) (by omega) (actX_ok o1 ht o10 j hj)))
theorem goA_okS {A : Nat → Int32} {RL : List Rul} {n c dn en : Nat} {t : Int32} (hk : okS A n c dn en) (ht : okT n t) (hlt : dn < en) : okS (goA RL A t) n c (dn + 1) en := by
  unfold goA
  rw [nh_e hk]
  exact okS_nrm (go_okS hk ht hlt)
theorem go_nrm {S A : Nat → Int32} (h : nrm S = A) {RL : List Rul} {n c dn en : Nat} {t : Int32} (hk : okS S n c dn en) (ht : okT n t) : nrm (goS S RL n t) = goA RL A t ∧ goW S RL n t = wA RL A t := by
  have hA : okS A n c dn en := by rw [← h]; exact okS_nrm hk
  have := agr_go (nrm_get h) hk.1 RL ht
  unfold goA wA
  rw [nh_e hA]
  exact ⟨agr_nrm this.1, this.2⟩
/-- the worth is 0 to 12 -/
theorem pop_4096 : kall1 4096 (fun n => decide (0 ≤ popS (Int32.ofNat n)) && decide (popS (Int32.ofNat n) ≤ 12)) = true := by decide +kernel
theorem worth_12 (S : Nat → Int32) : 0 ≤ worthS S ∧ worthS S ≤ 12 := by
  unfold worthS shutS
  obtain ⟨n, hn, e⟩ := and4095 (itS (rainL S) 12 (1 <<< (S 2 &&& 31)) ^^^ -1)
  rw [e]
  have := kall1_ok pop_4096 hn
  simpa using this
theorem wA_12 (RL : List Rul) (A : Nat → Int32) (t : Int32) : 0 ≤ wA RL A t ∧ wA RL A t ≤ 12 := by
  unfold wA
  rw [goW_e]
  exact worth_12 _
