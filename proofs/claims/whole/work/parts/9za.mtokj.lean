/-! KM: the reference: the tokens -/
/-- the tape as the reference has it -/
def tpM (h : KH) (T : List Nat) : Prop := T.length ≤ 200 ∧ (∀ b ∈ T, b < 256) ∧ h.2.2.1 59 5 = Int32.ofNat T.length ∧ ∀ i, i < T.length → h.2.2.1 63 i = Int32.ofNat (T.getD i 0)
/-- nothing but fields S of the model is other -/
def FQ (S : Nat → Prop) (h k : KH) : Prop := k.1 = h.1 ∧ k.2.1 = h.2.1 ∧ k.2.2.2 = h.2.2.2 ∧ (∀ a, a ≠ 59 → k.2.2.1 a = h.2.2.1 a) ∧ ∀ q, ¬ S q → k.2.2.1 59 q = h.2.2.1 59 q
theorem FQ.refl (S : Nat → Prop) (h : KH) : FQ S h h := ⟨rfl, rfl, rfl, fun _ _ => rfl, fun _ _ => rfl⟩
theorem FQ.trans {S : Nat → Prop} {h k l : KH} (f : FQ S h k) (g : FQ S k l) : FQ S h l := ⟨g.1.trans f.1, g.2.1.trans f.2.1, g.2.2.1.trans f.2.2.1, fun a ha => (g.2.2.2.1 a ha).trans (f.2.2.2.1 a ha), fun q hq => (g.2.2.2.2 q hq).trans (f.2.2.2.2 q hq)⟩
theorem FQ.mono {S S2 : Nat → Prop} {h k : KH} (f : FQ S h k) (m : ∀ q, S q → S2 q) : FQ S2 h k := ⟨f.1, f.2.1, f.2.2.1, f.2.2.2.1, fun q hq => f.2.2.2.2 q (fun z => hq (m q z))⟩
theorem FQ.i {S : Nat → Prop} {h k : KH} {j : Nat} {x : Int32} (f : FQ S h k) (hj : S j) : FQ S h (kwi k 59 j x) := ⟨f.1, f.2.1, f.2.2.1, fun a ha => (kwi_r ha).trans (f.2.2.2.1 a ha), fun q hq => (kwi_o (fun e => hq (by rw [e]; exact hj))).trans (f.2.2.2.2 q hq)⟩
theorem FQ.wf {S : Nat → Prop} {h k : KH} (f : FQ S h k) (hw : WF h) : WF k := wf_same hw f.1 f.2.1 f.2.2.1
theorem FQ.nm {S : Nat → Prop} {h k : KH} (f : FQ S h k) (n : NM h) : NM k := ⟨fun i hi => by rw [f.2.2.2.1 _ (by decide)]; exact n.1 i hi, fun i hi => by rw [f.2.2.2.1 _ (by decide)]; exact n.2.1 i hi, by rw [f.2.2.2.1 _ (by decide)]; exact n.2.2⟩
theorem FQ.tp {S : Nat → Prop} {h k : KH} {T : List Nat} (f : FQ S h k) (s5 : ¬ S 5) (t : tpM h T) : tpM k T := ⟨t.1, t.2.1, (f.2.2.2.2 5 s5).trans t.2.2.1, fun i hi => by rw [f.2.2.2.1 63 (by decide)]; exact t.2.2.2 i hi⟩
theorem s_isB {Q : KO → Prop} {h : KH} {T : List Nat} (hw : WF h) (t : tpM h T) {p lo hi : Nat} (hlo : lo < 1000) (hhi : hi < 1000) (pl : p ≤ T.length) (hQ : Q (some (.int (b32 (decide (p < T.length) && (Nat.ble lo (T.getD p 0) && Nat.ble (T.getD p 0) hi)))), h)) : Cl 1 203 [.ref 59, .int (Int32.ofNat p), .int (Int32.ofNat lo), .int (Int32.ofNat hi)] h Q := by
  have hT := t.1
  have hb := tb_lt t.2.1 p
  by_cases h1 : p < T.length
  · rw [decide_eq_true h1, Bool.true_and] at hQ
    have ge : ¬ Int32.ofNat T.length ≤ Int32.ofNat p := fun z => by
      have := (nle2 (by omega) (by omega)).mp z
      omega
    have zb : (Int32.ofNat (T.getD p 0)).toInt = (T.getD p 0 : Int) := znat (by omega)
    rcases e : (Nat.ble lo (T.getD p 0) && Nat.ble (T.getD p 0) hi) with _ | _
    · rw [e] at hQ
      have ni : inB (Int32.ofNat (T.getD p 0)) lo hi = false := inB_f (fun z => by
        rw [zb] at z
        have : (Nat.ble lo (T.getD p 0) && Nat.ble (T.getD p 0) hi) = true := by
          rw [Nat.ble_eq_true_of_le (by omega), Nat.ble_eq_true_of_le (by omega)]
          rfl
        rw [this] at e
        cases e)
      exact t_ib20 hw t.1 t.2.2.1 t.2.2.2 ge h1 (fun Q hQ => s_inB (x := lo) (y := hi) (znat (by omega)) (znat (by omega)) (by rw [ni]; exact hQ)) (Nat.le_refl _) hQ
    · rw [e] at hQ
      simp only [Bool.and_eq_true, Nat.ble_eq] at e
      have yi : inB (Int32.ofNat (T.getD p 0)) lo hi = true := inB_t (by rw [zb]; omega)
      exact t_ib21 hw t.1 t.2.2.1 t.2.2.2 ge h1 (fun Q hQ => s_inB (x := lo) (y := hi) (znat (by omega)) (znat (by omega)) (by rw [yi]; exact hQ)) (Nat.le_refl _) hQ
  · rw [decide_eq_false h1, Bool.false_and] at hQ
    exact t_ib1 hw t.1 t.2.2.1 t.2.2.2 ((nle2 (by omega) (by omega)).mpr (by omega)) (Nat.le_refl _) hQ
theorem NMR_tab : kall1 18 (fun w => kall1 7 (fun k => decide (kNM.getD (7 * w + k) 0 = if k < (NMR.getD w []).length then Int32.ofNat ((NMR.getD w []).getD k 0) else 0) && (decide (¬ k < (NMR.getD w []).length) || (decide (97 ≤ (NMR.getD w []).getD k 0) && decide ((NMR.getD w []).getD k 0 ≤ 122))) && decide ((NMR.getD w []).length ≤ 7))) = true := by decide +kernel
theorem NMR_get {w k : Nat} (hw : w < 18) (hk : k < 7) : kNM.getD (7 * w + k) 0 = (if k < (NMR.getD w []).length then Int32.ofNat ((NMR.getD w []).getD k 0) else 0) ∧ (k < (NMR.getD w []).length → 97 ≤ (NMR.getD w []).getD k 0 ∧ (NMR.getD w []).getD k 0 ≤ 122) ∧ (NMR.getD w []).length ≤ 7 := by
  have := kall1_ok (kall1_ok NMR_tab hw) hk
  simp only [Bool.and_eq_true, Bool.or_eq_true, decide_eq_true_eq] at this
  exact ⟨this.1.1, fun h => this.1.2.resolve_left (fun z => z h), this.2⟩
theorem s_inL {Q : KO → Prop} {h : KH} {T : List Nat} {i j w : Nat} (hw : WF h) (nm : NM h) (t : tpM h T) (h7 : h.2.2.1 59 7 = Int32.ofNat i) (hij : i ≤ j) (hj : j ≤ T.length) (hl : ∀ x, i ≤ x → x < j → isLt (T.getD x 0) = true) (w18 : w < 18) (s7 : j - i ≤ 7) (nl : (NMR.getD w []).length ≤ j - i) (hQ : Q (some (.int (b32 (decide (sliT T i j = NMR.getD w [])))), h)) : ∀ (m k : Nat), k + m = j - i → (∀ x, x < k → kNM.getD (7 * w + x) 0 = Int32.ofNat (T.getD (i + x) 0)) → Wp 0 204 34 [some (.ref 59), some (.int (Int32.ofNat w)), some (.int (Int32.ofNat (j - i))), some (.int 1), some (.int (Int32.ofNat k))] [] h Q := by
  have hT := t.1
  intro m
  induction m with
  | zero =>
    intro k hk hx
    have el : (NMR.getD w []).length = j - i := by
      by_cases e : (NMR.getD w []).length < j - i
      · exfalso
        have g := NMR_get (k := (NMR.getD w []).length) w18 (by omega)
        have g2 := hx (NMR.getD w []).length (by omega)
        rw [g.1, if_neg (Nat.lt_irrefl _)] at g2
        have lb := hl (i + (NMR.getD w []).length) (by omega) (by omega)
        simp only [isLt, Bool.and_eq_true, Nat.ble_eq] at lb
        have := (neq2 (a := 0) (by omega) (by have := tb_lt t.2.1 (i + (NMR.getD w []).length); omega)).mp g2
        omega
      · omega
    have eq : sliT T i j = NMR.getD w [] := (sli_eq hij hj).mpr ⟨by omega, fun x hx2 => by
      have g := NMR_get (k := x) w18 (by omega)
      have g2 := hx x (by omega)
      rw [g.1, if_pos hx2] at g2
      have := g.2.1 hx2
      exact ((neq2 (by omega) (by have := tb_lt t.2.1 (i + x); omega)).mp g2).symm⟩
    rw [decide_eq_true eq] at hQ
    exact t_in6 hw nm ((nle2 (by omega) (by omega)).mpr (by omega)) (Nat.le_refl _) hQ
  | succ m ih =>
    intro k hk hx
    have ks : ¬ Int32.ofNat (j - i) ≤ Int32.ofNat k := fun z => by
      have := (nle2 (by omega) (by omega)).mp z
      omega
    have kk : Int32.ofNat k + (1 : Int32) = Int32.ofNat (k + 1) := (Int32.ofNat_add k 1).symm
    by_cases e : kNM.getD (7 * w + k) 0 = Int32.ofNat (T.getD (i + k) 0)
    · refine t_in8 hw t.1 t.2.2.1 t.2.2.2 nm ks (by omega) w18 h7 (by omega) e (Nat.le_refl _) ?_
      rw [kk]
      refine ih (k + 1) (by omega) (fun x hx2 => ?_)
      by_cases ex : x = k
      · rw [ex]
        exact e
      · exact hx x (by omega)
    · have ne : ¬ sliT T i j = NMR.getD w [] := fun q => by
        obtain ⟨q1, q2⟩ := (sli_eq hij hj).mp q
        have g := NMR_get (k := k) w18 (by omega)
        rw [g.1, if_pos (by omega), ← q2 k (by omega)] at e
        exact e rfl
      rw [decide_eq_false ne] at hQ
      refine t_in7 hw t.1 t.2.2.1 t.2.2.2 nm ks (by omega) w18 h7 (by omega) e (Nat.le_refl _) ?_
      rw [kk]
      exact t_in5 hw nm (Nat.le_refl _) ⟨fun _ => hQ, fun _ => hQ⟩
theorem s_isName {Q : KO → Prop} {h : KH} {T : List Nat} {i j w : Nat} (hw : WF h) (nm : NM h) (t : tpM h T) (h7 : h.2.2.1 59 7 = Int32.ofNat i) (hij : i ≤ j) (hj : j ≤ T.length) (hl : ∀ x, i ≤ x → x < j → isLt (T.getD x 0) = true) (w18 : w < 18) (hQ : Q (some (.int (b32 (decide (sliT T i j = NMR.getD w [])))), h)) : Cl 0 204 [.ref 59, .int (Int32.ofNat w), .int (Int32.ofNat j - Int32.ofNat i)] h Q := by
  have hT := t.1
  rw [show Int32.ofNat j - Int32.ofNat i = Int32.ofNat (j - i) from zidx ((zs (znat (n := j) (by omega)) (znat (n := i) (by omega)) (by omega)).trans (by omega))]
  have n7 := (NMR_get (w := w) (k := 0) w18 (by decide)).2.2
  have no : (NMR.getD w []).length ≠ j - i → Q (some (.int 0), h) := fun z => by
    have ne : ¬ sliT T i j = NMR.getD w [] := fun q => by
      have := ((sli_eq hij hj).mp q).1
      omega
    rw [decide_eq_false ne] at hQ
    exact hQ
  have dead : Q (some (.int 0), h) → Wp 0 204 34 [some (.ref 59), some (.int (Int32.ofNat w)), some (.int (Int32.ofNat (j - i))), some (.int 0), some (.int (Int32.ofNat 0))] [] h Q := fun q => t_in5 hw nm (Nat.le_refl _) ⟨fun _ => q, fun _ => q⟩
  by_cases s7 : j - i ≤ 7
  · have n1 : ¬ (7 : Int32) < Int32.ofNat (j - i) := fun z => by
      have := (nlt2 (a := 7) (by omega) (by omega)).mp z
      omega
    by_cases e7 : j - i = 7
    · exact t_in2 hw nm n1 (by rw [e7]; rfl) (Nat.le_refl _) (s_inL hw nm t h7 hij hj hl w18 s7 (by omega) hQ (j - i) 0 (Nat.zero_add _) (fun x hx => absurd hx (Nat.not_lt_zero x)))
    · have n2 : ¬ Int32.ofNat (j - i) = 7 := fun z => e7 ((neq2 (b := 7) (by omega) (by omega)).mp z)
      have g := NMR_get (w := w) (k := j - i) w18 (by omega)
      by_cases lt : j - i < (NMR.getD w []).length
      · have g2 := g.2.1 lt
        rw [if_pos lt] at g
        exact t_in3 hw nm n1 n2 w18 (by omega) (fun z => by
          rw [g.1] at z
          have := (neq2 (b := 0) (by omega) (by omega)).mp z
          omega) (Nat.le_refl _) (dead (no (by omega)))
      · rw [if_neg lt] at g
        exact t_in4 hw nm n1 n2 w18 (by omega) g.1 (Nat.le_refl _) (s_inL hw nm t h7 hij hj hl w18 s7 (by omega) hQ (j - i) 0 (Nat.zero_add _) (fun x hx => absurd hx (Nat.not_lt_zero x)))
  · exact t_in1 hw nm ((nlt2 (a := 7) (by omega) (by omega)).mpr (by omega)) (Nat.le_refl _) (dead (no (by omega)))
theorem NMR_len : NMR.length = 18 := by decide
theorem s_whL {Q : KO → Prop} {h : KH} {T : List Nat} {i j : Nat} (hw : WF h) (nm : NM h) (t : tpM h T) (h7 : h.2.2.1 59 7 = Int32.ofNat i) (h8 : h.2.2.1 59 8 = Int32.ofNat j) (hij : i ≤ j) (hj : j ≤ T.length) (hl : ∀ x, i ≤ x → x < j → isLt (T.getD x 0) = true) : ∀ (N : List (List Nat)) (w : Nat), w + N.length = 18 → N = NMR.drop w → Q (some (.int (Int32.ofNat (wIx N w 26 (sliT T i j)))), h) → Wp 1 205 2 [some (.ref 59), some (.int (Int32.ofNat w))] [] h Q := by
  intro N
  induction N with
  | nil =>
    intro w hn e hQ
    exact t_wh1 hw ((nle2 (a := 18) (by omega) (by simp at hn; omega)).mpr (by simp at hn; omega)) (Nat.le_refl _) hQ
  | cons n r ih =>
    intro w hn e hQ
    rw [List.length_cons] at hn
    have e1 : NMR.getD w [] = n := by
      rw [List.getD_eq_getElem?_getD, show w = w + 0 from rfl, ← List.getElem?_drop, ← e]
      rfl
    have e2 : r = NMR.drop (w + 1) := by
      have := congrArg (List.drop 1) e
      rw [List.drop_drop] at this
      exact this
    have ge : ¬ (18 : Int32) ≤ Int32.ofNat w := fun z => by
      have := (nle2 (a := 18) (by omega) (by omega)).mp z
      omega
    unfold wIx at hQ
    by_cases q : sliT T i j = n
    · rw [if_pos q] at hQ
      exact t_wh21 hw ge h7 h8 (fun Q hQ => s_isName hw nm t h7 hij hj hl (by omega) (by rw [e1, decide_eq_true q]; exact hQ)) (Nat.le_refl _) hQ
    · rw [if_neg q] at hQ
      refine t_wh20 hw ge h7 h8 (fun Q hQ => s_isName hw nm t h7 hij hj hl (by omega) (by rw [e1, decide_eq_false q]; exact hQ)) (Nat.le_refl _) ?_
      rw [show Int32.ofNat w + (1 : Int32) = Int32.ofNat (w + 1) from (Int32.ofNat_add w 1).symm]
      exact ih (w + 1) (by omega) e2 hQ
theorem s_word {Q : KO → Prop} {h : KH} {T : List Nat} {i j : Nat} (hw : WF h) (nm : NM h) (t : tpM h T) (h7 : h.2.2.1 59 7 = Int32.ofNat i) (h8 : h.2.2.1 59 8 = Int32.ofNat j) (hij : i ≤ j) (hj : j ≤ T.length) (hl : ∀ x, i ≤ x → x < j → isLt (T.getD x 0) = true) (hQ : Q (some (.int (Int32.ofNat (wIx NMR 0 26 (sliT T i j)))), h)) : Cl 1 205 [.ref 59] h Q :=
  t_wh0 hw (Nat.le_refl _) (s_whL hw nm t h7 h8 hij hj hl NMR 0 NMR_len rfl hQ)
theorem bl_e (b : Nat) : (Nat.ble 32 b && Nat.ble b 32) = isBl b := by
  unfold isBl
  by_cases e : b = 32
  · rw [e]
    rfl
  · have h1 : Nat.beq b 32 = false := Bool.eq_false_iff.mpr (fun z => e (Nat.eq_of_beq_eq_true z))
    rw [h1]
    refine Bool.eq_false_iff.mpr (fun z => ?_)
    simp only [Bool.and_eq_true, Nat.ble_eq] at z
    omega
theorem s_rdR {pc1 pc2 lo hi : Nat} {p0 : Nat → Bool} {T : List Nat} (hlo : lo < 1000) (hhi : hi < 1000) (hp0 : ∀ b, (Nat.ble lo b && Nat.ble b hi) = p0 b)
    (hN : ∀ (Q : KO → Prop) (h : KH) (p : Nat), WF h → tpM h T → h.2.2.1 59 8 = Int32.ofNat p → (∀ Q : KO → Prop, Q (some (.int 0), h) → Cl 1 203 [.ref 59, .int (Int32.ofNat p), .int (Int32.ofNat lo), .int (Int32.ofNat hi)] h Q) → Wp 3 207 pc2 [some (.ref 59)] [] h Q → Wp 3 207 pc1 [some (.ref 59)] [] h Q)
    (hY : ∀ (Q : KO → Prop) (h : KH) (p : Nat), WF h → tpM h T → h.2.2.1 59 8 = Int32.ofNat p → (∀ Q : KO → Prop, Q (some (.int 1), h) → Cl 1 203 [.ref 59, .int (Int32.ofNat p), .int (Int32.ofNat lo), .int (Int32.ofNat hi)] h Q) → Wp 3 207 pc1 [some (.ref 59)] [] (kwi h 59 8 (Int32.ofNat p + 1)) Q → Wp 3 207 pc1 [some (.ref 59)] [] h Q) :
    ∀ (m p : Nat) (h : KH), T.length - p = m → WF h → tpM h T → h.2.2.1 59 8 = Int32.ofNat p → p ≤ T.length → ∃ k, FQ (fun q => q = 8) h k ∧ k.2.2.1 59 8 = Int32.ofNat (runE T p0 p) ∧ ∀ Q : KO → Prop, Wp 3 207 pc2 [some (.ref 59)] [] k Q → Wp 3 207 pc1 [some (.ref 59)] [] h Q := by
  have stop : ∀ (p : Nat) (h : KH), WF h → tpM h T → h.2.2.1 59 8 = Int32.ofNat p → p ≤ T.length → ¬ (p < T.length ∧ p0 (T.getD p 0) = true) → ∃ k, FQ (fun q => q = 8) h k ∧ k.2.2.1 59 8 = Int32.ofNat (runE T p0 p) ∧ ∀ Q : KO → Prop, Wp 3 207 pc2 [some (.ref 59)] [] k Q → Wp 3 207 pc1 [some (.ref 59)] [] h Q := fun p h hw t hp pl no => by
    refine ⟨h, FQ.refl _ h, by rw [runE_n no]; exact hp, fun Q hQ => hN Q h p hw t hp (fun Q hQ => s_isB hw t hlo hhi pl ?_) hQ⟩
    have : (decide (p < T.length) && (Nat.ble lo (T.getD p 0) && Nat.ble (T.getD p 0) hi)) = false := by
      rw [hp0]
      refine Bool.eq_false_iff.mpr (fun z => no ?_)
      simp only [Bool.and_eq_true, decide_eq_true_eq] at z
      exact z
    rw [this]
    exact hQ
  intro m
  induction m with
  | zero =>
    intro p h hm hw t hp pl
    exact stop p h hw t hp pl (fun z => by omega)
  | succ m ih =>
    intro p h hm hw t hp pl
    by_cases yes : p < T.length ∧ p0 (T.getD p 0) = true
    · obtain ⟨k, f, k8, run⟩ := ih (p + 1) (kwi h 59 8 (Int32.ofNat (p + 1))) (by omega) (WF_i hw) (((FQ.refl (fun q => q = 8) h).i rfl).tp (by decide) t) kwi_s (by omega)
      refine ⟨k, ((FQ.refl (fun q => q = 8) h).i rfl).trans f, by rw [runE_y yes.1 yes.2]; exact k8, fun Q hQ => hY Q h p hw t hp (fun Q hQ => s_isB hw t hlo hhi pl ?_) ?_⟩
      · have : (decide (p < T.length) && (Nat.ble lo (T.getD p 0) && Nat.ble (T.getD p 0) hi)) = true := by
          rw [hp0, decide_eq_true yes.1, yes.2]
          rfl
        rw [this]
        exact hQ
      · rw [show Int32.ofNat p + (1 : Int32) = Int32.ofNat (p + 1) from (Int32.ofNat_add p 1).symm]
        exact run Q hQ
    · exact stop p h hw t hp pl yes
theorem num_step2 {N b : Nat} (hN : N < 1000) (h1 : 48 ≤ b) (h2 : b ≤ 57) : ((10 : Int32) * Int32.ofNat N + Int32.ofNat b) - (48 : Int32) = Int32.ofNat (10 * N + (b - 48)) := by
  refine zidx ((zs (zc (zm (m := 10) rfl (znat (n := N) (by omega)) (by omega)) (znat (n := b) (by omega)) (by omega)) (n := 48) rfl (by omega)).trans ?_)
  omega
theorem s_rdD {T : List Nat} {i : Nat} : ∀ (m p : Nat) (x : Int32) (h : KH), T.length - p = m → WF h → tpM h T → h.2.2.1 59 8 = Int32.ofNat p → h.2.2.1 59 7 = Int32.ofNat i → h.2.2.1 59 9 = x → i ≤ p → p ≤ T.length → (∀ j, i ≤ j → j < p → isDg (T.getD j 0) = true) → (p - i ≤ 4 → x = Int32.ofNat (numT (sliT T i p) 0)) → ∃ k, FQ (fun q => q = 8 ∨ q = 9) h k ∧ k.2.2.1 59 8 = Int32.ofNat (runE T isDg p) ∧ (runE T isDg p - i ≤ 4 → k.2.2.1 59 9 = Int32.ofNat (numT (sliT T i (runE T isDg p)) 0)) ∧ ∀ Q : KO → Prop, Wp 3 207 202 [some (.ref 59)] [] k Q → Wp 3 207 130 [some (.ref 59)] [] h Q := by
  have stop : ∀ (p : Nat) (x : Int32) (h : KH), WF h → tpM h T → h.2.2.1 59 8 = Int32.ofNat p → h.2.2.1 59 9 = x → p ≤ T.length → (p - i ≤ 4 → x = Int32.ofNat (numT (sliT T i p) 0)) → ¬ (p < T.length ∧ isDg (T.getD p 0) = true) → ∃ k, FQ (fun q => q = 8 ∨ q = 9) h k ∧ k.2.2.1 59 8 = Int32.ofNat (runE T isDg p) ∧ (runE T isDg p - i ≤ 4 → k.2.2.1 59 9 = Int32.ofNat (numT (sliT T i (runE T isDg p)) 0)) ∧ ∀ Q : KO → Prop, Wp 3 207 202 [some (.ref 59)] [] k Q → Wp 3 207 130 [some (.ref 59)] [] h Q := fun p x h hw t hp h9 pl hx no => by
    rw [runE_n no]
    refine ⟨h, FQ.refl _ h, hp, fun d => h9.trans (hx d), fun Q hQ => t_rz90 hw t.1 t.2.2.1 t.2.2.2 hp (fun Q hQ => s_isB (lo := 48) (hi := 57) hw t (by decide) (by decide) pl ?_) (Nat.le_refl _) hQ⟩
    have : (decide (p < T.length) && (Nat.ble 48 (T.getD p 0) && Nat.ble (T.getD p 0) 57)) = false := by
      refine Bool.eq_false_iff.mpr (fun z => no ?_)
      rw [Bool.and_eq_true, decide_eq_true_eq] at z
      exact z
    rw [this]
    exact hQ
  intro m
  induction m with
  | zero =>
    intro p x h hm hw t hp h7 h9 hip pl hdg hx
    exact stop p x h hw t hp h9 pl hx (fun z => by omega)
  | succ m ih =>
    intro p x h hm hw t hp h7 h9 hip pl hdg hx
    have hT := t.1
    by_cases yes : p < T.length ∧ isDg (T.getD p 0) = true
    · have q' := yes.2
      simp only [isDg, Bool.and_eq_true, Nat.ble_eq] at q'
      have hin : ∀ Q : KO → Prop, Q (some (.int 1), h) → Cl 1 203 [.ref 59, .int (Int32.ofNat p), .int 48, .int 57] h Q := fun Q hQ => s_isB (lo := 48) (hi := 57) hw t (by decide) (by decide) pl (by
        have : (decide (p < T.length) && (Nat.ble 48 (T.getD p 0) && Nat.ble (T.getD p 0) 57)) = true := by
          rw [decide_eq_true yes.1]
          exact yes.2
        rw [this]
        exact hQ)
      have d3 : (Int32.ofNat p - Int32.ofNat i ≤ 3) ↔ p - i ≤ 3 := by
        rw [zle (zs (znat (n := p) (by omega)) (znat (n := i) (by omega)) (by omega)) (y := 3) (n := 3) rfl]
        omega
      have hdg2 : ∀ j, i ≤ j → j < p + 1 → isDg (T.getD j 0) = true := fun j h1 h2 => by
        by_cases e : j = p
        · rw [e]; exact yes.2
        · exact hdg j h1 (by omega)
      have pp : Int32.ofNat p + (1 : Int32) = Int32.ofNat (p + 1) := (Int32.ofNat_add p 1).symm
      have fk : ∀ y : Int32, FQ (fun q => q = 8 ∨ q = 9) h (kwi (kwi h 59 9 y) 59 8 (Int32.ofNat (p + 1))) := fun y => ((FQ.refl _ h).i (Or.inr rfl)).i (Or.inl rfl)
      have go : ∀ y : Int32, (p + 1 - i ≤ 4 → y = Int32.ofNat (numT (sliT T i (p + 1)) 0)) → ∃ k, FQ (fun q => q = 8 ∨ q = 9) h k ∧ k.2.2.1 59 8 = Int32.ofNat (runE T isDg p) ∧ (runE T isDg p - i ≤ 4 → k.2.2.1 59 9 = Int32.ofNat (numT (sliT T i (runE T isDg p)) 0)) ∧ ∀ Q : KO → Prop, Wp 3 207 202 [some (.ref 59)] [] k Q → Wp 3 207 130 [some (.ref 59)] [] (kwi (kwi h 59 9 y) 59 8 (Int32.ofNat (p + 1))) Q := fun y hy => by
        obtain ⟨k, f, k8, k9, run⟩ := ih (p + 1) y _ (by omega) (WF_i (WF_i hw)) ((fk y).tp (by decide) t) kwi_s (by rw [kwi_o (by decide), kwi_o (by decide)]; exact h7) (by rw [kwi_o (by decide)]; exact kwi_s) (by omega) (by omega) hdg2 hy
        rw [runE_y yes.1 yes.2]
        exact ⟨k, (fk y).trans f, k8, k9, run⟩
      by_cases l3 : p - i ≤ 3
      · obtain ⟨k, f, k8, k9, run⟩ := go (((10 : Int32) * x + Int32.ofNat (T.getD p 0)) - 48) (fun d4 => by
          have hn := numT_lt (sliT T i p) 0 (fun b hb => by
            have := sli_mem hdg (Nat.le_of_lt yes.1) b hb
            simp only [isDg, Bool.and_eq_true, Nat.ble_eq] at this
            exact this.2)
          rw [sli_len (Nat.le_of_lt yes.1)] at hn
          have hp3 : 10 ^ (p - i) ≤ 10 ^ 3 := Nat.pow_le_pow_right (by decide) l3
          rw [hx (by omega), num_step2 (by omega) q'.1 q'.2, sli_snoc hip yes.1, numT_snoc])
        refine ⟨k, f, k8, k9, fun Q hQ => t_rz91 hw t.1 t.2.2.1 t.2.2.2 hp h7 h9 yes.1 (d3.mpr l3) hin (Nat.le_refl _) ?_⟩
        rw [pp]
        exact run Q hQ
      · obtain ⟨k, f, k8, k9, run⟩ := go x (fun d4 => by omega)
        refine ⟨k, f, k8, k9, fun Q hQ => t_rz92 hw t.1 t.2.2.1 t.2.2.2 hp h7 h9 yes.1 (fun z => l3 (d3.mp z)) hin (Nat.le_refl _) ?_⟩
        rw [pp]
        exact run Q hQ
    · exact stop p x h hw t hp h9 pl hx yes
theorem sgR_tab : kall1 256 (fun b => decide (f_sgnR (Int32.ofNat b) = Int32.ofNat (rkT (sgT b))) && (decide (¬ (20 ≤ sgT b ∧ sgT b ≤ 22)) || decide (b = sgT b + 40))) = true := by decide +kernel
theorem sgR {b : Nat} (h : b < 256) : f_sgnR (Int32.ofNat b) = Int32.ofNat (rkT (sgT b)) ∧ (20 ≤ sgT b ∧ sgT b ≤ 22 → b = sgT b + 40) := by
  have := kall1_ok sgR_tab h
  simp only [Bool.and_eq_true, Bool.or_eq_true, decide_eq_true_eq] at this
  exact ⟨this.1, fun z => this.2.resolve_left (fun y => y z)⟩
/-- a token, as the reference has it -/
def rdS (k : KH) (t : Nat × Nat × Nat) : Prop := k.2.2.1 59 6 = Int32.ofNat (rkT t.1) ∧ k.2.2.1 59 7 = Int32.ofNat t.2.1 ∧ k.2.2.1 59 8 = Int32.ofNat t.2.2 ∧ (100 ≤ t.1 → k.2.2.1 59 9 = Int32.ofNat (t.1 - 100)) ∧ (20 ≤ t.1 ∧ t.1 ≤ 22 → k.2.2.1 59 9 = Int32.ofNat (t.1 + 40))
def rdF : Nat → Prop := fun q => 6 ≤ q ∧ q ≤ 9
theorem s_reads {T : List Nat} {p : Nat} {h : KH} (hw : WF h) (nm : NM h) (t : tpM h T) (hp : h.2.2.1 59 8 = Int32.ofNat p) (pl : p ≤ T.length) : ∃ k, FQ rdF h k ∧ rdS k (tokT T p) ∧ ∀ Q : KO → Prop, Q (none, k) → Cl 3 207 [.ref 59] h Q := by
  have hT := t.1
  obtain ⟨k0, f0, k08, run0⟩ := s_rdR (T := T) (pc1 := 0) (pc2 := 28) (lo := 32) (hi := 32) (p0 := isBl) (by decide) (by decide) bl_e (fun Q h p hw t hp hin hQ => t_rz10 hw t.1 t.2.2.1 t.2.2.2 hp hin (Nat.le_refl _) hQ) (fun Q h p hw t hp hin hQ => t_rz11 hw t.1 t.2.2.1 t.2.2.2 hp hin (Nat.le_refl _) hQ) _ p h rfl hw t hp pl
  obtain ⟨j, ej⟩ : ∃ j, runE T isBl p = j := ⟨_, rfl⟩
  have hjl := runE_len isBl pl
  rw [ej] at k08 hjl
  have w0 := f0.wf hw
  have t0 := f0.tp (by decide) t
  have f1 : FQ rdF k0 (kwi (kwi k0 59 7 (Int32.ofNat j)) 59 9 0) := ((FQ.refl rdF k0).i (by unfold rdF; decide)).i (by unfold rdF; decide)
  have f01 : FQ rdF h (kwi (kwi k0 59 7 (Int32.ofNat j)) 59 9 0) := (f0.mono (fun q z => by unfold rdF; omega)).trans f1
  obtain ⟨k1, ek1⟩ : ∃ k1, kwi (kwi k0 59 7 (Int32.ofNat j)) 59 9 0 = k1 := ⟨_, rfl⟩
  have k17 : k1.2.2.1 59 7 = Int32.ofNat j := by rw [← ek1, kwi_o (by decide), kwi_s]
  have k18 : k1.2.2.1 59 8 = Int32.ofNat j := by rw [← ek1, kwi_o (by decide), kwi_o (by decide)]; exact k08
  have k19 : k1.2.2.1 59 9 = 0 := by rw [← ek1, kwi_s]
  have st : ∀ Q : KO → Prop, Wp 3 207 41 [some (.ref 59)] [] k1 Q → Cl 3 207 [.ref 59] h Q := fun Q hQ => t_rz0 (run0 Q (t_rz2 w0 t0.1 t0.2.2.1 t0.2.2.2 k08 (Nat.le_refl _) (by rw [ek1]; exact hQ)))
  rw [ek1] at f01
  have w1 := f01.wf hw
  have t1 := f01.tp (by unfold rdF; omega) t
  have n1 := f01.nm nm
  have r6 : ∀ j x, 6 ≤ j → j ≤ 9 → FQ rdF h (kwi k1 59 j x) := fun j x h1 h2 => f01.i ⟨h1, h2⟩
  unfold tokT
  rw [ej]
  by_cases jl : j < T.length
  · rw [if_pos jl]
    have pe : ¬ Int32.ofNat j = Int32.ofNat T.length := fun z => by
      have := (neq2 (by omega) (by omega)).mp z
      omega
    have bl : ∀ lo hi, (Nat.ble lo (T.getD j 0) && Nat.ble (T.getD j 0) hi) = (decide (j < T.length) && (Nat.ble lo (T.getD j 0) && Nat.ble (T.getD j 0) hi)) := fun lo hi => by
      rw [decide_eq_true jl, Bool.true_and]
    rcases q : isLt (T.getD j 0) with _ | _
    · have hl : ∀ Q : KO → Prop, Q (some (.int 0), k1) → Cl 1 203 [.ref 59, .int (Int32.ofNat j), .int 97, .int 122] k1 Q := fun Q hQ => s_isB (lo := 97) (hi := 122) w1 t1 (by decide) (by decide) hjl (by
        rw [← bl]
        have : (Nat.ble 97 (T.getD j 0) && Nat.ble (T.getD j 0) 122) = false := q
        rw [this]
        exact hQ)
      rw [if_neg (by decide)]
      rcases q2 : isDg (T.getD j 0) with _ | _
      · have hd : ∀ Q : KO → Prop, Q (some (.int 0), k1) → Cl 1 203 [.ref 59, .int (Int32.ofNat j), .int 48, .int 57] k1 Q := fun Q hQ => s_isB (lo := 48) (hi := 57) w1 t1 (by decide) (by decide) hjl (by
          rw [← bl]
          have : (Nat.ble 48 (T.getD j 0) && Nat.ble (T.getD j 0) 57) = false := q2
          rw [this]
          exact hQ)
        rw [if_neg (by decide)]
        have hb := tb_lt t.2.1 j
        obtain ⟨s1, s2⟩ := sgR hb
        refine ⟨kwi (kwi (kwi k1 59 6 (f_sgnR (Int32.ofNat (T.getD j 0)))) 59 9 (Int32.ofNat (T.getD j 0))) 59 8 (Int32.ofNat (j + 1)), ((f01.i (by unfold rdF; decide)).i (by unfold rdF; decide)).i (by unfold rdF; decide), ⟨?_, ?_, kwi_s, fun z => ?_, fun z => ?_⟩, fun Q hQ => st Q (t_rz4 w1 t1.1 t1.2.2.1 t1.2.2.2 k18 pe (Nat.le_refl _) (t_rz50 w1 t1.1 t1.2.2.1 t1.2.2.2 k18 hl (Nat.le_refl _) (t_rz80 w1 t1.1 t1.2.2.1 t1.2.2.2 k18 hd (Nat.le_refl _) (t_rzC w1 t1.1 t1.2.2.1 t1.2.2.2 k18 jl (Nat.le_refl _) ?_))))⟩
        · rw [kwi_o (by decide), kwi_o (by decide), kwi_s]
          exact s1
        · rw [kwi_o (by decide), kwi_o (by decide), kwi_o (by decide)]
          exact k17
        · have := (sgT_le (T.getD j 0)).1
          simp only [] at z
          omega
        · rw [kwi_o (by decide), kwi_s]
          exact congrArg Int32.ofNat (s2 z)
        · rw [show Int32.ofNat j + (1 : Int32) = Int32.ofNat (j + 1) from (Int32.ofNat_add j 1).symm]
          exact hQ
      · have hd : ∀ Q : KO → Prop, Q (some (.int 1), k1) → Cl 1 203 [.ref 59, .int (Int32.ofNat j), .int 48, .int 57] k1 Q := fun Q hQ => s_isB (lo := 48) (hi := 57) w1 t1 (by decide) (by decide) hjl (by
          rw [← bl]
          have : (Nat.ble 48 (T.getD j 0) && Nat.ble (T.getD j 0) 57) = true := q2
          rw [this]
          exact hQ)
        rw [if_pos rfl]
        obtain ⟨k2, f2, k28, k29, run2⟩ := s_rdD (T := T) (i := j) _ j 0 k1 rfl w1 t1 k18 k17 k19 (Nat.le_refl _) hjl (fun x h1 h2 => by omega) (fun _ => by
          have : sliT T j j = [] := by
            unfold sliT
            rw [Nat.sub_self, List.take_zero]
          rw [this]
          rfl)
        have f02 : FQ rdF h k2 := f01.trans (f2.mono (fun q z => by unfold rdF; omega))
        have k27 : k2.2.2.1 59 7 = Int32.ofNat j := (f2.2.2.2.2 7 (by decide)).trans k17
        have w2 := f2.wf w1
        have t2 := f2.tp (by decide) t1
        have el := runE_len isDg hjl
        have eg := runE_le T isDg j
        have d4 : (Int32.ofNat (runE T isDg j) - Int32.ofNat j ≤ 4) ↔ runE T isDg j - j ≤ 4 := by
          rw [zle (zs (znat (n := runE T isDg j) (by omega)) (znat (n := j) (by omega)) (by omega)) (y := 4) (n := 4) rfl]
          omega
        by_cases l4 : runE T isDg j - j ≤ 4
        · rw [if_pos l4]
          have hn := numT_lt (sliT T j (runE T isDg j)) 0 (fun b hb => by
            have := sli_mem (p := isDg) (fun k h1 h2 => (runE_in h1 h2).2) el b hb
            simp only [isDg, Bool.and_eq_true, Nat.ble_eq] at this
            exact this.2)
          rw [sli_len el] at hn
          have hp4 : 10 ^ (runE T isDg j - j) ≤ 10 ^ 4 := Nat.pow_le_pow_right (by decide) l4
          refine ⟨kwi k2 59 6 20, f02.i (by unfold rdF; decide), ⟨?_, ?_, ?_, fun z => ?_, fun z => ?_⟩, fun Q hQ => st Q (t_rz4 w1 t1.1 t1.2.2.1 t1.2.2.2 k18 pe (Nat.le_refl _) (t_rz50 w1 t1.1 t1.2.2.1 t1.2.2.2 k18 hl (Nat.le_refl _) (t_rz81 w1 t1.1 t1.2.2.1 t1.2.2.2 k18 hd (Nat.le_refl _) (run2 Q (t_rzA w2 t2.1 t2.2.2.1 t2.2.2.2 k28 k27 (d4.mpr l4) (Nat.le_refl _) hQ)))))⟩
          · rw [kwi_s]
            unfold rkT
            simp only []
            rw [if_neg (by omega), if_neg (by omega), if_neg (by omega), if_neg (by omega), if_neg (by omega), if_neg (by omega)]
            rfl
          · rw [kwi_o (by decide)]
            exact k27
          · rw [kwi_o (by decide)]
            exact k28
          · rw [kwi_o (by decide), k29 l4]
            simp only []
            rw [Nat.add_sub_cancel_left]
          · simp only [] at z
            omega
        · rw [if_neg l4]
          refine ⟨kwi k2 59 6 26, f02.i (by unfold rdF; decide), ⟨kwi_s, ?_, ?_, fun z => absurd z (show ¬ 100 ≤ 27 by decide), fun z => absurd z (show ¬ (20 ≤ 27 ∧ 27 ≤ 22) by decide)⟩, fun Q hQ => st Q (t_rz4 w1 t1.1 t1.2.2.1 t1.2.2.2 k18 pe (Nat.le_refl _) (t_rz50 w1 t1.1 t1.2.2.1 t1.2.2.2 k18 hl (Nat.le_refl _) (t_rz81 w1 t1.1 t1.2.2.1 t1.2.2.2 k18 hd (Nat.le_refl _) (run2 Q (t_rzB w2 t2.1 t2.2.2.1 t2.2.2.2 k28 k27 (fun z => l4 (d4.mp z)) (Nat.le_refl _) hQ)))))⟩
          · rw [kwi_o (by decide)]
            exact k27
          · rw [kwi_o (by decide)]
            exact k28
    · have hl : ∀ Q : KO → Prop, Q (some (.int 1), k1) → Cl 1 203 [.ref 59, .int (Int32.ofNat j), .int 97, .int 122] k1 Q := fun Q hQ => s_isB (lo := 97) (hi := 122) w1 t1 (by decide) (by decide) hjl (by
        rw [← bl]
        have : (Nat.ble 97 (T.getD j 0) && Nat.ble (T.getD j 0) 122) = true := q
        rw [this]
        exact hQ)
      rw [if_pos rfl]
      obtain ⟨k2, f2, k28, run2⟩ := s_rdR (T := T) (pc1 := 76) (pc2 := 104) (lo := 97) (hi := 122) (p0 := isLt) (by decide) (by decide) (fun b => rfl) (fun Q h p hw t hp hin hQ => t_rz60 hw t.1 t.2.2.1 t.2.2.2 hp hin (Nat.le_refl _) hQ) (fun Q h p hw t hp hin hQ => t_rz61 hw t.1 t.2.2.1 t.2.2.2 hp hin (Nat.le_refl _) hQ) _ j k1 rfl w1 t1 k18 hjl
      have f02 : FQ rdF h k2 := f01.trans (f2.mono (fun q z => by unfold rdF; omega))
      have k27 : k2.2.2.1 59 7 = Int32.ofNat j := (f2.2.2.2.2 7 (by decide)).trans k17
      have w2 := f2.wf w1
      have t2 := f2.tp (by decide) t1
      have el := runE_len isLt hjl
      have eg := runE_le T isLt j
      have hx : ∀ Q : KO → Prop, Q (some (.int (Int32.ofNat (wIx NMR 0 26 (sliT T j (runE T isLt j))))), k2) → Cl 1 205 [.ref 59] k2 Q := fun Q hQ => s_word w2 (f2.nm n1) t2 k27 k28 eg el (fun x h1 h2 => (runE_in h1 h2).2) hQ
      have rk := rk_word (sliT T j (runE T isLt j))
      have c27 := wIx_lt (z := 27) (W := sliT T j (runE T isLt j)) NMC 0
      have lC : NMC.length = 18 := by decide
      rw [lC] at c27
      refine ⟨kwi k2 59 6 (Int32.ofNat (wIx NMR 0 26 (sliT T j (runE T isLt j)))), f02.i (by unfold rdF; decide), ⟨?_, ?_, ?_, fun z => ?_, fun z => ?_⟩, fun Q hQ => st Q (t_rz4 w1 t1.1 t1.2.2.1 t1.2.2.2 k18 pe (Nat.le_refl _) (t_rz51 w1 t1.1 t1.2.2.1 t1.2.2.2 k18 hl (Nat.le_refl _) (run2 Q (t_rz7 w2 hx (Nat.le_refl _) hQ))))⟩
      · rw [kwi_s]
        simp only []
        rw [rk]
      · rw [kwi_o (by decide)]
        exact k27
      · rw [kwi_o (by decide)]
        exact k28
      · simp only [] at z
        omega
      · simp only [] at z
        omega
  · rw [if_neg jl]
    have ejl : j = T.length := by omega
    refine ⟨kwi k1 59 6 25, r6 6 25 (by decide) (by decide), ⟨kwi_s, ?_, ?_, fun z => absurd z (show ¬ 100 ≤ 26 by decide), fun z => absurd z (show ¬ (20 ≤ 26 ∧ 26 ≤ 22) by decide)⟩, fun Q hQ => st Q (t_rz3 w1 t1.1 t1.2.2.1 t1.2.2.2 k18 (by rw [ejl]) (Nat.le_refl _) hQ)⟩
    · rw [kwi_o (by decide), k17, ejl]
    · rw [kwi_o (by decide), k18, ejl]
