/-! KM: the class: the tokens -/
theorem nle2 {a b : Nat} (ha : a < 100000) (hb : b < 100000) : (Int32.ofNat a ≤ Int32.ofNat b) ↔ a ≤ b := by
  rw [zle (znat (n := a) (by omega)) (znat (n := b) (by omega))]
  omega
theorem neq2 {a b : Nat} (ha : a < 100000) (hb : b < 100000) : (Int32.ofNat a = Int32.ofNat b) ↔ a = b := by
  rw [zeq (znat (n := a) (by omega)) (znat (n := b) (by omega))]
  omega
theorem nlt2 {a b : Nat} (ha : a < 100000) (hb : b < 100000) : (Int32.ofNat a < Int32.ofNat b) ↔ a < b := by
  rw [zlt (znat (n := a) (by omega)) (znat (n := b) (by omega))]
  omega
theorem sb_tab : kall1 256 (fun b => decide ((sbyte b).toInt = if b < 128 then (b : Int) else (b : Int) - 256)) = true := by decide +kernel
theorem sb_int {b : Nat} (h : b < 256) : (sbyte b).toInt = if b < 128 then (b : Int) else (b : Int) - 256 := of_decide_eq_true (kall1_ok sb_tab h)
theorem sb_eq {b c : Nat} (hb : b < 256) (hc : c < 128) : sbyte b = Int32.ofNat c ↔ b = c := by
  rw [zeq (sb_int hb) (znat (n := c) (by omega))]
  split <;> omega
def SBn : List Nat := [104, 97, 110, 100, 32, 99, 104, 105, 108, 100, 32, 103, 101, 110, 101, 114, 97, 108, 32, 109, 111, 116, 104, 101, 114, 32, 114, 117, 98, 98, 101, 114, 32, 100, 111, 103, 32, 100, 114, 97, 119, 32, 114, 101, 115, 116, 32, 114, 117, 98, 32, 105, 102, 32, 111, 114, 32, 97, 110, 100, 32, 110, 111, 116, 32, 100, 117, 115, 107, 32, 97, 116, 32, 102, 97, 99, 105, 110, 103, 32, 99, 104, 97, 108, 107, 32, 110, 117, 109, 98, 101, 114, 32]
theorem SB_tab : kall1 93 (fun k => decide (kSB.getD k 0 = Int32.ofNat (SBn.getD k 0)) && decide (SBn.getD k 0 < 128)) = true := by decide +kernel
theorem SB_get {k : Nat} (h : k < 93) : kSB.getD k 0 = Int32.ofNat (SBn.getD k 0) ∧ SBn.getD k 0 < 128 := by
  have := kall1_ok SB_tab h
  simp only [Bool.and_eq_true, decide_eq_true_eq] at this
  exact this
theorem SB_words : SBn = (NMC.map (fun w => w ++ [32])).flatten := by decide
theorem SB_len : SBn.length = 93 := by decide
def nmF (T : List Nat) (i j : Nat) : List Nat → Nat → Nat → Bool → Nat
  | [], _, _, _ => 27
  | c :: r, m, a, s => if c = 32 then (if s = true ∧ a = j then m else nmF T i j r (m + 1) i true) else nmF T i j r m (a + 1) (s && (decide (a < j) && decide (T.getD a 0 = c)))
theorem s_nfL {d : Nat} {Q : KO → Prop} {h : KH} (hw : WF h) (nm : NM h) {T : List Nat} (hT : T.length ≤ 200) (hb : ∀ b ∈ T, b < 256) (hf : h.2.2.1 29 1 = Int32.ofNat T.length) (ht : ∀ i, i < T.length → h.2.2.1 30 i = sbyte (T.getD i 0)) {i j : Nat} (hij : i ≤ 200) (hj : j ≤ T.length) (hd : 5 ≤ d) : ∀ (cs : List Nat) (k m a : Nat) (s : Bool) (z : Option Value), k + cs.length = 93 → cs = SBn.drop k → a ≤ 200 + k → Q (some (.int (Int32.ofNat (nmF T i j cs m a s))), h) → Wp d 57 11 [some (.ref 29), some (.int (Int32.ofNat i)), some (.int (Int32.ofNat j)), some (.int (Int32.ofNat m)), some (.int (Int32.ofNat a)), some (.int (b32 s)), some (.int (Int32.ofNat k)), z] [] h Q := by
  intro cs
  induction cs with
  | nil =>
    intro k m a s z hk hc ha hQ
    exact t_nfE hw nm ((nle2 (a := 93) (by omega) (by simp at hk; omega)).mpr (by simp at hk; omega)) hd hQ
  | cons c r ih =>
    intro k m a s z hk hc ha hQ
    have hk93 : k < 93 := by
      rw [List.length_cons] at hk
      omega
    have e1 : SBn.getD k 0 = c := by
      rw [List.getD_eq_getElem?_getD, show k = k + 0 from rfl, ← List.getElem?_drop, ← hc]
      rfl
    have e2 : r = SBn.drop (k + 1) := by
      have := congrArg (List.drop 1) hc
      rw [List.drop_drop] at this
      exact this
    obtain ⟨g1, g2⟩ := SB_get hk93
    rw [e1] at g1 g2
    have hcb : h.2.2.1 1000000002 k = Int32.ofNat c := (nm.2.1 k hk93).trans g1
    have ge : ¬ (93 : Int32) ≤ Int32.ofNat k := fun z => by
      have := (nle2 (a := 93) (by omega) (by omega)).mp z
      omega
    have kk : Int32.ofNat k + (1 : Int32) = Int32.ofNat (k + 1) := (Int32.ofNat_add k 1).symm
    have aa : Int32.ofNat a + (1 : Int32) = Int32.ofNat (a + 1) := (Int32.ofNat_add a 1).symm
    have mm : Int32.ofNat m + (1 : Int32) = Int32.ofNat (m + 1) := (Int32.ofNat_add m 1).symm
    have hk1 : k + 1 + r.length = 93 := by
      rw [List.length_cons] at hk
      omega
    unfold nmF at hQ
    by_cases c32 : c = 32
    · rw [if_pos c32] at hQ
      have e32 : Int32.ofNat c = 32 := by rw [c32]; rfl
      cases s with
      | false =>
        rw [if_neg (fun z => by cases z.1)] at hQ
        refine t_nf5 hw nm hT hb hf ht hk93 g2 hcb ge e32 hd ?_
        rw [kk, mm]
        exact ih (k + 1) (m + 1) i true _ hk1 e2 (by omega) hQ
      | true =>
        by_cases ej : a = j
        · rw [if_pos ⟨rfl, ej⟩] at hQ
          exact t_nf7 hw nm hT hb hf ht hk93 g2 hcb ge e32 (by rw [ej]) hd hQ
        · rw [if_neg (fun z => ej z.2)] at hQ
          refine t_nf6 hw nm hT hb hf ht hk93 g2 hcb ge e32 (fun z => ej ((neq2 (by omega) (by omega)).mp z)) hd ?_
          rw [kk, mm]
          exact ih (k + 1) (m + 1) i true _ hk1 e2 (by omega) hQ
    · rw [if_neg c32] at hQ
      have n32 : ¬ Int32.ofNat c = 32 := fun z => c32 ((neq2 (b := 32) (by omega) (by omega)).mp z)
      cases s with
      | false =>
        refine t_nf1 hw nm hT hb hf ht hk93 g2 hcb ge n32 hd ?_
        rw [kk, aa]
        exact ih (k + 1) m (a + 1) false _ hk1 e2 (by omega) hQ
      | true =>
        rw [Bool.true_and] at hQ
        by_cases aj : a < j
        · have naj : ¬ Int32.ofNat j ≤ Int32.ofNat a := fun z => by
            have := (nle2 (by omega) (by omega)).mp z
            omega
          rw [decide_eq_true aj, Bool.true_and] at hQ
          by_cases te : T.getD a 0 = c
          · rw [decide_eq_true te] at hQ
            refine t_nf4 hw nm hT hb hf ht hk93 g2 hcb ge n32 naj (by omega) ((sb_eq (tb_lt hb a) g2).mpr te) hd ?_
            rw [kk, aa]
            exact ih (k + 1) m (a + 1) true _ hk1 e2 (by omega) hQ
          · rw [decide_eq_false te] at hQ
            refine t_nf3 hw nm hT hb hf ht hk93 g2 hcb ge n32 naj (by omega) (fun z => te ((sb_eq (tb_lt hb a) g2).mp z)) hd ?_
            rw [kk, aa]
            exact ih (k + 1) m (a + 1) false _ hk1 e2 (by omega) hQ
        · rw [decide_eq_false aj, Bool.false_and] at hQ
          refine t_nf2 hw nm hT hb hf ht hk93 g2 hcb ge n32 ((nle2 (by omega) (by omega)).mpr (by omega)) hd ?_
          rw [kk, aa]
          exact ih (k + 1) m (a + 1) false _ hk1 e2 (by omega) hQ
theorem nmF_word {T : List Nat} {i j : Nat} {r : List Nat} {m : Nat} : ∀ (w : List Nat) (a : Nat) (s : Bool), (∀ c ∈ w, c ≠ 32) → nmF T i j (w ++ 32 :: r) m a s = if (s = true ∧ a + w.length = j ∧ ∀ x, x < w.length → T.getD (a + x) 0 = w.getD x 0) then m else nmF T i j r (m + 1) i true
  | [], a, s, _ => by
    show (if 32 = 32 then (if s = true ∧ a = j then m else nmF T i j r (m + 1) i true) else _) = _
    rw [if_pos rfl]
    by_cases h : s = true ∧ a = j
    · rw [if_pos h, if_pos ⟨h.1, h.2, fun x hx => absurd hx (Nat.not_lt_zero x)⟩]
    · rw [if_neg h, if_neg (fun z => h ⟨z.1, z.2.1⟩)]
  | c :: w, a, s, hc => by
    have h0 := hc c List.mem_cons_self
    show (if c = 32 then _ else nmF T i j (w ++ 32 :: r) m (a + 1) (s && (decide (a < j) && decide (T.getD a 0 = c)))) = _
    rw [if_neg h0, nmF_word w (a + 1) _ (fun x hx => hc x (List.mem_cons_of_mem _ hx))]
    by_cases h : s = true ∧ a + (c :: w).length = j ∧ ∀ x, x < (c :: w).length → T.getD (a + x) 0 = (c :: w).getD x 0
    · obtain ⟨h1, h2, h3⟩ := h
      refine Eq.trans (if_pos ⟨?_, ?_, fun x hx => ?_⟩) (if_pos ⟨h1, h2, h3⟩).symm
      · rw [List.length_cons] at h2
        have h4 := h3 0 (by rw [List.length_cons]; omega)
        rw [h1, decide_eq_true (show a < j by omega), decide_eq_true (show T.getD a 0 = c from h4)]
        rfl
      · rw [List.length_cons] at h2
        omega
      · have := h3 (x + 1) (by rw [List.length_cons]; omega)
        rw [show a + 1 + x = a + (x + 1) by omega]
        exact this
    · rw [if_neg h]
      refine if_neg (fun z => h ?_)
      obtain ⟨z1, z2, z3⟩ := z
      simp only [Bool.and_eq_true, decide_eq_true_eq] at z1
      refine ⟨z1.1, by rw [List.length_cons]; omega, fun x hx => ?_⟩
      cases x with
      | zero => exact z1.2.2
      | succ x =>
        rw [List.length_cons] at hx
        have := z3 x (by omega)
        rw [show a + 1 + x = a + (x + 1) by omega] at this
        exact this
theorem sli_eq {T w : List Nat} {i j : Nat} (hij : i ≤ j) (hj : j ≤ T.length) : sliT T i j = w ↔ (i + w.length = j ∧ ∀ x, x < w.length → T.getD (i + x) 0 = w.getD x 0) := by
  constructor
  · rintro rfl
    have hl := sli_len (i := i) hj
    exact ⟨by omega, fun x hx => (sli_get (by omega) hj).symm⟩
  · rintro ⟨h1, h2⟩
    refine List.ext_getElem (by rw [sli_len hj]; omega) (fun x hx1 hx2 => ?_)
    have a1 := sli_get (T := T) (i := i) (j := j) (x := x) (by omega) hj
    have a2 := h2 x hx2
    rw [List.getD_eq_getElem?_getD, List.getElem?_eq_getElem hx1] at a1
    rw [List.getD_eq_getElem?_getD (l := w), List.getElem?_eq_getElem hx2] at a2
    exact a1.trans a2
theorem nmF_all {T : List Nat} {i j : Nat} (hij : i ≤ j) (hj : j ≤ T.length) : ∀ (N : List (List Nat)) (m : Nat), (∀ w ∈ N, ∀ c ∈ w, c ≠ 32) → nmF T i j ((N.map (fun w => w ++ [32])).flatten) m i true = wIx N m 27 (sliT T i j)
  | [], m, _ => rfl
  | w :: N, m, hN => by
    have e : ((w :: N).map (fun w => w ++ [32])).flatten = w ++ 32 :: (N.map (fun w => w ++ [32])).flatten := by
      rw [List.map_cons, List.flatten_cons, List.append_assoc]
      rfl
    rw [e, nmF_word w i true (hN w List.mem_cons_self), nmF_all hij hj N (m + 1) (fun x hx => hN x (List.mem_cons_of_mem _ hx))]
    show _ = if sliT T i j = w then m else wIx N (m + 1) 27 (sliT T i j)
    by_cases q : sliT T i j = w
    · rw [if_pos q, if_pos ⟨rfl, (sli_eq hij hj).mp q⟩]
    · rw [if_neg q, if_neg (fun z => q ((sli_eq hij hj).mpr z.2))]
theorem NMC_32 : ∀ w ∈ NMC, ∀ c ∈ w, c ≠ 32 := by decide
theorem s_nameFrom {d : Nat} {Q : KO → Prop} {h : KH} (hw : WF h) (nm : NM h) {T : List Nat} (hT : T.length ≤ 200) (hb : ∀ b ∈ T, b < 256) (hf : h.2.2.1 29 1 = Int32.ofNat T.length) (ht : ∀ i, i < T.length → h.2.2.1 30 i = sbyte (T.getD i 0)) {i j : Nat} (hij : i ≤ j) (hj : j ≤ T.length) (hd : 5 ≤ d) (hQ : Q (some (.int (Int32.ofNat (wIx NMC 0 27 (sliT T i j)))), h)) : Cl d 57 [.ref 29, .int (Int32.ofNat i), .int (Int32.ofNat j)] h Q := by
  refine t_nf0 (Nat.zero_le _) ?_
  refine s_nfL hw nm hT hb hf ht (by omega) hj hd SBn 0 0 i true none (by rw [SB_len]) rfl (by omega) ?_
  have := nmF_all hij hj NMC 0 NMC_32
  rw [← SB_words] at this
  rw [this]
  exact hQ
theorem kwi_kwi (h : KH) (a j : Nat) (x y : Int32) : kwi (kwi h a j x) a j y = kwi h a j y := by
  show (h.1, h.2.1, ku (ku h.2.2.1 a (ku (h.2.2.1 a) j x)) a (ku (ku h.2.2.1 a (ku (h.2.2.1 a) j x) a) j y), h.2.2.2.1, h.2.2.2.2) = _
  rw [ku_s, ku_u, ku_u]
  rfl
theorem kwi_id {h : KH} {a j : Nat} {x : Int32} (e : h.2.2.1 a j = x) : kwi h a j x = h := by
  subst e
  show (h.1, h.2.1, ku h.2.2.1 a (ku (h.2.2.1 a) j (h.2.2.1 a j)), h.2.2.2.1, h.2.2.2.2) = h
  rw [ku_self, ku_self]
theorem NM_i {h : KH} (n : NM h) {a j : Nat} {x : Int32} (ha : a < 1000) : NM (kwi h a j x) := ⟨fun i hi => by rw [kwi_r (by omega)]; exact n.1 i hi, fun i hi => by rw [kwi_r (by omega)]; exact n.2.1 i hi, by rw [kwi_r (by omega)]; exact n.2.2⟩
/-- the tape as the class has it -/
def tpO (h : KH) (T : List Nat) : Prop := T.length ≤ 200 ∧ (∀ b ∈ T, b < 256) ∧ h.2.2.1 29 1 = Int32.ofNat T.length ∧ ∀ i, i < T.length → h.2.2.1 30 i = sbyte (T.getD i 0)
theorem tpO_i {h : KH} {T : List Nat} (t : tpO h T) {a j : Nat} {x : Int32} (ha : a ≠ 30) (h1 : a = 29 → j ≠ 1) : tpO (kwi h a j x) T := by
  refine ⟨t.1, t.2.1, ?_, fun i hi => ?_⟩
  · by_cases e : a = 29
    · subst e
      rw [kwi_o (h1 rfl).symm]
      exact t.2.2.1
    · rw [kwi_r (fun z => e z.symm)]
      exact t.2.2.1
  · rw [kwi_r (fun z => ha z.symm)]
    exact t.2.2.2 i hi
theorem s_nhL {d : Nat} {Q : KO → Prop} {T : List Nat} {i e0 : Nat} (hd : 6 ≤ d) : ∀ (m p : Nat) (h : KH), T.length - p = m → WF h → NM h → tpO h T → h.2.2.1 29 4 = Int32.ofNat p → i ≤ p → p ≤ T.length → runE T isLt p = e0 → Q (some (.int (Int32.ofNat (wIx NMC 0 27 (sliT T i e0)))), kwi h 29 4 (Int32.ofNat e0)) → Wp d 55 5 [some (.ref 29), some (.int (Int32.ofNat i))] [] h Q := by
  intro m
  induction m with
  | zero =>
    intro p h hm hw nm t hp hip hpl he hQ
    have ep : p = e0 := by rw [← he, runE_n (fun z => by omega)]
    subst ep
    rw [kwi_id hp] at hQ
    refine t_nhE hw t.1 t.2.1 t.2.2.1 t.2.2.2 hp ((nle2 (by have := t.1; omega) (by have := t.1; omega)).mpr (by omega)) hd ?_
    exact t_nhR hw hp (fun Q hQ => s_nameFrom hw nm t.1 t.2.1 t.2.2.1 t.2.2.2 hip hpl (Nat.le_refl _) hQ) hd hQ
  | succ m ih =>
    intro p h hm hw nm t hp hip hpl he hQ
    have hT := t.1
    have pl : p < T.length := by omega
    have ge : ¬ Int32.ofNat T.length ≤ Int32.ofNat p := fun z => by
      have := (nle2 (by omega) (by omega)).mp z
      omega
    rcases q : isLt (T.getD p 0) with _ | _
    · have ep : p = e0 := by rw [← he, runE_n (fun z => by rw [q] at z; cases z.2)]
      subst ep
      rw [kwi_id hp] at hQ
      refine t_nhN hw t.1 t.2.1 t.2.2.1 t.2.2.2 hp ge pl q hd ?_
      exact t_nhR hw hp (fun Q hQ => s_nameFrom hw nm t.1 t.2.1 t.2.2.1 t.2.2.2 hip hpl (Nat.le_refl _) hQ) hd hQ
    · refine t_nhY hw t.1 t.2.1 t.2.2.1 t.2.2.2 hp ge pl q hd ?_
      rw [show Int32.ofNat p + (1 : Int32) = Int32.ofNat (p + 1) from (Int32.ofNat_add p 1).symm]
      refine ih (p + 1) _ (by omega) (WF_i hw) (NM_i nm (by decide)) (tpO_i t (by decide) (fun _ => by decide)) kwi_s (by omega) pl (by rw [← he, runE_y pl q]) ?_
      rw [kwi_kwi]
      exact hQ
theorem s_nameHere {Q : KO → Prop} {T : List Nat} {p : Nat} {h : KH} (hw : WF h) (nm : NM h) (t : tpO h T) (hp : h.2.2.1 29 4 = Int32.ofNat p) (hpl : p ≤ T.length) (hQ : Q (some (.int (Int32.ofNat (wIx NMC 0 27 (sliT T p (runE T isLt p))))), kwi h 29 4 (Int32.ofNat (runE T isLt p)))) : Cl 6 55 [.ref 29] h Q :=
  t_nh0 hw hp (Nat.le_refl _) (s_nhL (Nat.le_refl _) _ p h rfl hw nm t hp (Nat.le_refl _) hpl rfl hQ)
theorem numT_snoc (b : Nat) : ∀ (W : List Nat) (v : Nat), numT (W ++ [b]) v = 10 * numT W v + (b - 48)
  | [], v => rfl
  | c :: W, v => numT_snoc b W (10 * v + (c - 48))
theorem sli_snoc {T : List Nat} {i p : Nat} (hip : i ≤ p) (pl : p < T.length) : sliT T i (p + 1) = sliT T i p ++ [T.getD p 0] := by
  refine (sli_eq (by omega) pl).mpr ⟨by rw [List.length_append, sli_len (by omega), List.length_cons, List.length_nil]; omega, fun x hx => ?_⟩
  rw [List.length_append, sli_len (by omega), List.length_cons, List.length_nil] at hx
  by_cases e : x < p - i
  · rw [List.getD_eq_getElem?_getD (l := sliT T i p ++ _), List.getElem?_append_left (by rw [sli_len (by omega)]; exact e), ← List.getD_eq_getElem?_getD, sli_get e (by omega)]
  · obtain rfl : x = p - i := by omega
    rw [List.getD_eq_getElem?_getD (l := sliT T i p ++ _), List.getElem?_append_right (by rw [sli_len (by omega)]; exact Nat.le_refl _), sli_len (by omega), Nat.sub_self, show i + (p - i) = p by omega]
    rfl
theorem num_step {N b : Nat} (hN : N < 1000) (h1 : 48 ≤ b) (h2 : b ≤ 57) : (Int32.ofNat N * (10 : Int32) + sbyte b) - (48 : Int32) = Int32.ofNat (10 * N + (b - 48)) := by
  have e := sb_int (b := b) (by omega)
  rw [if_pos (by omega)] at e
  refine zidx (zs (zc (zm (znat (n := N) (by omega)) (n := 10) rfl (by omega)) e (by omega)) (n := 48) rfl (by omega) |>.trans ?_)
  omega
theorem s_uhL {d : Nat} {Q : KO → Prop} {T : List Nat} {i e0 : Nat} (hd : 6 ≤ d) (he4 : e0 ≤ T.length) : ∀ (m p : Nat) (z : Int32) (h : KH), T.length - p = m → WF h → tpO h T → h.2.2.1 29 4 = Int32.ofNat p → i ≤ p → p ≤ T.length → runE T isDg p = e0 → (∀ j, i ≤ j → j < p → isDg (T.getD j 0) = true) → (p - i ≤ 4 → z = Int32.ofNat (numT (sliT T i p) 0)) → Q (some (.int (Int32.ofNat (if e0 - i ≤ 4 then 100 + numT (sliT T i e0) 0 else 27))), kwi h 29 4 (Int32.ofNat e0)) → Wp d 56 7 [some (.ref 29), some (.int (Int32.ofNat i)), some (.int z)] [] h Q := by
  intro m
  have fin : ∀ (p : Nat) (z : Int32) (h : KH), WF h → tpO h T → h.2.2.1 29 4 = Int32.ofNat p → i ≤ p → p = e0 → (p - i ≤ 4 → z = Int32.ofNat (numT (sliT T i p) 0)) → Q (some (.int (Int32.ofNat (if e0 - i ≤ 4 then 100 + numT (sliT T i e0) 0 else 27))), kwi h 29 4 (Int32.ofNat e0)) → Wp d 56 64 [some (.ref 29), some (.int (Int32.ofNat i)), some (.int z)] [] h Q := fun p z h hw t hp hip ep hz hQ => by
    subst ep
    have hT := t.1
    rw [kwi_id hp] at hQ
    have e4 : (Int32.ofNat p - Int32.ofNat i ≤ 4) ↔ p - i ≤ 4 := by
      rw [zle (zs (znat (n := p) (by omega)) (znat (n := i) (by omega)) (by omega)) (y := 4) (n := 4) rfl]
      omega
    by_cases d4 : p - i ≤ 4
    · rw [if_pos d4] at hQ
      refine t_uhR hw hp (e4.mpr d4) hd ?_
      rw [hz d4, show (100 : Int32) = Int32.ofNat 100 from rfl, ← Int32.ofNat_add]
      exact hQ
    · rw [if_neg d4] at hQ
      exact t_uhX hw hp (fun c => d4 (e4.mp c)) hd hQ
  induction m with
  | zero =>
    intro p z h hm hw t hp hip hpl he hdg hz hQ
    have hT := t.1
    have ep : p = e0 := by rw [← he, runE_n (fun z => by omega)]
    exact t_uhE hw t.1 t.2.1 t.2.2.1 t.2.2.2 hp ((nle2 (by omega) (by omega)).mpr (by omega)) hd (fin p z h hw t hp hip ep hz hQ)
  | succ m ih =>
    intro p z h hm hw t hp hip hpl he hdg hz hQ
    have hT := t.1
    have pl : p < T.length := by omega
    have ge : ¬ Int32.ofNat T.length ≤ Int32.ofNat p := fun z => by
      have := (nle2 (by omega) (by omega)).mp z
      omega
    rcases q : isDg (T.getD p 0) with _ | _
    · have ep : p = e0 := by rw [← he, runE_n (fun z => by rw [q] at z; cases z.2)]
      exact t_uhN hw t.1 t.2.1 t.2.2.1 t.2.2.2 hp ge pl q hd (fin p z h hw t hp hip ep hz hQ)
    · refine t_uhY hw t.1 t.2.1 t.2.2.1 t.2.2.2 hp ge pl q hd ?_
      rw [show Int32.ofNat p + (1 : Int32) = Int32.ofNat (p + 1) from (Int32.ofNat_add p 1).symm]
      have q' := q
      simp only [isDg, Bool.and_eq_true, Nat.ble_eq] at q'
      refine ih (p + 1) _ _ (by omega) (WF_i hw) (tpO_i t (by decide) (fun _ => by decide)) kwi_s (by omega) pl (by rw [← he, runE_y pl q]) (fun j h1 h2 => ?_) (fun d4 => ?_) (by rw [kwi_kwi]; exact hQ)
      · by_cases e : j = p
        · rw [e]; exact q
        · exact hdg j h1 (by omega)
      · have hn := numT_lt (sliT T i p) 0 (fun b hb => by
          have := sli_mem hdg (Nat.le_of_lt pl) b hb
          simp only [isDg, Bool.and_eq_true, Nat.ble_eq] at this
          exact this.2)
        rw [sli_len (Nat.le_of_lt pl)] at hn
        have hp3 : 10 ^ (p - i) ≤ 10 ^ 3 := Nat.pow_le_pow_right (by decide) (by omega)
        rw [hz (by omega), num_step (by omega) q'.1 q'.2, sli_snoc hip pl, numT_snoc]
theorem s_numberHere {Q : KO → Prop} {T : List Nat} {p : Nat} {h : KH} (hw : WF h) (t : tpO h T) (hp : h.2.2.1 29 4 = Int32.ofNat p) (hpl : p ≤ T.length) (hQ : Q (some (.int (Int32.ofNat (if runE T isDg p - p ≤ 4 then 100 + numT (sliT T p (runE T isDg p)) 0 else 27))), kwi h 29 4 (Int32.ofNat (runE T isDg p)))) : Cl 6 56 [.ref 29] h Q := by
  refine t_uh0 hw hp (Nat.le_refl _) (s_uhL (Nat.le_refl _) (runE_len isDg hpl) _ p 0 h rfl hw t hp (Nat.le_refl _) hpl rfl (fun j h1 h2 => by omega) (fun _ => ?_) hQ)
  have : sliT T p p = [] := by
    unfold sliT
    rw [Nat.sub_self, List.take_zero]
  rw [this]
  rfl
theorem s_tokenHere {Q : KO → Prop} {T : List Nat} {p : Nat} {h : KH} (hw : WF h) (nm : NM h) (t : tpO h T) (hp : h.2.2.1 29 4 = Int32.ofNat p) (pl : p < T.length) (hbl : isBl (T.getD p 0) = false) (hQ : Q (some (.int (Int32.ofNat (tokT T p).1)), kwi h 29 4 (Int32.ofNat (tokT T p).2.2))) : Cl 7 54 [.ref 29] h Q := by
  have e : runE T isBl p = p := runE_n (fun z => by rw [hbl] at z; cases z.2)
  unfold tokT at hQ
  rw [e, if_pos pl] at hQ
  rcases q : isLt (T.getD p 0) with _ | _
  · rw [if_neg (by rw [q]; decide)] at hQ
    rcases q2 : isDg (T.getD p 0) with _ | _
    · rw [if_neg (by rw [q2]; decide)] at hQ
      refine t_thC hw t.1 t.2.1 t.2.2.1 t.2.2.2 hp pl q q2 (Nat.le_refl _) ?_
      rw [show Int32.ofNat p + (1 : Int32) = Int32.ofNat (p + 1) from (Int32.ofNat_add p 1).symm]
      exact hQ
    · rw [if_pos q2] at hQ
      exact t_thB hw t.1 t.2.1 t.2.2.1 t.2.2.2 hp pl q q2 (fun Q hQ => s_numberHere hw t hp (Nat.le_of_lt pl) hQ) (Nat.le_refl _) hQ
  · rw [if_pos q] at hQ
    exact t_thA hw t.1 t.2.1 t.2.2.1 t.2.2.2 hp pl q (fun Q hQ => s_nameHere hw nm t hp (Nat.le_of_lt pl) hQ) (Nat.le_refl _) hQ
theorem tokT_eq {T : List Nat} {i j : Nat} (e : runE T isBl i = runE T isBl j) : tokT T i = tokT T j := by
  unfold tokT
  rw [e]
/-- the tokens as the class has them -/
def clO (h : KH) (T : List Nat) (N : Nat) : Prop := N ≤ 200 ∧ lvT (tkC T) N ∧ tkC T N = 26 ∧ ∀ j, j ≤ N → h.2.2.1 31 j = Int32.ofNat (tkC T j) ∧ h.2.2.1 32 j = Int32.ofNat (tkB T j)
def pSp : Nat → Prop := fun c => c = 29 ∨ c = 31 ∨ c = 32
theorem s_spL {d : Nat} {Q : KO → Prop} {T : List Nat} {h0 : KH} (hd : 8 ≤ d) (hQ : ∀ k N, Fr pSp noP h0 k → clO k T N → k.2.2.1 29 1 = 0 → k.2.2.1 29 5 = 0 → k.2.2.1 29 6 = Int32.ofNat (tkC T 0) → Q (none, k)) : ∀ (n p q m : Nat) (h : KH), T.length - p ≤ n → Fr pSp noP h0 h → WF h → NM h → tpO h T → h.2.2.1 29 4 = Int32.ofNat p → p ≤ T.length → m ≤ p → lvT (tkC T) q → runE T isBl p = runE T isBl (posT T q) → posT T q ≤ p → (∀ j, j < q → h.2.2.1 31 j = Int32.ofNat (tkC T j) ∧ h.2.2.1 32 j = Int32.ofNat (tkB T j)) → Wp d 53 9 [some (.ref 29), some (.int (Int32.ofNat q)), some (.int (Int32.ofNat m))] [] h Q := by
  intro n
  induction n with
  | zero =>
    intro p q m h hn f hw nm t hp hpl hmp hq er hqp ha
    have hT := t.1
    have hql := lvT_le hq
    have ep : runE T isBl p = p := runE_n (fun z => by omega)
    have c26 : tkC T q = 26 := (tokT_c T (posT T q)).2.2.mpr (by rw [← er, ep]; omega)
    have b26 : tkB T q = T.length := by
      unfold tkB tokT
      rw [if_neg (by rw [← er, ep]; omega)]
    have fin : Wp d 53 83 [some (.ref 29), some (.int (Int32.ofNat q)), some (.int (Int32.ofNat m))] [] h Q := by
      refine t_spZ hw t.1 t.2.1 t.2.2.1 t.2.2.2 (by omega) hd ?_
      have f4 : Fr pSp noP h (kwi (kwi (kwi (kwi h 32 q (Int32.ofNat T.length)) 31 q (26 : Int32)) 29 1 (0 : Int32)) 29 5 (0 : Int32)) := (((fr_kwi (Or.inr (Or.inr rfl)) (by decide)).trans (fr_kwi (Or.inr (Or.inl rfl)) (by decide))).trans (fr_kwi (Or.inl rfl) (by decide))).trans (fr_kwi (Or.inl rfl) (by decide))
      have c31 : ∀ j, j ≤ q → (kwi (kwi (kwi (kwi h 32 q (Int32.ofNat T.length)) 31 q (26 : Int32)) 29 1 (0 : Int32)) 29 5 (0 : Int32)).2.2.1 31 j = Int32.ofNat (tkC T j) ∧ (kwi (kwi (kwi (kwi h 32 q (Int32.ofNat T.length)) 31 q (26 : Int32)) 29 1 (0 : Int32)) 29 5 (0 : Int32)).2.2.1 32 j = Int32.ofNat (tkB T j) := fun j hj => by
        rw [kwi_r (by decide), kwi_r (by decide), kwi_r (a := 29) (c := 32) (by decide), kwi_r (a := 29) (c := 32) (by decide), kwi_r (a := 31) (c := 32) (by decide)]
        by_cases e : j = q
        · subst e
          rw [kwi_s, kwi_s, c26, b26]
          exact ⟨rfl, rfl⟩
        · rw [kwi_o e, kwi_o e, kwi_r (by decide)]
          exact ha j (by omega)
      refine t_spY (c := Int32.ofNat (tkC T 0)) (WF_i (WF_i (WF_i (WF_i hw)))) (c31 0 (Nat.zero_le _)).1 hd ?_
      refine hQ _ q (f.trans (f4.trans (fr_kwi (Or.inl rfl) (by decide)))) ⟨by omega, hq, c26, fun j hj => ?_⟩ ?_ ?_ kwi_s
      · rw [kwi_r (by decide), kwi_r (a := 29) (c := 32) (by decide)]
        exact c31 j hj
      · rw [kwi_o (by decide), kwi_o (by decide), kwi_s]
      · rw [kwi_o (by decide), kwi_s]
    exact t_spE hw t.1 t.2.1 t.2.2.1 t.2.2.2 hp ((nle2 (by omega) (by omega)).mpr (by omega)) hd ⟨fun _ => fin, fun _ => fin⟩
  | succ n ih =>
    intro p q m h hn f hw nm t hp hpl hmp hq er hqp ha
    have hT := t.1
    have hql := lvT_le hq
    by_cases pl : p < T.length
    case neg => exact ih p q m h (by omega) f hw nm t hp hpl hmp hq er hqp ha
    have ge : ¬ Int32.ofNat T.length ≤ Int32.ofNat p := fun z => by
      have := (nle2 (by omega) (by omega)).mp z
      omega
    have m2 : ¬ (200 : Int32) ≤ Int32.ofNat m := n200 (by omega)
    have pp : Int32.ofNat p + (1 : Int32) = Int32.ofNat (p + 1) := (Int32.ofNat_add p 1).symm
    have mm : Int32.ofNat m + (1 : Int32) = Int32.ofNat (m + 1) := (Int32.ofNat_add m 1).symm
    have qq : Int32.ofNat q + (1 : Int32) = Int32.ofNat (q + 1) := (Int32.ofNat_add q 1).symm
    have eb := (lt_e (tb_lt t.2.1 p)).2.2.2
    by_cases e : sbyte (T.getD p 0) = 32
    · rw [decide_eq_true e] at eb
      refine t_spB hw t.1 t.2.1 t.2.2.1 t.2.2.2 hp m2 ge pl e hd ?_
      rw [pp, mm]
      refine ih (p + 1) q (m + 1) _ (by omega) (f.trans (fr_kwi (Or.inl rfl) (by decide))) (WF_i hw) (NM_i nm (by decide)) (tpO_i t (by decide) (fun _ => by decide)) kwi_s pl (by omega) hq (by rw [← er, runE_y pl eb]) (by omega) (fun j hj => ?_)
      rw [kwi_r (by decide), kwi_r (a := 29) (c := 32) (by decide)]
      exact ha j hj
    · rw [decide_eq_false e] at eb
      have ep : runE T isBl p = p := runE_n (fun z => by rw [eb] at z; cases z.2)
      have et : tokT T p = tokT T (posT T q) := tokT_eq er
      have n26 : tkC T q ≠ 26 := fun z => by
        have := (tokT_c T (posT T q)).2.2.mp z
        rw [← er, ep] at this
        exact this pl
      have t1 : tpO (kwi h 32 q (Int32.ofNat p)) T := tpO_i t (by decide) (fun z => absurd z (by decide))
      obtain ⟨x1, x2, x3, _⟩ := tokT_p (T := T) (i := p) hpl
      have x3 := x3 (by rw [et]; exact n26)
      have etb : tkB T q = p := by
        unfold tkB tokT
        rw [← er, ep, if_pos pl]
        split
        · rfl
        · split <;> rfl
      refine t_spK (c := Int32.ofNat (tokT T p).1) (x := (tokT T p).2.2) hw t.1 t.2.1 t.2.2.1 t.2.2.2 hp m2 ge pl (by omega) e (fun Q hQ => s_tokenHere (WF_i hw) (NM_i nm (by decide)) t1 (by rw [kwi_r (by decide)]; exact hp) pl eb hQ) hd ?_
      rw [qq, mm]
      refine ih (tokT T p).2.2 (q + 1) (m + 1) _ (by omega) (f.trans (((fr_kwi (Or.inr (Or.inr rfl)) (by decide)).trans (fr_kwi (Or.inl rfl) (by decide))).trans (fr_kwi (Or.inr (Or.inl rfl)) (by decide)))) (WF_i (WF_i (WF_i hw))) (NM_i (NM_i (NM_i nm (by decide)) (by decide)) (by decide)) (tpO_i (tpO_i t1 (by decide) (fun _ => by decide)) (by decide) (fun z => absurd z (by decide))) (by rw [kwi_r (by decide)]; exact kwi_s) x1 (by omega) (hq.s n26) ?_ ?_ (fun j hj => ?_)
      · rw [et]
        rfl
      · rw [et]
        exact Nat.le_refl _
      · rw [kwi_r (a := 31) (c := 32) (by decide), kwi_r (a := 29) (c := 32) (by decide)]
        by_cases ej : j = q
        · subst ej
          rw [kwi_s, kwi_s, etb, et]
          exact ⟨rfl, rfl⟩
        · rw [kwi_o ej, kwi_o ej, kwi_r (by decide), kwi_r (by decide)]
          exact ha j (by omega)
theorem s_split {Q : KO → Prop} {T : List Nat} {h : KH} (hw : WF h) (nm : NM h) (t : tpO h T) (hQ : ∀ k N, Fr pSp noP h k → clO k T N → k.2.2.1 29 1 = 0 → k.2.2.1 29 5 = 0 → k.2.2.1 29 6 = Int32.ofNat (tkC T 0) → Q (none, k)) : Cl 8 53 [.ref 29] h Q :=
  t_sp0 hw (Nat.le_refl _) (s_spL (Nat.le_refl _) hQ _ 0 0 0 _ (Nat.le_refl _) (fr_kwi (Or.inl rfl) (by decide)) (WF_i hw) (NM_i nm (by decide)) (tpO_i t (by decide) (fun _ => by decide)) kwi_s (Nat.zero_le _) (Nat.le_refl _) (fun j hj => absurd hj (Nat.not_lt_zero j)) rfl (Nat.le_refl _) (fun j hj => absurd hj (Nat.not_lt_zero j)))
