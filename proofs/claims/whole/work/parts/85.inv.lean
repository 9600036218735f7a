/-! KM: what both sides keep besides the city; the whole invariant -/
/-- an array of the reference that holds A -/
def refS (S A : Nat → Int32) (RL : List Rul) (n c dn en : Nat) : Prop := nrm S = A ∧ okS S n c dn en ∧ rulesS S RL
theorem refOK_S {h : KH} {A : Nat → Int32} {RL : List Rul} {n c dn en : Nat} : refOK h A RL n c dn en ↔ refS (h.2.2.1 60) A RL n c dn en := Iff.rfl
/-- the reports of the class, the latest first -/
def crep (h : KH) : List (Nat × Nat × Nat) → Option Nat → Prop
  | [], v => v = none
  | (k, l, m) :: r, v => ∃ o, v = some o ∧ 75 ≤ o ∧ o < h.2.2.2.2.1 ∧ h.1 o = (7, 0) ∧ h.2.2.1 o 0 = Int32.ofNat r.length ∧ h.2.2.1 o 1 = Int32.ofNat k ∧ h.2.2.1 o 2 = Int32.ofNat l ∧ h.2.2.1 o 3 = Int32.ofNat m ∧ crep h r (h.2.1 o 4)
def mrep (S : Nat → Int32) : List (Nat × Nat × Nat) → Prop
  | [] => True
  | (k, l, m) :: r => S (35 + 3 * r.length) = Int32.ofNat k ∧ S (35 + 3 * r.length + 1) = Int32.ofNat l ∧ S (35 + 3 * r.length + 2) = Int32.ofNat m ∧ k < 16 ∧ l < 12 ∧ m < 12 ∧ mrep S r
def reps (h : KH) (v : Option Nat) (S : Nat → Int32) (RP : List (Nat × Nat × Nat)) : Prop := crep h RP v ∧ S 9 = Int32.ofNat RP.length ∧ RP.length ≤ 6 ∧ mrep S RP
theorem crep_fr {h k : KH} (eN : h.2.2.2.2.1 ≤ k.2.2.2.2.1) (e1 : ∀ c, 75 ≤ c → c < h.2.2.2.2.1 → k.1 c = h.1 c) (eR : ∀ c i, 75 ≤ c → c < h.2.2.2.2.1 → k.2.1 c i = h.2.1 c i) (eI : ∀ c, 75 ≤ c → c < h.2.2.2.2.1 → k.2.2.1 c = h.2.2.1 c) : ∀ (RP : List (Nat × Nat × Nat)) (v : Option Nat), crep h RP v → crep k RP v
  | [], _, hr => hr
  | (a, l, m) :: r, v, hr => by
    obtain ⟨o, p1, p2, p9, p3, p4, p5, p6, p7, p8⟩ := hr
    refine ⟨o, p1, p2, Nat.lt_of_lt_of_le p9 eN, by rw [e1 o p2 p9]; exact p3, by rw [eI o p2 p9]; exact p4, by rw [eI o p2 p9]; exact p5, by rw [eI o p2 p9]; exact p6, by rw [eI o p2 p9]; exact p7, ?_⟩
    rw [eR o 4 p2 p9]
    exact crep_fr eN e1 eR eI r _ p8
theorem mrep_fr {S T : Nat → Int32} (e : ∀ m, 35 ≤ m → T m = S m) : ∀ (RP : List (Nat × Nat × Nat)), mrep S RP → mrep T RP
  | [], _ => trivial
  | (a, l, m) :: r, hr => by
    obtain ⟨p1, p2, p3, p4⟩ := hr
    exact ⟨by rw [e _ (by omega)]; exact p1, by rw [e _ (by omega)]; exact p2, by rw [e _ (by omega)]; exact p3, p4.1, p4.2.1, p4.2.2.1, mrep_fr e r p4.2.2.2⟩
theorem reps_fr {P R : Nat → Prop} {h k : KH} {v : Option Nat} {S T : Nat → Int32} {RP : List (Nat × Nat × Nat)} (hr : reps h v S RP) (f : Fr P R h k) (kp : keepS T S) : reps k v T RP :=
  ⟨crep_fr (by rw [f.2.1]; exact Nat.le_refl _) (fun c _ _ => by rw [f.1]) (fun c i hc _ => f.2.2.2 c i (Or.inl (Or.inr hc))) (fun c hc _ => f.2.2.1 c (Or.inr hc)) RP v hr.1, by rw [kp 9 (by omega)]; exact hr.2.1, hr.2.2.1, mrep_fr (fun m hm => kp m (by omega)) RP hr.2.2.2⟩
/-- what is kept -/
def keptOK (h : KH) : Prop := (h.2.2.1 0 4 = 0 ∧ h.2.2.1 59 3 = 0) ∨ (h.2.2.1 0 4 = 1 ∧ h.2.2.1 59 3 = 1 ∧ ∃ A RL n c dn en RP, cityOK h 4 A RL n c dn en ∧ refS (h.2.2.1 61) A RL n c dn en ∧ reps h (h.2.1 4 11) (h.2.2.1 61) RP)
def sbyte (b : Nat) : Int32 := (Int32.ofNat b).toInt8.toInt32
def tapeOK (h : KH) (T : List Nat) : Prop := T.length ≤ 200 ∧ (∀ b ∈ T, b < 256) ∧ h.2.2.1 29 1 = Int32.ofNat T.length ∧ h.2.2.1 59 5 = Int32.ofNat T.length ∧ ∀ i, i < T.length → h.2.2.1 30 i = sbyte (T.getD i 0) ∧ h.2.2.1 63 i = Int32.ofNat (T.getD i 0)
def rowsOK (h : KH) (R : Nat) : Prop := R ≤ 4 ∧ h.2.2.1 0 7 = Int32.ofNat R ∧ h.2.2.1 59 20 = Int32.ofNat R ∧ ∀ k w, k < 4 → w < 3 → h.2.2.1 (34 + k) w = h.2.2.1 67 (3 * k + w)
def sheetOK (h : KH) (s : Nat) : Prop := h.2.2.1 38 s = h.2.2.1 68 s ∧ h.2.2.1 39 s = h.2.2.1 69 s ∧ inB (h.2.2.1 38 s) (-1) 4 = true ∧ ∃ z : Nat, z ≤ 40 ∧ h.2.2.1 39 s = Int32.ofNat z ∧ ∀ i, i < z → (h.2.2.2.1 70 (40 * s + i)).toInt32 = h.2.2.1 (41 + s) i
def shelfOK (h : KH) (s : Nat) : Prop := h.2.2.1 45 s = h.2.2.1 71 s ∧ (h.2.2.1 45 s = 2 ∨ (h.2.2.1 45 s = 0 ∧ h.2.2.1 46 s = h.2.2.1 72 s) ∨ (h.2.2.1 45 s = 1 ∧ h.2.2.1 46 s = h.2.2.1 72 s ∧ h.2.2.1 47 s = h.2.2.1 73 s ∧ inB (h.2.2.1 46 s) 0 4 = true))
def thingA (t : Nat) : Prop := t ∈ ([49, 51, 53, 55, 57] : List Nat)
def traceOK (h : KH) : Prop := (h.2.1 0 15 = none ∧ h.2.2.1 59 29 = 0) ∨ ∃ t g, thingA t ∧ h.2.1 0 15 = some t ∧ g ≤ 30 ∧ h.2.2.1 t 1 = Int32.ofNat g ∧ h.2.2.1 59 29 = Int32.ofNat g ∧ ∀ i, i < g → h.2.2.1 (t + 1) i = h.2.2.1 74 i
/-- all but the two cities at work -/
def Oth (h : KH) : Prop := keptOK h ∧ (∃ T, tapeOK h T) ∧ (∃ R, rowsOK h R) ∧ (∀ s, s < 4 → sheetOK h s) ∧ (∀ s, s < 4 → shelfOK h s) ∧ traceOK h
/-- what a city has of its own lies below what is made next -/
def freeOK (h : KH) : Prop := ∀ a, (a = 1 ∨ a = 4) → ∀ o, h.2.1 a 10 = some o → o + 4 < h.2.2.2.2.1
theorem free_fr {P R : Nat → Prop} {h k : KH} (hf : freeOK h) (f : Fr P R h k) (n : ¬ R 1 ∧ ¬ R 4) : freeOK k := by
  intro a ha o e
  rw [f.2.1]
  refine hf a ha o ?_
  rw [← f.2.2.2 a 10 (Or.inl (Or.inl (fun z => by rcases ha with rfl | rfl; exact n.1 z; exact n.2 z)))]
  exact e
def Inv (h : KH) : Prop := WF h ∧ (∃ A RL n c dn en RP, both h A RL n c dn en ∧ reps h (h.2.1 1 11) (h.2.2.1 60) RP) ∧ Oth h ∧ freeOK h
theorem thing_le {t : Nat} (h : thingA t) : 49 ≤ t ∧ t ≤ 57 := by
  simp only [thingA, List.mem_cons, List.not_mem_nil, or_false] at h
  omega
theorem Mild.c {h k : KH} (f : Mild h k) {c : Nat} (hc : c = 0 ∨ c = 4 ∨ c = 5 ∨ (29 ≤ c ∧ c ≤ 58) ∨ c = 61 ∨ c = 63 ∨ (67 ≤ c ∧ c ≤ 74)) : k.2.2.1 c = h.2.2.1 c := f.1.2.2.1 c (Or.inl (by unfold pU pQ; omega))
theorem Oth_mild {h k : KH} (ho : Oth h) (f : Mild h k) : Oth k := by
  obtain ⟨o1, ⟨T, o2⟩, ⟨R, o3⟩, o4, o5, o6⟩ := ho
  have g := f.2.2
  have r15 : k.2.1 0 15 = h.2.1 0 15 := f.1.2.2.2 0 15 (Or.inr ⟨by decide, by decide⟩)
  refine ⟨?_, ⟨T, ?_⟩, ⟨R, ?_⟩, fun s hs => ?_, fun s hs => ?_, ?_⟩
  · unfold keptOK at o1 ⊢
    rw [f.c (c := 0) (by omega), g 3 (by omega), f.c (c := 61) (by omega)]
    rcases o1 with o1 | ⟨a1, a2, A, RL, n, c, dn, en, RP, a3, a4, a5⟩
    · exact Or.inl o1
    · refine Or.inr ⟨a1, a2, A, RL, n, c, dn, en, RP, city_fr a3 f.1 (by unfold pU pQ; omega) (by unfold pU pQ; omega) (by unfold rQ; omega), a4, ?_⟩
      rw [f.1.2.2.2 4 11 (Or.inl (Or.inl (by unfold rQ; omega)))]
      exact reps_fr a5 f.1 (fun _ _ => rfl)
  · unfold tapeOK at o2 ⊢
    rw [f.c (c := 29) (by omega), g 5 (by omega), f.c (c := 30) (by omega), f.c (c := 63) (by omega)]
    exact o2
  · unfold rowsOK at o3 ⊢
    rw [f.c (c := 0) (by omega), g 20 (by omega), f.c (c := 67) (by omega)]
    refine ⟨o3.1, o3.2.1, o3.2.2.1, fun i w hi hw => ?_⟩
    rw [f.c (c := 34 + i) (by omega)]
    exact o3.2.2.2 i w hi hw
  · have := o4 s hs
    unfold sheetOK at this ⊢
    rw [f.c (c := 38) (by omega), f.c (c := 39) (by omega), f.c (c := 68) (by omega), f.c (c := 69) (by omega), f.c (c := 41 + s) (by omega), f.1.2.1]
    exact this
  · have := o5 s hs
    unfold shelfOK at this ⊢
    rw [f.c (c := 45) (by omega), f.c (c := 46) (by omega), f.c (c := 47) (by omega), f.c (c := 71) (by omega), f.c (c := 72) (by omega), f.c (c := 73) (by omega)]
    exact this
  · unfold traceOK at o6 ⊢
    rw [r15, g 29 (by omega), f.c (c := 74) (by omega)]
    rcases o6 with o6 | ⟨t, gg, b1, b2, b3, b4, b5, b6⟩
    · exact Or.inl o6
    · have ht := thing_le b1
      have hp : thingA t → t ≠ 58 := fun z => by
        simp only [thingA, List.mem_cons, List.not_mem_nil, or_false] at z
        omega
      refine Or.inr ⟨t, gg, b1, b2, b3, by rw [f.c (c := t) (by omega)]; exact b4, b5, fun i hi => ?_⟩
      rw [f.c (c := t + 1) (by omega)]
      exact b6 i hi
/-- what lies far is as it was -/
def far (h k : KH) : Prop := ∀ c, 900000000 ≤ c → k.1 c = h.1 c ∧ k.2.2.1 c = h.2.2.1 c
theorem far_fr {P R : Nat → Prop} {h k : KH} (f : Fr P R h k) : far h k := fun c hc => ⟨by rw [f.1], f.2.2.1 c (Or.inr (by omega))⟩
theorem far.tr {a b c : KH} (h1 : far a b) (h2 : far b c) : far a c := fun q hq => ⟨(h2 q hq).1.trans (h1 q hq).1, (h2 q hq).2.trans (h1 q hq).2⟩
/-- a call of each side, from where all is kept -/
def JI (h : KH) (Mc : Nat) (ca : List Value) (Mm : Nat) (ma : List Value) : Prop := ∃ v : Int32, Cl 15 Mc ca h (fun o => ∃ k, o = (some (.int v), k) ∧ Cl 15 Mm ma k (fun o2 => ∃ k2, o2 = (some (.int v), k2) ∧ Inv k2 ∧ k2.2.2.2.2.1 ≤ h.2.2.2.2.1 + 5 ∧ k2.2.2.2.2.2 ≤ h.2.2.2.2.2 + 240 ∧ far h k2))
theorem JI_of {h : KH} {Mc Mm : Nat} {ca ma : List Value} (hi : Inv h) (hj : ∀ A RL n c dn en, both h A RL n c dn en → JJ h RL Mc ca Mm ma) : JI h Mc ca Mm ma := by
  obtain ⟨hw, ⟨A, RL, n, c, dn, en, RP, hb, hr⟩, ho, hf⟩ := hi
  obtain ⟨v, hc⟩ := hj A RL n c dn en hb
  refine ⟨v, (hc.depth (by decide)).post ?_⟩
  rintro o ⟨k, rfl, hm⟩
  refine ⟨k, rfl, (hm.depth (by decide)).post ?_⟩
  rintro o2 ⟨k2, A2, n2, c2, dn2, en2, rfl, fm, hb2⟩
  refine ⟨k2, rfl, ⟨fm.wf hw, ⟨A2, RL, n2, c2, dn2, en2, RP, hb2, ?_⟩, Oth_mild ho fm, free_fr hf fm.1 (by unfold rQ; omega)⟩, ?_, ?_, far_fr fm.1⟩
  · rw [fm.1.2.2.2 1 11 (Or.inl (Or.inl (by unfold rQ; omega)))]
    exact reps_fr hr fm.1 fm.2.1
  · rw [fm.1.2.1]
    omega
  · rw [fm.1.2.1]
    omega
