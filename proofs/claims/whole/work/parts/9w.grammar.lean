/-! KM: the text of the rules, for both sides: its grammar -/
/-- what came of it: was it so; up to where; the steps of the class, those of the reference -/
abbrev PRes : Type := Bool × Nat × List Op × List Op
def isVT (x : Nat) : Bool := (Nat.ble 13 x && Nat.ble x 17) || Nat.ble 100 x
def uVT (x : Nat) : Nat := if 100 ≤ x then x - 100 else x - 13 + 10000
def cmpT (c : Nat → Nat) (q : Nat) : PRes :=
  if isVT (c q) = true then
    (if 20 ≤ c (q + 1) ∧ c (q + 1) ≤ 22 then
      (if isVT (c (q + 2)) = true then (true, q + 3, [(c (q + 1) - 20, decV (uVT (c q)), decV (uVT (c (q + 2))))], [(c (q + 1) - 20, decV (uVT (c q)), decV (uVT (c (q + 2))))]) else (false, q + 2, [], []))
    else (false, q + 1, [], []))
  else (false, q, [], [])
def notT (c : Nat → Nat) : Nat → Nat → Nat
  | 0, _ => 0
  | f + 1, q => if c q = 12 then notT c f (q + 1) + 1 else 0
def oneN (n : Nat) (r : PRes) : PRes := (r.1, r.2.1, r.2.2.1 ++ (if n % 2 = 1 then [(3, 0, 0)] else []), r.2.2.2 ++ List.replicate n (3, 0, 0))
def oneT (c : Nat → Nat) (W : Nat → PRes) (q : Nat) : PRes :=
  oneN (notT c 200 q) (if c (q + notT c 200 q) = 23 then W (q + notT c 200 q) else cmpT c (q + notT c 200 q))
def seqL (c : Nat → Nat) (t x : Nat) (P : Nat → PRes) : Nat → Nat → List Op → List Op → PRes
  | 0, q, A, B => (true, q, A, B)
  | f + 1, q, A, B => if c q = x then (if (P (q + 1)).1 = true then seqL c t x P f (P (q + 1)).2.1 (A ++ ((P (q + 1)).2.2.1 ++ [(t, 0, 0)])) (B ++ ((P (q + 1)).2.2.2 ++ [(t, 0, 0)])) else (false, (P (q + 1)).2.1, [], [])) else (true, q, A, B)
def seqT (c : Nat → Nat) (t x : Nat) (P : Nat → PRes) (q : Nat) : PRes := if (P q).1 = true then seqL c t x P 200 (P q).2.1 (P q).2.2.1 (P q).2.2.2 else (false, (P q).2.1, [], [])
def eachT (c : Nat → Nat) (W : Nat → PRes) (q : Nat) : PRes := seqT c 4 11 (oneT c W) q
def condT (c : Nat → Nat) (W : Nat → PRes) (q : Nat) : PRes := seqT c 5 10 (eachT c W) q
/-- what stands in brackets, with k more levels -/
def withT (c : Nat → Nat) : Nat → Nat → PRes
  | 0, q => (false, q, [], [])
  | k + 1, q => if (condT c (withT c k) (q + 1)).1 = true then (if c (condT c (withT c k) (q + 1)).2.1 = 24 then (true, (condT c (withT c k) (q + 1)).2.1 + 1, (condT c (withT c k) (q + 1)).2.2.1, (condT c (withT c k) (q + 1)).2.2.2) else (false, (condT c (withT c k) (q + 1)).2.1, [], [])) else (false, (condT c (withT c k) (q + 1)).2.1, [], [])
/-- how many places the reference takes for steps -/
def lszT : List Op → Nat
  | [] => 0
  | (t, _, _) :: r => (if t ≤ 2 then 3 else 1) + lszT r
theorem lszT_app : ∀ (P R : List Op), lszT (P ++ R) = lszT P + lszT R
  | [], R => (Nat.zero_add _).symm
  | (t, a, b) :: r, R => by
    show (if t ≤ 2 then 3 else 1) + lszT (r ++ R) = (if t ≤ 2 then 3 else 1) + lszT r + lszT R
    rw [lszT_app r R, Nat.add_assoc]
theorem lszT_rep : ∀ n, lszT (List.replicate n (3, 0, 0)) = n
  | 0 => rfl
  | n + 1 => by
    show (if 3 ≤ 2 then 3 else 1) + lszT (List.replicate n (3, 0, 0)) = n + 1
    rw [lszT_rep n, if_neg (by decide)]
    omega
/-- steps that leave one more on the pile, d at most on the way -/
def BalD (m d : Nat) (P : List Op) : Prop := ∀ rest n, n + d ≤ m → okP m rest (n + 1) → okP m (P ++ rest) n
theorem BalD.up {m d e : Nat} {P : List Op} (h : BalD m d P) (l : d ≤ e) : BalD m e P := fun rest n hn hr => h rest n (by omega) hr
theorem BalD.not {m d : Nat} {P : List Op} (h : BalD m d P) : BalD m d (P ++ [(3, 0, 0)]) := fun rest n hn hr => by
  rw [List.append_assoc]
  exact h _ n hn (Or.inr (Or.inl ⟨rfl, by omega, hr⟩))
theorem BalD.nots {m d : Nat} {P : List Op} (h : BalD m d P) : ∀ k, BalD m d (P ++ List.replicate k (3, 0, 0))
  | 0 => by
    rw [List.replicate_zero, List.append_nil]
    exact h
  | k + 1 => by
    rw [List.replicate_succ', ← List.append_assoc]
    exact (BalD.nots h k).not
theorem BalD.bin {m d e : Nat} {t : Nat} {A B : List Op} (ht : t = 4 ∨ t = 5) (h1 : BalD m d A) (h2 : BalD m e B) (l : e + 1 ≤ d) : BalD m d (A ++ (B ++ [(t, 0, 0)])) := fun rest n hn hr => by
  rw [List.append_assoc, List.append_assoc]
  exact h1 _ n hn (h2 _ (n + 1) (by omega) (Or.inr (Or.inr ⟨ht, by omega, hr⟩)))
/-- both say the same -/
def EvT (P R : List Op) : Prop := ∀ f : Int32 → Int32, ∃ b : Bool, ∀ (rest : List Op) (s : List Bool), evP f (P ++ rest) s = evP f rest (b :: s) ∧ evP f (R ++ rest) s = evP f rest (b :: s)
theorem EvT.cmp {t : Nat} (ht : t ≤ 2) (a b : Int32) : EvT [(t, a, b)] [(t, a, b)] := fun f => ⟨cmpB t (f a) (f b), fun rest s => ⟨evP_cmp ht a b rest s, evP_cmp ht a b rest s⟩⟩
theorem EvT.bin {t : Nat} {A B A2 B2 : List Op} (ht : t = 4 ∨ t = 5) (h1 : EvT A A2) (h2 : EvT B B2) : EvT (A ++ (B ++ [(t, 0, 0)])) (A2 ++ (B2 ++ [(t, 0, 0)])) := fun f => by
  obtain ⟨x, hx⟩ := h1 f
  obtain ⟨y, hy⟩ := h2 f
  rcases ht with rfl | rfl
  · refine ⟨x && y, fun rest s => ?_⟩
    rw [List.append_assoc, List.append_assoc, List.append_assoc, List.append_assoc, (hx _ s).1, (hx _ s).2, (hy _ _).1, (hy _ _).2]
    exact ⟨rfl, rfl⟩
  · refine ⟨x || y, fun rest s => ?_⟩
    rw [List.append_assoc, List.append_assoc, List.append_assoc, List.append_assoc, (hx _ s).1, (hx _ s).2, (hy _ _).1, (hy _ _).2]
    exact ⟨rfl, rfl⟩
theorem evP_nots (f : Int32 → Int32) : ∀ (k : Nat) (rest : List Op) (b : Bool) (s : List Bool), evP f (List.replicate k (3, 0, 0) ++ rest) (b :: s) = evP f rest ((if k % 2 = 1 then !b else b) :: s)
  | 0, rest, b, s => rfl
  | k + 1, rest, b, s => by
    show evP f (List.replicate k (3, 0, 0) ++ rest) ((!b) :: s) = _
    rw [evP_nots f k rest (!b) s]
    by_cases h : k % 2 = 1
    · rw [if_pos h, if_neg (by omega), Bool.not_not]
    · rw [if_neg h, if_pos (by omega)]
theorem EvT.nots {A B : List Op} (h : EvT A B) (k : Nat) : EvT (A ++ (if k % 2 = 1 then [(3, 0, 0)] else [])) (B ++ List.replicate k (3, 0, 0)) := fun f => by
  obtain ⟨x, hx⟩ := h f
  refine ⟨if k % 2 = 1 then !x else x, fun rest s => ?_⟩
  rw [List.append_assoc, List.append_assoc, (hx _ s).1, (hx _ s).2, evP_nots]
  refine ⟨?_, rfl⟩
  by_cases hk : k % 2 = 1
  · rw [if_pos hk, if_pos hk]
    rfl
  · rw [if_neg hk, if_neg hk]
    rfl
theorem EvT.hold {A B : List Op} (h : EvT A B) (f : Int32 → Int32) : holdP f A = holdP f B := by
  obtain ⟨b, hb⟩ := h f
  have := hb [] []
  rw [List.append_nil, List.append_nil] at this
  unfold holdP
  rw [this.1, this.2]
/-- a result as it should be -/
def okPR (c : Nat → Nat) (d q : Nat) (r : PRes) : Prop := lvT c r.2.1 ∧ q ≤ r.2.1 ∧ (r.1 = true → q < r.2.1 ∧ r.2.2.1.length + q ≤ r.2.1 ∧ lszT r.2.2.2 + q ≤ r.2.1 ∧ BalD 30 d r.2.2.1 ∧ BalD 100 d r.2.2.2 ∧ EvT r.2.2.1 r.2.2.2)
theorem okPR.f {c : Nat → Nat} {d q p : Nat} {A B : List Op} (h : lvT c p) (h2 : q ≤ p) : okPR c d q (false, p, A, B) := ⟨h, h2, fun z => by cases z⟩
theorem okPR.up {c : Nat → Nat} {d e q : Nat} {r : PRes} (h : okPR c d q r) (l : d ≤ e) : okPR c e q r := ⟨h.1, h.2.1, fun z => by
  obtain ⟨a1, a2, a3, a4, a5, a6⟩ := h.2.2 z
  exact ⟨a1, a2, a3, a4.up l, a5.up l, a6⟩⟩
theorem isVT_n {x : Nat} (h : isVT x = true) : x ≠ 26 := fun e => by
  rw [e] at h
  exact absurd h (by decide)
theorem cmpT_ok {c : Nat → Nat} {q : Nat} (h : lvT c q) : okPR c 1 q (cmpT c q) := by
  unfold cmpT
  by_cases h1 : isVT (c q) = true
  · rw [if_pos h1]
    have l1 := h.s (isVT_n h1)
    by_cases h2 : 20 ≤ c (q + 1) ∧ c (q + 1) ≤ 22
    · rw [if_pos h2]
      have l2 := l1.s (by omega)
      by_cases h3 : isVT (c (q + 2)) = true
      · rw [if_pos h3]
        have l3 := l2.s (isVT_n h3)
        have t2 : c (q + 1) - 20 ≤ 2 := by omega
        refine ⟨l3, by simp only []; omega, fun _ => ⟨by simp only []; omega, by simp only [List.length_cons, List.length_nil]; omega, ?_, ?_, ?_, EvT.cmp t2 _ _⟩⟩
        · simp only [lszT]
          rw [if_pos t2]
          omega
        · exact fun rest n hn hr => Or.inl ⟨t2, by omega, hr⟩
        · exact fun rest n hn hr => Or.inl ⟨t2, by omega, hr⟩
      · rw [if_neg h3]
        exact okPR.f l2 (by omega)
    · rw [if_neg h2]
      exact okPR.f l1 (by omega)
  · rw [if_neg h1]
    exact okPR.f h (Nat.le_refl _)
theorem notT_lv {c : Nat → Nat} : ∀ (f q : Nat), lvT c q → lvT c (q + notT c f q)
  | 0, q, h => h
  | f + 1, q, h => by
    unfold notT
    by_cases e : c q = 12
    · rw [if_pos e]
      have := notT_lv f (q + 1) (h.s (by omega))
      rw [show q + (notT c f (q + 1) + 1) = q + 1 + notT c f (q + 1) by omega]
      exact this
    · rw [if_neg e]
      exact h
theorem oneN_ok {c : Nat → Nat} {d q n : Nat} {r : PRes} (h : okPR c d (q + n) r) : okPR c d q (oneN n r) := by
  obtain ⟨h1, h2, h3⟩ := h
  refine ⟨h1, Nat.le_trans (Nat.le_add_right q n) h2, fun z => ?_⟩
  obtain ⟨a1, a2, a3, a4, a5, a6⟩ := h3 z
  refine ⟨Nat.lt_of_le_of_lt (Nat.le_add_right q n) a1, ?_, ?_, ?_, a5.nots n, a6.nots n⟩
  · show (r.2.2.1 ++ (if n % 2 = 1 then [(3, 0, 0)] else [])).length + q ≤ r.2.1
    rw [List.length_append]
    by_cases e : n % 2 = 1
    · rw [if_pos e, List.length_cons, List.length_nil]
      omega
    · rw [if_neg e, List.length_nil]
      omega
  · show lszT (r.2.2.2 ++ List.replicate n (3, 0, 0)) + q ≤ r.2.1
    rw [lszT_app, lszT_rep]
    omega
  · show BalD 30 d (r.2.2.1 ++ (if n % 2 = 1 then [(3, 0, 0)] else []))
    by_cases e : n % 2 = 1
    · rw [if_pos e]
      exact a4.not
    · rw [if_neg e, List.append_nil]
      exact a4
theorem oneT_ok {c : Nat → Nat} {d : Nat} {W : Nat → PRes} (hd : 1 ≤ d) (hW : ∀ q, lvT c q → c q = 23 → okPR c d q (W q)) {q : Nat} (h : lvT c q) : okPR c d q (oneT c W q) := by
  unfold oneT
  have l := notT_lv 200 q h
  refine oneN_ok ?_
  by_cases e : c (q + notT c 200 q) = 23
  · rw [if_pos e]
    exact hW _ l e
  · rw [if_neg e]
    exact (cmpT_ok l).up hd
theorem seqL_ok {c : Nat → Nat} {d e t x : Nat} {P : Nat → PRes} (ht : t = 4 ∨ t = 5) (hx : x ≠ 26) (l : e + 1 ≤ d) (hP : ∀ q, lvT c q → okPR c e q (P q)) (q0 : Nat) : ∀ (f q : Nat) (A B : List Op), okPR c d q0 (true, q, A, B) → okPR c d q0 (seqL c t x P f q A B)
  | 0, q, A, B, h => h
  | f + 1, q, A, B, h => by
    unfold seqL
    by_cases e1 : c q = x
    · rw [if_pos e1]
      obtain ⟨g1, g2, g3⟩ := hP (q + 1) (h.1.s (by rw [e1]; exact hx))
      obtain ⟨_, b2, b3⟩ := h
      obtain ⟨c1, c2, c3, c4, c5, c6⟩ := b3 rfl
      simp only [] at b2 c1 c2 c3 c4 c5 c6
      by_cases e2 : (P (q + 1)).1 = true
      · rw [if_pos e2]
        obtain ⟨a1, a2, a3, a4, a5, a6⟩ := g3 e2
        refine seqL_ok ht hx l hP q0 f _ _ _ ⟨g1, by simp only []; omega, fun _ => ⟨by simp only []; omega, ?_, ?_, c4.bin ht a4 l, c5.bin ht a5 l, c6.bin ht a6⟩⟩
        · simp only [List.length_append, List.length_cons, List.length_nil]
          omega
        · simp only [lszT_app]
          have : lszT [(t, (0 : Int32), (0 : Int32))] = 1 := by
            simp only [lszT]
            rw [if_neg (by omega)]
          rw [this]
          omega
      · rw [if_neg e2]
        exact okPR.f g1 (by omega)
    · rw [if_neg e1]
      exact h
theorem seqT_ok {c : Nat → Nat} {d e t x : Nat} {P : Nat → PRes} (ht : t = 4 ∨ t = 5) (hx : x ≠ 26) (l : e + 1 ≤ d) (hP : ∀ q, lvT c q → okPR c e q (P q)) {q : Nat} (h : lvT c q) : okPR c d q (seqT c t x P q) := by
  unfold seqT
  have g := hP q h
  by_cases e2 : (P q).1 = true
  · rw [if_pos e2]
    refine seqL_ok ht hx l hP q 200 _ _ _ ?_
    have := g.up (show e ≤ d by omega)
    exact ⟨this.1, this.2.1, fun _ => this.2.2 e2⟩
  · rw [if_neg e2]
    exact okPR.f g.1 g.2.1
theorem eachT_ok {c : Nat → Nat} {d : Nat} {W : Nat → PRes} (hd : 1 ≤ d) (hW : ∀ q, lvT c q → c q = 23 → okPR c d q (W q)) {q : Nat} (h : lvT c q) : okPR c (d + 1) q (eachT c W q) :=
  seqT_ok (Or.inl rfl) (by decide) (Nat.le_refl _) (fun q hq => oneT_ok hd hW hq) h
theorem condT_ok {c : Nat → Nat} {d : Nat} {W : Nat → PRes} (hd : 1 ≤ d) (hW : ∀ q, lvT c q → c q = 23 → okPR c d q (W q)) {q : Nat} (h : lvT c q) : okPR c (d + 2) q (condT c W q) :=
  seqT_ok (Or.inr rfl) (by decide) (Nat.le_refl _) (fun q hq => eachT_ok hd hW hq) h
theorem withT_ok {c : Nat → Nat} : ∀ (k q : Nat), lvT c q → c q = 23 → okPR c (2 * k + 1) q (withT c k q)
  | 0, q, h, _ => okPR.f h (Nat.le_refl _)
  | k + 1, q, h, e => by
    have g := condT_ok (d := 2 * k + 1) (by omega) (withT_ok k) (h.s (by omega))
    unfold withT
    by_cases e1 : (condT c (withT c k) (q + 1)).1 = true
    · rw [if_pos e1]
      by_cases e2 : c (condT c (withT c k) (q + 1)).2.1 = 24
      · rw [if_pos e2]
        obtain ⟨a1, a2, a3, a4, a5, a6⟩ := g.2.2 e1
        exact ⟨g.1.s (by omega), by simp only []; omega, fun _ => ⟨by simp only []; omega, by simp only []; omega, by simp only []; omega, a4, a5, a6⟩⟩
      · rw [if_neg e2]
        exact okPR.f g.1 (by have := g.2.1; omega)
    · rw [if_neg e1]
      exact okPR.f g.1 (by have := g.2.1; omega)
/-- the end of a rule -/
def ruleE (c : Nat → Nat) (k q : Nat) (A B : List Op) : Bool × Nat × Nat × Nat × List Op × List Op :=
  if 6 ≤ c q ∧ c q ≤ 8 then (if c (q + 1) = 25 then (true, q + 2, k, c q - 6, A, B) else (false, q + 1, 0, 0, [], [])) else (false, q, 0, 0, [], [])
/-- a rule: was it so, up to where, its kind, what it does, its steps -/
def ruleT (c : Nat → Nat) (q : Nat) : Bool × Nat × Nat × Nat × List Op × List Op :=
  if c q ≤ 5 then
    (if c (q + 1) = 9 then
      (if (condT c (withT c 3) (q + 2)).1 = true then ruleE c (c q) (condT c (withT c 3) (q + 2)).2.1 (condT c (withT c 3) (q + 2)).2.2.1 (condT c (withT c 3) (q + 2)).2.2.2 else (false, (condT c (withT c 3) (q + 2)).2.1, 0, 0, [], []))
    else ruleE c (c q) (q + 1) [] [])
  else (false, q, 0, 0, [], [])
