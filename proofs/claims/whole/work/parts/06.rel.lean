/-! KM: the typed memory and the machine's heap -/
/-- a field's value, as the machine has it -/
def kfval (ro : Nat → Nat) (ci k : Nat) (r : Nat → Option Nat) (v : Nat → Int32) : Value := match kty ci k with
  | .object _ => kcv ro (krv (r k))
  | .array _ => kcv ro (krv (r k))
  | _ => .int (v k)
/-- a cell: its kind and length, what it holds, where it lies -/
def kAt (D : va_G) (Ac : Nat → ClassId) (ro : Nat → Nat) (A : Nat → Prop) (t : Nat × Nat) (r : Nat → Option Nat) (v : Nat → Int32) (w : Nat → Int64) (U : State) (H : Heap) (q : Nat) : Prop :=
  (∀ c : vw_C, vwCl[t.1]? = some c → t_OB q (D.1 t.1) c.2.2 (D.2 t.1) H (fun k => kfval ro t.1 k r v)) ∧
  (t.1 = 20 ∨ t.1 = 21 ∨ t.1 = 22 → H[q]? = some (arrV (Ac t.1) t.2 (fun j => .int (v j)))) ∧
  (t.1 = 23 → H[q]? = some (arrV (Ac t.1) t.2 (fun j => .long (w j)))) ∧
  (t.1 = 24 ∨ t.1 = 25 ∨ t.1 = 26 → H[q]? = some (arrV (Ac t.1) t.2 (fun j => kcv ro (krv (r j))))) ∧
  (t.1 = 30 → va_T .int q t.2 (fun j => .int (v j)) A U H) ∧
  (t.1 = 32 → va_T .byte q t.2 (fun j => .int (v j)) A U H) ∧
  (t.1 = 31 → va_OF "java/lang/String" "value" "[B" (kcv ro (krv (r 0))) q A U H ∧ va_OF "java/lang/String" "coder" "B" (.int (v 1)) q A U H ∧ va_O "java/lang/String" q A U H)
theorem kAt.moved {D : va_G} {Ac : Nat → ClassId} {ro : Nat → Nat} {A : Nat → Prop} {t : Nat × Nat} {r : Nat → Option Nat} {v : Nat → Int32} {w : Nat → Int64} {u U : State} {H : Heap} {q : Nat} (hvm : u.vm.Alike U.vm) (h : kAt D Ac ro A t r v w u H q) : kAt D Ac ro A t r v w U H q :=
  ⟨h.1, h.2.1, h.2.2.1, h.2.2.2.1, fun e => (h.2.2.2.2.1 e).moved hvm, fun e => (h.2.2.2.2.2.1 e).moved hvm, fun e => ⟨(h.2.2.2.2.2.2 e).1.moved hvm, (h.2.2.2.2.2.2 e).2.1.moved hvm, (h.2.2.2.2.2.2 e).2.2.moved hvm⟩⟩
theorem kCl_lt {k : Nat} {c : vw_C} (h : vwCl[k]? = some c) : k < 12 := (List.getElem?_eq_some_iff.mp h).1
theorem kAt.kept {D : va_G} {Ac : Nat → ClassId} {ro : Nat → Nat} {A : Nat → Prop} {t : Nat × Nat} {r : Nat → Option Nat} {v : Nat → Int32} {w : Nat → Int64} {U : State} {H H1 : Heap} {q : Nat} (h : kAt D Ac ro A t r v w U H q)
    (h1 : t.1 < 30 → H1[q]? = H[q]?) (h2 : ∀ a : Nat, a < H.size → ¬ A a → H1[a]? = H[a]?) : kAt D Ac ro A t r v w U H1 q := by
  refine ⟨fun c hc => (h.1 c hc).kept (h1 (by have := kCl_lt hc; omega)), fun e => ?_, fun e => ?_, fun e => ?_, fun e => (h.2.2.2.2.1 e).kept h2, fun e => (h.2.2.2.2.2.1 e).kept h2, fun e => ⟨(h.2.2.2.2.2.2 e).1.kept h2, (h.2.2.2.2.2.2 e).2.1.kept h2, (h.2.2.2.2.2.2 e).2.2.kept h2⟩⟩
  · rw [h1 (by omega)]; exact h.2.1 e
  · rw [h1 (by omega)]; exact h.2.2.1 e
  · rw [h1 (by omega)]; exact h.2.2.2.1 e
/-- where a cell of ours lies; the statics and the script lie elsewhere -/
def kro (base : Nat) (sp : Nat → Nat) (a : Nat) : Nat := if a < 1000000000 then base + a else sp (a - 1000000000)
def kA (base : Nat) : Nat → Prop := fun q => base ≤ q
/-- the memory h and the heap H -/
def kRel (D : va_G) (Ac : Nat → ClassId) (base : Nat) (sp : Nat → Nat) (h : KH) (U : State) (H : Heap) : Prop :=
  H.size = base + h.2.2.2.2.1 ∧ h.2.2.2.2.1 ≤ 1000000000 ∧ (∀ a : Nat, kAt D Ac (kro base sp) (kA base) (h.1 a) (h.2.1 a) (h.2.2.1 a) (h.2.2.2.1 a) U H (kro base sp a)) ∧ ∀ a : Nat, (h.1 a).1 < 30 → a < h.2.2.2.2.1
theorem kRel.moved {D : va_G} {Ac : Nat → ClassId} {base : Nat} {sp : Nat → Nat} {h : KH} {u U : State} {H : Heap} (hvm : u.vm.Alike U.vm) (hR : kRel D Ac base sp h u H) : kRel D Ac base sp h U H :=
  ⟨hR.1, hR.2.1, fun a => (hR.2.2.1 a).moved hvm, hR.2.2.2⟩
theorem kRel.ro {D : va_G} {Ac : Nat → ClassId} {base : Nat} {sp : Nat → Nat} {h : KH} {U : State} {H : Heap} (hR : kRel D Ac base sp h U H) {a : Nat} (ha : (h.1 a).1 < 30) : kro base sp a = base + a ∧ a < h.2.2.2.2.1 := by
  have h1 := hR.2.2.2 a ha
  have h2 := hR.2.1
  refine ⟨if_pos (by omega), h1⟩
/-- one cell is written -/
theorem kRel.put {D : va_G} {Ac : Nat → ClassId} {base : Nat} {sp : Nat → Nat} {h h1 : KH} {U : State} {H H1 : Heap} (hR : kRel D Ac base sp h U H) {a : Nat} (ha : (h.1 a).1 < 30)
    (e1 : h1.1 = h.1) (e2 : ∀ b, b ≠ a → h1.2.1 b = h.2.1 b) (e3 : ∀ b, b ≠ a → h1.2.2.1 b = h.2.2.1 b) (e4 : ∀ b, b ≠ a → h1.2.2.2.1 b = h.2.2.2.1 b) (e5 : h1.2.2.2.2 = h.2.2.2.2)
    (z : H1.size = H.size) (oq : ∀ q, q ≠ kro base sp a → H1[q]? = H[q]?)
    (hat : kAt D Ac (kro base sp) (kA base) (h.1 a) (h1.2.1 a) (h1.2.2.1 a) (h1.2.2.2.1 a) U H1 (kro base sp a)) : kRel D Ac base sp h1 U H1 := by
  obtain ⟨r1, r2⟩ := hR.ro ha
  refine ⟨by rw [z, e5]; exact hR.1, by rw [e5]; exact hR.2.1, fun b => ?_, fun b => by rw [e1, e5]; exact hR.2.2.2 b⟩
  by_cases hb : b = a
  · subst hb
    rw [e1]
    exact hat
  · rw [e1, e2 b hb, e3 b hb, e4 b hb]
    refine (hR.2.2.1 b).kept (fun hk => oq _ ?_) (fun q hq hn => oq q (fun z2 => hn ?_))
    · rw [(hR.ro hk).1, r1]
      omega
    · rw [z2, r1]
      exact Nat.le_add_right _ _
/-- cells are made -/
theorem kRel.grow {D : va_G} {Ac : Nat → ClassId} {base : Nat} {sp : Nat → Nat} {h h1 : KH} {U : State} {H H1 : Heap} (hR : kRel D Ac base sp h U H) {n : Nat}
    (hz : h1.2.2.2.2.1 = h.2.2.2.2.1 + n) (hz2 : h1.2.2.2.2.1 ≤ 1000000000) (z : H1.size = H.size + n) (oq : ∀ q, q < H.size → H1[q]? = H[q]?)
    (old : ∀ b, ¬ (h.2.2.2.2.1 ≤ b ∧ b < h.2.2.2.2.1 + n) → h1.1 b = h.1 b ∧ h1.2.1 b = h.2.1 b ∧ h1.2.2.1 b = h.2.2.1 b ∧ h1.2.2.2.1 b = h.2.2.2.1 b)
    (new : ∀ b, h.2.2.2.2.1 ≤ b → b < h.2.2.2.2.1 + n → kAt D Ac (kro base sp) (kA base) (h1.1 b) (h1.2.1 b) (h1.2.2.1 b) (h1.2.2.2.1 b) U H1 (base + b)) : kRel D Ac base sp h1 U H1 := by
  have h2 := hR.1
  refine ⟨by omega, hz2, fun b => ?_, fun b hb => ?_⟩
  · by_cases hn : h.2.2.2.2.1 ≤ b ∧ b < h.2.2.2.2.1 + n
    · have e : kro base sp b = base + b := if_pos (by omega)
      rw [e]
      exact new b hn.1 hn.2
    · obtain ⟨e1, e2, e3, e4⟩ := old b hn
      rw [e1, e2, e3, e4]
      refine (hR.2.2.1 b).kept (fun hk => oq _ ?_) (fun q hq _ => oq q hq)
      obtain ⟨r1, r2⟩ := hR.ro hk
      omega
  · by_cases hn : h.2.2.2.2.1 ≤ b ∧ b < h.2.2.2.2.1 + n
    · omega
    · rw [(old b hn).1] at hb
      have := hR.2.2.2 b hb
      omega
