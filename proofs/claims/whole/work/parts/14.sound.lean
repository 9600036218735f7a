/-! KM: its runs are runs of the machine -/
def kretty : Nat → Option FieldType
  | 0 => some .int
  | 1 => some .boolean
  | 2 => some .char
  | 3 => some .byte
  | _ => none
def kLinkF (kw kn : List Cond) (own : String) (idx : Nat) (ref name desc : String) : Prop := Cond.fieldLink own idx ref name desc ∈ kw ∨ ∃ host, Cond.fieldLinkNest own idx ref name desc host ∈ kn
def kFgS (kw kn : List Cond) (own : String) (idx tg : Nat) (q : Nat × Nat) : Prop :=
  (∃ (C : String) (T : u_T) (N : Nat) (ref : String), vwCl[q.1]? = some (C, T, N) ∧ tg < N ∧ kLinkF kw kn own idx ref (T tg).2.1 (T tg).2.2.1 ∧ (ref = (T tg).1 ∨ Cond.sameField ref (T tg).1 (T tg).2.1 (T tg).2.2.1 ∈ kw) ∧ ktc (kty q.1 tg) = q.2) ∨
  (q.1 = 31 ∧ tg = 0 ∧ q.2 = 2 ∧ Cond.fieldLink own idx "java/lang/String" "value" "[B" ∈ kw) ∨
  (q.1 = 31 ∧ tg = 1 ∧ q.2 = 0 ∧ Cond.fieldLink own idx "java/lang/String" "coder" "B" ∈ kw)
def kFpS (kw kn : List Cond) (own mname : String) (idx tg : Nat) (q : Nat × Nat) : Prop :=
  ∃ (C : String) (T : u_T) (N : Nat) (ref : String), vwCl[q.1]? = some (C, T, N) ∧ tg < N ∧ (ref = (T tg).1 ∨ Cond.sameField ref (T tg).1 (T tg).2.1 (T tg).2.2.1 ∈ kw) ∧ ktc (kty q.1 tg) = q.2 ∧
    (((T tg).2.2.2 = false ∧ kLinkF kw kn own idx ref (T tg).2.1 (T tg).2.2.1) ∨ ((T tg).2.2.2 = true ∧ Cond.fieldLink own idx ref (T tg).2.1 (T tg).2.2.1 ∈ kw ∧ mname = "<init>" ∧ (T tg).1 = own))
def kcS (kw : List Cond) (sidx : Nat) (own : String) (i : Instr) (w : Value) : Prop := match i with
  | .iconst n => w = .int (Int32.ofInt n)
  | .bipush n => w = .int (Int8.ofInt n).toInt32
  | .sipush n => w = .int (Int16.ofInt n).toInt32
  | .lconst n => w = .long (Int64.ofNat n.val)
  | .ldc k => (∃ v, w = .int v ∧ Cond.constant own k v ∈ kw) ∨ (w = .ref 1000000001 ∧ own = "ChalkWars$Reader" ∧ k = sidx)
  | .ldc_w k => ∃ v, w = .int v ∧ Cond.constant own k v ∈ kw
  | .ldc2_w k => ∃ v, w = .long v ∧ Cond.constantLong own k v ∈ kw
  | .iinc _ n => w = .int (Int32.ofInt n)
  | _ => True
def kheapS (kw kn : List Cond) (own mname : String) (i : Instr) (tg : Nat) (ts : List (Nat × Nat)) : Prop := match i with
  | .getfield idx => ∀ q ∈ ts, kFgS kw kn own idx tg q
  | .putfield idx => ∀ q ∈ ts, kFpS kw kn own mname idx tg q
  | .new idx => ∃ (kind n : Nat) (cl : vw_C), ts = [(kind, n)] ∧ vwCl[kind]? = some cl ∧ n = cl.2.2 ∧ Cond.classLink own idx cl.1 ∈ kw ∧ Cond.instantiable cl.1 n ∈ kw ∧ Cond.initialized cl.1 ∈ kw
  | .newarray at1 => katy tg = some at1 ∧ Cond.arrayClass (newarray.typeOf at1) ∈ kw
  | .anewarray idx => ∃ C, ((tg = 24 ∧ C = "ChalkWars$City") ∨ (tg = 25 ∧ C = "ChalkWars$Thing")) ∧ Cond.classLink own idx C ∈ kw
  | .multianewarray idx n => n = 2 ∧ Cond.classLink own idx "[[I" ∈ kw ∧ Cond.arrayClass .int ∈ kw
  | .getstatic idx => (ts = [] ∧ Cond.fieldLink own idx "ChalkWarsModel" "NAMES" "[I" ∈ kw) ∨ (ts = [(0, 0)] ∧ Cond.fieldLink own idx "java/lang/String" "COMPACT_STRINGS" "Z" ∈ kw)
  | _ => True
def kMOK (pl pr : Nat → Nat) (mo : Nat → String) (my : Nat → MethodName) (mr : Nat → Option FieldType) (M2 : Nat) : Prop := plainName (my M2).cls = true ∧ pl M2 ≤ 21 ∧ mr M2 = kretty (pr M2) ∧ (my M2).cls = mo M2
def kinvS (pl pr : Nat → Nat) (mo : Nat → String) (my : Nat → MethodName) (mb : Nat → ByteArray) (mr : Nat → Option FieldType) (kw kn : List Cond) (own : String) (i : Instr) (tg : Nat) (ts : List (Nat × Nat)) : Prop :=
  ((∃ z, ts = [(98, z)]) → ∃ idx, i = .invokestatic idx ∧ Cond.methodLink own idx arraycopyName ∈ kw ∧ Cond.native arraycopyName ∈ kw ∧ Cond.static arraycopyName ∈ kw ∧ Cond.initialized "java/lang/System" ∈ kw) ∧
  ((∃ z, ts = [(97, z)]) → ∃ idx, i = .invokespecial idx ∧ Cond.methodLink own idx objectInit ∈ kw ∧ Cond.instanceMethod objectInit ∈ kw ∧ Cond.code objectInit ⟨#[0xb1]⟩ 1 none ∈ kw) ∧
  ((∃ z, ts = [(96, z)]) → ∃ idx, i = .invokestatic idx ∧ Cond.methodLink own idx yJ0_checkIndex_df160 ∈ kw ∧ Cond.static yJ0_checkIndex_df160 ∈ kw ∧ Cond.initialized yJ0_checkIndex_df160.cls ∈ kw ∧ Cond.code yJ0_checkIndex_df160 cJ0_checkIndex_df160 2 none ∈ kw ∧
    Cond.code yJ3_checkIndex_8e157 cJ3_checkIndex_8e157 3 (some .int) ∈ kw ∧ Cond.initialized yJ3_checkIndex_8e157.cls ∈ kw ∧ Cond.static yJ3_checkIndex_8e157 ∈ kw ∧ Cond.methodLink RJ0 1059 yJ3_checkIndex_8e157 ∈ kw ∧ Cond.fieldLink RJ0 1053 "jdk/internal/util/Preconditions" "SIOOBE_FORMATTER" "Ljava/util/function/BiFunction;" ∈ kw) ∧
  (∀ z, ts = [(94, z)] → ∃ idx, i = .invokestatic idx ∧ Cond.initialized "java/lang/Math" ∈ kw ∧ ((z = 0 ∧ Cond.methodLink own idx Lib.Math.max.name ∈ kw ∧ Cond.static Lib.Math.max.name ∈ kw ∧ Cond.code Lib.Math.max.name Lib.Math.max.code 2 (some .int) ∈ kw) ∨ (z = 1 ∧ Cond.methodLink own idx Lib.Math.min.name ∈ kw ∧ Cond.static Lib.Math.min.name ∈ kw ∧ Cond.code Lib.Math.min.name Lib.Math.min.code 2 (some .int) ∈ kw))) ∧
  ((∀ z, ts ≠ [(98, z)]) ∧ (∀ z, ts ≠ [(97, z)]) ∧ (∀ z, ts ≠ [(96, z)]) ∧ (∀ z, ts ≠ [(94, z)]) → ∀ q ∈ ts, kCI pl my mb mr kw kn own i tg q.1 q.2 ∧ kMOK pl pr mo my mr q.2)
def ksws : Instr → Bool
  | .tableswitch .. => true
  | .lookupswitch .. => true
  | _ => false
def kinvI : Instr → Bool
  | .invokestatic _ => true
  | .invokevirtual _ => true
  | .invokespecial _ => true
  | _ => false
/-- a program's entry agrees with the bytecode -/
def kOp (pl pr : Nat → Nat) (mo : Nat → String) (my : Nat → MethodName) (mb : Nat → ByteArray) (mr : Nat → Option FieldType) (kw kn : List Cond) (sidx : Nat) (M pc len : Nat) (e : KE) : Prop :=
  (ksws e.1 = false → len = kilen e.1 ∧ e.2.1 = pc + len) ∧ kcS kw sidx (mo M) e.1 e.2.2.2.1 ∧ kbrOK e.1 pc len e.2.1 e.2.2.1 e.2.2.2.2 = true ∧ kheapS kw kn (mo M) (my M).name e.1 e.2.2.1 e.2.2.2.2 ∧ (kinvI e.1 = true → kinvS pl pr mo my mb mr kw kn (mo M) e.1 e.2.2.1 e.2.2.2.2) ∧
  (∀ idx, e.1 = .getstatic idx → (e.2.2.2.2 = [] → e.2.2.2.1 = .ref 1000000000) ∧ (e.2.2.2.2 = [(0, 0)] → e.2.2.2.1 = .int 1))
theorem kbr_sw {i : Instr} {nx tg : Nat} {ts : List (Nat × Nat)} {st : List Value} {q : Nat × List Value} (h : kbr i nx tg ts st = some q) : True := trivial
theorem kpure_nsw {i : Instr} {w : Value} {ls : KL} {st : List Value} {q : KL × List Value} (h : kpure i w ls st = some q) : ksws i = false := by
  cases i <;> first | rfl | cases h
theorem kheap_nsw {i : Instr} {tg : Nat} {ts : List (Nat × Nat)} {st : List Value} {h : KH} {q : List Value × KH} (hh : kheap i tg ts st h = some q) : ksws i = false := by
  cases i <;> first | rfl | cases hh
theorem kargs_nodbl {as : List Value} (h : knodbl as = true) : ∀ v ∈ as, ∀ b, v ≠ .double b := knodbl_ok h
section KSD
variable {pf : Nat → Nat → Option KE} {pl pr : Nat → Nat} {mo : Nat → String} {my : Nat → MethodName} {mb : Nat → ByteArray} {mr : Nat → Option FieldType} {kw kn : List Cond} {sidx : Nat} {stx : String} {D : va_G} {Ac : Nat → ClassId} {base : Nat} {sp : Nat → Nat}
/-- where a method stands -/
def kCtx (pl : Nat → Nat) (mo : Nat → String) (my : Nat → MethodName) (mb : Nat → ByteArray) (kw kn : List Cond) (sidx : Nat) (stx : String) (D : va_G) (Ac : Nat → ClassId) (base : Nat) (sp : Nat → Nat) (M : Nat) (p : Program) (s : State) (m : MethodId) (args : Array Value) (meth : Method) (c : Code) : Prop :=
  p.tables.exec = Jvm.exec ∧ c.code = mb M ∧ c.maxLocals = pl M ∧ s.vm.findClass (mo M) = some m.cls ∧ ((my M).name = "<init>" → meth.name = "<init>") ∧ (∀ w ∈ kw, w.before args s = true) ∧ kEnv D Ac base sp kn sidx stx s
theorem kcS_OK {own : String} {args : Array Value} {s : State} {i : Instr} {w : Value} (hts : ∀ w ∈ kw, w.before args s = true) (hv : vk_R "ChalkWars$Reader" sidx stx (sp 1) s) (h : kcS kw sidx own i w) : kcOK own args s (kro base sp) i w := by
  cases i with
  | ldc k =>
    rcases h with ⟨v, e1, e2⟩ | ⟨rfl, rfl, rfl⟩
    · exact Or.inl ⟨v, e1, hts _ e2⟩
    · exact Or.inr ⟨1000000001, stx, rfl, hv⟩
  | ldc_w k => obtain ⟨v, e1, e2⟩ := h; exact ⟨v, e1, hts _ e2⟩
  | ldc2_w k => obtain ⟨v, e1, e2⟩ := h; exact ⟨v, e1, hts _ e2⟩
  | _ => exact h
theorem kLinkF_OK {own : String} {args : Array Value} {s : State} {idx : Nat} {ref name desc : String} (hts : ∀ w ∈ kw, w.before args s = true) (hnw : ∀ w ∈ kn, va_Nw w s) (h : kLinkF kw kn own idx ref name desc) : kFl args s own idx ref name desc := by
  rcases h with h | ⟨host, h⟩
  · exact Or.inl (hts _ h)
  · exact Or.inr ⟨host, hnw _ h⟩
theorem ksame_OK {args : Array Value} {s : State} {ref d1 d2 d3 : String} (hts : ∀ w ∈ kw, w.before args s = true) (h : ref = d1 ∨ Cond.sameField ref d1 d2 d3 ∈ kw) : ∀ x, s.fieldFound? d1 d2 d3 = some x → s.fieldFound? ref d2 d3 = some x := by
  intro x hx
  rcases h with rfl | h
  · exact hx
  · exact u_same (hts _ h) x hx
theorem kFgS_OK {own : String} {args : Array Value} {s : State} {idx tg : Nat} {q : Nat × Nat} (hts : ∀ w ∈ kw, w.before args s = true) (hnw : ∀ w ∈ kn, va_Nw w s) (h : kFgS kw kn own idx tg q) : kFg args s own idx tg q := by
  rcases h with ⟨C, T, N, ref, h1, h2, h3, h4, h5⟩ | ⟨h1, h2, h3, h4⟩ | ⟨h1, h2, h3, h4⟩
  · exact Or.inl ⟨C, T, N, ref, h1, h2, kLinkF_OK hts hnw h3, ksame_OK hts h4, h5⟩
  · exact Or.inr (Or.inl ⟨h1, h2, h3, hts _ h4⟩)
  · exact Or.inr (Or.inr ⟨h1, h2, h3, hts _ h4⟩)
theorem kFpS_OK {own mname : String} {args : Array Value} {s : State} {meth : Method} {idx tg : Nat} {q : Nat × Nat} (hts : ∀ w ∈ kw, w.before args s = true) (hnw : ∀ w ∈ kn, va_Nw w s) (hmn : mname = "<init>" → meth.name = "<init>") (h : kFpS kw kn own mname idx tg q) : kFp args s meth own idx tg q := by
  obtain ⟨C, T, N, ref, h1, h2, h3, h4, h5⟩ := h
  refine ⟨C, T, N, ref, h1, h2, ksame_OK hts h3, h4, ?_⟩
  rcases h5 with ⟨g1, g2⟩ | ⟨g1, g2, g3, g4⟩
  · exact Or.inl ⟨g1, kLinkF_OK hts hnw g2⟩
  · exact Or.inr ⟨g1, hts _ g2, hmn g3, g4⟩
end KSD
