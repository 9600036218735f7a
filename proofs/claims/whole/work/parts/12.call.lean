/-! KM: calls -/
def kNest : Cond → Bool
  | .fieldLinkNest .. => true
  | .methodLinkNest .. => true
  | .declares .. => true
  | .castable .. => true
  | _ => false
theorem kNest_warm {w : Cond} (hw : kNest w = true) {s U : State} (hW : s.WarmedH U.vm) (h : va_Nw w s) : va_Nw w U := by
  cases w <;> first | exact va_Nw.warmF hW h | exact va_Nw.warmM hW h | exact va_Nw.warmD hW h | exact va_Nw.warmC hW h | (simp [kNest] at hw)
/-- what stays as it is while the class runs, beside the memory -/
def kEnv (D : va_G) (Ac : Nat → ClassId) (base : Nat) (sp : Nat → Nat) (kn : List Cond) (sidx : Nat) (stx : String) (U : State) : Prop :=
  kCls D Ac U ∧ (∀ w ∈ kn, va_Nw w U) ∧ va_Z "ChalkWarsModel" "NAMES" "[I" (.ref (sp 0)) (kA base) U U.heap ∧ va_Z "java/lang/String" "COMPACT_STRINGS" "Z" (.int 1) (kA base) U U.heap ∧ vk_R "ChalkWars$Reader" sidx stx (sp 1) U ∧ ∃ sv : Value, sv.category = 1 ∧ va_Z "jdk/internal/util/Preconditions" "SIOOBE_FORMATTER" "Ljava/util/function/BiFunction;" sv (kA base) U U.heap
theorem kEnv.step {D : va_G} {Ac : Nat → ClassId} {base : Nat} {sp : Nat → Nat} {kn : List Cond} {sidx : Nat} {stx : String} {s U : State} {locs : List Loc} (hkn : ∀ w ∈ kn, kNest w = true) (hW : s.WarmedH U.vm) (hS : va_S (kA base) s.heap U.heap locs) (h : kEnv D Ac base sp kn sidx stx s) : kEnv D Ac base sp kn sidx stx U :=
  ⟨h.1.moved hW, fun w hw => kNest_warm (hkn w hw) hW (h.2.1 w hw), (h.2.2.1.kept (fun a h1 h2 => hS.2.1 a h1 h2)).moved hW.alike, (h.2.2.2.1.kept (fun a h1 h2 => hS.2.1 a h1 h2)).moved hW.alike, h.2.2.2.2.1.warm hW, h.2.2.2.2.2.elim fun sv q => ⟨sv, q.1, (q.2.kept (fun a h1 h2 => hS.2.1 a h1 h2)).moved hW.alike⟩⟩
theorem klg_cons (v : Value) (vs : List Value) : (lg_sl (v :: vs)).length = (if v.category = 2 then 2 else 1) + (lg_sl vs).length := by
  unfold lg_sl
  rw [List.flatMap_cons, List.length_append]
  by_cases hc : v.category = 2
  · rw [if_pos hc, if_pos hc]; rfl
  · rw [if_neg hc, if_neg hc]; rfl
theorem kargs_len (ro : Nat → Nat) : ∀ as : List Value, (∀ v ∈ as, ∀ b, v ≠ .double b) → (lg_sl (as.map (kcv ro))).length = (kargs as).length
  | [], _ => rfl
  | v :: r, hd => by
    have ih := kargs_len ro r (fun v hv => hd v (List.mem_cons_of_mem _ hv))
    have h0 := hd v List.mem_cons_self
    rw [List.map_cons, klg_cons, ih, kcv_cat]
    cases v with
    | double b => exact absurd rfl (h0 b)
    | long x => show 2 + _ = (kargs r).length + 1 + 1; omega
    | int x => show 1 + _ = (kargs r).length + 1; omega
    | float x => show 1 + _ = (kargs r).length + 1; omega
    | null => show 1 + _ = (kargs r).length + 1; omega
    | ref x => show 1 + _ = (kargs r).length + 1; omega
    | retAddr x => show 1 + _ = (kargs r).length + 1; omega
theorem kargs_at (ro : Nat → Nat) : ∀ (as : List Value) (i0 i : Nat) (v : Value), (kargs as)[i]? = some (some v) → (∀ v ∈ as, ∀ b, v ≠ .double b) → (i0 + i, kcv ro v) ∈ lv_args i0 (as.map (kcv ro))
  | [], i0, i, v, h, _ => by simp [kargs] at h
  | a :: r, i0, i, v, h, hd => by
    have hd' : ∀ v ∈ r, ∀ b, v ≠ .double b := fun v hv => hd v (List.mem_cons_of_mem _ hv)
    have h0 := hd a List.mem_cons_self
    have one : a.category = 1 → kargs (a :: r) = some a :: kargs r → (i0 + i, kcv ro v) ∈ lv_args i0 ((a :: r).map (kcv ro)) := by
      intro hc hk
      rw [hk] at h
      simp only [List.map_cons, lv_args, kcv_cat, hc]
      cases i with
      | zero =>
        simp only [List.getElem?_cons_zero, Option.some.injEq] at h
        subst h
        exact List.mem_cons_self
      | succ i =>
        rw [List.getElem?_cons_succ] at h
        have := kargs_at ro r (i0 + 1) i v h hd'
        rw [show i0 + (i + 1) = i0 + 1 + i by omega]
        exact List.mem_cons_of_mem _ this
    cases a with
    | double b => exact absurd rfl (h0 b)
    | long x =>
      simp only [kargs] at h
      simp only [List.map_cons, lv_args, kcv_cat]
      cases i with
      | zero =>
        simp only [List.getElem?_cons_zero, Option.some.injEq] at h
        subst h
        exact List.mem_cons_self
      | succ i =>
        cases i with
        | zero => simp at h
        | succ i =>
          rw [List.getElem?_cons_succ, List.getElem?_cons_succ] at h
          have := kargs_at ro r (i0 + 2) i v h hd'
          rw [show i0 + (i + 1 + 1) = i0 + 2 + i by omega]
          exact List.mem_cons_of_mem _ this
    | int x => exact one rfl rfl
    | float x => exact one rfl rfl
    | null => exact one rfl rfl
    | ref x => exact one rfl rfl
    | retAddr x => exact one rfl rfl
theorem knodbl_ok {as : List Value} (h : knodbl as = true) : ∀ v ∈ as, ∀ b, v ≠ .double b := by
  intro v hv b e
  have := List.all_eq_true.mp h v hv
  subst e
  cases this
theorem kLoc_ent (ro : Nat → Nat) {as : List Value} {maxL : Nat} (hd : ∀ v ∈ as, ∀ b, v ≠ .double b) (hlen : (kargs as).length ≤ maxL) :
    kLoc ro maxL (kent maxL as) ((lg_sl (as.map (kcv ro)) ++ List.replicate (maxL - (lg_sl (as.map (kcv ro))).length) Slot.unset).toArray) := by
  have hl := lv_entry (as.map (kcv ro)) (n := maxL) (by rw [kargs_len ro as hd]; exact hlen)
  refine ⟨hl.1, hl.2.1, by simp [kent]; omega, fun i v h => ?_⟩
  by_cases hi : i < (kargs as).length
  · rw [kent, List.getElem?_append_left hi] at h
    have := kargs_at ro as 0 i v h hd
    rw [Nat.zero_add] at this
    exact hl.2.2 _ this
  · rw [kent, List.getElem?_append_right (by omega)] at h
    rw [List.getElem?_replicate] at h
    split at h <;> simp at h
def kPc (D : va_G) (Ac : Nat → ClassId) (base : Nat) (sp : Nat → Nat) (kn : List Cond) (sidx : Nat) (stx : String) (as : List Value) (h : KH) : Array Value → State → Prop := fun a U => a = (as.map (kcv (kro base sp))).toArray ∧ kRel D Ac base sp h U U.heap ∧ kEnv D Ac base sp kn sidx stx U
def kQc (D : va_G) (Ac : Nat → ClassId) (base : Nat) (sp : Nat → Nat) (v : Option Value) (h : KH) : Array Value → State → Outcome → State → Prop := fun _ st o t => o = .returned (v.map (kcv (kro base sp))) ∧ kRel D Ac base sp h t t.heap ∧ va_F (kA base) st t
theorem kPc_blind {D : va_G} {Ac : Nat → ClassId} {base : Nat} {sp : Nat → Nat} {kn : List Cond} {sidx : Nat} {stx : String} {as : List Value} {h : KH} (hkn : ∀ w ∈ kn, kNest w = true) : FrameBlind (kPc D Ac base sp kn sidx stx as h) := by
  intro a U g mk q
  obtain ⟨q1, q2, q3, q4, q5, q6, q7, sv, q8, q9⟩ := q
  refine ⟨q1, kRel.moved (u := U) (U := U.calling g mk a) (Vm.Alike.refl U.vm) q2, ?_⟩
  exact ⟨kCls.moved (s := U) (U := U.calling g mk a) (State.WarmedH.refl U) q3, fun w hw => kNest_warm (hkn w hw) (s := U) (U := U.calling g mk a) (State.WarmedH.refl U) (q4 w hw), va_Z.moved (u := U) (U := U.calling g mk a) (Vm.Alike.refl U.vm) q5, va_Z.moved (u := U) (U := U.calling g mk a) (Vm.Alike.refl U.vm) q6, vk_R.warm (s := U) (U := U.calling g mk a) (State.WarmedH.refl U) q7, sv, q8, va_Z.moved (u := U) (U := U.calling g mk a) (Vm.Alike.refl U.vm) q9⟩
def kcname (kind : Nat) : Option String := cond (Nat.beq kind 31) (some "java/lang/String") ((vwCl[kind]?).map fun c => c.1)
section KC
variable {p : Program} {l : Launch} {e : Env} {R : Room} {s : State} {m : MethodId} {args : Array Value} {below : List Frame} {meth : Method} {c : Code} {H : Heap} {locs : List Loc} {cells slots : Nat} {Q : State → Prop}
variable {cc : ByteArray} {pc : Nat} {st0 rest : List Value} {la : Array Slot} {own : String} {D : va_G} {Ac : Nat → ClassId} {base : Nat} {sp : Nat → Nat} {h h1 : KH}
theorem krecv (hE : kCls D Ac s) (hR : kRel D Ac base sp h s H) {a kind : Nat} {C : String} (hk : (h.1 a).1 = kind) (hC : kcname kind = some C) : ∃ cellB : Cell, H[kro base sp a]? = some cellB ∧ cellB.vm.isStatics = false ∧ s.vm.findClass C = some cellB.cls := by
  subst hk
  have hat := hR.2.2.1 a
  unfold kcname at hC
  cases h31 : Nat.beq (h.1 a).1 31 with
  | true =>
    rw [h31] at hC
    cases hC
    obtain ⟨-, -, cell, g1, g2, g3, -⟩ := hat.2.2.2.2.2.2 (Nat.eq_of_beq_eq_true h31)
    exact ⟨cell, g1, g2, g3⟩
  | false =>
    rw [h31] at hC
    simp only [cond_false, Option.map_eq_some_iff] at hC
    obtain ⟨cl, hc, rfl⟩ := hC
    obtain ⟨cell, q1, q2, q3, -⟩ := hat.1 _ hc
    obtain ⟨-, hfc, -⟩ := hE.1 _ _ hc
    exact ⟨cell, q1, by rw [q3]; rfl, by rw [q2]; exact hfc⟩
theorem k_call {v : Option Value} {mc ms : Nat} {a : Array Value} {free : Addr → Prop} (hr : va_Run p l e R s m args below meth c H locs cells slots mc ms (F0 m pc la st0) rest (kQc D Ac base sp v h1 a) free) (hf : ∀ q, free q → kA base q) (hS : va_S (kA base) s.heap H locs)
    (kk : ∀ (H1 : Heap) (locs1 : List Loc), kRel D Ac base sp h1 s H1 → va_S (kA base) s.heap H1 locs1 → W p l e R s m args below meth c H1 locs1 (cells + mc) (slots + ms) Q (F0 m (pc + 3) la ((v.map (kcv (kro base sp))).toList ++ rest))) : W p l e R s m args below meth c H locs cells slots Q (F0 m pc la st0) := by
  intro T hT X
  obtain ⟨v2, st₀, t, T', L, h0, X', hL, e1, e2, ⟨hv, hrel, hz, hk⟩, st⟩ := hr T hT X
  cases hv
  rw [h0] at hz hk
  have hal : s.vm.Alike t.vm := by rw [← e2]; exact X'.warmed.alike
  obtain ⟨t2, a1, b1⟩ := kk T'.heap (locs ++ L) (by rw [e1]; exact hrel.moved hal.symm)
    ⟨Nat.le_trans hS.1 (by rw [e1]; exact hz), fun q h1 h2 => by rw [e1, hk q (Nat.lt_of_lt_of_le h1 hS.1) h2]; exact hS.2.1 q h1 h2, fun q hq => by
      rcases List.mem_append.mp hq with h | h
      · exact hS.2.2 q h
      · exact hf _ (hL q h)⟩ T' rfl X'
  exact ⟨t2, st t2 a1, b1⟩
end KC
def kParams (y : MethodName) : Option Nat := (parseMethodDescriptor y.desc).map fun d => d.parameters.length
theorem kParams_ok {y : MethodName} {n : Nat} (h : kParams y = some n) : ∀ sig, parseMethodDescriptor y.desc = some sig → n = sig.parameters.length := by
  intro sig hs
  unfold kParams at h
  rw [hs] at h
  exact (Option.some.inj h).symm
/-- what a call's numbers say: the callee M2 for a receiver of this kind (99: none) -/
def kCI (pl : Nat → Nat) (my : Nat → MethodName) (mb : Nat → ByteArray) (mr : Nat → Option FieldType) (kw kn : List Cond) (own : String) (i : Instr) (tg kind M2 : Nat) : Prop :=
  (Cond.code (my M2) (mb M2) (pl M2) (mr M2) ∈ kw ∧ Cond.initialized (my M2).cls ∈ kw ∧ (my M2).cls ≠ "java/lang/invoke/MethodHandle" ∧ (my M2).cls ≠ "java/lang/invoke/VarHandle") ∧
  ((∃ idx, i = .invokestatic idx ∧ kind = 99 ∧ Cond.static (my M2) ∈ kw ∧ kParams (my M2) = some tg ∧ (Cond.methodLink own idx (my M2) ∈ kw ∨ ∃ host, Cond.methodLinkNest own idx (my M2) host ∈ kn)) ∨
   (∃ idx n, i = .invokespecial idx ∧ kind = 95 ∧ tg = n + 1 ∧ (my M2).name = "<init>" ∧ mr M2 = none ∧ Cond.instanceMethod (my M2) ∈ kw ∧ kParams (my M2) = some n ∧ (Cond.methodLink own idx (my M2) ∈ kw ∨ ∃ host, Cond.methodLinkNest own idx (my M2) host ∈ kn)) ∨
   (∃ idx n C, i = .invokevirtual idx ∧ tg = n + 1 ∧ kcname kind = some C ∧ Cond.instanceMethod (my M2) ∈ kw ∧ Cond.selects C (my M2) (my M2) ∈ kw ∧ kParams (my M2) = some n ∧ (Cond.methodLink own idx (my M2) ∈ kw ∨ ∃ host, Cond.methodLinkNest own idx (my M2) host ∈ kn)) ∨
   (∃ idx n C owner, ∃ x : MethodName, i = .invokevirtual idx ∧ tg = n + 1 ∧ kcname kind = some C ∧ Cond.instanceMethod (my M2) ∈ kw ∧ Cond.selects C x (my M2) ∈ kw ∧ kParams x = some n ∧ Cond.methodLink own idx x ∈ kw ∧ Cond.sameMethod x.cls owner x.name x.desc ∈ kw ∧ owner ≠ "java/lang/invoke/MethodHandle" ∧ owner ≠ "java/lang/invoke/VarHandle" ∧
      ((Cond.instanceMethod ⟨owner, x.name, x.desc⟩ ∈ kw ∧ ∃ b0 m0 r0, Cond.code ⟨owner, x.name, x.desc⟩ b0 m0 r0 ∈ kw) ∨ Cond.declares ⟨owner, x.name, x.desc⟩ ∈ kn)) ∨
   (∃ idx n, ∃ cl : vw_C, ∃ x : MethodName, i = .invokespecial idx ∧ tg = n + 1 ∧ vwCl[kind]? = some cl ∧ Cond.instanceMethod (my M2) ∈ kw ∧ kParams (my M2) = some n ∧ Cond.methodLink own idx x ∈ kw ∧ Cond.sameMethod x.cls (my M2).cls x.name x.desc ∈ kw ∧ (my M2).name = x.name ∧ (my M2).desc = x.desc ∧ Cond.superclass own x.cls ∈ kw ∧ (x.cls = (my M2).cls ∨ Cond.superclass x.cls (my M2).cls ∈ kw) ∧ x.name ≠ "<init>"))
section KSU
variable {p : Program} {l : Launch} {e : Env} {R : Room} {s : State} {m : MethodId} {args : Array Value} {below : List Frame} {meth : Method} {c : Code}
theorem k_callSU {T : State} {locs : List Loc} {cells slots : Nat} (X : Stand p l e R s m args below meth c T locs cells slots) (hexec : p.tables.exec = Jvm.exec) {own : String} {index : Nat} {x y : MethodName} {bytes : ByteArray} {maxL : Nat} {ret : Option FieldType}
    (hown : s.vm.findClass own = some m.cls) (hlink : (Cond.methodLink own index x).before args s = true) (hsame : (Cond.sameMethod x.cls y.cls x.name x.desc).before args s = true) (hn1 : y.name = x.name) (hn2 : y.desc = x.desc) (hsup : (Cond.superclass own x.cls).before args s = true) (hup : x.cls = y.cls ∨ (Cond.superclass x.cls y.cls).before args s = true)
    (hinst : (Cond.instanceMethod y).before args s = true) (hcode : (Cond.code y bytes maxL ret).before args s = true) (hno : x.name ≠ "<init>")
    {W : Nat} {Pre : Pt → Array Value → Prop} {Post : Pt → Array Value → Option Value → Pt → Prop} (hK : Back l R p e below s args y 3 W Pre Post)
    {b : Addr} {cellB : Cell} {kB : Class} (hcell : T.heap[b]? = some cellB) (hobj : cellB.vm.isStatics = false) (hkB : s.vm.classes[cellB.cls]? = some kB)
    {g : JFrame} (hg : g.method = m) (hsize : g.locals.size = c.maxLocals) {argsL rest : List Value} (hlen : ∀ sig, parseMethodDescriptor y.desc = some sig → argsL.length = sig.parameters.length)
    (hstack : g.stack = argsL.reverse ++ .ref b :: rest) (hW : 2 * g.monitorRoom + (rest.map fun v => v.category).sum ≤ W) (hdg : decode c.code g.pc = .ok (.invokespecial index, 3))
    (hpre : ∀ vm₁, s.WarmedH vm₁ → Pre ⟨T.setVm vm₁, locs, cells, slots⟩ (Value.ref b :: argsL).toArray) :
    ∃ (v : Option Value) (vm₁ : Vm) (B : Pt), s.WarmedH vm₁ ∧ Stand p l e R s m args below meth c B.U B.locs B.cells B.slots ∧ Post ⟨T.setVm vm₁, locs, cells, slots⟩ (Value.ref b :: argsL).toArray v B ∧
      ∀ target, Steps p.tables e below (B.U.setTop { g with pc := g.pc + 3, stack := v.toList ++ rest }) target → Steps p.tables e below (T.setTop g) target := by
  obtain ⟨mk, methM, hnamed, hmethM, hstM, habM⟩ := Cond.instanceMethod_spec hinst
  obtain ⟨methM', cM, hmethM', -, -, -, -, -, -, hsigM⟩ := Cond.code_spec hnamed hcode
  cases hmethM.symm.trans hmethM'
  obtain ⟨ps, dk, kp, hps, hdk, hkp, hsuper, -, -, hnid⟩ := Cond.superclass_spec hown hsup
  have hn : s.methodNamed? ⟨y.cls, x.name, x.desc⟩ = some mk := by rw [← hn1, ← hn2]; exact hnamed
  have hfy := findClass_of_methodNamed hnamed
  have hsub : s.vm.isSubclass ps mk.cls = true := by
    rcases hup with hc | hc
    · rw [hc] at hps
      have hpm : ps = mk.cls := Option.some.inj (hps.symm.trans hfy)
      rw [hpm]
      simp [Vm.isSubclass, Vm.isSubclassAux]
    · obtain ⟨qs, dq, kq, hqs, hdq, hkq, hsq, -⟩ := Cond.superclass_spec hps hc
      have hqm : qs = mk.cls := Option.some.inj (hqs.symm.trans hfy)
      subst hqm
      have hlt := (Array.getElem?_eq_some_iff.mp hdq).1
      obtain ⟨k, hk⟩ : ∃ k, s.vm.classes.size = k + 1 := ⟨s.vm.classes.size - 1, by omega⟩
      unfold Vm.isSubclass
      rw [hk]
      simp [Vm.isSubclassAux, hdq, hsq]
  obtain ⟨vm₁, X₁, hstep₁⟩ := X.invokespecialUp hexec hown hlink hsame hn hmethM hstM habM hno hdk hnid hps hsuper hsub (a := b) (cell := cellB) hcell
    (fun z h => by rw [h] at hobj; cases hobj) hkB (g := g) hg (argsL := argsL) (rest := rest) (hlen _ hsigM) hstack hdg
  obtain ⟨v, B, X', hpost, hsteps⟩ := hK m meth c ⟨T.setVm vm₁, locs, cells, slots⟩ { g with stack := rest } (.invokespecial index) mk (Value.ref b :: argsL).toArray X₁ hg hsize hdg hW (X₁.named hnamed) (hpre vm₁ X₁.warmed)
  exact ⟨v, vm₁, B, X₁.warmed, X', hpost, fun target h => hstep₁ _ (by rw [doInvoke_state]; exact hsteps.trans h)⟩
theorem k_runSU {H : Heap} {locs : List Loc} {cells slots : Nat} {x y : MethodName} {bytes cc : ByteArray} {maxL nL mc ms n index : Nat} {ret : Option FieldType} {ws : List Cond} {rm : Room} {Pc : Array Value → State → Prop} {Qc : Array Value → State → Outcome → State → Prop} {free : Addr → Prop} {Ts : List Cond} {own C : String} {cC : ClassId} {b : Addr} {As rest : List Value} {g : JFrame}
    (hat : ClassAt s C cC) (S : CallFix p m c cc nL s args Ts own) (hM : Met l y ws rm Pc Qc mc ms free) (hrc : rm.cells = mc) (hrs : rm.slots = ms) (hfr : rm.frames + 1 ≤ R.frames) (hlo : 8 + (maxL + 11) + rm.locals ≤ R.locals) (hws : ∀ w ∈ ws, ∀ (a' : Array Value) (U : State), s.WarmedH U.vm → w.before a' U = true) (hcw : Cond.code y bytes maxL ret ∈ ws)
    (hl1 : (Cond.methodLink own index x).before args s = true) (hl2 : (Cond.sameMethod x.cls y.cls x.name x.desc).before args s = true) (hn1 : y.name = x.name) (hn2 : y.desc = x.desc) (hl3 : (Cond.superclass own x.cls).before args s = true) (hup : x.cls = y.cls ∨ (Cond.superclass x.cls y.cls).before args s = true) (hl4 : (Cond.instanceMethod y).before args s = true) (hini : (Cond.initialized y.cls).before args s = true) (hcode : (Cond.code y bytes maxL ret).before args s = true) (hno : x.name ≠ "<init>") (hlen : ∀ sig, parseMethodDescriptor y.desc = some sig → n = sig.parameters.length) (hp : PreV s H C b Pc As)
    (hg : g.method = m) (hn : As.length = n) (hsize : g.locals.size = nL) (hstack : g.stack = As.reverse ++ .ref b :: rest) (hW : 2 * g.monitorRoom + (rest.map fun v => v.category).sum ≤ 8) (hdg : decode cc g.pc = .ok (.invokespecial index, 3)) (hf : cells + mc ≤ R.cells ∧ slots + ms ≤ R.slots) :
    va_Run p l e R s m args below meth c H locs cells slots mc ms g rest (Qc (Value.ref b :: As).toArray) (free) := by
  have hK : Back l R p e below s args y 3 8 (PreOf R mc ms Pc) (PostOf Qc mc ms free) := back_of (bytes := bytes) (maxL := maxL) (ret := ret) hM hp.1 hrc hrs hfr hlo hws hcw (fun a' U hW => word_at hW (Or.inl (by first | rfl | simp [Cond.onTables, Cond.keeps, Cond.steady])) hini)
  obtain ⟨hx, hb, hml, ho, -⟩ := S
  obtain ⟨-, ⟨cellB, hcB, hoB, hclB⟩, hPc⟩ := hp
  obtain ⟨hfc, kB, hkB, -⟩ := hat
  cases hfc.symm.trans hclB
  intro T hT X
  obtain ⟨v, vm₁, ⟨U', l2, c2, s2⟩, hW₁, X', ⟨g', mk, t, L, e1, e2, hq, h1, hL, h2, h3⟩, st⟩ := k_callSU X hx (bytes := bytes) (maxL := maxL) (ret := ret) ho hl1 hl2 hn1 hn2 hl3 hup hl4 hcode hno hK (by rw [hT]; exact hcB) hoB hkB hg (hsize.trans hml.symm) (argsL := As) (rest := rest) (fun sig h => hn.trans (hlen sig h)) hstack hW (by rw [hb]; exact hdg)
    (fun vm₁ hW₁ => ⟨hf.1, hf.2, hPc (T.setVm vm₁) hT hW₁⟩)
  dsimp only [Pt.U, Pt.locs, Pt.cells, Pt.slots] at X' e1 e2 h1 h2 h3 st
  subst h1; subst h2; subst h3
  exact ⟨v, (T.setVm vm₁).calling g' mk (Value.ref b :: As).toArray, t, U', L, hT, X', hL, e1, e2, hq, st⟩
end KSU
section KR
variable {pl : Nat → Nat} {my : Nat → MethodName} {mb : Nat → ByteArray} {mr : Nat → Option FieldType} {kw kn : List Cond} {sidx : Nat} {stx : String}
variable {p : Program} {l : Launch} {e : Env} {R : Room} {s : State} {m : MethodId} {args : Array Value} {below : List Frame} {meth : Method} {c : Code} {H : Heap} {locs : List Loc} {cells slots : Nat} {Q : State → Prop}
variable {cc : ByteArray} {pc : Nat} {st r as : List Value} {la : Array Slot} {own : String} {D : va_G} {Ac : Nat → ClassId} {base : Nat} {sp : Nat → Nat} {h h1 : KH} {v : Option Value} {rm : Room} {mc ms : Nat}
set_option maxHeartbeats 4000000 in
theorem k_run (hx : p.tables.exec = Jvm.exec) (hb : c.code = cc) (hml : c.maxLocals = la.size) (hown : s.vm.findClass own = some m.cls) (hts : ∀ w ∈ kw, w.before args s = true) (hkg : ∀ w ∈ kw, goodWord w = true) (hnw : ∀ w ∈ kn, va_Nw w s) (hkn : ∀ w ∈ kn, kNest w = true) (hE : kCls D Ac s) (hR : kRel D Ac base sp h s H)
    {i : Instr} {tg kind M2 : Nat} (hci : kCI pl my mb mr kw kn own i tg kind M2) (hkind : kind = 99 ∨ (kind = 95 ∧ ∃ a as2, as = .ref a :: as2) ∨ ∃ a as2, as = .ref a :: as2 ∧ (h.1 a).1 = kind) (hst : st = as.reverse ++ r) (hlen : as.length = tg) (hr8 : kcats r ≤ 8)
    (hM : Met l (my M2) (Cond.code (my M2) (mb M2) (pl M2) (mr M2) :: kw) rm (kPc D Ac base sp kn sidx stx as h) (kQc D Ac base sp v h1) mc ms (kA base)) (hrc : rm.cells = mc) (hrs : rm.slots = ms) (hfr : rm.frames + 1 ≤ R.frames) (hlo : 8 + (pl M2 + 11) + rm.locals ≤ R.locals)
    (hdg : decode cc pc = .ok (i, 3)) (hf : cells + mc ≤ R.cells ∧ slots + ms ≤ R.slots) (hPc : ∀ U : State, U.heap = H → s.WarmedH U.vm → kPc D Ac base sp kn sidx stx as h (as.map (kcv (kro base sp))).toArray U) :
    va_Run p l e R s m args below meth c H locs cells slots mc ms (F0 m pc la (st.map (kcv (kro base sp)))) (r.map (kcv (kro base sp))) (kQc D Ac base sp v h1 (as.map (kcv (kro base sp))).toArray) (kA base) := by
  obtain ⟨⟨hcode, hini, hn1, hn2⟩, hci⟩ := hci
  have hG : GoodIn kw (Cond.code (my M2) (mb M2) (pl M2) (mr M2) :: kw) := fun w hw => by
    have hm : w ∈ kw := by
      rcases List.mem_cons.mp hw with rfl | h2
      · exact hcode
      · exact h2
    exact ⟨hm, good_of_word (hkg w hm)⟩
  have hws : ∀ w ∈ (Cond.code (my M2) (mb M2) (pl M2) (mr M2) :: kw), ∀ (a' : Array Value) (U : State), s.WarmedH U.vm → w.before a' U = true := pay_in hts hG
  have hce : Cond.code (my M2) (mb M2) (pl M2) (mr M2) ∈ (Cond.code (my M2) (mb M2) (pl M2) (mr M2) :: kw) := List.mem_cons_self
  have hbl : FrameBlind (kPc D Ac base sp kn sidx stx as h) := kPc_blind hkn
  have hW8 : 2 * (F0 m pc la (st.map (kcv (kro base sp)))).monitorRoom + ((r.map (kcv (kro base sp))).map fun v => v.category).sum ≤ 8 := by
    rw [kcats_sum]
    show 2 * 0 + _ ≤ 8
    omega
  have hCF : CallFix p m c cc la.size s args kw own := ⟨hx, hb, hml, hown, hts⟩
  rcases hci with ⟨idx, rfl, hk9, hstat, hpar, hlink⟩ | ⟨idx, n, rfl, hk9, rfl, hnm, hret, hinst, hpar, hlink⟩ | ⟨idx, n, C, rfl, rfl, hC, hinst, hsel, hpar, hlink⟩ | ⟨idx, n, C, owner, x, rfl, rfl, hC, hinst, hsel, hpar, hlink, hsame, ho1, ho2, hdecl⟩ | ⟨idx, n, cl, x, rfl, rfl, hcl, hinst, hpar, hlink, hsame, hnn1, hnn2, hsup, hup, hnm⟩
  · have hstk : (st.map (kcv (kro base sp))) = (as.map (kcv (kro base sp))).reverse ++ r.map (kcv (kro base sp)) := by rw [hst]; simp
    rcases hlink with hl | ⟨host, hl⟩
    · exact va_runS hCF hM ⟨⟨hrc, hrs, hfr, hlo, hws, hce, hts _ hcode, hts _ hini, ⟨hn1, hn2⟩, kParams_ok hpar, hts _ hl⟩, hts _ hstat⟩ ⟨hbl, hPc⟩ rfl (by simp [hlen]) rfl hstk hW8 hdg hf
    · exact va_runSN hCF hM ⟨⟨⟨hrc, hrs, hfr, hlo, hws, hce⟩, hts _ hcode, hts _ hini, ⟨hn1, hn2⟩, kParams_ok hpar, va_Nw.use rfl (hnw _ hl)⟩, hts _ hstat, trivial⟩ ⟨hbl, hPc⟩ rfl (by simp [hlen]) rfl hstk hW8 hdg hf
  · obtain ⟨a, as2, rfl⟩ : ∃ a as2, as = .ref a :: as2 := by
      rcases hkind with z | ⟨-, z⟩ | ⟨a, as2, z, -⟩
      · rw [hk9] at z; cases z
      · exact z
      · exact ⟨a, as2, z⟩
    have hl2 : as2.length = n := by simpa using hlen
    have hstk : (st.map (kcv (kro base sp))) = (as2.map (kcv (kro base sp))).reverse ++ .ref (kro base sp a) :: r.map (kcv (kro base sp)) := by rw [hst]; simp [kcv]
    rw [hret] at hM hce hws hcode
    rcases hlink with hl | ⟨host, hl⟩
    · exact va_runI hCF hM ⟨⟨hrc, hrs, hfr, hlo, hws, hce, hts _ hcode, hts _ hini, ⟨hn1, hn2⟩, kParams_ok hpar, hts _ hl⟩, hnm, hts _ hinst⟩ ⟨hbl, hPc⟩ rfl (by simp [hl2]) rfl hstk hW8 hdg hf
    · exact va_runIN hCF hM ⟨⟨⟨hrc, hrs, hfr, hlo, hws, hce⟩, hts _ hcode, hts _ hini, ⟨hn1, hn2⟩, kParams_ok hpar, va_Nw.use rfl (hnw _ hl)⟩, hnm, hts _ hinst⟩ ⟨hbl, hPc⟩ rfl (by simp [hl2]) rfl hstk hW8 hdg hf
  · obtain ⟨a, as2, rfl, hka⟩ : ∃ a as2, as = .ref a :: as2 ∧ (h.1 a).1 = kind := by
      rcases hkind with rfl | ⟨rfl, -⟩ | z
      · exact absurd (show (none : Option String) = some C from hC) (fun z => by cases z)
      · exact absurd (show (none : Option String) = some C from hC) (fun z => by cases z)
      · exact z
    have hl2 : as2.length = n := by simpa using hlen
    have hstk : (st.map (kcv (kro base sp))) = (as2.map (kcv (kro base sp))).reverse ++ .ref (kro base sp a) :: r.map (kcv (kro base sp)) := by rw [hst]; simp [kcv]
    rcases hlink with hl | ⟨host, hl⟩
    · exact va_runV (C := C) hCF hM ⟨⟨hrc, hrs, hfr, hlo, hws, hce, hts _ hcode, hts _ hini, ⟨hn1, hn2⟩, kParams_ok hpar, hts _ hl⟩, hts _ hinst, hts _ hsel⟩ ⟨hbl, krecv hE hR hka hC, hPc⟩ rfl (by simp [hl2]) rfl hstk hW8 hdg hf
    · exact va_runVN (C := C) hCF hM ⟨⟨⟨hrc, hrs, hfr, hlo, hws, hce⟩, hts _ hcode, hts _ hini, ⟨hn1, hn2⟩, kParams_ok hpar, va_Nw.use rfl (hnw _ hl)⟩, hts _ hinst, hts _ hsel⟩ ⟨hbl, krecv hE hR hka hC, hPc⟩ rfl (by simp [hl2]) rfl hstk hW8 hdg hf
  · obtain ⟨a, as2, rfl, hka⟩ : ∃ a as2, as = .ref a :: as2 ∧ (h.1 a).1 = kind := by
      rcases hkind with rfl | ⟨rfl, -⟩ | z
      · exact absurd (show (none : Option String) = some C from hC) (fun z => by cases z)
      · exact absurd (show (none : Option String) = some C from hC) (fun z => by cases z)
      · exact z
    have hl2 : as2.length = n := by simpa using hlen
    have hstk : (st.map (kcv (kro base sp))) = (as2.map (kcv (kro base sp))).reverse ++ .ref (kro base sp a) :: r.map (kcv (kro base sp)) := by rw [hst]; simp [kcv]
    have hD2 : va_Decl s ⟨owner, x.name, x.desc⟩ := by
      rcases hdecl with ⟨d1, b0, m0, r0, d2⟩ | d1
      · exact va_Decl.of (hts _ d1) (hts _ d2)
      · exact va_Decl.abs (hnw _ d1)
    exact va_runU (C := C) (x := x) (owner := owner) hCF hM ⟨⟨hrc, hrs, hfr, hlo, hws, hce⟩, hts _ hcode, hts _ hini, ⟨ho1, ho2⟩, kParams_ok hpar, hts _ hlink, hts _ hsame, hD2, hts _ hsel, hts _ hinst⟩ ⟨hbl, krecv hE hR hka hC, hPc⟩ rfl (by simp [hl2]) rfl hstk hW8 hdg hf
  · obtain ⟨a, as2, rfl, hka⟩ : ∃ a as2, as = .ref a :: as2 ∧ (h.1 a).1 = kind := by
      rcases hkind with rfl | ⟨rfl, -⟩ | z
      · exact absurd (show (none : Option vw_C) = some cl from hcl) (fun z => by cases z)
      · exact absurd (show (none : Option vw_C) = some cl from hcl) (fun z => by cases z)
      · exact z
    have hl2 : as2.length = n := by simpa using hlen
    have hstk : (st.map (kcv (kro base sp))) = (as2.map (kcv (kro base sp))).reverse ++ .ref (kro base sp a) :: r.map (kcv (kro base sp)) := by rw [hst]; simp [kcv]
    have hC : kcname kind = some cl.1 := by
      unfold kcname
      have h31 : Nat.beq kind 31 = false := by
        cases q : Nat.beq kind 31 with
        | false => rfl
        | true =>
          have := kCl_lt hcl
          have := Nat.eq_of_beq_eq_true q
          omega
      rw [h31, hcl]
      rfl
    exact k_runSU (C := cl.1) (x := x) (hE.1 _ _ hcl).2 hCF hM hrc hrs hfr hlo hws hce (hts _ hlink) (hts _ hsame) hnn1 hnn2 (hts _ hsup) (hup.elim Or.inl (fun z => Or.inr (hts _ z))) (hts _ hinst) (hts _ hini) (hts _ hcode) hnm (kParams_ok hpar) ⟨hbl, krecv hE hR hka hC, hPc⟩ rfl (by simp [hl2]) rfl hstk hW8 hdg hf
end KR
theorem kpick_inv {ts : List (Nat × Nat)} {as : List Value} {h : KH} {M2 : Nat} (hp : kpick ts as h = some M2) : ∃ kind, (kind, M2) ∈ ts ∧ (kind = 99 ∨ (kind = 95 ∧ ∃ a as2, as = .ref a :: as2) ∨ ∃ a as2, as = .ref a :: as2 ∧ (h.1 a).1 = kind) := by
  unfold kpick at hp
  split at hp
  · cases hp
    exact ⟨99, List.mem_cons_self, Or.inl rfl⟩
  · split at hp
    · cases hp
      exact ⟨95, List.mem_cons_self, Or.inr (Or.inl ⟨rfl, _, _, rfl⟩)⟩
    · cases hp
  · split at hp
    · rename_i a r
      exact ⟨(h.1 a).1, klook_mem hp, Or.inr (Or.inr ⟨a, r, rfl, rfl⟩)⟩
    · cases hp
