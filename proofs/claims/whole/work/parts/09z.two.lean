/-! new int[n][k] from the machine's own words: the states of its loop, what holds at each of them, the step -/
/-- what the word that somebody has made a T[][] gives -/
theorem kao_spec {A : Array Value} {first s : State} {o : Option Outcome} {idx : List Nat} {ty : FieldType} (h : (Cond.arrayOver (.array ty)).holds A first o s idx = true) :
    ∃ (cI cA : ClassId) (kA : Class), s.vm.findClass (FieldType.array ty).toString = some cI ∧ s.vm.classes[cA]? = some kA ∧ kA.kind = .array cI (.array ty) ∧ s.vm.findClass ("[" ++ (FieldType.array ty).toString) = some cA := by
  have h0 := eq_of_beq h
  obtain ⟨cI, e1, h1⟩ := Option.bind_eq_some_iff.mp h0
  obtain ⟨cA, e2, h2⟩ := Option.bind_eq_some_iff.mp h1
  obtain ⟨kA, e3, h3⟩ := Option.map_eq_some_iff.mp h2
  have e4 := Array.of_findIdx?_eq_some e2
  rw [e3] at e4
  refine ⟨cI, cA, kA, e1, e3, ?_⟩
  cases hk : kA.kind with
  | array c t =>
    simp only [hk, beq_iff_eq, Bool.and_eq_true, decide_eq_true_eq] at e4 h3
    exact ⟨by rw [e4, h3.1], h3.2⟩
  | _ =>
    simp only [hk] at h3
    cases h3
/-- the outer row's items when i inner rows are there, made behind the cell z -/
def kmmF (z i : Nat) : Nat → Value := fun j => if j < i then .ref (z + 1 + j) else .null
theorem kmmF_up (cA : ClassId) (N z i : Nat) : (arrV cA N (kmmF z i)).setSlot i (.ref (z + 1 + i)) = arrV cA N (kmmF z (i + 1)) := by
  rw [arrV_store]
  refine congrArg (arrV cA N) (funext fun j => ?_)
  unfold updV kmmF
  by_cases e : j = i
  · subst e
    simp
  · have e2 : (j < i + 1) = (j < i) := propext (by omega)
    simp only [e, if_false, e2]
def kmmV (cA cI : ClassId) (N M : Nat) (Z : State) : Nat → State
  | 0 => Z.pushCell (arrV cA N (kmmF Z.heap.size 0))
  | i + 1 => ((kmmV cA cI N M Z i).pushCell (arrV cI M fun _ => .int 0)).setCell Z.heap.size (arrV cA N (kmmF Z.heap.size (i + 1)))
def kmmR (cA cI : ClassId) (N M : Nat) (Z : State) (i : Nat) (V : State) : Prop :=
  V.vm = Z.vm ∧ V.slotsUsed = Z.slotsUsed + N + i * M ∧ V.heap.size = Z.heap.size + (1 + i) ∧ (∀ x : Nat, x < Z.heap.size → V.heap[x]? = Z.heap[x]?) ∧
    V.heap[Z.heap.size]? = some (arrV cA N (kmmF Z.heap.size i)) ∧ ∀ j : Nat, j < i → V.heap[Z.heap.size + 1 + j]? = some (arrV cI M fun _ => .int 0)
theorem kmm_facts (cA cI : ClassId) (N M : Nat) (Z : State) : ∀ i : Nat, kmmR cA cI N M Z i (kmmV cA cI N M Z i)
  | 0 => by
    refine ⟨rfl, ?_, ?_, fun x hx => ?_, ?_, fun j hj => absurd hj (Nat.not_lt_zero j)⟩
    · show Z.slotsUsed + (arrV cA N (kmmF Z.heap.size 0)).slots.size = _
      rw [arrV_size, Nat.zero_mul]
      rfl
    · show (Z.heap.push _).size = _
      rw [Array.size_push]
    · show (Z.heap.push _)[x]? = _
      rw [Array.getElem?_push, if_neg (Nat.ne_of_lt hx)]
    · show (Z.heap.push _)[Z.heap.size]? = _
      rw [Array.getElem?_push_size]
  | i + 1 => by
    obtain ⟨f1, f2, f3, f4, f5, f6⟩ := kmm_facts cA cI N M Z i
    have hz : ∀ x : Nat, x ≠ Z.heap.size → (kmmV cA cI N M Z (i + 1)).heap[x]? = ((kmmV cA cI N M Z i).heap.push (arrV cI M fun _ => .int 0))[x]? := fun x hx => by
      show (((kmmV cA cI N M Z i).heap.push (arrV cI M fun _ => .int 0)).setIfInBounds Z.heap.size _)[x]? = _
      rw [Array.getElem?_setIfInBounds, if_neg (Ne.symm hx)]
    have hp : ∀ x : Nat, x < (kmmV cA cI N M Z i).heap.size → ((kmmV cA cI N M Z i).heap.push (arrV cI M fun _ => .int 0))[x]? = (kmmV cA cI N M Z i).heap[x]? := fun x hx => by
      rw [Array.getElem?_push, if_neg (Nat.ne_of_lt hx)]
    refine ⟨f1, ?_, ?_, fun x hx => ?_, ?_, fun j hj => ?_⟩
    · show (kmmV cA cI N M Z i).slotsUsed + (arrV cI M fun _ => .int 0).slots.size = _
      rw [arrV_size, f2, Nat.succ_mul]
      omega
    · show (((kmmV cA cI N M Z i).heap.push (arrV cI M fun _ => .int 0)).setIfInBounds Z.heap.size _).size = _
      rw [Array.size_setIfInBounds, Array.size_push, f3]
      omega
    · rw [hz x (Nat.ne_of_lt hx), hp x (by rw [f3]; omega)]
      exact f4 x hx
    · show (((kmmV cA cI N M Z i).heap.push (arrV cI M fun _ => .int 0)).setIfInBounds Z.heap.size _)[Z.heap.size]? = _
      rw [Array.getElem?_setIfInBounds, if_pos rfl, if_pos (by rw [Array.size_push, f3]; omega)]
    · rw [hz _ (by omega)]
      by_cases e : j = i
      · subst e
        have e2 : Z.heap.size + 1 + j = (kmmV cA cI N M Z j).heap.size := by rw [f3]; omega
        rw [e2, Array.getElem?_push_size]
      · rw [hp _ (by rw [f3]; omega)]
        exact f6 j (by omega)
section KMW
variable {E : CtlPost} {e : Env} {d : Bool} {acts : List Action}
/-- one inner row -/
theorem kmm_row {s : State} {cI cc : ClassId} {kI : Class} {k : Int32} (hkI : s.vm.classes[cI]? = some kI) (hI : kI.kind = .array cc .int) (hk : ¬ k < 0)
    (hl : ¬ k.toNatClampNeg > e.platform.arrayLengthLimit) (hh : ¬ k.toNatClampNeg * componentBytes .int > e.platform.maxHeapBytes) (hc : s.heap.size < e.platform.maxCells) (hs : s.slotsUsed + k.toNatClampNeg ≤ e.platform.maxSlots)
    {Q : Addr → Pre} (hq : ∀ acts', Q s.heap.size d acts' (s.pushCell (arrV cI k.toNatClampNeg fun _ => .int 0))) : wp (Jvm.Op.multianewarray.make cI [k]) Q E e d acts s := by
  rw [Jvm.Op.multianewarray.make]
  simp only [wp_bind', W.ite, hk, if_false, wp_pure', W.theClass, hkI, hI, Option.some.injEq, exists_eq_left']
  refine W.newArray_of hkI hI hl hh hc hs rfl fun acts' => ?_
  have := hq acts'
  rw [← arrV_new] at this
  exact this
/-- both rows of rows, whatever frame is on top -/
theorem kmm_make {Z : State} {f : JFrame} {cA cI cc : ClassId} {kA kI : Class} {n k : Int32} (hkA : Z.vm.classes[cA]? = some kA) (hA : kA.kind = .array cI (.array .int)) (hkI : Z.vm.classes[cI]? = some kI) (hI : kI.kind = .array cc .int)
    (hn : ¬ n < 0) (hk : ¬ k < 0) (hl1 : ¬ n.toNatClampNeg > e.platform.arrayLengthLimit) (hh1 : ¬ n.toNatClampNeg * componentBytes (.array .int) > e.platform.maxHeapBytes)
    (hl2 : ¬ k.toNatClampNeg > e.platform.arrayLengthLimit) (hh2 : ¬ k.toNatClampNeg * componentBytes .int > e.platform.maxHeapBytes)
    (hc : Z.heap.size + (1 + n.toNatClampNeg) ≤ e.platform.maxCells) (hs : Z.slotsUsed + (n.toNatClampNeg + n.toNatClampNeg * k.toNatClampNeg) ≤ e.platform.maxSlots)
    {Q : Addr → Pre} (hq : ∀ d' acts', Q Z.heap.size d' acts' ((kmmV cA cI n.toNatClampNeg k.toNatClampNeg Z n.toNatClampNeg).setTop f)) :
    wp (Jvm.Op.multianewarray.make cA [n, k]) Q E e d acts (Z.setTop f) := by
  rw [Jvm.Op.multianewarray.make]
  simp only [wp_bind', W.ite, hn, if_false, wp_pure', W.theClass, State.vm_setTop, hkA, hA, Option.some.injEq, exists_eq_left']
  refine W.newArray_of (s := Z.setTop f) hkA hA hl1 hh1 (by show Z.heap.size < _; omega) (by show Z.slotsUsed + _ ≤ _; omega) rfl fun acts' => ?_
  have hnone : ([k].find? (· < 0)) = none := by simp [hk]
  simp only [hnone]
  rw [ite_self, wp_bind', Std.Legacy.Range.forIn_eq_forIn_range']
  have hlen : ([:n.toNatClampNeg] : Std.Legacy.Range).size = n.toNatClampNeg := by simp [Std.Legacy.Range.size]
  rw [hlen]
  refine wp_forIn_inv (fun todo V => ∃ i : Nat, i + todo.length = n.toNatClampNeg ∧ todo = List.range' i todo.length ∧ V = (kmmV cA cI n.toNatClampNeg k.toNatClampNeg Z i).setTop f) _ _ ⟨0, by simp, by simp, ?_⟩ ?_ ?_
  · show (Z.setTop f).pushCell _ = (Z.pushCell _).setTop f
    have e0 : kmmF Z.heap.size 0 = fun _ => Value.null := funext fun j => if_neg (Nat.not_lt_zero j)
    rw [e0, ← arrV_new]
    rfl
  · rintro x todo V d' acts' Q' ⟨i, h1, h2, rfl⟩ next
    rw [List.length_cons] at h1
    rw [List.length_cons, List.range'_succ] at h2
    obtain ⟨rfl, h3⟩ := List.cons.inj h2
    obtain ⟨f1, f2, f3, f4, f5, f6⟩ := kmm_facts cA cI n.toNatClampNeg k.toNatClampNeg Z x
    have hxm : x * k.toNatClampNeg + k.toNatClampNeg ≤ n.toNatClampNeg * k.toNatClampNeg := by
      rw [← Nat.succ_mul]
      exact Nat.mul_le_mul_right _ (by omega)
    simp only [wp_bind']
    refine kmm_row (s := (kmmV cA cI n.toNatClampNeg k.toNatClampNeg Z x).setTop f) (by rw [State.vm_setTop, f1]; exact hkI) hI hk hl2 hh2 (by rw [State.heap_setTop, f3]; omega) (by rw [State.slotsUsed_setTop, f2]; omega) fun acts2 => ?_
    have hlt : Z.heap.size < (kmmV cA cI n.toNatClampNeg k.toNatClampNeg Z x).heap.size := by rw [f3]; omega
    have hcell : (((kmmV cA cI n.toNatClampNeg k.toNatClampNeg Z x).setTop f).pushCell (arrV cI k.toNatClampNeg fun _ => .int 0)).heap[Z.heap.size]? = some (arrV cA n.toNatClampNeg (kmmF Z.heap.size x)) := by
      show ((kmmV cA cI n.toNatClampNeg k.toNatClampNeg Z x).heap.push _)[Z.heap.size]? = _
      rw [Array.getElem?_push, if_neg (Nat.ne_of_lt hlt)]
      exact f5
    simp only [wp_bind', W.writeLoc, wp_pure']
    refine ⟨_, hcell, by simp [arrV], by rw [arrV_size]; omega, ?_, next _ _ _ ⟨x + 1, by omega, h3, ?_⟩⟩
    · have hkA2 : (kmmV cA cI n.toNatClampNeg k.toNatClampNeg Z x).vm.classes[cA]? = some kA := by
        rw [f1]
        exact hkA
      simp [State.fitsSlot, State.slotType?, arrV, hkA2, hA]
      rfl
    · have e1 : ((kmmV cA cI n.toNatClampNeg k.toNatClampNeg Z x).setTop f).heap.size = Z.heap.size + 1 + x := by rw [State.heap_setTop, f3]; omega
      rw [e1, kmmF_up]
      rfl
  · rintro V d' acts' ⟨i, h1, -, rfl⟩
    have h2 : i = n.toNatClampNeg := h1
    subst h2
    simp only [wp_pure']
    exact hq _ _
end KMW
section KMS
variable {p : Program} {l : Launch} {e : Env} {R : Room} {s : State} {m : MethodId} {args : Array Value} {below : List Frame} {meth : Method} {c : Code} {T : State} {locs : List Loc} {cells slots : Nat}
theorem kmm_grown (X : Stand p l e R s m args below meth c T locs cells slots) (cA cI : ClassId) (N M : Nat) : ∀ i : Nat, ∃ J : List Loc, (∀ x ∈ J, x.base = T.heap.size) ∧ Stand p l e R s m args below meth c (kmmV cA cI N M T i) (locs ++ J) (cells + (1 + i)) (slots + (N + i * M))
  | 0 => by
    refine ⟨[], fun x hx => absurd hx List.not_mem_nil, ?_⟩
    have h := X.pushed (arrV cA N (kmmF T.heap.size 0))
    rw [arrV_size] at h
    rw [List.append_nil, Nat.zero_mul]
    exact h
  | i + 1 => by
    obtain ⟨J, hJ, Y⟩ := kmm_grown X cA cI N M i
    obtain ⟨-, -, f3, -, f5, -⟩ := kmm_facts cA cI N M T i
    have hlt : T.heap.size < (kmmV cA cI N M T i).heap.size := by rw [f3]; omega
    have hcell : ((kmmV cA cI N M T i).pushCell (arrV cI M fun _ => .int 0)).heap[T.heap.size]? = some (arrV cA N (kmmF T.heap.size i)) := by
      rw [State.heap_pushCell_of_lt (h := hlt)]
      exact f5
    have h := (Y.pushed (arrV cI M fun _ => .int 0)).stored hcell i (.ref (T.heap.size + 1 + i))
    rw [kmmF_up, arrV_size, List.append_assoc] at h
    refine ⟨J ++ [⟨T.heap.size, i⟩], fun x hx => ?_, ?_⟩
    · rcases List.mem_append.mp hx with hx | hx
      · exact hJ x hx
      · rw [List.mem_singleton.mp hx]
    · rw [show cells + (1 + (i + 1)) = cells + (1 + i) + 1 by omega, show slots + (N + (i + 1) * M) = slots + (N + i * M) + M by rw [Nat.succ_mul]; omega]
      exact h
/-- the step: the state behind it is told, and that whatever it reaches is reached -/
theorem kmm_stand (X : Stand p l e R s m args below meth c T locs cells slots) (hx : p.tables.exec = Jvm.exec) {own : String} {idx : Nat} (hown : s.vm.findClass own = some m.cls) (hlink : (Cond.classLink own idx "[[I").before args s = true)
    (hover : (Cond.arrayOver (.array .int)).before args s = true) (harr : (Cond.arrayClass .int).before args s = true) {g : JFrame} (hg : g.method = m) (hdg : decode c.code g.pc = .ok (.multianewarray idx 2, 4))
    {n k : Int32} {rest : List Value} (hst : g.stack = .int k :: .int n :: rest) (hn : ¬ n < 0) (hk : ¬ k < 0) (hnb : n.toNatClampNeg ≤ 10000) (hkb : k.toNatClampNeg ≤ 10000)
    (hcells : cells + (1 + n.toNatClampNeg) ≤ R.cells) (hslots : slots + (n.toNatClampNeg + n.toNatClampNeg * k.toNatClampNeg) ≤ R.slots) :
    ∃ (vm₁ : Vm) (cA cI : ClassId), s.vm.findClass "[[I" = some cA ∧ s.vm.findClass "[I" = some cI ∧
      Stand p l e R s m args below meth c (kmmV cA cI n.toNatClampNeg k.toNatClampNeg (T.setVm vm₁) n.toNatClampNeg) locs (cells + (1 + n.toNatClampNeg)) (slots + (n.toNatClampNeg + n.toNatClampNeg * k.toNatClampNeg)) ∧
      ∀ target, Steps p.tables e below ((kmmV cA cI n.toNatClampNeg k.toNatClampNeg (T.setVm vm₁) n.toNatClampNeg).setTop { g with pc := g.pc + 4, stack := .ref T.heap.size :: rest }) target → Steps p.tables e below (T.setTop g) target := by
  subst hg
  obtain ⟨cI, cA, kA, eI, eA, hA, nA⟩ := kao_spec hover
  obtain ⟨cI2, kI, cc, eI2, ekI, hI⟩ := Cond.arrayClass_spec harr
  have eq1 : cI2 = cI := Option.some.inj (eI2.symm.trans eI)
  subst eq1
  obtain ⟨cA2, eA2, hcl⟩ := Cond.classLink_spec hown hlink e.platform (by rw [X.admits.platform])
  have eq2 : cA2 = cA := Option.some.inj (eA2.symm.trans nA)
  subst eq2
  obtain ⟨gv, wm, -⟩ := State.classEntry (e := e) X.warmed hcl
  generalize T.vm.noted g.method.cls idx (.cls cA2) = vm₁ at gv wm
  obtain ⟨kA1, ekA1, bA⟩ := wm.alike.2.2 _ _ eA
  obtain ⟨kI1, ekI1, bI⟩ := wm.alike.2.2 _ _ ekI
  have X1 := X.noted wm
  obtain ⟨J, hJ, Y⟩ := kmm_grown X1 cA2 cI2 n.toNatClampNeg k.toNatClampNeg n.toNatClampNeg
  obtain ⟨r1, r2⟩ := X.roomAbove hcells hslots
  refine ⟨vm₁, cA2, cI2, nA, eI, Y.dropFresh fun x hx2 => ?_, fun target go => ?_⟩
  · rw [hJ x hx2]
    exact X.heapGrown
  have lim : ∀ z : Nat, z ≤ 10000 → (¬ z > e.platform.arrayLengthLimit) ∧ ¬ z * 4 > e.platform.maxHeapBytes := fun z hz => by
    rw [Launch.admits_arrayLengthLimit X.admits, Launch.admits_maxHeapBytes X.admits]
    exact ⟨by omega, by omega⟩
  jvm_step X.here [hx, hdg]
  simp only [Jvm.Op.multianewarray.sem, wp_bind', W.resolveClassAt_links (State.method?_setTop g X.here.top) gv]
  rw [W.popN, if_neg (by decide)]
  refine ⟨g, State.topJava?_setTop' (s := T.setVm vm₁) g X.here.top, [.int n, .int k], rest, rfl, hst, ?_⟩
  simp only [List.mapM_cons, List.mapM_nil, wp_bind', wp_pure']
  have eS : ((T.setTop g).setVm vm₁).setTop { g with stack := rest } = (T.setVm vm₁).setTop { g with stack := rest } := State.setTop_setTop (T.setVm vm₁) g _
  rw [eS]
  refine kmm_make (Z := T.setVm vm₁) ekA1 (by rw [bA]; exact hA) ekI1 (by rw [bI]; exact hI) hn hk (lim _ hnb).1 (lim _ hnb).2 (lim _ hkb).1 (lim _ hkb).2 r1 r2 fun d' acts' => ?_
  simp only [wp_bind', W.mark, W.pushRef, State.topJava?_setTop' _ Y.here.top, Option.some.injEq, exists_eq_left', State.setTop_setTop]
  intro acts2
  simp [jvm, Y.here.top]
  exact go
end KMS
