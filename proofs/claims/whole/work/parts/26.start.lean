/-! THE CLAIM OUT OF ONE WALK OF THE LAW'S BODY. Your part is whole_start (and what it stands on); all else here is the same for every law, but numbers. -/
def R_law : String := "ChalkWarsLaw"
def lw_P (b : Addr) (xs : List Int32) (args : Array Value) (s : State) : Prop := args = #[.ref b] ∧ s.IntsAt b xs ∧ xs.length ≤ 2560 ∧ (Jvm.Cond.and given_1 narrow_1).before args s = true
def lw_Q (_ : Array Value) (s : State) (o : Outcome) (t : State) : Prop := o = .returned (some (.int 1)) ∧ Framed s o t [] 600000 7302250
def lw_Z (below : List Frame) (a : Array Value) (s : State) : State → Prop := fun t => ∃ o, t.status = .running ∧ Ended t below o ∧ lw_Q a s o t
/-- the law's own end, with 1 on the stack, nothing written that was there before, its room as the claim has it -/
theorem lw_ret {p : Program} {l : Launch} {e : Env} {s : State} {m : MethodId} {below : List Frame} {meth : Method} {c : Code} {b : Nat} (hx : p.tables.exec = Jvm.exec) (hb : c.code = code) (hr : meth.sig.returnType = ret) (hlocks : meth.locks = false) {pc : Nat} {H : Heap} {ls : Array Slot} (hdg : decode code pc = .ok (.ireturn, 1)) : W p l e room_1 s m #[Value.ref b] below meth c H [] 600000 7302250 (lw_Z below #[Value.ref b] s) (F0 m pc ls [.int 1]) := by
  intro T hT X
  obtain ⟨fs, hret, hrun, hended, hW, hframe⟩ := X.leave (v := some (.int 1)) (hlocks := hlocks) (fun h => by rw [hr] at h; cases h)
  have hmeth' : T.vm.method? m = some meth := X.method'
  refine ⟨T.setFrames fs, ?_, .returned (some (.int 1)), hrun, hended, rfl, ⟨_, rfl⟩, hW, hframe⟩
  jvm_step X.here [X.here.top, hx, hb, hdg, hmeth', hr, ret, narrow_b1]
  (try refine ⟨rfl, ?_⟩); (try refine ⟨rfl, ?_⟩)
  first | (intro acts; rw [hret _ acts rfl rfl rfl]) | rw [hret _ _ rfl rfl rfl]
  exact Steps.refl _
/-- what holds at the law's entry: the machine, the code, the tables' words (any of lw_tbl by 'hts w (by decide +kernel)'), the script of L ints xs at the cell b, what the Statement gives of the start (any of its parts by flat_of_before) -/
def lw_At (p : Program) (s : State) (m : MethodId) (meth : Method) (c : Code) (b L : Nat) (xs : Nat → Int32) : Prop :=
  p.tables.exec = Jvm.exec ∧ c.code = code ∧ meth.sig.returnType = ret ∧ c.maxLocals = 4 ∧ s.vm.findClass R_law = some m.cls ∧ (∀ w ∈ lw_tbl, w.before #[Value.ref b] s = true) ∧ va_X b L xs s s.heap ∧ b < s.heap.size ∧ meth.locks = false ∧ (Jvm.Cond.and given_1 narrow_1).before #[Value.ref b] s = true
def kNM : List Int32 := [104, 97, 110, 100, 0, 0, 0, 99, 104, 105, 108, 100, 0, 0, 103, 101, 110, 101, 114, 97, 108, 109, 111, 116, 104, 101, 114, 0, 114, 117, 98, 98, 101, 114, 0, 100, 111, 103, 0, 0, 0, 0, 100, 114, 97, 119, 0, 0, 0, 114, 101, 115, 116, 0, 0, 0, 114, 117, 98, 0, 0, 0, 0, 100, 117, 115, 107, 0, 0, 0, 97, 116, 0, 0, 0, 0, 0, 102, 97, 99, 105, 110, 103, 0, 99, 104, 97, 108, 107, 0, 0, 110, 117, 109, 98, 101, 114, 0, 105, 102, 0, 0, 0, 0, 0, 111, 114, 0, 0, 0, 0, 0, 97, 110, 100, 0, 0, 0, 0, 110, 111, 116, 0, 0, 0, 0]
def kSB : List Int32 := [104, 97, 110, 100, 32, 99, 104, 105, 108, 100, 32, 103, 101, 110, 101, 114, 97, 108, 32, 109, 111, 116, 104, 101, 114, 32, 114, 117, 98, 98, 101, 114, 32, 100, 111, 103, 32, 100, 114, 97, 119, 32, 114, 101, 115, 116, 32, 114, 117, 98, 32, 105, 102, 32, 111, 114, 32, 97, 110, 100, 32, 110, 111, 116, 32, 100, 117, 115, 107, 32, 97, 116, 32, 102, 97, 99, 105, 110, 103, 32, 99, 104, 97, 108, 107, 32, 110, 117, 109, 98, 101, 114, 32]
/-- the memory at the start: the names, the Reader's text, the script -/
def kh0 (L : Nat) (xs : Nat → Int32) : KH := (fun a => if a = 1000000000 then (30, 126) else if a = 1000000001 then (31, 0) else if a = 1000000002 then (32, 93) else if a = 1000000003 then (30, L) else (99, 0), fun a k => if a = 1000000001 ∧ k = 0 then some 1000000002 else none, fun a k => if a = 1000000000 then kNM.getD k 0 else if a = 1000000002 then kSB.getD k 0 else if a = 1000000003 then xs k else 0, fun _ _ => 0, 0, 0)
theorem kNest_tab {w : Cond} (h : kNest w = true) : w.onTables = true := by
  cases w <;> first | rfl | cases h
theorem kinst (k : Nat) (c : vw_C) (hc : vwCl[k]? = some c) : Cond.instantiable c.1 c.2.2 ∈ kw := by
  have hk := kCl_lt hc
  match k, hk, hc with
  | 0, _, hc => cases hc; decide +kernel
  | 1, _, hc => cases hc; decide +kernel
  | 2, _, hc => cases hc; decide +kernel
  | 3, _, hc => cases hc; decide +kernel
  | 4, _, hc => cases hc; decide +kernel
  | 5, _, hc => cases hc; decide +kernel
  | 6, _, hc => cases hc; decide +kernel
  | 7, _, hc => cases hc; decide +kernel
  | 8, _, hc => cases hc; decide +kernel
  | 9, _, hc => cases hc; decide +kernel
  | 10, _, hc => cases hc; decide +kernel
  | 11, _, hc => cases hc; decide +kernel
  | k + 12, hk, _ => omega
section KST
variable {s : State} {b : Nat}
theorem kcls0 (hts : ∀ w ∈ lw_tbl, w.before #[Value.ref b] s = true) : ∃ (D : va_G) (Ac : Nat → ClassId), kCls D Ac s := by
  have hkw := kw_hts hts
  have h0 : ∀ k : Nat, ∃ q : ClassId × (Nat → Nat), ∀ c : vw_C, vwCl[k]? = some c → u_Kn s c.1 c.2.1 c.2.2 q.1 q.2 := by
    intro k
    cases hc : vwCl[k]? with
    | none => exact ⟨(default, fun _ => 0), fun c h => by cases h⟩
    | some c =>
      obtain ⟨cC, iS, h⟩ := u_known (n := c.2.2) hkw (kcw k c hc) (hkw _ (kinst k c hc))
      exact ⟨(cC, iS), fun c2 h2 => by cases h2; exact h⟩
  obtain ⟨f, hf⟩ := Classical.axiomOfChoice h0
  have h1 : ∀ k : Nat, ∃ cA : ClassId, ∀ ty : FieldType, karr k = some ty → ArrOfT s cA ty ∧ va_RA s cA ty ∧ s.vm.findClass ("[" ++ ty.toString) = some cA := by
    intro k
    have prim : ∀ ty : FieldType, (Cond.arrayClass ty).before #[Value.ref b] s = true → (∀ C, ty ≠ .object C) → ∃ cA : ClassId, ArrOfT s cA ty ∧ va_RA s cA ty ∧ s.vm.findClass ("[" ++ ty.toString) = some cA := by
      intro ty h hno
      obtain ⟨cA, kA, comp, g1, g2, g3⟩ := Cond.arrayClass_spec h
      refine ⟨cA, fun n z => ⟨fun k h => (by cases h), kA, g2, comp, g3⟩, ?_, g1⟩
      cases ty <;> first | exact g1 | exact absurd rfl (hno _)
    have obj : ∀ C : String, (Cond.arrayOver (.object C)).before #[Value.ref b] s = true → ∃ cA : ClassId, ArrOfT s cA (.object C) ∧ va_RA s cA (.object C) ∧ s.vm.findClass ("[" ++ (FieldType.object C).toString) = some cA := by
      intro C h
      obtain ⟨comp, cA, kA, g1, -, g2, g3, g4⟩ := Cond.arrayOver_spec h
      exact ⟨cA, fun n z => ⟨fun k h => (by cases h), kA, g2, comp, g3⟩, ⟨kA, comp, g2, g3, g1, g4⟩, g4⟩
    have arr : ∀ ty : FieldType, (Cond.arrayOver (.array ty)).before #[Value.ref b] s = true → ∃ cA : ClassId, ArrOfT s cA (.array ty) ∧ va_RA s cA (.array ty) ∧ s.vm.findClass ("[" ++ (FieldType.array ty).toString) = some cA := by
      intro ty h
      obtain ⟨comp, cA, kA, g1, g2, g3, g4⟩ := kao_spec h
      exact ⟨cA, fun n z => ⟨fun k h => (by cases h), kA, g2, comp, g3⟩, g4, g4⟩
    cases hk : karr k with
    | none => exact ⟨default, fun ty h => by cases h⟩
    | some ty =>
      have hty : ty = .int ∨ ty = .byte ∨ ty = .boolean ∨ ty = .long ∨ ty = .object "ChalkWars$City" ∨ ty = .object "ChalkWars$Thing" ∨ ty = .array .int := by
        unfold karr at hk
        split at hk <;> cases hk <;> simp
      have fin : ∃ cA : ClassId, ArrOfT s cA ty ∧ va_RA s cA ty ∧ s.vm.findClass ("[" ++ ty.toString) = some cA := by
        rcases hty with rfl | rfl | rfl | rfl | rfl | rfl | rfl
        · exact prim _ (hkw _ kar_int) (fun C h => by cases h)
        · exact prim _ (hkw _ kar_byte) (fun C h => by cases h)
        · exact prim _ (hkw _ kar_boolean) (fun C h => by cases h)
        · exact prim _ (hkw _ kar_long) (fun C h => by cases h)
        · exact obj _ (hts _ (by decide +kernel))
        · exact obj _ (hts _ (by decide +kernel))
        · exact arr _ (hts _ (by decide +kernel))
      obtain ⟨cA, g⟩ := fin
      exact ⟨cA, fun t2 h2 => by cases h2; exact g⟩
  obtain ⟨Ac, hAc⟩ := Classical.axiomOfChoice h1
  refine ⟨(fun k => (f k).1, fun k => (f k).2), Ac, fun k c hc => hf k c hc, hAc, ?_, ?_, ?_, ?_⟩
  · exact va_AO.of (hts (Cond.arrayOver (.object "ChalkWars$City")) (by decide +kernel))
  · exact va_AO.of (hts (Cond.arrayOver (.object "ChalkWars$Thing")) (by decide +kernel))
  · exact hts (Cond.arrayOver (.array .int)) (by decide +kernel)
  · intro k hk c hc
    have hk2 : k = 0 ∨ k = 2 ∨ k = 3 ∨ k = 4 ∨ k = 8 := by simpa using hk
    rcases hk2 with rfl | rfl | rfl | rfl | rfl
    all_goals
      cases hc
      exact va_tabs rfl rfl (hts _ (by decide +kernel))
def kFN (j : Nat) : Cond := .eq (.elem (.static "ChalkWarsModel" "NAMES" "[I") (.int (Int32.ofNat j))) (.int (kNM.getD j 0))
def kFS (j : Nat) : Cond := .eq (.elem (.field (.string "ChalkWars$Reader" 60) "java/lang/String" "value" "[B") (.int (Int32.ofNat j))) (.int (kSB.getD j 0))
set_option maxRecDepth 100000 in
theorem kFN_e : ((flatC (Jvm.Cond.and given_1 narrow_1)).drop 12).take 126 = (List.range 126).map kFN := by rfl
set_option maxRecDepth 100000 in
theorem kFS_e : ((flatC (Jvm.Cond.and given_1 narrow_1)).drop 163).take 93 = (List.range 93).map kFS := by rfl
theorem kFN_m {j : Nat} (hj : j < 126) : kFN j ∈ flatC (Jvm.Cond.and given_1 narrow_1) := by
  have h : kFN j ∈ (List.range 126).map kFN := List.mem_map.mpr ⟨j, List.mem_range.mpr hj, rfl⟩
  rw [← kFN_e] at h
  exact List.mem_of_mem_drop (List.mem_of_mem_take h)
theorem kFS_m {j : Nat} (hj : j < 93) : kFS j ∈ flatC (Jvm.Cond.and given_1 narrow_1) := by
  have h : kFS j ∈ (List.range 93).map kFS := List.mem_map.mpr ⟨j, List.mem_range.mpr hj, rfl⟩
  rw [← kFS_e] at h
  exact List.mem_of_mem_drop (List.mem_of_mem_take h)
set_option maxHeartbeats 4000000 in
theorem kenv0 {L : Nat} {xs : Nat → Int32} (hts : ∀ w ∈ lw_tbl, w.before #[Value.ref b] s = true) (hX : va_X b L xs s s.heap) (hL : L ≤ 2560) (hgv : (Jvm.Cond.and given_1 narrow_1).before #[Value.ref b] s = true) :
    ∃ (D : va_G) (Ac : Nat → ClassId) (sp : Nat → Nat), sp 3 = b ∧ kEnv D Ac s.heap.size sp kn 60 "hand child general mother rubber dog draw rest rub if or and not dusk at facing chalk number " s ∧ kRel D Ac s.heap.size sp (kh0 L xs) s s.heap := by
  obtain ⟨D, Ac, hC⟩ := kcls0 hts
  have hkw := kw_hts hts
  have hA : ∀ a : Nat, a < s.heap.size → ¬ kA s.heap.size a := fun a h1 h2 => Nat.lt_irrefl _ (Nat.lt_of_lt_of_le h1 h2)
  have hs := flat_of_before _ hgv
  obtain ⟨t, ht, hT⟩ := va_Tof (args := #[Value.ref b]) (s := s) (tm := .static "ChalkWarsModel" "NAMES" "[I") (ty := .int) (N := 126) (f := fun j => .int (kNM.getD j 0)) (A := kA s.heap.size) (by decide) (hs _ (by decide +kernel)) (va_eqt (hs _ (by decide +kernel))) (fun j hj => va_eqt (hs _ (kFN_m hj))) hA
  obtain ⟨adK, adV, hS, hSe⟩ := vk_Sof (args := #[Value.ref b]) (s := s) (N := 1) (tm := fun _ => .string "ChalkWars$Reader" 60) (len := [93]) (byt := [kSB]) (A := kA s.heap.size)
    (fun i hi => by obtain rfl : i = 0 := (by omega); decide) (fun i hi => hs _ (by decide +kernel)) (fun i hi => hs _ (by decide +kernel)) (fun i hi => hs _ (by decide +kernel)) (fun i hi => by obtain rfl : i = 0 := (by omega); exact hs _ (by decide +kernel))
    (fun i hi j hj => by
      obtain rfl : i = 0 := (by omega)
      exact hs _ (kFS_m hj))
    (fun i j hi hj hij => absurd (show i = j by omega) hij) hA
  obtain ⟨q1, q2, q3, q4⟩ := hS.1 0 (by omega)
  obtain ⟨scr, x1, x2, x3, x4, x5⟩ := hX
  have hb0 : b < s.heap.size := (Array.getElem?_eq_some_iff.mp x1).1
  refine ⟨D, Ac, fun k => if k = 0 then t else if k = 1 then adK 0 else if k = 2 then adV 0 else b, rfl, ⟨hC, fun w hw => ?_, ?_, ?_, ?_, ?_⟩, by simp [kh0], by simp [kh0], fun a => ?_, fun a ha => ?_⟩
  · obtain ⟨g1, g2⟩ := List.mem_filter.mp hw
    exact va_tabs (kNest_tab g2) rfl (hts w g1)
  · exact va_Zref (hts _ (by decide +kernel)) (hts _ (by decide +kernel)) ht hA
  · exact va_Zof (hts _ (by decide +kernel)) (hts _ (by decide +kernel)) (va_eqt (hs _ (by decide +kernel))) hA
  · exact vk_R.of (hts _ (by decide +kernel)) (hSe 0 (by omega))
  · obtain ⟨v, hv, hr⟩ := Cond.isRef_spec (hs (Cond.isRef (.static "jdk/internal/util/Preconditions" "SIOOBE_FORMATTER" "Ljava/util/function/BiFunction;")) (by decide +kernel))
    exact ⟨v, (by cases v <;> first | rfl | cases hr), va_Zof (hts _ (by decide +kernel)) (hts _ (by decide +kernel)) hv hA⟩
  · by_cases e0 : a = 1000000000
    · subst e0
      refine ⟨fun c hc => (by cases hc), fun e => ?_, fun e => ?_, fun e => ?_, fun _ => hT, fun e => ?_, fun e => ?_⟩ <;> simp [kh0] at e
    · by_cases e1 : a = 1000000001
      · subst e1
        refine ⟨fun c hc => (by cases hc), fun e => ?_, fun e => ?_, fun e => ?_, fun e => ?_, fun e => ?_, fun _ => ⟨q3, q2, q1⟩⟩ <;> simp [kh0] at e
      · by_cases e2 : a = 1000000002
        · subst e2
          refine ⟨fun c hc => (by cases hc), fun e => ?_, fun e => ?_, fun e => ?_, fun e => ?_, fun _ => q4, fun e => ?_⟩ <;> simp [kh0] at e
        · by_cases e3 : a = 1000000003
          · subst e3
            refine ⟨fun c hc => (by cases hc), fun e => ?_, fun e => ?_, fun e => ?_, fun _ => ?_, fun e => ?_, fun e => ?_⟩
            · simp [kh0] at e
            · simp [kh0] at e
            · simp [kh0] at e
            · exact ⟨scr, x1, x2, x3, by rw [x4]; exact Nat.le_refl _, by rw [x4]; rfl, fun j hj => x5 j hj, hA b hb0⟩
            · simp [kh0] at e
            · simp [kh0] at e
          · have e4 : (kh0 L xs).1 a = (99, 0) := by simp [kh0, e0, e1, e2, e3]
            rw [e4]
            refine ⟨fun c hc => (by cases hc), fun e => ?_, fun e => ?_, fun e => ?_, fun e => ?_, fun e => ?_, fun e => ?_⟩ <;> simp at e
  · exfalso
    simp only [kh0] at ha
    repeat' split at ha
    all_goals simp at ha
end KST
theorem kwiden {p : Program} {l : Launch} {e : Env} {R : Room} {s : State} {m : MethodId} {args : Array Value} {below : List Frame} {meth : Method} {c : Code} {H : Heap} {locs : List Loc} {cells slots : Nat} {Q : State → Prop} {g : JFrame} {k n : Nat} (h1 : cells ≤ k) (h2 : slots ≤ n) (kk : W p l e R s m args below meth c H locs k n Q g) : W p l e R s m args below meth c H locs cells slots Q g := fun T hT X => kk T hT (stand_widen X h1 h2)
set_option maxHeartbeats 4000000 in
/-- a run of KM from the start is the whole claim -/
theorem kstart {p : Program} {e : Env} {s : State} {m : MethodId} {below : List Frame} {meth : Method} {c : Code} (l : Launch) {b L : Nat} {xs : Nat → Int32} (hL : L ≤ 2560) (C0 : lw_At p s m meth c b L xs) {h1 : KH} (hrun : Wp 2000 kML 0 [some (.ref 1000000003), none, none, none] [] (kh0 L xs) (fun o => o.1 = some (.int 1) ∧ o.2.2.2.2.2.1 ≤ 600000 ∧ o.2.2.2.2.2.2 ≤ 7302250)) : W p l e room_1 s m #[Value.ref b] below meth c s.heap [] 0 0 (lw_Z below #[Value.ref b] s) (entryFrame m ([Value.ref b] : List Value).toArray 4) := by
  obtain ⟨hx, hb, hr, hml, hown, hts, hX, hbl, hlocks, hgv⟩ := C0
  obtain ⟨D, Ac, sp, hsp, hE, hR⟩ := kenv0 hts hX hL hgv
  obtain ⟨n, o, hq, ho1, ho2, ho3⟩ := hrun
  have hkw := kw_hts hts
  have hnb : ∀ v ∈ ([.ref 1000000003] : List Value), ∀ z, v ≠ .double z := fun v hv z e => by
    obtain rfl := List.mem_singleton.mp hv
    cases e
  have hasv : ([.ref 1000000003] : List Value).map (kcv (kro s.heap.size sp)) = [.ref b] := by
    show [Value.ref (kro s.heap.size sp 1000000003)] = [.ref b]
    have : kro s.heap.size sp 1000000003 = b := hsp
    rw [this]
  have hloc := kLoc_ent (kro s.heap.size sp) (as := [.ref 1000000003]) (maxL := 4) hnb (by decide)
  rw [hasv] at hloc
  rw [lg_entry_eq]
  refine k_main (pf := kpf) (pl := kmaxl) (pr := kmrc) (mo := kmo) (my := kmy) (mb := kmb) (mr := kmret) (kw := kw) (kn := kn) (sidx := 60) (D := D) (Ac := Ac) (base := s.heap.size) (sp := sp) kG kw_good kn_nest kcw l n 2000 kML 0 _ [] (kh0 L xs) o hq p e room_1 s m #[Value.ref b] below meth c s.heap [] 0 0 _ _ 0 0 o.2.2.2.2.2.1 o.2.2.2.2.2.2
    ⟨hx, hb, hml, hown, fun h => absurd h (by decide +kernel), hkw, hE⟩ hR va_S.rf hloc (by decide) (by decide) rfl rfl rfl rfl ho2 ho3 (fun pc1 H1 locs1 la1 hR1 hS1 hcase => ?_)
  rw [ho1] at hcase ⊢
  rcases hcase with ⟨z, hz1, -, hz3⟩ | ⟨hz1, -⟩
  · cases hz1
    refine va_forget hS1.2.2 (kwiden ho2 ho3 ?_)
    exact lw_ret hx hb hr hlocks hz3
  · cases hz1
