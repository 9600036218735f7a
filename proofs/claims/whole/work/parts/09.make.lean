/-! KM: cells are made; arraycopy -/
section KMK
variable {p : Program} {l : Launch} {e : Env} {R : Room} {s : State} {m : MethodId} {args : Array Value} {below : List Frame} {meth : Method} {c : Code} {H H0 : Heap} {locs : List Loc} {cells slots : Nat} {Q : State → Prop}
variable {cc : ByteArray} {pc : Nat} {st st1 : List Value} {la : Array Slot} {own : String} {D : va_G} {Ac : Nat → ClassId} {base : Nat} {sp : Nat → Nat} {h h1 : KH}
theorem kS_grow {H1 : Heap} {n : Nat} (hS : va_S (kA base) H0 H locs) (z : H1.size = H.size + n) (oq : ∀ q, q < H.size → H1[q]? = H[q]?) : va_S (kA base) H0 H1 locs :=
  ⟨Nat.le_trans hS.1 (by omega), fun q h1 h2 => (oq q (Nat.lt_of_lt_of_le h1 hS.1)).trans (hS.2.1 q h1 h2), hS.2.2⟩
/-- one cell is made -/
theorem kRel_make (hR : kRel D Ac base sp h s H) {kind len sl : Nat} {H1 : Heap} (hz : h.2.2.2.2.1 < 900000000) (z : H1.size = H.size + 1) (oq : ∀ q, q < H.size → H1[q]? = H[q]?)
    (hat : kAt D Ac (kro base sp) (kA base) (kind, len) (fun _ => none) (fun _ => 0) (fun _ => 0) s H1 H.size) : kRel D Ac base sp (kmake h kind len sl) s H1 := by
  refine hR.grow (n := 1) rfl (by show h.2.2.2.2.1 + 1 ≤ _; omega) z oq (fun b hb => ?_) (fun b h1 h2 => ?_)
  · have hne : b ≠ h.2.2.2.2.1 := fun q => hb ⟨by omega, by omega⟩
    exact ⟨ku_n _ _ hne, ku_n _ _ hne, ku_n _ _ hne, ku_n _ _ hne⟩
  · have hbe : b = h.2.2.2.2.1 := by omega
    subst hbe
    rw [hR.1] at hat
    simp only [kmake, ku_s]
    exact hat
theorem kW_new (hx : p.tables.exec = Jvm.exec) (hb : c.code = cc) (hown : s.vm.findClass own = some m.cls) (hE : kCls D Ac s) (hcw : ∀ (k : Nat) (c : vw_C), vwCl[k]? = some c → ∀ w ∈ u_ws c.1 c.2.1 c.2.2, w.before args s = true) (hR : kRel D Ac base sp h s H) (hS : va_S (kA base) H0 H locs) {idx kind n : Nat} {cl : vw_C}
    (hc : vwCl[kind]? = some cl) (hn : n = cl.2.2) (hlink : (Cond.classLink own idx cl.1).before args s = true) (hinst : (Cond.instantiable cl.1 n).before args s = true) (hini : (Cond.initialized cl.1).before args s = true) (hcells : cells + 1 ≤ R.cells) (hslots : slots + n ≤ R.slots)
    (hdg : decode cc pc = .ok (.new idx, 3)) (hh : knew kind n st h = some (st1, h1))
    (kk : ∀ (H1 : Heap), h1.2.2.2.2.1 = h.2.2.2.2.1 + 1 → h1.2.2.2.2.2 = h.2.2.2.2.2 + n → kRel D Ac base sp h1 s H1 → va_S (kA base) H0 H1 locs → W p l e R s m args below meth c H1 locs (cells + 1) (slots + n) Q (F0 m (pc + 3) la (st1.map (kcv (kro base sp))))) : W p l e R s m args below meth c H locs cells slots Q (F0 m pc la (st.map (kcv (kro base sp)))) := by
  subst hn
  unfold knew at hh
  cases hb2 : Nat.blt h.2.2.2.2.1 900000000 with
  | false => rw [hb2] at hh; cases hh
  | true =>
    rw [hb2] at hh
    cases hh
    rw [Nat.blt_eq] at hb2
    have hKn := hE.1 _ _ hc
    have e0 : kro base sp h.2.2.2.2.1 = H.size := by rw [hR.1]; exact if_pos (by omega)
    refine W.newcK hx hb hown hlink hinst hini rfl hdg hcells hslots hKn.2.1 rfl fun H1 kC hkC e1 z1 o1 => ?_
    have k2 := kk H1 rfl rfl (kRel_make hR hb2 z1 o1 ⟨fun c2 hc2 => ?_, fun q => ?_, fun q => ?_, fun q => ?_, fun q => ?_, fun q => ?_, fun q => ?_⟩) (kS_grow hS z1 o1)
    · simp only [List.map_cons, kcv, e0] at k2
      exact k2
    · cases hc.symm.trans hc2
      obtain ⟨hty, -⟩ := kCl_ty _ (kCl_lt hc) _ hc
      exact (u_born (kty kind) (hcw _ _ hc) (fun w hw => hw) hKn hkC e1 hty).to (fun j hj => kdef_at _ (kCl_tc' hc hj))
    all_goals (exfalso; have := kCl_lt hc; simp only at q; omega)
theorem kAt_arr {kind len : Nat} {H1 : Heap} {q : Nat} {ro : Nat → Nat} (hk : 20 ≤ kind ∧ kind < 27) (g1 : kind = 20 ∨ kind = 21 ∨ kind = 22 → H1[q]? = some (arrV (Ac kind) len (fun _ => .int 0))) (g2 : kind = 23 → H1[q]? = some (arrV (Ac kind) len (fun _ => .long 0)))
    (g3 : kind = 24 ∨ kind = 25 ∨ kind = 26 → H1[q]? = some (arrV (Ac kind) len (fun _ => .null))) : kAt D Ac ro (kA base) (kind, len) (fun _ => none) (fun _ => 0) (fun _ => 0) s H1 q := by
  refine ⟨fun c2 hc2 => ?_, g1, g2, g3, fun q => ?_, fun q => ?_, fun q => ?_⟩
  · have := kCl_lt hc2
    simp only at this
    omega
  all_goals (exfalso; simp only at q; omega)
def katy : Nat → Option ArrayType
  | 20 => some .int
  | 21 => some .byte
  | 22 => some .boolean
  | 23 => some .long
  | _ => none
theorem kW_newa (hx : p.tables.exec = Jvm.exec) (hb : c.code = cc) (hE : kCls D Ac s) (hR : kRel D Ac base sp h s H) (hS : va_S (kA base) H0 H locs) {at1 : ArrayType} {kind : Nat}
    (hk : katy kind = some at1) (harr : (Cond.arrayClass (newarray.typeOf at1)).before args s = true) (hcells : ∀ n : Int32, st.head? = some (.int n) → cells + 1 ≤ R.cells ∧ slots + n.toNatClampNeg ≤ R.slots)
    (hdg : decode cc pc = .ok (.newarray at1, 2)) (hh : knewa kind st h = some (st1, h1))
    (kk : ∀ (H1 : Heap) (n : Nat), h1.2.2.2.2.1 = h.2.2.2.2.1 + 1 → h1.2.2.2.2.2 = h.2.2.2.2.2 + n → kRel D Ac base sp h1 s H1 → va_S (kA base) H0 H1 locs → W p l e R s m args below meth c H1 locs (cells + 1) (slots + n) Q (F0 m (pc + 2) la (st1.map (kcv (kro base sp))))) : W p l e R s m args below meth c H locs cells slots Q (F0 m pc la (st.map (kcv (kro base sp)))) := by
  unfold knewa at hh
  split at hh
  · rename_i n r
    cases hb2 : (Nat.blt h.2.2.2.2.1 900000000 && kin n 10000) with
    | false => rw [hb2] at hh; cases hh
    | true =>
      rw [hb2] at hh
      cases hh
      simp only [Bool.and_eq_true] at hb2
      obtain ⟨hz, hin⟩ := hb2
      rw [Nat.blt_eq] at hz
      have hn0 : ¬ n < 0 := fun q => kin_iff.mp hin (Or.inl q)
      have hnl := kin_lt hin
      obtain ⟨c1, c2⟩ := hcells n rfl
      have e0 : kro base sp h.2.2.2.2.1 = H.size := by rw [hR.1]; exact if_pos (by omega)
      refine va_newaK hx hb harr rfl hdg rfl hn0 rfl ?_ c1 c2 rfl fun H1 cA e1 z1 o1 _ hnm => ?_
      · have : componentBytes (newarray.typeOf at1) ≤ 8 := by cases at1 <;> decide
        have := Nat.mul_le_mul (Nat.le_of_lt hnl) this
        omega
      · have hty : karr kind = some (newarray.typeOf at1) ∧ 20 ≤ kind ∧ kind < 24 := by
          unfold katy at hk
          split at hk <;> first | (cases hk; exact ⟨rfl, by decide, by decide⟩) | cases hk
        have hA : cA = Ac kind := Option.some.inj (hnm.symm.trans (hE.2.1 _ _ hty.1).2.2)
        subst hA
        have k2 := kk H1 n.toNatClampNeg rfl rfl (kRel_make hR hz z1 o1 (kAt_arr ⟨hty.2.1, by omega⟩ (fun q => ?_) (fun q => ?_) (fun q => ?_))) (kS_grow hS z1 o1)
        · simp only [List.map_cons, kcv, e0] at k2
          exact k2
        · rw [e1]
          rcases q with rfl | rfl | rfl <;> (cases hk; rfl)
        · rw [e1]
          subst q
          cases hk
          rfl
        · omega
  · cases hh
theorem kW_newq (hx : p.tables.exec = Jvm.exec) (hb : c.code = cc) (hown : s.vm.findClass own = some m.cls) (hE : kCls D Ac s) (hR : kRel D Ac base sp h s H) (hS : va_S (kA base) H0 H locs) {idx kind : Nat} {C : String}
    (hk : (kind = 24 ∧ C = "ChalkWars$City") ∨ (kind = 25 ∧ C = "ChalkWars$Thing")) (hlink : (Cond.classLink own idx C).before args s = true) (hcells : ∀ n : Int32, st.head? = some (.int n) → cells + 1 ≤ R.cells ∧ slots + n.toNatClampNeg ≤ R.slots)
    (hdg : decode cc pc = .ok (.anewarray idx, 3)) (hh : knewa kind st h = some (st1, h1))
    (kk : ∀ (H1 : Heap) (n : Nat), h1.2.2.2.2.1 = h.2.2.2.2.1 + 1 → h1.2.2.2.2.2 = h.2.2.2.2.2 + n → kRel D Ac base sp h1 s H1 → va_S (kA base) H0 H1 locs → W p l e R s m args below meth c H1 locs (cells + 1) (slots + n) Q (F0 m (pc + 3) la (st1.map (kcv (kro base sp))))) : W p l e R s m args below meth c H locs cells slots Q (F0 m pc la (st.map (kcv (kro base sp)))) := by
  unfold knewa at hh
  split at hh
  · rename_i n r
    cases hb2 : (Nat.blt h.2.2.2.2.1 900000000 && kin n 10000) with
    | false => rw [hb2] at hh; cases hh
    | true =>
      rw [hb2] at hh
      cases hh
      simp only [Bool.and_eq_true] at hb2
      obtain ⟨hz, hin⟩ := hb2
      rw [Nat.blt_eq] at hz
      have hn0 : ¬ n < 0 := fun q => kin_iff.mp hin (Or.inl q)
      have hnl := kin_lt hin
      obtain ⟨c1, c2⟩ := hcells n rfl
      have e0 : kro base sp h.2.2.2.2.1 = H.size := by rw [hR.1]; exact if_pos (by omega)
      have hover : va_AO C s := by
        rcases hk with ⟨-, rfl⟩ | ⟨-, rfl⟩
        · exact hE.2.2.1
        · exact hE.2.2.2.1
      refine W.anew hx hb hown hlink (va_AO.use hover) rfl hdg rfl hn0 (by omega) c1 c2 fun cA kA1 comp f1 f2 f3 f4 => ?_
      generalize hH1 : H.push ({ cls := cA, slots := Array.replicate n.toNatClampNeg .null, vm := .none } : Cell) = H1
      have z1 : H1.size = H.size + 1 := by rw [← hH1, Array.size_push]
      have e1 : H1[H.size]? = some (arrV cA n.toNatClampNeg (fun _ => .null)) := by rw [← hH1, Array.getElem?_push_size, ← arrV_new]
      have o1 : ∀ q : Nat, q < H.size → H1[q]? = H[q]? := fun q hq => by rw [← hH1, Array.getElem?_push, if_neg (Nat.ne_of_lt hq)]
      have hA : cA = Ac kind := by
        rcases hk with ⟨rfl, rfl⟩ | ⟨rfl, rfl⟩
        · exact Option.some.inj (f1.symm.trans (hE.2.1 24 _ rfl).2.2)
        · exact Option.some.inj (f1.symm.trans (hE.2.1 25 _ rfl).2.2)
      subst hA
      have k2 := kk H1 n.toNatClampNeg rfl rfl (kRel_make hR hz z1 o1 (kAt_arr (by omega) (fun q => by omega) (fun q => by omega) (fun _ => e1))) (kS_grow hS z1 o1)
      simp only [List.map_cons, kcv, e0] at k2
      exact k2
  · cases hh
/-- a step that touches only the stack, of those in kheap -/
theorem kW_div (hx : p.tables.exec = Jvm.exec) (hb : c.code = cc) {i : Instr} (hi : i = .idiv ∨ i = .irem) (hdg : decode cc pc = .ok (i, 1)) {tg : Nat} {ts : List (Nat × Nat)} (hh : kheap i tg ts st h = some (st1, h1))
    (kk : h1 = h → W p l e R s m args below meth c H locs cells slots Q (F0 m (pc + 1) la (st1.map (kcv (kro base sp))))) : W p l e R s m args below meth c H locs cells slots Q (F0 m pc la (st.map (kcv (kro base sp)))) := by
  rcases hi with rfl | rfl
  · simp only [kheap] at hh
    split at hh
    · rename_i y x r
      by_cases hy : y = 0
      · simp [hy] at hh
      · simp only [hy, decide_false, cond_false] at hh
        cases hh
        exact lv_idiv hx hb hdg hy (kk rfl)
    · cases hh
  · simp only [kheap] at hh
    split at hh
    · rename_i y x r
      by_cases hy : y = 0
      · simp [hy] at hh
      · simp only [hy, decide_false, cond_false] at hh
        cases hh
        exact lv_irem hx hb hdg hy (kk rfl)
    · cases hh
end KMK
