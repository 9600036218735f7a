/-! KM: String.checkIndex, walked by hand (one of its statics is a reference of which nothing is known) -/
theorem dk_pre_0 : decode cJ3_checkIndex_8e157 0 = .ok (.iload_n 0, 1) := by decide +kernel
theorem dk_pre_1 : decode cJ3_checkIndex_8e157 1 = .ok (.ifCond .lt 8, 3) := by decide +kernel
theorem dk_pre_4 : decode cJ3_checkIndex_8e157 4 = .ok (.iload_n 0, 1) := by decide +kernel
theorem dk_pre_5 : decode cJ3_checkIndex_8e157 5 = .ok (.iload_n 1, 1) := by decide +kernel
theorem dk_pre_6 : decode cJ3_checkIndex_8e157 6 = .ok (.if_icmp .lt 10, 3) := by decide +kernel
theorem dk_pre_16 : decode cJ3_checkIndex_8e157 16 = .ok (.iload_n 0, 1) := by decide +kernel
theorem dk_pre_17 : decode cJ3_checkIndex_8e157 17 = .ok (.ireturn, 1) := by decide +kernel
theorem dk_chk_0 : decode cJ0_checkIndex_df160 0 = .ok (.iload_n 0, 1) := by decide +kernel
theorem dk_chk_1 : decode cJ0_checkIndex_df160 1 = .ok (.iload_n 1, 1) := by decide +kernel
theorem dk_chk_2 : decode cJ0_checkIndex_df160 2 = .ok (.getstatic 1053, 3) := by decide +kernel
theorem dk_chk_5 : decode cJ0_checkIndex_df160 5 = .ok (.invokestatic 1059, 3) := by decide +kernel
theorem dk_chk_8 : decode cJ0_checkIndex_df160 8 = .ok (.pop, 1) := by decide +kernel
theorem dk_chk_9 : decode cJ0_checkIndex_df160 9 = .ok (.return_, 1) := by decide +kernel
/-- a start with arguments that are told as the machine has them -/
def kPv (D : va_G) (Ac : Nat → ClassId) (base : Nat) (sp : Nat → Nat) (kn : List Cond) (sidx : Nat) (stx : String) (as : List Value) (h : KH) : Array Value → State → Prop := fun a U => a = as.toArray ∧ kRel D Ac base sp h U U.heap ∧ kEnv D Ac base sp kn sidx stx U
theorem kPv_blind {D : va_G} {Ac : Nat → ClassId} {base : Nat} {sp : Nat → Nat} {kn : List Cond} {sidx : Nat} {stx : String} {as : List Value} {h : KH} (hkn : ∀ w ∈ kn, kNest w = true) : FrameBlind (kPv D Ac base sp kn sidx stx as h) := by
  intro a U g mk q
  obtain ⟨q1, q2, q3, q4, q5, q6, q7, sv, q8, q9⟩ := q
  refine ⟨q1, kRel.moved (u := U) (U := U.calling g mk a) (Vm.Alike.refl U.vm) q2, ?_⟩
  exact ⟨kCls.moved (s := U) (U := U.calling g mk a) (State.WarmedH.refl U) q3, fun w hw => kNest_warm (hkn w hw) (s := U) (U := U.calling g mk a) (State.WarmedH.refl U) (q4 w hw), va_Z.moved (u := U) (U := U.calling g mk a) (Vm.Alike.refl U.vm) q5, va_Z.moved (u := U) (U := U.calling g mk a) (Vm.Alike.refl U.vm) q6, vk_R.warm (s := U) (U := U.calling g mk a) (State.WarmedH.refl U) q7, sv, q8, va_Z.moved (u := U) (U := U.calling g mk a) (Vm.Alike.refl U.vm) q9⟩
section KCK
variable {kw kn : List Cond} {sidx : Nat} {stx : String} {D : va_G} {Ac : Nat → ClassId} {base : Nat} {sp : Nat → Nat} {h : KH}
set_option maxHeartbeats 4000000 in
theorem kMet_pre (l : Launch) {x n : Int32} {sv : Value} (hsv : sv.category = 1) (hx0 : ¬ x < 0) (hxn : x < n) (fr lo : Nat) :
    Met l yJ3_checkIndex_8e157 (.code yJ3_checkIndex_8e157 cJ3_checkIndex_8e157 3 (some .int) :: kw) { frames := fr, cells := 0, slots := 0, locals := lo } (kPv D Ac base sp kn sidx stx [.int x, .int n, sv] h) (kQc D Ac base sp (some (.int x)) h) 0 0 (kA base) := by
  refine Met.ofW (cc := cJ3_checkIndex_8e157) (maxL := 3) (ret := some .int) (by decide +kernel) rfl ?_
  intro p e s m args below meth c s₁ B hml hv
  obtain ⟨rfl, hR, hE⟩ := hv
  have hx := B.exec
  have hb := B.bytes
  have hr := B.returns
  have hlocks := B.notSynchronized
  have hl := lv_entry ([.int x, .int n, sv]) (n := 3) (by simp only [klg_cons, hsv]; exact Nat.le_of_ble_eq_true rfl)
  rw [lg_entry_eq]
  generalize (lg_sl ([.int x, .int n, sv]) ++ List.replicate (3 - (lg_sl ([.int x, .int n, sv])).length) Slot.unset).toArray = ls at hl ⊢
  have hl : lv_has ls 3 [(0, .int x), (1, .int n), (2, sv)] := hl
  refine lv_iload_n hx hb dk_pre_0 rfl (lv_at hl 0 rfl) ?_
  refine lv_if_lt (tgt := 9) hx hb dk_pre_1 (by decide) (fun q => absurd q hx0) (fun _ => ?_)
  refine lv_iload_n hx hb dk_pre_4 rfl (lv_at hl 0 rfl) ?_
  refine lv_iload_n hx hb dk_pre_5 rfl (lv_at hl 1 rfl) ?_
  refine lv_icmp_lt (tgt := 16) hx hb dk_pre_6 (by decide) (fun _ => ?_) (fun q => absurd hxn q)
  refine lv_iload_n hx hb dk_pre_16 rfl (lv_at hl 0 rfl) ?_
  exact W.iret (v := x) hx hb hr (fun t ht hW => ⟨rfl, by rw [ht]; exact hR.moved hW.alike, va_S.F (A := kA base) va_S.rf ht⟩) (fun q hq => by cases hq) dk_pre_17
set_option maxHeartbeats 4000000 in
theorem kMet_chk (l : Launch) {x n : Int32} (hx0 : ¬ x < 0) (hxn : x < n) (fr lo : Nat) (hfr : 1 ≤ fr) (hlo : 40 ≤ lo) (hkg : ∀ w ∈ kw, goodWord w = true) (hkn : ∀ w ∈ kn, kNest w = true)
    (hw1 : Cond.code yJ3_checkIndex_8e157 cJ3_checkIndex_8e157 3 (some .int) ∈ kw) (hw2 : Cond.initialized yJ3_checkIndex_8e157.cls ∈ kw) (hw3 : Cond.static yJ3_checkIndex_8e157 ∈ kw) (hw4 : Cond.methodLink RJ0 1059 yJ3_checkIndex_8e157 ∈ kw)
    (hw5 : Cond.fieldLink RJ0 1053 "jdk/internal/util/Preconditions" "SIOOBE_FORMATTER" "Ljava/util/function/BiFunction;" ∈ kw) :
    Met l yJ0_checkIndex_df160 (.code yJ0_checkIndex_df160 cJ0_checkIndex_df160 2 none :: kw) { frames := fr, cells := 0, slots := 0, locals := lo } (kPv D Ac base sp kn sidx stx [.int x, .int n] h) (kQc D Ac base sp none h) 0 0 (kA base) := by
  refine Met.ofW (cc := cJ0_checkIndex_df160) (maxL := 2) (ret := none) (by decide +kernel) rfl ?_
  intro p e s m args below meth c s₁ B hml hv
  obtain ⟨rfl, hR, hE⟩ := hv
  have hx := B.exec
  have hb := B.bytes
  have hr := B.returns
  have hts := atoms_spec (ws := .code yJ0_checkIndex_df160 cJ0_checkIndex_df160 2 none :: kw) B.pre
  have hts : ∀ w ∈ kw, w.before _ s = true := fun w hw => hts w (List.mem_cons_of_mem _ hw)
  have hown : s.vm.findClass RJ0 = some m.cls := findClass_of_methodNamed B.named
  have hlocks := B.notSynchronized
  obtain ⟨sv, hsv, hZ⟩ := hE.2.2.2.2.2
  have hl := lv_entry ([.int x, .int n]) (n := 2) (Nat.le_of_ble_eq_true rfl)
  rw [lg_entry_eq]
  generalize (lg_sl ([.int x, .int n]) ++ List.replicate (2 - (lg_sl ([.int x, .int n])).length) Slot.unset).toArray = ls at hl ⊢
  have hl : lv_has ls 2 [(0, .int x), (1, .int n)] := hl
  have hG : GoodIn kw (Cond.code yJ3_checkIndex_8e157 cJ3_checkIndex_8e157 3 (some .int) :: kw) := fun w hw => by
    have hm : w ∈ kw := by
      rcases List.mem_cons.mp hw with rfl | h2
      · exact hw1
      · exact h2
    exact ⟨hm, good_of_word (hkg w hm)⟩
  refine lv_iload_n hx hb dk_chk_0 rfl (lv_at hl 0 rfl) ?_
  refine lv_iload_n hx hb dk_chk_1 rfl (lv_at hl 1 rfl) ?_
  refine va_gets hx hb hZ va_S.rf hown (hts _ hw5) (fun _ h9 => h9) dk_chk_2 ?_
  refine k_call (h1 := h) (v := some (.int x)) (mc := 0) (ms := 0) (rest := []) (D := D) (Ac := Ac) (base := base) (sp := sp) (va_runS (own := RJ0) (nL := ls.size) (n := 3) (As := [.int x, .int n, sv]) (rest := []) ⟨hx, hb, by rw [hml]; exact hl.1.symm, hown, hts⟩ (kMet_pre (kw := kw) (kn := kn) (sidx := sidx) (stx := stx) (h := h) l hsv hx0 hxn 0 0) ⟨⟨rfl, rfl, hfr, by show 8 + (3 + 11) + 0 ≤ lo; omega, pay_in hts hG, List.mem_cons_self, hts _ hw1, hts _ hw2, by decide +kernel, kParams_ok (y := yJ3_checkIndex_8e157) (by decide +kernel), hts _ hw4⟩, hts _ hw3⟩ ⟨kPv_blind hkn, fun U hU hW => ⟨rfl, by rw [hU]; exact hR.moved hW.alike, hE.step (locs := []) hkn hW (by rw [hU]; exact va_S.rf)⟩⟩ rfl rfl rfl rfl (lv_room (Nat.le_of_ble_eq_true rfl)) dk_chk_5 ⟨Nat.zero_le _, Nat.zero_le _⟩) (fun q hq => hq) va_S.rf (fun H1 locs1 hR1 hS1 => ?_)
  refine lv_pop hx hb dk_chk_8 rfl ?_
  exact W.vret hx hb hr (fun t ht hW => ⟨rfl, by rw [ht]; exact hR1.moved hW.alike, hS1.F ht⟩) hS1.2.2 dk_chk_9
end KCK
