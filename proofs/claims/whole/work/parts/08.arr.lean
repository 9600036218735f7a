/-! KM: arrays and makings are the machine's -/
theorem kvpin {i : Int32} {n : Nat} {cell : Cell} (h : kin i n = true) (hs : n ≤ cell.slots.size) : ¬ (i < 0 ∨ cell.slots.size ≤ i.toNatClampNeg) := by
  have h1 := kin_iff.mp h
  intro q
  rcases q with q | q
  · exact h1 (Or.inl q)
  · exact h1 (Or.inr (by omega))
theorem kin_lt {i : Int32} {n : Nat} (h : kin i n = true) : i.toNatClampNeg < n := Nat.not_le.mp fun q => kin_iff.mp h (Or.inr q)
section KAR
variable {p : Program} {l : Launch} {e : Env} {R : Room} {s : State} {m : MethodId} {args : Array Value} {below : List Frame} {meth : Method} {c : Code} {H H0 : Heap} {locs : List Loc} {cells slots : Nat} {Q : State → Prop}
variable {cc : ByteArray} {pc : Nat} {st st1 : List Value} {la : Array Slot} {own : String} {D : va_G} {Ac : Nat → ClassId} {base : Nat} {sp : Nat → Nat} {h h1 : KH}
theorem kW_iald (hx : p.tables.exec = Jvm.exec) (hb : c.code = cc) (hE : kCls D Ac s) (hR : kRel D Ac base sp h s H) (hdg : decode cc pc = .ok (.iaload, 1)) (hh : kald [20, 30] st h = some (st1, h1))
    (kk : h1 = h → W p l e R s m args below meth c H locs cells slots Q (F0 m (pc + 1) la (st1.map (kcv (kro base sp))))) : W p l e R s m args below meth c H locs cells slots Q (F0 m pc la (st.map (kcv (kro base sp)))) := by
  unfold kald at hh
  split at hh
  · rename_i i a r
    cases hc : (([20, 30] : List Nat).contains (h.1 a).1 && kin i (h.1 a).2) with
    | false => rw [hc] at hh; cases hh
    | true =>
      rw [hc] at hh
      cases hh
      simp only [Bool.and_eq_true] at hc
      obtain ⟨hk, hin⟩ := hc
      have hat := hR.2.2.1 a
      have hk2 : (h.1 a).1 = 20 ∨ (h.1 a).1 = 30 := by simpa using hk
      rcases hk2 with e1 | e1
      · have hcell := hat.2.1 (Or.inl e1)
        exact W.iald (v := .int (h.2.2.1 a i.toNatClampNeg)) hx hb hcell (by rw [e1]; exact (hE.2.1 20 _ rfl).1 _ (fun j => .int (h.2.2.1 a j))) (fun z => by cases z) (kvpin hin (by rw [arrV_size]; exact Nat.le_refl _)) (by rw [arrV_read _ _ (kin_lt hin)]) rfl rfl hdg (kk rfl)
      · obtain ⟨cell, g1, g2, g3, g4, g5, g6, g7⟩ := hat.2.2.2.2.1 e1
        exact W.iald (v := .int (h.2.2.1 a i.toNatClampNeg)) hx hb g1 g2 g3 (kvpin hin g4) (g6 _ (kin_lt hin)) rfl rfl hdg (kk rfl)
  · cases hh
theorem kW_bald (hx : p.tables.exec = Jvm.exec) (hb : c.code = cc) (hE : kCls D Ac s) (hR : kRel D Ac base sp h s H) (hdg : decode cc pc = .ok (.baload, 1)) (hh : kald [21, 22, 32] st h = some (st1, h1))
    (kk : h1 = h → W p l e R s m args below meth c H locs cells slots Q (F0 m (pc + 1) la (st1.map (kcv (kro base sp))))) : W p l e R s m args below meth c H locs cells slots Q (F0 m pc la (st.map (kcv (kro base sp)))) := by
  unfold kald at hh
  split at hh
  · rename_i i a r
    cases hc : (([21, 22, 32] : List Nat).contains (h.1 a).1 && kin i (h.1 a).2) with
    | false => rw [hc] at hh; cases hh
    | true =>
      rw [hc] at hh
      cases hh
      simp only [Bool.and_eq_true] at hc
      obtain ⟨hk, hin⟩ := hc
      have hat := hR.2.2.1 a
      have hk2 : (h.1 a).1 = 21 ∨ (h.1 a).1 = 22 ∨ (h.1 a).1 = 32 := by simpa using hk
      rcases hk2 with e1 | e1 | e1
      · have hcell := hat.2.1 (Or.inr (Or.inl e1))
        exact W.bald (v := .int (h.2.2.1 a i.toNatClampNeg)) hx hb hcell (by rw [e1]; exact (hE.2.1 21 _ rfl).1 _ (fun j => .int (h.2.2.1 a j))) (fun z => by cases z) (kvpin hin (by rw [arrV_size]; exact Nat.le_refl _)) (by rw [arrV_read _ _ (kin_lt hin)]) rfl rfl hdg (kk rfl)
      · have hcell := hat.2.1 (Or.inr (Or.inr e1))
        exact W.zald (v := .int (h.2.2.1 a i.toNatClampNeg)) hx hb hcell (by rw [e1]; exact (hE.2.1 22 _ rfl).1 _ (fun j => .int (h.2.2.1 a j))) (fun z => by cases z) (kvpin hin (by rw [arrV_size]; exact Nat.le_refl _)) (by rw [arrV_read _ _ (kin_lt hin)]) rfl rfl hdg (kk rfl)
      · obtain ⟨cell, g1, g2, g3, g4, g5, g6, g7⟩ := hat.2.2.2.2.2.1 e1
        exact W.bald (v := .int (h.2.2.1 a i.toNatClampNeg)) hx hb g1 g2 g3 (kvpin hin g4) (g6 _ (kin_lt hin)) rfl rfl hdg (kk rfl)
  · cases hh
theorem kW_lald (hx : p.tables.exec = Jvm.exec) (hb : c.code = cc) (hE : kCls D Ac s) (hR : kRel D Ac base sp h s H) (hdg : decode cc pc = .ok (.laload, 1)) (hh : kaldl st h = some (st1, h1))
    (kk : h1 = h → W p l e R s m args below meth c H locs cells slots Q (F0 m (pc + 1) la (st1.map (kcv (kro base sp))))) : W p l e R s m args below meth c H locs cells slots Q (F0 m pc la (st.map (kcv (kro base sp)))) := by
  unfold kaldl at hh
  split at hh
  · rename_i i a r
    cases hc : (Nat.beq (h.1 a).1 23 && kin i (h.1 a).2) with
    | false => rw [hc] at hh; cases hh
    | true =>
      rw [hc] at hh
      cases hh
      simp only [Bool.and_eq_true] at hc
      obtain ⟨hk, hin⟩ := hc
      have e1 := Nat.eq_of_beq_eq_true hk
      have hcell := (hR.2.2.1 a).2.2.1 e1
      exact W.lald (v := .long (h.2.2.2.1 a i.toNatClampNeg)) hx hb hcell (by rw [e1]; exact (hE.2.1 23 _ rfl).1 _ (fun j => .long (h.2.2.2.1 a j))) (fun z => by cases z) (kvpin hin (by rw [arrV_size]; exact Nat.le_refl _)) (by rw [arrV_read _ _ (kin_lt hin)]) rfl rfl hdg (kk rfl)
  · cases hh
theorem kW_aald (hx : p.tables.exec = Jvm.exec) (hb : c.code = cc) (hE : kCls D Ac s) (hR : kRel D Ac base sp h s H) (hdg : decode cc pc = .ok (.aaload, 1)) (hh : kaldr st h = some (st1, h1))
    (kk : h1 = h → W p l e R s m args below meth c H locs cells slots Q (F0 m (pc + 1) la (st1.map (kcv (kro base sp))))) : W p l e R s m args below meth c H locs cells slots Q (F0 m pc la (st.map (kcv (kro base sp)))) := by
  unfold kaldr at hh
  split at hh
  · rename_i i a r
    cases hc : (([24, 25, 26] : List Nat).contains (h.1 a).1 && kin i (h.1 a).2) with
    | false => rw [hc] at hh; cases hh
    | true =>
      rw [hc] at hh
      cases hh
      simp only [Bool.and_eq_true] at hc
      obtain ⟨hk, hin⟩ := hc
      have hk2 : (h.1 a).1 = 24 ∨ (h.1 a).1 = 25 ∨ (h.1 a).1 = 26 := by simpa using hk
      have hcell := (hR.2.2.1 a).2.2.2.1 hk2
      have hv : (arrV (Ac (h.1 a).1) (h.1 a).2 (fun j => kcv (kro base sp) (krv (h.2.1 a j)))).slots[i.toNatClampNeg]? = some (kcv (kro base sp) (krv (h.2.1 a i.toNatClampNeg))) := by rw [arrV_read _ _ (kin_lt hin)]
      rcases hk2 with e1 | e1 | e1
      · exact W.aald (ty := .object "ChalkWars$City") hx hb hcell (by rw [e1]; exact (hE.2.1 24 _ rfl).1 _ (fun j => kcv (kro base sp) (krv (h.2.1 a j)))) rfl (fun z => by cases z) (kvpin hin (by rw [arrV_size]; exact Nat.le_refl _)) hv rfl rfl hdg (kk rfl)
      · exact W.aald (ty := .object "ChalkWars$Thing") hx hb hcell (by rw [e1]; exact (hE.2.1 25 _ rfl).1 _ (fun j => kcv (kro base sp) (krv (h.2.1 a j)))) rfl (fun z => by cases z) (kvpin hin (by rw [arrV_size]; exact Nat.le_refl _)) hv rfl rfl hdg (kk rfl)
      · exact W.aald (ty := .array .int) hx hb hcell (by rw [e1]; exact (hE.2.1 26 _ rfl).1 _ (fun j => kcv (kro base sp) (krv (h.2.1 a j)))) rfl (fun z => by cases z) (kvpin hin (by rw [arrV_size]; exact Nat.le_refl _)) hv rfl rfl hdg (kk rfl)
  · cases hh
theorem kW_alen (hx : p.tables.exec = Jvm.exec) (hb : c.code = cc) (hE : kCls D Ac s) (hR : kRel D Ac base sp h s H) (hdg : decode cc pc = .ok (.arraylength, 1)) (hh : kalen st h = some (st1, h1))
    (kk : h1 = h → W p l e R s m args below meth c H locs cells slots Q (F0 m (pc + 1) la (st1.map (kcv (kro base sp))))) : W p l e R s m args below meth c H locs cells slots Q (F0 m pc la (st.map (kcv (kro base sp)))) := by
  unfold kalen at hh
  split at hh
  · rename_i a r
    cases hk : (([20, 21, 22, 23, 24, 25, 26, 30, 32] : List Nat).contains (h.1 a).1) with
    | false => rw [hk] at hh; cases hh
    | true =>
      rw [hk] at hh
      cases hh
      have hat := hR.2.2.1 a
      have hk2 : (h.1 a).1 = 20 ∨ (h.1 a).1 = 21 ∨ (h.1 a).1 = 22 ∨ (h.1 a).1 = 23 ∨ (h.1 a).1 = 24 ∨ (h.1 a).1 = 25 ∨ (h.1 a).1 = 26 ∨ (h.1 a).1 = 30 ∨ (h.1 a).1 = 32 := by simpa using hk
      rcases hk2 with e1 | e1 | e1 | e1 | e1 | e1 | e1 | e1 | e1
      · exact W.alen (n := Int32.ofNat (h.1 a).2) hx hb (hat.2.1 (Or.inl e1)) (by rw [e1]; exact (hE.2.1 20 _ rfl).1 _ _) (by rw [arrV_size] <;> rfl) rfl rfl hdg (kk rfl)
      · exact W.alen (n := Int32.ofNat (h.1 a).2) hx hb (hat.2.1 (Or.inr (Or.inl e1))) (by rw [e1]; exact (hE.2.1 21 _ rfl).1 _ _) (by rw [arrV_size] <;> rfl) rfl rfl hdg (kk rfl)
      · exact W.alen (n := Int32.ofNat (h.1 a).2) hx hb (hat.2.1 (Or.inr (Or.inr e1))) (by rw [e1]; exact (hE.2.1 22 _ rfl).1 _ _) (by rw [arrV_size] <;> rfl) rfl rfl hdg (kk rfl)
      · exact W.alen (n := Int32.ofNat (h.1 a).2) hx hb (hat.2.2.1 e1) (by rw [e1]; exact (hE.2.1 23 _ rfl).1 _ _) (by rw [arrV_size] <;> rfl) rfl rfl hdg (kk rfl)
      · exact W.alen (n := Int32.ofNat (h.1 a).2) hx hb (hat.2.2.2.1 (Or.inl e1)) (by rw [e1]; exact (hE.2.1 24 _ rfl).1 _ _) (by rw [arrV_size] <;> rfl) rfl rfl hdg (kk rfl)
      · exact W.alen (n := Int32.ofNat (h.1 a).2) hx hb (hat.2.2.2.1 (Or.inr (Or.inl e1))) (by rw [e1]; exact (hE.2.1 25 _ rfl).1 _ _) (by rw [arrV_size] <;> rfl) rfl rfl hdg (kk rfl)
      · exact W.alen (n := Int32.ofNat (h.1 a).2) hx hb (hat.2.2.2.1 (Or.inr (Or.inr e1))) (by rw [e1]; exact (hE.2.1 26 _ rfl).1 _ _) (by rw [arrV_size] <;> rfl) rfl rfl hdg (kk rfl)
      · obtain ⟨cell, g1, g2, g3, g4, g5, g6, g7⟩ := hat.2.2.2.2.1 e1
        exact W.alen (n := Int32.ofNat (h.1 a).2) hx hb g1 g2 g5 rfl rfl hdg (kk rfl)
      · obtain ⟨cell, g1, g2, g3, g4, g5, g6, g7⟩ := hat.2.2.2.2.2.1 e1
        exact W.alen (n := Int32.ofNat (h.1 a).2) hx hb g1 g2 g5 rfl rfl hdg (kk rfl)
  · cases hh
/-- an array's cell is written -/
theorem kput_arr (hR : kRel D Ac base sp h s H) (hS : va_S (kA base) H0 H locs) {a k : Nat} (ha : (h.1 a).1 < 30) (hno : vwCl[(h.1 a).1]? = none) {H1 : Heap} {h1 : KH}
    (e1 : h1.1 = h.1) (e2 : ∀ b, b ≠ a → h1.2.1 b = h.2.1 b) (e3 : ∀ b, b ≠ a → h1.2.2.1 b = h.2.2.1 b) (e4 : ∀ b, b ≠ a → h1.2.2.2.1 b = h.2.2.2.1 b) (e5 : h1.2.2.2.2 = h.2.2.2.2)
    (z : H1.size = H.size) (oq : ∀ q, q ≠ kro base sp a → H1[q]? = H[q]?)
    (g1 : (h.1 a).1 = 20 ∨ (h.1 a).1 = 21 ∨ (h.1 a).1 = 22 → H1[kro base sp a]? = some (arrV (Ac (h.1 a).1) (h.1 a).2 (fun j => .int (h1.2.2.1 a j))))
    (g2 : (h.1 a).1 = 23 → H1[kro base sp a]? = some (arrV (Ac (h.1 a).1) (h.1 a).2 (fun j => .long (h1.2.2.2.1 a j))))
    (g3 : (h.1 a).1 = 24 ∨ (h.1 a).1 = 25 ∨ (h.1 a).1 = 26 → H1[kro base sp a]? = some (arrV (Ac (h.1 a).1) (h.1 a).2 (fun j => kcv (kro base sp) (krv (h1.2.1 a j))))) :
    kRel D Ac base sp h1 s H1 ∧ va_S (kA base) H0 H1 (locs ++ [⟨kro base sp a, k⟩]) := by
  refine ⟨hR.put ha e1 e2 e3 e4 e5 z oq ⟨fun c hc => ?_, g1, g2, g3, fun q => ?_, fun q => ?_, fun q => ?_⟩, hS.put z oq (by rw [(hR.ro ha).1]; exact Nat.le_add_right _ _)⟩
  · rw [hno] at hc
    cases hc
  · omega
  · omega
  · omega
theorem karr_upd {cA : ClassId} {N k : Nat} {f g : Nat → Value} {x : Value} (h : ∀ j, g j = updV f k x j) : (arrV cA N f).setSlot k x = arrV cA N g := by
  rw [arrV_store]
  exact congrArg (arrV cA N) (funext fun j => (h j).symm)
theorem kW_iast (hx : p.tables.exec = Jvm.exec) (hb : c.code = cc) (hE : kCls D Ac s) (hR : kRel D Ac base sp h s H) (hS : va_S (kA base) H0 H locs) (hdg : decode cc pc = .ok (.iastore, 1)) (hh : kasti st h = some (st1, h1))
    (kk : ∀ (H1 : Heap) (locs1 : List Loc), kRel D Ac base sp h1 s H1 → va_S (kA base) H0 H1 locs1 → W p l e R s m args below meth c H1 locs1 cells slots Q (F0 m (pc + 1) la (st1.map (kcv (kro base sp))))) : W p l e R s m args below meth c H locs cells slots Q (F0 m pc la (st.map (kcv (kro base sp)))) := by
  unfold kasti at hh
  split at hh
  · rename_i x i a r
    cases hc : (Nat.beq (h.1 a).1 20 && kin i (h.1 a).2) with
    | false => rw [hc] at hh; cases hh
    | true =>
      rw [hc] at hh
      cases hh
      simp only [Bool.and_eq_true] at hc
      obtain ⟨hk, hin⟩ := hc
      have e1 := Nat.eq_of_beq_eq_true hk
      have hcell := (hR.2.2.1 a).2.1 (Or.inl e1)
      refine W.iast hx hb hcell (by rw [e1]; exact (hE.2.1 20 _ rfl).1 _ _) (fun z => by cases z) (kvpin hin (by rw [arrV_size]; exact Nat.le_refl _)) rfl rfl hdg fun H1 g z oq => ?_
      obtain ⟨r1, r2⟩ := kput_arr (k := i.toNatClampNeg) (h1 := kwi h a i.toNatClampNeg x) hR hS (by omega) (by rw [e1]; rfl) rfl (fun _ _ => rfl) (fun b hb2 => ku_n _ _ hb2) (fun _ _ => rfl) rfl z oq (fun _ => by
        rw [g]
        refine congrArg some (karr_upd fun j => ?_)
        have ei : (kwi h a i.toNatClampNeg x).2.2.1 a = ku (h.2.2.1 a) i.toNatClampNeg x := ku_s _ _ _
        rw [ei]
        by_cases hj : j = i.toNatClampNeg
        · simp [updV, ku, hj]
        · simp [updV, ku, hj]) (fun q => by omega) (fun q => by omega)
      exact kk H1 _ r1 r2
  · cases hh
theorem kW_bast (hx : p.tables.exec = Jvm.exec) (hb : c.code = cc) (hE : kCls D Ac s) (hR : kRel D Ac base sp h s H) (hS : va_S (kA base) H0 H locs) (hdg : decode cc pc = .ok (.bastore, 1)) (hh : kastb st h = some (st1, h1))
    (kk : ∀ (H1 : Heap) (locs1 : List Loc), kRel D Ac base sp h1 s H1 → va_S (kA base) H0 H1 locs1 → W p l e R s m args below meth c H1 locs1 cells slots Q (F0 m (pc + 1) la (st1.map (kcv (kro base sp))))) : W p l e R s m args below meth c H locs cells slots Q (F0 m pc la (st.map (kcv (kro base sp)))) := by
  unfold kastb at hh
  split at hh
  · rename_i x i a r
    cases hin : kin i (h.1 a).2 with
    | false => rw [hin] at hh; cases hh
    | true =>
      rw [hin] at hh
      cases hk : Nat.beq (h.1 a).1 21 with
      | true =>
        rw [hk] at hh
        cases hh
        have e1 := Nat.eq_of_beq_eq_true hk
        have hcell := (hR.2.2.1 a).2.1 (Or.inr (Or.inl e1))
        refine W.bast hx hb hcell (by rw [e1]; exact (hE.2.1 21 _ rfl).1 _ _) (fun z => by cases z) (kvpin hin (by rw [arrV_size]; exact Nat.le_refl _)) rfl rfl hdg fun H1 g z oq => ?_
        obtain ⟨r1, r2⟩ := kput_arr (k := i.toNatClampNeg) (h1 := kwi h a i.toNatClampNeg x.toInt8.toInt32) hR hS (by omega) (by rw [e1]; rfl) rfl (fun _ _ => rfl) (fun b hb2 => ku_n _ _ hb2) (fun _ _ => rfl) rfl z oq (fun _ => by
          rw [g]
          refine congrArg some (karr_upd fun j => ?_)
          have ei : (kwi h a i.toNatClampNeg x.toInt8.toInt32).2.2.1 a = ku (h.2.2.1 a) i.toNatClampNeg x.toInt8.toInt32 := ku_s _ _ _
          rw [ei]
          by_cases hj : j = i.toNatClampNeg
          · simp [updV, ku, hj, narrow_byte]
          · simp [updV, ku, hj]) (fun q => by omega) (fun q => by omega)
        exact kk H1 _ r1 r2
      | false =>
        rw [hk] at hh
        cases hc : (Nat.beq (h.1 a).1 22 && (decide (x = 0) || decide (x = 1))) with
        | false => rw [hc] at hh; cases hh
        | true =>
          rw [hc] at hh
          cases hh
          simp only [Bool.and_eq_true, Bool.or_eq_true, decide_eq_true_eq] at hc
          obtain ⟨hk2, hx01⟩ := hc
          have e1 := Nat.eq_of_beq_eq_true hk2
          have hcell := (hR.2.2.1 a).2.1 (Or.inr (Or.inr e1))
          have hnar : narrow .boolean (.int x) = .int x := by rcases hx01 with rfl | rfl <;> rfl
          refine W.zast hx hb hcell (by rw [e1]; exact (hE.2.1 22 _ rfl).1 _ _) (fun z => by cases z) (kvpin hin (by rw [arrV_size]; exact Nat.le_refl _)) rfl rfl hdg fun H1 g z oq => ?_
          obtain ⟨r1, r2⟩ := kput_arr (k := i.toNatClampNeg) (h1 := kwi h a i.toNatClampNeg x) hR hS (by omega) (by rw [e1]; rfl) rfl (fun _ _ => rfl) (fun b hb2 => ku_n _ _ hb2) (fun _ _ => rfl) rfl z oq (fun _ => by
            rw [g, hnar]
            refine congrArg some (karr_upd fun j => ?_)
            have ei : (kwi h a i.toNatClampNeg x).2.2.1 a = ku (h.2.2.1 a) i.toNatClampNeg x := ku_s _ _ _
            rw [ei]
            by_cases hj : j = i.toNatClampNeg
            · simp [updV, ku, hj]
            · simp [updV, ku, hj]) (fun q => by omega) (fun q => by omega)
          exact kk H1 _ r1 r2
  · cases hh
theorem kW_last (hx : p.tables.exec = Jvm.exec) (hb : c.code = cc) (hE : kCls D Ac s) (hR : kRel D Ac base sp h s H) (hS : va_S (kA base) H0 H locs) (hdg : decode cc pc = .ok (.lastore, 1)) (hh : kastl st h = some (st1, h1))
    (kk : ∀ (H1 : Heap) (locs1 : List Loc), kRel D Ac base sp h1 s H1 → va_S (kA base) H0 H1 locs1 → W p l e R s m args below meth c H1 locs1 cells slots Q (F0 m (pc + 1) la (st1.map (kcv (kro base sp))))) : W p l e R s m args below meth c H locs cells slots Q (F0 m pc la (st.map (kcv (kro base sp)))) := by
  unfold kastl at hh
  split at hh
  · rename_i x i a r
    cases hc : (Nat.beq (h.1 a).1 23 && kin i (h.1 a).2) with
    | false => rw [hc] at hh; cases hh
    | true =>
      rw [hc] at hh
      cases hh
      simp only [Bool.and_eq_true] at hc
      obtain ⟨hk, hin⟩ := hc
      have e1 := Nat.eq_of_beq_eq_true hk
      have hcell := (hR.2.2.1 a).2.2.1 e1
      refine W.last hx hb hcell (by rw [e1]; exact (hE.2.1 23 _ rfl).1 _ _) (fun z => by cases z) (kvpin hin (by rw [arrV_size]; exact Nat.le_refl _)) rfl rfl hdg fun H1 g z oq => ?_
      obtain ⟨r1, r2⟩ := kput_arr (k := i.toNatClampNeg) (h1 := kwl h a i.toNatClampNeg x) hR hS (by omega) (by rw [e1]; rfl) rfl (fun _ _ => rfl) (fun _ _ => rfl) (fun b hb2 => ku_n _ _ hb2) rfl z oq (fun q => by omega) (fun _ => by
        rw [g]
        refine congrArg some (karr_upd fun j => ?_)
        have ei : (kwl h a i.toNatClampNeg x).2.2.2.1 a = ku (h.2.2.2.1 a) i.toNatClampNeg x := ku_s _ _ _
        rw [ei]
        by_cases hj : j = i.toNatClampNeg
        · simp [updV, ku, hj]
        · simp [updV, ku, hj]) (fun q => by omega)
      exact kk H1 _ r1 r2
  · cases hh
theorem kW_aast (hx : p.tables.exec = Jvm.exec) (hb : c.code = cc) (hE : kCls D Ac s) (hR : kRel D Ac base sp h s H) (hS : va_S (kA base) H0 H locs) (hdg : decode cc pc = .ok (.aastore, 1)) (hh : kastr st h = some (st1, h1))
    (kk : ∀ (H1 : Heap) (locs1 : List Loc), kRel D Ac base sp h1 s H1 → va_S (kA base) H0 H1 locs1 → W p l e R s m args below meth c H1 locs1 cells slots Q (F0 m (pc + 1) la (st1.map (kcv (kro base sp))))) : W p l e R s m args below meth c H locs cells slots Q (F0 m pc la (st.map (kcv (kro base sp)))) := by
  unfold kastr at hh
  split at hh
  · rename_i b i a r
    cases hc : ((kholds (h.1 a).1).contains (h.1 b).1 && kin i (h.1 a).2) with
    | false => rw [hc] at hh; cases hh
    | true =>
      rw [hc] at hh
      cases hh
      simp only [Bool.and_eq_true] at hc
      obtain ⟨hk, hin⟩ := hc
      have h0 : ¬ i < 0 := fun q => kin_iff.mp hin (Or.inl q)
      have fin : ∀ H1 : Heap, ((h.1 a).1 = 24 ∨ (h.1 a).1 = 25) → H1[kro base sp a]? = some ((arrV (Ac (h.1 a).1) (h.1 a).2 (fun j => kcv (kro base sp) (krv (h.2.1 a j)))).setSlot i.toNatClampNeg (.ref (kro base sp b))) → H1.size = H.size → (∀ q, q ≠ kro base sp a → H1[q]? = H[q]?) →
          W p l e R s m args below meth c H1 (locs ++ [⟨kro base sp a, i.toNatClampNeg⟩]) cells slots Q (F0 m (pc + 1) la (st1.map (kcv (kro base sp)))) := by
        intro H1 e1 g z oq
        obtain ⟨r1, r2⟩ := kput_arr (k := i.toNatClampNeg) (h1 := kwr h a i.toNatClampNeg (some b)) hR hS (by omega) (by rcases e1 with e1 | e1 <;> rw [e1] <;> rfl) rfl (fun b2 hb2 => ku_n _ _ hb2) (fun _ _ => rfl) (fun _ _ => rfl) rfl z oq (fun q => by omega) (fun q => by omega) (fun _ => by
          rw [g]
          refine congrArg some (karr_upd fun j => ?_)
          have ei : (kwr h a i.toNatClampNeg (some b)).2.1 a = ku (h.2.1 a) i.toNatClampNeg (some b) := ku_s _ _ _
          rw [ei]
          by_cases hj : j = i.toNatClampNeg
          · simp [updV, ku, hj, krv, kcv]
          · simp [updV, ku, hj])
        exact kk H1 _ r1 r2
      unfold kholds at hk
      cases hk24 : Nat.beq (h.1 a).1 24 with
      | true =>
        rw [hk24] at hk
        have e1 := Nat.eq_of_beq_eq_true hk24
        have eb : (h.1 b).1 = 1 := by simpa using hk
        have hcell := (hR.2.2.1 a).2.2.2.1 (Or.inl e1)
        have hcb : vwCl[(h.1 b).1]? = some (RX1, TX1, 13) := by rw [eb]; rfl
        obtain ⟨cellV, g1, g2, g3, -⟩ := (hR.2.2.1 b).1 _ hcb
        have hcls := (hE.1 _ _ hcb).2
        obtain ⟨kA1, comp, k1, k2, k3, -⟩ := (hE.2.1 24 _ rfl).2.1
        have hcomp : comp = D.1 (h.1 b).1 := Option.some.inj (k3.symm.trans hcls.1)
        subst hcomp
        obtain ⟨kC, hkC, -⟩ := hcls.2
        exact W.aast hx hb hcell (fun q z => by cases z) (fun z => by cases z) (by rw [e1]; exact k1) k2 rfl hkC ⟨h0, by rw [arrV_size]; exact kin_lt hin⟩ g1 (fun q z => by rw [g3] at z; cases z) (by rw [g2]; exact hkC) (by rw [g2]; exact va_assign hcls) rfl rfl hdg (fun H1 g z oq => fin H1 (Or.inl e1) g z oq)
      | false =>
        rw [hk24] at hk
        cases hk25 : Nat.beq (h.1 a).1 25 with
        | false => rw [hk25] at hk; exact absurd hk (by simp)
        | true =>
          rw [hk25] at hk
          have e1 := Nat.eq_of_beq_eq_true hk25
          have eb : (h.1 b).1 ∈ ([0, 2, 3, 4, 8] : List Nat) := by simpa using hk
          have hcell := (hR.2.2.1 a).2.2.2.1 (Or.inr (Or.inl e1))
          obtain ⟨cb, hcb⟩ : ∃ cb, vwCl[(h.1 b).1]? = some cb := by
            have e2 : (h.1 b).1 = 0 ∨ (h.1 b).1 = 2 ∨ (h.1 b).1 = 3 ∨ (h.1 b).1 = 4 ∨ (h.1 b).1 = 8 := by simpa using eb
            rcases e2 with e2 | e2 | e2 | e2 | e2 <;> rw [e2] <;> exact ⟨_, rfl⟩
          obtain ⟨cellV, g1, g2, g3, -⟩ := (hR.2.2.1 b).1 _ hcb
          have hcls := (hE.1 _ _ hcb).2
          obtain ⟨kA1, comp, k1, k2, k3, -⟩ := (hE.2.1 25 _ rfl).2.1
          obtain ⟨kE, hkE, -⟩ := Vm.findClass_spec k3
          obtain ⟨c0, t1, f1, f2, f3⟩ := Cond.castable_spec (va_Nw.use (A := args) rfl (hE.2.2.2.2.2 _ eb _ hcb))
          cases hcls.1.symm.trans f1
          cases k3.symm.trans f2
          obtain ⟨kC, hkC, -⟩ := hcls.2
          exact W.aast hx hb hcell (fun q z => by cases z) (fun z => by cases z) (by rw [e1]; exact k1) k2 rfl hkE ⟨h0, by rw [arrV_size]; exact kin_lt hin⟩ g1 (fun q z => by rw [g3] at z; cases z) (by rw [g2]; exact hkC) (by rw [g2]; exact f3) rfl rfl hdg (fun H1 g z oq => fin H1 (Or.inr e1) g z oq)
  · cases hh
end KAR
