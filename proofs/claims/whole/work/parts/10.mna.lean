/-! KM: new int[n][k], arraycopy -/
section KMN
variable {p : Program} {l : Launch} {e : Env} {R : Room} {s : State} {m : MethodId} {args : Array Value} {below : List Frame} {meth : Method} {c : Code} {H H0 : Heap} {locs : List Loc} {cells slots : Nat} {Q : State → Prop}
variable {cc : ByteArray} {pc : Nat} {st st1 : List Value} {la : Array Slot} {own : String} {D : va_G} {Ac : Nat → ClassId} {base : Nat} {sp : Nat → Nat} {h h1 : KH}
theorem kW_mna (hx : p.tables.exec = Jvm.exec) (hb : c.code = cc) (hown : s.vm.findClass own = some m.cls) (hE : kCls D Ac s) (hR : kRel D Ac base sp h s H) (hS : va_S (kA base) H0 H locs) {idx : Nat}
    (hlink : (Cond.classLink own idx "[[I").before args s = true) (harr : (Cond.arrayClass .int).before args s = true) (hcells : ∀ (n k : Int32) (r : List Value), st = .int k :: .int n :: r → cells + (1 + n.toNatClampNeg) ≤ R.cells ∧ slots + (n.toNatClampNeg + n.toNatClampNeg * k.toNatClampNeg) ≤ R.slots)
    (hdg : decode cc pc = .ok (.multianewarray idx 2, 4)) (hh : kmna st h = some (st1, h1))
    (kk : ∀ (H1 : Heap) (cn sn : Nat), h1.2.2.2.2.1 = h.2.2.2.2.1 + cn → h1.2.2.2.2.2 = h.2.2.2.2.2 + sn → kRel D Ac base sp h1 s H1 → va_S (kA base) H0 H1 locs → W p l e R s m args below meth c H1 locs (cells + cn) (slots + sn) Q (F0 m (pc + 4) la (st1.map (kcv (kro base sp))))) : W p l e R s m args below meth c H locs cells slots Q (F0 m pc la (st.map (kcv (kro base sp)))) := by
  unfold kmna at hh
  split at hh
  · rename_i k n r
    cases hb2 : (Nat.blt h.2.2.2.2.1 900000000 && kin n 10000 && kin k 10000) with
    | false => rw [hb2] at hh; cases hh
    | true =>
      rw [hb2] at hh
      cases hh
      simp only [Bool.and_eq_true] at hb2
      obtain ⟨⟨hz, hin⟩, hik⟩ := hb2
      rw [Nat.blt_eq] at hz
      have hn0 : ¬ n < 0 := fun q => kin_iff.mp hin (Or.inl q)
      have hk0 : ¬ k < 0 := fun q => kin_iff.mp hik (Or.inl q)
      have hnl := kin_lt hin
      have hkl := kin_lt hik
      obtain ⟨c1, c2⟩ := hcells n k r rfl
      have e0 : kro base sp h.2.2.2.2.1 = H.size := by rw [hR.1]; exact if_pos (by omega)
      intro T hT Xs
      obtain ⟨vm₁, cA, comp, fA, fC, X', step⟩ := kmm_stand Xs hx hown hlink hE.2.2.2.2.1 harr (g := F0 m pc la ((Value.int k :: .int n :: r).map (kcv (kro base sp)))) rfl (by rw [hb]; exact hdg) rfl hn0 hk0 (by omega) (by omega) c1 c2
      obtain ⟨-, -, f1, hold, f2, hrow⟩ := kmm_facts cA comp n.toNatClampNeg k.toNatClampNeg (T.setVm vm₁) n.toNatClampNeg
      generalize hF : kmmV cA comp n.toNatClampNeg k.toNatClampNeg (T.setVm vm₁) n.toNatClampNeg = F at X' step f1 hold f2 hrow
      have hTh : (T.setVm vm₁).heap = H := hT
      rw [hTh] at f1 hold f2 hrow
      have hcA : cA = Ac 26 := Option.some.inj (fA.symm.trans (hE.2.1 26 _ rfl).2.2)
      have hcI : comp = Ac 20 := Option.some.inj (fC.symm.trans (hE.2.1 20 _ rfl).2.2)
      subst hcA
      subst hcI
      have z1 : F.heap.size = H.size + (1 + n.toNatClampNeg) := f1
      have hrel : kRel D Ac base sp (kmakem h n.toNatClampNeg k.toNatClampNeg) s F.heap := by
        refine hR.grow (n := 1 + n.toNatClampNeg) (by show _ = _; simp only [kmakem]; omega) (by simp only [kmakem]; omega) z1 hold (fun b hb3 => ?_) (fun b g1 g2 => ?_)
        · have n1 : ¬ b = h.2.2.2.2.1 := by omega
          have n2 : ¬ (h.2.2.2.2.1 < b ∧ b ≤ h.2.2.2.2.1 + n.toNatClampNeg) := by omega
          exact ⟨by simp [kmakem, n1, n2], ku_n _ _ n1, by simp [kmakem, n2], rfl⟩
        · by_cases hbe : b = h.2.2.2.2.1
          · subst hbe
            have n2 : ¬ (h.2.2.2.2.1 < h.2.2.2.2.1 ∧ h.2.2.2.2.1 ≤ h.2.2.2.2.1 + n.toNatClampNeg) := by omega
            have t1 : (kmakem h n.toNatClampNeg k.toNatClampNeg).1 h.2.2.2.2.1 = (26, n.toNatClampNeg) := by simp [kmakem]
            have t2 : (kmakem h n.toNatClampNeg k.toNatClampNeg).2.1 h.2.2.2.2.1 = (fun j => if j < n.toNatClampNeg then some (h.2.2.2.2.1 + 1 + j) else none) := ku_s _ _ _
            rw [t1, t2]
            refine ⟨fun c2 hc2 => ?_, fun q => ?_, fun q => ?_, fun q => ?_, fun q => ?_, fun q => ?_, fun q => ?_⟩
            · have := kCl_lt hc2
              simp only at this
              omega
            · simp only at q; omega
            · simp only at q; omega
            · rw [← hR.1, f2]
              refine congrArg some (congrArg (arrV (Ac 26) n.toNatClampNeg) (funext fun j => ?_))
              unfold kmmF
              by_cases hj : j < n.toNatClampNeg
              · rw [if_pos hj]
                show _ = kcv (kro base sp) (krv (if j < n.toNatClampNeg then some (h.2.2.2.2.1 + 1 + j) else none))
                rw [if_pos hj]
                show Value.ref (H.size + 1 + j) = Value.ref (kro base sp (h.2.2.2.2.1 + 1 + j))
                rw [show kro base sp (h.2.2.2.2.1 + 1 + j) = base + (h.2.2.2.2.1 + 1 + j) from if_pos (by omega)]
                have e9 : (H.size + 1 + j : Nat) = base + (h.2.2.2.2.1 + 1 + j) := by
                  have e8 : (H.size : Nat) = base + h.2.2.2.2.1 := hR.1
                  omega
                exact congrArg Value.ref e9
              · simp [hj, krv, kcv]
            · simp only at q; omega
            · simp only at q; omega
            · simp only at q; omega
          · have n2 : h.2.2.2.2.1 < b ∧ b ≤ h.2.2.2.2.1 + n.toNatClampNeg := by omega
            have t1 : (kmakem h n.toNatClampNeg k.toNatClampNeg).1 b = (20, k.toNatClampNeg) := by simp [kmakem, hbe, n2]
            have t3 : (kmakem h n.toNatClampNeg k.toNatClampNeg).2.2.1 b = (fun _ => 0) := by simp [kmakem, n2]
            rw [t1, t3]
            have hr := hrow (b - h.2.2.2.2.1 - 1) (by omega)
            rw [show H.size + 1 + (b - h.2.2.2.2.1 - 1) = base + b by rw [hR.1]; omega] at hr
            refine ⟨fun c2 hc2 => ?_, fun q => hr, fun q => ?_, fun q => ?_, fun q => ?_, fun q => ?_, fun q => ?_⟩
            · have := kCl_lt hc2
              simp only at this
              omega
            all_goals (simp only at q; omega)
      have k2 := kk F.heap (1 + n.toNatClampNeg) (n.toNatClampNeg + n.toNatClampNeg * k.toNatClampNeg) (by simp only [kmakem]; omega) (by simp only [kmakem]; omega) hrel (kS_grow hS z1 hold)
      simp only [List.map_cons, kcv, e0] at k2
      obtain ⟨t, a1, b1⟩ := k2 F rfl X'
      refine ⟨t, step t ?_, b1⟩
      rw [hT]
      exact a1
  · cases hh
theorem kW_copy (hx : p.tables.exec = Jvm.exec) (hb : c.code = cc) (hml : c.maxLocals = la.size) (hown : s.vm.findClass own = some m.cls) (hE : kCls D Ac s) (hR : kRel D Ac base sp h s H) (hS : va_S (kA base) H0 H locs) {index : Nat} {r : List Value}
    (hlink : (Cond.methodLink own index arraycopyName).before args s = true) (hnat : (Cond.native arraycopyName).before args s = true) (hstat : (Cond.static arraycopyName).before args s = true) (hini : (Cond.initialized "java/lang/System").before args s = true)
    (hframes : 1 ≤ R.frames) (hlocals : ((r.map (kcv (kro base sp))).map fun v => v.category).sum + (nativeFrameWords "java/lang/System" "arraycopy" 5 + 11) ≤ R.locals) (hdg : decode cc pc = .ok (.invokestatic index, 3)) (hh : kcopy st h = some (r, h1))
    (kk : ∀ (H1 : Heap) (locs1 : List Loc), h1.2.2.2.2 = h.2.2.2.2 → kRel D Ac base sp h1 s H1 → va_S (kA base) H0 H1 locs1 → W p l e R s m args below meth c H1 locs1 cells slots Q (F0 m (pc + 3) la (r.map (kcv (kro base sp))))) : W p l e R s m args below meth c H locs cells slots Q (F0 m pc la (st.map (kcv (kro base sp)))) := by
  have nn : ∀ z : Int32, ¬ z < 0 → z.toInt = (z.toNatClampNeg : Int) := by
    intro z hz
    have hz0 : (0 : Int) ≤ z.toInt := by
      have := Int32.not_lt.mp hz
      simpa using Int32.le_iff_toInt_le.mp this
    show z.toInt = ((z.toInt.toNat : Nat) : Int)
    omega
  unfold kcopy at hh
  split at hh
  · rename_i n dp d spos so r2
    cases hc : (Nat.beq (h.1 so).1 20 && Nat.beq (h.1 d).1 20 && decide (¬ spos < 0) && decide (¬ dp < 0) && decide (¬ n < 0) && Nat.ble (spos.toNatClampNeg + n.toNatClampNeg) (h.1 so).2 && Nat.ble (dp.toNatClampNeg + n.toNatClampNeg) (h.1 d).2) with
    | false => rw [hc] at hh; cases hh
    | true =>
      rw [hc] at hh
      cases hh
      simp only [Bool.and_eq_true, decide_eq_true_eq] at hc
      obtain ⟨⟨⟨⟨⟨⟨ks, kd⟩, h1⟩, h2⟩, h3⟩, h4⟩, h5⟩ := hc
      have ks := Nat.eq_of_beq_eq_true ks
      have kd := Nat.eq_of_beq_eq_true kd
      have h4 := Nat.le_of_ble_eq_true h4
      have h5 := Nat.le_of_ble_eq_true h5
      have hc0 := (hR.2.2.1 so).2.1 (Or.inl ks)
      have hc1 := (hR.2.2.1 d).2.1 (Or.inl kd)
      intro T hT X
      obtain ⟨-, k0, hk0, cm0, hkk0⟩ := (hE.2.1 20 _ rfl).1 (h.1 so).2 (fun j => .int (h.2.2.1 so j))
      obtain ⟨-, k1, hk1, cm1, hkk1⟩ := (hE.2.1 20 _ rfl).1 (h.1 d).2 (fun j => .int (h.2.2.1 d j))
      rw [ks] at hc0
      rw [kd] at hc1
      obtain ⟨vm', X', step⟩ := X.arraycopy hx hown hlink hnat hstat hini (src := kro base sp so) (dst := kro base sp d) (cs := arrV (Ac 20) (h.1 so).2 (fun j => .int (h.2.2.1 so j))) (cd := arrV (Ac 20) (h.1 d).2 (fun j => .int (h.2.2.1 d j))) (srcPos := spos) (destPos := dp) (n := n) (by rw [hT]; exact hc0) (by rw [hT]; exact hc1)
        (fun _ h => by cases h) (fun _ h => by cases h) (fun h => by cases h) (fun h => by cases h) hk0 hk1 hkk0 hkk1 (by simp [refKind]) h1 h2 h3
        (by rw [nn spos h1, nn n h3, arrV_size]; omega)
        (by rw [nn dp h2, nn n h3, arrV_size]; omega)
        (fun vm₁ _ i hi => by
          have e : (arrV (Ac 20) (h.1 so).2 (fun j => Value.int (h.2.2.1 so j))).slots.getD (spos.toNatClampNeg + i) .null = .int (h.2.2.1 so (spos.toNatClampNeg + i)) := by
            rw [Array.getD_eq_getD_getElem?, arrV_read _ _ (by omega)]
            rfl
          refine ⟨?_, ?_⟩
          · rw [e]
            rfl
          · rw [e]
            exact trivial)
        (g := F0 m pc la ((Value.int n :: .int dp :: .ref d :: .int spos :: .ref so :: r).map (kcv (kro base sp)))) rfl (by rw [hml]) (rest := r.map (kcv (kro base sp))) rfl (by rw [hb]; exact hdg) hframes (by show 2 * 0 + _ + _ ≤ _; omega)
      have e1 : copied (arrV (Ac 20) (h.1 so).2 (fun j => Value.int (h.2.2.1 so j))) (arrV (Ac 20) (h.1 d).2 (fun j => Value.int (h.2.2.1 d j))) spos dp n = arrV (Ac 20) (h.1 d).2 (fun j => Value.int (va_cpy (h.2.2.1 so) (h.2.2.1 d) spos.toNatClampNeg dp.toNatClampNeg n.toNatClampNeg j)) := va_copied (fun z => .int z) (Ac 20) (Ac 20) (h.2.2.1 so) (h.2.2.1 d) h4
      rw [e1] at X' step
      have hl : kro base sp d < H.size := (Array.getElem?_eq_some_iff.mp hc1).1
      generalize hcell : arrV (Ac 20) (h.1 d).2 (fun j => Value.int (va_cpy (h.2.2.1 so) (h.2.2.1 d) spos.toNatClampNeg dp.toNatClampNeg n.toNatClampNeg j)) = cell at X' step
      have hheap : ((T.setVm vm').setCell (kro base sp d) cell).heap = H.setIfInBounds (kro base sp d) cell := by rw [← hT]; rfl
      have oq : ∀ q : Nat, q ≠ kro base sp d → (H.setIfInBounds (kro base sp d) cell)[q]? = H[q]? := fun q hq => by simp [Array.getElem?_setIfInBounds, Ne.symm hq]
      have z : (H.setIfInBounds (kro base sp d) cell).size = H.size := by simp
      obtain ⟨r1, -⟩ := kput_arr (k := 0) (h1 := (h.1, h.2.1, ku h.2.2.1 d (va_cpy (h.2.2.1 so) (h.2.2.1 d) spos.toNatClampNeg dp.toNatClampNeg n.toNatClampNeg), h.2.2.2.1, h.2.2.2.2)) hR hS (a := d) (by omega) (by rw [kd]; rfl) rfl (fun _ _ => rfl) (fun b hb2 => ku_n _ _ hb2) (fun _ _ => rfl) rfl z oq (fun _ => by
        rw [kd]
        simp only [ku_s]
        rw [hcell]
        simp [Array.getElem?_setIfInBounds, hl]) (fun q => by omega) (fun q => by omega)
      have hAd : kA base (kro base sp d) := by rw [(hR.ro (by omega : (h.1 d).1 < 30)).1]; exact Nat.le_add_right _ _
      obtain ⟨t, a1, b1⟩ := kk _ _ rfl r1 ⟨by rw [z]; exact hS.1, fun q g1 g2 => by
          rw [oq q (fun e => g2 (by rw [e]; exact hAd))]
          exact hS.2.1 q g1 g2, fun q hq => by
          rcases List.mem_append.mp hq with h | h
          · exact hS.2.2 q h
          · obtain ⟨z, -, hz⟩ := List.mem_map.mp h
            rw [← hz]
            exact hAd⟩ _ hheap X'
      exact ⟨t, step t a1, b1⟩
  · cases hh
end KMN
