/-! KM: steps on locals and stack, and branches, are the machine's -/
def kcv (ro : Nat → Nat) : Value → Value
  | .ref a => .ref (ro a)
  | v => v
theorem kcv_cat (ro : Nat → Nat) (v : Value) : (kcv ro v).category = v.category := by cases v <;> rfl
theorem kcat1_ok (ro : Nat → Nat) {v : Value} (h : kcat1 v = true) : (kcv ro v).category = 1 := by cases v <;> first | rfl | (exact absurd h (by simp [kcat1]))
def kLoc (ro : Nat → Nat) (nL : Nat) (ls : KL) (la : Array Slot) : Prop := la.size = nL ∧ lv_wf la ∧ ls.length = nL ∧ ∀ (i : Nat) (v : Value), ls[i]? = some (some v) → la[i]? = some (.val (kcv ro v))
theorem kld_some {ls : KL} {i : Nat} {v : Value} (h : kld ls i = some v) : ls[i]? = some (some v) := by
  unfold kld at h
  split at h
  · rename_i e
    rw [e, Option.some.inj h]
  · cases h
def kprs (ro : Nat → Nat) (ls : KL) : List (Nat × Value) := (List.range ls.length).filterMap fun i => (kld ls i).map fun v => (i, kcv ro v)
theorem kLoc.has {ro : Nat → Nat} {nL : Nat} {ls : KL} {la : Array Slot} (h : kLoc ro nL ls la) : lv_has la nL (kprs ro ls) := by
  refine ⟨h.1, h.2.1, fun q hq => ?_⟩
  obtain ⟨i, -, hi⟩ := List.mem_filterMap.mp hq
  cases hk : kld ls i with
  | none => rw [hk] at hi; cases hi
  | some v =>
    rw [hk] at hi
    cases hi
    exact h.2.2.2 i v (kld_some hk)
theorem kprs_mem {ro : Nat → Nat} {ls : KL} {i : Nat} {v : Value} (h : ls[i]? = some (some v)) : (i, kcv ro v) ∈ kprs ro ls := by
  refine List.mem_filterMap.mpr ⟨i, List.mem_range.mpr (List.getElem?_eq_some_iff.mp h).1, ?_⟩
  simp [kld, h]
theorem kw2_cat {ls : KL} {i : Nat} {v : Value} (h : kw2 ls[i]? = false) (hv : ls[i]? = some (some v)) : ¬ v.category = 2 := by
  rw [hv] at h
  cases v <;> first | (simp [kw2] at h; done) | (exact fun z => by cases z)
theorem kst_facts {ls ls1 : KL} {i : Nat} {v : Value} (h : kst ls i v = some ls1) : i < ls.length ∧ ls1 = ls.set i (some v) ∧ ∀ j, j + 1 = i → kw2 ls[j]? = false := by
  cases i with
  | zero =>
    simp only [kst] at h
    cases hb : Nat.blt 0 ls.length with
    | false => rw [hb] at h; cases h
    | true =>
      rw [hb] at h
      exact ⟨by rw [Nat.blt_eq] at hb; exact hb, (Option.some.inj h).symm, fun j hj => by omega⟩
  | succ k =>
    simp only [kst] at h
    cases hb : Nat.blt (k + 1) ls.length with
    | false => rw [hb] at h; cases h
    | true =>
      rw [hb] at h
      cases hc : kw2 ls[k]? with
      | true => rw [hc] at h; cases h
      | false =>
        rw [hc] at h
        exact ⟨by rw [Nat.blt_eq] at hb; exact hb, (Option.some.inj h).symm, fun j hj => by rw [show j = k by omega]; exact hc⟩
theorem kLoc.put {ro : Nat → Nat} {nL i : Nat} {ls ls1 : KL} {la la1 : Array Slot} {v : Value} (h : kLoc ro nL ls la) (hs : kst ls i v = some ls1)
    (h1 : lv_has la1 nL ((i, kcv ro v) :: (kprs ro ls).filter (fun q => !(q.1 == i) && !(q.1 + 1 == i && q.2.category == 2)))) : kLoc ro nL ls1 la1 := by
  obtain ⟨hi, rfl, hw⟩ := kst_facts hs
  refine ⟨h1.1, h1.2.1, by rw [List.length_set]; exact h.2.2.1, fun j u hu => ?_⟩
  by_cases hj : j = i
  · subst hj
    rw [List.getElem?_set_self hi] at hu
    cases hu
    exact h1.2.2 _ List.mem_cons_self
  · rw [List.getElem?_set_ne (Ne.symm hj)] at hu
    refine h1.2.2 (j, kcv ro u) (List.mem_cons_of_mem _ (List.mem_filter.mpr ⟨kprs_mem hu, ?_⟩))
    have h2 : ¬ (j + 1 = i ∧ (kcv ro u).category = 2) := by
      rintro ⟨e, hc⟩
      rw [kcv_cat] at hc
      exact kw2_cat (hw j e) hu hc
    simp only [Bool.and_eq_true, Bool.not_eq_true', beq_eq_false_iff_ne, Bool.and_eq_false_imp, beq_iff_eq]
    exact ⟨hj, fun e => by simpa using fun z => h2 ⟨e, z⟩⟩
/-- an instruction's length -/
def kilen : Instr → Nat
  | .bipush _ => 2
  | .sipush _ => 3
  | .ldc _ => 2
  | .ldc_w _ => 3
  | .ldc2_w _ => 3
  | .iload _ => 2
  | .lload _ => 2
  | .aload _ => 2
  | .istore _ => 2
  | .astore _ => 2
  | .iinc _ _ => 3
  | .ifCond _ _ => 3
  | .if_icmp _ _ => 3
  | .goto _ => 3
  | .ifnull _ => 3
  | .ifnonnull _ => 3
  | .getfield _ => 3
  | .putfield _ => 3
  | .getstatic _ => 3
  | .new _ => 3
  | .newarray _ => 2
  | .anewarray _ => 3
  | .multianewarray _ _ => 4
  | .invokestatic _ => 3
  | .invokevirtual _ => 3
  | .invokespecial _ => 3
  | _ => 1
/-- what a constant's number says -/
def kcOK (own : String) (args : Array Value) (s : State) (ro : Nat → Nat) (i : Instr) (w : Value) : Prop := match i with
  | .iconst n => w = .int (Int32.ofInt n)
  | .bipush n => w = .int (Int8.ofInt n).toInt32
  | .sipush n => w = .int (Int16.ofInt n).toInt32
  | .lconst n => w = .long (Int64.ofNat n.val)
  | .ldc k => (∃ v, w = .int v ∧ (Cond.constant own k v).before args s = true) ∨ ∃ a tx, w = .ref a ∧ vk_R own k tx (ro a) s
  | .ldc_w k => ∃ v, w = .int v ∧ (Cond.constant own k v).before args s = true
  | .ldc2_w k => ∃ v, w = .long v ∧ (Cond.constantLong own k v).before args s = true
  | .iinc _ n => w = .int (Int32.ofInt n)
  | _ => True
section KS
variable {p : Program} {l : Launch} {e : Env} {R : Room} {s : State} {m : MethodId} {args : Array Value} {below : List Frame} {meth : Method} {c : Code} {H : Heap} {locs : List Loc} {cells slots : Nat} {Q : State → Prop}
variable {cc : ByteArray} {pc nL : Nat} {ro : Nat → Nat} {ls ls1 : KL} {st st1 : List Value} {la : Array Slot} {own : String}
theorem kW_ldI (hx : p.tables.exec = Jvm.exec) (hb : c.code = cc) (hL : kLoc ro nL ls la) {i : Nat} (h : kldI ls i st = some (ls1, st1)) : ∃ x, la[i]? = some (.val (.int x)) ∧ ls1 = ls ∧ st1 = .int x :: st := by
  unfold kldI at h
  split at h
  · rename_i x e
    cases h
    exact ⟨x, hL.2.2.2 i _ (kld_some e), rfl, rfl⟩
  · cases h
theorem kW_ldJ (hx : p.tables.exec = Jvm.exec) (hb : c.code = cc) (hL : kLoc ro nL ls la) {i : Nat} (h : kldJ ls i st = some (ls1, st1)) : ∃ x, la[i]? = some (.val (.long x)) ∧ ls1 = ls ∧ st1 = .long x :: st := by
  unfold kldJ at h
  split at h
  · rename_i x e
    cases h
    exact ⟨x, hL.2.2.2 i _ (kld_some e), rfl, rfl⟩
  · cases h
theorem kW_ldA (hx : p.tables.exec = Jvm.exec) (hb : c.code = cc) (hL : kLoc ro nL ls la) {i : Nat} (h : kldA ls i st = some (ls1, st1)) : (∃ x, la[i]? = some (.val (.ref (ro x))) ∧ ls1 = ls ∧ st1 = .ref x :: st) ∨ (la[i]? = some (.val .null) ∧ ls1 = ls ∧ st1 = .null :: st) := by
  unfold kldA at h
  split at h
  · rename_i x e
    cases h
    exact Or.inl ⟨x, hL.2.2.2 i _ (kld_some e), rfl, rfl⟩
  · rename_i e
    cases h
    exact Or.inr ⟨hL.2.2.2 i _ (kld_some e), rfl, rfl⟩
  · cases h
theorem kW_stI {i : Nat} (h : kstI ls i st = some (ls1, st1)) : ∃ x, st = .int x :: st1 ∧ kst ls i (.int x) = some ls1 := by
  unfold kstI at h
  split at h
  · rename_i x r
    cases hk : kst ls i (.int x) with
    | none => rw [hk] at h; cases h
    | some l2 =>
      rw [hk] at h
      cases h
      exact ⟨x, rfl, hk⟩
  · cases h
theorem kW_stA {i : Nat} (h : kstA ls i st = some (ls1, st1)) : (∃ x, st = .ref x :: st1 ∧ kst ls i (.ref x) = some ls1) ∨ (st = .null :: st1 ∧ kst ls i .null = some ls1) := by
  unfold kstA at h
  split at h
  · rename_i x r
    cases hk : kst ls i (.ref x) with
    | none => rw [hk] at h; cases h
    | some l2 =>
      rw [hk] at h
      cases h
      exact Or.inl ⟨x, rfl, hk⟩
  · rename_i r
    cases hk : kst ls i .null with
    | none => rw [hk] at h; cases h
    | some l2 =>
      rw [hk] at h
      cases h
      exact Or.inr ⟨rfl, rfl⟩
  · cases h
theorem k2i_inv {f : Int32 → Int32 → Int32} (h : k2i f ls st = some (ls1, st1)) : ∃ x y r, st = .int y :: .int x :: r ∧ ls1 = ls ∧ st1 = .int (f x y) :: r := by
  unfold k2i at h
  split at h
  · cases h; exact ⟨_, _, _, rfl, rfl, rfl⟩
  · cases h
theorem k1i_inv {f : Int32 → Int32} (h : k1i f ls st = some (ls1, st1)) : ∃ x r, st = .int x :: r ∧ ls1 = ls ∧ st1 = .int (f x) :: r := by
  unfold k1i at h
  split at h
  · cases h; exact ⟨_, _, rfl, rfl, rfl⟩
  · cases h
theorem k2j_inv {f : Int64 → Int64 → Int64} (h : k2j f ls st = some (ls1, st1)) : ∃ x y r, st = .long y :: .long x :: r ∧ ls1 = ls ∧ st1 = .long (f x y) :: r := by
  unfold k2j at h
  split at h
  · cases h; exact ⟨_, _, _, rfl, rfl, rfl⟩
  · cases h
theorem kji_inv {f : Int64 → Int32 → Int64} (h : kji f ls st = some (ls1, st1)) : ∃ x y r, st = .int y :: .long x :: r ∧ ls1 = ls ∧ st1 = .long (f x y) :: r := by
  unfold kji at h
  split at h
  · cases h; exact ⟨_, _, _, rfl, rfl, rfl⟩
  · cases h
theorem kinc_inv {i : Nat} {w : Value} (h : kinc ls i w st = some (ls1, st1)) : ∃ x k, kld ls i = some (.int x) ∧ w = .int k ∧ kst ls i (.int (x + k)) = some ls1 ∧ st1 = st := by
  unfold kinc at h
  split at h
  · rename_i x k e
    cases hk : kst ls i (.int (x + k)) with
    | none => rw [hk] at h; cases h
    | some l2 =>
      rw [hk] at h
      cases h
      exact ⟨x, k, e, rfl, hk, rfl⟩
  · cases h
set_option maxHeartbeats 4000000 in
theorem kW_pure (hx : p.tables.exec = Jvm.exec) (hb : c.code = cc) (hown : s.vm.findClass own = some m.cls) (hL : kLoc ro nL ls la) {i : Instr} {w : Value} (hc : kcOK own args s ro i w) (hdg : decode cc pc = .ok (i, kilen i)) (h : kpure i w ls st = some (ls1, st1))
    (kk : ∀ la1, kLoc ro nL ls1 la1 → W p l e R s m args below meth c H locs cells slots Q (F0 m (pc + kilen i) la1 (st1.map (kcv ro)))) : W p l e R s m args below meth c H locs cells slots Q (F0 m pc la (st.map (kcv ro))) := by
  cases i with
  | iconst n =>
    cases h
    cases (show w = _ from hc)
    exact lv_iconst hx hb hdg rfl (kk la hL)
  | bipush n =>
    cases h
    cases (show w = _ from hc)
    exact lv_bipush hx hb hdg rfl (kk la hL)
  | sipush n =>
    cases h
    cases (show w = _ from hc)
    exact lv_sipush hx hb hdg rfl (kk la hL)
  | lconst n =>
    cases h
    cases (show w = _ from hc)
    exact lv_lconst hx hb hdg rfl (kk la hL)
  | ldc n =>
    cases h
    rcases (show _ ∨ _ from hc) with ⟨v, rfl, hv⟩ | ⟨a, tx, rfl, hv⟩
    · exact lv_ldc hx hb hown hv hdg (kk la hL)
    · exact va_ldcS hx hb hown hv hdg (kk la hL)
  | ldc_w n =>
    cases h
    obtain ⟨v, rfl, hv⟩ := hc
    exact lv_ldcw hx hb hown hv hdg (kk la hL)
  | ldc2_w n =>
    cases h
    obtain ⟨v, rfl, hv⟩ := hc
    exact lv_ldc2 hx hb hown hv hdg (kk la hL)
  | aconst_null =>
    cases h
    exact lv_null hx hb hdg (kk la hL)
  | iload_n k =>
    obtain ⟨x, hl, rfl, rfl⟩ := kW_ldI hx hb hL h
    exact lv_iload_n hx hb hdg rfl hl (kk la hL)
  | iload k =>
    obtain ⟨x, hl, rfl, rfl⟩ := kW_ldI hx hb hL h
    exact lv_iload hx hb hdg hl (kk la hL)
  | lload_n k =>
    obtain ⟨x, hl, rfl, rfl⟩ := kW_ldJ hx hb hL h
    exact lv_lload_n hx hb hdg rfl hl (kk la hL)
  | lload k =>
    obtain ⟨x, hl, rfl, rfl⟩ := kW_ldJ hx hb hL h
    exact lv_lload hx hb hdg hl (kk la hL)
  | aload_n k =>
    rcases kW_ldA hx hb hL h with ⟨x, hl, rfl, rfl⟩ | ⟨hl, rfl, rfl⟩
    · exact lv_aload_n hx hb hdg rfl hl (kk la hL)
    · exact lv_aload_nN hx hb hdg rfl hl (kk la hL)
  | aload k =>
    rcases kW_ldA hx hb hL h with ⟨x, hl, rfl, rfl⟩ | ⟨hl, rfl, rfl⟩
    · exact lv_aload hx hb hdg hl (kk la hL)
    · exact lv_aloadN hx hb hdg hl (kk la hL)
  | istore_n k =>
    obtain ⟨x, rfl, hs⟩ := kW_stI h
    exact lv_istore_n hx hb hdg rfl hL.has (by rw [← hL.2.2.1]; exact (kst_facts hs).1) rfl (fun la1 h1 => kk la1 (hL.put hs h1))
  | istore k =>
    obtain ⟨x, rfl, hs⟩ := kW_stI h
    exact lv_istore hx hb hdg hL.has (by rw [← hL.2.2.1]; exact (kst_facts hs).1) rfl (fun la1 h1 => kk la1 (hL.put hs h1))
  | astore_n k =>
    rcases kW_stA h with ⟨x, rfl, hs⟩ | ⟨rfl, hs⟩
    · exact lv_astore_n hx hb hdg rfl hL.has (by rw [← hL.2.2.1]; exact (kst_facts hs).1) rfl (fun la1 h1 => kk la1 (hL.put hs h1))
    · exact lv_astore_nN hx hb hdg rfl hL.has (by rw [← hL.2.2.1]; exact (kst_facts hs).1) rfl (fun la1 h1 => kk la1 (hL.put hs h1))
  | astore k =>
    rcases kW_stA h with ⟨x, rfl, hs⟩ | ⟨rfl, hs⟩
    · exact lv_astore hx hb hdg hL.has (by rw [← hL.2.2.1]; exact (kst_facts hs).1) rfl (fun la1 h1 => kk la1 (hL.put hs h1))
    · exact lv_astoreN hx hb hdg hL.has (by rw [← hL.2.2.1]; exact (kst_facts hs).1) rfl (fun la1 h1 => kk la1 (hL.put hs h1))
  | iinc k n =>
    obtain ⟨x, z, hk, hz, hs, rfl⟩ := kinc_inv h
    have hw : w = _ := hc
    rw [hw] at hz
    cases hz
    obtain ⟨q, hq⟩ := List.getElem?_of_mem (kprs_mem (ro := ro) (kld_some hk))
    exact lv_iinc hx hb hdg hL.has hq rfl (by rw [← hL.2.2.1]; exact (kst_facts hs).1) rfl (fun la1 h1 => kk la1 (hL.put hs h1))
  | iadd => obtain ⟨x, y, r, rfl, rfl, rfl⟩ := k2i_inv h; exact lv_iadd hx hb hdg (kk la hL)
  | isub => obtain ⟨x, y, r, rfl, rfl, rfl⟩ := k2i_inv h; exact lv_isub hx hb hdg (kk la hL)
  | imul => obtain ⟨x, y, r, rfl, rfl, rfl⟩ := k2i_inv h; exact lv_imul hx hb hdg (kk la hL)
  | iand => obtain ⟨x, y, r, rfl, rfl, rfl⟩ := k2i_inv h; exact lv_iand hx hb hdg (kk la hL)
  | ior => obtain ⟨x, y, r, rfl, rfl, rfl⟩ := k2i_inv h; exact lv_ior hx hb hdg (kk la hL)
  | ixor => obtain ⟨x, y, r, rfl, rfl, rfl⟩ := k2i_inv h; exact lv_ixor hx hb hdg (kk la hL)
  | ishl => obtain ⟨x, y, r, rfl, rfl, rfl⟩ := k2i_inv h; exact lv_ishl hx hb hdg (kk la hL)
  | ishr => obtain ⟨x, y, r, rfl, rfl, rfl⟩ := k2i_inv h; exact lv_ishr hx hb hdg (kk la hL)
  | iushr => obtain ⟨x, y, r, rfl, rfl, rfl⟩ := k2i_inv h; exact lv_iushr hx hb hdg rfl (kk la hL)
  | ineg => obtain ⟨x, r, rfl, rfl, rfl⟩ := k1i_inv h; exact lv_ineg hx hb hdg (kk la hL)
  | i2b => obtain ⟨x, r, rfl, rfl, rfl⟩ := k1i_inv h; exact lv_i2b hx hb hdg rfl (kk la hL)
  | i2s => obtain ⟨x, r, rfl, rfl, rfl⟩ := k1i_inv h; exact lv_i2s hx hb hdg rfl (kk la hL)
  | i2c => obtain ⟨x, r, rfl, rfl, rfl⟩ := k1i_inv h; exact lv_i2c hx hb hdg rfl (kk la hL)
  | ladd => obtain ⟨x, y, r, rfl, rfl, rfl⟩ := k2j_inv h; exact lv_ladd hx hb hdg (kk la hL)
  | land => obtain ⟨x, y, r, rfl, rfl, rfl⟩ := k2j_inv h; exact lv_land hx hb hdg (kk la hL)
  | lor => obtain ⟨x, y, r, rfl, rfl, rfl⟩ := k2j_inv h; exact lv_lor hx hb hdg (kk la hL)
  | lshl => obtain ⟨x, y, r, rfl, rfl, rfl⟩ := kji_inv h; exact lv_lshl hx hb hdg rfl (kk la hL)
  | lshr => obtain ⟨x, y, r, rfl, rfl, rfl⟩ := kji_inv h; exact lv_lshr hx hb hdg rfl (kk la hL)
  | lushr => obtain ⟨x, y, r, rfl, rfl, rfl⟩ := kji_inv h; exact lv_lushr hx hb hdg rfl (kk la hL)
  | i2l =>
    simp only [kpure] at h
    split at h
    · cases h; exact lv_i2l hx hb hdg rfl (kk la hL)
    · cases h
  | l2i =>
    simp only [kpure] at h
    split at h
    · cases h; exact lv_l2i hx hb hdg rfl (kk la hL)
    · cases h
  | lcmp =>
    simp only [kpure] at h
    split at h
    · cases h; exact W.lcmp hx hb hdg (kk la hL)
    · cases h
  | dup =>
    simp only [kpure] at h
    split at h
    · rename_i v r
      cases hv : kcat1 v with
      | false => rw [hv] at h; cases h
      | true => rw [hv] at h; cases h; exact lv_dup hx hb hdg (kcat1_ok ro hv) (kk la hL)
    · cases h
  | pop =>
    simp only [kpure] at h
    split at h
    · rename_i v r
      cases hv : kcat1 v with
      | false => rw [hv] at h; cases h
      | true => rw [hv] at h; cases h; exact lv_pop hx hb hdg (kcat1_ok ro hv) (kk la hL)
    · cases h
  | dup2 =>
    simp only [kpure] at h
    split at h
    · rename_i v u r
      cases hv : kcat1 v with
      | false => rw [hv] at h; cases h
      | true =>
        cases hu : kcat1 u with
        | false => rw [hv, hu] at h; cases h
        | true => rw [hv, hu] at h; cases h; exact lv_dup2_11 hx hb hdg (kcat1_ok ro hv) (kcat1_ok ro hu) (kk la hL)
    · cases h
  | _ => cases h
end KS
