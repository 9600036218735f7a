/-! KM: branches are the machine's -/
theorem ksw_spec (x : Int32) (d : Nat) : ∀ ts : List (Nat × Nat), (∃ q ∈ ts, x = Int32.ofNat q.1 ∧ ksw x ts d = q.2) ∨ ((∀ q ∈ ts, ¬ x = Int32.ofNat q.1) ∧ ksw x ts d = d)
  | [] => Or.inr ⟨fun q h => (by cases h), rfl⟩
  | (k, t) :: r => by
    by_cases h : x = Int32.ofNat k
    · exact Or.inl ⟨(k, t), List.mem_cons_self, h, by simp [ksw, h]⟩
    · have e : ksw x ((k, t) :: r) d = ksw x r d := by simp [ksw, h]
      rw [e]
      rcases ksw_spec x d r with ⟨q, h1, h2, h3⟩ | ⟨h1, h2⟩
      · exact Or.inl ⟨q, List.mem_cons_of_mem _ h1, h2, h3⟩
      · refine Or.inr ⟨fun q hq => ?_, h2⟩
        rcases List.mem_cons.mp hq with rfl | hq
        · exact h
        · exact h1 q hq
theorem kofNat_toInt {n : Nat} (h : n < 2 ^ 31) : (Int32.ofNat n).toInt = (n : Int) := nI_toInt h
def kenc (a : Int) : Nat := (a % 4294967296).toNat
theorem kenc_toInt {a : Int} (h1 : -2147483648 ≤ a) (h2 : a < 2147483648) : (Int32.ofNat (kenc a)).toInt = a := by
  have e : Int32.ofNat (kenc a) = Int32.ofInt a := by
    apply Int32.toInt_inj.mp
    rw [Int32.toInt_ofNat', Int32.toInt_ofInt]
    unfold kenc
    have h3 : (((a % 4294967296).toNat : Nat) : Int) = a % 4294967296 := Int.toNat_of_nonneg (Int.emod_nonneg a (by omega))
    rw [h3]
    simp only [Int.bmod_def, Int32.size]
    omega
  rw [e, Int32.toInt_ofInt]
  simp only [Int.bmod_def, Int32.size]
  omega
def ktab (pc : Nat) (lo : Int) (offs : Array Int) : List (Nat × Nat) := (List.range offs.size).map fun (j : Nat) => (kenc (lo + (j : Int)), ((pc : Int) + offs.getD j 0).toNat)
def klsl (pc : Nat) (ps : Array (Int × Int)) : List (Nat × Nat) := ps.toList.map fun q => (kenc q.1, ((pc : Int) + q.2).toNat)
/-- what a branch's numbers say -/
def kbrOK (i : Instr) (pc len nx tg : Nat) (ts : List (Nat × Nat)) : Bool := match i with
  | .goto off => decide (len = 3) && decide ((pc : Int) + off = (tg : Int))
  | .ifCond _ off => decide (len = 3) && decide (nx = pc + 3) && decide ((pc : Int) + off = (tg : Int))
  | .if_icmp _ off => decide (len = 3) && decide (nx = pc + 3) && decide ((pc : Int) + off = (tg : Int))
  | .ifnull off => decide (len = 3) && decide (nx = pc + 3) && decide ((pc : Int) + off = (tg : Int))
  | .ifnonnull off => decide (len = 3) && decide (nx = pc + 3) && decide ((pc : Int) + off = (tg : Int))
  | .tableswitch d lo hi offs => decide ((pc : Int) + d = (tg : Int)) && decide (-2147483648 ≤ lo) && decide (hi = lo + offs.size - 1) && decide (lo + offs.size < 2147483648) && decide (ts = ktab pc lo offs) && (List.range offs.size).all (fun j => decide (0 ≤ (pc : Int) + offs.getD j 0))
  | .lookupswitch d ps => decide ((pc : Int) + d = (tg : Int)) && (ps.toList.zip (ps.toList.drop 1)).all (fun (a, next) => decide (a.1 < next.1)) && decide (ts = klsl pc ps) && ps.toList.all (fun q => decide (-2147483648 ≤ q.1) && decide (q.1 < 2147483648) && decide (0 ≤ (pc : Int) + q.2))
  | _ => true
theorem klsw (x : Int32) (d : Int) {pc tg : Nat} (hd : (pc : Int) + d = (tg : Int)) : ∀ l : List (Int × Int), (∀ q ∈ l, -2147483648 ≤ q.1 ∧ q.1 < 2147483648 ∧ 0 ≤ (pc : Int) + q.2) → (pc : Int) + Op.lookupswitch.offset l d x.toInt = ((ksw x (l.map fun q => (kenc q.1, ((pc : Int) + q.2).toNat)) tg : Nat) : Int)
  | [], _ => by
    first
      | exact hd
      | (simp [Op.lookupswitch.offset, ksw]; exact hd)
  | (a, o) :: r, h => by
    obtain ⟨h1, h2, h3⟩ := h (a, o) List.mem_cons_self
    have ih := klsw x d hd r (fun q hq => h q (List.mem_cons_of_mem _ hq))
    simp only at h1 h2 h3
    have ek : (Int32.ofNat (kenc a)).toInt = a := kenc_toInt h1 h2
    rw [Op.lookupswitch.offset_cons]
    by_cases e : x = Int32.ofNat (kenc a)
    · rw [if_pos (by rw [e, ek])]
      simp only [List.map_cons, ksw, if_pos e]
      omega
    · rw [if_neg (fun q => e (Int32.toInt_inj.mp (by rw [ek]; exact q.symm)))]
      simp only [List.map_cons, ksw, if_neg e]
      exact ih
section KB
variable {p : Program} {l : Launch} {e : Env} {R : Room} {s : State} {m : MethodId} {args : Array Value} {below : List Frame} {meth : Method} {c : Code} {H : Heap} {locs : List Loc} {cells slots : Nat} {Q : State → Prop}
variable {cc : ByteArray} {pc : Nat} {ro : Nat → Nat} {st st1 : List Value} {la : Array Slot}
set_option maxHeartbeats 4000000 in
theorem kW_br (hx : p.tables.exec = Jvm.exec) (hb : c.code = cc) {i : Instr} {len nx tg pc1 : Nat} {ts : List (Nat × Nat)} (hc : kbrOK i pc len nx tg ts = true) (hdg : decode cc pc = .ok (i, len)) (h : kbr i nx tg ts st = some (pc1, st1))
    (kk : W p l e R s m args below meth c H locs cells slots Q (F0 m pc1 la (st1.map (kcv ro)))) : W p l e R s m args below meth c H locs cells slots Q (F0 m pc la (st.map (kcv ro))) := by
  cases i with
  | goto off =>
    cases h
    simp only [kbrOK, Bool.and_eq_true, decide_eq_true_eq] at hc
    obtain ⟨rfl, ht⟩ := hc
    exact lv_goto hx hb hdg ht kk
  | ifCond cd off =>
    simp only [kbrOK, Bool.and_eq_true, decide_eq_true_eq] at hc
    obtain ⟨⟨rfl, rfl⟩, ht⟩ := hc
    simp only [kbr] at h
    split at h
    · rename_i x r
      cases h
      have kt : kc1 cd x → W p l e R s m args below meth c H locs cells slots Q (F0 m tg la (st1.map (kcv ro))) := fun q => by
        rw [(kc1b_iff cd x).mpr q] at kk
        exact kk
      have kf : ¬ kc1 cd x → W p l e R s m args below meth c H locs cells slots Q (F0 m (pc + 3) la (st1.map (kcv ro))) := fun q => by
        have q2 : kc1b cd x = false := Bool.eq_false_iff.mpr (fun z => q ((kc1b_iff cd x).mp z))
        rw [q2] at kk
        exact kk
      cases cd
      · exact lv_if_eq hx hb hdg ht kt kf
      · exact lv_if_ne hx hb hdg ht kt (fun q => kf (fun z => z q))
      · exact lv_if_lt hx hb hdg ht kt kf
      · exact lv_if_ge hx hb hdg ht kt kf
      · exact lv_if_gt hx hb hdg ht kt kf
      · exact lv_if_le hx hb hdg ht kt kf
    · cases h
  | if_icmp cd off =>
    simp only [kbrOK, Bool.and_eq_true, decide_eq_true_eq] at hc
    obtain ⟨⟨rfl, rfl⟩, ht⟩ := hc
    simp only [kbr] at h
    split at h
    · rename_i y x r
      cases h
      have kt : kc2 cd x y → W p l e R s m args below meth c H locs cells slots Q (F0 m tg la (st1.map (kcv ro))) := fun q => by
        rw [(kc2b_iff cd x y).mpr q] at kk
        exact kk
      have kf : ¬ kc2 cd x y → W p l e R s m args below meth c H locs cells slots Q (F0 m (pc + 3) la (st1.map (kcv ro))) := fun q => by
        have q2 : kc2b cd x y = false := Bool.eq_false_iff.mpr (fun z => q ((kc2b_iff cd x y).mp z))
        rw [q2] at kk
        exact kk
      cases cd
      · exact lv_icmp_eq hx hb hdg ht kt kf
      · exact lv_icmp_ne hx hb hdg ht kt (fun q => kf (fun z => z q))
      · exact lv_icmp_lt hx hb hdg ht kt kf
      · exact lv_icmp_ge hx hb hdg ht kt kf
      · exact lv_icmp_gt hx hb hdg ht kt kf
      · exact lv_icmp_le hx hb hdg ht kt kf
    · cases h
  | ifnull off =>
    simp only [kbrOK, Bool.and_eq_true, decide_eq_true_eq] at hc
    obtain ⟨⟨rfl, rfl⟩, ht⟩ := hc
    simp only [kbr] at h
    split at h
    · cases h; exact lv_ifnullN hx hb hdg ht kk
    · cases h; exact lv_ifnull hx hb hdg kk
    · cases h
  | ifnonnull off =>
    simp only [kbrOK, Bool.and_eq_true, decide_eq_true_eq] at hc
    obtain ⟨⟨rfl, rfl⟩, ht⟩ := hc
    simp only [kbr] at h
    split at h
    · cases h; exact lv_ifnonnullN hx hb hdg kk
    · cases h; exact lv_ifnonnull hx hb hdg ht kk
    · cases h
  | tableswitch d lo hi offs =>
    simp only [kbrOK, Bool.and_eq_true, decide_eq_true_eq, List.all_eq_true, List.mem_range] at hc
    obtain ⟨⟨⟨⟨⟨hd, hlo⟩, hhi⟩, hsz⟩, rfl⟩, hoff⟩ := hc
    simp only [kbr] at h
    split at h
    · rename_i x r
      cases h
      rcases ksw_spec x tg (ktab pc lo offs) with ⟨q, hq, hxq, hk⟩ | ⟨hn, hk⟩
      · rw [hk] at kk
        obtain ⟨j, hj, rfl⟩ := List.mem_map.mp hq
        rw [List.mem_range] at hj
        have hxi : x.toInt = lo + j := by
          rw [hxq]
          exact kenc_toInt (by omega) (by omega)
        have ho : offs[(x.toInt - lo).toNat]? = some (offs.getD j 0) := by
          rw [show (x.toInt - lo).toNat = j by omega, Array.getD_eq_getD_getElem?]
          rw [Array.getElem?_eq_getElem hj]
          rfl
        exact lv_tableIn hx hb hdg (by omega) (by omega) ho (by simp only; have := hoff j hj; omega) kk
      · rw [hk] at kk
        refine lv_tableOut hx hb hdg ?_ hd kk
        by_cases h1 : x.toInt < lo
        · exact Or.inl h1
        · refine Or.inr ?_
          by_cases h2 : hi < x.toInt
          · exact h2
          · exfalso
            have hj : (x.toInt - lo).toNat < offs.size := by omega
            refine hn _ (List.mem_map.mpr ⟨(x.toInt - lo).toNat, List.mem_range.mpr hj, rfl⟩) (Int32.toInt_inj.mp ?_)
            simp only
            rw [kenc_toInt (by omega) (by omega)]
            omega
    · cases h
  | lookupswitch d ps =>
    simp only [kbrOK, Bool.and_eq_true, decide_eq_true_eq, List.all_eq_true] at hc
    obtain ⟨⟨⟨hd, hsort⟩, rfl⟩, hq⟩ := hc
    simp only [kbr] at h
    split at h
    · rename_i x r
      cases h
      refine lv_lookup hx hb hdg ?_ rfl (klsw x d hd ps.toList (fun q hq2 => ?_)) kk
      · rw [List.all_eq_true]
        exact fun z hz => by simpa using hsort z hz
      · have := hq q hq2
        exact ⟨this.1.1, this.1.2, this.2⟩
    · cases h
  | _ => cases h
end KB
