/-! KM: the main theorem: a run of KM is a run of the machine -/
theorem kretok_ty {rt : Nat} {v : Int32} (h : kretok rt v = true) : ∃ ty, kretty rt = some ty ∧ narrow ty (.int v) = .int v := by
  unfold kretok at h
  cases h0 : Nat.beq rt 0 with
  | true => rw [Nat.eq_of_beq_eq_true h0]; exact ⟨.int, rfl, rfl⟩
  | false =>
    rw [h0] at h
    cases h1 : Nat.beq rt 1 with
    | true =>
      rw [h1] at h
      simp only [cond_false, cond_true, Bool.or_eq_true, decide_eq_true_eq] at h
      rw [Nat.eq_of_beq_eq_true h1]
      exact ⟨.boolean, rfl, by rcases h with rfl | rfl <;> rfl⟩
    | false =>
      rw [h1] at h
      cases h2 : Nat.beq rt 2 with
      | true =>
        rw [h2] at h
        simp only [cond_false, cond_true, decide_eq_true_eq] at h
        rw [Nat.eq_of_beq_eq_true h2]
        exact ⟨.char, rfl, h⟩
      | false =>
        rw [h2] at h
        cases h3 : Nat.beq rt 3 with
        | true =>
          rw [h3] at h
          simp only [cond_false, cond_true, decide_eq_true_eq] at h
          rw [Nat.eq_of_beq_eq_true h3]
          exact ⟨.byte, rfl, h⟩
        | false => rw [h3] at h; cases h
section KH2
variable {p : Program} {l : Launch} {e : Env} {R : Room} {s : State} {m : MethodId} {args : Array Value} {below : List Frame} {meth : Method} {c : Code} {H H0 : Heap} {locs : List Loc} {cells slots : Nat} {Q : State → Prop}
variable {cc : ByteArray} {pc : Nat} {st st1 : List Value} {la : Array Slot} {own mname : String} {D : va_G} {Ac : Nat → ClassId} {base : Nat} {sp : Nat → Nat} {h h1 : KH} {kw kn : List Cond}
set_option maxHeartbeats 4000000 in
theorem kW_heap (hx : p.tables.exec = Jvm.exec) (hb : c.code = cc) (hown : s.vm.findClass own = some m.cls) (hE : kCls D Ac s) (hts : ∀ w ∈ kw, w.before args s = true) (hnw : ∀ w ∈ kn, va_Nw w s) (hcw : ∀ (k : Nat) (c : vw_C), vwCl[k]? = some c → ∀ w ∈ u_ws c.1 c.2.1 c.2.2, w ∈ kw) (hmn : mname = "<init>" → meth.name = "<init>")
    (hR : kRel D Ac base sp h s H) (hS : va_S (kA base) H0 H locs) {i : Instr} {tg : Nat} {ts : List (Nat × Nat)} (hok : kheapS kw kn own mname i tg ts) (hdg : decode cc pc = .ok (i, kilen i)) (hh : kheap i tg ts st h = some (st1, h1))
    (hroom : ∀ dc ds : Nat, h1.2.2.2.2.1 = h.2.2.2.2.1 + dc → h1.2.2.2.2.2 = h.2.2.2.2.2 + ds → cells + dc ≤ R.cells ∧ slots + ds ≤ R.slots)
    (kk : ∀ (H1 : Heap) (locs1 : List Loc) (dc ds : Nat), h1.2.2.2.2.1 = h.2.2.2.2.1 + dc → h1.2.2.2.2.2 = h.2.2.2.2.2 + ds → kRel D Ac base sp h1 s H1 → va_S (kA base) H0 H1 locs1 → W p l e R s m args below meth c H1 locs1 (cells + dc) (slots + ds) Q (F0 m (pc + kilen i) la (st1.map (kcv (kro base sp))))) : W p l e R s m args below meth c H locs cells slots Q (F0 m pc la (st.map (kcv (kro base sp)))) := by
  have hcw2 : ∀ (k : Nat) (c : vw_C), vwCl[k]? = some c → ∀ w ∈ u_ws c.1 c.2.1 c.2.2, w.before args s = true := fun k c hc w hw => hts _ (hcw k c hc w hw)
  have k0 : h1 = h → W p l e R s m args below meth c H locs cells slots Q (F0 m (pc + kilen i) la (st1.map (kcv (kro base sp)))) := fun q => by
    subst q
    exact kk H locs 0 0 rfl rfl hR hS
  have k1 : h1.2.2.2.2 = h.2.2.2.2 → ∀ (H1 : Heap) (locs1 : List Loc), kRel D Ac base sp h1 s H1 → va_S (kA base) H0 H1 locs1 → W p l e R s m args below meth c H1 locs1 cells slots Q (F0 m (pc + kilen i) la (st1.map (kcv (kro base sp)))) := fun q H1 locs1 r1 r2 => kk H1 locs1 0 0 (by rw [q]; rfl) (by rw [q]; rfl) r1 r2
  cases i with
  | getfield idx => exact kW_getf hx hb hown hE hcw2 hR (fun q hq => kFgS_OK hts hnw (hok q hq)) hdg hh k0
  | putfield idx => exact kW_putf hx hb hown hE hcw2 hR hS (fun q hq => kFpS_OK hts hnw hmn (hok q hq)) hdg hh (k1 (kputf_h hh))
  | iaload => exact kW_iald hx hb hE hR hdg hh k0
  | baload => exact kW_bald hx hb hE hR hdg hh k0
  | laload => exact kW_lald hx hb hE hR hdg hh k0
  | aaload => exact kW_aald hx hb hE hR hdg hh k0
  | iastore => exact kW_iast hx hb hE hR hS hdg hh (k1 (kasti_h hh))
  | bastore => exact kW_bast hx hb hE hR hS hdg hh (k1 (kastb_h hh))
  | lastore => exact kW_last hx hb hE hR hS hdg hh (k1 (kastl_h hh))
  | aastore => exact kW_aast hx hb hE hR hS hdg hh (k1 (kastr_h hh))
  | arraylength => exact kW_alen hx hb hE hR hdg hh k0
  | idiv => exact kW_div hx hb (Or.inl rfl) hdg hh k0
  | irem => exact kW_div hx hb (Or.inr rfl) hdg hh k0
  | new idx =>
    obtain ⟨kind, n, cl, rfl, hc, hn, w1, w2, w3⟩ := hok
    have hh2 : knew kind n st h = some (st1, h1) := hh
    have hz : h1.2.2.2.2.1 = h.2.2.2.2.1 + 1 ∧ h1.2.2.2.2.2 = h.2.2.2.2.2 + n := by
      unfold knew at hh2
      cases (kcond hh2).2
      exact ⟨rfl, rfl⟩
    obtain ⟨c1, c2⟩ := hroom 1 n hz.1 hz.2
    exact kW_new hx hb hown hE hcw2 hR hS hc hn (hts _ w1) (hts _ w2) (hts _ w3) c1 c2 hdg hh2 (fun H1 e1 e2 r1 r2 => kk H1 locs 1 n e1 e2 r1 r2)
  | newarray at1 =>
    obtain ⟨hk, w1⟩ := hok
    have hh2 : knewa tg st h = some (st1, h1) := hh
    refine kW_newa hx hb hE hR hS hk (hts _ w1) (fun n hn => ?_) hdg hh2 (fun H1 n e1 e2 r1 r2 => kk H1 locs 1 n e1 e2 r1 r2)
    unfold knewa at hh2
    split at hh2
    · cases hn
      cases (kcond hh2).2
      exact hroom 1 _ rfl rfl
    · cases hh2
  | anewarray idx =>
    obtain ⟨C, hk, w1⟩ := hok
    have hh2 : knewa tg st h = some (st1, h1) := hh
    refine kW_newq hx hb hown hE hR hS hk (hts _ w1) (fun n hn => ?_) hdg hh2 (fun H1 n e1 e2 r1 r2 => kk H1 locs 1 n e1 e2 r1 r2)
    unfold knewa at hh2
    split at hh2
    · cases hn
      cases (kcond hh2).2
      exact hroom 1 _ rfl rfl
    · cases hh2
  | multianewarray idx n =>
    obtain ⟨rfl, w1, w2⟩ := hok
    have hh2 : kmna st h = some (st1, h1) := hh
    refine kW_mna hx hb hown hE hR hS (hts _ w1) (hts _ w2) (fun n k r hst => ?_) hdg hh2 (fun H1 cn sn e1 e2 r1 r2 => kk H1 locs cn sn e1 e2 r1 r2)
    subst hst
    simp only [kmna] at hh2
    cases (kcond hh2).2
    exact hroom (1 + n.toNatClampNeg) (n.toNatClampNeg + n.toNatClampNeg * k.toNatClampNeg) (by simp only [kmakem]; omega) (by simp only [kmakem]; omega)
  | _ => cases hh
end KH2
section KMN2
variable {pf : Nat → Nat → Option KE} {pl pr : Nat → Nat} {mo : Nat → String} {my : Nat → MethodName} {mb : Nat → ByteArray} {mr : Nat → Option FieldType} {kw kn : List Cond} {sidx : Nat} {stx : String} {D : va_G} {Ac : Nat → ClassId} {base : Nat} {sp : Nat → Nat}
set_option maxHeartbeats 8000000 in
theorem k_main (hG : ∀ M pc e, pf M pc = some e → ∃ len, decode (mb M) pc = .ok (e.1, len) ∧ kOp pl pr mo my mb mr kw kn sidx M pc len e) (hkg : ∀ w ∈ kw, goodWord w = true) (hkn : ∀ w ∈ kn, kNest w = true) (hcw : ∀ (k : Nat) (c : vw_C), vwCl[k]? = some c → ∀ w ∈ u_ws c.1 c.2.1 c.2.2, w ∈ kw) (l : Launch) :
    ∀ (n d M pc : Nat) (ls : KL) (st : List Value) (h : KH) (o : KO), kx pf pl pr n d M pc ls st h = some o →
    ∀ (p : Program) (e : Env) (R : Room) (s : State) (m : MethodId) (args : Array Value) (below : List Frame) (meth : Method) (c : Code) (H : Heap) (locs : List Loc) (cells slots : Nat) (la : Array Slot) (Q : State → Prop) (z0 l0 Cf Sf : Nat),
    kCtx pl mo my mb kw kn sidx stx D Ac base sp M p s m args meth c → kRel D Ac base sp h s H → va_S (kA base) s.heap H locs → kLoc (kro base sp) (pl M) ls la →
    d ≤ R.frames → 40 * d ≤ R.locals → cells + z0 = h.2.2.2.2.1 → slots + l0 = h.2.2.2.2.2 → Cf + z0 = o.2.2.2.2.2.1 → Sf + l0 = o.2.2.2.2.2.2 → Cf ≤ R.cells → Sf ≤ R.slots →
    (∀ (pc1 : Nat) (H1 : Heap) (locs1 : List Loc) (la1 : Array Slot), kRel D Ac base sp o.2 s H1 → va_S (kA base) s.heap H1 locs1 → ((∃ v, o.1 = some (.int v) ∧ kretok (pr M) v = true ∧ decode (mb M) pc1 = .ok (.ireturn, 1)) ∨ (o.1 = none ∧ pr M = 9 ∧ decode (mb M) pc1 = .ok (.return_, 1))) →
      W p l e R s m args below meth c H1 locs1 Cf Sf Q (F0 m pc1 la1 ((o.1.map (kcv (kro base sp))).toList))) →
    W p l e R s m args below meth c H locs cells slots Q (F0 m pc la (st.map (kcv (kro base sp)))) := by
  intro n
  induction n with
  | zero => intro d M pc ls st h o hq; cases hq
  | succ n ih =>
    intro d M pc ls st h o hq p e R s m args below meth c H locs cells slots la Q z0 l0 Cf Sf hC hR hS hL hfr hlo hz hl hzf hlf hCf hSf hend
    cases he : pf M pc with
    | none =>
      exfalso
      have e1 : kx pf pl pr (n + 1) d M pc ls st h = none := by
        show (match pf M pc with | some e => _ | none => none) = none
        rw [he]
      rw [e1] at hq
      cases hq
    | some en =>
      obtain ⟨len, hdg, hsw, hcs, hbr, hhp, hinv, hgs⟩ := hG M pc en he
      obtain ⟨i, nx, tg, w, ts⟩ := en
      simp only at hdg hsw hcs hbr hhp hinv hgs
      rw [kx_succ he] at hq
      have hC0 := hC
      obtain ⟨hx, hb, hml, hown, hmn, hts, hE⟩ := hC
      have hla : la.size = c.maxLocals := by rw [hml]; exact hL.1
      have go : ∀ (pc1 : Nat) (ls1 : KL) (st1 : List Value) (h1 : KH) (H1 : Heap) (locs1 : List Loc) (dc ds : Nat) (la1 : Array Slot), kx pf pl pr n d M pc1 ls1 st1 h1 = some o → h1.2.2.2.2.1 = h.2.2.2.2.1 + dc → h1.2.2.2.2.2 = h.2.2.2.2.2 + ds → kRel D Ac base sp h1 s H1 → va_S (kA base) s.heap H1 locs1 → kLoc (kro base sp) (pl M) ls1 la1 →
          W p l e R s m args below meth c H1 locs1 (cells + dc) (slots + ds) Q (F0 m pc1 la1 (st1.map (kcv (kro base sp)))) := by
        intro pc1 ls1 st1 h1 H1 locs1 dc ds la1 hq1 e1 e2 hR1 hS1 hL1
        exact ih d M pc1 ls1 st1 h1 o hq1 p e R s m args below meth c H1 locs1 (cells + dc) (slots + ds) la1 Q z0 l0 Cf Sf hC0 hR1 hS1 hL1 hfr hlo (by omega) (by omega) hzf hlf hCf hSf hend
      have room : ∀ (pc1 : Nat) (ls1 : KL) (st1 : List Value) (h1 : KH) (dc ds : Nat), kx pf pl pr n d M pc1 ls1 st1 h1 = some o → h1.2.2.2.2.1 = h.2.2.2.2.1 + dc → h1.2.2.2.2.2 = h.2.2.2.2.2 + ds → cells + dc ≤ R.cells ∧ slots + ds ≤ R.slots := by
        intro pc1 ls1 st1 h1 dc ds hq1 e1 e2
        have := kx_le _ _ _ _ _ _ _ _ hq1
        have t1 := this.1
        have t2 := this.2
        omega
      rcases kstep_inv hq with ⟨rfl, v, rfl, hrt, rfl⟩ | ⟨rfl, rfl, hrt, rfl⟩ | ⟨⟨idx, rfl⟩, hq⟩ | ⟨hii, hw, hd, hq⟩ | hq
      · have e1 : Cf = cells := by simp only at hzf; omega
        have e2 : Sf = slots := by simp only at hlf; omega
        subst e1
        subst e2
        obtain ⟨rfl, -⟩ := hsw rfl
        exact hend pc H locs la hR hS (Or.inl ⟨v, rfl, hrt, hdg⟩)
      · have e1 : Cf = cells := by simp only at hzf; omega
        have e2 : Sf = slots := by simp only at hlf; omega
        subst e1
        subst e2
        obtain ⟨rfl, -⟩ := hsw rfl
        exact hend pc H locs la hR hS (Or.inr ⟨rfl, hrt, hdg⟩)
      · obtain ⟨rfl, rfl⟩ := hsw rfl
        have k2 := go _ _ _ _ H locs 0 0 la hq rfl rfl hR hS hL
        obtain ⟨g1, g2⟩ := hgs idx rfl
        rcases hhp with ⟨rfl, hlink⟩ | ⟨rfl, hlink⟩
        · rw [g1 rfl] at k2
          have e0 : kcv (kro base sp) (.ref 1000000000) = .ref (sp 0) := by simp [kcv, kro]
          rw [List.map_cons, e0] at k2
          exact va_gets hx hb hE.2.2.1 hS hown (hts _ hlink) (fun _ h9 => h9) hdg k2
        · rw [g2 rfl] at k2
          exact va_gets hx hb hE.2.2.2.1 hS hown (hts _ hlink) (fun _ h9 => h9) hdg k2
      · have hki : kinvI i = true := by rcases hii with ⟨k, rfl⟩ | ⟨k, rfl⟩ | ⟨k, rfl⟩ <;> rfl
        have hl3 : kilen i = 3 := by rcases hii with ⟨k, rfl⟩ | ⟨k, rfl⟩ | ⟨k, rfl⟩ <;> rfl
        have hns : ksws i = false := by rcases hii with ⟨k, rfl⟩ | ⟨k, rfl⟩ | ⟨k, rfl⟩ <;> rfl
        obtain ⟨rfl, rfl⟩ := hsw hns
        rw [hl3] at hdg hq
        obtain ⟨v98, v97, v96, v94, vcall⟩ := hinv hki
        rcases hq with ⟨z, r, h1, rfl, hc, hr8, hq9⟩ | ⟨z, a, r, rfl, rfl, hr8, hq9⟩ | ⟨z, n2, k2, r, rfl, rfl, hr8, hd2, hk0, hkn2, hq9⟩ | ⟨z, y2, x2, r, rfl, rfl, hr8, hq9⟩ | ⟨as, r, M2, hno, hk, hp, hr8, hq⟩
        · obtain ⟨idx, rfl, w1, w2, w3, w4⟩ := v98 ⟨_, rfl⟩
          refine kW_copy hx hb hla.symm hown hE.1 hR hS (hts _ w1) (hts _ w2) (hts _ w3) (hts _ w4) (by omega) ?_ hdg hc (fun H1 locs1 e5 hR1 hS1 => ?_)
          · rw [kcats_sum]
            have : nativeFrameWords "java/lang/System" "arraycopy" 5 ≤ 21 := by decide +kernel
            omega
          · exact go _ _ _ _ H1 locs1 0 0 la hq9 (by rw [e5]; rfl) (by rw [e5]; rfl) hR1 hS1 hL
        · obtain ⟨idx, rfl, w1, w2, w3⟩ := v97 ⟨_, rfl⟩
          have k2 := go _ _ _ _ H locs 0 0 la hq9 rfl rfl hR hS hL
          refine W.objInit hx hb hown (hts _ w1) (hts _ w2) (hts _ w3) rfl hla rfl hdg (by omega) ?_ k2
          show 2 * 0 + ((r.map (kcv (kro base sp))).map fun v => v.category).sum + 12 ≤ R.locals
          rw [kcats_sum]
          omega
        · obtain ⟨idx, rfl, w1, w2, w3, w4, w5, w6, w7, w8, w9⟩ := v96 ⟨_, rfl⟩
          have hG2 : GoodIn kw (Cond.code yJ0_checkIndex_df160 cJ0_checkIndex_df160 2 none :: kw) := fun w hw => by
            have hm : w ∈ kw := by
              rcases List.mem_cons.mp hw with rfl | h2
              · exact w4
              · exact h2
            exact ⟨hm, good_of_word (hkg w hm)⟩
          refine k_call (h1 := h) (v := none) (mc := 0) (ms := 0) (rest := r.map (kcv (kro base sp))) (D := D) (Ac := Ac) (base := base) (sp := sp) (va_runS (own := mo M) (nL := la.size) (n := 2) (As := [.int k2, .int n2]) (rest := r.map (kcv (kro base sp))) ⟨hx, hb, hla.symm, hown, hts⟩ (kMet_chk (kw := kw) (kn := kn) (sidx := sidx) (stx := stx) (h := h) l hk0 hkn2 1 40 (Nat.le_refl _) (Nat.le_refl _) hkg hkn w5 w6 w7 w8 w9) ⟨⟨rfl, rfl, by show 1 + 1 ≤ R.frames; omega, by show 8 + (2 + 11) + 40 ≤ R.locals; omega, pay_in hts hG2, List.mem_cons_self, hts _ w4, hts _ w3, by decide +kernel, kParams_ok (y := yJ0_checkIndex_df160) (by decide +kernel), hts _ w1⟩, hts _ w2⟩ ⟨kPv_blind hkn, fun U hU hW => ⟨rfl, by rw [hU]; exact hR.moved hW.alike, hE.step hkn hW (by rw [hU]; exact hS)⟩⟩ rfl rfl rfl rfl ?_ hdg (room _ _ _ _ 0 0 hq9 rfl rfl)) (fun q hq => hq) hS (fun H1 locs1 hR1 hS1 => ?_)
          · rw [kcats_sum]
            show 2 * 0 + _ ≤ 8
            omega
          · exact go _ _ _ _ H1 locs1 0 0 la hq9 rfl rfl hR1 hS1 hL
        · obtain ⟨idx, rfl, w0, w5⟩ := v94 _ rfl
          have k2 := go _ _ _ _ H locs 0 0 la hq9 rfl rfl hR hS hL
          have c9 := room _ _ _ _ 0 0 hq9 rfl rfl
          have hl9 : ((r.map (kcv (kro base sp))).map fun v => v.category).sum + 13 ≤ R.locals := by
            rw [kcats_sum]
            omega
          rcases w5 with ⟨rfl, w1, w2, w3⟩ | ⟨rfl, w1, w2, w3⟩
          · exact va_mmax hx hb hla.symm hown (hts _ w1) (hts _ w2) (hts _ w0) (hts _ w3) (by omega) hl9 c9.1 c9.2 hdg k2
          · exact va_mmin hx hb hla.symm hown (hts _ w1) (hts _ w2) (hts _ w0) (hts _ w3) (by omega) hl9 c9.1 c9.2 hdg k2
        · obtain ⟨hst, hlen⟩ := ktake_inv hk
          obtain ⟨kind, hmem, hkind⟩ := kpick_inv hp
          obtain ⟨hci, hmok⟩ := vcall hno _ hmem
          obtain ⟨hpl, h21, hret, hcls⟩ := (hmok : kMOK pl pr mo my mr M2)
          have h21 : pl M2 ≤ 21 := h21
          have main : ∀ (v : Option Value) (h1 : KH), cond (Nat.ble (kargs as).length (pl M2) && knodbl as) (kx pf pl pr n (d - 1) M2 0 (kent (pl M2) as) [] h) none = some (v, h1) → kx pf pl pr n d M (pc + 3) ls (v.toList ++ r) h1 = some o →
              W p l e R s m args below meth c H locs cells slots Q (F0 m pc la (st.map (kcv (kro base sp)))) := by
            intro v h1 hcl hq1
            obtain ⟨hck, hcl⟩ := kcond hcl
            simp only [Bool.and_eq_true] at hck
            obtain ⟨hkl, hnd⟩ := hck
            have hkl := Nat.le_of_ble_eq_true hkl
            have hle := kx_le _ _ _ _ _ _ _ _ hcl
            obtain ⟨mc, hmc⟩ : ∃ mc, h1.2.2.2.2.1 = h.2.2.2.2.1 + mc := ⟨h1.2.2.2.2.1 - h.2.2.2.2.1, by have := hle.1; simp only at this; omega⟩
            obtain ⟨ms, hms⟩ : ∃ ms, h1.2.2.2.2.2 = h.2.2.2.2.2 + ms := ⟨h1.2.2.2.2.2 - h.2.2.2.2.2, by have := hle.2; simp only at this; omega⟩
            have hM : Met l (my M2) (Cond.code (my M2) (mb M2) (pl M2) (mr M2) :: kw) { frames := d - 1, cells := mc, slots := ms, locals := 40 * (d - 1) } (kPc D Ac base sp kn sidx stx as h) (kQc D Ac base sp v h1) mc ms (kA base) := by
              refine Met.ofW (cc := mb M2) (maxL := pl M2) (ret := mr M2) hpl rfl ?_
              intro p2 e2 s2 m2 args2 below2 meth2 c2 s3 B hml2 hv
              obtain ⟨rfl, hR2, hE2⟩ := hv
              have hts2 := atoms_spec (ws := Cond.code (my M2) (mb M2) (pl M2) (mr M2) :: kw) B.pre
              have hr2 := B.returns
              have hlocks := B.notSynchronized
              rw [lg_entry_eq]
              refine ih (d - 1) M2 0 (kent (pl M2) as) [] h (v, h1) hcl p2 e2 { frames := d - 1, cells := mc, slots := ms, locals := 40 * (d - 1) } s2 m2 _ below2 meth2 c2 s2.heap [] 0 0 _ _ h.2.2.2.2.1 h.2.2.2.2.2 mc ms ⟨B.exec, B.bytes, hml2, by rw [← hcls]; exact findClass_of_methodNamed B.named, fun q => by rw [(name_of_methodNamed B.named B.method).1]; exact q, fun w hw => hts2 w (List.mem_cons_of_mem _ hw), hE2⟩ hR2 va_S.rf (kLoc_ent (kro base sp) (knodbl_ok hnd) hkl) (Nat.le_refl _) (Nat.le_refl _) (Nat.zero_add _) (Nat.zero_add _) (by simp only; omega) (by simp only; omega) (Nat.le_refl _) (Nat.le_refl _) (fun pc1 H1 locs1 la1 hR1 hS1 hcase => ?_)
              rcases hcase with ⟨z, hz1, hz2, hz3⟩ | ⟨hz1, hz2, hz3⟩
              · simp only at hz1
                subst hz1
                obtain ⟨ty, ht1, ht2⟩ := kretok_ty hz2
                exact W.zret (v := z) (ty := ty) B.exec B.bytes (by rw [hr2, hret, ht1]) ht2 (fun t ht hW => ⟨rfl, by rw [ht]; exact hR1.moved hW.alike, hS1.F ht⟩) hS1.2.2 hz3
              · simp only at hz1
                subst hz1
                exact W.vret B.exec B.bytes (by rw [hr2, hret, hz2]; rfl) (fun t ht hW => ⟨rfl, by rw [ht]; exact hR1.moved hW.alike, hS1.F ht⟩) hS1.2.2 hz3
            obtain ⟨c1, c2⟩ := room _ _ _ _ mc ms hq1 hmc hms
            refine k_call (k_run hx hb hla.symm hown hts hkg hE.2.1 hkn hE.1 hR hci hkind hst hlen hr8 hM rfl rfl (by show d - 1 + 1 ≤ R.frames; omega) (by show 8 + (pl M2 + 11) + 40 * (d - 1) ≤ R.locals; omega) hdg ⟨c1, c2⟩ (fun U hU hW => ⟨rfl, by rw [hU]; exact hR.moved hW.alike, hE.step hkn hW (by rw [hU]; exact hS)⟩)) (fun q hq => hq) hS (fun H1 locs1 hR1 hS1 => ?_)
            have k2 := go _ _ _ _ H1 locs1 mc ms la hq1 hmc hms hR1 hS1 hL
            rw [List.map_append] at k2
            have e3 : (v.map (kcv (kro base sp))).toList = v.toList.map (kcv (kro base sp)) := by cases v <;> rfl
            rw [e3]
            exact k2
          rcases hq with ⟨v, h1, hcl, hq⟩ | ⟨h1, hcl, hq⟩
          · exact main (some v) h1 hcl hq
          · exact main none h1 hcl hq
      · rcases hq with ⟨ls1, st1, hc, hq⟩ | ⟨pc1, st1, hc, hq⟩ | ⟨st1, h1, hc, hq⟩
        · obtain ⟨rfl, rfl⟩ := hsw (kpure_nsw hc)
          exact kW_pure hx hb hown hL (kcS_OK hts hE.2.2.2.2.1 hcs) hdg hc (fun la1 hL1 => go _ _ _ _ H locs 0 0 la1 hq rfl rfl hR hS hL1)
        · exact kW_br hx hb hbr hdg hc (go _ _ _ _ H locs 0 0 la hq rfl rfl hR hS hL)
        · obtain ⟨rfl, rfl⟩ := hsw (kheap_nsw hc)
          exact kW_heap hx hb hown hE.1 hts hE.2.1 hcw hmn hR hS hhp hdg hc (fun dc ds e1 e2 => room _ _ _ _ dc ds hq e1 e2) (fun H1 locs1 dc ds e1 e2 hR1 hS1 => go _ _ _ _ H1 locs1 dc ds la hq e1 e2 hR1 hS1 hL)
end KMN2
