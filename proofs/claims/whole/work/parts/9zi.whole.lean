/-! KM: the whole run; the claim -/
set_option maxRecDepth 100000 in
set_option maxHeartbeats 4000000 in
theorem whole_run {L : Nat} (xs : Nat → Int32) (hL : L ≤ 2560) : Wp 2000 kML 0 [some (.ref 1000000003), none, none, none] [] (kh0 L xs) (fun o => o.1 = some (.int 1) ∧ o.2.2.2.2.2.1 ≤ 600000 ∧ o.2.2.2.2.2.2 ≤ 7302250) := by
  obtain ⟨H1, H2, r1, n1, r2, nx, ty, rf, w4, w5, w6, w7, ws, m0, m1, m2, mx, i1, i2, i60, q10, q11, q4, q15, z04, z07, z3, z5, z20, z29, t29, a34, a35, a36, a37, z67, s0, s1, s2, s3⟩ := s_make L xs
  have hw : WF H2 := ⟨fun a ha => by
    have := tyL_get (H := H2) kTL 0 ty a ha
    rw [Nat.zero_add] at this
    exact this, rfL_get (H := H2) kRL rf, by rw [nx]; decide, w4, w5, w6, w7⟩
  have hi : Inv H2 := inv0 hw i1 i2 i60 q10 q11 q4 q15 z04 z07 z3 z5 z20 z29 t29 (fun k hk => by
    have h4 : k = 0 ∨ k = 1 ∨ k = 2 ∨ k = 3 := by omega
    rcases h4 with rfl | rfl | rfl | rfl
    · exact a34
    · exact a35
    · exact a36
    · exact a37) z67 (fun s hs => by
    have h4 : s = 0 ∨ s = 1 ∨ s = 2 ∨ s = 3 := by omega
    rcases h4 with rfl | rfl | rfl | rfl
    · exact s0
    · exact s1
    · exact s2
    · exact s3)
  have hN : NM H2 := ⟨fun i _ => by rw [m0]; rfl, fun i _ => by rw [m2]; rfl, by rw [m1]; rfl⟩
  refine Wp.mk rfl (show (0 : Nat) < 900000000 by decide) ?_
  show Wp 2000 297 3 [some (.ref 1000000003), none, none, none] [.ref 0] (kmake (kh0 L xs) 10 0 16) _
  refine Wp.seg 1 (pc1 := 4) (ls1 := [some (.ref 1000000003), none, none, none]) (st1 := [.ref 0, .ref 0]) rfl ?_
  refine Wp.inv (d2 := 10) (as := [.ref 0]) (r := [.ref 0]) rfl rfl rfl rfl rfl rfl (by decide) ⟨rfl, 210, _, r1, ?_⟩
  show Wp 2000 297 7 [some (.ref 1000000003), none, none, none] [.ref 0] H1 _
  refine Wp.seg 1 (pc1 := 8) (ls1 := [some (.ref 1000000003), some (.ref 0), none, none]) (st1 := []) rfl ?_
  refine Wp.mk rfl (by omega) ?_
  rw [n1]
  refine Wp.seg 1 (pc1 := 12) (ls1 := [some (.ref 1000000003), some (.ref 0), none, none]) (st1 := [.ref 59, .ref 59]) rfl ?_
  refine Wp.inv (d2 := 10) (as := [.ref 59]) (r := [.ref 59]) rfl rfl rfl rfl rfl rfl (by decide) ⟨rfl, 130, _, r2, ?_⟩
  show Wp 2000 297 15 [some (.ref 1000000003), some (.ref 0), none, none] [.ref 59] H2 _
  refine Wp.seg 3 (pc1 := 18) (ls1 := [some (.ref 1000000003), some (.ref 0), some (.ref 59), some (.int (Int32.ofNat 0))]) (st1 := []) rfl ?_
  exact law_loop (d := 2000) (L := L) (S0 := 6598) (xs := xs) hL (by decide) (fun h hi nm hn => J_rules hi nm hn) (fun h hi v => J_prove hi v) (fun h hi => J_judge hi) (fun h hi v w x => J_act hi v w x) (fun k c s => ⟨rfl, by simp only []; omega, by simp only []; omega⟩) L 0 H2 (by omega) (Nat.zero_le _) hi hN ws (fun q => by rw [mx]) (by rw [nx]; exact Nat.le_refl 75) (by rw [nx]; exact Nat.le_refl 6598)
theorem whole_start {p : Program} {e : Env} {s : State} {m : MethodId} {below : List Frame} {meth : Method} {c : Code} (l : Launch) (hflags : l.flags = flags0) {b L : Nat} {xs : Nat → Int32} (hL : L ≤ 2560) (C0 : lw_At p s m meth c b L xs) : W p l e room_1 s m #[Value.ref b] below meth c s.heap [] 0 0 (lw_Z below #[Value.ref b] s) (entryFrame m ([Value.ref b] : List Value).toArray 4) :=
  kstart (h1 := kh0 L xs) l hL C0 (whole_run xs hL)
set_option maxHeartbeats 4000000 in
theorem lw_walk (l : Launch) (hflags : l.flags = flags0) (b : Addr) (xs : List Int32) : MetFree l x (headSpec (Jvm.Cond.code x code maxLocals ret :: tables_1) room_1) (lw_P b xs) (fun _ _ _ _ _ => True) lw_Q := by
  refine MetFree.of_bodyS (code := code) (maxLocals := maxLocals) (ret := ret) (by decide) ?_ ?_
  · intro args s m h hn
    obtain ⟨meth, c, h1, h2, h3, h4, h5, h6, -, -⟩ := Cond.code_spec hn (atoms_spec (ws := Jvm.Cond.code x code maxLocals ret :: tables_1) h _ List.mem_cons_self)
    exact ⟨meth, c, h1, h2, h3, h4, h5, h6⟩
  · intro p e s m args below meth c s₁ B hml0 hP _
    obtain ⟨rfl, hx, hbd, hgv⟩ := hP
    obtain ⟨scr, harrAt, hlist, hof, hsmall⟩ := hx
    obtain ⟨hcb, hkn, -, -⟩ := State.arrayAt?_spec harrAt
    have hown : s.vm.findClass R_law = some m.cls := findClass_of_methodNamed B.named
    have hts0 : ∀ c ∈ (Jvm.Cond.code x code maxLocals ret :: tables_1), c.before #[Value.ref b] s = true := atoms_spec (ws := Jvm.Cond.code x code maxLocals ret :: tables_1) B.pre
    have hts : ∀ w ∈ lw_tbl, w.before #[Value.ref b] s = true := k2_hts_sels lw_privs (fun w hw => hts0 w (List.mem_cons_of_mem _ hw)) lw_privs_ok
    have hml : c.maxLocals = 4 := B.maxLocals_eq (hts0 _ List.mem_cons_self)
    have X₀ : Stand p l e room_1 s m #[Value.ref b] below meth c s₁ [] 0 0 := Stand.of_body B
    have hh0 : s₁.heap = s.heap := by rw [B.state]; rfl
    have hsz : scr.slots.size = xs.length := by rw [← Array.length_toList, hlist, List.length_map]
    have hval : ∀ j : Nat, j < xs.length → scr.slots[j]? = some (.int (xs.getD j 0)) := fun j hj => by
      rw [← Array.getElem?_toList, hlist]
      simp [hj]
    have hbl : b < s.heap.size := (Array.getElem?_eq_some_iff.mp hcb).1
    have hX : va_X b xs.length (fun j => xs.getD j 0) s s.heap := ⟨scr, hcb, hof, hkn, hsz, hval⟩
    have K : W p l e room_1 s m #[Value.ref b] below meth c s₁.heap [] 0 0 (lw_Z below #[Value.ref b] s) (entryFrame m ([Value.ref b] : List Value).toArray 4) := by
      rw [hh0]
      exact whole_start l hflags hbd ⟨B.exec, B.bytes, B.returns, hml, hown, hts, hX, hbl, B.notSynchronized, hgv⟩
    obtain ⟨t, a1, o, b1, b2, b3⟩ := K s₁ rfl X₀
    exact ⟨t, o, a1, b1, b2, b3⟩
theorem lw_pre_spec {args : Array Value} {s : State} (h : (Jvm.Cond.and given_1 narrow_1).before args s = true) (hr : rest_1_c.before args s = true) : ∃ (b : Addr) (xs : List Int32), lw_P b xs args s := by
  have hs := flat_of_before _ h
  have hq := flat_of_before _ hr
  have hc : (Cond.count 1).before args s = true := hs _ (by decide +kernel)
  have harr : (Cond.arrayOf (.arg 0) .int).before args s = true := hs _ (by decide +kernel)
  have hle : (Cond.le (.length (.arg 0)) (.int 2560)).before args s = true := hs _ (by decide +kernel)
  have hlen : (Cond.isInt (.length (.arg 0))).before args s = true := hq _ (by decide +kernel)
  have hall : (Cond.all (.arg 0) (.isInt (.elem (.arg 0) (.index 0)))).before args s = true := hq _ (by decide +kernel)
  obtain ⟨b, xs, hb, hx⟩ := State.ints_of_pre rfl harr hlen hall
  have hsm : xs.length < 2 ^ 31 := hx.choose_spec.2.2.2
  have hev : (Term.length (.arg 0)).eval args s none [] s = some (.int xs.length.toInt32) := hx.length_eval hb
  have hv := Cond.le_ints hev (show (Term.int 2560).eval args s none [] s = some (.int 2560) from rfl)
  have hd : xs.length.toInt32 ≤ 2560 := by
    simpa [Cond.before, Cond.holds, hv] using hle
  have hN : xs.length ≤ 2560 := (Int32.ofNat_le_ofNat hsm (by decide)).mp (show Int32.ofNat xs.length ≤ Int32.ofNat 2560 from hd)
  exact ⟨b, xs, Cond.one_arg hc (show args[0]? = some (.ref b) from hb), hx, hN, h⟩
theorem lw_comes (l : Launch) (hflags : l.flags = flags0) : Comes l x (Jvm.Cond.code x code maxLocals ret :: tables_1) room_1 (fun tb e args s => Calls_1 tb e args s ∧ rest_1 tb e args s ∧ Pre_1 tb e args s)
    (fun _ _ args s o t => lw_Q args s o t) := by
  intro p e ha hc hk s m args below hf hfit hheap happ hpre
  obtain ⟨b, xs, hP⟩ := lw_pre_spec hpre.2.2 hpre.2.1
  obtain ⟨k, o, h1, h2, h3, hQ⟩ := lw_walk l hflags b xs p e ha hc hk s m args below hf ((Spec.applies_iff_loose hf).mp happ).1 hP trivial
  exact ⟨k, o, h1, h2, h3, hQ⟩
theorem lw_frame {s t : State} {o : Outcome} {args : Array Value} (h : Framed s o t [] 600000 7302250) :
    Framed s o t (fieldLocs frame_1_writes args s ++ arrayLocs frame_1_arrays args s ++ staticLocs frame_1_statics s) 600000 7302250 := h
theorem lw_limb (L : Cond) (hL : ∀ (args : Array Value) (s t : State), L.after args s (.returned (some (.int 1))) t = true) :
    ArmFor flags0 classFile x code maxLocals ret World_1 tables_1 room_1 Calls_1 rest_1 Pre_1
      (fun tb e a s o t => postC L tb e a s o t ∧ Framed s o t (fieldLocs frame_1_writes a s ++ arrayLocs frame_1_arrays a s ++ staticLocs frame_1_statics s) 600000 7302250) := by
  intro l hflags _ _ p e ha hc hk s m args below hf hfit hheap happ hpre
  obtain ⟨k, o, h1, h2, h3, rfl, hF⟩ := lw_comes l hflags p e ha hc hk s m args below hf hfit hheap happ hpre
  exact ⟨k, _, h1, h2, h3, hL args s _, lw_frame hF⟩
theorem i_vc : Claimed_1_1 ∧ Claimed_1_2 := ⟨lw_limb limb_1_1 (fun args s t => by simp [limb_1_1, Cond.after, Cond.holds, Cond.value]), lw_limb limb_1_2 (fun args s t => Cond.after_iff.mpr (by
  first | (rw [show limb_1_2 = Cond.eq .result (.int 1) from rfl, Cond.eq_ints (x := 1) (y := 1) rfl rfl]; simp; done) | (simp [limb_1_2, Cond.value, Term.eval]; done)))⟩
