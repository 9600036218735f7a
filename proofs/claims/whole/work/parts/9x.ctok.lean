/-! KM: the class: the tokens, its walks -/
set_option maxHeartbeats 4000000 in
theorem t_cod {d : Nat} {Q : KO → Prop} {h : KH} (hw : WF h) (nm : NM h) (hd : 0 ≤ d) (hQ : Q (some (.int (0)), h)) : Cl d 294 [.ref 1000000001] h Q := by
  refine Cl.of (ls := [some (.ref 1000000001)]) rfl rfl ?_
  refine Wp.gst rfl ?_
  refine Wp.if1 rfl (fun c1 => absurd c1 (show ¬ ((1 : Int32) = 0) by decide)) (fun c1 => ?_)
  refine Wp.seg 1 (pc1 := 7) (ls1 := [some (.ref 1000000001)]) (st1 := [.ref 1000000001]) rfl ?_
  refine Wp.gi (t := (31, 0)) rfl hw.2.2.2.2.1 (Or.inl rfl) ?_
  rw [show h.2.2.1 1000000001 1 = 0 from nm.2.2]
  refine Wp.seg 1 (pc1 := 14) (ls1 := [some (.ref 1000000001)]) (st1 := [.int (0)]) rfl ?_
  exact Wp.reti rfl rfl hQ
set_option maxHeartbeats 4000000 in
theorem t_lat {d : Nat} {Q : KO → Prop} {h : KH} (hw : WF h) (nm : NM h) (hd : 0 ≤ d) (hQ : Q (some (.int (1)), h)) : Cl d 295 [.ref 1000000001] h Q := by
  refine Cl.of (ls := [some (.ref 1000000001)]) rfl rfl ?_
  refine Wp.gst rfl ?_
  refine Wp.if1 rfl (fun c1 => absurd c1 (show ¬ ((1 : Int32) = 0) by decide)) (fun c1 => ?_)
  refine Wp.seg 1 (pc1 := 7) (ls1 := [some (.ref 1000000001)]) (st1 := [.ref 1000000001]) rfl ?_
  refine Wp.gi (t := (31, 0)) rfl hw.2.2.2.2.1 (Or.inl rfl) ?_
  rw [show h.2.2.1 1000000001 1 = 0 from nm.2.2]
  refine Wp.if1 rfl (fun c2 => absurd c2 (show ¬ (¬ (0 : Int32) = 0) by decide)) (fun c2 => ?_)
  refine Wp.seg 2 (pc1 := 18) (ls1 := [some (.ref 1000000001)]) (st1 := [.int (1)]) rfl ?_
  exact Wp.reti rfl rfl hQ
set_option maxHeartbeats 4000000 in
theorem t_len {d : Nat} {Q : KO → Prop} {h : KH} (hw : WF h) (nm : NM h) (hd : 1 ≤ d) (hQ : Q (some (.int ((Int32.ofNat 93) >>> ((0 : Int32) &&& 31))), h)) : Cl d 292 [.ref 1000000001] h Q := by
  refine Cl.of (ls := [some (.ref 1000000001)]) rfl rfl ?_
  refine Wp.seg 1 (pc1 := 1) (ls1 := [some (.ref 1000000001)]) (st1 := [.ref 1000000001]) rfl ?_
  refine Wp.gr (t := (31, 0)) (v := some (1000000002)) rfl hw.2.2.2.2.1 rfl hw.2.2.2.2.2.1 ?_
  show Wp d 292 4 [some (.ref 1000000001)] [.ref 1000000002] h Q
  refine Wp.alen (n := 93) (k := 32) rfl hw.2.2.2.2.2.2 rfl ?_
  refine Wp.seg 1 (pc1 := 6) (ls1 := [some (.ref 1000000001)]) (st1 := [.ref 1000000001, .int (Int32.ofNat 93)]) rfl ?_
  refine Wp.invV (d2 := 0) (as := [.ref 1000000001]) (r := [.int (Int32.ofNat 93)]) (t := (31, 0)) rfl rfl rfl rfl hw.2.2.2.2.1 rfl rfl ⟨rfl, rfl⟩ (by omega) (t_cod hw nm (Nat.le_refl _) ?_)
  show Wp d 292 9 [some (.ref 1000000001)] [.int (0), .int (Int32.ofNat 93)] h Q
  refine Wp.seg 1 (pc1 := 10) (ls1 := [some (.ref 1000000001)]) (st1 := [.int ((Int32.ofNat 93) >>> ((0 : Int32) &&& 31))]) rfl ?_
  exact Wp.reti rfl rfl hQ
theorem s_len {d : Nat} {Q : KO → Prop} {h : KH} (hw : WF h) (nm : NM h) (hd : 1 ≤ d) (hQ : Q (some (.int 93), h)) : Cl d 292 [.ref 1000000001] h Q := t_len hw nm hd hQ
theorem ch_tab : kall1 128 (fun cb => decide (((Int32.ofNat cb &&& 255).toUInt32 % 65536).toInt32 = Int32.ofNat cb) && (kretok 2 (Int32.ofNat cb))) = true := by decide +kernel
theorem ch_eq {cb : Nat} (h : cb < 128) : ((Int32.ofNat cb &&& 255).toUInt32 % 65536).toInt32 = Int32.ofNat cb := by
  have := kall1_ok ch_tab h
  simp only [Bool.and_eq_true, decide_eq_true_eq] at this
  exact this.1
theorem ch_ret {cb : Nat} (h : cb < 128) : kretok 2 (Int32.ofNat cb) = true := by
  have := kall1_ok ch_tab h
  simp only [Bool.and_eq_true, decide_eq_true_eq] at this
  exact this.2
theorem n93 {k : Nat} (h : k < 93) : Int32.ofNat k < Int32.ofNat 93 := by
  rw [zlt (znat (n := k) (by omega)) (znat (n := 93) (by decide))]
  omega
set_option maxHeartbeats 4000000 in
theorem t_lch {d : Nat} {Q : KO → Prop} {h : KH} (hw : WF h) (nm : NM h) {k cb : Nat} (hk : k < 93) (c8 : cb < 128) (hc : h.2.2.1 1000000002 k = Int32.ofNat cb) (hd : 3 ≤ d) (hQ : Q (some (.int ((((Int32.ofNat cb) &&& (255 : Int32)).toUInt32 % 65536).toInt32)), h)) : Cl d 296 [.ref 1000000002, .int (Int32.ofNat k)] h Q := by
  refine Cl.of (ls := [some (.ref 1000000002), some (.int (Int32.ofNat k))]) rfl rfl ?_
  refine Wp.seg 2 (pc1 := 2) (ls1 := [some (.ref 1000000002), some (.int (Int32.ofNat k))]) (st1 := [.ref 1000000002, .int (Int32.ofNat k)]) rfl ?_
  refine Wp.alen (n := 93) (k := 32) rfl hw.2.2.2.2.2.2 rfl ?_
  refine Wp.chk rfl (by omega) (nlt (by omega)) (n93 hk) rfl ?_
  refine Wp.seg 2 (pc1 := 8) (ls1 := [some (.ref 1000000002), some (.int (Int32.ofNat k))]) (st1 := [.int (Int32.ofNat k), .ref 1000000002]) rfl ?_
  refine Wp.bald (j := k) (k := 32) (n := 93) rfl hw.2.2.2.2.2.2 rfl rfl hk (by decide) ?_
  rw [show h.2.2.1 1000000002 k = Int32.ofNat cb from hc]
  refine Wp.seg 3 (pc1 := 14) (ls1 := [some (.ref 1000000002), some (.int (Int32.ofNat k))]) (st1 := [.int ((((Int32.ofNat cb) &&& (255 : Int32)).toUInt32 % 65536).toInt32)]) rfl ?_
  exact Wp.reti rfl (by rw [ch_eq c8]; exact ch_ret c8) hQ
theorem s_lch {d : Nat} {Q : KO → Prop} {h : KH} (hw : WF h) (nm : NM h) {k cb : Nat} (hk : k < 93) (c8 : cb < 128) (hc : h.2.2.1 1000000002 k = Int32.ofNat cb) (hd : 3 ≤ d) (hQ : Q (some (.int (Int32.ofNat cb)), h)) : Cl d 296 [.ref 1000000002, .int (Int32.ofNat k)] h Q :=
  t_lch hw nm hk c8 hc hd (by rw [ch_eq c8]; exact hQ)
set_option maxHeartbeats 4000000 in
theorem t_chA {d : Nat} {Q : KO → Prop} {h : KH} (hw : WF h) (nm : NM h) {k cb : Nat} (hk : k < 93) (c8 : cb < 128) (hc : h.2.2.1 1000000002 k = Int32.ofNat cb) (hd : 4 ≤ d) (hQ : Q (some (.int (Int32.ofNat cb)), h)) : Cl d 293 [.ref 1000000001, .int (Int32.ofNat k)] h Q := by
  refine Cl.of (ls := [some (.ref 1000000001), some (.int (Int32.ofNat k))]) rfl rfl ?_
  refine Wp.seg 1 (pc1 := 1) (ls1 := [some (.ref 1000000001), some (.int (Int32.ofNat k))]) (st1 := [.ref 1000000001]) rfl ?_
  refine Wp.invV (d2 := 0) (as := [.ref 1000000001]) (r := []) (t := (31, 0)) rfl rfl rfl rfl hw.2.2.2.2.1 rfl rfl ⟨rfl, rfl⟩ (by omega) (t_lat hw nm (Nat.le_refl _) ?_)
  show Wp d 293 4 [some (.ref 1000000001), some (.int (Int32.ofNat k))] [.int (1)] h Q
  refine Wp.if1 rfl (fun c1 => absurd c1 (show ¬ ((1 : Int32) = 0) by decide)) (fun c1 => ?_)
  refine Wp.seg 1 (pc1 := 8) (ls1 := [some (.ref 1000000001), some (.int (Int32.ofNat k))]) (st1 := [.ref 1000000001]) rfl ?_
  refine Wp.gr (t := (31, 0)) (v := some (1000000002)) rfl hw.2.2.2.2.1 rfl hw.2.2.2.2.2.1 ?_
  show Wp d 293 11 [some (.ref 1000000001), some (.int (Int32.ofNat k))] [.ref 1000000002] h Q
  refine Wp.seg 1 (pc1 := 12) (ls1 := [some (.ref 1000000001), some (.int (Int32.ofNat k))]) (st1 := [.int (Int32.ofNat k), .ref 1000000002]) rfl ?_
  refine Wp.inv (d2 := 3) (as := [.ref 1000000002, .int (Int32.ofNat k)]) (r := []) rfl rfl rfl rfl rfl rfl (by omega) (s_lch hw nm hk c8 hc (Nat.le_refl _) ?_)
  show Wp d 293 15 [some (.ref 1000000001), some (.int (Int32.ofNat k))] [.int (Int32.ofNat cb)] h Q
  exact Wp.reti rfl (ch_ret c8) hQ
set_option maxHeartbeats 4000000 in
theorem t_b58 {d : Nat} {Q : KO → Prop} {h : KH} {v : Int32} (hd : 0 ≤ d) (hQ : (v < (97 : Int32) → Q (some (.int (0)), h)) ∧ (¬ (v < (97 : Int32)) → ((122 : Int32) < v → Q (some (.int (0)), h)) ∧ (¬ ((122 : Int32) < v) → Q (some (.int (1)), h)))) : Cl d 58 [.int (v)] h Q := by
  refine Cl.of (ls := [some (.int (v))]) rfl rfl ?_
  refine Wp.seg 2 (pc1 := 3) (ls1 := [some (.int (v))]) (st1 := [.int (97), .int (v)]) rfl ?_
  refine Wp.if2 rfl (fun (c1 : v < (97 : Int32)) => ?_) (fun (c1 : ¬ (v < (97 : Int32))) => ?_)
  · refine Wp.seg 1 (pc1 := 17) (ls1 := [some (.int (v))]) (st1 := [.int (0)]) rfl ?_
    exact Wp.reti rfl rfl (hQ.1 c1)
  · refine Wp.seg 2 (pc1 := 9) (ls1 := [some (.int (v))]) (st1 := [.int (122), .int (v)]) rfl ?_
    refine Wp.if2 rfl (fun (c2 : (122 : Int32) < v) => ?_) (fun (c2 : ¬ ((122 : Int32) < v)) => ?_)
    · refine Wp.seg 1 (pc1 := 17) (ls1 := [some (.int (v))]) (st1 := [.int (0)]) rfl ?_
      exact Wp.reti rfl rfl ((hQ.2 c1).1 c2)
    · refine Wp.seg 2 (pc1 := 17) (ls1 := [some (.int (v))]) (st1 := [.int (1)]) rfl ?_
      exact Wp.reti rfl rfl ((hQ.2 c1).2 c2)
set_option maxHeartbeats 4000000 in
theorem t_b59 {d : Nat} {Q : KO → Prop} {h : KH} {v : Int32} (hd : 0 ≤ d) (hQ : (v < (48 : Int32) → Q (some (.int (0)), h)) ∧ (¬ (v < (48 : Int32)) → ((57 : Int32) < v → Q (some (.int (0)), h)) ∧ (¬ ((57 : Int32) < v) → Q (some (.int (1)), h)))) : Cl d 59 [.int (v)] h Q := by
  refine Cl.of (ls := [some (.int (v))]) rfl rfl ?_
  refine Wp.seg 2 (pc1 := 3) (ls1 := [some (.int (v))]) (st1 := [.int (48), .int (v)]) rfl ?_
  refine Wp.if2 rfl (fun (c1 : v < (48 : Int32)) => ?_) (fun (c1 : ¬ (v < (48 : Int32))) => ?_)
  · refine Wp.seg 1 (pc1 := 17) (ls1 := [some (.int (v))]) (st1 := [.int (0)]) rfl ?_
    exact Wp.reti rfl rfl (hQ.1 c1)
  · refine Wp.seg 2 (pc1 := 9) (ls1 := [some (.int (v))]) (st1 := [.int (57), .int (v)]) rfl ?_
    refine Wp.if2 rfl (fun (c2 : (57 : Int32) < v) => ?_) (fun (c2 : ¬ ((57 : Int32) < v)) => ?_)
    · refine Wp.seg 1 (pc1 := 17) (ls1 := [some (.int (v))]) (st1 := [.int (0)]) rfl ?_
      exact Wp.reti rfl rfl ((hQ.2 c1).1 c2)
    · refine Wp.seg 2 (pc1 := 17) (ls1 := [some (.int (v))]) (st1 := [.int (1)]) rfl ?_
      exact Wp.reti rfl rfl ((hQ.2 c1).2 c2)
def f_sgnF (v : Int32) : Int32 := if v = 40 then (23 : Int32) else if v = 41 then (24 : Int32) else if v = 59 then (25 : Int32) else if v = 60 then (20 : Int32) else if v = 61 then (21 : Int32) else if v = 62 then (22 : Int32) else (27 : Int32)
set_option maxHeartbeats 4000000 in
theorem s_sgnF {d : Nat} {Q : KO → Prop} {h : KH} {v : Int32} (hd : 0 ≤ d) (hQ : Q (some (.int (f_sgnF v)), h)) : Cl d 60 [.int (v)] h Q := by
  refine Cl.of (ls := [some (.int (v))]) rfl rfl ?_
  refine Wp.seg 1 (pc1 := 1) (ls1 := [some (.int (v))]) (st1 := [.int (v)]) rfl ?_
  refine Wp.lsw rfl ?_
  refine ⟨fun c1 => ?_, fun c1 => ?_⟩
  · have c1 : v = 40 := c1
    show Wp d 60 69 [some (.int (v))] [] h Q
    refine Wp.seg 1 (pc1 := 71) (ls1 := [some (.int (v))]) (st1 := [.int (23)]) rfl ?_
    exact Wp.reti rfl rfl (by unfold f_sgnF at hQ; rw [if_pos c1] at hQ; exact hQ)
  have c1 : ¬ v = 40 := c1
  refine ⟨fun c2 => ?_, fun c2 => ?_⟩
  · have c2 : v = 41 := c2
    show Wp d 60 72 [some (.int (v))] [] h Q
    refine Wp.seg 1 (pc1 := 74) (ls1 := [some (.int (v))]) (st1 := [.int (24)]) rfl ?_
    exact Wp.reti rfl rfl (by unfold f_sgnF at hQ; rw [if_neg c1] at hQ; rw [if_pos c2] at hQ; exact hQ)
  have c2 : ¬ v = 41 := c2
  refine ⟨fun c3 => ?_, fun c3 => ?_⟩
  · have c3 : v = 59 := c3
    show Wp d 60 75 [some (.int (v))] [] h Q
    refine Wp.seg 1 (pc1 := 77) (ls1 := [some (.int (v))]) (st1 := [.int (25)]) rfl ?_
    exact Wp.reti rfl rfl (by unfold f_sgnF at hQ; rw [if_neg c1] at hQ; rw [if_neg c2] at hQ; rw [if_pos c3] at hQ; exact hQ)
  have c3 : ¬ v = 59 := c3
  refine ⟨fun c4 => ?_, fun c4 => ?_⟩
  · have c4 : v = 60 := c4
    show Wp d 60 60 [some (.int (v))] [] h Q
    refine Wp.seg 1 (pc1 := 62) (ls1 := [some (.int (v))]) (st1 := [.int (20)]) rfl ?_
    exact Wp.reti rfl rfl (by unfold f_sgnF at hQ; rw [if_neg c1] at hQ; rw [if_neg c2] at hQ; rw [if_neg c3] at hQ; rw [if_pos c4] at hQ; exact hQ)
  have c4 : ¬ v = 60 := c4
  refine ⟨fun c5 => ?_, fun c5 => ?_⟩
  · have c5 : v = 61 := c5
    show Wp d 60 63 [some (.int (v))] [] h Q
    refine Wp.seg 1 (pc1 := 65) (ls1 := [some (.int (v))]) (st1 := [.int (21)]) rfl ?_
    exact Wp.reti rfl rfl (by unfold f_sgnF at hQ; rw [if_neg c1] at hQ; rw [if_neg c2] at hQ; rw [if_neg c3] at hQ; rw [if_neg c4] at hQ; rw [if_pos c5] at hQ; exact hQ)
  have c5 : ¬ v = 61 := c5
  refine ⟨fun c6 => ?_, fun c6 => ?_⟩
  · have c6 : v = 62 := c6
    show Wp d 60 66 [some (.int (v))] [] h Q
    refine Wp.seg 1 (pc1 := 68) (ls1 := [some (.int (v))]) (st1 := [.int (22)]) rfl ?_
    exact Wp.reti rfl rfl (by unfold f_sgnF at hQ; rw [if_neg c1] at hQ; rw [if_neg c2] at hQ; rw [if_neg c3] at hQ; rw [if_neg c4] at hQ; rw [if_neg c5] at hQ; rw [if_pos c6] at hQ; exact hQ)
  have c6 : ¬ v = 62 := c6
  show Wp d 60 78 [some (.int (v))] [] h Q
  refine Wp.seg 1 (pc1 := 80) (ls1 := [some (.int (v))]) (st1 := [.int (27)]) rfl ?_
  exact Wp.reti rfl rfl (by unfold f_sgnF at hQ; rw [if_neg c1] at hQ; rw [if_neg c2] at hQ; rw [if_neg c3] at hQ; rw [if_neg c4] at hQ; rw [if_neg c5] at hQ; rw [if_neg c6] at hQ; exact hQ)
theorem lt_tab : kall1 256 (fun b => (isLt b == (!decide (sbyte b < 97) && !decide (122 < sbyte b))) && (isDg b == (!decide (sbyte b < 48) && !decide (57 < sbyte b))) && decide (f_sgnF (sbyte b) = Int32.ofNat (sgT b)) && (isBl b == decide (sbyte b = 32))) = true := by decide +kernel
theorem lt_e {b : Nat} (h : b < 256) : isLt b = (!decide (sbyte b < 97) && !decide (122 < sbyte b)) ∧ isDg b = (!decide (sbyte b < 48) && !decide (57 < sbyte b)) ∧ f_sgnF (sbyte b) = Int32.ofNat (sgT b) ∧ isBl b = decide (sbyte b = 32) := by
  have := kall1_ok lt_tab h
  simp only [Bool.and_eq_true, decide_eq_true_eq, beq_iff_eq] at this
  exact ⟨this.1.1.1, this.1.1.2, this.1.2, this.2⟩
theorem s_b58 {d : Nat} {Q : KO → Prop} {h : KH} {b : Nat} (hb : b < 256) (hQ : Q (some (.int (b32 (isLt b))), h)) : Cl d 58 [.int (sbyte b)] h Q := by
  rw [(lt_e hb).1] at hQ
  refine t_b58 (Nat.zero_le _) ⟨fun c => ?_, fun c => ⟨fun c2 => ?_, fun c2 => ?_⟩⟩
  · rw [decide_eq_true c] at hQ
    exact hQ
  · rw [decide_eq_false c, decide_eq_true c2] at hQ
    exact hQ
  · rw [decide_eq_false c, decide_eq_false c2] at hQ
    exact hQ
theorem s_b59 {d : Nat} {Q : KO → Prop} {h : KH} {b : Nat} (hb : b < 256) (hQ : Q (some (.int (b32 (isDg b))), h)) : Cl d 59 [.int (sbyte b)] h Q := by
  rw [(lt_e hb).2.1] at hQ
  refine t_b59 (Nat.zero_le _) ⟨fun c => ?_, fun c => ⟨fun c2 => ?_, fun c2 => ?_⟩⟩
  · rw [decide_eq_true c] at hQ
    exact hQ
  · rw [decide_eq_false c, decide_eq_true c2] at hQ
    exact hQ
  · rw [decide_eq_false c, decide_eq_false c2] at hQ
    exact hQ
theorem s_b60 {d : Nat} {Q : KO → Prop} {h : KH} {b : Nat} (hb : b < 256) (hQ : Q (some (.int (Int32.ofNat (sgT b))), h)) : Cl d 60 [.int (sbyte b)] h Q :=
  s_sgnF (Nat.zero_le _) (by rw [(lt_e hb).2.2.1]; exact hQ)
theorem tb_lt {T : List Nat} (hb : ∀ b ∈ T, b < 256) (i : Nat) : T.getD i 0 < 256 := by
  rw [List.getD_eq_getElem?_getD]
  by_cases h : i < T.length
  · rw [List.getElem?_eq_getElem h]
    exact hb _ (List.getElem_mem h)
  · rw [List.getElem?_eq_none (by omega)]
    exact Nat.zero_lt_succ _
set_option maxHeartbeats 4000000 in
theorem t_nf0 {d : Nat} {Q : KO → Prop} {h : KH} {i j : Nat} (hd : 0 ≤ d) (hQ : Wp d 57 11 ([some (.ref 29), some (.int (Int32.ofNat i)), some (.int (Int32.ofNat j)), some (.int (0)), some (.int (Int32.ofNat i)), some (.int (1)), some (.int (0)), none]) [] h Q) : Cl d 57 [.ref 29, .int (Int32.ofNat i), .int (Int32.ofNat j)] h Q := by
  refine Cl.of (ls := [some (.ref 29), some (.int (Int32.ofNat i)), some (.int (Int32.ofNat j)), none, none, none, none, none]) rfl rfl ?_
  refine Wp.seg 8 (pc1 := 11) (ls1 := [some (.ref 29), some (.int (Int32.ofNat i)), some (.int (Int32.ofNat j)), some (.int (0)), some (.int (Int32.ofNat i)), some (.int (1)), some (.int (0)), none]) (st1 := []) rfl ?_
  exact hQ
set_option maxHeartbeats 4000000 in
theorem t_nfE {d : Nat} {Q : KO → Prop} {h : KH} (hw : WF h) (nm : NM h) {i j m a k : Nat} {z : Option Value} {s : Int32} (ge : (93 : Int32) ≤ Int32.ofNat k) (hd : 5 ≤ d) (hQ : Q (some (.int (27)), h)) : Wp d 57 11 [some (.ref 29), some (.int (Int32.ofNat i)), some (.int (Int32.ofNat j)), some (.int (Int32.ofNat m)), some (.int (Int32.ofNat a)), some (.int (s)), some (.int (Int32.ofNat k)), z] [] h Q := by
  refine Wp.seg 2 (pc1 := 15) (ls1 := [some (.ref 29), some (.int (Int32.ofNat i)), some (.int (Int32.ofNat j)), some (.int (Int32.ofNat m)), some (.int (Int32.ofNat a)), some (.int (s)), some (.int (Int32.ofNat k)), z]) (st1 := [.ref 1000000001, .int (Int32.ofNat k)]) rfl ?_
  refine Wp.invV (d2 := 1) (as := [.ref 1000000001]) (r := [.int (Int32.ofNat k)]) (t := (31, 0)) rfl rfl rfl rfl hw.2.2.2.2.1 rfl rfl ⟨rfl, rfl⟩ (by omega) (s_len hw nm (Nat.le_refl _) ?_)
  show Wp d 57 18 [some (.ref 29), some (.int (Int32.ofNat i)), some (.int (Int32.ofNat j)), some (.int (Int32.ofNat m)), some (.int (Int32.ofNat a)), some (.int (s)), some (.int (Int32.ofNat k)), z] [.int (93), .int (Int32.ofNat k)] h Q
  refine Wp.if2 rfl (fun c1 => ?_) (fun c1 => absurd (ge) c1)
  refine Wp.seg 1 (pc1 := 103) (ls1 := [some (.ref 29), some (.int (Int32.ofNat i)), some (.int (Int32.ofNat j)), some (.int (Int32.ofNat m)), some (.int (Int32.ofNat a)), some (.int (s)), some (.int (Int32.ofNat k)), z]) (st1 := [.int (27)]) rfl ?_
  exact Wp.reti rfl rfl hQ
set_option maxHeartbeats 4000000 in
theorem t_nf1 {d : Nat} {Q : KO → Prop} {h : KH} (hw : WF h) (nm : NM h) {i j m a k : Nat} {z : Option Value} {T : List Nat} (hT : T.length ≤ 200) (hb : ∀ b ∈ T, b < 256) (hf : h.2.2.1 29 1 = Int32.ofNat T.length) (ht : ∀ i, i < T.length → h.2.2.1 30 i = sbyte (T.getD i 0)) {cb : Nat} (hk : k < 93) (c8 : cb < 128) (hc : h.2.2.1 1000000002 k = Int32.ofNat cb) (ge : ¬ (93 : Int32) ≤ Int32.ofNat k) (n32 : ¬ Int32.ofNat cb = 32) (hd : 5 ≤ d) (hQ : Wp d 57 11 ([some (.ref 29), some (.int (Int32.ofNat i)), some (.int (Int32.ofNat j)), some (.int (Int32.ofNat m)), some (.int ((Int32.ofNat a) + 1)), some (.int (0)), some (.int ((Int32.ofNat k) + 1)), some (.int (Int32.ofNat cb))]) [] h Q) : Wp d 57 11 [some (.ref 29), some (.int (Int32.ofNat i)), some (.int (Int32.ofNat j)), some (.int (Int32.ofNat m)), some (.int (Int32.ofNat a)), some (.int (0)), some (.int (Int32.ofNat k)), z] [] h Q := by
  refine Wp.seg 2 (pc1 := 15) (ls1 := [some (.ref 29), some (.int (Int32.ofNat i)), some (.int (Int32.ofNat j)), some (.int (Int32.ofNat m)), some (.int (Int32.ofNat a)), some (.int (0)), some (.int (Int32.ofNat k)), z]) (st1 := [.ref 1000000001, .int (Int32.ofNat k)]) rfl ?_
  refine Wp.invV (d2 := 1) (as := [.ref 1000000001]) (r := [.int (Int32.ofNat k)]) (t := (31, 0)) rfl rfl rfl rfl hw.2.2.2.2.1 rfl rfl ⟨rfl, rfl⟩ (by omega) (s_len hw nm (Nat.le_refl _) ?_)
  show Wp d 57 18 [some (.ref 29), some (.int (Int32.ofNat i)), some (.int (Int32.ofNat j)), some (.int (Int32.ofNat m)), some (.int (Int32.ofNat a)), some (.int (0)), some (.int (Int32.ofNat k)), z] [.int (93), .int (Int32.ofNat k)] h Q
  refine Wp.if2 rfl (fun c1 => absurd c1 (ge)) (fun c1 => ?_)
  refine Wp.seg 2 (pc1 := 25) (ls1 := [some (.ref 29), some (.int (Int32.ofNat i)), some (.int (Int32.ofNat j)), some (.int (Int32.ofNat m)), some (.int (Int32.ofNat a)), some (.int (0)), some (.int (Int32.ofNat k)), z]) (st1 := [.int (Int32.ofNat k), .ref 1000000001]) rfl ?_
  refine Wp.invV (d2 := 4) (as := [.ref 1000000001, .int (Int32.ofNat k)]) (r := []) (t := (31, 0)) rfl rfl rfl rfl hw.2.2.2.2.1 rfl rfl ⟨rfl, rfl⟩ (by omega) (t_chA hw nm hk c8 hc (Nat.le_refl _) ?_)
  show Wp d 57 28 [some (.ref 29), some (.int (Int32.ofNat i)), some (.int (Int32.ofNat j)), some (.int (Int32.ofNat m)), some (.int (Int32.ofNat a)), some (.int (0)), some (.int (Int32.ofNat k)), z] [.int (Int32.ofNat cb)] h Q
  refine Wp.seg 3 (pc1 := 34) (ls1 := [some (.ref 29), some (.int (Int32.ofNat i)), some (.int (Int32.ofNat j)), some (.int (Int32.ofNat m)), some (.int (Int32.ofNat a)), some (.int (0)), some (.int (Int32.ofNat k)), some (.int (Int32.ofNat cb))]) (st1 := [.int (32), .int (Int32.ofNat cb)]) rfl ?_
  refine Wp.if2 rfl (fun c2 => absurd c2 (n32)) (fun c2 => ?_)
  refine Wp.seg 1 (pc1 := 39) (ls1 := [some (.ref 29), some (.int (Int32.ofNat i)), some (.int (Int32.ofNat j)), some (.int (Int32.ofNat m)), some (.int (Int32.ofNat a)), some (.int (0)), some (.int (Int32.ofNat k)), some (.int (Int32.ofNat cb))]) (st1 := [.int (0)]) rfl ?_
  refine Wp.if1 rfl (fun c3 => ?_) (fun c3 => absurd (show (0 : Int32) = 0 by decide) c3)
  refine Wp.seg 6 (pc1 := 11) (ls1 := [some (.ref 29), some (.int (Int32.ofNat i)), some (.int (Int32.ofNat j)), some (.int (Int32.ofNat m)), some (.int ((Int32.ofNat a) + 1)), some (.int (0)), some (.int ((Int32.ofNat k) + 1)), some (.int (Int32.ofNat cb))]) (st1 := []) rfl ?_
  exact hQ
set_option maxHeartbeats 4000000 in
theorem t_nf2 {d : Nat} {Q : KO → Prop} {h : KH} (hw : WF h) (nm : NM h) {i j m a k : Nat} {z : Option Value} {T : List Nat} (hT : T.length ≤ 200) (hb : ∀ b ∈ T, b < 256) (hf : h.2.2.1 29 1 = Int32.ofNat T.length) (ht : ∀ i, i < T.length → h.2.2.1 30 i = sbyte (T.getD i 0)) {cb : Nat} (hk : k < 93) (c8 : cb < 128) (hc : h.2.2.1 1000000002 k = Int32.ofNat cb) (ge : ¬ (93 : Int32) ≤ Int32.ofNat k) (n32 : ¬ Int32.ofNat cb = 32) (aj : Int32.ofNat j ≤ Int32.ofNat a) (hd : 5 ≤ d) (hQ : Wp d 57 11 ([some (.ref 29), some (.int (Int32.ofNat i)), some (.int (Int32.ofNat j)), some (.int (Int32.ofNat m)), some (.int ((Int32.ofNat a) + 1)), some (.int (0)), some (.int ((Int32.ofNat k) + 1)), some (.int (Int32.ofNat cb))]) [] h Q) : Wp d 57 11 [some (.ref 29), some (.int (Int32.ofNat i)), some (.int (Int32.ofNat j)), some (.int (Int32.ofNat m)), some (.int (Int32.ofNat a)), some (.int (1)), some (.int (Int32.ofNat k)), z] [] h Q := by
  refine Wp.seg 2 (pc1 := 15) (ls1 := [some (.ref 29), some (.int (Int32.ofNat i)), some (.int (Int32.ofNat j)), some (.int (Int32.ofNat m)), some (.int (Int32.ofNat a)), some (.int (1)), some (.int (Int32.ofNat k)), z]) (st1 := [.ref 1000000001, .int (Int32.ofNat k)]) rfl ?_
  refine Wp.invV (d2 := 1) (as := [.ref 1000000001]) (r := [.int (Int32.ofNat k)]) (t := (31, 0)) rfl rfl rfl rfl hw.2.2.2.2.1 rfl rfl ⟨rfl, rfl⟩ (by omega) (s_len hw nm (Nat.le_refl _) ?_)
  show Wp d 57 18 [some (.ref 29), some (.int (Int32.ofNat i)), some (.int (Int32.ofNat j)), some (.int (Int32.ofNat m)), some (.int (Int32.ofNat a)), some (.int (1)), some (.int (Int32.ofNat k)), z] [.int (93), .int (Int32.ofNat k)] h Q
  refine Wp.if2 rfl (fun c1 => absurd c1 (ge)) (fun c1 => ?_)
  refine Wp.seg 2 (pc1 := 25) (ls1 := [some (.ref 29), some (.int (Int32.ofNat i)), some (.int (Int32.ofNat j)), some (.int (Int32.ofNat m)), some (.int (Int32.ofNat a)), some (.int (1)), some (.int (Int32.ofNat k)), z]) (st1 := [.int (Int32.ofNat k), .ref 1000000001]) rfl ?_
  refine Wp.invV (d2 := 4) (as := [.ref 1000000001, .int (Int32.ofNat k)]) (r := []) (t := (31, 0)) rfl rfl rfl rfl hw.2.2.2.2.1 rfl rfl ⟨rfl, rfl⟩ (by omega) (t_chA hw nm hk c8 hc (Nat.le_refl _) ?_)
  show Wp d 57 28 [some (.ref 29), some (.int (Int32.ofNat i)), some (.int (Int32.ofNat j)), some (.int (Int32.ofNat m)), some (.int (Int32.ofNat a)), some (.int (1)), some (.int (Int32.ofNat k)), z] [.int (Int32.ofNat cb)] h Q
  refine Wp.seg 3 (pc1 := 34) (ls1 := [some (.ref 29), some (.int (Int32.ofNat i)), some (.int (Int32.ofNat j)), some (.int (Int32.ofNat m)), some (.int (Int32.ofNat a)), some (.int (1)), some (.int (Int32.ofNat k)), some (.int (Int32.ofNat cb))]) (st1 := [.int (32), .int (Int32.ofNat cb)]) rfl ?_
  refine Wp.if2 rfl (fun c2 => absurd c2 (n32)) (fun c2 => ?_)
  refine Wp.seg 1 (pc1 := 39) (ls1 := [some (.ref 29), some (.int (Int32.ofNat i)), some (.int (Int32.ofNat j)), some (.int (Int32.ofNat m)), some (.int (Int32.ofNat a)), some (.int (1)), some (.int (Int32.ofNat k)), some (.int (Int32.ofNat cb))]) (st1 := [.int (1)]) rfl ?_
  refine Wp.if1 rfl (fun c3 => absurd c3 (show ¬ ((1 : Int32) = 0) by decide)) (fun c3 => ?_)
  refine Wp.seg 2 (pc1 := 45) (ls1 := [some (.ref 29), some (.int (Int32.ofNat i)), some (.int (Int32.ofNat j)), some (.int (Int32.ofNat m)), some (.int (Int32.ofNat a)), some (.int (1)), some (.int (Int32.ofNat k)), some (.int (Int32.ofNat cb))]) (st1 := [.int (Int32.ofNat j), .int (Int32.ofNat a)]) rfl ?_
  refine Wp.if2 rfl (fun c4 => ?_) (fun c4 => absurd (aj) c4)
  refine Wp.seg 6 (pc1 := 11) (ls1 := [some (.ref 29), some (.int (Int32.ofNat i)), some (.int (Int32.ofNat j)), some (.int (Int32.ofNat m)), some (.int ((Int32.ofNat a) + 1)), some (.int (0)), some (.int ((Int32.ofNat k) + 1)), some (.int (Int32.ofNat cb))]) (st1 := []) rfl ?_
  exact hQ
set_option maxHeartbeats 4000000 in
theorem t_nf3 {d : Nat} {Q : KO → Prop} {h : KH} (hw : WF h) (nm : NM h) {i j m a k : Nat} {z : Option Value} {T : List Nat} (hT : T.length ≤ 200) (hb : ∀ b ∈ T, b < 256) (hf : h.2.2.1 29 1 = Int32.ofNat T.length) (ht : ∀ i, i < T.length → h.2.2.1 30 i = sbyte (T.getD i 0)) {cb : Nat} (hk : k < 93) (c8 : cb < 128) (hc : h.2.2.1 1000000002 k = Int32.ofNat cb) (ge : ¬ (93 : Int32) ≤ Int32.ofNat k) (n32 : ¬ Int32.ofNat cb = 32) (aj : ¬ Int32.ofNat j ≤ Int32.ofNat a) (aT : a < T.length) (te : ¬ sbyte (T.getD a 0) = Int32.ofNat cb) (hd : 5 ≤ d) (hQ : Wp d 57 11 ([some (.ref 29), some (.int (Int32.ofNat i)), some (.int (Int32.ofNat j)), some (.int (Int32.ofNat m)), some (.int ((Int32.ofNat a) + 1)), some (.int (0)), some (.int ((Int32.ofNat k) + 1)), some (.int (Int32.ofNat cb))]) [] h Q) : Wp d 57 11 [some (.ref 29), some (.int (Int32.ofNat i)), some (.int (Int32.ofNat j)), some (.int (Int32.ofNat m)), some (.int (Int32.ofNat a)), some (.int (1)), some (.int (Int32.ofNat k)), z] [] h Q := by
  refine Wp.seg 2 (pc1 := 15) (ls1 := [some (.ref 29), some (.int (Int32.ofNat i)), some (.int (Int32.ofNat j)), some (.int (Int32.ofNat m)), some (.int (Int32.ofNat a)), some (.int (1)), some (.int (Int32.ofNat k)), z]) (st1 := [.ref 1000000001, .int (Int32.ofNat k)]) rfl ?_
  refine Wp.invV (d2 := 1) (as := [.ref 1000000001]) (r := [.int (Int32.ofNat k)]) (t := (31, 0)) rfl rfl rfl rfl hw.2.2.2.2.1 rfl rfl ⟨rfl, rfl⟩ (by omega) (s_len hw nm (Nat.le_refl _) ?_)
  show Wp d 57 18 [some (.ref 29), some (.int (Int32.ofNat i)), some (.int (Int32.ofNat j)), some (.int (Int32.ofNat m)), some (.int (Int32.ofNat a)), some (.int (1)), some (.int (Int32.ofNat k)), z] [.int (93), .int (Int32.ofNat k)] h Q
  refine Wp.if2 rfl (fun c1 => absurd c1 (ge)) (fun c1 => ?_)
  refine Wp.seg 2 (pc1 := 25) (ls1 := [some (.ref 29), some (.int (Int32.ofNat i)), some (.int (Int32.ofNat j)), some (.int (Int32.ofNat m)), some (.int (Int32.ofNat a)), some (.int (1)), some (.int (Int32.ofNat k)), z]) (st1 := [.int (Int32.ofNat k), .ref 1000000001]) rfl ?_
  refine Wp.invV (d2 := 4) (as := [.ref 1000000001, .int (Int32.ofNat k)]) (r := []) (t := (31, 0)) rfl rfl rfl rfl hw.2.2.2.2.1 rfl rfl ⟨rfl, rfl⟩ (by omega) (t_chA hw nm hk c8 hc (Nat.le_refl _) ?_)
  show Wp d 57 28 [some (.ref 29), some (.int (Int32.ofNat i)), some (.int (Int32.ofNat j)), some (.int (Int32.ofNat m)), some (.int (Int32.ofNat a)), some (.int (1)), some (.int (Int32.ofNat k)), z] [.int (Int32.ofNat cb)] h Q
  refine Wp.seg 3 (pc1 := 34) (ls1 := [some (.ref 29), some (.int (Int32.ofNat i)), some (.int (Int32.ofNat j)), some (.int (Int32.ofNat m)), some (.int (Int32.ofNat a)), some (.int (1)), some (.int (Int32.ofNat k)), some (.int (Int32.ofNat cb))]) (st1 := [.int (32), .int (Int32.ofNat cb)]) rfl ?_
  refine Wp.if2 rfl (fun c2 => absurd c2 (n32)) (fun c2 => ?_)
  refine Wp.seg 1 (pc1 := 39) (ls1 := [some (.ref 29), some (.int (Int32.ofNat i)), some (.int (Int32.ofNat j)), some (.int (Int32.ofNat m)), some (.int (Int32.ofNat a)), some (.int (1)), some (.int (Int32.ofNat k)), some (.int (Int32.ofNat cb))]) (st1 := [.int (1)]) rfl ?_
  refine Wp.if1 rfl (fun c3 => absurd c3 (show ¬ ((1 : Int32) = 0) by decide)) (fun c3 => ?_)
  refine Wp.seg 2 (pc1 := 45) (ls1 := [some (.ref 29), some (.int (Int32.ofNat i)), some (.int (Int32.ofNat j)), some (.int (Int32.ofNat m)), some (.int (Int32.ofNat a)), some (.int (1)), some (.int (Int32.ofNat k)), some (.int (Int32.ofNat cb))]) (st1 := [.int (Int32.ofNat j), .int (Int32.ofNat a)]) rfl ?_
  refine Wp.if2 rfl (fun c4 => absurd c4 (aj)) (fun c4 => ?_)
  refine Wp.seg 1 (pc1 := 49) (ls1 := [some (.ref 29), some (.int (Int32.ofNat i)), some (.int (Int32.ofNat j)), some (.int (Int32.ofNat m)), some (.int (Int32.ofNat a)), some (.int (1)), some (.int (Int32.ofNat k)), some (.int (Int32.ofNat cb))]) (st1 := [.ref 29]) rfl ?_
  refine Wp.gr (t := (6, 0)) (v := some (30)) rfl (WF.t hw 29 rfl) rfl (WF.r hw 29 0 37 rfl) ?_
  show Wp d 57 52 [some (.ref 29), some (.int (Int32.ofNat i)), some (.int (Int32.ofNat j)), some (.int (Int32.ofNat m)), some (.int (Int32.ofNat a)), some (.int (1)), some (.int (Int32.ofNat k)), some (.int (Int32.ofNat cb))] [.ref 30] h Q
  refine Wp.seg 1 (pc1 := 54) (ls1 := [some (.ref 29), some (.int (Int32.ofNat i)), some (.int (Int32.ofNat j)), some (.int (Int32.ofNat m)), some (.int (Int32.ofNat a)), some (.int (1)), some (.int (Int32.ofNat k)), some (.int (Int32.ofNat cb))]) (st1 := [.int (Int32.ofNat a), .ref 30]) rfl ?_
  refine Wp.bald (j := a) (k := 21) (n := 200) rfl (WF.t hw 30 rfl) rfl rfl (by omega) (by decide) ?_
  rw [show h.2.2.1 30 a = sbyte (T.getD a 0) from ht a (by omega)]
  refine Wp.seg 1 (pc1 := 57) (ls1 := [some (.ref 29), some (.int (Int32.ofNat i)), some (.int (Int32.ofNat j)), some (.int (Int32.ofNat m)), some (.int (Int32.ofNat a)), some (.int (1)), some (.int (Int32.ofNat k)), some (.int (Int32.ofNat cb))]) (st1 := [.int (Int32.ofNat cb), .int (sbyte (T.getD a 0))]) rfl ?_
  refine Wp.if2 rfl (fun c5 => ?_) (fun c5 => absurd (te) c5)
  refine Wp.seg 6 (pc1 := 11) (ls1 := [some (.ref 29), some (.int (Int32.ofNat i)), some (.int (Int32.ofNat j)), some (.int (Int32.ofNat m)), some (.int ((Int32.ofNat a) + 1)), some (.int (0)), some (.int ((Int32.ofNat k) + 1)), some (.int (Int32.ofNat cb))]) (st1 := []) rfl ?_
  exact hQ
set_option maxHeartbeats 4000000 in
theorem t_nf4 {d : Nat} {Q : KO → Prop} {h : KH} (hw : WF h) (nm : NM h) {i j m a k : Nat} {z : Option Value} {T : List Nat} (hT : T.length ≤ 200) (hb : ∀ b ∈ T, b < 256) (hf : h.2.2.1 29 1 = Int32.ofNat T.length) (ht : ∀ i, i < T.length → h.2.2.1 30 i = sbyte (T.getD i 0)) {cb : Nat} (hk : k < 93) (c8 : cb < 128) (hc : h.2.2.1 1000000002 k = Int32.ofNat cb) (ge : ¬ (93 : Int32) ≤ Int32.ofNat k) (n32 : ¬ Int32.ofNat cb = 32) (aj : ¬ Int32.ofNat j ≤ Int32.ofNat a) (aT : a < T.length) (te : sbyte (T.getD a 0) = Int32.ofNat cb) (hd : 5 ≤ d) (hQ : Wp d 57 11 ([some (.ref 29), some (.int (Int32.ofNat i)), some (.int (Int32.ofNat j)), some (.int (Int32.ofNat m)), some (.int ((Int32.ofNat a) + 1)), some (.int (1)), some (.int ((Int32.ofNat k) + 1)), some (.int (Int32.ofNat cb))]) [] h Q) : Wp d 57 11 [some (.ref 29), some (.int (Int32.ofNat i)), some (.int (Int32.ofNat j)), some (.int (Int32.ofNat m)), some (.int (Int32.ofNat a)), some (.int (1)), some (.int (Int32.ofNat k)), z] [] h Q := by
  refine Wp.seg 2 (pc1 := 15) (ls1 := [some (.ref 29), some (.int (Int32.ofNat i)), some (.int (Int32.ofNat j)), some (.int (Int32.ofNat m)), some (.int (Int32.ofNat a)), some (.int (1)), some (.int (Int32.ofNat k)), z]) (st1 := [.ref 1000000001, .int (Int32.ofNat k)]) rfl ?_
  refine Wp.invV (d2 := 1) (as := [.ref 1000000001]) (r := [.int (Int32.ofNat k)]) (t := (31, 0)) rfl rfl rfl rfl hw.2.2.2.2.1 rfl rfl ⟨rfl, rfl⟩ (by omega) (s_len hw nm (Nat.le_refl _) ?_)
  show Wp d 57 18 [some (.ref 29), some (.int (Int32.ofNat i)), some (.int (Int32.ofNat j)), some (.int (Int32.ofNat m)), some (.int (Int32.ofNat a)), some (.int (1)), some (.int (Int32.ofNat k)), z] [.int (93), .int (Int32.ofNat k)] h Q
  refine Wp.if2 rfl (fun c1 => absurd c1 (ge)) (fun c1 => ?_)
  refine Wp.seg 2 (pc1 := 25) (ls1 := [some (.ref 29), some (.int (Int32.ofNat i)), some (.int (Int32.ofNat j)), some (.int (Int32.ofNat m)), some (.int (Int32.ofNat a)), some (.int (1)), some (.int (Int32.ofNat k)), z]) (st1 := [.int (Int32.ofNat k), .ref 1000000001]) rfl ?_
  refine Wp.invV (d2 := 4) (as := [.ref 1000000001, .int (Int32.ofNat k)]) (r := []) (t := (31, 0)) rfl rfl rfl rfl hw.2.2.2.2.1 rfl rfl ⟨rfl, rfl⟩ (by omega) (t_chA hw nm hk c8 hc (Nat.le_refl _) ?_)
  show Wp d 57 28 [some (.ref 29), some (.int (Int32.ofNat i)), some (.int (Int32.ofNat j)), some (.int (Int32.ofNat m)), some (.int (Int32.ofNat a)), some (.int (1)), some (.int (Int32.ofNat k)), z] [.int (Int32.ofNat cb)] h Q
  refine Wp.seg 3 (pc1 := 34) (ls1 := [some (.ref 29), some (.int (Int32.ofNat i)), some (.int (Int32.ofNat j)), some (.int (Int32.ofNat m)), some (.int (Int32.ofNat a)), some (.int (1)), some (.int (Int32.ofNat k)), some (.int (Int32.ofNat cb))]) (st1 := [.int (32), .int (Int32.ofNat cb)]) rfl ?_
  refine Wp.if2 rfl (fun c2 => absurd c2 (n32)) (fun c2 => ?_)
  refine Wp.seg 1 (pc1 := 39) (ls1 := [some (.ref 29), some (.int (Int32.ofNat i)), some (.int (Int32.ofNat j)), some (.int (Int32.ofNat m)), some (.int (Int32.ofNat a)), some (.int (1)), some (.int (Int32.ofNat k)), some (.int (Int32.ofNat cb))]) (st1 := [.int (1)]) rfl ?_
  refine Wp.if1 rfl (fun c3 => absurd c3 (show ¬ ((1 : Int32) = 0) by decide)) (fun c3 => ?_)
  refine Wp.seg 2 (pc1 := 45) (ls1 := [some (.ref 29), some (.int (Int32.ofNat i)), some (.int (Int32.ofNat j)), some (.int (Int32.ofNat m)), some (.int (Int32.ofNat a)), some (.int (1)), some (.int (Int32.ofNat k)), some (.int (Int32.ofNat cb))]) (st1 := [.int (Int32.ofNat j), .int (Int32.ofNat a)]) rfl ?_
  refine Wp.if2 rfl (fun c4 => absurd c4 (aj)) (fun c4 => ?_)
  refine Wp.seg 1 (pc1 := 49) (ls1 := [some (.ref 29), some (.int (Int32.ofNat i)), some (.int (Int32.ofNat j)), some (.int (Int32.ofNat m)), some (.int (Int32.ofNat a)), some (.int (1)), some (.int (Int32.ofNat k)), some (.int (Int32.ofNat cb))]) (st1 := [.ref 29]) rfl ?_
  refine Wp.gr (t := (6, 0)) (v := some (30)) rfl (WF.t hw 29 rfl) rfl (WF.r hw 29 0 37 rfl) ?_
  show Wp d 57 52 [some (.ref 29), some (.int (Int32.ofNat i)), some (.int (Int32.ofNat j)), some (.int (Int32.ofNat m)), some (.int (Int32.ofNat a)), some (.int (1)), some (.int (Int32.ofNat k)), some (.int (Int32.ofNat cb))] [.ref 30] h Q
  refine Wp.seg 1 (pc1 := 54) (ls1 := [some (.ref 29), some (.int (Int32.ofNat i)), some (.int (Int32.ofNat j)), some (.int (Int32.ofNat m)), some (.int (Int32.ofNat a)), some (.int (1)), some (.int (Int32.ofNat k)), some (.int (Int32.ofNat cb))]) (st1 := [.int (Int32.ofNat a), .ref 30]) rfl ?_
  refine Wp.bald (j := a) (k := 21) (n := 200) rfl (WF.t hw 30 rfl) rfl rfl (by omega) (by decide) ?_
  rw [show h.2.2.1 30 a = sbyte (T.getD a 0) from ht a (by omega)]
  refine Wp.seg 1 (pc1 := 57) (ls1 := [some (.ref 29), some (.int (Int32.ofNat i)), some (.int (Int32.ofNat j)), some (.int (Int32.ofNat m)), some (.int (Int32.ofNat a)), some (.int (1)), some (.int (Int32.ofNat k)), some (.int (Int32.ofNat cb))]) (st1 := [.int (Int32.ofNat cb), .int (sbyte (T.getD a 0))]) rfl ?_
  refine Wp.if2 rfl (fun c5 => absurd c5 (fun z => z te)) (fun c5 => ?_)
  refine Wp.seg 7 (pc1 := 11) (ls1 := [some (.ref 29), some (.int (Int32.ofNat i)), some (.int (Int32.ofNat j)), some (.int (Int32.ofNat m)), some (.int ((Int32.ofNat a) + 1)), some (.int (1)), some (.int ((Int32.ofNat k) + 1)), some (.int (Int32.ofNat cb))]) (st1 := []) rfl ?_
  exact hQ
set_option maxHeartbeats 4000000 in
theorem t_nf5 {d : Nat} {Q : KO → Prop} {h : KH} (hw : WF h) (nm : NM h) {i j m a k : Nat} {z : Option Value} {T : List Nat} (hT : T.length ≤ 200) (hb : ∀ b ∈ T, b < 256) (hf : h.2.2.1 29 1 = Int32.ofNat T.length) (ht : ∀ i, i < T.length → h.2.2.1 30 i = sbyte (T.getD i 0)) {cb : Nat} (hk : k < 93) (c8 : cb < 128) (hc : h.2.2.1 1000000002 k = Int32.ofNat cb) (ge : ¬ (93 : Int32) ≤ Int32.ofNat k) (e32 : Int32.ofNat cb = 32) (hd : 5 ≤ d) (hQ : Wp d 57 11 ([some (.ref 29), some (.int (Int32.ofNat i)), some (.int (Int32.ofNat j)), some (.int ((Int32.ofNat m) + 1)), some (.int (Int32.ofNat i)), some (.int (1)), some (.int ((Int32.ofNat k) + 1)), some (.int (Int32.ofNat cb))]) [] h Q) : Wp d 57 11 [some (.ref 29), some (.int (Int32.ofNat i)), some (.int (Int32.ofNat j)), some (.int (Int32.ofNat m)), some (.int (Int32.ofNat a)), some (.int (0)), some (.int (Int32.ofNat k)), z] [] h Q := by
  refine Wp.seg 2 (pc1 := 15) (ls1 := [some (.ref 29), some (.int (Int32.ofNat i)), some (.int (Int32.ofNat j)), some (.int (Int32.ofNat m)), some (.int (Int32.ofNat a)), some (.int (0)), some (.int (Int32.ofNat k)), z]) (st1 := [.ref 1000000001, .int (Int32.ofNat k)]) rfl ?_
  refine Wp.invV (d2 := 1) (as := [.ref 1000000001]) (r := [.int (Int32.ofNat k)]) (t := (31, 0)) rfl rfl rfl rfl hw.2.2.2.2.1 rfl rfl ⟨rfl, rfl⟩ (by omega) (s_len hw nm (Nat.le_refl _) ?_)
  show Wp d 57 18 [some (.ref 29), some (.int (Int32.ofNat i)), some (.int (Int32.ofNat j)), some (.int (Int32.ofNat m)), some (.int (Int32.ofNat a)), some (.int (0)), some (.int (Int32.ofNat k)), z] [.int (93), .int (Int32.ofNat k)] h Q
  refine Wp.if2 rfl (fun c1 => absurd c1 (ge)) (fun c1 => ?_)
  refine Wp.seg 2 (pc1 := 25) (ls1 := [some (.ref 29), some (.int (Int32.ofNat i)), some (.int (Int32.ofNat j)), some (.int (Int32.ofNat m)), some (.int (Int32.ofNat a)), some (.int (0)), some (.int (Int32.ofNat k)), z]) (st1 := [.int (Int32.ofNat k), .ref 1000000001]) rfl ?_
  refine Wp.invV (d2 := 4) (as := [.ref 1000000001, .int (Int32.ofNat k)]) (r := []) (t := (31, 0)) rfl rfl rfl rfl hw.2.2.2.2.1 rfl rfl ⟨rfl, rfl⟩ (by omega) (t_chA hw nm hk c8 hc (Nat.le_refl _) ?_)
  show Wp d 57 28 [some (.ref 29), some (.int (Int32.ofNat i)), some (.int (Int32.ofNat j)), some (.int (Int32.ofNat m)), some (.int (Int32.ofNat a)), some (.int (0)), some (.int (Int32.ofNat k)), z] [.int (Int32.ofNat cb)] h Q
  refine Wp.seg 3 (pc1 := 34) (ls1 := [some (.ref 29), some (.int (Int32.ofNat i)), some (.int (Int32.ofNat j)), some (.int (Int32.ofNat m)), some (.int (Int32.ofNat a)), some (.int (0)), some (.int (Int32.ofNat k)), some (.int (Int32.ofNat cb))]) (st1 := [.int (32), .int (Int32.ofNat cb)]) rfl ?_
  refine Wp.if2 rfl (fun c2 => ?_) (fun c2 => absurd (e32) c2)
  refine Wp.seg 1 (pc1 := 75) (ls1 := [some (.ref 29), some (.int (Int32.ofNat i)), some (.int (Int32.ofNat j)), some (.int (Int32.ofNat m)), some (.int (Int32.ofNat a)), some (.int (0)), some (.int (Int32.ofNat k)), some (.int (Int32.ofNat cb))]) (st1 := [.int (0)]) rfl ?_
  refine Wp.if1 rfl (fun c3 => ?_) (fun c3 => absurd (show (0 : Int32) = 0 by decide) c3)
  refine Wp.seg 7 (pc1 := 11) (ls1 := [some (.ref 29), some (.int (Int32.ofNat i)), some (.int (Int32.ofNat j)), some (.int ((Int32.ofNat m) + 1)), some (.int (Int32.ofNat i)), some (.int (1)), some (.int ((Int32.ofNat k) + 1)), some (.int (Int32.ofNat cb))]) (st1 := []) rfl ?_
  exact hQ
set_option maxHeartbeats 4000000 in
theorem t_nf6 {d : Nat} {Q : KO → Prop} {h : KH} (hw : WF h) (nm : NM h) {i j m a k : Nat} {z : Option Value} {T : List Nat} (hT : T.length ≤ 200) (hb : ∀ b ∈ T, b < 256) (hf : h.2.2.1 29 1 = Int32.ofNat T.length) (ht : ∀ i, i < T.length → h.2.2.1 30 i = sbyte (T.getD i 0)) {cb : Nat} (hk : k < 93) (c8 : cb < 128) (hc : h.2.2.1 1000000002 k = Int32.ofNat cb) (ge : ¬ (93 : Int32) ≤ Int32.ofNat k) (e32 : Int32.ofNat cb = 32) (ae : ¬ Int32.ofNat a = Int32.ofNat j) (hd : 5 ≤ d) (hQ : Wp d 57 11 ([some (.ref 29), some (.int (Int32.ofNat i)), some (.int (Int32.ofNat j)), some (.int ((Int32.ofNat m) + 1)), some (.int (Int32.ofNat i)), some (.int (1)), some (.int ((Int32.ofNat k) + 1)), some (.int (Int32.ofNat cb))]) [] h Q) : Wp d 57 11 [some (.ref 29), some (.int (Int32.ofNat i)), some (.int (Int32.ofNat j)), some (.int (Int32.ofNat m)), some (.int (Int32.ofNat a)), some (.int (1)), some (.int (Int32.ofNat k)), z] [] h Q := by
  refine Wp.seg 2 (pc1 := 15) (ls1 := [some (.ref 29), some (.int (Int32.ofNat i)), some (.int (Int32.ofNat j)), some (.int (Int32.ofNat m)), some (.int (Int32.ofNat a)), some (.int (1)), some (.int (Int32.ofNat k)), z]) (st1 := [.ref 1000000001, .int (Int32.ofNat k)]) rfl ?_
  refine Wp.invV (d2 := 1) (as := [.ref 1000000001]) (r := [.int (Int32.ofNat k)]) (t := (31, 0)) rfl rfl rfl rfl hw.2.2.2.2.1 rfl rfl ⟨rfl, rfl⟩ (by omega) (s_len hw nm (Nat.le_refl _) ?_)
  show Wp d 57 18 [some (.ref 29), some (.int (Int32.ofNat i)), some (.int (Int32.ofNat j)), some (.int (Int32.ofNat m)), some (.int (Int32.ofNat a)), some (.int (1)), some (.int (Int32.ofNat k)), z] [.int (93), .int (Int32.ofNat k)] h Q
  refine Wp.if2 rfl (fun c1 => absurd c1 (ge)) (fun c1 => ?_)
  refine Wp.seg 2 (pc1 := 25) (ls1 := [some (.ref 29), some (.int (Int32.ofNat i)), some (.int (Int32.ofNat j)), some (.int (Int32.ofNat m)), some (.int (Int32.ofNat a)), some (.int (1)), some (.int (Int32.ofNat k)), z]) (st1 := [.int (Int32.ofNat k), .ref 1000000001]) rfl ?_
  refine Wp.invV (d2 := 4) (as := [.ref 1000000001, .int (Int32.ofNat k)]) (r := []) (t := (31, 0)) rfl rfl rfl rfl hw.2.2.2.2.1 rfl rfl ⟨rfl, rfl⟩ (by omega) (t_chA hw nm hk c8 hc (Nat.le_refl _) ?_)
  show Wp d 57 28 [some (.ref 29), some (.int (Int32.ofNat i)), some (.int (Int32.ofNat j)), some (.int (Int32.ofNat m)), some (.int (Int32.ofNat a)), some (.int (1)), some (.int (Int32.ofNat k)), z] [.int (Int32.ofNat cb)] h Q
  refine Wp.seg 3 (pc1 := 34) (ls1 := [some (.ref 29), some (.int (Int32.ofNat i)), some (.int (Int32.ofNat j)), some (.int (Int32.ofNat m)), some (.int (Int32.ofNat a)), some (.int (1)), some (.int (Int32.ofNat k)), some (.int (Int32.ofNat cb))]) (st1 := [.int (32), .int (Int32.ofNat cb)]) rfl ?_
  refine Wp.if2 rfl (fun c2 => ?_) (fun c2 => absurd (e32) c2)
  refine Wp.seg 1 (pc1 := 75) (ls1 := [some (.ref 29), some (.int (Int32.ofNat i)), some (.int (Int32.ofNat j)), some (.int (Int32.ofNat m)), some (.int (Int32.ofNat a)), some (.int (1)), some (.int (Int32.ofNat k)), some (.int (Int32.ofNat cb))]) (st1 := [.int (1)]) rfl ?_
  refine Wp.if1 rfl (fun c3 => absurd c3 (show ¬ ((1 : Int32) = 0) by decide)) (fun c3 => ?_)
  refine Wp.seg 2 (pc1 := 81) (ls1 := [some (.ref 29), some (.int (Int32.ofNat i)), some (.int (Int32.ofNat j)), some (.int (Int32.ofNat m)), some (.int (Int32.ofNat a)), some (.int (1)), some (.int (Int32.ofNat k)), some (.int (Int32.ofNat cb))]) (st1 := [.int (Int32.ofNat j), .int (Int32.ofNat a)]) rfl ?_
  refine Wp.if2 rfl (fun c4 => ?_) (fun c4 => absurd (ae) c4)
  refine Wp.seg 7 (pc1 := 11) (ls1 := [some (.ref 29), some (.int (Int32.ofNat i)), some (.int (Int32.ofNat j)), some (.int ((Int32.ofNat m) + 1)), some (.int (Int32.ofNat i)), some (.int (1)), some (.int ((Int32.ofNat k) + 1)), some (.int (Int32.ofNat cb))]) (st1 := []) rfl ?_
  exact hQ
set_option maxHeartbeats 4000000 in
theorem t_nf7 {d : Nat} {Q : KO → Prop} {h : KH} (hw : WF h) (nm : NM h) {i j m a k : Nat} {z : Option Value} {T : List Nat} (hT : T.length ≤ 200) (hb : ∀ b ∈ T, b < 256) (hf : h.2.2.1 29 1 = Int32.ofNat T.length) (ht : ∀ i, i < T.length → h.2.2.1 30 i = sbyte (T.getD i 0)) {cb : Nat} (hk : k < 93) (c8 : cb < 128) (hc : h.2.2.1 1000000002 k = Int32.ofNat cb) (ge : ¬ (93 : Int32) ≤ Int32.ofNat k) (e32 : Int32.ofNat cb = 32) (ae : Int32.ofNat a = Int32.ofNat j) (hd : 5 ≤ d) (hQ : Q (some (.int (Int32.ofNat m)), h)) : Wp d 57 11 [some (.ref 29), some (.int (Int32.ofNat i)), some (.int (Int32.ofNat j)), some (.int (Int32.ofNat m)), some (.int (Int32.ofNat a)), some (.int (1)), some (.int (Int32.ofNat k)), z] [] h Q := by
  refine Wp.seg 2 (pc1 := 15) (ls1 := [some (.ref 29), some (.int (Int32.ofNat i)), some (.int (Int32.ofNat j)), some (.int (Int32.ofNat m)), some (.int (Int32.ofNat a)), some (.int (1)), some (.int (Int32.ofNat k)), z]) (st1 := [.ref 1000000001, .int (Int32.ofNat k)]) rfl ?_
  refine Wp.invV (d2 := 1) (as := [.ref 1000000001]) (r := [.int (Int32.ofNat k)]) (t := (31, 0)) rfl rfl rfl rfl hw.2.2.2.2.1 rfl rfl ⟨rfl, rfl⟩ (by omega) (s_len hw nm (Nat.le_refl _) ?_)
  show Wp d 57 18 [some (.ref 29), some (.int (Int32.ofNat i)), some (.int (Int32.ofNat j)), some (.int (Int32.ofNat m)), some (.int (Int32.ofNat a)), some (.int (1)), some (.int (Int32.ofNat k)), z] [.int (93), .int (Int32.ofNat k)] h Q
  refine Wp.if2 rfl (fun c1 => absurd c1 (ge)) (fun c1 => ?_)
  refine Wp.seg 2 (pc1 := 25) (ls1 := [some (.ref 29), some (.int (Int32.ofNat i)), some (.int (Int32.ofNat j)), some (.int (Int32.ofNat m)), some (.int (Int32.ofNat a)), some (.int (1)), some (.int (Int32.ofNat k)), z]) (st1 := [.int (Int32.ofNat k), .ref 1000000001]) rfl ?_
  refine Wp.invV (d2 := 4) (as := [.ref 1000000001, .int (Int32.ofNat k)]) (r := []) (t := (31, 0)) rfl rfl rfl rfl hw.2.2.2.2.1 rfl rfl ⟨rfl, rfl⟩ (by omega) (t_chA hw nm hk c8 hc (Nat.le_refl _) ?_)
  show Wp d 57 28 [some (.ref 29), some (.int (Int32.ofNat i)), some (.int (Int32.ofNat j)), some (.int (Int32.ofNat m)), some (.int (Int32.ofNat a)), some (.int (1)), some (.int (Int32.ofNat k)), z] [.int (Int32.ofNat cb)] h Q
  refine Wp.seg 3 (pc1 := 34) (ls1 := [some (.ref 29), some (.int (Int32.ofNat i)), some (.int (Int32.ofNat j)), some (.int (Int32.ofNat m)), some (.int (Int32.ofNat a)), some (.int (1)), some (.int (Int32.ofNat k)), some (.int (Int32.ofNat cb))]) (st1 := [.int (32), .int (Int32.ofNat cb)]) rfl ?_
  refine Wp.if2 rfl (fun c2 => ?_) (fun c2 => absurd (e32) c2)
  refine Wp.seg 1 (pc1 := 75) (ls1 := [some (.ref 29), some (.int (Int32.ofNat i)), some (.int (Int32.ofNat j)), some (.int (Int32.ofNat m)), some (.int (Int32.ofNat a)), some (.int (1)), some (.int (Int32.ofNat k)), some (.int (Int32.ofNat cb))]) (st1 := [.int (1)]) rfl ?_
  refine Wp.if1 rfl (fun c3 => absurd c3 (show ¬ ((1 : Int32) = 0) by decide)) (fun c3 => ?_)
  refine Wp.seg 2 (pc1 := 81) (ls1 := [some (.ref 29), some (.int (Int32.ofNat i)), some (.int (Int32.ofNat j)), some (.int (Int32.ofNat m)), some (.int (Int32.ofNat a)), some (.int (1)), some (.int (Int32.ofNat k)), some (.int (Int32.ofNat cb))]) (st1 := [.int (Int32.ofNat j), .int (Int32.ofNat a)]) rfl ?_
  refine Wp.if2 rfl (fun c4 => absurd c4 (fun z => z ae)) (fun c4 => ?_)
  refine Wp.seg 1 (pc1 := 85) (ls1 := [some (.ref 29), some (.int (Int32.ofNat i)), some (.int (Int32.ofNat j)), some (.int (Int32.ofNat m)), some (.int (Int32.ofNat a)), some (.int (1)), some (.int (Int32.ofNat k)), some (.int (Int32.ofNat cb))]) (st1 := [.int (Int32.ofNat m)]) rfl ?_
  exact Wp.reti rfl rfl hQ
set_option maxHeartbeats 4000000 in
theorem t_nh0 {d : Nat} {Q : KO → Prop} {h : KH} (hw : WF h) {p : Nat} (hp : h.2.2.1 29 4 = Int32.ofNat p) (hd : 6 ≤ d) (hQ : Wp d 55 5 ([some (.ref 29), some (.int (Int32.ofNat p))]) [] h Q) : Cl d 55 [.ref 29] h Q := by
  refine Cl.of (ls := [some (.ref 29), none]) rfl rfl ?_
  refine Wp.seg 1 (pc1 := 1) (ls1 := [some (.ref 29), none]) (st1 := [.ref 29]) rfl ?_
  refine Wp.gi (t := (6, 0)) rfl (WF.t hw 29 rfl) (Or.inl rfl) ?_
  rw [show h.2.2.1 29 4 = Int32.ofNat p from hp]
  refine Wp.seg 1 (pc1 := 5) (ls1 := [some (.ref 29), some (.int (Int32.ofNat p))]) (st1 := []) rfl ?_
  exact hQ
set_option maxHeartbeats 4000000 in
theorem t_nhE {d : Nat} {Q : KO → Prop} {h : KH} (hw : WF h) {T : List Nat} (hT : T.length ≤ 200) (hb : ∀ b ∈ T, b < 256) (hf : h.2.2.1 29 1 = Int32.ofNat T.length) (ht : ∀ i, i < T.length → h.2.2.1 30 i = sbyte (T.getD i 0)) {p : Nat} (hp : h.2.2.1 29 4 = Int32.ofNat p) {i : Nat} (ge : Int32.ofNat T.length ≤ Int32.ofNat p) (hd : 6 ≤ d) (hQ : Wp d 55 44 ([some (.ref 29), some (.int (Int32.ofNat i))]) [] h Q) : Wp d 55 5 [some (.ref 29), some (.int (Int32.ofNat i))] [] h Q := by
  refine Wp.seg 1 (pc1 := 6) (ls1 := [some (.ref 29), some (.int (Int32.ofNat i))]) (st1 := [.ref 29]) rfl ?_
  refine Wp.gi (t := (6, 0)) rfl (WF.t hw 29 rfl) (Or.inl rfl) ?_
  rw [show h.2.2.1 29 4 = Int32.ofNat p from hp]
  refine Wp.seg 1 (pc1 := 10) (ls1 := [some (.ref 29), some (.int (Int32.ofNat i))]) (st1 := [.ref 29, .int (Int32.ofNat p)]) rfl ?_
  refine Wp.gi (t := (6, 0)) rfl (WF.t hw 29 rfl) (Or.inl rfl) ?_
  rw [show h.2.2.1 29 1 = Int32.ofNat T.length from hf]
  refine Wp.if2 rfl (fun c1 => ?_) (fun c1 => absurd (ge) c1)
  exact hQ
set_option maxHeartbeats 4000000 in
theorem t_nhN {d : Nat} {Q : KO → Prop} {h : KH} (hw : WF h) {T : List Nat} (hT : T.length ≤ 200) (hb : ∀ b ∈ T, b < 256) (hf : h.2.2.1 29 1 = Int32.ofNat T.length) (ht : ∀ i, i < T.length → h.2.2.1 30 i = sbyte (T.getD i 0)) {p : Nat} (hp : h.2.2.1 29 4 = Int32.ofNat p) {i : Nat} (ge : ¬ Int32.ofNat T.length ≤ Int32.ofNat p) (pl : p < T.length) (q : isLt (T.getD p 0) = false) (hd : 6 ≤ d) (hQ : Wp d 55 44 ([some (.ref 29), some (.int (Int32.ofNat i))]) [] h Q) : Wp d 55 5 [some (.ref 29), some (.int (Int32.ofNat i))] [] h Q := by
  refine Wp.seg 1 (pc1 := 6) (ls1 := [some (.ref 29), some (.int (Int32.ofNat i))]) (st1 := [.ref 29]) rfl ?_
  refine Wp.gi (t := (6, 0)) rfl (WF.t hw 29 rfl) (Or.inl rfl) ?_
  rw [show h.2.2.1 29 4 = Int32.ofNat p from hp]
  refine Wp.seg 1 (pc1 := 10) (ls1 := [some (.ref 29), some (.int (Int32.ofNat i))]) (st1 := [.ref 29, .int (Int32.ofNat p)]) rfl ?_
  refine Wp.gi (t := (6, 0)) rfl (WF.t hw 29 rfl) (Or.inl rfl) ?_
  rw [show h.2.2.1 29 1 = Int32.ofNat T.length from hf]
  refine Wp.if2 rfl (fun c1 => absurd c1 (ge)) (fun c1 => ?_)
  refine Wp.seg 1 (pc1 := 17) (ls1 := [some (.ref 29), some (.int (Int32.ofNat i))]) (st1 := [.ref 29]) rfl ?_
  refine Wp.gr (t := (6, 0)) (v := some (30)) rfl (WF.t hw 29 rfl) rfl (WF.r hw 29 0 37 rfl) ?_
  show Wp d 55 20 [some (.ref 29), some (.int (Int32.ofNat i))] [.ref 30] h Q
  refine Wp.seg 1 (pc1 := 21) (ls1 := [some (.ref 29), some (.int (Int32.ofNat i))]) (st1 := [.ref 29, .ref 30]) rfl ?_
  refine Wp.gi (t := (6, 0)) rfl (WF.t hw 29 rfl) (Or.inl rfl) ?_
  rw [show h.2.2.1 29 4 = Int32.ofNat p from hp]
  refine Wp.bald (j := p) (k := 21) (n := 200) rfl (WF.t hw 30 rfl) rfl rfl (by omega) (by decide) ?_
  rw [show h.2.2.1 30 p = sbyte (T.getD p 0) from ht p (by omega)]
  refine Wp.inv (d2 := 0) (as := [.int (sbyte (T.getD p 0))]) (r := []) rfl rfl rfl rfl rfl rfl (by omega) (s_b58 (tb_lt hb _) ?_)
  show Wp d 55 28 [some (.ref 29), some (.int (Int32.ofNat i))] [.int (b32 (isLt (T.getD p 0)))] h Q
  refine Wp.ifz rfl (fun c2 => ?_) (fun c2 => absurd (c2.symm.trans (q)) (by decide))
  exact hQ
set_option maxHeartbeats 4000000 in
theorem t_nhY {d : Nat} {Q : KO → Prop} {h : KH} (hw : WF h) {T : List Nat} (hT : T.length ≤ 200) (hb : ∀ b ∈ T, b < 256) (hf : h.2.2.1 29 1 = Int32.ofNat T.length) (ht : ∀ i, i < T.length → h.2.2.1 30 i = sbyte (T.getD i 0)) {p : Nat} (hp : h.2.2.1 29 4 = Int32.ofNat p) {i : Nat} (ge : ¬ Int32.ofNat T.length ≤ Int32.ofNat p) (pl : p < T.length) (q : isLt (T.getD p 0) = true) (hd : 6 ≤ d) (hQ : Wp d 55 5 ([some (.ref 29), some (.int (Int32.ofNat i))]) [] (kwi h 29 4 ((Int32.ofNat p) + (1 : Int32))) Q) : Wp d 55 5 [some (.ref 29), some (.int (Int32.ofNat i))] [] h Q := by
  refine Wp.seg 1 (pc1 := 6) (ls1 := [some (.ref 29), some (.int (Int32.ofNat i))]) (st1 := [.ref 29]) rfl ?_
  refine Wp.gi (t := (6, 0)) rfl (WF.t hw 29 rfl) (Or.inl rfl) ?_
  rw [show h.2.2.1 29 4 = Int32.ofNat p from hp]
  refine Wp.seg 1 (pc1 := 10) (ls1 := [some (.ref 29), some (.int (Int32.ofNat i))]) (st1 := [.ref 29, .int (Int32.ofNat p)]) rfl ?_
  refine Wp.gi (t := (6, 0)) rfl (WF.t hw 29 rfl) (Or.inl rfl) ?_
  rw [show h.2.2.1 29 1 = Int32.ofNat T.length from hf]
  refine Wp.if2 rfl (fun c1 => absurd c1 (ge)) (fun c1 => ?_)
  refine Wp.seg 1 (pc1 := 17) (ls1 := [some (.ref 29), some (.int (Int32.ofNat i))]) (st1 := [.ref 29]) rfl ?_
  refine Wp.gr (t := (6, 0)) (v := some (30)) rfl (WF.t hw 29 rfl) rfl (WF.r hw 29 0 37 rfl) ?_
  show Wp d 55 20 [some (.ref 29), some (.int (Int32.ofNat i))] [.ref 30] h Q
  refine Wp.seg 1 (pc1 := 21) (ls1 := [some (.ref 29), some (.int (Int32.ofNat i))]) (st1 := [.ref 29, .ref 30]) rfl ?_
  refine Wp.gi (t := (6, 0)) rfl (WF.t hw 29 rfl) (Or.inl rfl) ?_
  rw [show h.2.2.1 29 4 = Int32.ofNat p from hp]
  refine Wp.bald (j := p) (k := 21) (n := 200) rfl (WF.t hw 30 rfl) rfl rfl (by omega) (by decide) ?_
  rw [show h.2.2.1 30 p = sbyte (T.getD p 0) from ht p (by omega)]
  refine Wp.inv (d2 := 0) (as := [.int (sbyte (T.getD p 0))]) (r := []) rfl rfl rfl rfl rfl rfl (by omega) (s_b58 (tb_lt hb _) ?_)
  show Wp d 55 28 [some (.ref 29), some (.int (Int32.ofNat i))] [.int (b32 (isLt (T.getD p 0)))] h Q
  refine Wp.ifz rfl (fun c2 => absurd (c2.symm.trans (q)) (by decide)) (fun c2 => ?_)
  refine Wp.seg 2 (pc1 := 33) (ls1 := [some (.ref 29), some (.int (Int32.ofNat i))]) (st1 := [.ref 29, .ref 29]) rfl ?_
  refine Wp.gi (t := (6, 0)) rfl (WF.t hw 29 rfl) (Or.inl rfl) ?_
  rw [show h.2.2.1 29 4 = Int32.ofNat p from hp]
  refine Wp.seg 2 (pc1 := 38) (ls1 := [some (.ref 29), some (.int (Int32.ofNat i))]) (st1 := [.int ((Int32.ofNat p) + (1 : Int32)), .ref 29]) rfl ?_
  refine Wp.pi (t := (6, 0)) rfl (WF.t hw 29 rfl) (Or.inl rfl) ?_
  refine Wp.seg 1 (pc1 := 5) (ls1 := [some (.ref 29), some (.int (Int32.ofNat i))]) (st1 := []) rfl ?_
  exact hQ
set_option maxHeartbeats 4000000 in
theorem t_uh0 {d : Nat} {Q : KO → Prop} {h : KH} (hw : WF h) {p : Nat} (hp : h.2.2.1 29 4 = Int32.ofNat p) (hd : 6 ≤ d) (hQ : Wp d 56 7 ([some (.ref 29), some (.int (Int32.ofNat p)), some (.int (0))]) [] h Q) : Cl d 56 [.ref 29] h Q := by
  refine Cl.of (ls := [some (.ref 29), none, none]) rfl rfl ?_
  refine Wp.seg 1 (pc1 := 1) (ls1 := [some (.ref 29), none, none]) (st1 := [.ref 29]) rfl ?_
  refine Wp.gi (t := (6, 0)) rfl (WF.t hw 29 rfl) (Or.inl rfl) ?_
  rw [show h.2.2.1 29 4 = Int32.ofNat p from hp]
  refine Wp.seg 3 (pc1 := 7) (ls1 := [some (.ref 29), some (.int (Int32.ofNat p)), some (.int (0))]) (st1 := []) rfl ?_
  exact hQ
set_option maxHeartbeats 4000000 in
theorem t_uhE {d : Nat} {Q : KO → Prop} {h : KH} (hw : WF h) {T : List Nat} (hT : T.length ≤ 200) (hb : ∀ b ∈ T, b < 256) (hf : h.2.2.1 29 1 = Int32.ofNat T.length) (ht : ∀ i, i < T.length → h.2.2.1 30 i = sbyte (T.getD i 0)) {p : Nat} (hp : h.2.2.1 29 4 = Int32.ofNat p) {i : Nat} {z : Int32} (ge : Int32.ofNat T.length ≤ Int32.ofNat p) (hd : 6 ≤ d) (hQ : Wp d 56 64 ([some (.ref 29), some (.int (Int32.ofNat i)), some (.int (z))]) [] h Q) : Wp d 56 7 [some (.ref 29), some (.int (Int32.ofNat i)), some (.int (z))] [] h Q := by
  refine Wp.seg 1 (pc1 := 8) (ls1 := [some (.ref 29), some (.int (Int32.ofNat i)), some (.int (z))]) (st1 := [.ref 29]) rfl ?_
  refine Wp.gi (t := (6, 0)) rfl (WF.t hw 29 rfl) (Or.inl rfl) ?_
  rw [show h.2.2.1 29 4 = Int32.ofNat p from hp]
  refine Wp.seg 1 (pc1 := 12) (ls1 := [some (.ref 29), some (.int (Int32.ofNat i)), some (.int (z))]) (st1 := [.ref 29, .int (Int32.ofNat p)]) rfl ?_
  refine Wp.gi (t := (6, 0)) rfl (WF.t hw 29 rfl) (Or.inl rfl) ?_
  rw [show h.2.2.1 29 1 = Int32.ofNat T.length from hf]
  refine Wp.if2 rfl (fun c1 => ?_) (fun c1 => absurd (ge) c1)
  exact hQ
set_option maxHeartbeats 4000000 in
theorem t_uhN {d : Nat} {Q : KO → Prop} {h : KH} (hw : WF h) {T : List Nat} (hT : T.length ≤ 200) (hb : ∀ b ∈ T, b < 256) (hf : h.2.2.1 29 1 = Int32.ofNat T.length) (ht : ∀ i, i < T.length → h.2.2.1 30 i = sbyte (T.getD i 0)) {p : Nat} (hp : h.2.2.1 29 4 = Int32.ofNat p) {i : Nat} {z : Int32} (ge : ¬ Int32.ofNat T.length ≤ Int32.ofNat p) (pl : p < T.length) (q : isDg (T.getD p 0) = false) (hd : 6 ≤ d) (hQ : Wp d 56 64 ([some (.ref 29), some (.int (Int32.ofNat i)), some (.int (z))]) [] h Q) : Wp d 56 7 [some (.ref 29), some (.int (Int32.ofNat i)), some (.int (z))] [] h Q := by
  refine Wp.seg 1 (pc1 := 8) (ls1 := [some (.ref 29), some (.int (Int32.ofNat i)), some (.int (z))]) (st1 := [.ref 29]) rfl ?_
  refine Wp.gi (t := (6, 0)) rfl (WF.t hw 29 rfl) (Or.inl rfl) ?_
  rw [show h.2.2.1 29 4 = Int32.ofNat p from hp]
  refine Wp.seg 1 (pc1 := 12) (ls1 := [some (.ref 29), some (.int (Int32.ofNat i)), some (.int (z))]) (st1 := [.ref 29, .int (Int32.ofNat p)]) rfl ?_
  refine Wp.gi (t := (6, 0)) rfl (WF.t hw 29 rfl) (Or.inl rfl) ?_
  rw [show h.2.2.1 29 1 = Int32.ofNat T.length from hf]
  refine Wp.if2 rfl (fun c1 => absurd c1 (ge)) (fun c1 => ?_)
  refine Wp.seg 1 (pc1 := 19) (ls1 := [some (.ref 29), some (.int (Int32.ofNat i)), some (.int (z))]) (st1 := [.ref 29]) rfl ?_
  refine Wp.gr (t := (6, 0)) (v := some (30)) rfl (WF.t hw 29 rfl) rfl (WF.r hw 29 0 37 rfl) ?_
  show Wp d 56 22 [some (.ref 29), some (.int (Int32.ofNat i)), some (.int (z))] [.ref 30] h Q
  refine Wp.seg 1 (pc1 := 23) (ls1 := [some (.ref 29), some (.int (Int32.ofNat i)), some (.int (z))]) (st1 := [.ref 29, .ref 30]) rfl ?_
  refine Wp.gi (t := (6, 0)) rfl (WF.t hw 29 rfl) (Or.inl rfl) ?_
  rw [show h.2.2.1 29 4 = Int32.ofNat p from hp]
  refine Wp.bald (j := p) (k := 21) (n := 200) rfl (WF.t hw 30 rfl) rfl rfl (by omega) (by decide) ?_
  rw [show h.2.2.1 30 p = sbyte (T.getD p 0) from ht p (by omega)]
  refine Wp.inv (d2 := 0) (as := [.int (sbyte (T.getD p 0))]) (r := []) rfl rfl rfl rfl rfl rfl (by omega) (s_b59 (tb_lt hb _) ?_)
  show Wp d 56 30 [some (.ref 29), some (.int (Int32.ofNat i)), some (.int (z))] [.int (b32 (isDg (T.getD p 0)))] h Q
  refine Wp.ifz rfl (fun c2 => ?_) (fun c2 => absurd (c2.symm.trans (q)) (by decide))
  exact hQ
set_option maxHeartbeats 4000000 in
theorem t_uhY {d : Nat} {Q : KO → Prop} {h : KH} (hw : WF h) {T : List Nat} (hT : T.length ≤ 200) (hb : ∀ b ∈ T, b < 256) (hf : h.2.2.1 29 1 = Int32.ofNat T.length) (ht : ∀ i, i < T.length → h.2.2.1 30 i = sbyte (T.getD i 0)) {p : Nat} (hp : h.2.2.1 29 4 = Int32.ofNat p) {i : Nat} {z : Int32} (ge : ¬ Int32.ofNat T.length ≤ Int32.ofNat p) (pl : p < T.length) (q : isDg (T.getD p 0) = true) (hd : 6 ≤ d) (hQ : Wp d 56 7 ([some (.ref 29), some (.int (Int32.ofNat i)), some (.int (((z * (10 : Int32)) + (sbyte (T.getD p 0))) - (48 : Int32)))]) [] (kwi h 29 4 ((Int32.ofNat p) + (1 : Int32))) Q) : Wp d 56 7 [some (.ref 29), some (.int (Int32.ofNat i)), some (.int (z))] [] h Q := by
  refine Wp.seg 1 (pc1 := 8) (ls1 := [some (.ref 29), some (.int (Int32.ofNat i)), some (.int (z))]) (st1 := [.ref 29]) rfl ?_
  refine Wp.gi (t := (6, 0)) rfl (WF.t hw 29 rfl) (Or.inl rfl) ?_
  rw [show h.2.2.1 29 4 = Int32.ofNat p from hp]
  refine Wp.seg 1 (pc1 := 12) (ls1 := [some (.ref 29), some (.int (Int32.ofNat i)), some (.int (z))]) (st1 := [.ref 29, .int (Int32.ofNat p)]) rfl ?_
  refine Wp.gi (t := (6, 0)) rfl (WF.t hw 29 rfl) (Or.inl rfl) ?_
  rw [show h.2.2.1 29 1 = Int32.ofNat T.length from hf]
  refine Wp.if2 rfl (fun c1 => absurd c1 (ge)) (fun c1 => ?_)
  refine Wp.seg 1 (pc1 := 19) (ls1 := [some (.ref 29), some (.int (Int32.ofNat i)), some (.int (z))]) (st1 := [.ref 29]) rfl ?_
  refine Wp.gr (t := (6, 0)) (v := some (30)) rfl (WF.t hw 29 rfl) rfl (WF.r hw 29 0 37 rfl) ?_
  show Wp d 56 22 [some (.ref 29), some (.int (Int32.ofNat i)), some (.int (z))] [.ref 30] h Q
  refine Wp.seg 1 (pc1 := 23) (ls1 := [some (.ref 29), some (.int (Int32.ofNat i)), some (.int (z))]) (st1 := [.ref 29, .ref 30]) rfl ?_
  refine Wp.gi (t := (6, 0)) rfl (WF.t hw 29 rfl) (Or.inl rfl) ?_
  rw [show h.2.2.1 29 4 = Int32.ofNat p from hp]
  refine Wp.bald (j := p) (k := 21) (n := 200) rfl (WF.t hw 30 rfl) rfl rfl (by omega) (by decide) ?_
  rw [show h.2.2.1 30 p = sbyte (T.getD p 0) from ht p (by omega)]
  refine Wp.inv (d2 := 0) (as := [.int (sbyte (T.getD p 0))]) (r := []) rfl rfl rfl rfl rfl rfl (by omega) (s_b59 (tb_lt hb _) ?_)
  show Wp d 56 30 [some (.ref 29), some (.int (Int32.ofNat i)), some (.int (z))] [.int (b32 (isDg (T.getD p 0)))] h Q
  refine Wp.ifz rfl (fun c2 => absurd (c2.symm.trans (q)) (by decide)) (fun c2 => ?_)
  refine Wp.seg 4 (pc1 := 38) (ls1 := [some (.ref 29), some (.int (Int32.ofNat i)), some (.int (z))]) (st1 := [.ref 29, .int (z * (10 : Int32))]) rfl ?_
  refine Wp.gr (t := (6, 0)) (v := some (30)) rfl (WF.t hw 29 rfl) rfl (WF.r hw 29 0 37 rfl) ?_
  show Wp d 56 41 [some (.ref 29), some (.int (Int32.ofNat i)), some (.int (z))] [.ref 30, .int (z * (10 : Int32))] h Q
  refine Wp.seg 1 (pc1 := 42) (ls1 := [some (.ref 29), some (.int (Int32.ofNat i)), some (.int (z))]) (st1 := [.ref 29, .ref 30, .int (z * (10 : Int32))]) rfl ?_
  refine Wp.gi (t := (6, 0)) rfl (WF.t hw 29 rfl) (Or.inl rfl) ?_
  rw [show h.2.2.1 29 4 = Int32.ofNat p from hp]
  refine Wp.bald (j := p) (k := 21) (n := 200) rfl (WF.t hw 30 rfl) rfl rfl (by omega) (by decide) ?_
  rw [show h.2.2.1 30 p = sbyte (T.getD p 0) from ht p (by omega)]
  refine Wp.seg 6 (pc1 := 53) (ls1 := [some (.ref 29), some (.int (Int32.ofNat i)), some (.int (((z * (10 : Int32)) + (sbyte (T.getD p 0))) - (48 : Int32)))]) (st1 := [.ref 29, .ref 29]) rfl ?_
  refine Wp.gi (t := (6, 0)) rfl (WF.t hw 29 rfl) (Or.inl rfl) ?_
  rw [show h.2.2.1 29 4 = Int32.ofNat p from hp]
  refine Wp.seg 2 (pc1 := 58) (ls1 := [some (.ref 29), some (.int (Int32.ofNat i)), some (.int (((z * (10 : Int32)) + (sbyte (T.getD p 0))) - (48 : Int32)))]) (st1 := [.int ((Int32.ofNat p) + (1 : Int32)), .ref 29]) rfl ?_
  refine Wp.pi (t := (6, 0)) rfl (WF.t hw 29 rfl) (Or.inl rfl) ?_
  refine Wp.seg 1 (pc1 := 7) (ls1 := [some (.ref 29), some (.int (Int32.ofNat i)), some (.int (((z * (10 : Int32)) + (sbyte (T.getD p 0))) - (48 : Int32)))]) (st1 := []) rfl ?_
  exact hQ
set_option maxHeartbeats 4000000 in
theorem t_uhR {d : Nat} {Q : KO → Prop} {h : KH} (hw : WF h) {p : Nat} (hp : h.2.2.1 29 4 = Int32.ofNat p) {i : Nat} {z : Int32} (d4 : Int32.ofNat p - Int32.ofNat i ≤ 4) (hd : 6 ≤ d) (hQ : Q (some (.int ((100 : Int32) + z)), h)) : Wp d 56 64 [some (.ref 29), some (.int (Int32.ofNat i)), some (.int (z))] [] h Q := by
  refine Wp.seg 1 (pc1 := 65) (ls1 := [some (.ref 29), some (.int (Int32.ofNat i)), some (.int (z))]) (st1 := [.ref 29]) rfl ?_
  refine Wp.gi (t := (6, 0)) rfl (WF.t hw 29 rfl) (Or.inl rfl) ?_
  rw [show h.2.2.1 29 4 = Int32.ofNat p from hp]
  refine Wp.seg 3 (pc1 := 71) (ls1 := [some (.ref 29), some (.int (Int32.ofNat i)), some (.int (z))]) (st1 := [.int (4), .int ((Int32.ofNat p) - (Int32.ofNat i))]) rfl ?_
  refine Wp.if2 rfl (fun c1 => ?_) (fun c1 => absurd (d4) c1)
  refine Wp.seg 3 (pc1 := 83) (ls1 := [some (.ref 29), some (.int (Int32.ofNat i)), some (.int (z))]) (st1 := [.int ((100 : Int32) + z)]) rfl ?_
  exact Wp.reti rfl rfl hQ
set_option maxHeartbeats 4000000 in
theorem t_uhX {d : Nat} {Q : KO → Prop} {h : KH} (hw : WF h) {p : Nat} (hp : h.2.2.1 29 4 = Int32.ofNat p) {i : Nat} {z : Int32} (d4 : ¬ Int32.ofNat p - Int32.ofNat i ≤ 4) (hd : 6 ≤ d) (hQ : Q (some (.int (27)), h)) : Wp d 56 64 [some (.ref 29), some (.int (Int32.ofNat i)), some (.int (z))] [] h Q := by
  refine Wp.seg 1 (pc1 := 65) (ls1 := [some (.ref 29), some (.int (Int32.ofNat i)), some (.int (z))]) (st1 := [.ref 29]) rfl ?_
  refine Wp.gi (t := (6, 0)) rfl (WF.t hw 29 rfl) (Or.inl rfl) ?_
  rw [show h.2.2.1 29 4 = Int32.ofNat p from hp]
  refine Wp.seg 3 (pc1 := 71) (ls1 := [some (.ref 29), some (.int (Int32.ofNat i)), some (.int (z))]) (st1 := [.int (4), .int ((Int32.ofNat p) - (Int32.ofNat i))]) rfl ?_
  refine Wp.if2 rfl (fun c1 => absurd c1 (d4)) (fun c1 => ?_)
  refine Wp.seg 2 (pc1 := 83) (ls1 := [some (.ref 29), some (.int (Int32.ofNat i)), some (.int (z))]) (st1 := [.int (27)]) rfl ?_
  exact Wp.reti rfl rfl hQ
set_option maxHeartbeats 4000000 in
theorem t_thA {d : Nat} {Q : KO → Prop} {h : KH} (hw : WF h) {T : List Nat} (hT : T.length ≤ 200) (hb : ∀ b ∈ T, b < 256) (hf : h.2.2.1 29 1 = Int32.ofNat T.length) (ht : ∀ i, i < T.length → h.2.2.1 30 i = sbyte (T.getD i 0)) {p : Nat} (hp : h.2.2.1 29 4 = Int32.ofNat p) (pl : p < T.length) (q : isLt (T.getD p 0) = true) {c : Int32} {x : Nat} (hnh : ∀ Q : KO → Prop, Q (some (.int c), kwi h 29 4 (Int32.ofNat x)) → Cl 6 55 [.ref 29] h Q) (hd : 7 ≤ d) (hQ : Q (some (.int (c)), kwi h 29 4 (Int32.ofNat x))) : Cl d 54 [.ref 29] h Q := by
  refine Cl.of (ls := [some (.ref 29), none]) rfl rfl ?_
  refine Wp.seg 1 (pc1 := 1) (ls1 := [some (.ref 29), none]) (st1 := [.ref 29]) rfl ?_
  refine Wp.gr (t := (6, 0)) (v := some (30)) rfl (WF.t hw 29 rfl) rfl (WF.r hw 29 0 37 rfl) ?_
  show Wp d 54 4 [some (.ref 29), none] [.ref 30] h Q
  refine Wp.seg 1 (pc1 := 5) (ls1 := [some (.ref 29), none]) (st1 := [.ref 29, .ref 30]) rfl ?_
  refine Wp.gi (t := (6, 0)) rfl (WF.t hw 29 rfl) (Or.inl rfl) ?_
  rw [show h.2.2.1 29 4 = Int32.ofNat p from hp]
  refine Wp.bald (j := p) (k := 21) (n := 200) rfl (WF.t hw 30 rfl) rfl rfl (by omega) (by decide) ?_
  rw [show h.2.2.1 30 p = sbyte (T.getD p 0) from ht p (by omega)]
  refine Wp.seg 2 (pc1 := 11) (ls1 := [some (.ref 29), some (.int (sbyte (T.getD p 0)))]) (st1 := [.int (sbyte (T.getD p 0))]) rfl ?_
  refine Wp.inv (d2 := 0) (as := [.int (sbyte (T.getD p 0))]) (r := []) rfl rfl rfl rfl rfl rfl (by omega) (s_b58 (tb_lt hb _) ?_)
  show Wp d 54 14 [some (.ref 29), some (.int (sbyte (T.getD p 0)))] [.int (b32 (isLt (T.getD p 0)))] h Q
  refine Wp.ifz rfl (fun c1 => absurd (c1.symm.trans (q)) (by decide)) (fun c1 => ?_)
  refine Wp.seg 1 (pc1 := 18) (ls1 := [some (.ref 29), some (.int (sbyte (T.getD p 0)))]) (st1 := [.ref 29]) rfl ?_
  refine Wp.invV (d2 := 6) (as := [.ref 29]) (r := []) (t := (6, 0)) rfl rfl rfl rfl (WF.t hw 29 rfl) rfl rfl ⟨rfl, rfl⟩ (by omega) (hnh _ ?_)
  show Wp d 54 21 [some (.ref 29), some (.int (sbyte (T.getD p 0)))] [.int (c)] (kwi h 29 4 (Int32.ofNat x)) Q
  exact Wp.reti rfl rfl hQ
set_option maxHeartbeats 4000000 in
theorem t_thB {d : Nat} {Q : KO → Prop} {h : KH} (hw : WF h) {T : List Nat} (hT : T.length ≤ 200) (hb : ∀ b ∈ T, b < 256) (hf : h.2.2.1 29 1 = Int32.ofNat T.length) (ht : ∀ i, i < T.length → h.2.2.1 30 i = sbyte (T.getD i 0)) {p : Nat} (hp : h.2.2.1 29 4 = Int32.ofNat p) (pl : p < T.length) (q : isLt (T.getD p 0) = false) (q2 : isDg (T.getD p 0) = true) {c : Int32} {x : Nat} (hnh : ∀ Q : KO → Prop, Q (some (.int c), kwi h 29 4 (Int32.ofNat x)) → Cl 6 56 [.ref 29] h Q) (hd : 7 ≤ d) (hQ : Q (some (.int (c)), kwi h 29 4 (Int32.ofNat x))) : Cl d 54 [.ref 29] h Q := by
  refine Cl.of (ls := [some (.ref 29), none]) rfl rfl ?_
  refine Wp.seg 1 (pc1 := 1) (ls1 := [some (.ref 29), none]) (st1 := [.ref 29]) rfl ?_
  refine Wp.gr (t := (6, 0)) (v := some (30)) rfl (WF.t hw 29 rfl) rfl (WF.r hw 29 0 37 rfl) ?_
  show Wp d 54 4 [some (.ref 29), none] [.ref 30] h Q
  refine Wp.seg 1 (pc1 := 5) (ls1 := [some (.ref 29), none]) (st1 := [.ref 29, .ref 30]) rfl ?_
  refine Wp.gi (t := (6, 0)) rfl (WF.t hw 29 rfl) (Or.inl rfl) ?_
  rw [show h.2.2.1 29 4 = Int32.ofNat p from hp]
  refine Wp.bald (j := p) (k := 21) (n := 200) rfl (WF.t hw 30 rfl) rfl rfl (by omega) (by decide) ?_
  rw [show h.2.2.1 30 p = sbyte (T.getD p 0) from ht p (by omega)]
  refine Wp.seg 2 (pc1 := 11) (ls1 := [some (.ref 29), some (.int (sbyte (T.getD p 0)))]) (st1 := [.int (sbyte (T.getD p 0))]) rfl ?_
  refine Wp.inv (d2 := 0) (as := [.int (sbyte (T.getD p 0))]) (r := []) rfl rfl rfl rfl rfl rfl (by omega) (s_b58 (tb_lt hb _) ?_)
  show Wp d 54 14 [some (.ref 29), some (.int (sbyte (T.getD p 0)))] [.int (b32 (isLt (T.getD p 0)))] h Q
  refine Wp.ifz rfl (fun c1 => ?_) (fun c1 => absurd (c1.symm.trans (q)) (by decide))
  refine Wp.seg 1 (pc1 := 23) (ls1 := [some (.ref 29), some (.int (sbyte (T.getD p 0)))]) (st1 := [.int (sbyte (T.getD p 0))]) rfl ?_
  refine Wp.inv (d2 := 0) (as := [.int (sbyte (T.getD p 0))]) (r := []) rfl rfl rfl rfl rfl rfl (by omega) (s_b59 (tb_lt hb _) ?_)
  show Wp d 54 26 [some (.ref 29), some (.int (sbyte (T.getD p 0)))] [.int (b32 (isDg (T.getD p 0)))] h Q
  refine Wp.ifz rfl (fun c2 => absurd (c2.symm.trans (q2)) (by decide)) (fun c2 => ?_)
  refine Wp.seg 1 (pc1 := 30) (ls1 := [some (.ref 29), some (.int (sbyte (T.getD p 0)))]) (st1 := [.ref 29]) rfl ?_
  refine Wp.invV (d2 := 6) (as := [.ref 29]) (r := []) (t := (6, 0)) rfl rfl rfl rfl (WF.t hw 29 rfl) rfl rfl ⟨rfl, rfl⟩ (by omega) (hnh _ ?_)
  show Wp d 54 33 [some (.ref 29), some (.int (sbyte (T.getD p 0)))] [.int (c)] (kwi h 29 4 (Int32.ofNat x)) Q
  exact Wp.reti rfl rfl hQ
set_option maxHeartbeats 4000000 in
theorem t_thC {d : Nat} {Q : KO → Prop} {h : KH} (hw : WF h) {T : List Nat} (hT : T.length ≤ 200) (hb : ∀ b ∈ T, b < 256) (hf : h.2.2.1 29 1 = Int32.ofNat T.length) (ht : ∀ i, i < T.length → h.2.2.1 30 i = sbyte (T.getD i 0)) {p : Nat} (hp : h.2.2.1 29 4 = Int32.ofNat p) (pl : p < T.length) (q : isLt (T.getD p 0) = false) (q2 : isDg (T.getD p 0) = false) (hd : 7 ≤ d) (hQ : Q (some (.int (Int32.ofNat (sgT (T.getD p 0)))), kwi h 29 4 ((Int32.ofNat p) + (1 : Int32)))) : Cl d 54 [.ref 29] h Q := by
  refine Cl.of (ls := [some (.ref 29), none]) rfl rfl ?_
  refine Wp.seg 1 (pc1 := 1) (ls1 := [some (.ref 29), none]) (st1 := [.ref 29]) rfl ?_
  refine Wp.gr (t := (6, 0)) (v := some (30)) rfl (WF.t hw 29 rfl) rfl (WF.r hw 29 0 37 rfl) ?_
  show Wp d 54 4 [some (.ref 29), none] [.ref 30] h Q
  refine Wp.seg 1 (pc1 := 5) (ls1 := [some (.ref 29), none]) (st1 := [.ref 29, .ref 30]) rfl ?_
  refine Wp.gi (t := (6, 0)) rfl (WF.t hw 29 rfl) (Or.inl rfl) ?_
  rw [show h.2.2.1 29 4 = Int32.ofNat p from hp]
  refine Wp.bald (j := p) (k := 21) (n := 200) rfl (WF.t hw 30 rfl) rfl rfl (by omega) (by decide) ?_
  rw [show h.2.2.1 30 p = sbyte (T.getD p 0) from ht p (by omega)]
  refine Wp.seg 2 (pc1 := 11) (ls1 := [some (.ref 29), some (.int (sbyte (T.getD p 0)))]) (st1 := [.int (sbyte (T.getD p 0))]) rfl ?_
  refine Wp.inv (d2 := 0) (as := [.int (sbyte (T.getD p 0))]) (r := []) rfl rfl rfl rfl rfl rfl (by omega) (s_b58 (tb_lt hb _) ?_)
  show Wp d 54 14 [some (.ref 29), some (.int (sbyte (T.getD p 0)))] [.int (b32 (isLt (T.getD p 0)))] h Q
  refine Wp.ifz rfl (fun c1 => ?_) (fun c1 => absurd (c1.symm.trans (q)) (by decide))
  refine Wp.seg 1 (pc1 := 23) (ls1 := [some (.ref 29), some (.int (sbyte (T.getD p 0)))]) (st1 := [.int (sbyte (T.getD p 0))]) rfl ?_
  refine Wp.inv (d2 := 0) (as := [.int (sbyte (T.getD p 0))]) (r := []) rfl rfl rfl rfl rfl rfl (by omega) (s_b59 (tb_lt hb _) ?_)
  show Wp d 54 26 [some (.ref 29), some (.int (sbyte (T.getD p 0)))] [.int (b32 (isDg (T.getD p 0)))] h Q
  refine Wp.ifz rfl (fun c2 => ?_) (fun c2 => absurd (c2.symm.trans (q2)) (by decide))
  refine Wp.seg 2 (pc1 := 36) (ls1 := [some (.ref 29), some (.int (sbyte (T.getD p 0)))]) (st1 := [.ref 29, .ref 29]) rfl ?_
  refine Wp.gi (t := (6, 0)) rfl (WF.t hw 29 rfl) (Or.inl rfl) ?_
  rw [show h.2.2.1 29 4 = Int32.ofNat p from hp]
  refine Wp.seg 2 (pc1 := 41) (ls1 := [some (.ref 29), some (.int (sbyte (T.getD p 0)))]) (st1 := [.int ((Int32.ofNat p) + (1 : Int32)), .ref 29]) rfl ?_
  refine Wp.pi (t := (6, 0)) rfl (WF.t hw 29 rfl) (Or.inl rfl) ?_
  refine Wp.seg 1 (pc1 := 45) (ls1 := [some (.ref 29), some (.int (sbyte (T.getD p 0)))]) (st1 := [.int (sbyte (T.getD p 0))]) rfl ?_
  refine Wp.inv (d2 := 0) (as := [.int (sbyte (T.getD p 0))]) (r := []) rfl rfl rfl rfl rfl rfl (by omega) (s_b60 (tb_lt hb _) ?_)
  show Wp d 54 48 [some (.ref 29), some (.int (sbyte (T.getD p 0)))] [.int (Int32.ofNat (sgT (T.getD p 0)))] (kwi h 29 4 ((Int32.ofNat p) + (1 : Int32))) Q
  exact Wp.reti rfl rfl hQ
set_option maxHeartbeats 4000000 in
theorem t_nhR {d : Nat} {Q : KO → Prop} {h : KH} (hw : WF h) {p : Nat} (hp : h.2.2.1 29 4 = Int32.ofNat p) {i : Nat} {c : Int32} (hnf : ∀ Q : KO → Prop, Q (some (.int c), h) → Cl 5 57 [.ref 29, .int (Int32.ofNat i), .int (Int32.ofNat p)] h Q) (hd : 6 ≤ d) (hQ : Q (some (.int (c)), h)) : Wp d 55 44 [some (.ref 29), some (.int (Int32.ofNat i))] [] h Q := by
  refine Wp.seg 3 (pc1 := 47) (ls1 := [some (.ref 29), some (.int (Int32.ofNat i))]) (st1 := [.ref 29, .int (Int32.ofNat i), .ref 29]) rfl ?_
  refine Wp.gi (t := (6, 0)) rfl (WF.t hw 29 rfl) (Or.inl rfl) ?_
  rw [show h.2.2.1 29 4 = Int32.ofNat p from hp]
  refine Wp.invV (d2 := 5) (as := [.ref 29, .int (Int32.ofNat i), .int (Int32.ofNat p)]) (r := []) (t := (6, 0)) rfl rfl rfl rfl (WF.t hw 29 rfl) rfl rfl ⟨rfl, rfl⟩ (by omega) (hnf _ ?_)
  show Wp d 55 53 [some (.ref 29), some (.int (Int32.ofNat i))] [.int (c)] h Q
  exact Wp.reti rfl rfl hQ
set_option maxHeartbeats 4000000 in
theorem t_sp0 {d : Nat} {Q : KO → Prop} {h : KH} (hw : WF h) (hd : 8 ≤ d) (hQ : Wp d 53 9 ([some (.ref 29), some (.int (0)), some (.int (0))]) [] (kwi h 29 4 (0 : Int32)) Q) : Cl d 53 [.ref 29] h Q := by
  refine Cl.of (ls := [some (.ref 29), none, none]) rfl rfl ?_
  refine Wp.seg 2 (pc1 := 2) (ls1 := [some (.ref 29), none, none]) (st1 := [.int (0), .ref 29]) rfl ?_
  refine Wp.pi (t := (6, 0)) rfl (WF.t hw 29 rfl) (Or.inl rfl) ?_
  refine Wp.seg 4 (pc1 := 9) (ls1 := [some (.ref 29), some (.int (0)), some (.int (0))]) (st1 := []) rfl ?_
  exact hQ
set_option maxHeartbeats 4000000 in
theorem t_spE {d : Nat} {Q : KO → Prop} {h : KH} (hw : WF h) {T : List Nat} (hT : T.length ≤ 200) (hb : ∀ b ∈ T, b < 256) (hf : h.2.2.1 29 1 = Int32.ofNat T.length) (ht : ∀ i, i < T.length → h.2.2.1 30 i = sbyte (T.getD i 0)) {p : Nat} (hp : h.2.2.1 29 4 = Int32.ofNat p) {q m : Nat} (ge : Int32.ofNat T.length ≤ Int32.ofNat p) (hd : 8 ≤ d) (hQ : ((200 : Int32) ≤ (Int32.ofNat m) → Wp d 53 83 ([some (.ref 29), some (.int (Int32.ofNat q)), some (.int (Int32.ofNat m))]) [] h Q) ∧ (¬ ((200 : Int32) ≤ (Int32.ofNat m)) → Wp d 53 83 ([some (.ref 29), some (.int (Int32.ofNat q)), some (.int (Int32.ofNat m))]) [] h Q)) : Wp d 53 9 [some (.ref 29), some (.int (Int32.ofNat q)), some (.int (Int32.ofNat m))] [] h Q := by
  refine Wp.seg 2 (pc1 := 13) (ls1 := [some (.ref 29), some (.int (Int32.ofNat q)), some (.int (Int32.ofNat m))]) (st1 := [.int (200), .int (Int32.ofNat m)]) rfl ?_
  refine Wp.if2 rfl (fun (c1 : (200 : Int32) ≤ (Int32.ofNat m)) => ?_) (fun (c1 : ¬ ((200 : Int32) ≤ (Int32.ofNat m))) => ?_)
  · exact (hQ.1 c1)
  · refine Wp.seg 1 (pc1 := 17) (ls1 := [some (.ref 29), some (.int (Int32.ofNat q)), some (.int (Int32.ofNat m))]) (st1 := [.ref 29]) rfl ?_
    refine Wp.gi (t := (6, 0)) rfl (WF.t hw 29 rfl) (Or.inl rfl) ?_
    rw [show h.2.2.1 29 4 = Int32.ofNat p from hp]
    refine Wp.seg 1 (pc1 := 21) (ls1 := [some (.ref 29), some (.int (Int32.ofNat q)), some (.int (Int32.ofNat m))]) (st1 := [.ref 29, .int (Int32.ofNat p)]) rfl ?_
    refine Wp.gi (t := (6, 0)) rfl (WF.t hw 29 rfl) (Or.inl rfl) ?_
    rw [show h.2.2.1 29 1 = Int32.ofNat T.length from hf]
    refine Wp.if2 rfl (fun c2 => ?_) (fun c2 => absurd (ge) c2)
    exact (hQ.2 c1)
set_option maxHeartbeats 4000000 in
theorem t_spB {d : Nat} {Q : KO → Prop} {h : KH} (hw : WF h) {T : List Nat} (hT : T.length ≤ 200) (hb : ∀ b ∈ T, b < 256) (hf : h.2.2.1 29 1 = Int32.ofNat T.length) (ht : ∀ i, i < T.length → h.2.2.1 30 i = sbyte (T.getD i 0)) {p : Nat} (hp : h.2.2.1 29 4 = Int32.ofNat p) {q m : Nat} (m2 : ¬ (200 : Int32) ≤ Int32.ofNat m) (ge : ¬ Int32.ofNat T.length ≤ Int32.ofNat p) (pl : p < T.length) (e : sbyte (T.getD p 0) = 32) (hd : 8 ≤ d) (hQ : Wp d 53 9 ([some (.ref 29), some (.int (Int32.ofNat q)), some (.int ((Int32.ofNat m) + 1))]) [] (kwi h 29 4 ((Int32.ofNat p) + (1 : Int32))) Q) : Wp d 53 9 [some (.ref 29), some (.int (Int32.ofNat q)), some (.int (Int32.ofNat m))] [] h Q := by
  refine Wp.seg 2 (pc1 := 13) (ls1 := [some (.ref 29), some (.int (Int32.ofNat q)), some (.int (Int32.ofNat m))]) (st1 := [.int (200), .int (Int32.ofNat m)]) rfl ?_
  refine Wp.if2 rfl (fun c1 => absurd c1 (m2)) (fun c1 => ?_)
  refine Wp.seg 1 (pc1 := 17) (ls1 := [some (.ref 29), some (.int (Int32.ofNat q)), some (.int (Int32.ofNat m))]) (st1 := [.ref 29]) rfl ?_
  refine Wp.gi (t := (6, 0)) rfl (WF.t hw 29 rfl) (Or.inl rfl) ?_
  rw [show h.2.2.1 29 4 = Int32.ofNat p from hp]
  refine Wp.seg 1 (pc1 := 21) (ls1 := [some (.ref 29), some (.int (Int32.ofNat q)), some (.int (Int32.ofNat m))]) (st1 := [.ref 29, .int (Int32.ofNat p)]) rfl ?_
  refine Wp.gi (t := (6, 0)) rfl (WF.t hw 29 rfl) (Or.inl rfl) ?_
  rw [show h.2.2.1 29 1 = Int32.ofNat T.length from hf]
  refine Wp.if2 rfl (fun c2 => absurd c2 (ge)) (fun c2 => ?_)
  refine Wp.seg 1 (pc1 := 28) (ls1 := [some (.ref 29), some (.int (Int32.ofNat q)), some (.int (Int32.ofNat m))]) (st1 := [.ref 29]) rfl ?_
  refine Wp.gr (t := (6, 0)) (v := some (30)) rfl (WF.t hw 29 rfl) rfl (WF.r hw 29 0 37 rfl) ?_
  show Wp d 53 31 [some (.ref 29), some (.int (Int32.ofNat q)), some (.int (Int32.ofNat m))] [.ref 30] h Q
  refine Wp.seg 1 (pc1 := 32) (ls1 := [some (.ref 29), some (.int (Int32.ofNat q)), some (.int (Int32.ofNat m))]) (st1 := [.ref 29, .ref 30]) rfl ?_
  refine Wp.gi (t := (6, 0)) rfl (WF.t hw 29 rfl) (Or.inl rfl) ?_
  rw [show h.2.2.1 29 4 = Int32.ofNat p from hp]
  refine Wp.bald (j := p) (k := 21) (n := 200) rfl (WF.t hw 30 rfl) rfl rfl (by omega) (by decide) ?_
  rw [show h.2.2.1 30 p = sbyte (T.getD p 0) from ht p (by omega)]
  refine Wp.seg 1 (pc1 := 38) (ls1 := [some (.ref 29), some (.int (Int32.ofNat q)), some (.int (Int32.ofNat m))]) (st1 := [.int (32), .int (sbyte (T.getD p 0))]) rfl ?_
  refine Wp.if2 rfl (fun c3 => absurd c3 (fun z => z e)) (fun c3 => ?_)
  refine Wp.seg 2 (pc1 := 43) (ls1 := [some (.ref 29), some (.int (Int32.ofNat q)), some (.int (Int32.ofNat m))]) (st1 := [.ref 29, .ref 29]) rfl ?_
  refine Wp.gi (t := (6, 0)) rfl (WF.t hw 29 rfl) (Or.inl rfl) ?_
  rw [show h.2.2.1 29 4 = Int32.ofNat p from hp]
  refine Wp.seg 2 (pc1 := 48) (ls1 := [some (.ref 29), some (.int (Int32.ofNat q)), some (.int (Int32.ofNat m))]) (st1 := [.int ((Int32.ofNat p) + (1 : Int32)), .ref 29]) rfl ?_
  refine Wp.pi (t := (6, 0)) rfl (WF.t hw 29 rfl) (Or.inl rfl) ?_
  refine Wp.seg 3 (pc1 := 9) (ls1 := [some (.ref 29), some (.int (Int32.ofNat q)), some (.int ((Int32.ofNat m) + 1))]) (st1 := []) rfl ?_
  exact hQ
set_option maxHeartbeats 4000000 in
theorem t_spK {d : Nat} {Q : KO → Prop} {h : KH} (hw : WF h) {T : List Nat} (hT : T.length ≤ 200) (hb : ∀ b ∈ T, b < 256) (hf : h.2.2.1 29 1 = Int32.ofNat T.length) (ht : ∀ i, i < T.length → h.2.2.1 30 i = sbyte (T.getD i 0)) {p : Nat} (hp : h.2.2.1 29 4 = Int32.ofNat p) {q m : Nat} (m2 : ¬ (200 : Int32) ≤ Int32.ofNat m) (ge : ¬ Int32.ofNat T.length ≤ Int32.ofNat p) (pl : p < T.length) (q2 : q < 201) (e : ¬ sbyte (T.getD p 0) = 32) {c : Int32} {x : Nat} (hth : ∀ Q : KO → Prop, Q (some (.int c), kwi (kwi h 32 q (Int32.ofNat p)) 29 4 (Int32.ofNat x)) → Cl 7 54 [.ref 29] (kwi h 32 q (Int32.ofNat p)) Q) (hd : 8 ≤ d) (hQ : Wp d 53 9 ([some (.ref 29), some (.int ((Int32.ofNat q) + 1)), some (.int ((Int32.ofNat m) + 1))]) [] (kwi (kwi (kwi h 32 q (Int32.ofNat p)) 29 4 (Int32.ofNat x)) 31 q c) Q) : Wp d 53 9 [some (.ref 29), some (.int (Int32.ofNat q)), some (.int (Int32.ofNat m))] [] h Q := by
  refine Wp.seg 2 (pc1 := 13) (ls1 := [some (.ref 29), some (.int (Int32.ofNat q)), some (.int (Int32.ofNat m))]) (st1 := [.int (200), .int (Int32.ofNat m)]) rfl ?_
  refine Wp.if2 rfl (fun c1 => absurd c1 (m2)) (fun c1 => ?_)
  refine Wp.seg 1 (pc1 := 17) (ls1 := [some (.ref 29), some (.int (Int32.ofNat q)), some (.int (Int32.ofNat m))]) (st1 := [.ref 29]) rfl ?_
  refine Wp.gi (t := (6, 0)) rfl (WF.t hw 29 rfl) (Or.inl rfl) ?_
  rw [show h.2.2.1 29 4 = Int32.ofNat p from hp]
  refine Wp.seg 1 (pc1 := 21) (ls1 := [some (.ref 29), some (.int (Int32.ofNat q)), some (.int (Int32.ofNat m))]) (st1 := [.ref 29, .int (Int32.ofNat p)]) rfl ?_
  refine Wp.gi (t := (6, 0)) rfl (WF.t hw 29 rfl) (Or.inl rfl) ?_
  rw [show h.2.2.1 29 1 = Int32.ofNat T.length from hf]
  refine Wp.if2 rfl (fun c2 => absurd c2 (ge)) (fun c2 => ?_)
  refine Wp.seg 1 (pc1 := 28) (ls1 := [some (.ref 29), some (.int (Int32.ofNat q)), some (.int (Int32.ofNat m))]) (st1 := [.ref 29]) rfl ?_
  refine Wp.gr (t := (6, 0)) (v := some (30)) rfl (WF.t hw 29 rfl) rfl (WF.r hw 29 0 37 rfl) ?_
  show Wp d 53 31 [some (.ref 29), some (.int (Int32.ofNat q)), some (.int (Int32.ofNat m))] [.ref 30] h Q
  refine Wp.seg 1 (pc1 := 32) (ls1 := [some (.ref 29), some (.int (Int32.ofNat q)), some (.int (Int32.ofNat m))]) (st1 := [.ref 29, .ref 30]) rfl ?_
  refine Wp.gi (t := (6, 0)) rfl (WF.t hw 29 rfl) (Or.inl rfl) ?_
  rw [show h.2.2.1 29 4 = Int32.ofNat p from hp]
  refine Wp.bald (j := p) (k := 21) (n := 200) rfl (WF.t hw 30 rfl) rfl rfl (by omega) (by decide) ?_
  rw [show h.2.2.1 30 p = sbyte (T.getD p 0) from ht p (by omega)]
  refine Wp.seg 1 (pc1 := 38) (ls1 := [some (.ref 29), some (.int (Int32.ofNat q)), some (.int (Int32.ofNat m))]) (st1 := [.int (32), .int (sbyte (T.getD p 0))]) rfl ?_
  refine Wp.if2 rfl (fun c3 => ?_) (fun c3 => absurd (e) c3)
  refine Wp.seg 1 (pc1 := 55) (ls1 := [some (.ref 29), some (.int (Int32.ofNat q)), some (.int (Int32.ofNat m))]) (st1 := [.ref 29]) rfl ?_
  refine Wp.gr (t := (6, 0)) (v := some (32)) rfl (WF.t hw 29 rfl) rfl (WF.r hw 29 3 39 rfl) ?_
  show Wp d 53 58 [some (.ref 29), some (.int (Int32.ofNat q)), some (.int (Int32.ofNat m))] [.ref 32] h Q
  refine Wp.seg 2 (pc1 := 60) (ls1 := [some (.ref 29), some (.int (Int32.ofNat q)), some (.int (Int32.ofNat m))]) (st1 := [.ref 29, .int (Int32.ofNat q), .ref 32]) rfl ?_
  refine Wp.gi (t := (6, 0)) rfl (WF.t hw 29 rfl) (Or.inl rfl) ?_
  rw [show h.2.2.1 29 4 = Int32.ofNat p from hp]
  refine Wp.iast (j := q) (n := 201) rfl (WF.t hw 32 rfl) rfl (by omega) (by decide) ?_
  refine Wp.seg 1 (pc1 := 65) (ls1 := [some (.ref 29), some (.int (Int32.ofNat q)), some (.int (Int32.ofNat m))]) (st1 := [.ref 29]) rfl ?_
  refine Wp.gr (t := (6, 0)) (v := some (31)) rfl (WF.t hw 29 rfl) rfl (WF.r hw 29 2 38 rfl) ?_
  show Wp d 53 68 [some (.ref 29), some (.int (Int32.ofNat q)), some (.int (Int32.ofNat m))] [.ref 31] (kwi h 32 q (Int32.ofNat p)) Q
  refine Wp.seg 2 (pc1 := 70) (ls1 := [some (.ref 29), some (.int (Int32.ofNat q)), some (.int (Int32.ofNat m))]) (st1 := [.ref 29, .int (Int32.ofNat q), .ref 31]) rfl ?_
  refine Wp.invV (d2 := 7) (as := [.ref 29]) (r := [.int (Int32.ofNat q), .ref 31]) (t := (6, 0)) rfl rfl rfl rfl (WF.t hw 29 rfl) rfl rfl ⟨rfl, rfl⟩ (by omega) (hth _ ?_)
  show Wp d 53 73 [some (.ref 29), some (.int (Int32.ofNat q)), some (.int (Int32.ofNat m))] [.int (c), .int (Int32.ofNat q), .ref 31] (kwi (kwi h 32 q (Int32.ofNat p)) 29 4 (Int32.ofNat x)) Q
  refine Wp.iast (j := q) (n := 201) rfl (WF.t hw 31 rfl) rfl (by omega) (by decide) ?_
  refine Wp.seg 3 (pc1 := 9) (ls1 := [some (.ref 29), some (.int ((Int32.ofNat q) + 1)), some (.int ((Int32.ofNat m) + 1))]) (st1 := []) rfl ?_
  exact hQ
set_option maxHeartbeats 4000000 in
theorem t_spZ {d : Nat} {Q : KO → Prop} {h : KH} (hw : WF h) {T : List Nat} (hT : T.length ≤ 200) (hb : ∀ b ∈ T, b < 256) (hf : h.2.2.1 29 1 = Int32.ofNat T.length) (ht : ∀ i, i < T.length → h.2.2.1 30 i = sbyte (T.getD i 0)) {q m : Nat} (q2 : q < 201) (hd : 8 ≤ d) (hQ : Wp d 53 111 ([some (.ref 29), some (.int (Int32.ofNat q)), some (.int (Int32.ofNat m))]) [] (kwi (kwi (kwi (kwi h 32 q (Int32.ofNat T.length)) 31 q (26 : Int32)) 29 1 (0 : Int32)) 29 5 (0 : Int32)) Q) : Wp d 53 83 [some (.ref 29), some (.int (Int32.ofNat q)), some (.int (Int32.ofNat m))] [] h Q := by
  refine Wp.seg 1 (pc1 := 84) (ls1 := [some (.ref 29), some (.int (Int32.ofNat q)), some (.int (Int32.ofNat m))]) (st1 := [.ref 29]) rfl ?_
  refine Wp.gr (t := (6, 0)) (v := some (32)) rfl (WF.t hw 29 rfl) rfl (WF.r hw 29 3 39 rfl) ?_
  show Wp d 53 87 [some (.ref 29), some (.int (Int32.ofNat q)), some (.int (Int32.ofNat m))] [.ref 32] h Q
  refine Wp.seg 2 (pc1 := 89) (ls1 := [some (.ref 29), some (.int (Int32.ofNat q)), some (.int (Int32.ofNat m))]) (st1 := [.ref 29, .int (Int32.ofNat q), .ref 32]) rfl ?_
  refine Wp.gi (t := (6, 0)) rfl (WF.t hw 29 rfl) (Or.inl rfl) ?_
  rw [show h.2.2.1 29 1 = Int32.ofNat T.length from hf]
  refine Wp.iast (j := q) (n := 201) rfl (WF.t hw 32 rfl) rfl (by omega) (by decide) ?_
  refine Wp.seg 1 (pc1 := 94) (ls1 := [some (.ref 29), some (.int (Int32.ofNat q)), some (.int (Int32.ofNat m))]) (st1 := [.ref 29]) rfl ?_
  refine Wp.gr (t := (6, 0)) (v := some (31)) rfl (WF.t hw 29 rfl) rfl (WF.r hw 29 2 38 rfl) ?_
  show Wp d 53 97 [some (.ref 29), some (.int (Int32.ofNat q)), some (.int (Int32.ofNat m))] [.ref 31] (kwi h 32 q (Int32.ofNat T.length)) Q
  refine Wp.seg 2 (pc1 := 100) (ls1 := [some (.ref 29), some (.int (Int32.ofNat q)), some (.int (Int32.ofNat m))]) (st1 := [.int (26), .int (Int32.ofNat q), .ref 31]) rfl ?_
  refine Wp.iast (j := q) (n := 201) rfl (WF.t hw 31 rfl) rfl (by omega) (by decide) ?_
  refine Wp.seg 2 (pc1 := 103) (ls1 := [some (.ref 29), some (.int (Int32.ofNat q)), some (.int (Int32.ofNat m))]) (st1 := [.int (0), .ref 29]) rfl ?_
  refine Wp.pi (t := (6, 0)) rfl (WF.t hw 29 rfl) (Or.inl rfl) ?_
  refine Wp.seg 2 (pc1 := 108) (ls1 := [some (.ref 29), some (.int (Int32.ofNat q)), some (.int (Int32.ofNat m))]) (st1 := [.int (0), .ref 29]) rfl ?_
  refine Wp.pi (t := (6, 0)) rfl (WF.t hw 29 rfl) (Or.inl rfl) ?_
  exact hQ
set_option maxHeartbeats 4000000 in
theorem t_spY {d : Nat} {Q : KO → Prop} {h : KH} (hw : WF h) {q m : Nat} {c : Int32} (h0 : h.2.2.1 31 0 = c) (hd : 8 ≤ d) (hQ : Q (none, kwi h 29 6 c)) : Wp d 53 111 [some (.ref 29), some (.int (Int32.ofNat q)), some (.int (Int32.ofNat m))] [] h Q := by
  refine Wp.seg 2 (pc1 := 113) (ls1 := [some (.ref 29), some (.int (Int32.ofNat q)), some (.int (Int32.ofNat m))]) (st1 := [.ref 29, .ref 29]) rfl ?_
  refine Wp.gr (t := (6, 0)) (v := some (31)) rfl (WF.t hw 29 rfl) rfl (WF.r hw 29 2 38 rfl) ?_
  show Wp d 53 116 [some (.ref 29), some (.int (Int32.ofNat q)), some (.int (Int32.ofNat m))] [.ref 31, .ref 29] h Q
  refine Wp.seg 1 (pc1 := 117) (ls1 := [some (.ref 29), some (.int (Int32.ofNat q)), some (.int (Int32.ofNat m))]) (st1 := [.int (0), .ref 31, .ref 29]) rfl ?_
  refine Wp.iald (j := 0) (k := 20) (n := 201) rfl (WF.t hw 31 rfl) rfl rfl (by decide) (by decide) ?_
  rw [show h.2.2.1 31 0 = c from h0]
  refine Wp.pi (t := (6, 0)) rfl (WF.t hw 29 rfl) (Or.inl rfl) ?_
  exact Wp.retv rfl rfl hQ
