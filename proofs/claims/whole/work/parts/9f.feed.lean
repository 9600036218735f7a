/-! KM: both sides: feed -/
theorem fd_lo (j : Nat) : (255#64).getLsbD j = decide (j < 8) := by
  rw [BitVec.getLsbD_ofNat, show (255 : Nat) = 2 ^ 8 - 1 from rfl, Nat.testBit_two_pow_sub_one]
  by_cases h : j < 8
  · rw [decide_eq_true h, decide_eq_true (by omega : j < 64)]
    rfl
  · rw [decide_eq_false h, Bool.and_false]
theorem fd_bv (X : BitVec 64) {k : Nat} (hk : k ≤ 56) : ((X.sshiftRight k) &&& 255#64).setWidth 32 = BitVec.ofNat 32 ((X >>> k).toNat % 256) := by
  apply BitVec.eq_of_getLsbD_eq
  intro j hj
  rw [BitVec.getLsbD_setWidth, BitVec.getLsbD_and, fd_lo, BitVec.getLsbD_ofNat, show (256 : Nat) = 2 ^ 8 from rfl, Nat.testBit_mod_two_pow, decide_eq_true hj, BitVec.getLsbD_sshiftRight]
  by_cases h : j < 8
  · rw [decide_eq_true h, Bool.and_true, Bool.true_and, Bool.true_and, Bool.true_and, decide_eq_false (by omega : ¬ (64 ≤ j)), if_pos (by omega), Bool.not_false, Bool.true_and]
    show X.getLsbD (k + j) = (X >>> k).getLsbD j
    rw [BitVec.getLsbD_ushiftRight]
  · rw [decide_eq_false h, Bool.and_false, Bool.and_false, Bool.false_and, Bool.and_false]
theorem fd_b8 (Y : BitVec 64) : (Y.setWidth 32).setWidth 8 = (BitVec.ofNat 32 (Y.toNat % 256)).setWidth 8 := by
  apply BitVec.eq_of_toNat_eq
  simp only [BitVec.toNat_setWidth, BitVec.toNat_ofNat]
  omega
def fdB (x : Int64) (i : Nat) : Nat := (x.toBitVec >>> (8 * i)).toNat % 256
theorem fd8 {i : Nat} (h : i < 8) : i = 0 ∨ i = 1 ∨ i = 2 ∨ i = 3 ∨ i = 4 ∨ i = 5 ∨ i = 6 ∨ i = 7 := by omega
theorem fd_u (x : Int64) {i : Nat} (hi : i < 8) : (klushr x ((8 : Int32) * Int32.ofNat i)).toBitVec = x.toBitVec >>> (8 * i) := by
  rcases fd8 hi with rfl | rfl | rfl | rfl | rfl | rfl | rfl | rfl <;> rfl
theorem fd_s (x : Int64) {i : Nat} (hi : i < 8) : (x >>> (((8 : Int32) * Int32.ofNat i).toInt64 &&& 63)).toBitVec = x.toBitVec.sshiftRight (8 * i) := by
  rcases fd8 hi with rfl | rfl | rfl | rfl | rfl | rfl | rfl | rfl <;> rfl
theorem fd_c (x : Int64) {i : Nat} (hi : i < 8) : (klushr x ((8 : Int32) * Int32.ofNat i)).toInt32.toInt8.toInt32 = sbyte (fdB x i) := by
  unfold sbyte fdB
  rw [← fd_u x hi]
  refine congrArg Int8.toInt32 (Int8.toBitVec_inj.mp ?_)
  rw [Int32.toBitVec_toInt8, Int32.toBitVec_toInt8, Int64.toBitVec_toInt32, BitVec.signExtend_eq_setWidth_of_le _ (by decide), BitVec.signExtend_eq_setWidth_of_le _ (by decide), BitVec.signExtend_eq_setWidth_of_le _ (by decide)]
  exact fd_b8 _
theorem fd_m (x : Int64) {i : Nat} (hi : i < 8) : (x >>> (((8 : Int32) * Int32.ofNat i).toInt64 &&& 63) &&& 255).toInt32 = Int32.ofNat (fdB x i) := by
  refine Int32.toBitVec_inj.mp ?_
  rw [Int64.toBitVec_toInt32, BitVec.signExtend_eq_setWidth_of_le _ (by decide)]
  show ((x >>> (((8 : Int32) * Int32.ofNat i).toInt64 &&& 63)).toBitVec &&& 255#64).setWidth 32 = BitVec.ofNat 32 _
  rw [fd_s x hi]
  exact fd_bv _ (by omega)
theorem sbyte_i8 (b : Nat) : (sbyte b).toInt8.toInt32 = sbyte b := by
  unfold sbyte
  rw [Int8.toInt8_toInt32]
set_option maxHeartbeats 4000000 in
theorem t_take {d : Nat} {Q : KO → Prop} {h : KH} (hw : WF h) {t : Nat} {v : Int32} (ht : t < 200) (h29 : h.2.2.1 29 1 = Int32.ofNat t) (c2 : ¬ ((200 : Int32) ≤ Int32.ofNat t)) (hd : 0 ≤ d) (hQ : Q (none, kwi (kwi h 30 t v.toInt8.toInt32) 29 1 ((Int32.ofNat t) + (1 : Int32)))) : Cl d 52 [.ref 29, .int (v)] h Q := by
  refine Cl.of (ls := [some (.ref 29), some (.int (v))]) rfl rfl ?_
  refine Wp.seg 1 (pc1 := 1) (ls1 := [some (.ref 29), some (.int (v))]) (st1 := [.ref 29]) rfl ?_
  refine Wp.gi (t := (6, 0)) rfl (WF.t hw 29 rfl) (Or.inl rfl) ?_
  rw [show h.2.2.1 29 1 = Int32.ofNat t from h29]
  refine Wp.seg 1 (pc1 := 7) (ls1 := [some (.ref 29), some (.int (v))]) (st1 := [.int (200), .int (Int32.ofNat t)]) rfl ?_
  refine Wp.if2 rfl (fun c1 => absurd c1 (c2)) (fun c1 => ?_)
  refine Wp.seg 1 (pc1 := 11) (ls1 := [some (.ref 29), some (.int (v))]) (st1 := [.ref 29]) rfl ?_
  refine Wp.gr (t := (6, 0)) (v := some (30)) rfl (WF.t hw 29 rfl) rfl (WF.r hw 29 0 37 rfl) ?_
  show Wp d 52 14 [some (.ref 29), some (.int (v))] [.ref 30] h Q
  refine Wp.seg 1 (pc1 := 15) (ls1 := [some (.ref 29), some (.int (v))]) (st1 := [.ref 29, .ref 30]) rfl ?_
  refine Wp.gi (t := (6, 0)) rfl (WF.t hw 29 rfl) (Or.inl rfl) ?_
  rw [show h.2.2.1 29 1 = Int32.ofNat t from h29]
  refine Wp.seg 1 (pc1 := 19) (ls1 := [some (.ref 29), some (.int (v))]) (st1 := [.int (v), .int (Int32.ofNat t), .ref 30]) rfl ?_
  refine Wp.bast (j := t) (n := 200) rfl (WF.t hw 30 rfl) rfl ht (by decide) ?_
  refine Wp.seg 2 (pc1 := 22) (ls1 := [some (.ref 29), some (.int (v))]) (st1 := [.ref 29, .ref 29]) rfl ?_
  refine Wp.gi (t := (6, 0)) rfl (WF.t hw 29 rfl) (Or.inl rfl) ?_
  rw [show (kwi h 30 t v.toInt8.toInt32).2.2.1 29 1 = Int32.ofNat t from ((kwi_b (by decide)).trans (rfl)).trans h29]
  refine Wp.seg 2 (pc1 := 27) (ls1 := [some (.ref 29), some (.int (v))]) (st1 := [.int ((Int32.ofNat t) + (1 : Int32)), .ref 29]) rfl ?_
  refine Wp.pi (t := (6, 0)) rfl (WF.t hw 29 rfl) (Or.inl rfl) ?_
  exact Wp.retv rfl rfl hQ
theorem n200 {t : Nat} (h : t < 200) : ¬ ((200 : Int32) ≤ Int32.ofNat t) := fun c => by
  have := i32L (show (200 : Int32).toInt = 200 from rfl) (znat (n := t) (by omega)) c
  omega
set_option maxHeartbeats 4000000 in
theorem t_cfd0 {d : Nat} {Q : KO → Prop} {h : KH} (hw : WF h) {x : Int64} {n : Int32} (hd : 1 ≤ d) (hQ : (n < (1 : Int32) → Q (some (.int (-1)), h)) ∧ (¬ (n < (1 : Int32)) → (n ≤ (8 : Int32) → Wp d 109 13 ([some (.ref 0), some (.long (x)), none, some (.int (n)), none]) [] h Q) ∧ (¬ (n ≤ (8 : Int32)) → Q (some (.int (-1)), h)))) : Cl d 109 [.ref 0, .long (x), .int (n)] h Q := by
  refine Cl.of (ls := [some (.ref 0), some (.long (x)), none, some (.int (n)), none]) rfl rfl ?_
  refine Wp.seg 2 (pc1 := 2) (ls1 := [some (.ref 0), some (.long (x)), none, some (.int (n)), none]) (st1 := [.int (1), .int (n)]) rfl ?_
  refine Wp.if2 rfl (fun (c1 : n < (1 : Int32)) => ?_) (fun (c1 : ¬ (n < (1 : Int32))) => ?_)
  · refine Wp.seg 1 (pc1 := 12) (ls1 := [some (.ref 0), some (.long (x)), none, some (.int (n)), none]) (st1 := [.int (-1)]) rfl ?_
    exact Wp.reti rfl rfl (hQ.1 c1)
  · refine Wp.seg 2 (pc1 := 8) (ls1 := [some (.ref 0), some (.long (x)), none, some (.int (n)), none]) (st1 := [.int (8), .int (n)]) rfl ?_
    refine Wp.if2 rfl (fun (c2 : n ≤ (8 : Int32)) => ?_) (fun (c2 : ¬ (n ≤ (8 : Int32))) => ?_)
    · exact ((hQ.2 c1).1 c2)
    · refine Wp.seg 1 (pc1 := 12) (ls1 := [some (.ref 0), some (.long (x)), none, some (.int (n)), none]) (st1 := [.int (-1)]) rfl ?_
      exact Wp.reti rfl rfl ((hQ.2 c1).2 c2)
set_option maxHeartbeats 4000000 in
theorem t_mfd0 {d : Nat} {Q : KO → Prop} {h : KH} (hw : WF h) {x : Int64} {n : Int32} (q : inB n 1 8 = false) (hd : 1 ≤ d) (hQ : Q (some (.int (-1)), h)) : Cl d 202 [.ref 59, .long (x), .int (n)] h Q := by
  refine Cl.of (ls := [some (.ref 59), some (.long (x)), none, some (.int (n)), none]) rfl rfl ?_
  refine Wp.seg 3 (pc1 := 4) (ls1 := [some (.ref 59), some (.long (x)), none, some (.int (n)), none]) (st1 := [.int (8), .int (1), .int (n)]) rfl ?_
  refine Wp.inv (d2 := 0) (as := [.int (n), .int (1), .int (8)]) (r := []) rfl rfl rfl rfl rfl rfl (by omega) (s_inB (x := 1) (y := 8) rfl rfl ?_)
  show Wp d 202 7 [some (.ref 59), some (.long (x)), none, some (.int (n)), none] [.int (b32 (inB n 1 8))] h Q
  refine Wp.ifnz rfl (fun c1 => absurd (c1.symm.trans (q)) (by decide)) (fun c1 => ?_)
  refine Wp.seg 1 (pc1 := 11) (ls1 := [some (.ref 59), some (.long (x)), none, some (.int (n)), none]) (st1 := [.int (-1)]) rfl ?_
  exact Wp.reti rfl rfl hQ
set_option maxHeartbeats 4000000 in
theorem t_cfd1 {d : Nat} {Q : KO → Prop} {h : KH} (hw : WF h) {x : Int64} {n : Int32} {t : Nat} (h29 : h.2.2.1 29 1 = Int32.ofNat t) (n1 : ¬ (n < 1)) (n8 : n ≤ 8) (o : ¬ (Int32.ofNat t + n ≤ 200)) (hd : 1 ≤ d) (hQ : Q (some (.int (-2)), h)) : Cl d 109 [.ref 0, .long (x), .int (n)] h Q := by
  refine Cl.of (ls := [some (.ref 0), some (.long (x)), none, some (.int (n)), none]) rfl rfl ?_
  refine Wp.seg 2 (pc1 := 2) (ls1 := [some (.ref 0), some (.long (x)), none, some (.int (n)), none]) (st1 := [.int (1), .int (n)]) rfl ?_
  refine Wp.if2 rfl (fun c1 => absurd c1 (n1)) (fun c1 => ?_)
  refine Wp.seg 2 (pc1 := 8) (ls1 := [some (.ref 0), some (.long (x)), none, some (.int (n)), none]) (st1 := [.int (8), .int (n)]) rfl ?_
  refine Wp.if2 rfl (fun c2 => ?_) (fun c2 => absurd (n8) c2)
  refine Wp.seg 1 (pc1 := 14) (ls1 := [some (.ref 0), some (.long (x)), none, some (.int (n)), none]) (st1 := [.ref 0]) rfl ?_
  refine Wp.gr (t := (10, 0)) (v := some (29)) rfl (WF.t hw 0 rfl) rfl (WF.r hw 0 5 4 rfl) ?_
  show Wp d 109 17 [some (.ref 0), some (.long (x)), none, some (.int (n)), none] [.ref 29] h Q
  refine Wp.gi (t := (6, 0)) rfl (WF.t hw 29 rfl) (Or.inl rfl) ?_
  rw [show h.2.2.1 29 1 = Int32.ofNat t from h29]
  refine Wp.seg 3 (pc1 := 25) (ls1 := [some (.ref 0), some (.long (x)), none, some (.int (n)), none]) (st1 := [.int (200), .int ((Int32.ofNat t) + n)]) rfl ?_
  refine Wp.if2 rfl (fun c3 => absurd c3 (o)) (fun c3 => ?_)
  refine Wp.seg 1 (pc1 := 30) (ls1 := [some (.ref 0), some (.long (x)), none, some (.int (n)), none]) (st1 := [.int (-2)]) rfl ?_
  exact Wp.reti rfl rfl hQ
set_option maxHeartbeats 4000000 in
theorem t_mfd1 {d : Nat} {Q : KO → Prop} {h : KH} (hw : WF h) {x : Int64} {n : Int32} {t : Nat} (h5 : h.2.2.1 59 5 = Int32.ofNat t) (q : inB n 1 8 = true) (o : ¬ (Int32.ofNat t + n ≤ 200)) (hd : 1 ≤ d) (hQ : Q (some (.int (-2)), h)) : Cl d 202 [.ref 59, .long (x), .int (n)] h Q := by
  refine Cl.of (ls := [some (.ref 59), some (.long (x)), none, some (.int (n)), none]) rfl rfl ?_
  refine Wp.seg 3 (pc1 := 4) (ls1 := [some (.ref 59), some (.long (x)), none, some (.int (n)), none]) (st1 := [.int (8), .int (1), .int (n)]) rfl ?_
  refine Wp.inv (d2 := 0) (as := [.int (n), .int (1), .int (8)]) (r := []) rfl rfl rfl rfl rfl rfl (by omega) (s_inB (x := 1) (y := 8) rfl rfl ?_)
  show Wp d 202 7 [some (.ref 59), some (.long (x)), none, some (.int (n)), none] [.int (b32 (inB n 1 8))] h Q
  refine Wp.ifnz rfl (fun c1 => ?_) (fun c1 => absurd (c1.symm.trans (q)) (by decide))
  refine Wp.seg 1 (pc1 := 13) (ls1 := [some (.ref 59), some (.long (x)), none, some (.int (n)), none]) (st1 := [.ref 59]) rfl ?_
  refine Wp.gi (t := (11, 0)) rfl (WF.t hw 59 rfl) (Or.inl rfl) ?_
  rw [show h.2.2.1 59 5 = Int32.ofNat t from h5]
  refine Wp.seg 3 (pc1 := 21) (ls1 := [some (.ref 59), some (.long (x)), none, some (.int (n)), none]) (st1 := [.int (200), .int ((Int32.ofNat t) + n)]) rfl ?_
  refine Wp.if2 rfl (fun c2 => absurd c2 (o)) (fun c2 => ?_)
  refine Wp.seg 1 (pc1 := 26) (ls1 := [some (.ref 59), some (.long (x)), none, some (.int (n)), none]) (st1 := [.int (-2)]) rfl ?_
  exact Wp.reti rfl rfl hQ
set_option maxHeartbeats 4000000 in
theorem t_cfd2 {d : Nat} {Q : KO → Prop} {h : KH} (hw : WF h) {x : Int64} {n : Int32} {t : Nat} (h29 : h.2.2.1 29 1 = Int32.ofNat t) (n1 : ¬ (n < 1)) (n8 : n ≤ 8) (o : Int32.ofNat t + n ≤ 200) (hd : 1 ≤ d) (hQ : Wp d 109 34 ([some (.ref 0), some (.long (x)), none, some (.int (n)), some (.int (0))]) [] h Q) : Cl d 109 [.ref 0, .long (x), .int (n)] h Q := by
  refine Cl.of (ls := [some (.ref 0), some (.long (x)), none, some (.int (n)), none]) rfl rfl ?_
  refine Wp.seg 2 (pc1 := 2) (ls1 := [some (.ref 0), some (.long (x)), none, some (.int (n)), none]) (st1 := [.int (1), .int (n)]) rfl ?_
  refine Wp.if2 rfl (fun c1 => absurd c1 (n1)) (fun c1 => ?_)
  refine Wp.seg 2 (pc1 := 8) (ls1 := [some (.ref 0), some (.long (x)), none, some (.int (n)), none]) (st1 := [.int (8), .int (n)]) rfl ?_
  refine Wp.if2 rfl (fun c2 => ?_) (fun c2 => absurd (n8) c2)
  refine Wp.seg 1 (pc1 := 14) (ls1 := [some (.ref 0), some (.long (x)), none, some (.int (n)), none]) (st1 := [.ref 0]) rfl ?_
  refine Wp.gr (t := (10, 0)) (v := some (29)) rfl (WF.t hw 0 rfl) rfl (WF.r hw 0 5 4 rfl) ?_
  show Wp d 109 17 [some (.ref 0), some (.long (x)), none, some (.int (n)), none] [.ref 29] h Q
  refine Wp.gi (t := (6, 0)) rfl (WF.t hw 29 rfl) (Or.inl rfl) ?_
  rw [show h.2.2.1 29 1 = Int32.ofNat t from h29]
  refine Wp.seg 3 (pc1 := 25) (ls1 := [some (.ref 0), some (.long (x)), none, some (.int (n)), none]) (st1 := [.int (200), .int ((Int32.ofNat t) + n)]) rfl ?_
  refine Wp.if2 rfl (fun c3 => ?_) (fun c3 => absurd (o) c3)
  refine Wp.seg 2 (pc1 := 34) (ls1 := [some (.ref 0), some (.long (x)), none, some (.int (n)), some (.int (0))]) (st1 := []) rfl ?_
  exact hQ
set_option maxHeartbeats 4000000 in
theorem t_mfd2 {d : Nat} {Q : KO → Prop} {h : KH} (hw : WF h) {x : Int64} {n : Int32} {t : Nat} (h5 : h.2.2.1 59 5 = Int32.ofNat t) (q : inB n 1 8 = true) (o : Int32.ofNat t + n ≤ 200) (hd : 1 ≤ d) (hQ : Wp d 202 30 ([some (.ref 59), some (.long (x)), none, some (.int (n)), some (.int (0))]) [] h Q) : Cl d 202 [.ref 59, .long (x), .int (n)] h Q := by
  refine Cl.of (ls := [some (.ref 59), some (.long (x)), none, some (.int (n)), none]) rfl rfl ?_
  refine Wp.seg 3 (pc1 := 4) (ls1 := [some (.ref 59), some (.long (x)), none, some (.int (n)), none]) (st1 := [.int (8), .int (1), .int (n)]) rfl ?_
  refine Wp.inv (d2 := 0) (as := [.int (n), .int (1), .int (8)]) (r := []) rfl rfl rfl rfl rfl rfl (by omega) (s_inB (x := 1) (y := 8) rfl rfl ?_)
  show Wp d 202 7 [some (.ref 59), some (.long (x)), none, some (.int (n)), none] [.int (b32 (inB n 1 8))] h Q
  refine Wp.ifnz rfl (fun c1 => ?_) (fun c1 => absurd (c1.symm.trans (q)) (by decide))
  refine Wp.seg 1 (pc1 := 13) (ls1 := [some (.ref 59), some (.long (x)), none, some (.int (n)), none]) (st1 := [.ref 59]) rfl ?_
  refine Wp.gi (t := (11, 0)) rfl (WF.t hw 59 rfl) (Or.inl rfl) ?_
  rw [show h.2.2.1 59 5 = Int32.ofNat t from h5]
  refine Wp.seg 3 (pc1 := 21) (ls1 := [some (.ref 59), some (.long (x)), none, some (.int (n)), none]) (st1 := [.int (200), .int ((Int32.ofNat t) + n)]) rfl ?_
  refine Wp.if2 rfl (fun c2 => ?_) (fun c2 => absurd (o) c2)
  refine Wp.seg 2 (pc1 := 30) (ls1 := [some (.ref 59), some (.long (x)), none, some (.int (n)), some (.int (0))]) (st1 := []) rfl ?_
  exact hQ
set_option maxHeartbeats 4000000 in
theorem t_cfl0 {d : Nat} {Q : KO → Prop} {h : KH} (hw : WF h) {x : Int64} {N i t : Nat} (h29 : h.2.2.1 29 1 = Int32.ofNat t) (ge : Int32.ofNat N ≤ Int32.ofNat i) (hd : 1 ≤ d) (hQ : Q (some (.int (Int32.ofNat t)), h)) : Wp d 109 34 [some (.ref 0), some (.long (x)), none, some (.int (Int32.ofNat N)), some (.int (Int32.ofNat i))] [] h Q := by
  refine Wp.seg 2 (pc1 := 37) (ls1 := [some (.ref 0), some (.long (x)), none, some (.int (Int32.ofNat N)), some (.int (Int32.ofNat i))]) (st1 := [.int (Int32.ofNat N), .int (Int32.ofNat i)]) rfl ?_
  refine Wp.if2 rfl (fun c1 => ?_) (fun c1 => absurd (ge) c1)
  refine Wp.seg 1 (pc1 := 63) (ls1 := [some (.ref 0), some (.long (x)), none, some (.int (Int32.ofNat N)), some (.int (Int32.ofNat i))]) (st1 := [.ref 0]) rfl ?_
  refine Wp.gr (t := (10, 0)) (v := some (29)) rfl (WF.t hw 0 rfl) rfl (WF.r hw 0 5 4 rfl) ?_
  show Wp d 109 66 [some (.ref 0), some (.long (x)), none, some (.int (Int32.ofNat N)), some (.int (Int32.ofNat i))] [.ref 29] h Q
  refine Wp.gi (t := (6, 0)) rfl (WF.t hw 29 rfl) (Or.inl rfl) ?_
  rw [show h.2.2.1 29 1 = Int32.ofNat t from h29]
  exact Wp.reti rfl rfl hQ
set_option maxHeartbeats 4000000 in
theorem t_cfl1 {d : Nat} {Q : KO → Prop} {h : KH} (hw : WF h) {x : Int64} {N i t : Nat} (h29 : h.2.2.1 29 1 = Int32.ofNat t) (ge : ¬ (Int32.ofNat N ≤ Int32.ofNat i)) (ht : t < 200) (hd : 1 ≤ d) (hQ : Wp d 109 34 ([some (.ref 0), some (.long (x)), none, some (.int (Int32.ofNat N)), some (.int ((Int32.ofNat i) + 1))]) [] (kwi (kwi h 30 t (((klushr x ((8 : Int32) * (Int32.ofNat i))).toInt32).toInt8.toInt32).toInt8.toInt32) 29 1 ((Int32.ofNat t) + (1 : Int32))) Q) : Wp d 109 34 [some (.ref 0), some (.long (x)), none, some (.int (Int32.ofNat N)), some (.int (Int32.ofNat i))] [] h Q := by
  refine Wp.seg 2 (pc1 := 37) (ls1 := [some (.ref 0), some (.long (x)), none, some (.int (Int32.ofNat N)), some (.int (Int32.ofNat i))]) (st1 := [.int (Int32.ofNat N), .int (Int32.ofNat i)]) rfl ?_
  refine Wp.if2 rfl (fun c1 => absurd c1 (ge)) (fun c1 => ?_)
  refine Wp.seg 1 (pc1 := 41) (ls1 := [some (.ref 0), some (.long (x)), none, some (.int (Int32.ofNat N)), some (.int (Int32.ofNat i))]) (st1 := [.ref 0]) rfl ?_
  refine Wp.gr (t := (10, 0)) (v := some (29)) rfl (WF.t hw 0 rfl) rfl (WF.r hw 0 5 4 rfl) ?_
  show Wp d 109 44 [some (.ref 0), some (.long (x)), none, some (.int (Int32.ofNat N)), some (.int (Int32.ofNat i))] [.ref 29] h Q
  refine Wp.seg 7 (pc1 := 53) (ls1 := [some (.ref 0), some (.long (x)), none, some (.int (Int32.ofNat N)), some (.int (Int32.ofNat i))]) (st1 := [.int (((klushr x ((8 : Int32) * (Int32.ofNat i))).toInt32).toInt8.toInt32), .ref 29]) rfl ?_
  refine Wp.invV (d2 := 0) (as := [.ref 29, .int (((klushr x ((8 : Int32) * (Int32.ofNat i))).toInt32).toInt8.toInt32)]) (r := []) (t := (6, 0)) rfl rfl rfl rfl (WF.t hw 29 rfl) rfl rfl ⟨rfl, rfl⟩ (by omega) (t_take hw ht h29 (n200 ht) (Nat.zero_le _) ?_)
  show Wp d 109 56 [some (.ref 0), some (.long (x)), none, some (.int (Int32.ofNat N)), some (.int (Int32.ofNat i))] [] (kwi (kwi h 30 t (((klushr x ((8 : Int32) * (Int32.ofNat i))).toInt32).toInt8.toInt32).toInt8.toInt32) 29 1 ((Int32.ofNat t) + (1 : Int32))) Q
  refine Wp.seg 2 (pc1 := 34) (ls1 := [some (.ref 0), some (.long (x)), none, some (.int (Int32.ofNat N)), some (.int ((Int32.ofNat i) + 1))]) (st1 := []) rfl ?_
  exact hQ
set_option maxHeartbeats 4000000 in
theorem t_mfl0 {d : Nat} {Q : KO → Prop} {h : KH} (hw : WF h) {x : Int64} {N i t : Nat} (h5 : h.2.2.1 59 5 = Int32.ofNat t) (ge : Int32.ofNat N ≤ Int32.ofNat i) (hd : 1 ≤ d) (hQ : Q (some (.int (Int32.ofNat t)), h)) : Wp d 202 30 [some (.ref 59), some (.long (x)), none, some (.int (Int32.ofNat N)), some (.int (Int32.ofNat i))] [] h Q := by
  refine Wp.seg 2 (pc1 := 33) (ls1 := [some (.ref 59), some (.long (x)), none, some (.int (Int32.ofNat N)), some (.int (Int32.ofNat i))]) (st1 := [.int (Int32.ofNat N), .int (Int32.ofNat i)]) rfl ?_
  refine Wp.if2 rfl (fun c1 => ?_) (fun c1 => absurd (ge) c1)
  refine Wp.seg 1 (pc1 := 74) (ls1 := [some (.ref 59), some (.long (x)), none, some (.int (Int32.ofNat N)), some (.int (Int32.ofNat i))]) (st1 := [.ref 59]) rfl ?_
  refine Wp.gi (t := (11, 0)) rfl (WF.t hw 59 rfl) (Or.inl rfl) ?_
  rw [show h.2.2.1 59 5 = Int32.ofNat t from h5]
  exact Wp.reti rfl rfl hQ
set_option maxHeartbeats 4000000 in
theorem t_mfl1 {d : Nat} {Q : KO → Prop} {h : KH} (hw : WF h) {x : Int64} {N i t : Nat} (h5 : h.2.2.1 59 5 = Int32.ofNat t) (ge : ¬ (Int32.ofNat N ≤ Int32.ofNat i)) (ht : t < 200) (hd : 1 ≤ d) (hQ : Wp d 202 30 ([some (.ref 59), some (.long (x)), none, some (.int (Int32.ofNat N)), some (.int ((Int32.ofNat i) + 1))]) [] (kwi (kwi h 63 t (((x >>> (((8 : Int32) * (Int32.ofNat i)).toInt64 &&& 63)) &&& (255 : Int64)).toInt32)) 59 5 ((Int32.ofNat t) + (1 : Int32))) Q) : Wp d 202 30 [some (.ref 59), some (.long (x)), none, some (.int (Int32.ofNat N)), some (.int (Int32.ofNat i))] [] h Q := by
  refine Wp.seg 2 (pc1 := 33) (ls1 := [some (.ref 59), some (.long (x)), none, some (.int (Int32.ofNat N)), some (.int (Int32.ofNat i))]) (st1 := [.int (Int32.ofNat N), .int (Int32.ofNat i)]) rfl ?_
  refine Wp.if2 rfl (fun c1 => absurd c1 (ge)) (fun c1 => ?_)
  refine Wp.seg 1 (pc1 := 37) (ls1 := [some (.ref 59), some (.long (x)), none, some (.int (Int32.ofNat N)), some (.int (Int32.ofNat i))]) (st1 := [.ref 59]) rfl ?_
  refine Wp.gr (t := (11, 0)) (v := some (63)) rfl (WF.t hw 59 rfl) rfl (WF.r hw 59 4 61 rfl) ?_
  show Wp d 202 40 [some (.ref 59), some (.long (x)), none, some (.int (Int32.ofNat N)), some (.int (Int32.ofNat i))] [.ref 63] h Q
  refine Wp.seg 1 (pc1 := 41) (ls1 := [some (.ref 59), some (.long (x)), none, some (.int (Int32.ofNat N)), some (.int (Int32.ofNat i))]) (st1 := [.ref 59, .ref 63]) rfl ?_
  refine Wp.gi (t := (11, 0)) rfl (WF.t hw 59 rfl) (Or.inl rfl) ?_
  rw [show h.2.2.1 59 5 = Int32.ofNat t from h5]
  refine Wp.seg 8 (pc1 := 56) (ls1 := [some (.ref 59), some (.long (x)), none, some (.int (Int32.ofNat N)), some (.int (Int32.ofNat i))]) (st1 := [.int (((x >>> (((8 : Int32) * (Int32.ofNat i)).toInt64 &&& 63)) &&& (255 : Int64)).toInt32), .int (Int32.ofNat t), .ref 63]) rfl ?_
  refine Wp.iast (j := t) (n := 200) rfl (WF.t hw 63 rfl) rfl ht (by decide) ?_
  refine Wp.seg 2 (pc1 := 59) (ls1 := [some (.ref 59), some (.long (x)), none, some (.int (Int32.ofNat N)), some (.int (Int32.ofNat i))]) (st1 := [.ref 59, .ref 59]) rfl ?_
  refine Wp.gi (t := (11, 0)) rfl (WF.t hw 59 rfl) (Or.inl rfl) ?_
  rw [show (kwi h 63 t (((x >>> (((8 : Int32) * (Int32.ofNat i)).toInt64 &&& 63)) &&& (255 : Int64)).toInt32)).2.2.1 59 5 = Int32.ofNat t from ((kwi_b (by decide)).trans (rfl)).trans h5]
  refine Wp.seg 2 (pc1 := 64) (ls1 := [some (.ref 59), some (.long (x)), none, some (.int (Int32.ofNat N)), some (.int (Int32.ofNat i))]) (st1 := [.int ((Int32.ofNat t) + (1 : Int32)), .ref 59]) rfl ?_
  refine Wp.pi (t := (11, 0)) rfl (WF.t hw 59 rfl) (Or.inl rfl) ?_
  refine Wp.seg 2 (pc1 := 30) (ls1 := [some (.ref 59), some (.long (x)), none, some (.int (Int32.ofNat N)), some (.int ((Int32.ofNat i) + 1))]) (st1 := []) rfl ?_
  exact hQ
theorem s_cfdL {d : Nat} {Q : KO → Prop} {x : Int64} {N : Nat} (hN : N ≤ 8) (hd : 1 ≤ d) : ∀ (m i t : Nat) (h : KH), i + m = N → t + m ≤ 200 → WF h → h.2.2.1 29 1 = Int32.ofNat t → (∀ H, Fr (fun c => c = 29 ∨ c = 30) noP h H → H.2.2.1 29 1 = Int32.ofNat (t + m) → (∀ j, j < t → H.2.2.1 30 j = h.2.2.1 30 j) → (∀ q, q < m → H.2.2.1 30 (t + q) = sbyte (fdB x (i + q))) → Q (some (.int (Int32.ofNat (t + m))), H)) → Wp d 109 34 [some (.ref 0), some (.long x), none, some (.int (Int32.ofNat N)), some (.int (Int32.ofNat i))] [] h Q := by
  intro m
  induction m with
  | zero =>
    intro i t h e ht hw h29 hQ
    exact t_cfl0 hw h29 ((nle (by omega) (by omega)).mpr (by omega)) hd (hQ h (Fr.refl h) h29 (fun _ _ => rfl) (fun q hq => absurd hq (Nat.not_lt_zero q)))
  | succ m ih =>
    intro i t h e ht hw h29 hQ
    refine t_cfl1 hw h29 (fun c => absurd ((nle (by omega) (by omega)).mp c) (by omega)) (by omega) hd ?_
    rw [show Int32.ofNat i + (1 : Int32) = Int32.ofNat (i + 1) from (Int32.ofNat_add i 1).symm, fd_c x (by omega : i < 8), sbyte_i8, show Int32.ofNat t + (1 : Int32) = Int32.ofNat (t + 1) from (Int32.ofNat_add t 1).symm]
    have f1 : Fr (fun c => c = 29 ∨ c = 30) noP h (kwi h 30 t (sbyte (fdB x i))) := fr_kwi (Or.inr rfl) (by decide)
    have f2 : Fr (fun c => c = 29 ∨ c = 30) noP (kwi h 30 t (sbyte (fdB x i))) (kwi (kwi h 30 t (sbyte (fdB x i))) 29 1 (Int32.ofNat (t + 1))) := fr_kwi (Or.inl rfl) (by decide)
    have ff := f1.trans f2
    refine ih (i + 1) (t + 1) _ (by omega) (by omega) (ff.wf hw (fun z => z)) kwi_s (fun H f e1 e2 e3 => ?_)
    have := hQ H (ff.trans f) (by rw [e1]; congr 1; omega) (fun j hj => ?_) (fun q hq => ?_)
    · rw [show t + 1 + m = t + (m + 1) by omega]
      exact this
    · rw [e2 j (by omega), kwi_r (by decide), kwi_o (by omega)]
    · cases q with
      | zero =>
        rw [show t + 0 = t from rfl, e2 t (by omega), kwi_r (by decide), kwi_s]
        rfl
      | succ q =>
        rw [show t + (q + 1) = t + 1 + q by omega, e3 q (by omega), show i + 1 + q = i + (q + 1) by omega]
theorem s_mfdL {d : Nat} {Q : KO → Prop} {x : Int64} {N : Nat} (hN : N ≤ 8) (hd : 1 ≤ d) : ∀ (m i t : Nat) (h : KH), i + m = N → t + m ≤ 200 → WF h → h.2.2.1 59 5 = Int32.ofNat t → (∀ H, Fr (fun c => c = 59 ∨ c = 63) noP h H → H.2.2.1 59 5 = Int32.ofNat (t + m) → (∀ f, f ≠ 5 → H.2.2.1 59 f = h.2.2.1 59 f) → (∀ j, j < t → H.2.2.1 63 j = h.2.2.1 63 j) → (∀ q, q < m → H.2.2.1 63 (t + q) = Int32.ofNat (fdB x (i + q))) → Q (some (.int (Int32.ofNat (t + m))), H)) → Wp d 202 30 [some (.ref 59), some (.long x), none, some (.int (Int32.ofNat N)), some (.int (Int32.ofNat i))] [] h Q := by
  intro m
  induction m with
  | zero =>
    intro i t h e ht hw h29 hQ
    exact t_mfl0 hw h29 ((nle (by omega) (by omega)).mpr (by omega)) hd (hQ h (Fr.refl h) h29 (fun _ _ => rfl) (fun _ _ => rfl) (fun q hq => absurd hq (Nat.not_lt_zero q)))
  | succ m ih =>
    intro i t h e ht hw h29 hQ
    refine t_mfl1 hw h29 (fun c => absurd ((nle (by omega) (by omega)).mp c) (by omega)) (by omega) hd ?_
    rw [show Int32.ofNat i + (1 : Int32) = Int32.ofNat (i + 1) from (Int32.ofNat_add i 1).symm, fd_m x (by omega : i < 8), show Int32.ofNat t + (1 : Int32) = Int32.ofNat (t + 1) from (Int32.ofNat_add t 1).symm]
    have f1 : Fr (fun c => c = 59 ∨ c = 63) noP h (kwi h 63 t (Int32.ofNat (fdB x i))) := fr_kwi (Or.inr rfl) (by decide)
    have f2 : Fr (fun c => c = 59 ∨ c = 63) noP (kwi h 63 t (Int32.ofNat (fdB x i))) (kwi (kwi h 63 t (Int32.ofNat (fdB x i))) 59 5 (Int32.ofNat (t + 1))) := fr_kwi (Or.inl rfl) (by decide)
    have ff := f1.trans f2
    refine ih (i + 1) (t + 1) _ (by omega) (by omega) (ff.wf hw (fun z => z)) kwi_s (fun H f e1 e0 e2 e3 => ?_)
    have := hQ H (ff.trans f) (by rw [e1]; congr 1; omega) (fun g hg => ?_) (fun j hj => ?_) (fun q hq => ?_)
    · rw [show t + 1 + m = t + (m + 1) by omega]
      exact this
    · rw [e0 g hg, kwi_o hg, kwi_r (by decide)]
    · rw [e2 j (by omega), kwi_r (by decide), kwi_o (by omega)]
    · cases q with
      | zero =>
        rw [show t + 0 = t from rfl, e2 t (by omega), kwi_r (by decide), kwi_s]
        rfl
      | succ q =>
        rw [show t + (q + 1) = t + 1 + q by omega, e3 q (by omega), show i + 1 + q = i + (q + 1) by omega]
theorem gd_app (T B : List Nat) (j : Nat) : (T ++ B).getD j 0 = if j < T.length then T.getD j 0 else B.getD (j - T.length) 0 := by
  rw [List.getD_eq_getElem?_getD, List.getElem?_append]
  split
  · rw [List.getD_eq_getElem?_getD]
  · rw [List.getD_eq_getElem?_getD]
theorem gd_map (f : Nat → Nat) {N j : Nat} (h : j < N) : ((List.range N).map f).getD j 0 = f j := by
  rw [List.getD_eq_getElem?_getD, List.getElem?_map, List.getElem?_range h]
  rfl
theorem J_feed {h : KH} (hi : Inv h) (x : Int64) (n : Int32) : JI h 109 [.ref 0, .long x, .int n] 202 [.ref 59, .long x, .int n] := by
  have hw := hi.1
  have ho := hi.2.2.1
  obtain ⟨T, t1, t2, t3, t4, t5⟩ := ho.2.1
  rcases hq : inB n 1 8 with _ | _
  · have nq : ¬ (1 ≤ n.toInt ∧ n.toInt ≤ 8) := of_decide_eq_false hq
    refine JI_same (v := -1) (dc := 1) (dm := 1) hi (t_cfd0 hw (Nat.le_refl _) ⟨fun _ => rfl, fun c1 => ⟨fun c2 => absurd ?_ nq, fun _ => rfl⟩⟩) (t_mfd0 hw hq (Nat.le_refl _) rfl)
    have a1 := i32F (rfl : n.toInt = n.toInt) (show (1 : Int32).toInt = 1 from rfl) c1
    have a2 := i32L (rfl : n.toInt = n.toInt) (show (8 : Int32).toInt = 8 from rfl) c2
    omega
  obtain ⟨N, hN1, hN8, rfl⟩ := inB_natL (a := 1) (b := 8) hq
  have n1 : ¬ (Int32.ofNat N < 1) := fun c => by
    have := i32T (znat (n := N) (by omega)) (show (1 : Int32).toInt = 1 from rfl) c
    omega
  have n8 : Int32.ofNat N ≤ 8 := (nle (b := 8) (by omega) (by omega)).mpr hN8
  have es : Int32.ofNat T.length + Int32.ofNat N = Int32.ofNat (T.length + N) := (Int32.ofNat_add _ _).symm
  have eb : Int32.ofNat T.length + Int32.ofNat N ≤ 200 ↔ T.length + N ≤ 200 := by
    rw [es, Int32.le_iff_toInt_le, znat (n := T.length + N) (by omega)]
    show ((T.length + N : Nat) : Int) ≤ 200 ↔ _
    omega
  by_cases o : T.length + N ≤ 200
  · refine ⟨Int32.ofNat (T.length + N), t_cfd2 hw t3 n1 n8 (eb.mpr o) (by decide) (s_cfdL hN8 (by decide) N 0 T.length h (Nat.zero_add N) o hw t3 (fun H f e1 e2 e3 => ⟨H, rfl, ?_⟩))⟩
    have hwH : WF H := f.wf hw (fun z => z)
    have h5 : H.2.2.1 59 5 = Int32.ofNat T.length := by rw [f.2.2.1 59 (Or.inl (by decide))]; exact t4
    refine t_mfd2 hwH h5 hq (eb.mpr o) (by decide) (s_mfdL hN8 (by decide) N 0 T.length H (Nat.zero_add N) o hwH h5 (fun K g g1 g0 g2 g3 => ⟨K, rfl, ?_, ?_, ?_, (far_fr f).tr (far_fr g)⟩))
    · have ff : Fr (fun c => (c = 29 ∨ c = 30) ∨ (c = 59 ∨ c = 63)) noP h K := (f.mono (fun _ z => Or.inl z) (fun _ z => z)).trans (g.mono (fun _ z => Or.inr z) (fun _ z => z))
      have e0 : K.2.2.1 0 = h.2.2.1 0 := ff.2.2.1 0 (Or.inl (by decide))
      have e59 : ∀ q, q ≠ 5 → K.2.2.1 59 q = h.2.2.1 59 q := fun q hq => by rw [g0 q hq, f.2.2.1 59 (Or.inl (by decide))]
      refine inv_of (J := K.2.2.2.1) hi ff (by decide) (by rw [e0]) (e59 3 (by decide)) ⟨T ++ (List.range N).map (fdB x), ?_, ?_, ?_, ?_, ?_⟩ ?_ (fun t ht => ?_) (fun t ht => ?_) ?_
      · rw [List.length_append, List.length_map, List.length_range]
        exact o
      · intro b hb
        rcases List.mem_append.mp hb with hb | hb
        · exact t2 b hb
        · obtain ⟨i, _, rfl⟩ := List.mem_map.mp hb
          exact Nat.mod_lt _ (by decide)
      · rw [List.length_append, List.length_map, List.length_range, g.2.2.1 29 (Or.inl (by decide))]
        exact e1
      · rw [List.length_append, List.length_map, List.length_range]
        exact g1
      · intro i hi'
        rw [List.length_append, List.length_map, List.length_range] at hi'
        rw [gd_app]
        by_cases c : i < T.length
        · rw [if_pos c, g.2.2.1 30 (Or.inl (by decide)), e2 i c, g2 i c, f.2.2.1 63 (Or.inl (by decide))]
          exact t5 i c
        · rw [if_neg c, gd_map _ (by omega), g.2.2.1 30 (Or.inl (by decide))]
          have a1 := e3 (i - T.length) (by omega)
          have a2 := g3 (i - T.length) (by omega)
          rw [show T.length + (i - T.length) = i by omega, Nat.zero_add] at a1 a2
          exact ⟨a1, a2⟩
      · obtain ⟨R, hR⟩ := ho.2.2.1
        exact ⟨R, rows_fr hR ff (by omega) (by rw [e0]) (e59 20 (by decide))⟩
      · exact sheet_fr ht (ho.2.2.2.1 t ht) ff (by omega)
      · exact shelf_fr (ho.2.2.2.2.1 t ht) ff (by omega)
      · exact trace_fr ho.2.2.2.2.2 ff (by omega) (e59 29 (by decide))
    · rw [g.2.1, f.2.1]
      omega
    · rw [g.2.1, f.2.1]
      omega
  · exact JI_same (v := -2) (dc := 1) (dm := 1) hi (t_cfd1 hw t3 n1 n8 (fun z => o (eb.mp z)) (Nat.le_refl _) rfl) (t_mfd1 hw t4 hq (fun z => o (eb.mp z)) (Nat.le_refl _) rfl)
