/-! KM: both sides: cut() -/
noncomputable def cutS (c : Nat) (A : Nat → Int32) (v w : Int32) : Int32 := if inB v 0 11 = true ∧ inB w 0 1 = true then (if v = Int32.ofNat c then -3 else if w = 0 then Int32.ofNat (popF 17 (cutN c v.toNatClampNeg (A 3))) else Int32.ofNat (cutN c v.toNatClampNeg (A 3))) else -1
theorem tb_low0 {s k : Nat} (hk : k < 32) : ((Int32.ofNat s >>> (Int32.ofNat k &&& 31)) &&& 1 = 0) ↔ s.testBit k = false := by
  rw [bt_low0 hk, bt_of hk]
theorem pop_lt {a b : Nat} : Int32.ofNat (popF 17 a) - Int32.ofNat (popF 17 b) < 0 ↔ popF 17 a < popF 17 b := by
  have ha := popF_le 17 a
  have hb := popF_le 17 b
  have := zlt (y := 0) (zs (znat (n := popF 17 a) (by omega)) (znat (n := popF 17 b) (by omega)) (by omega)) (n := 0) rfl
  rw [this]
  omega
theorem pop_eq {a b : Nat} : Int32.ofNat (popF 17 a) - Int32.ofNat (popF 17 b) = 0 ↔ popF 17 a = popF 17 b := by
  have ha := popF_le 17 a
  have hb := popF_le 17 b
  have := zeq (y := 0) (zs (znat (n := popF 17 a) (by omega)) (znat (n := popF 17 b) (by omega)) (by omega)) (n := 0) rfl
  rw [this]
  omega
set_option maxHeartbeats 4000000 in
theorem t_lcB {d : Nat} {Q : KO → Prop} {h : KH} (hw : WF h) {A : Nat → Int32} {RL : List Rul} {n c dn en : Nat} (hk : cityOK h 1 A RL n c dn en) {p b s : Nat} {y z : Option Value} (hs : s < 4096) (hd : 1 ≤ d) (hQ : ((((Int32.ofNat s) >>> ((Int32.ofNat c) &&& 31)) &&& (1 : Int32)) = 0 → Wp d 119 81 ([some (.ref 0), some (.int (Int32.ofNat p)), some (.int (Int32.ofNat b)), some (.int (Int32.ofNat s)), y, z]) [] h Q) ∧ (¬ ((((Int32.ofNat s) >>> ((Int32.ofNat c) &&& 31)) &&& (1 : Int32)) = 0) → (¬ (((Int32.ofNat s) >>> ((Int32.ofNat p) &&& 31)) &&& (1 : Int32)) = 0 → Wp d 119 81 ([some (.ref 0), some (.int (Int32.ofNat p)), some (.int (Int32.ofNat b)), some (.int (Int32.ofNat s)), y, z]) [] h Q) ∧ (¬ (¬ (((Int32.ofNat s) >>> ((Int32.ofNat p) &&& 31)) &&& (1 : Int32)) = 0) → (((f_bitCount ((f_cLeaving (Int32.ofNat s)) &&& ((A 3) ^^^ (-1 : Int32)))) - (f_bitCount (Int32.ofNat b))) < 0 → Wp d 119 81 ([some (.ref 0), some (.int (Int32.ofNat p)), some (.int ((f_cLeaving (Int32.ofNat s)) &&& ((A 3) ^^^ (-1 : Int32)))), some (.int (Int32.ofNat s)), some (.int ((f_cLeaving (Int32.ofNat s)) &&& ((A 3) ^^^ (-1 : Int32)))), some (.int ((f_bitCount ((f_cLeaving (Int32.ofNat s)) &&& ((A 3) ^^^ (-1 : Int32)))) - (f_bitCount (Int32.ofNat b))))]) [] h Q) ∧ (¬ (((f_bitCount ((f_cLeaving (Int32.ofNat s)) &&& ((A 3) ^^^ (-1 : Int32)))) - (f_bitCount (Int32.ofNat b))) < 0) → (¬ ((f_bitCount ((f_cLeaving (Int32.ofNat s)) &&& ((A 3) ^^^ (-1 : Int32)))) - (f_bitCount (Int32.ofNat b))) = 0 → Wp d 119 81 ([some (.ref 0), some (.int (Int32.ofNat p)), some (.int (Int32.ofNat b)), some (.int (Int32.ofNat s)), some (.int ((f_cLeaving (Int32.ofNat s)) &&& ((A 3) ^^^ (-1 : Int32)))), some (.int ((f_bitCount ((f_cLeaving (Int32.ofNat s)) &&& ((A 3) ^^^ (-1 : Int32)))) - (f_bitCount (Int32.ofNat b))))]) [] h Q) ∧ (¬ (¬ ((f_bitCount ((f_cLeaving (Int32.ofNat s)) &&& ((A 3) ^^^ (-1 : Int32)))) - (f_bitCount (Int32.ofNat b))) = 0) → ((Int32.ofNat b) ≤ ((f_cLeaving (Int32.ofNat s)) &&& ((A 3) ^^^ (-1 : Int32))) → Wp d 119 81 ([some (.ref 0), some (.int (Int32.ofNat p)), some (.int (Int32.ofNat b)), some (.int (Int32.ofNat s)), some (.int ((f_cLeaving (Int32.ofNat s)) &&& ((A 3) ^^^ (-1 : Int32)))), some (.int ((f_bitCount ((f_cLeaving (Int32.ofNat s)) &&& ((A 3) ^^^ (-1 : Int32)))) - (f_bitCount (Int32.ofNat b))))]) [] h Q) ∧ (¬ ((Int32.ofNat b) ≤ ((f_cLeaving (Int32.ofNat s)) &&& ((A 3) ^^^ (-1 : Int32)))) → Wp d 119 81 ([some (.ref 0), some (.int (Int32.ofNat p)), some (.int ((f_cLeaving (Int32.ofNat s)) &&& ((A 3) ^^^ (-1 : Int32)))), some (.int (Int32.ofNat s)), some (.int ((f_cLeaving (Int32.ofNat s)) &&& ((A 3) ^^^ (-1 : Int32)))), some (.int ((f_bitCount ((f_cLeaving (Int32.ofNat s)) &&& ((A 3) ^^^ (-1 : Int32)))) - (f_bitCount (Int32.ofNat b))))]) [] h Q)))))) : Wp d 119 5 [some (.ref 0), some (.int (Int32.ofNat p)), some (.int (Int32.ofNat b)), some (.int (Int32.ofNat s)), y, z] [] h Q := by
  refine Wp.seg 2 (pc1 := 9) (ls1 := [some (.ref 0), some (.int (Int32.ofNat p)), some (.int (Int32.ofNat b)), some (.int (Int32.ofNat s)), y, z]) (st1 := [.int (4095), .int (Int32.ofNat s)]) rfl ?_
  refine Wp.if2 rfl (fun c1 => absurd c1 (fun c => by have := (zlt (m := 4095) rfl (znat (n := s) (by omega))).mp c; omega)) (fun c1 => ?_)
  refine Wp.seg 2 (pc1 := 14) (ls1 := [some (.ref 0), some (.int (Int32.ofNat p)), some (.int (Int32.ofNat b)), some (.int (Int32.ofNat s)), y, z]) (st1 := [.ref 0, .int (Int32.ofNat s)]) rfl ?_
  refine Wp.gr (t := (10, 0)) (v := some (1)) rfl (WF.t hw 0 rfl) rfl (WF.r hw 0 0 0 rfl) ?_
  show Wp d 119 17 [some (.ref 0), some (.int (Int32.ofNat p)), some (.int (Int32.ofNat b)), some (.int (Int32.ofNat s)), y, z] [.ref 1, .int (Int32.ofNat s)] h Q
  refine Wp.gi (t := (1, 0)) rfl (WF.t hw 1 rfl) (Or.inl rfl) ?_
  rw [show h.2.2.1 1 2 = Int32.ofNat c from hk.2.1.2.2.2.1]
  refine Wp.seg 3 (pc1 := 23) (ls1 := [some (.ref 0), some (.int (Int32.ofNat p)), some (.int (Int32.ofNat b)), some (.int (Int32.ofNat s)), y, z]) (st1 := [.int (((Int32.ofNat s) >>> ((Int32.ofNat c) &&& 31)) &&& (1 : Int32))]) rfl ?_
  refine Wp.if1 rfl (fun (c2 : (((Int32.ofNat s) >>> ((Int32.ofNat c) &&& 31)) &&& (1 : Int32)) = 0) => ?_) (fun (c2 : ¬ ((((Int32.ofNat s) >>> ((Int32.ofNat c) &&& 31)) &&& (1 : Int32)) = 0)) => ?_)
  · exact (hQ.1 c2)
  · refine Wp.seg 5 (pc1 := 31) (ls1 := [some (.ref 0), some (.int (Int32.ofNat p)), some (.int (Int32.ofNat b)), some (.int (Int32.ofNat s)), y, z]) (st1 := [.int (((Int32.ofNat s) >>> ((Int32.ofNat p) &&& 31)) &&& (1 : Int32))]) rfl ?_
    refine Wp.if1 rfl (fun (c3 : ¬ (((Int32.ofNat s) >>> ((Int32.ofNat p) &&& 31)) &&& (1 : Int32)) = 0) => ?_) (fun (c3 : ¬ (¬ (((Int32.ofNat s) >>> ((Int32.ofNat p) &&& 31)) &&& (1 : Int32)) = 0)) => ?_)
    · exact ((hQ.2 c2).1 c3)
    · refine Wp.seg 1 (pc1 := 35) (ls1 := [some (.ref 0), some (.int (Int32.ofNat p)), some (.int (Int32.ofNat b)), some (.int (Int32.ofNat s)), y, z]) (st1 := [.int (Int32.ofNat s)]) rfl ?_
      refine Wp.inv (d2 := 0) (as := [.int (Int32.ofNat s)]) (r := []) rfl rfl rfl rfl rfl rfl (by omega) (s_cLeaving (Nat.le_refl _) ?_)
      show Wp d 119 38 [some (.ref 0), some (.int (Int32.ofNat p)), some (.int (Int32.ofNat b)), some (.int (Int32.ofNat s)), y, z] [.int (f_cLeaving (Int32.ofNat s))] h Q
      refine Wp.seg 1 (pc1 := 39) (ls1 := [some (.ref 0), some (.int (Int32.ofNat p)), some (.int (Int32.ofNat b)), some (.int (Int32.ofNat s)), y, z]) (st1 := [.ref 0, .int (f_cLeaving (Int32.ofNat s))]) rfl ?_
      refine Wp.gr (t := (10, 0)) (v := some (1)) rfl (WF.t hw 0 rfl) rfl (WF.r hw 0 0 0 rfl) ?_
      show Wp d 119 42 [some (.ref 0), some (.int (Int32.ofNat p)), some (.int (Int32.ofNat b)), some (.int (Int32.ofNat s)), y, z] [.ref 1, .int (f_cLeaving (Int32.ofNat s))] h Q
      refine Wp.gi (t := (1, 0)) rfl (WF.t hw 1 rfl) (Or.inl rfl) ?_
      rw [show h.2.2.1 1 3 = A 3 from (congrFun hk.1 3)]
      refine Wp.seg 5 (pc1 := 52) (ls1 := [some (.ref 0), some (.int (Int32.ofNat p)), some (.int (Int32.ofNat b)), some (.int (Int32.ofNat s)), some (.int ((f_cLeaving (Int32.ofNat s)) &&& ((A 3) ^^^ (-1 : Int32)))), z]) (st1 := [.int ((f_cLeaving (Int32.ofNat s)) &&& ((A 3) ^^^ (-1 : Int32)))]) rfl ?_
      refine Wp.inv (d2 := 0) (as := [.int ((f_cLeaving (Int32.ofNat s)) &&& ((A 3) ^^^ (-1 : Int32)))]) (r := []) rfl rfl rfl rfl rfl rfl (by omega) (s_bitCount (Nat.le_refl _) ?_)
      show Wp d 119 55 [some (.ref 0), some (.int (Int32.ofNat p)), some (.int (Int32.ofNat b)), some (.int (Int32.ofNat s)), some (.int ((f_cLeaving (Int32.ofNat s)) &&& ((A 3) ^^^ (-1 : Int32)))), z] [.int (f_bitCount ((f_cLeaving (Int32.ofNat s)) &&& ((A 3) ^^^ (-1 : Int32))))] h Q
      refine Wp.seg 1 (pc1 := 56) (ls1 := [some (.ref 0), some (.int (Int32.ofNat p)), some (.int (Int32.ofNat b)), some (.int (Int32.ofNat s)), some (.int ((f_cLeaving (Int32.ofNat s)) &&& ((A 3) ^^^ (-1 : Int32)))), z]) (st1 := [.int (Int32.ofNat b), .int (f_bitCount ((f_cLeaving (Int32.ofNat s)) &&& ((A 3) ^^^ (-1 : Int32))))]) rfl ?_
      refine Wp.inv (d2 := 0) (as := [.int (Int32.ofNat b)]) (r := [.int (f_bitCount ((f_cLeaving (Int32.ofNat s)) &&& ((A 3) ^^^ (-1 : Int32))))]) rfl rfl rfl rfl rfl rfl (by omega) (s_bitCount (Nat.le_refl _) ?_)
      show Wp d 119 59 [some (.ref 0), some (.int (Int32.ofNat p)), some (.int (Int32.ofNat b)), some (.int (Int32.ofNat s)), some (.int ((f_cLeaving (Int32.ofNat s)) &&& ((A 3) ^^^ (-1 : Int32)))), z] [.int (f_bitCount (Int32.ofNat b)), .int (f_bitCount ((f_cLeaving (Int32.ofNat s)) &&& ((A 3) ^^^ (-1 : Int32))))] h Q
      refine Wp.seg 3 (pc1 := 64) (ls1 := [some (.ref 0), some (.int (Int32.ofNat p)), some (.int (Int32.ofNat b)), some (.int (Int32.ofNat s)), some (.int ((f_cLeaving (Int32.ofNat s)) &&& ((A 3) ^^^ (-1 : Int32)))), some (.int ((f_bitCount ((f_cLeaving (Int32.ofNat s)) &&& ((A 3) ^^^ (-1 : Int32)))) - (f_bitCount (Int32.ofNat b))))]) (st1 := [.int ((f_bitCount ((f_cLeaving (Int32.ofNat s)) &&& ((A 3) ^^^ (-1 : Int32)))) - (f_bitCount (Int32.ofNat b)))]) rfl ?_
      refine Wp.if1 rfl (fun (c4 : ((f_bitCount ((f_cLeaving (Int32.ofNat s)) &&& ((A 3) ^^^ (-1 : Int32)))) - (f_bitCount (Int32.ofNat b))) < 0) => ?_) (fun (c4 : ¬ (((f_bitCount ((f_cLeaving (Int32.ofNat s)) &&& ((A 3) ^^^ (-1 : Int32)))) - (f_bitCount (Int32.ofNat b))) < 0)) => ?_)
      · refine Wp.seg 2 (pc1 := 81) (ls1 := [some (.ref 0), some (.int (Int32.ofNat p)), some (.int ((f_cLeaving (Int32.ofNat s)) &&& ((A 3) ^^^ (-1 : Int32)))), some (.int (Int32.ofNat s)), some (.int ((f_cLeaving (Int32.ofNat s)) &&& ((A 3) ^^^ (-1 : Int32)))), some (.int ((f_bitCount ((f_cLeaving (Int32.ofNat s)) &&& ((A 3) ^^^ (-1 : Int32)))) - (f_bitCount (Int32.ofNat b))))]) (st1 := []) rfl ?_
        exact (((hQ.2 c2).2 c3).1 c4)
      · refine Wp.seg 1 (pc1 := 69) (ls1 := [some (.ref 0), some (.int (Int32.ofNat p)), some (.int (Int32.ofNat b)), some (.int (Int32.ofNat s)), some (.int ((f_cLeaving (Int32.ofNat s)) &&& ((A 3) ^^^ (-1 : Int32)))), some (.int ((f_bitCount ((f_cLeaving (Int32.ofNat s)) &&& ((A 3) ^^^ (-1 : Int32)))) - (f_bitCount (Int32.ofNat b))))]) (st1 := [.int ((f_bitCount ((f_cLeaving (Int32.ofNat s)) &&& ((A 3) ^^^ (-1 : Int32)))) - (f_bitCount (Int32.ofNat b)))]) rfl ?_
        refine Wp.if1 rfl (fun (c5 : ¬ ((f_bitCount ((f_cLeaving (Int32.ofNat s)) &&& ((A 3) ^^^ (-1 : Int32)))) - (f_bitCount (Int32.ofNat b))) = 0) => ?_) (fun (c5 : ¬ (¬ ((f_bitCount ((f_cLeaving (Int32.ofNat s)) &&& ((A 3) ^^^ (-1 : Int32)))) - (f_bitCount (Int32.ofNat b))) = 0)) => ?_)
        · exact ((((hQ.2 c2).2 c3).2 c4).1 c5)
        · refine Wp.seg 2 (pc1 := 75) (ls1 := [some (.ref 0), some (.int (Int32.ofNat p)), some (.int (Int32.ofNat b)), some (.int (Int32.ofNat s)), some (.int ((f_cLeaving (Int32.ofNat s)) &&& ((A 3) ^^^ (-1 : Int32)))), some (.int ((f_bitCount ((f_cLeaving (Int32.ofNat s)) &&& ((A 3) ^^^ (-1 : Int32)))) - (f_bitCount (Int32.ofNat b))))]) (st1 := [.int (Int32.ofNat b), .int ((f_cLeaving (Int32.ofNat s)) &&& ((A 3) ^^^ (-1 : Int32)))]) rfl ?_
          refine Wp.if2 rfl (fun (c6 : (Int32.ofNat b) ≤ ((f_cLeaving (Int32.ofNat s)) &&& ((A 3) ^^^ (-1 : Int32)))) => ?_) (fun (c6 : ¬ ((Int32.ofNat b) ≤ ((f_cLeaving (Int32.ofNat s)) &&& ((A 3) ^^^ (-1 : Int32))))) => ?_)
          · exact (((((hQ.2 c2).2 c3).2 c4).2 c5).1 c6)
          · refine Wp.seg 2 (pc1 := 81) (ls1 := [some (.ref 0), some (.int (Int32.ofNat p)), some (.int ((f_cLeaving (Int32.ofNat s)) &&& ((A 3) ^^^ (-1 : Int32)))), some (.int (Int32.ofNat s)), some (.int ((f_cLeaving (Int32.ofNat s)) &&& ((A 3) ^^^ (-1 : Int32)))), some (.int ((f_bitCount ((f_cLeaving (Int32.ofNat s)) &&& ((A 3) ^^^ (-1 : Int32)))) - (f_bitCount (Int32.ofNat b))))]) (st1 := []) rfl ?_
            exact (((((hQ.2 c2).2 c3).2 c4).2 c5).2 c6)
set_option maxHeartbeats 4000000 in
theorem t_lcN {d : Nat} {Q : KO → Prop} {h : KH} {p b : Int32} {s : Nat} {y z : Option Value} (hd : 0 ≤ d) (hQ : Wp d 119 5 ([some (.ref 0), some (.int (p)), some (.int (b)), some (.int ((Int32.ofNat s) + 1)), y, z]) [] h Q) : Wp d 119 81 [some (.ref 0), some (.int (p)), some (.int (b)), some (.int (Int32.ofNat s)), y, z] [] h Q := by
  refine Wp.seg 2 (pc1 := 5) (ls1 := [some (.ref 0), some (.int (p)), some (.int (b)), some (.int ((Int32.ofNat s) + 1)), y, z]) (st1 := []) rfl ?_
  exact hQ
set_option maxHeartbeats 4000000 in
theorem t_lcE {d : Nat} {Q : KO → Prop} {h : KH} {p b : Int32} {y z : Option Value} (hd : 0 ≤ d) (hQ : Q (some (.int (b)), h)) : Wp d 119 5 [some (.ref 0), some (.int (p)), some (.int (b)), some (.int (4096)), y, z] [] h Q := by
  refine Wp.seg 2 (pc1 := 9) (ls1 := [some (.ref 0), some (.int (p)), some (.int (b)), some (.int (4096)), y, z]) (st1 := [.int (4095), .int (4096)]) rfl ?_
  refine Wp.if2 rfl (fun c1 => ?_) (fun c1 => absurd (show (4095 : Int32) < (4096 : Int32) by decide) c1)
  refine Wp.seg 1 (pc1 := 88) (ls1 := [some (.ref 0), some (.int (p)), some (.int (b)), some (.int (4096)), y, z]) (st1 := [.int (b)]) rfl ?_
  exact Wp.reti rfl rfl hQ
set_option maxHeartbeats 4000000 in
theorem t_lcut {d : Nat} {Q : KO → Prop} {h : KH} {p : Int32} (hd : 1 ≤ d) (hQ : Wp d 119 5 ([some (.ref 0), some (.int (p)), some (.int (131071)), some (.int (0)), none, none]) [] h Q) : Cl d 119 [.ref 0, .int (p)] h Q := by
  refine Cl.of (ls := [some (.ref 0), some (.int (p)), none, none, none, none]) rfl rfl ?_
  refine Wp.seg 4 (pc1 := 5) (ls1 := [some (.ref 0), some (.int (p)), some (.int (131071)), some (.int (0)), none, none]) (st1 := []) rfl ?_
  exact hQ
theorem c_lcL {d : Nat} {Q : KO → Prop} {h : KH} (hw : WF h) {A : Nat → Int32} {RL : List Rul} {n c dn en : Nat} (hk : cityOK h 1 A RL n c dn en) {p : Nat} (hp : p < 12) (hd : 1 ≤ d) : ∀ (k s b : Nat) (y z : Option Value), s + k = 4096 → b < 131072 → Q (some (.int (Int32.ofNat (cutF c p (A 3) k s b))), h) → Wp d 119 5 [some (.ref 0), some (.int (Int32.ofNat p)), some (.int (Int32.ofNat b)), some (.int (Int32.ofNat s)), y, z] [] h Q
  | 0, s, b, y, z, hs, hb, hQ => by
    obtain rfl : s = 4096 := hs
    exact t_lcE (Nat.zero_le _) hQ
  | k + 1, s, b, y, z, hs, hb, hQ => by
    have hc := hk.2.1.2.2.1
    have hv := lvN_lt (A 3) s
    unfold cutF at hQ
    have next : ∀ (b2 : Nat) (y z : Option Value), b2 < 131072 → Q (some (.int (Int32.ofNat (cutF c p (A 3) k (s + 1) b2))), h) → Wp d 119 81 [some (.ref 0), some (.int (Int32.ofNat p)), some (.int (Int32.ofNat b2)), some (.int (Int32.ofNat s)), y, z] [] h Q := by
      intro b2 y z hb2 hQ2
      refine t_lcN (Nat.zero_le _) ?_
      rw [show Int32.ofNat s + 1 = Int32.ofNat (s + 1) from ofadd s 1]
      exact c_lcL hw hk hp hd k (s + 1) b2 _ _ (by omega) hb2 hQ2
    have eI : f_cLeaving (Int32.ofNat s) &&& (A 3 ^^^ (-1)) = Int32.ofNat (lvN (A 3) s) := (lv_n (A 3) s).symm
    refine t_lcB hw hk (by omega) hd ⟨fun c1 => ?_, fun c1 => ⟨fun c2 => ?_, fun c2 => ?_⟩⟩
    · have := (tb_low0 (s := s) (k := c) (by omega)).mp c1
      rw [if_neg (fun z => by rw [this] at z; cases z.1)] at hQ
      exact next b _ _ hb hQ
    · rw [if_neg (fun z => c2 ((tb_low0 (s := s) (k := p) (by omega)).mpr z.2))] at hQ
      exact next b _ _ hb hQ
    · have v1 : s.testBit c = true := by
        cases e : s.testBit c with
        | true => rfl
        | false => exact absurd ((tb_low0 (by omega)).mpr e) c1
      have v2 := (tb_low0 (s := s) (k := p) (by omega)).mp (Decidable.not_not.mp c2)
      rw [if_pos ⟨v1, v2⟩] at hQ
      rw [eI, bc_pop hv, bc_pop hb]
      have q := pop_lt (a := lvN (A 3) s) (b := b)
      have q2 := pop_eq (a := lvN (A 3) s) (b := b)
      refine ⟨fun c3 => ?_, fun c3 => ⟨fun c4 => ?_, fun c4 => ⟨fun c5 => ?_, fun c5 => ?_⟩⟩⟩
      · rw [if_pos (Or.inl (q.mp c3))] at hQ
        exact next _ _ _ hv hQ
      · rw [if_neg (fun z => z.elim (fun z => c3 (q.mpr z)) (fun z => c4 (q2.mpr z.1)))] at hQ
        exact next b _ _ hb hQ
      · have := (ole (a := b) (b := lvN (A 3) s) (by omega) (by omega)).mp c5
        rw [if_neg (fun z => z.elim (fun z => c3 (q.mpr z)) (fun z => by omega))] at hQ
        exact next b _ _ hb hQ
      · have := mt (ole (a := b) (b := lvN (A 3) s) (by omega) (by omega)).mpr c5
        rw [if_pos (Or.inr ⟨q2.mp (Decidable.not_not.mp c4), by omega⟩)] at hQ
        exact next _ _ _ hv hQ
theorem c_lc {d : Nat} {Q : KO → Prop} {h : KH} (hw : WF h) {A : Nat → Int32} {RL : List Rul} {n c dn en : Nat} (hk : cityOK h 1 A RL n c dn en) {p : Nat} (hp : p < 12) (hd : 1 ≤ d) (hQ : Q (some (.int (Int32.ofNat (cutN c p (A 3)))), h)) : Cl d 119 [.ref 0, .int (Int32.ofNat p)] h Q :=
  t_lcut hd (c_lcL hw hk hp hd 4096 0 131071 _ _ (by omega) (by decide) hQ)
set_option maxHeartbeats 4000000 in
theorem t_cct {d : Nat} {Q : KO → Prop} {h : KH} {v w : Int32} (hd : 1 ≤ d) (hQ : ((inB v 0 11) = false → Q (some (.int (-1)), h)) ∧ ((inB v 0 11) = true → (w < 0 → Q (some (.int (-1)), h)) ∧ (¬ (w < 0) → (w ≤ (1 : Int32) → Wp d 118 18 ([some (.ref 0), some (.int (v)), some (.int (w)), none]) [] h Q) ∧ (¬ (w ≤ (1 : Int32)) → Q (some (.int (-1)), h))))) : Cl d 118 [.ref 0, .int (v), .int (w)] h Q := by
  refine Cl.of (ls := [some (.ref 0), some (.int (v)), some (.int (w)), none]) rfl rfl ?_
  refine Wp.seg 1 (pc1 := 1) (ls1 := [some (.ref 0), some (.int (v)), some (.int (w)), none]) (st1 := [.int (v)]) rfl ?_
  refine Wp.inv (d2 := 0) (as := [.int (v)]) (r := []) rfl rfl rfl rfl rfl rfl (by omega) (s_b104 ?_)
  show Wp d 118 4 [some (.ref 0), some (.int (v)), some (.int (w)), none] [.int (b32 (inB v 0 11))] h Q
  refine Wp.ifz rfl (fun (c1 : (inB v 0 11) = false) => ?_) (fun (c1 : (inB v 0 11) = true) => ?_)
  · refine Wp.seg 1 (pc1 := 17) (ls1 := [some (.ref 0), some (.int (v)), some (.int (w)), none]) (st1 := [.int (-1)]) rfl ?_
    exact Wp.reti rfl rfl (hQ.1 c1)
  · refine Wp.seg 1 (pc1 := 8) (ls1 := [some (.ref 0), some (.int (v)), some (.int (w)), none]) (st1 := [.int (w)]) rfl ?_
    refine Wp.if1 rfl (fun (c2 : w < 0) => ?_) (fun (c2 : ¬ (w < 0)) => ?_)
    · refine Wp.seg 1 (pc1 := 17) (ls1 := [some (.ref 0), some (.int (v)), some (.int (w)), none]) (st1 := [.int (-1)]) rfl ?_
      exact Wp.reti rfl rfl ((hQ.2 c1).1 c2)
    · refine Wp.seg 2 (pc1 := 13) (ls1 := [some (.ref 0), some (.int (v)), some (.int (w)), none]) (st1 := [.int (1), .int (w)]) rfl ?_
      refine Wp.if2 rfl (fun (c3 : w ≤ (1 : Int32)) => ?_) (fun (c3 : ¬ (w ≤ (1 : Int32))) => ?_)
      · exact (((hQ.2 c1).2 c2).1 c3)
      · refine Wp.seg 1 (pc1 := 17) (ls1 := [some (.ref 0), some (.int (v)), some (.int (w)), none]) (st1 := [.int (-1)]) rfl ?_
        exact Wp.reti rfl rfl (((hQ.2 c1).2 c2).2 c3)
set_option maxHeartbeats 4000000 in
theorem t_cctB {d : Nat} {Q : KO → Prop} {h : KH} (hw : WF h) {A : Nat → Int32} {RL : List Rul} {n c dn en : Nat} (hk : cityOK h 1 A RL n c dn en) {p : Nat} {w : Int32} (hp : p < 12) (hd : 2 ≤ d) (hQ : (¬ (Int32.ofNat p) = (Int32.ofNat c) → (¬ w = 0 → Q (some (.int (Int32.ofNat (cutN c p (A 3)))), h)) ∧ (¬ (¬ w = 0) → Q (some (.int (f_bitCount (Int32.ofNat (cutN c p (A 3))))), h))) ∧ (¬ (¬ (Int32.ofNat p) = (Int32.ofNat c)) → Q (some (.int (-3)), h))) : Wp d 118 18 [some (.ref 0), some (.int (Int32.ofNat p)), some (.int (w)), none] [] h Q := by
  refine Wp.seg 2 (pc1 := 20) (ls1 := [some (.ref 0), some (.int (Int32.ofNat p)), some (.int (w)), none]) (st1 := [.ref 0, .int (Int32.ofNat p)]) rfl ?_
  refine Wp.gr (t := (10, 0)) (v := some (1)) rfl (WF.t hw 0 rfl) rfl (WF.r hw 0 0 0 rfl) ?_
  show Wp d 118 23 [some (.ref 0), some (.int (Int32.ofNat p)), some (.int (w)), none] [.ref 1, .int (Int32.ofNat p)] h Q
  refine Wp.gi (t := (1, 0)) rfl (WF.t hw 1 rfl) (Or.inl rfl) ?_
  rw [show h.2.2.1 1 2 = Int32.ofNat c from hk.2.1.2.2.2.1]
  refine Wp.if2 rfl (fun (c1 : ¬ (Int32.ofNat p) = (Int32.ofNat c)) => ?_) (fun (c1 : ¬ (¬ (Int32.ofNat p) = (Int32.ofNat c))) => ?_)
  · refine Wp.seg 2 (pc1 := 34) (ls1 := [some (.ref 0), some (.int (Int32.ofNat p)), some (.int (w)), none]) (st1 := [.int (Int32.ofNat p), .ref 0]) rfl ?_
    refine Wp.invV (d2 := 1) (as := [.ref 0, .int (Int32.ofNat p)]) (r := []) (t := (10, 0)) rfl rfl rfl rfl (WF.t hw 0 rfl) rfl rfl ⟨rfl, rfl⟩ (by omega) (c_lc hw hk hp (Nat.le_refl _) ?_)
    show Wp d 118 37 [some (.ref 0), some (.int (Int32.ofNat p)), some (.int (w)), none] [.int (Int32.ofNat (cutN c p (A 3)))] h Q
    refine Wp.seg 2 (pc1 := 39) (ls1 := [some (.ref 0), some (.int (Int32.ofNat p)), some (.int (w)), some (.int (Int32.ofNat (cutN c p (A 3))))]) (st1 := [.int (w)]) rfl ?_
    refine Wp.if1 rfl (fun (c2 : ¬ w = 0) => ?_) (fun (c2 : ¬ (¬ w = 0)) => ?_)
    · refine Wp.seg 1 (pc1 := 50) (ls1 := [some (.ref 0), some (.int (Int32.ofNat p)), some (.int (w)), some (.int (Int32.ofNat (cutN c p (A 3))))]) (st1 := [.int (Int32.ofNat (cutN c p (A 3)))]) rfl ?_
      exact Wp.reti rfl rfl ((hQ.1 c1).1 c2)
    · refine Wp.seg 1 (pc1 := 43) (ls1 := [some (.ref 0), some (.int (Int32.ofNat p)), some (.int (w)), some (.int (Int32.ofNat (cutN c p (A 3))))]) (st1 := [.int (Int32.ofNat (cutN c p (A 3)))]) rfl ?_
      refine Wp.inv (d2 := 0) (as := [.int (Int32.ofNat (cutN c p (A 3)))]) (r := []) rfl rfl rfl rfl rfl rfl (by omega) (s_bitCount (Nat.le_refl _) ?_)
      show Wp d 118 46 [some (.ref 0), some (.int (Int32.ofNat p)), some (.int (w)), some (.int (Int32.ofNat (cutN c p (A 3))))] [.int (f_bitCount (Int32.ofNat (cutN c p (A 3))))] h Q
      refine Wp.seg 1 (pc1 := 50) (ls1 := [some (.ref 0), some (.int (Int32.ofNat p)), some (.int (w)), some (.int (Int32.ofNat (cutN c p (A 3))))]) (st1 := [.int (f_bitCount (Int32.ofNat (cutN c p (A 3))))]) rfl ?_
      exact Wp.reti rfl rfl ((hQ.1 c1).2 c2)
  · refine Wp.seg 1 (pc1 := 31) (ls1 := [some (.ref 0), some (.int (Int32.ofNat p)), some (.int (w)), none]) (st1 := [.int (-3)]) rfl ?_
    exact Wp.reti rfl rfl (hQ.2 c1)
theorem c_cut {d : Nat} {h : KH} (hw : WF h) {A : Nat → Int32} {RL : List Rul} {n c dn en : Nat} (hk : cityOK h 1 A RL n c dn en) (hd : 2 ≤ d) {v w : Int32} : Cl d 118 [.ref 0, .int v, .int w] h (qu (cutS c A v w) h) := by
  have hc := hk.2.1.2.2.1
  unfold cutS
  have bad : ¬ (inB v 0 11 = true ∧ inB w 0 1 = true) → qu (if inB v 0 11 = true ∧ inB w 0 1 = true then (if v = Int32.ofNat c then -3 else if w = 0 then Int32.ofNat (popF 17 (cutN c v.toNatClampNeg (A 3))) else Int32.ofNat (cutN c v.toNatClampNeg (A 3))) else -1) h (some (.int (-1)), h) := fun z => by
    rw [if_neg z]
    exact qu_i (Quiet.refl h)
  refine t_cct (by omega) ⟨fun q => bad (fun z => by rw [q] at z; cases z.1), fun q => ⟨fun c1 => bad (fun z => ?_), fun c1 => ⟨fun c2 => ?_, fun c2 => bad (fun z => ?_)⟩⟩⟩
  · have k1 := (zlt (rfl : w.toInt = w.toInt) (show (0 : Int32).toInt = 0 from rfl)).mp c1
    have := of_decide_eq_true z.2
    omega
  · have k1 := mt (zlt (rfl : w.toInt = w.toInt) (show (0 : Int32).toInt = 0 from rfl)).mpr c1
    have k2 := (zle (rfl : w.toInt = w.toInt) (show (1 : Int32).toInt = 1 from rfl)).mp c2
    rw [if_pos ⟨q, inB_t (by omega)⟩]
    obtain ⟨p, hp, rfl⟩ := inB_nat (b := 11) q
    rw [clamp_ofNat (by omega)]
    refine t_cctB hw hk (by omega) hd ⟨fun c3 => ⟨fun c4 => ?_, fun c4 => ?_⟩, fun c3 => ?_⟩
    · rw [if_neg c3, if_neg c4]
      exact qu_i (Quiet.refl h)
    · have hne : c ≠ p := fun e => c3 (by rw [e])
      rw [if_neg c3, if_pos (Decidable.not_not.mp c4), bc_pop (cut_ok hc (by omega) hne).2.1]
      exact qu_i (Quiet.refl h)
    · rw [if_pos (Decidable.not_not.mp c3)]
      exact qu_i (Quiet.refl h)
  · have k2 := mt (zle (rfl : w.toInt = w.toInt) (show (1 : Int32).toInt = 1 from rfl)).mpr c2
    have := of_decide_eq_true z.2
    omega
set_option maxHeartbeats 4000000 in
theorem t_glC {d : Nat} {Q : KO → Prop} {h : KH} (hw : WF h) {A : Nat → Int32} {RL : List Rul} {n c dn en : Nat} (hk : refOK h A RL n c dn en) {p s : Nat} {m : Int32} {y z : Option Value} (hs : s < 131072) (hd : 3 ≤ d) (hQ : (¬ ((Int32.ofNat s) &&& (A 3)) = 0 → Wp d 231 45 ([some (.ref 59), some (.int (Int32.ofNat p)), some (.int (m)), some (.int (Int32.ofNat s)), y, z]) [] h Q) ∧ (¬ (¬ ((Int32.ofNat s) &&& (A 3)) = 0) → (¬ (((shutS (Int32.ofNat c) ((A 3) ||| (Int32.ofNat s))) >>> ((Int32.ofNat p) &&& 31)) &&& (1 : Int32)) = (1 : Int32) → Wp d 231 45 ([some (.ref 59), some (.int (Int32.ofNat p)), some (.int (m)), some (.int (Int32.ofNat s)), y, z]) [] h Q) ∧ (¬ (¬ (((shutS (Int32.ofNat c) ((A 3) ||| (Int32.ofNat s))) >>> ((Int32.ofNat p) &&& 31)) &&& (1 : Int32)) = (1 : Int32)) → Q (some (.int (Int32.ofNat s)), h)))) : Wp d 231 6 [some (.ref 59), some (.int (Int32.ofNat p)), some (.int (m)), some (.int (Int32.ofNat s)), y, z] [] h Q := by
  refine Wp.seg 2 (pc1 := 9) (ls1 := [some (.ref 59), some (.int (Int32.ofNat p)), some (.int (m)), some (.int (Int32.ofNat s)), y, z]) (st1 := [.int (131071), .int (Int32.ofNat s)]) rfl ?_
  refine Wp.if2 rfl (fun c1 => absurd c1 (fun c => by have := (zlt (m := 131071) rfl (znat (n := s) (by omega))).mp c; omega)) (fun c1 => ?_)
  refine Wp.seg 2 (pc1 := 14) (ls1 := [some (.ref 59), some (.int (Int32.ofNat p)), some (.int (m)), some (.int (Int32.ofNat s)), y, z]) (st1 := [.ref 59, .int (Int32.ofNat s)]) rfl ?_
  refine Wp.gr (t := (11, 0)) (v := some (60)) rfl (WF.t hw 59 rfl) rfl (WF.r hw 59 0 58 rfl) ?_
  show Wp d 231 17 [some (.ref 59), some (.int (Int32.ofNat p)), some (.int (m)), some (.int (Int32.ofNat s)), y, z] [.ref 60, .int (Int32.ofNat s)] h Q
  refine Wp.seg 1 (pc1 := 18) (ls1 := [some (.ref 59), some (.int (Int32.ofNat p)), some (.int (m)), some (.int (Int32.ofNat s)), y, z]) (st1 := [.int (3), .ref 60, .int (Int32.ofNat s)]) rfl ?_
  refine Wp.iald (j := 3) (k := 20) (n := 585) rfl (WF.t hw 60 rfl) rfl rfl (by decide) (by decide) ?_
  rw [show h.2.2.1 60 3 = A 3 from (congrFun hk.1 3)]
  refine Wp.seg 1 (pc1 := 20) (ls1 := [some (.ref 59), some (.int (Int32.ofNat p)), some (.int (m)), some (.int (Int32.ofNat s)), y, z]) (st1 := [.int ((Int32.ofNat s) &&& (A 3))]) rfl ?_
  refine Wp.if1 rfl (fun (c2 : ¬ ((Int32.ofNat s) &&& (A 3)) = 0) => ?_) (fun (c2 : ¬ (¬ ((Int32.ofNat s) &&& (A 3)) = 0)) => ?_)
  · exact (hQ.1 c2)
  · refine Wp.seg 2 (pc1 := 25) (ls1 := [some (.ref 59), some (.int (Int32.ofNat p)), some (.int (m)), some (.int (Int32.ofNat s)), y, z]) (st1 := [.ref 59, .ref 59]) rfl ?_
    refine Wp.gr (t := (11, 0)) (v := some (60)) rfl (WF.t hw 59 rfl) rfl (WF.r hw 59 0 58 rfl) ?_
    show Wp d 231 28 [some (.ref 59), some (.int (Int32.ofNat p)), some (.int (m)), some (.int (Int32.ofNat s)), y, z] [.ref 60, .ref 59] h Q
    refine Wp.seg 1 (pc1 := 29) (ls1 := [some (.ref 59), some (.int (Int32.ofNat p)), some (.int (m)), some (.int (Int32.ofNat s)), y, z]) (st1 := [.int (3), .ref 60, .ref 59]) rfl ?_
    refine Wp.iald (j := 3) (k := 20) (n := 585) rfl (WF.t hw 60 rfl) rfl rfl (by decide) (by decide) ?_
    rw [show h.2.2.1 60 3 = A 3 from (congrFun hk.1 3)]
    refine Wp.seg 2 (pc1 := 32) (ls1 := [some (.ref 59), some (.int (Int32.ofNat p)), some (.int (m)), some (.int (Int32.ofNat s)), y, z]) (st1 := [.int ((A 3) ||| (Int32.ofNat s)), .ref 59]) rfl ?_
    refine Wp.invV (d2 := 2) (as := [.ref 59, .int ((A 3) ||| (Int32.ofNat s))]) (r := []) (t := (11, 0)) rfl rfl rfl rfl (WF.t hw 59 rfl) rfl rfl ⟨rfl, rfl⟩ (by omega) (r_shutBy hw hk (Nat.le_refl _) ?_)
    show Wp d 231 35 [some (.ref 59), some (.int (Int32.ofNat p)), some (.int (m)), some (.int (Int32.ofNat s)), y, z] [.int (shutS (Int32.ofNat c) ((A 3) ||| (Int32.ofNat s)))] h Q
    refine Wp.seg 5 (pc1 := 40) (ls1 := [some (.ref 59), some (.int (Int32.ofNat p)), some (.int (m)), some (.int (Int32.ofNat s)), y, z]) (st1 := [.int (1), .int (((shutS (Int32.ofNat c) ((A 3) ||| (Int32.ofNat s))) >>> ((Int32.ofNat p) &&& 31)) &&& (1 : Int32))]) rfl ?_
    refine Wp.if2 rfl (fun (c3 : ¬ (((shutS (Int32.ofNat c) ((A 3) ||| (Int32.ofNat s))) >>> ((Int32.ofNat p) &&& 31)) &&& (1 : Int32)) = (1 : Int32)) => ?_) (fun (c3 : ¬ (¬ (((shutS (Int32.ofNat c) ((A 3) ||| (Int32.ofNat s))) >>> ((Int32.ofNat p) &&& 31)) &&& (1 : Int32)) = (1 : Int32))) => ?_)
    · exact ((hQ.2 c2).1 c3)
    · refine Wp.seg 1 (pc1 := 44) (ls1 := [some (.ref 59), some (.int (Int32.ofNat p)), some (.int (m)), some (.int (Int32.ofNat s)), y, z]) (st1 := [.int (Int32.ofNat s)]) rfl ?_
      exact Wp.reti rfl rfl ((hQ.2 c2).2 c3)
set_option maxHeartbeats 4000000 in
theorem t_glX {d : Nat} {Q : KO → Prop} {h : KH} {p m x : Int32} {y z : Option Value} (hx : (131071 : Int32) < x) (hd : 0 ≤ d) (hQ : Q (some (.int (-1)), h)) : Wp d 231 6 [some (.ref 59), some (.int (p)), some (.int (m)), some (.int (x)), y, z] [] h Q := by
  refine Wp.seg 2 (pc1 := 9) (ls1 := [some (.ref 59), some (.int (p)), some (.int (m)), some (.int (x)), y, z]) (st1 := [.int (131071), .int (x)]) rfl ?_
  refine Wp.if2 rfl (fun c1 => ?_) (fun c1 => absurd (hx) c1)
  refine Wp.seg 1 (pc1 := 89) (ls1 := [some (.ref 59), some (.int (p)), some (.int (m)), some (.int (x)), y, z]) (st1 := [.int (-1)]) rfl ?_
  exact Wp.reti rfl rfl hQ
set_option maxHeartbeats 4000000 in
theorem t_glN {d : Nat} {Q : KO → Prop} {h : KH} {p m x : Int32} {y z : Option Value} (hlow : ¬ (x &&& (-x)) = 0) (hclr : clrR 17 ((x &&& (-x)) - (1 : Int32)) = 0) (hd : 1 ≤ d) (hQ : Wp d 231 6 ([some (.ref 59), some (.int (p)), some (.int (m)), some (.int ((x + (x &&& (-x))) ||| (kushr ((x + (x &&& (-x))) ^^^ x) ((2 : Int32) + (popS ((x &&& (-x)) - (1 : Int32))))))), some (.int (x &&& (-x))), some (.int (x + (x &&& (-x))))]) [] h Q) : Wp d 231 45 [some (.ref 59), some (.int (p)), some (.int (m)), some (.int (x)), y, z] [] h Q := by
  refine Wp.seg 10 (pc1 := 59) (ls1 := [some (.ref 59), some (.int (p)), some (.int (m)), some (.int (x)), some (.int (x &&& (-x))), some (.int (x + (x &&& (-x))))]) (st1 := [.int (x &&& (-x))]) rfl ?_
  refine Wp.if1 rfl (fun c1 => ?_) (fun c1 => absurd (hlow) c1)
  refine Wp.seg 8 (pc1 := 78) (ls1 := [some (.ref 59), some (.int (p)), some (.int (m)), some (.int (x)), some (.int (x &&& (-x))), some (.int (x + (x &&& (-x))))]) (st1 := [.int ((x &&& (-x)) - (1 : Int32)), .int (2), .int ((x + (x &&& (-x))) ^^^ x), .int (x + (x &&& (-x)))]) rfl ?_
  refine Wp.inv (d2 := 0) (as := [.int ((x &&& (-x)) - (1 : Int32))]) (r := [.int (2), .int ((x + (x &&& (-x))) ^^^ x), .int (x + (x &&& (-x)))]) rfl rfl rfl rfl rfl rfl (by omega) (s_bits hclr ?_)
  show Wp d 231 81 [some (.ref 59), some (.int (p)), some (.int (m)), some (.int (x)), some (.int (x &&& (-x))), some (.int (x + (x &&& (-x))))] [.int (popS ((x &&& (-x)) - (1 : Int32))), .int (2), .int ((x + (x &&& (-x))) ^^^ x), .int (x + (x &&& (-x)))] h Q
  refine Wp.seg 5 (pc1 := 6) (ls1 := [some (.ref 59), some (.int (p)), some (.int (m)), some (.int ((x + (x &&& (-x))) ||| (kushr ((x + (x &&& (-x))) ^^^ x) ((2 : Int32) + (popS ((x &&& (-x)) - (1 : Int32))))))), some (.int (x &&& (-x))), some (.int (x + (x &&& (-x))))]) (st1 := []) rfl ?_
  exact hQ
set_option maxHeartbeats 4000000 in
theorem t_gl0 {d : Nat} {Q : KO → Prop} {h : KH} {p m x : Int32} {y z : Option Value} (hlow : (x &&& (-x)) = 0) (hd : 0 ≤ d) (hQ : Wp d 231 6 ([some (.ref 59), some (.int (p)), some (.int (m)), some (.int (131072)), some (.int (x &&& (-x))), some (.int (x + (x &&& (-x))))]) [] h Q) : Wp d 231 45 [some (.ref 59), some (.int (p)), some (.int (m)), some (.int (x)), y, z] [] h Q := by
  refine Wp.seg 10 (pc1 := 59) (ls1 := [some (.ref 59), some (.int (p)), some (.int (m)), some (.int (x)), some (.int (x &&& (-x))), some (.int (x + (x &&& (-x))))]) (st1 := [.int (x &&& (-x))]) rfl ?_
  refine Wp.if1 rfl (fun c1 => absurd c1 (fun c => c hlow)) (fun c1 => ?_)
  refine Wp.seg 4 (pc1 := 6) (ls1 := [some (.ref 59), some (.int (p)), some (.int (m)), some (.int (131072)), some (.int (x &&& (-x))), some (.int (x + (x &&& (-x))))]) (st1 := []) rfl ?_
  exact hQ
set_option maxHeartbeats 4000000 in
theorem t_gl {d : Nat} {Q : KO → Prop} {h : KH} {p m : Int32} (hd : 3 ≤ d) (hQ : Wp d 231 6 ([some (.ref 59), some (.int (p)), some (.int (m)), some (.int (((1 : Int32) <<< (m &&& 31)) - (1 : Int32))), none, none]) [] h Q) : Cl d 231 [.ref 59, .int (p), .int (m)] h Q := by
  refine Cl.of (ls := [some (.ref 59), some (.int (p)), some (.int (m)), none, none, none]) rfl rfl ?_
  refine Wp.seg 6 (pc1 := 6) (ls1 := [some (.ref 59), some (.int (p)), some (.int (m)), some (.int (((1 : Int32) <<< (m &&& 31)) - (1 : Int32))), none, none]) (st1 := []) rfl ?_
  exact hQ
theorem gsN_lt {P o z : Nat} (ho : 0 < o) (hs : gsS P o z < 131072) : gsN P o z < 1000000 := by
  have hm := gs_m ho hs
  have h1 : 2 ^ (z + o) ≤ 2 ^ 17 := Nat.pow_le_pow_right (by decide) hm
  have h2 : 2 ^ (o - 1) ≤ 2 ^ 17 := Nat.pow_le_pow_right (by decide) (by omega)
  unfold gsS at hs
  unfold gsN
  rw [Nat.mul_add, Nat.mul_one]
  omega
/-- what the reference finds with so many edges -/
def glR (M k : Nat) : Int32 := if k = popF 17 M then Int32.ofNat M else -1
theorem r_lcL {d : Nat} {Q : KO → Prop} {h : KH} (hw : WF h) {A : Nat → Int32} {RL : List Rul} {n c dn en : Nat} (hk : refOK h A RL n c dn en) {p M k : Nat} {m : Int32} (hp : p < 12) (hMF : inF c (A 3) p M) (hM : M < 131072) (hmin : ∀ T, T < 131072 → inF c (A 3) p T → lexle M T) (hd : 3 ≤ d) : ∀ (f s : Nat) (y z : Option Value), 131072 - s ≤ f → s < 131072 → popF 17 s = k → (k < popF 17 M ∨ (k = popF 17 M ∧ s ≤ M)) → Q (some (.int (glR M k)), h) →
    Wp d 231 6 [some (.ref 59), some (.int (Int32.ofNat p)), some (.int m), some (.int (Int32.ofNat s)), y, z] [] h Q
  | 0, s, y, z, hf, hs, hps, hkM, hQ => by omega
  | f + 1, s, y, z, hf, hs, hps, hkM, hQ => by
    have nF : ¬ inF c (A 3) p s → Wp d 231 45 [some (.ref 59), some (.int (Int32.ofNat p)), some (.int m), some (.int (Int32.ofNat s)), y, z] [] h Q := by
      intro hnF
      have hsM : s ≠ M := fun e => hnF (by rw [e]; exact hMF)
      by_cases s0 : s = 0
      · subst s0
        refine t_gl0 (by decide) (Nat.zero_le _) (t_glX (by decide) (Nat.zero_le _) ?_)
        have : k ≠ popF 17 M := fun e => by
          have h0 : popF 17 M = 0 := by rw [← e, ← hps]; exact popF_0 17
          have := mt (popF_pos 17 M hM) (by omega)
          omega
        unfold glR at hQ
        rw [if_neg this] at hQ
        exact hQ
      · obtain ⟨P, o, zz, ho, he⟩ := gs_ex (s + 1) s (by omega) (by omega)
        rw [he] at hs hps
        obtain ⟨g1, g2, g3⟩ := gos_ok ho hs
        have hN := gsN_lt ho hs
        rw [he]
        refine t_glN g3 g2 (by omega) ?_
        show Wp d 231 6 [some (.ref 59), some (.int (Int32.ofNat p)), some (.int m), some (.int (gosN (Int32.ofNat (gsS P o zz)))), _, _] [] h Q
        rw [g1]
        have big : k = popF 17 M → gsN P o zz ≤ M := fun e => gs_next ho hs hM (by rw [← he]; omega) (by rw [hps, e])
        by_cases hb : gsN P o zz < 131072
        · obtain ⟨n1, n2⟩ := gs_nextp ho hs hb
          refine r_lcL hw hk hp hMF hM hmin hd f (gsN P o zz) _ _ (by omega) hb (by rw [n1, hps]) ?_ hQ
          rcases hkM with hkM | ⟨hkM, -⟩
          · exact Or.inl hkM
          · exact Or.inr ⟨hkM, big hkM⟩
        · refine t_glX ((zlt (m := 131071) rfl (znat (n := gsN P o zz) (by omega))).mpr (by omega)) (Nat.zero_le _) ?_
          have : k ≠ popF 17 M := fun e => by have := big e; omega
          unfold glR at hQ
          rw [if_neg this] at hQ
          exact hQ
    refine t_glC hw hk hs hd ⟨fun c1 => nF (fun z => c1 z.1), fun c1 => ⟨fun c2 => nF (fun z => c2 ((bt_low (by omega)).mpr z.2)), fun c2 => ?_⟩⟩
    have hF : inF c (A 3) p s := ⟨Decidable.not_not.mp c1, (bt_low (by omega)).mp (Decidable.not_not.mp c2)⟩
    have := hmin s hs hF
    have e : s = M ∧ k = popF 17 M := by
      unfold lexle at this
      omega
    unfold glR at hQ
    rw [if_pos e.2, ← e.1] at hQ
    exact hQ
theorem gl_start : kall1 18 (fun k => decide (((1 : Int32) <<< (Int32.ofNat k &&& 31)) - 1 = Int32.ofNat (2 ^ k - 1)) && (Nat.beq (popF 17 (2 ^ k - 1)) k && Nat.blt (2 ^ k - 1) 131072)) = true := by decide +kernel
theorem r_lc {d : Nat} {Q : KO → Prop} {h : KH} (hw : WF h) {A : Nat → Int32} {RL : List Rul} {n c dn en : Nat} (hk : refOK h A RL n c dn en) {p M k : Nat} {m : Int32} (hm : m = Int32.ofNat k) (hp : p < 12) (hMF : inF c (A 3) p M) (hM : M < 131072) (hmin : ∀ T, T < 131072 → inF c (A 3) p T → lexle M T) (hkM : k ≤ popF 17 M) (hd : 3 ≤ d) (hQ : Q (some (.int (glR M k)), h)) : Cl d 231 [.ref 59, .int (Int32.ofNat p), .int m] h Q := by
  subst hm
  have h17 := popF_le 17 M
  have hs := kall1_ok gl_start (i := k) (by omega)
  simp only [Bool.and_eq_true, decide_eq_true_eq] at hs
  obtain ⟨s1, s2, s3⟩ := hs
  have s2' := Nat.eq_of_beq_eq_true s2
  rw [Nat.blt_eq] at s3
  refine t_gl hd ?_
  rw [s1]
  refine r_lcL hw hk hp hMF hM hmin hd 131072 (2 ^ k - 1) _ _ (by omega) s3 s2' ?_ hQ
  by_cases q : k = popF 17 M
  · refine Or.inr ⟨q, Nat.le_of_not_lt fun hlt => ?_⟩
    have hp0 : 0 < 2 ^ k := Nat.pow_pos (by decide)
    have e : popF 17 M = popF k M := by
      have := popF_small (17 - k) k M (by omega)
      rw [show k + (17 - k) = 17 by omega] at this
      exact this
    have := popF_full k M (by omega) (by omega)
    omega
  · exact Or.inl (by omega)
set_option maxHeartbeats 4000000 in
theorem t_mct {d : Nat} {Q : KO → Prop} {h : KH} {v w : Int32} (hd : 2 ≤ d) (hQ : ((inB v 0 11) = false → Q (some (.int (-1)), h)) ∧ ((inB v 0 11) = true → ((inB w 0 1) = true → Wp d 232 18 ([some (.ref 59), some (.int (v)), some (.int (w)), none, none]) [] h Q) ∧ ((inB w 0 1) = false → Q (some (.int (-1)), h)))) : Cl d 232 [.ref 59, .int (v), .int (w)] h Q := by
  refine Cl.of (ls := [some (.ref 59), some (.int (v)), some (.int (w)), none, none]) rfl rfl ?_
  refine Wp.seg 1 (pc1 := 1) (ls1 := [some (.ref 59), some (.int (v)), some (.int (w)), none, none]) (st1 := [.int (v)]) rfl ?_
  refine Wp.inv (d2 := 1) (as := [.int (v)]) (r := []) rfl rfl rfl rfl rfl rfl (by omega) (s_b176 (Nat.le_refl _) ?_)
  show Wp d 232 4 [some (.ref 59), some (.int (v)), some (.int (w)), none, none] [.int (b32 (inB v 0 11))] h Q
  refine Wp.ifz rfl (fun (c1 : (inB v 0 11) = false) => ?_) (fun (c1 : (inB v 0 11) = true) => ?_)
  · refine Wp.seg 1 (pc1 := 17) (ls1 := [some (.ref 59), some (.int (v)), some (.int (w)), none, none]) (st1 := [.int (-1)]) rfl ?_
    exact Wp.reti rfl rfl (hQ.1 c1)
  · refine Wp.seg 3 (pc1 := 10) (ls1 := [some (.ref 59), some (.int (v)), some (.int (w)), none, none]) (st1 := [.int (1), .int (0), .int (w)]) rfl ?_
    refine Wp.inv (d2 := 0) (as := [.int (w), .int (0), .int (1)]) (r := []) rfl rfl rfl rfl rfl rfl (by omega) (s_inB (x := 0) (y := 1) rfl rfl ?_)
    show Wp d 232 13 [some (.ref 59), some (.int (v)), some (.int (w)), none, none] [.int (b32 (inB w 0 1))] h Q
    refine Wp.ifnz rfl (fun (c2 : (inB w 0 1) = true) => ?_) (fun (c2 : (inB w 0 1) = false) => ?_)
    · exact ((hQ.2 c1).1 c2)
    · refine Wp.seg 1 (pc1 := 17) (ls1 := [some (.ref 59), some (.int (v)), some (.int (w)), none, none]) (st1 := [.int (-1)]) rfl ?_
      exact Wp.reti rfl rfl ((hQ.2 c1).2 c2)
set_option maxHeartbeats 4000000 in
theorem t_mctS {d : Nat} {Q : KO → Prop} {h : KH} (hw : WF h) {A : Nat → Int32} {RL : List Rul} {n c dn en : Nat} (hk : refOK h A RL n c dn en) {v w : Int32} (hd : 1 ≤ d) (hQ : (¬ v = (Int32.ofNat c) → Wp d 232 36 ([some (.ref 59), some (.int (v)), some (.int (w)), some (.int (-1)), some (.int (-1))]) [] h Q) ∧ (¬ (¬ v = (Int32.ofNat c)) → Q (some (.int (-3)), h))) : Wp d 232 18 [some (.ref 59), some (.int (v)), some (.int (w)), none, none] [] h Q := by
  refine Wp.seg 2 (pc1 := 20) (ls1 := [some (.ref 59), some (.int (v)), some (.int (w)), none, none]) (st1 := [.ref 59, .int (v)]) rfl ?_
  refine Wp.gr (t := (11, 0)) (v := some (60)) rfl (WF.t hw 59 rfl) rfl (WF.r hw 59 0 58 rfl) ?_
  show Wp d 232 23 [some (.ref 59), some (.int (v)), some (.int (w)), none, none] [.ref 60, .int (v)] h Q
  refine Wp.seg 1 (pc1 := 24) (ls1 := [some (.ref 59), some (.int (v)), some (.int (w)), none, none]) (st1 := [.int (2), .ref 60, .int (v)]) rfl ?_
  refine Wp.iald (j := 2) (k := 20) (n := 585) rfl (WF.t hw 60 rfl) rfl rfl (by decide) (by decide) ?_
  rw [show h.2.2.1 60 2 = Int32.ofNat c from hk.2.1.2.2.2.1]
  refine Wp.if2 rfl (fun (c1 : ¬ v = (Int32.ofNat c)) => ?_) (fun (c1 : ¬ (¬ v = (Int32.ofNat c))) => ?_)
  · refine Wp.seg 4 (pc1 := 36) (ls1 := [some (.ref 59), some (.int (v)), some (.int (w)), some (.int (-1)), some (.int (-1))]) (st1 := []) rfl ?_
    exact (hQ.1 c1)
  · refine Wp.seg 1 (pc1 := 30) (ls1 := [some (.ref 59), some (.int (v)), some (.int (w)), none, none]) (st1 := [.int (-3)]) rfl ?_
    exact Wp.reti rfl rfl (hQ.2 c1)
set_option maxHeartbeats 4000000 in
theorem t_mctB {d : Nat} {Q : KO → Prop} {h : KH} (hw : WF h) {v w s mm r : Int32} (hs : ¬ 0 ≤ s) (hlc : ∀ Q : KO → Prop, Q (some (.int r), h) → Cl 3 231 [.ref 59, .int v, .int (mm + (1 : Int32))] h Q) (hd : 4 ≤ d) (hQ : Wp d 232 36 ([some (.ref 59), some (.int (v)), some (.int (w)), some (.int (r)), some (.int (mm + 1))]) [] h Q) : Wp d 232 36 [some (.ref 59), some (.int (v)), some (.int (w)), some (.int (s)), some (.int (mm))] [] h Q := by
  refine Wp.seg 1 (pc1 := 37) (ls1 := [some (.ref 59), some (.int (v)), some (.int (w)), some (.int (s)), some (.int (mm))]) (st1 := [.int (s)]) rfl ?_
  refine Wp.if1 rfl (fun c1 => absurd c1 (hs)) (fun c1 => ?_)
  refine Wp.seg 4 (pc1 := 47) (ls1 := [some (.ref 59), some (.int (v)), some (.int (w)), some (.int (s)), some (.int (mm + 1))]) (st1 := [.int (mm + 1), .int (v), .ref 59]) rfl ?_
  refine Wp.invV (d2 := 3) (as := [.ref 59, .int (v), .int (mm + 1)]) (r := []) (t := (11, 0)) rfl rfl rfl rfl (WF.t hw 59 rfl) rfl rfl ⟨rfl, rfl⟩ (by omega) (hlc _ ?_)
  show Wp d 232 50 [some (.ref 59), some (.int (v)), some (.int (w)), some (.int (s)), some (.int (mm + 1))] [.int (r)] h Q
  refine Wp.seg 2 (pc1 := 36) (ls1 := [some (.ref 59), some (.int (v)), some (.int (w)), some (.int (r)), some (.int (mm + 1))]) (st1 := []) rfl ?_
  exact hQ
set_option maxHeartbeats 4000000 in
theorem t_mctE {d : Nat} {Q : KO → Prop} {h : KH} {v w s mm : Int32} (hs : 0 ≤ s) (hd : 0 ≤ d) (hQ : (¬ w = 0 → Q (some (.int (s)), h)) ∧ (¬ (¬ w = 0) → Q (some (.int (mm)), h))) : Wp d 232 36 [some (.ref 59), some (.int (v)), some (.int (w)), some (.int (s)), some (.int (mm))] [] h Q := by
  refine Wp.seg 1 (pc1 := 37) (ls1 := [some (.ref 59), some (.int (v)), some (.int (w)), some (.int (s)), some (.int (mm))]) (st1 := [.int (s)]) rfl ?_
  refine Wp.if1 rfl (fun c1 => ?_) (fun c1 => absurd (hs) c1)
  refine Wp.seg 1 (pc1 := 55) (ls1 := [some (.ref 59), some (.int (v)), some (.int (w)), some (.int (s)), some (.int (mm))]) (st1 := [.int (w)]) rfl ?_
  refine Wp.if1 rfl (fun (c2 : ¬ w = 0) => ?_) (fun (c2 : ¬ (¬ w = 0)) => ?_)
  · refine Wp.seg 1 (pc1 := 64) (ls1 := [some (.ref 59), some (.int (v)), some (.int (w)), some (.int (s)), some (.int (mm))]) (st1 := [.int (s)]) rfl ?_
    exact Wp.reti rfl rfl (hQ.1 c2)
  · refine Wp.seg 2 (pc1 := 64) (ls1 := [some (.ref 59), some (.int (v)), some (.int (w)), some (.int (s)), some (.int (mm))]) (st1 := [.int (mm)]) rfl ?_
    exact Wp.reti rfl rfl (hQ.2 c2)
theorem m_cutL {d : Nat} {Q : KO → Prop} {h : KH} (hw : WF h) {A : Nat → Int32} {RL : List Rul} {n c dn en : Nat} (hk : refOK h A RL n c dn en) {p M : Nat} {w : Int32} (hp : p < 12) (hMF : inF c (A 3) p M) (hM : M < 131072) (hmin : ∀ T, T < 131072 → inF c (A 3) p T → lexle M T) (hd : 4 ≤ d) (hQ : Q (some (.int (if w = 0 then Int32.ofNat (popF 17 M) else Int32.ofNat M)), h)) : ∀ (j k : Nat) (mm s : Int32), k + j = popF 17 M → mm + 1 = Int32.ofNat k → ¬ 0 ≤ s → Wp d 232 36 [some (.ref 59), some (.int (Int32.ofNat p)), some (.int w), some (.int s), some (.int mm)] [] h Q
  | j, k, mm, s, hkj, hmm, hs => by
    refine t_mctB hw (r := glR M k) hs (fun Q2 q2 => r_lc hw hk hmm hp hMF hM hmin (by omega) (Nat.le_refl _) q2) hd ?_
    rw [hmm]
    match j, hkj with
    | 0, hkj =>
      have e : k = popF 17 M := hkj
      have eg : glR M k = Int32.ofNat M := by
        unfold glR
        rw [if_pos e]
      rw [eg, e]
      refine t_mctE ((zle (m := 0) rfl (znat (n := M) (by omega))).mpr (by omega)) (Nat.zero_le _) ⟨fun c1 => ?_, fun c1 => ?_⟩
      · rw [if_neg c1] at hQ
        exact hQ
      · rw [if_pos (Decidable.not_not.mp c1)] at hQ
        exact hQ
    | j + 1, hkj =>
      have eg : glR M k = -1 := by
        unfold glR
        rw [if_neg (by omega)]
      rw [eg]
      exact m_cutL hw hk hp hMF hM hmin hd hQ j (k + 1) _ _ (by omega) (ofadd k 1) (by decide)
theorem m_cut {d : Nat} {h : KH} (hw : WF h) {A : Nat → Int32} {RL : List Rul} {n c dn en : Nat} (hk : refOK h A RL n c dn en) (hd : 4 ≤ d) {v w : Int32} : Cl d 232 [.ref 59, .int v, .int w] h (qu (cutS c A v w) h) := by
  have hc := hk.2.1.2.2.1
  unfold cutS
  refine t_mct (by omega) ?_
  have bad : ¬ (inB v 0 11 = true ∧ inB w 0 1 = true) → qu (if inB v 0 11 = true ∧ inB w 0 1 = true then (if v = Int32.ofNat c then -3 else if w = 0 then Int32.ofNat (popF 17 (cutN c v.toNatClampNeg (A 3))) else Int32.ofNat (cutN c v.toNatClampNeg (A 3))) else -1) h (some (.int (-1)), h) := fun z => by
    rw [if_neg z]
    exact qu_i (Quiet.refl h)
  refine ⟨fun q => bad (fun z => by rw [q] at z; cases z.1), fun q => ⟨fun q2 => ?_, fun q2 => bad (fun z => by rw [q2] at z; cases z.2)⟩⟩
  rw [if_pos ⟨q, q2⟩]
  obtain ⟨p, hp, rfl⟩ := inB_nat (b := 11) q
  rw [clamp_ofNat (by omega)]
  refine t_mctS hw hk (by omega) ⟨fun c1 => ?_, fun c1 => ?_⟩
  · have hne : c ≠ p := fun e => c1 (by rw [e])
    obtain ⟨g1, g2, g3⟩ := cut_ok (l := A 3) hc (show p < 12 by omega) hne
    rw [if_neg c1]
    exact m_cutL hw hk (by omega) g1 g2 g3 hd (qu_i (Quiet.refl h)) (popF 17 (cutN c p (A 3))) 0 (-1) (-1) (by omega) (by decide) (by decide)
  · rw [if_pos (Decidable.not_not.mp c1)]
    exact qu_i (Quiet.refl h)
