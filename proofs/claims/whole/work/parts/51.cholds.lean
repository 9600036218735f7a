/-! KM: the class, whether a condition holds -/
theorem bx1 (c : Bool) (i : Nat) : bt (b32 c) i = (decide (i = 0) && c) := by
  by_cases hi : i < 32
  · cases c with
    | false => exact (bt_0 i).trans (by simp)
    | true => exact (of_decide_eq_true (kall1_ok bt_1 hi)).trans (by simp)
  · rw [bt_hi (by omega)]
    simp; omega
theorem bt_xor (x y : Int32) (i : Nat) : bt (x ^^^ y) i = (bt x i ^^ bt y i) := by
  unfold bt
  rw [Int32.toBitVec_xor, BitVec.getLsbD_xor]
theorem bt_kus1 (x : Int32) (i : Nat) : bt (kushr x 1) i = bt x (i + 1) := by
  have e : (kushr x 1).toBitVec = x.toBitVec >>> 1 := rfl
  unfold bt
  rw [e, BitVec.getLsbD_ushiftRight, Nat.add_comm]
theorem bm2 : kall1 32 (fun i => bt (-2) i == decide (0 < i)) = true := by decide +kernel
theorem bt_m2 {i : Nat} (h : i < 32) : bt (-2) i = decide (0 < i) := by
  have := kall1_ok bm2 h
  simpa using this
/-- the latest truths are the lowest bits -/
def bitR (x : Int32) (s : List Bool) : Prop := s.length ≤ 31 ∧ ∀ i, i < s.length → bt x i = s.getD i false
theorem bitR_push {x : Int32} {s : List Bool} {c : Bool} (h : bitR x s) (hl : s.length < 31) : bitR (x <<< ((1 : Int32) &&& 31) ||| b32 c) (c :: s) := by
  refine ⟨by show s.length + 1 ≤ 31; omega, fun i hi => ?_⟩
  have hi2 : i < s.length + 1 := hi
  rw [bt_or, bs1, bx1]
  match i, hi2 with
  | 0, _ => simp
  | j + 1, hj =>
    rw [List.getD_cons_succ, ← h.2 j (by omega)]
    simp [show j + 1 < 32 by omega]
theorem bitR_not {x : Int32} {s : List Bool} {c : Bool} (h : bitR x (c :: s)) : bitR (x ^^^ 1) ((!c) :: s) := by
  refine ⟨h.1, fun i hi => ?_⟩
  have h1 := h.2 i hi
  have hl : i < 32 := by
    have := h.1
    have hi2 : i < (c :: s).length := hi
    omega
  rw [bt_xor, h1, of_decide_eq_true (kall1_ok bt_1 hl)]
  match i with
  | 0 => simp
  | j + 1 => simp
theorem bitR_and {x : Int32} {s : List Bool} {c b : Bool} (h : bitR x (c :: b :: s)) : bitR (kushr x 1 &&& (x ||| -2)) ((b && c) :: s) := by
  have hl0 : s.length + 2 ≤ 31 := h.1
  refine ⟨by show s.length + 1 ≤ 31; omega, fun i hi => ?_⟩
  have hi2 : i < s.length + 1 := hi
  rw [bt_and, bt_or, bt_kus1, bt_m2 (by omega)]
  match i, hi2 with
  | 0, _ =>
    have e0 := h.2 0 (by show 0 < s.length + 2; omega)
    have e1 := h.2 1 (by show 1 < s.length + 2; omega)
    rw [e0, e1]
    simp
  | j + 1, hj =>
    have e1 := h.2 (j + 2) (by show j + 2 < s.length + 2; omega)
    rw [e1]
    simp
theorem bitR_or {x : Int32} {s : List Bool} {c b : Bool} (h : bitR x (c :: b :: s)) : bitR (kushr x 1 ||| (x &&& 1)) ((b || c) :: s) := by
  have hl0 : s.length + 2 ≤ 31 := h.1
  refine ⟨by show s.length + 1 ≤ 31; omega, fun i hi => ?_⟩
  have hi2 : i < s.length + 1 := hi
  rw [bt_or, bt_and, bt_kus1, of_decide_eq_true (kall1_ok bt_1 (i := i) (by omega))]
  match i, hi2 with
  | 0, _ =>
    have e0 := h.2 0 (by show 0 < s.length + 2; omega)
    have e1 := h.2 1 (by show 1 < s.length + 2; omega)
    rw [e0, e1]
    simp
  | j + 1, hj =>
    have e1 := h.2 (j + 2) (by show j + 2 < s.length + 2; omega)
    rw [e1]
    simp
set_option maxHeartbeats 4000000 in
theorem t_kAnd {d : Nat} {Q : KO → Prop} {h : KH} (hw : WF h) {a : Nat} (ha : cityA a) {o L : Nat} (hr : h.2.1 a 10 = some o) (hO : rulO h o L) (hL : L ≤ 200) {r e k : Nat} {x : Int32} {z : Option Value} (hke : k < e) (heL : e ≤ L) (hr8 : r < 8) (he : h.2.2.1 (o + 3) r = Int32.ofNat e) (hc : h.2.2.1 (o + 4) k = -1) (hd : 0 ≤ d) (hQ : Wp d 19 11 ([some (.ref a), some (.int (Int32.ofNat r)), some (.int ((kushr x (1 : Int32)) &&& (x ||| (-2 : Int32)))), some (.int ((Int32.ofNat k) + 1)), some (.int (-1))]) [] h Q) : Wp d 19 11 [some (.ref a), some (.int (Int32.ofNat r)), some (.int (x)), some (.int (Int32.ofNat k)), z] [] h Q := by
  refine Wp.seg 2 (pc1 := 13) (ls1 := [some (.ref a), some (.int (Int32.ofNat r)), some (.int (x)), some (.int (Int32.ofNat k)), z]) (st1 := [.ref a, .int (Int32.ofNat k)]) rfl ?_
  refine Wp.gr (t := (1, 0)) (v := some (o)) rfl (cA_t hw ha) rfl hr ?_
  show Wp d 19 16 [some (.ref a), some (.int (Int32.ofNat r)), some (.int (x)), some (.int (Int32.ofNat k)), z] [.ref o, .int (Int32.ofNat k)] h Q
  refine Wp.gr (t := (9, 0)) (v := some (o + 3)) rfl hO.1 rfl hO.2.2.2.2.2.2.2.1 ?_
  show Wp d 19 19 [some (.ref a), some (.int (Int32.ofNat r)), some (.int (x)), some (.int (Int32.ofNat k)), z] [.ref (o + 3), .int (Int32.ofNat k)] h Q
  refine Wp.seg 1 (pc1 := 20) (ls1 := [some (.ref a), some (.int (Int32.ofNat r)), some (.int (x)), some (.int (Int32.ofNat k)), z]) (st1 := [.int (Int32.ofNat r), .ref (o + 3), .int (Int32.ofNat k)]) rfl ?_
  refine Wp.iald (j := r) (k := 20) (n := 8) rfl hO.2.2.2.1 rfl rfl (by omega) (by decide) ?_
  rw [show h.2.2.1 (o + 3) r = Int32.ofNat e from he]
  refine Wp.if2 rfl (fun c1 => absurd c1 (fun c => by have := (ole (by omega) (by omega)).mp c; omega)) (fun c1 => ?_)
  refine Wp.seg 2 (pc1 := 26) (ls1 := [some (.ref a), some (.int (Int32.ofNat r)), some (.int (x)), some (.int (Int32.ofNat k)), z]) (st1 := [.ref a, .int (Int32.ofNat k)]) rfl ?_
  refine Wp.gr (t := (1, 0)) (v := some (o)) rfl (cA_t hw ha) rfl hr ?_
  show Wp d 19 29 [some (.ref a), some (.int (Int32.ofNat r)), some (.int (x)), some (.int (Int32.ofNat k)), z] [.ref o, .int (Int32.ofNat k)] h Q
  refine Wp.gr (t := (9, 0)) (v := some (o + 4)) rfl hO.1 rfl hO.2.2.2.2.2.2.2.2.1 ?_
  show Wp d 19 32 [some (.ref a), some (.int (Int32.ofNat r)), some (.int (x)), some (.int (Int32.ofNat k)), z] [.ref (o + 4), .int (Int32.ofNat k)] h Q
  refine Wp.alen (n := L) (k := 20) rfl hO.2.2.2.2.1 rfl ?_
  refine Wp.if2 rfl (fun c2 => absurd c2 (fun c => by have := (ole (by omega) (by omega)).mp c; omega)) (fun c2 => ?_)
  refine Wp.seg 1 (pc1 := 37) (ls1 := [some (.ref a), some (.int (Int32.ofNat r)), some (.int (x)), some (.int (Int32.ofNat k)), z]) (st1 := [.ref a]) rfl ?_
  refine Wp.gr (t := (1, 0)) (v := some (o)) rfl (cA_t hw ha) rfl hr ?_
  show Wp d 19 40 [some (.ref a), some (.int (Int32.ofNat r)), some (.int (x)), some (.int (Int32.ofNat k)), z] [.ref o] h Q
  refine Wp.gr (t := (9, 0)) (v := some (o + 4)) rfl hO.1 rfl hO.2.2.2.2.2.2.2.2.1 ?_
  show Wp d 19 43 [some (.ref a), some (.int (Int32.ofNat r)), some (.int (x)), some (.int (Int32.ofNat k)), z] [.ref (o + 4)] h Q
  refine Wp.seg 1 (pc1 := 44) (ls1 := [some (.ref a), some (.int (Int32.ofNat r)), some (.int (x)), some (.int (Int32.ofNat k)), z]) (st1 := [.int (Int32.ofNat k), .ref (o + 4)]) rfl ?_
  refine Wp.iald (j := k) (k := 20) (n := L) rfl hO.2.2.2.2.1 rfl rfl (by omega) (by omega) ?_
  rw [show h.2.2.1 (o + 4) k = -1 from hc]
  refine Wp.seg 2 (pc1 := 49) (ls1 := [some (.ref a), some (.int (Int32.ofNat r)), some (.int (x)), some (.int (Int32.ofNat k)), some (.int (-1))]) (st1 := [.int (-1)]) rfl ?_
  refine Wp.br (pc1 := 76) (st1 := []) rfl rfl ?_
  refine Wp.seg 11 (pc1 := 11) (ls1 := [some (.ref a), some (.int (Int32.ofNat r)), some (.int ((kushr x (1 : Int32)) &&& (x ||| (-2 : Int32)))), some (.int ((Int32.ofNat k) + 1)), some (.int (-1))]) (st1 := []) rfl ?_
  exact hQ
set_option maxHeartbeats 4000000 in
theorem t_kOr {d : Nat} {Q : KO → Prop} {h : KH} (hw : WF h) {a : Nat} (ha : cityA a) {o L : Nat} (hr : h.2.1 a 10 = some o) (hO : rulO h o L) (hL : L ≤ 200) {r e k : Nat} {x : Int32} {z : Option Value} (hke : k < e) (heL : e ≤ L) (hr8 : r < 8) (he : h.2.2.1 (o + 3) r = Int32.ofNat e) (hc : h.2.2.1 (o + 4) k = -2) (hd : 0 ≤ d) (hQ : Wp d 19 11 ([some (.ref a), some (.int (Int32.ofNat r)), some (.int ((kushr x (1 : Int32)) ||| (x &&& (1 : Int32)))), some (.int ((Int32.ofNat k) + 1)), some (.int (-2))]) [] h Q) : Wp d 19 11 [some (.ref a), some (.int (Int32.ofNat r)), some (.int (x)), some (.int (Int32.ofNat k)), z] [] h Q := by
  refine Wp.seg 2 (pc1 := 13) (ls1 := [some (.ref a), some (.int (Int32.ofNat r)), some (.int (x)), some (.int (Int32.ofNat k)), z]) (st1 := [.ref a, .int (Int32.ofNat k)]) rfl ?_
  refine Wp.gr (t := (1, 0)) (v := some (o)) rfl (cA_t hw ha) rfl hr ?_
  show Wp d 19 16 [some (.ref a), some (.int (Int32.ofNat r)), some (.int (x)), some (.int (Int32.ofNat k)), z] [.ref o, .int (Int32.ofNat k)] h Q
  refine Wp.gr (t := (9, 0)) (v := some (o + 3)) rfl hO.1 rfl hO.2.2.2.2.2.2.2.1 ?_
  show Wp d 19 19 [some (.ref a), some (.int (Int32.ofNat r)), some (.int (x)), some (.int (Int32.ofNat k)), z] [.ref (o + 3), .int (Int32.ofNat k)] h Q
  refine Wp.seg 1 (pc1 := 20) (ls1 := [some (.ref a), some (.int (Int32.ofNat r)), some (.int (x)), some (.int (Int32.ofNat k)), z]) (st1 := [.int (Int32.ofNat r), .ref (o + 3), .int (Int32.ofNat k)]) rfl ?_
  refine Wp.iald (j := r) (k := 20) (n := 8) rfl hO.2.2.2.1 rfl rfl (by omega) (by decide) ?_
  rw [show h.2.2.1 (o + 3) r = Int32.ofNat e from he]
  refine Wp.if2 rfl (fun c1 => absurd c1 (fun c => by have := (ole (by omega) (by omega)).mp c; omega)) (fun c1 => ?_)
  refine Wp.seg 2 (pc1 := 26) (ls1 := [some (.ref a), some (.int (Int32.ofNat r)), some (.int (x)), some (.int (Int32.ofNat k)), z]) (st1 := [.ref a, .int (Int32.ofNat k)]) rfl ?_
  refine Wp.gr (t := (1, 0)) (v := some (o)) rfl (cA_t hw ha) rfl hr ?_
  show Wp d 19 29 [some (.ref a), some (.int (Int32.ofNat r)), some (.int (x)), some (.int (Int32.ofNat k)), z] [.ref o, .int (Int32.ofNat k)] h Q
  refine Wp.gr (t := (9, 0)) (v := some (o + 4)) rfl hO.1 rfl hO.2.2.2.2.2.2.2.2.1 ?_
  show Wp d 19 32 [some (.ref a), some (.int (Int32.ofNat r)), some (.int (x)), some (.int (Int32.ofNat k)), z] [.ref (o + 4), .int (Int32.ofNat k)] h Q
  refine Wp.alen (n := L) (k := 20) rfl hO.2.2.2.2.1 rfl ?_
  refine Wp.if2 rfl (fun c2 => absurd c2 (fun c => by have := (ole (by omega) (by omega)).mp c; omega)) (fun c2 => ?_)
  refine Wp.seg 1 (pc1 := 37) (ls1 := [some (.ref a), some (.int (Int32.ofNat r)), some (.int (x)), some (.int (Int32.ofNat k)), z]) (st1 := [.ref a]) rfl ?_
  refine Wp.gr (t := (1, 0)) (v := some (o)) rfl (cA_t hw ha) rfl hr ?_
  show Wp d 19 40 [some (.ref a), some (.int (Int32.ofNat r)), some (.int (x)), some (.int (Int32.ofNat k)), z] [.ref o] h Q
  refine Wp.gr (t := (9, 0)) (v := some (o + 4)) rfl hO.1 rfl hO.2.2.2.2.2.2.2.2.1 ?_
  show Wp d 19 43 [some (.ref a), some (.int (Int32.ofNat r)), some (.int (x)), some (.int (Int32.ofNat k)), z] [.ref (o + 4)] h Q
  refine Wp.seg 1 (pc1 := 44) (ls1 := [some (.ref a), some (.int (Int32.ofNat r)), some (.int (x)), some (.int (Int32.ofNat k)), z]) (st1 := [.int (Int32.ofNat k), .ref (o + 4)]) rfl ?_
  refine Wp.iald (j := k) (k := 20) (n := L) rfl hO.2.2.2.2.1 rfl rfl (by omega) (by omega) ?_
  rw [show h.2.2.1 (o + 4) k = -2 from hc]
  refine Wp.seg 2 (pc1 := 49) (ls1 := [some (.ref a), some (.int (Int32.ofNat r)), some (.int (x)), some (.int (Int32.ofNat k)), some (.int (-2))]) (st1 := [.int (-2)]) rfl ?_
  refine Wp.br (pc1 := 88) (st1 := []) rfl rfl ?_
  refine Wp.seg 11 (pc1 := 11) (ls1 := [some (.ref a), some (.int (Int32.ofNat r)), some (.int ((kushr x (1 : Int32)) ||| (x &&& (1 : Int32)))), some (.int ((Int32.ofNat k) + 1)), some (.int (-2))]) (st1 := []) rfl ?_
  exact hQ
set_option maxHeartbeats 4000000 in
theorem t_kNot {d : Nat} {Q : KO → Prop} {h : KH} (hw : WF h) {a : Nat} (ha : cityA a) {o L : Nat} (hr : h.2.1 a 10 = some o) (hO : rulO h o L) (hL : L ≤ 200) {r e k : Nat} {x : Int32} {z : Option Value} (hke : k < e) (heL : e ≤ L) (hr8 : r < 8) (he : h.2.2.1 (o + 3) r = Int32.ofNat e) (hc : h.2.2.1 (o + 4) k = -3) (hd : 0 ≤ d) (hQ : Wp d 19 11 ([some (.ref a), some (.int (Int32.ofNat r)), some (.int (x ^^^ (1 : Int32))), some (.int ((Int32.ofNat k) + 1)), some (.int (-3))]) [] h Q) : Wp d 19 11 [some (.ref a), some (.int (Int32.ofNat r)), some (.int (x)), some (.int (Int32.ofNat k)), z] [] h Q := by
  refine Wp.seg 2 (pc1 := 13) (ls1 := [some (.ref a), some (.int (Int32.ofNat r)), some (.int (x)), some (.int (Int32.ofNat k)), z]) (st1 := [.ref a, .int (Int32.ofNat k)]) rfl ?_
  refine Wp.gr (t := (1, 0)) (v := some (o)) rfl (cA_t hw ha) rfl hr ?_
  show Wp d 19 16 [some (.ref a), some (.int (Int32.ofNat r)), some (.int (x)), some (.int (Int32.ofNat k)), z] [.ref o, .int (Int32.ofNat k)] h Q
  refine Wp.gr (t := (9, 0)) (v := some (o + 3)) rfl hO.1 rfl hO.2.2.2.2.2.2.2.1 ?_
  show Wp d 19 19 [some (.ref a), some (.int (Int32.ofNat r)), some (.int (x)), some (.int (Int32.ofNat k)), z] [.ref (o + 3), .int (Int32.ofNat k)] h Q
  refine Wp.seg 1 (pc1 := 20) (ls1 := [some (.ref a), some (.int (Int32.ofNat r)), some (.int (x)), some (.int (Int32.ofNat k)), z]) (st1 := [.int (Int32.ofNat r), .ref (o + 3), .int (Int32.ofNat k)]) rfl ?_
  refine Wp.iald (j := r) (k := 20) (n := 8) rfl hO.2.2.2.1 rfl rfl (by omega) (by decide) ?_
  rw [show h.2.2.1 (o + 3) r = Int32.ofNat e from he]
  refine Wp.if2 rfl (fun c1 => absurd c1 (fun c => by have := (ole (by omega) (by omega)).mp c; omega)) (fun c1 => ?_)
  refine Wp.seg 2 (pc1 := 26) (ls1 := [some (.ref a), some (.int (Int32.ofNat r)), some (.int (x)), some (.int (Int32.ofNat k)), z]) (st1 := [.ref a, .int (Int32.ofNat k)]) rfl ?_
  refine Wp.gr (t := (1, 0)) (v := some (o)) rfl (cA_t hw ha) rfl hr ?_
  show Wp d 19 29 [some (.ref a), some (.int (Int32.ofNat r)), some (.int (x)), some (.int (Int32.ofNat k)), z] [.ref o, .int (Int32.ofNat k)] h Q
  refine Wp.gr (t := (9, 0)) (v := some (o + 4)) rfl hO.1 rfl hO.2.2.2.2.2.2.2.2.1 ?_
  show Wp d 19 32 [some (.ref a), some (.int (Int32.ofNat r)), some (.int (x)), some (.int (Int32.ofNat k)), z] [.ref (o + 4), .int (Int32.ofNat k)] h Q
  refine Wp.alen (n := L) (k := 20) rfl hO.2.2.2.2.1 rfl ?_
  refine Wp.if2 rfl (fun c2 => absurd c2 (fun c => by have := (ole (by omega) (by omega)).mp c; omega)) (fun c2 => ?_)
  refine Wp.seg 1 (pc1 := 37) (ls1 := [some (.ref a), some (.int (Int32.ofNat r)), some (.int (x)), some (.int (Int32.ofNat k)), z]) (st1 := [.ref a]) rfl ?_
  refine Wp.gr (t := (1, 0)) (v := some (o)) rfl (cA_t hw ha) rfl hr ?_
  show Wp d 19 40 [some (.ref a), some (.int (Int32.ofNat r)), some (.int (x)), some (.int (Int32.ofNat k)), z] [.ref o] h Q
  refine Wp.gr (t := (9, 0)) (v := some (o + 4)) rfl hO.1 rfl hO.2.2.2.2.2.2.2.2.1 ?_
  show Wp d 19 43 [some (.ref a), some (.int (Int32.ofNat r)), some (.int (x)), some (.int (Int32.ofNat k)), z] [.ref (o + 4)] h Q
  refine Wp.seg 1 (pc1 := 44) (ls1 := [some (.ref a), some (.int (Int32.ofNat r)), some (.int (x)), some (.int (Int32.ofNat k)), z]) (st1 := [.int (Int32.ofNat k), .ref (o + 4)]) rfl ?_
  refine Wp.iald (j := k) (k := 20) (n := L) rfl hO.2.2.2.2.1 rfl rfl (by omega) (by omega) ?_
  rw [show h.2.2.1 (o + 4) k = -3 from hc]
  refine Wp.seg 2 (pc1 := 49) (ls1 := [some (.ref a), some (.int (Int32.ofNat r)), some (.int (x)), some (.int (Int32.ofNat k)), some (.int (-3))]) (st1 := [.int (-3)]) rfl ?_
  refine Wp.br (pc1 := 99) (st1 := []) rfl rfl ?_
  refine Wp.seg 7 (pc1 := 11) (ls1 := [some (.ref a), some (.int (Int32.ofNat r)), some (.int (x ^^^ (1 : Int32))), some (.int ((Int32.ofNat k) + 1)), some (.int (-3))]) (st1 := []) rfl ?_
  exact hQ
set_option maxHeartbeats 4000000 in
theorem t_kCmp {d : Nat} {Q : KO → Prop} {h : KH} (hw : WF h) {a : Nat} (ha : cityA a) {o L : Nat} (hr : h.2.1 a 10 = some o) (hO : rulO h o L) (hL : L ≤ 200) {r e k : Nat} {x : Int32} {z : Option Value} (hke : k < e) (heL : e ≤ L) (hr8 : r < 8) (he : h.2.2.1 (o + 3) r = Int32.ofNat e) {cd : Int32} {u v : Nat} (hc : h.2.2.1 (o + 4) k = cd) (hu : u < 10005) (hv : v < 10005) (hcu : cd &&& 16383 = Int32.ofNat u) (hcv : (cd >>> ((14 : Int32) &&& 31)) &&& 16383 = Int32.ofNat v) (n1 : ¬ cd = -1) (n2 : ¬ cd = -2) (n3 : ¬ cd = -3) (hd : 1 ≤ d) (hQ : Wp d 19 11 ([some (.ref a), some (.int (Int32.ofNat r)), some (.int ((x <<< ((1 : Int32) &&& 31)) ||| (f_cTruth cd (cval (h.2.2.1 (a + 2)) u) (cval (h.2.2.1 (a + 2)) v)))), some (.int ((Int32.ofNat k) + 1)), some (.int (cd))]) [] h Q) : Wp d 19 11 [some (.ref a), some (.int (Int32.ofNat r)), some (.int (x)), some (.int (Int32.ofNat k)), z] [] h Q := by
  refine Wp.seg 2 (pc1 := 13) (ls1 := [some (.ref a), some (.int (Int32.ofNat r)), some (.int (x)), some (.int (Int32.ofNat k)), z]) (st1 := [.ref a, .int (Int32.ofNat k)]) rfl ?_
  refine Wp.gr (t := (1, 0)) (v := some (o)) rfl (cA_t hw ha) rfl hr ?_
  show Wp d 19 16 [some (.ref a), some (.int (Int32.ofNat r)), some (.int (x)), some (.int (Int32.ofNat k)), z] [.ref o, .int (Int32.ofNat k)] h Q
  refine Wp.gr (t := (9, 0)) (v := some (o + 3)) rfl hO.1 rfl hO.2.2.2.2.2.2.2.1 ?_
  show Wp d 19 19 [some (.ref a), some (.int (Int32.ofNat r)), some (.int (x)), some (.int (Int32.ofNat k)), z] [.ref (o + 3), .int (Int32.ofNat k)] h Q
  refine Wp.seg 1 (pc1 := 20) (ls1 := [some (.ref a), some (.int (Int32.ofNat r)), some (.int (x)), some (.int (Int32.ofNat k)), z]) (st1 := [.int (Int32.ofNat r), .ref (o + 3), .int (Int32.ofNat k)]) rfl ?_
  refine Wp.iald (j := r) (k := 20) (n := 8) rfl hO.2.2.2.1 rfl rfl (by omega) (by decide) ?_
  rw [show h.2.2.1 (o + 3) r = Int32.ofNat e from he]
  refine Wp.if2 rfl (fun c1 => absurd c1 (fun c => by have := (ole (by omega) (by omega)).mp c; omega)) (fun c1 => ?_)
  refine Wp.seg 2 (pc1 := 26) (ls1 := [some (.ref a), some (.int (Int32.ofNat r)), some (.int (x)), some (.int (Int32.ofNat k)), z]) (st1 := [.ref a, .int (Int32.ofNat k)]) rfl ?_
  refine Wp.gr (t := (1, 0)) (v := some (o)) rfl (cA_t hw ha) rfl hr ?_
  show Wp d 19 29 [some (.ref a), some (.int (Int32.ofNat r)), some (.int (x)), some (.int (Int32.ofNat k)), z] [.ref o, .int (Int32.ofNat k)] h Q
  refine Wp.gr (t := (9, 0)) (v := some (o + 4)) rfl hO.1 rfl hO.2.2.2.2.2.2.2.2.1 ?_
  show Wp d 19 32 [some (.ref a), some (.int (Int32.ofNat r)), some (.int (x)), some (.int (Int32.ofNat k)), z] [.ref (o + 4), .int (Int32.ofNat k)] h Q
  refine Wp.alen (n := L) (k := 20) rfl hO.2.2.2.2.1 rfl ?_
  refine Wp.if2 rfl (fun c2 => absurd c2 (fun c => by have := (ole (by omega) (by omega)).mp c; omega)) (fun c2 => ?_)
  refine Wp.seg 1 (pc1 := 37) (ls1 := [some (.ref a), some (.int (Int32.ofNat r)), some (.int (x)), some (.int (Int32.ofNat k)), z]) (st1 := [.ref a]) rfl ?_
  refine Wp.gr (t := (1, 0)) (v := some (o)) rfl (cA_t hw ha) rfl hr ?_
  show Wp d 19 40 [some (.ref a), some (.int (Int32.ofNat r)), some (.int (x)), some (.int (Int32.ofNat k)), z] [.ref o] h Q
  refine Wp.gr (t := (9, 0)) (v := some (o + 4)) rfl hO.1 rfl hO.2.2.2.2.2.2.2.2.1 ?_
  show Wp d 19 43 [some (.ref a), some (.int (Int32.ofNat r)), some (.int (x)), some (.int (Int32.ofNat k)), z] [.ref (o + 4)] h Q
  refine Wp.seg 1 (pc1 := 44) (ls1 := [some (.ref a), some (.int (Int32.ofNat r)), some (.int (x)), some (.int (Int32.ofNat k)), z]) (st1 := [.int (Int32.ofNat k), .ref (o + 4)]) rfl ?_
  refine Wp.iald (j := k) (k := 20) (n := L) rfl hO.2.2.2.2.1 rfl rfl (by omega) (by omega) ?_
  rw [show h.2.2.1 (o + 4) k = cd from hc]
  refine Wp.seg 2 (pc1 := 49) (ls1 := [some (.ref a), some (.int (Int32.ofNat r)), some (.int (x)), some (.int (Int32.ofNat k)), some (.int (cd))]) (st1 := [.int (cd)]) rfl ?_
  refine Wp.tsw rfl ?_
  refine ⟨fun c3 => absurd c3 (n3), fun c3 => ?_⟩
  refine ⟨fun c4 => absurd c4 (n2), fun c4 => ?_⟩
  refine ⟨fun c5 => absurd c5 (n1), fun c5 => ?_⟩
  show Wp d 19 106 [some (.ref a), some (.int (Int32.ofNat r)), some (.int (x)), some (.int (Int32.ofNat k)), some (.int (cd))] [] h Q
  refine Wp.seg 6 (pc1 := 114) (ls1 := [some (.ref a), some (.int (Int32.ofNat r)), some (.int (x)), some (.int (Int32.ofNat k)), some (.int (cd))]) (st1 := [.int (cd), .ref a, .int (cd), .int (x <<< ((1 : Int32) &&& 31))]) rfl ?_
  refine Wp.invV (d2 := 0) (as := [.ref a, .int (cd)]) (r := [.int (cd), .int (x <<< ((1 : Int32) &&& 31))]) (t := (1, 0)) rfl rfl rfl rfl (cA_t hw ha) rfl rfl ⟨rfl, rfl⟩ (by omega) (s_val hw ha hcu hu ?_)
  show Wp d 19 117 [some (.ref a), some (.int (Int32.ofNat r)), some (.int (x)), some (.int (Int32.ofNat k)), some (.int (cd))] [.int (cval (h.2.2.1 (a + 2)) u), .int (cd), .int (x <<< ((1 : Int32) &&& 31))] h Q
  refine Wp.seg 4 (pc1 := 123) (ls1 := [some (.ref a), some (.int (Int32.ofNat r)), some (.int (x)), some (.int (Int32.ofNat k)), some (.int (cd))]) (st1 := [.int (cd >>> ((14 : Int32) &&& 31)), .ref a, .int (cval (h.2.2.1 (a + 2)) u), .int (cd), .int (x <<< ((1 : Int32) &&& 31))]) rfl ?_
  refine Wp.invV (d2 := 0) (as := [.ref a, .int (cd >>> ((14 : Int32) &&& 31))]) (r := [.int (cval (h.2.2.1 (a + 2)) u), .int (cd), .int (x <<< ((1 : Int32) &&& 31))]) (t := (1, 0)) rfl rfl rfl rfl (cA_t hw ha) rfl rfl ⟨rfl, rfl⟩ (by omega) (s_val hw ha hcv hv ?_)
  show Wp d 19 126 [some (.ref a), some (.int (Int32.ofNat r)), some (.int (x)), some (.int (Int32.ofNat k)), some (.int (cd))] [.int (cval (h.2.2.1 (a + 2)) v), .int (cval (h.2.2.1 (a + 2)) u), .int (cd), .int (x <<< ((1 : Int32) &&& 31))] h Q
  refine Wp.inv (d2 := 0) (as := [.int (cd), .int (cval (h.2.2.1 (a + 2)) u), .int (cval (h.2.2.1 (a + 2)) v)]) (r := [.int (x <<< ((1 : Int32) &&& 31))]) rfl rfl rfl rfl rfl rfl (by omega) (s_cTruth (Nat.le_refl _) ?_)
  show Wp d 19 129 [some (.ref a), some (.int (Int32.ofNat r)), some (.int (x)), some (.int (Int32.ofNat k)), some (.int (cd))] [.int (f_cTruth cd (cval (h.2.2.1 (a + 2)) u) (cval (h.2.2.1 (a + 2)) v)), .int (x <<< ((1 : Int32) &&& 31))] h Q
  refine Wp.seg 4 (pc1 := 11) (ls1 := [some (.ref a), some (.int (Int32.ofNat r)), some (.int ((x <<< ((1 : Int32) &&& 31)) ||| (f_cTruth cd (cval (h.2.2.1 (a + 2)) u) (cval (h.2.2.1 (a + 2)) v)))), some (.int ((Int32.ofNat k) + 1)), some (.int (cd))]) (st1 := []) rfl ?_
  exact hQ
set_option maxHeartbeats 4000000 in
theorem t_kEnd {d : Nat} {Q : KO → Prop} {h : KH} (hw : WF h) {a : Nat} (ha : cityA a) {o L : Nat} (hr : h.2.1 a 10 = some o) (hO : rulO h o L) (hL : L ≤ 200) {r e : Nat} {x : Int32} {z : Option Value} (hr8 : r < 8) (he : h.2.2.1 (o + 3) r = Int32.ofNat e) (hd : 0 ≤ d) (hQ : ((x &&& (1 : Int32)) = 0 → Q (some (.int (0)), h)) ∧ (¬ ((x &&& (1 : Int32)) = 0) → Q (some (.int (1)), h))) : Wp d 19 11 [some (.ref a), some (.int (Int32.ofNat r)), some (.int (x)), some (.int (Int32.ofNat e)), z] [] h Q := by
  refine Wp.seg 2 (pc1 := 13) (ls1 := [some (.ref a), some (.int (Int32.ofNat r)), some (.int (x)), some (.int (Int32.ofNat e)), z]) (st1 := [.ref a, .int (Int32.ofNat e)]) rfl ?_
  refine Wp.gr (t := (1, 0)) (v := some (o)) rfl (cA_t hw ha) rfl hr ?_
  show Wp d 19 16 [some (.ref a), some (.int (Int32.ofNat r)), some (.int (x)), some (.int (Int32.ofNat e)), z] [.ref o, .int (Int32.ofNat e)] h Q
  refine Wp.gr (t := (9, 0)) (v := some (o + 3)) rfl hO.1 rfl hO.2.2.2.2.2.2.2.1 ?_
  show Wp d 19 19 [some (.ref a), some (.int (Int32.ofNat r)), some (.int (x)), some (.int (Int32.ofNat e)), z] [.ref (o + 3), .int (Int32.ofNat e)] h Q
  refine Wp.seg 1 (pc1 := 20) (ls1 := [some (.ref a), some (.int (Int32.ofNat r)), some (.int (x)), some (.int (Int32.ofNat e)), z]) (st1 := [.int (Int32.ofNat r), .ref (o + 3), .int (Int32.ofNat e)]) rfl ?_
  refine Wp.iald (j := r) (k := 20) (n := 8) rfl hO.2.2.2.1 rfl rfl (by omega) (by decide) ?_
  rw [show h.2.2.1 (o + 3) r = Int32.ofNat e from he]
  refine Wp.if2 rfl (fun c1 => ?_) (fun c1 => absurd (Int32.le_refl _) c1)
  refine Wp.seg 3 (pc1 := 140) (ls1 := [some (.ref a), some (.int (Int32.ofNat r)), some (.int (x)), some (.int (Int32.ofNat e)), z]) (st1 := [.int (x &&& (1 : Int32))]) rfl ?_
  refine Wp.if1 rfl (fun (c2 : (x &&& (1 : Int32)) = 0) => ?_) (fun (c2 : ¬ ((x &&& (1 : Int32)) = 0)) => ?_)
  · refine Wp.seg 1 (pc1 := 148) (ls1 := [some (.ref a), some (.int (Int32.ofNat r)), some (.int (x)), some (.int (Int32.ofNat e)), z]) (st1 := [.int (0)]) rfl ?_
    exact Wp.reti rfl rfl (hQ.1 c2)
  · refine Wp.seg 2 (pc1 := 148) (ls1 := [some (.ref a), some (.int (Int32.ofNat r)), some (.int (x)), some (.int (Int32.ofNat e)), z]) (st1 := [.int (1)]) rfl ?_
    exact Wp.reti rfl rfl (hQ.2 c2)
set_option maxHeartbeats 4000000 in
theorem t_beg0 {d : Nat} {Q : KO → Prop} {h : KH} {o : Nat} (hd : 0 ≤ d) (hQ : Q (some (.int (0)), h)) : Cl d 79 [.ref o, .int (0)] h Q := by
  refine Cl.of (ls := [some (.ref o), some (.int (0))]) rfl rfl ?_
  refine Wp.seg 1 (pc1 := 1) (ls1 := [some (.ref o), some (.int (0))]) (st1 := [.int (0)]) rfl ?_
  refine Wp.if1 rfl (fun c1 => ?_) (fun c1 => absurd (show (0 : Int32) ≤ 0 by decide) c1)
  refine Wp.seg 1 (pc1 := 22) (ls1 := [some (.ref o), some (.int (0))]) (st1 := [.int (0)]) rfl ?_
  exact Wp.reti rfl rfl hQ
set_option maxHeartbeats 4000000 in
theorem t_begS {d : Nat} {Q : KO → Prop} {h : KH} {o L : Nat} (hO : rulO h o L) {r b : Nat} (hr8 : r + 1 < 8) (he : h.2.2.1 (o + 3) r = Int32.ofNat b) (hd : 0 ≤ d) (hQ : Q (some (.int (Int32.ofNat b)), h)) : Cl d 79 [.ref o, .int (Int32.ofNat (r + 1))] h Q := by
  refine Cl.of (ls := [some (.ref o), some (.int (Int32.ofNat (r + 1)))]) rfl rfl ?_
  refine Wp.seg 1 (pc1 := 1) (ls1 := [some (.ref o), some (.int (Int32.ofNat (r + 1)))]) (st1 := [.int (Int32.ofNat (r + 1))]) rfl ?_
  refine Wp.if1 rfl (fun c1 => absurd c1 (fun c => by have := (zle (znat (n := r + 1) (by omega)) (n := 0) rfl).mp c; omega)) (fun c1 => ?_)
  refine Wp.seg 2 (pc1 := 7) (ls1 := [some (.ref o), some (.int (Int32.ofNat (r + 1)))]) (st1 := [.int (8), .int (Int32.ofNat (r + 1))]) rfl ?_
  refine Wp.if2 rfl (fun c2 => absurd c2 (fun c => by have := (zlt (m := 8) rfl (znat (n := r + 1) (by omega))).mp c; omega)) (fun c2 => ?_)
  refine Wp.seg 1 (pc1 := 11) (ls1 := [some (.ref o), some (.int (Int32.ofNat (r + 1)))]) (st1 := [.ref o]) rfl ?_
  refine Wp.gr (t := (9, 0)) (v := some (o + 3)) rfl hO.1 rfl hO.2.2.2.2.2.2.2.1 ?_
  show Wp d 79 14 [some (.ref o), some (.int (Int32.ofNat (r + 1)))] [.ref (o + 3)] h Q
  refine Wp.seg 3 (pc1 := 17) (ls1 := [some (.ref o), some (.int (Int32.ofNat (r + 1)))]) (st1 := [.int ((Int32.ofNat (r + 1)) - (1 : Int32)), .ref (o + 3)]) rfl ?_
  refine Wp.iald (j := r) (k := 20) (n := 8) rfl hO.2.2.2.1 rfl (ofdec2 r) (by omega) (by decide) ?_
  rw [show h.2.2.1 (o + 3) r = Int32.ofNat b from he]
  refine Wp.seg 1 (pc1 := 22) (ls1 := [some (.ref o), some (.int (Int32.ofNat (r + 1)))]) (st1 := [.int (Int32.ofNat b)]) rfl ?_
  exact Wp.reti rfl rfl hQ
set_option maxHeartbeats 4000000 in
theorem t_kBeg {d : Nat} {Q : KO → Prop} {h : KH} (hw : WF h) {a : Nat} (ha : cityA a) {o L : Nat} (hr : h.2.1 a 10 = some o) (hO : rulO h o L) (hL : L ≤ 200) {r b : Nat} (hb : ∀ Q : KO → Prop, Q (some (.int (Int32.ofNat b)), h) → Cl 0 79 [.ref o, .int (Int32.ofNat r)] h Q) (hd : 1 ≤ d) (hQ : Wp d 19 11 ([some (.ref a), some (.int (Int32.ofNat r)), some (.int (1)), some (.int (Int32.ofNat b)), none]) [] h Q) : Cl d 19 [.ref a, .int (Int32.ofNat r)] h Q := by
  refine Cl.of (ls := [some (.ref a), some (.int (Int32.ofNat r)), none, none, none]) rfl rfl ?_
  refine Wp.seg 3 (pc1 := 3) (ls1 := [some (.ref a), some (.int (Int32.ofNat r)), some (.int (1)), none, none]) (st1 := [.ref a]) rfl ?_
  refine Wp.gr (t := (1, 0)) (v := some (o)) rfl (cA_t hw ha) rfl hr ?_
  show Wp d 19 6 [some (.ref a), some (.int (Int32.ofNat r)), some (.int (1)), none, none] [.ref o] h Q
  refine Wp.seg 1 (pc1 := 7) (ls1 := [some (.ref a), some (.int (Int32.ofNat r)), some (.int (1)), none, none]) (st1 := [.int (Int32.ofNat r), .ref o]) rfl ?_
  refine Wp.invV (d2 := 0) (as := [.ref o, .int (Int32.ofNat r)]) (r := []) (t := (9, 0)) rfl rfl rfl rfl hO.1 rfl rfl ⟨rfl, rfl⟩ (by omega) (hb _ ?_)
  show Wp d 19 10 [some (.ref a), some (.int (Int32.ofNat r)), some (.int (1)), none, none] [.int (Int32.ofNat b)] h Q
  refine Wp.seg 1 (pc1 := 11) (ls1 := [some (.ref a), some (.int (Int32.ofNat r)), some (.int (1)), some (.int (Int32.ofNat b)), none]) (st1 := []) rfl ?_
  exact hQ
theorem bt_31 : bt (-1) 31 = true ∧ bt (-2) 31 = true ∧ bt (-3) 31 = true := by decide +kernel
theorem bt_shrX0 {x : Int32} {i : Nat} (hi : i < 32) : bt (x >>> (Int32.ofNat 0 &&& 31)) i = bt x i := by
  rw [bt_shrk (k := 0) (by decide) (by omega), Nat.zero_add]
set_option maxHeartbeats 4000000 in
theorem s_kLoop {d : Nat} {Q : KO → Prop} {h : KH} (hw : WF h) {a : Nat} (ha : cityA a) {o L : Nat} (hr : h.2.1 a 10 = some o) (hO : rulO h o L) (hL : L ≤ 200) {r e : Nat} (heL : e ≤ L) (hr8 : r < 8) (he : h.2.2.1 (o + 3) r = Int32.ofNat e) (hd : 1 ≤ d) {g : Int32 → Int32} (hg : ∀ v, v < 10005 → cval (h.2.2.1 (a + 2)) v = g (decV v)) :
    ∀ (P : List Op) (k : Nat) (s : List Bool) (x : Int32) (z : Option Value), laidC (h.2.2.1 (o + 4)) k P e → okP 30 P s.length → bitR x s → (∀ b, evP g P s = [b] → Q (some (.int (b32 b)), h)) →
      Wp d 19 11 [some (.ref a), some (.int (Int32.ofNat r)), some (.int x), some (.int (Int32.ofNat k)), z] [] h Q
  | [], k, s, x, z, hl, hok, hb, hQ => by
    obtain rfl : k = e := hl
    have h1 : s.length = 1 := hok
    match s, h1 with
    | [b], _ =>
      have q := hQ b rfl
      have e0 : bt x 0 = b := hb.2 0 (Nat.succ_pos _)
      have el := bt_low0 (x := x) (k := 0) (by decide)
      have ex : x >>> (Int32.ofNat 0 &&& 31) = x := bt_ext fun i hi => by rw [bt_shrX0 hi]
      rw [ex] at el
      refine t_kEnd hw ha hr hO hL hr8 he (Nat.zero_le _) ⟨fun c => ?_, fun c => ?_⟩
      · rw [el.mp c] at e0
        subst e0
        exact q
      · have : bt x 0 = true := by
          cases q2 : bt x 0 with
          | true => rfl
          | false => exact absurd (el.mpr q2) c
        rw [this] at e0
        subst e0
        exact q
  | (t, y1, y2) :: P, k, s, x, z, hl, hok, hb, hQ => by
    have hlen := laidC_len hl.2
    have ek : Int32.ofNat k + 1 = Int32.ofNat (k + 1) := ofadd k 1
    rcases hl with ⟨⟨ht, u, v, hu, hv, hc, rfl, rfl⟩ | ⟨ht1, ht2, hc⟩, hl⟩
    · have hok2 : s.length < 30 ∧ okP 30 P (s.length + 1) := by
        rcases hok with ⟨-, o2, o3⟩ | ⟨o1, -⟩ | ⟨o1, -⟩
        · exact ⟨o2, o3⟩
        · omega
        · omega
      rw [evP_cmp ht] at hQ
      refine t_kCmp hw ha hr hO hL (by omega) heL hr8 he hc hu hv (enc_u (by omega)) (enc_v ht (by omega) (by omega)) (enc_n ht (by omega) (by omega) bt_31.1) (enc_n ht (by omega) (by omega) bt_31.2.1) (enc_n ht (by omega) (by omega) bt_31.2.2) hd ?_
      rw [ek, truth_cmp ht (by omega) (by omega), hg u hu, hg v hv]
      exact s_kLoop hw ha hr hO hL heL hr8 he hd hg P (k + 1) (_ :: s) _ _ hl hok2.2 (bitR_push hb (by omega)) hQ
    · have h3 : t = 3 ∨ t = 4 ∨ t = 5 := by omega
      rcases h3 with rfl | rfl | rfl
      · have hok2 : 1 ≤ s.length ∧ okP 30 P s.length := by
          rcases hok with ⟨o1, -⟩ | ⟨-, o2, o3⟩ | ⟨o1, -⟩
          · omega
          · exact ⟨o2, o3⟩
          · omega
        match s, hok2, hb, hQ with
        | c :: s, hok2, hb, hQ =>
          refine t_kNot hw ha hr hO hL (by omega) heL hr8 he hc (Nat.zero_le _) ?_
          rw [ek]
          exact s_kLoop hw ha hr hO hL heL hr8 he hd hg P (k + 1) ((!c) :: s) _ _ hl hok2.2 (bitR_not hb) hQ
      · have hok2 : 2 ≤ s.length ∧ okP 30 P (s.length - 1) := by
          rcases hok with ⟨o1, -⟩ | ⟨o1, -⟩ | ⟨-, o2, o3⟩
          · omega
          · omega
          · exact ⟨o2, o3⟩
        match s, hok2, hb, hQ with
        | c :: b :: s, hok2, hb, hQ =>
          refine t_kAnd hw ha hr hO hL (by omega) heL hr8 he hc (Nat.zero_le _) ?_
          rw [ek]
          exact s_kLoop hw ha hr hO hL heL hr8 he hd hg P (k + 1) ((b && c) :: s) _ _ hl hok2.2 (bitR_and hb) hQ
      · have hok2 : 2 ≤ s.length ∧ okP 30 P (s.length - 1) := by
          rcases hok with ⟨o1, -⟩ | ⟨o1, -⟩ | ⟨-, o2, o3⟩
          · omega
          · omega
          · exact ⟨o2, o3⟩
        match s, hok2, hb, hQ with
        | c :: b :: s, hok2, hb, hQ =>
          refine t_kOr hw ha hr hO hL (by omega) heL hr8 he hc (Nat.zero_le _) ?_
          rw [ek]
          exact s_kLoop hw ha hr hO hL heL hr8 he hd hg P (k + 1) ((b || c) :: s) _ _ hl hok2.2 (bitR_or hb) hQ
theorem s_holds {d : Nat} {Q : KO → Prop} {h : KH} (hw : WF h) {a : Nat} (ha : cityA a) {o L : Nat} (hr : h.2.1 a 10 = some o) (hO : rulO h o L) {r b e : Nat} (heL : e ≤ L) (hr8 : r < 8) (he : h.2.2.1 (o + 3) r = Int32.ofNat e) (hb : ∀ Q : KO → Prop, Q (some (.int (Int32.ofNat b)), h) → Cl 0 79 [.ref o, .int (Int32.ofNat r)] h Q) (hd : 1 ≤ d) {g : Int32 → Int32} (hg : ∀ v, v < 10005 → cval (h.2.2.1 (a + 2)) v = g (decV v)) {P : List Op} (hl : laidC (h.2.2.1 (o + 4)) b P e) (hok : okC30 P) (hQ : Q (some (.int (b32 (holdP g P))), h)) : Cl d 19 [.ref a, .int (Int32.ofNat r)] h Q := by
  have hL : L ≤ 200 := hO.2.2.2.2.2.2.2.2.2.2
  refine t_kBeg hw ha hr hO hL hb hd ?_
  rcases hok with rfl | hok
  · obtain rfl : b = e := hl
    refine t_kEnd hw ha hr hO hL hr8 he (Nat.zero_le _) ⟨fun c => absurd c (by decide), fun c => hQ⟩
  · obtain ⟨y, hy⟩ := evP_one (f := g) (st := []) hok
    refine s_kLoop hw ha hr hO hL heL hr8 he hd hg P b [] 1 none hl hok ⟨by decide, fun i hi => absurd hi (by exact Nat.not_lt_zero i)⟩ (fun b2 hb2 => ?_)
    have eh : holdP g P = b2 := by
      unfold holdP
      rw [hb2]
    rw [eh] at hQ
    exact hQ
