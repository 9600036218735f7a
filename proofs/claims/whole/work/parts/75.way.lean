/-! KM: both sides: way(), bridges() -/
def wayL (l : Int32) (o : Nat) : Nat → Nat → Int32 → Int32
  | 0, _, _ => -3
  | k + 1, i, x => if bt x o = true then Int32.ofNat i else wayL l o k (i + 1) (onw x l)
def wayS (A : Nat → Int32) (v o : Int32) : Int32 := if inB v 0 11 = true ∧ inB o 0 11 = true then wayL (A 3) o.toNatClampNeg 12 0 ((1 : Int32) <<< (v &&& 31)) else -1
def brL (c : Nat) (l : Int32) : Nat → Nat → Int32 → Int32
  | 0, _, x => x
  | k + 1, e, x => brL c l k (e + 1) (if shutS (Int32.ofNat c) (l ||| ((1 : Int32) <<< (Int32.ofNat e &&& 31))) = shutS (Int32.ofNat c) l then x else x ||| ((1 : Int32) <<< (Int32.ofNat e &&& 31)))
def bridS (c : Nat) (A : Nat → Int32) : Int32 := brL c (A 3) 17 0 0
theorem ok12_onw {x l : Int32} (h : ok12 x) : ok12 (onw x l) := onwR_ok x l 48 x (Nat.le_refl _) h
set_option maxHeartbeats 4000000 in
theorem t_cwy {d : Nat} {Q : KO → Prop} {h : KH} {v o : Int32} (hd : 1 ≤ d) (hQ : ((inB v 0 11) = false → Q (some (.int (-1)), h)) ∧ ((inB v 0 11) = true → ((inB o 0 11) = true → Wp d 120 16 ([some (.ref 0), some (.int (v)), some (.int (o)), none, none, none, none]) [] h Q) ∧ ((inB o 0 11) = false → Q (some (.int (-1)), h)))) : Cl d 120 [.ref 0, .int (v), .int (o)] h Q := by
  refine Cl.of (ls := [some (.ref 0), some (.int (v)), some (.int (o)), none, none, none, none]) rfl rfl ?_
  refine Wp.seg 1 (pc1 := 1) (ls1 := [some (.ref 0), some (.int (v)), some (.int (o)), none, none, none, none]) (st1 := [.int (v)]) rfl ?_
  refine Wp.inv (d2 := 0) (as := [.int (v)]) (r := []) rfl rfl rfl rfl rfl rfl (by omega) (s_b104 ?_)
  show Wp d 120 4 [some (.ref 0), some (.int (v)), some (.int (o)), none, none, none, none] [.int (b32 (inB v 0 11))] h Q
  refine Wp.ifz rfl (fun (c1 : (inB v 0 11) = false) => ?_) (fun (c1 : (inB v 0 11) = true) => ?_)
  · refine Wp.seg 1 (pc1 := 15) (ls1 := [some (.ref 0), some (.int (v)), some (.int (o)), none, none, none, none]) (st1 := [.int (-1)]) rfl ?_
    exact Wp.reti rfl rfl (hQ.1 c1)
  · refine Wp.seg 1 (pc1 := 8) (ls1 := [some (.ref 0), some (.int (v)), some (.int (o)), none, none, none, none]) (st1 := [.int (o)]) rfl ?_
    refine Wp.inv (d2 := 0) (as := [.int (o)]) (r := []) rfl rfl rfl rfl rfl rfl (by omega) (s_b104 ?_)
    show Wp d 120 11 [some (.ref 0), some (.int (v)), some (.int (o)), none, none, none, none] [.int (b32 (inB o 0 11))] h Q
    refine Wp.ifnz rfl (fun (c2 : (inB o 0 11) = true) => ?_) (fun (c2 : (inB o 0 11) = false) => ?_)
    · exact ((hQ.2 c1).1 c2)
    · refine Wp.seg 1 (pc1 := 15) (ls1 := [some (.ref 0), some (.int (v)), some (.int (o)), none, none, none, none]) (st1 := [.int (-1)]) rfl ?_
      exact Wp.reti rfl rfl ((hQ.2 c1).2 c2)
set_option maxHeartbeats 4000000 in
theorem t_cwyS {d : Nat} {Q : KO → Prop} {h : KH} (hw : WF h) {A : Nat → Int32} {RL : List Rul} {n c dn en : Nat} (hk : cityOK h 1 A RL n c dn en) {v o : Int32} (hd : 1 ≤ d) (hQ : Wp d 120 47 ([some (.ref 0), some (.int (v)), some (.int (o)), some (.int (f_cRight (A 3))), some (.int (f_cDown (A 3))), some (.int ((1 : Int32) <<< (v &&& 31))), some (.int (0))]) [] h Q) : Wp d 120 16 [some (.ref 0), some (.int (v)), some (.int (o)), none, none, none, none] [] h Q := by
  refine Wp.seg 1 (pc1 := 17) (ls1 := [some (.ref 0), some (.int (v)), some (.int (o)), none, none, none, none]) (st1 := [.ref 0]) rfl ?_
  refine Wp.gr (t := (10, 0)) (v := some (1)) rfl (WF.t hw 0 rfl) rfl (WF.r hw 0 0 0 rfl) ?_
  show Wp d 120 20 [some (.ref 0), some (.int (v)), some (.int (o)), none, none, none, none] [.ref 1] h Q
  refine Wp.gi (t := (1, 0)) rfl (WF.t hw 1 rfl) (Or.inl rfl) ?_
  rw [show h.2.2.1 1 3 = A 3 from (congrFun hk.1 3)]
  refine Wp.inv (d2 := 0) (as := [.int (A 3)]) (r := []) rfl rfl rfl rfl rfl rfl (by omega) (s_cRight (Nat.le_refl _) ?_)
  show Wp d 120 26 [some (.ref 0), some (.int (v)), some (.int (o)), none, none, none, none] [.int (f_cRight (A 3))] h Q
  refine Wp.seg 2 (pc1 := 28) (ls1 := [some (.ref 0), some (.int (v)), some (.int (o)), some (.int (f_cRight (A 3))), none, none, none]) (st1 := [.ref 0]) rfl ?_
  refine Wp.gr (t := (10, 0)) (v := some (1)) rfl (WF.t hw 0 rfl) rfl (WF.r hw 0 0 0 rfl) ?_
  show Wp d 120 31 [some (.ref 0), some (.int (v)), some (.int (o)), some (.int (f_cRight (A 3))), none, none, none] [.ref 1] h Q
  refine Wp.gi (t := (1, 0)) rfl (WF.t hw 1 rfl) (Or.inl rfl) ?_
  rw [show h.2.2.1 1 3 = A 3 from (congrFun hk.1 3)]
  refine Wp.inv (d2 := 0) (as := [.int (A 3)]) (r := []) rfl rfl rfl rfl rfl rfl (by omega) (s_cDown (Nat.le_refl _) ?_)
  show Wp d 120 37 [some (.ref 0), some (.int (v)), some (.int (o)), some (.int (f_cRight (A 3))), none, none, none] [.int (f_cDown (A 3))] h Q
  refine Wp.seg 7 (pc1 := 47) (ls1 := [some (.ref 0), some (.int (v)), some (.int (o)), some (.int (f_cRight (A 3))), some (.int (f_cDown (A 3))), some (.int ((1 : Int32) <<< (v &&& 31))), some (.int (0))]) (st1 := []) rfl ?_
  exact hQ
set_option maxHeartbeats 4000000 in
theorem t_cwyB {d : Nat} {Q : KO → Prop} {h : KH} {o i : Nat} {v r q x : Int32} (hi : i < 12) (hd : 1 ≤ d) (hQ : (((x >>> ((Int32.ofNat o) &&& 31)) &&& (1 : Int32)) = 0 → Wp d 120 47 ([some (.ref 0), some (.int (v)), some (.int (Int32.ofNat o)), some (.int (r)), some (.int (q)), some (.int (f_cWider x r q)), some (.int ((Int32.ofNat i) + 1))]) [] h Q) ∧ (¬ (((x >>> ((Int32.ofNat o) &&& 31)) &&& (1 : Int32)) = 0) → Q (some (.int (Int32.ofNat i)), h))) : Wp d 120 47 [some (.ref 0), some (.int (v)), some (.int (Int32.ofNat o)), some (.int (r)), some (.int (q)), some (.int (x)), some (.int (Int32.ofNat i))] [] h Q := by
  refine Wp.seg 2 (pc1 := 51) (ls1 := [some (.ref 0), some (.int (v)), some (.int (Int32.ofNat o)), some (.int (r)), some (.int (q)), some (.int (x)), some (.int (Int32.ofNat i))]) (st1 := [.int (12), .int (Int32.ofNat i)]) rfl ?_
  refine Wp.if2 rfl (fun c1 => absurd c1 (fun c => by have := (zle (m := 12) rfl (znat (n := i) (by omega))).mp c; omega)) (fun c1 => ?_)
  refine Wp.seg 5 (pc1 := 60) (ls1 := [some (.ref 0), some (.int (v)), some (.int (Int32.ofNat o)), some (.int (r)), some (.int (q)), some (.int (x)), some (.int (Int32.ofNat i))]) (st1 := [.int ((x >>> ((Int32.ofNat o) &&& 31)) &&& (1 : Int32))]) rfl ?_
  refine Wp.if1 rfl (fun (c2 : ((x >>> ((Int32.ofNat o) &&& 31)) &&& (1 : Int32)) = 0) => ?_) (fun (c2 : ¬ (((x >>> ((Int32.ofNat o) &&& 31)) &&& (1 : Int32)) = 0)) => ?_)
  · refine Wp.seg 3 (pc1 := 71) (ls1 := [some (.ref 0), some (.int (v)), some (.int (Int32.ofNat o)), some (.int (r)), some (.int (q)), some (.int (x)), some (.int (Int32.ofNat i))]) (st1 := [.int (q), .int (r), .int (x)]) rfl ?_
    refine Wp.inv (d2 := 0) (as := [.int (x), .int (r), .int (q)]) (r := []) rfl rfl rfl rfl rfl rfl (by omega) (s_cWider (Nat.le_refl _) ?_)
    show Wp d 120 74 [some (.ref 0), some (.int (v)), some (.int (Int32.ofNat o)), some (.int (r)), some (.int (q)), some (.int (x)), some (.int (Int32.ofNat i))] [.int (f_cWider x r q)] h Q
    refine Wp.seg 3 (pc1 := 47) (ls1 := [some (.ref 0), some (.int (v)), some (.int (Int32.ofNat o)), some (.int (r)), some (.int (q)), some (.int (f_cWider x r q)), some (.int ((Int32.ofNat i) + 1))]) (st1 := []) rfl ?_
    exact (hQ.1 c2)
  · refine Wp.seg 1 (pc1 := 65) (ls1 := [some (.ref 0), some (.int (v)), some (.int (Int32.ofNat o)), some (.int (r)), some (.int (q)), some (.int (x)), some (.int (Int32.ofNat i))]) (st1 := [.int (Int32.ofNat i)]) rfl ?_
    exact Wp.reti rfl rfl (hQ.2 c2)
set_option maxHeartbeats 4000000 in
theorem t_cwyE {d : Nat} {Q : KO → Prop} {h : KH} {o : Nat} {v r q x : Int32} (hd : 0 ≤ d) (hQ : Q (some (.int (-3)), h)) : Wp d 120 47 [some (.ref 0), some (.int (v)), some (.int (Int32.ofNat o)), some (.int (r)), some (.int (q)), some (.int (x)), some (.int (12))] [] h Q := by
  refine Wp.seg 2 (pc1 := 51) (ls1 := [some (.ref 0), some (.int (v)), some (.int (Int32.ofNat o)), some (.int (r)), some (.int (q)), some (.int (x)), some (.int (12))]) (st1 := [.int (12), .int (12)]) rfl ?_
  refine Wp.if2 rfl (fun c1 => ?_) (fun c1 => absurd (show (12 : Int32) ≤ (12 : Int32) by decide) c1)
  refine Wp.seg 1 (pc1 := 84) (ls1 := [some (.ref 0), some (.int (v)), some (.int (Int32.ofNat o)), some (.int (r)), some (.int (q)), some (.int (x)), some (.int (12))]) (st1 := [.int (-3)]) rfl ?_
  exact Wp.reti rfl rfl hQ
set_option maxHeartbeats 4000000 in
theorem t_mwy {d : Nat} {Q : KO → Prop} {h : KH} {v o : Int32} (hd : 2 ≤ d) (hQ : ((inB v 0 11) = false → Q (some (.int (-1)), h)) ∧ ((inB v 0 11) = true → ((inB o 0 11) = true → Wp d 233 16 ([some (.ref 59), some (.int (v)), some (.int (o)), none, none]) [] h Q) ∧ ((inB o 0 11) = false → Q (some (.int (-1)), h)))) : Cl d 233 [.ref 59, .int (v), .int (o)] h Q := by
  refine Cl.of (ls := [some (.ref 59), some (.int (v)), some (.int (o)), none, none]) rfl rfl ?_
  refine Wp.seg 1 (pc1 := 1) (ls1 := [some (.ref 59), some (.int (v)), some (.int (o)), none, none]) (st1 := [.int (v)]) rfl ?_
  refine Wp.inv (d2 := 1) (as := [.int (v)]) (r := []) rfl rfl rfl rfl rfl rfl (by omega) (s_b176 (Nat.le_refl _) ?_)
  show Wp d 233 4 [some (.ref 59), some (.int (v)), some (.int (o)), none, none] [.int (b32 (inB v 0 11))] h Q
  refine Wp.ifz rfl (fun (c1 : (inB v 0 11) = false) => ?_) (fun (c1 : (inB v 0 11) = true) => ?_)
  · refine Wp.seg 1 (pc1 := 15) (ls1 := [some (.ref 59), some (.int (v)), some (.int (o)), none, none]) (st1 := [.int (-1)]) rfl ?_
    exact Wp.reti rfl rfl (hQ.1 c1)
  · refine Wp.seg 1 (pc1 := 8) (ls1 := [some (.ref 59), some (.int (v)), some (.int (o)), none, none]) (st1 := [.int (o)]) rfl ?_
    refine Wp.inv (d2 := 1) (as := [.int (o)]) (r := []) rfl rfl rfl rfl rfl rfl (by omega) (s_b176 (Nat.le_refl _) ?_)
    show Wp d 233 11 [some (.ref 59), some (.int (v)), some (.int (o)), none, none] [.int (b32 (inB o 0 11))] h Q
    refine Wp.ifnz rfl (fun (c2 : (inB o 0 11) = true) => ?_) (fun (c2 : (inB o 0 11) = false) => ?_)
    · exact ((hQ.2 c1).1 c2)
    · refine Wp.seg 1 (pc1 := 15) (ls1 := [some (.ref 59), some (.int (v)), some (.int (o)), none, none]) (st1 := [.int (-1)]) rfl ?_
      exact Wp.reti rfl rfl ((hQ.2 c1).2 c2)
set_option maxHeartbeats 4000000 in
theorem t_mwyS {d : Nat} {Q : KO → Prop} {h : KH} {v o : Int32} (hd : 1 ≤ d) (hQ : Wp d 233 23 ([some (.ref 59), some (.int (v)), some (.int (o)), some (.int ((1 : Int32) <<< (v &&& 31))), some (.int (0))]) [] h Q) : Wp d 233 16 [some (.ref 59), some (.int (v)), some (.int (o)), none, none] [] h Q := by
  refine Wp.seg 6 (pc1 := 23) (ls1 := [some (.ref 59), some (.int (v)), some (.int (o)), some (.int ((1 : Int32) <<< (v &&& 31))), some (.int (0))]) (st1 := []) rfl ?_
  exact hQ
set_option maxHeartbeats 4000000 in
theorem t_mwyB {d : Nat} {Q : KO → Prop} {h : KH} (hw : WF h) {A : Nat → Int32} {RL : List Rul} {n c dn en : Nat} (hk : refOK h A RL n c dn en) {o i : Nat} {v x : Int32} (hi : i < 12) (hd : 2 ≤ d) (hQ : (¬ ((x >>> ((Int32.ofNat o) &&& 31)) &&& (1 : Int32)) = (1 : Int32) → Wp d 233 23 ([some (.ref 59), some (.int (v)), some (.int (Int32.ofNat o)), some (.int (onw x (A 3))), some (.int ((Int32.ofNat i) + 1))]) [] h Q) ∧ (¬ (¬ ((x >>> ((Int32.ofNat o) &&& 31)) &&& (1 : Int32)) = (1 : Int32)) → Q (some (.int (Int32.ofNat i)), h))) : Wp d 233 23 [some (.ref 59), some (.int (v)), some (.int (Int32.ofNat o)), some (.int (x)), some (.int (Int32.ofNat i))] [] h Q := by
  refine Wp.seg 2 (pc1 := 27) (ls1 := [some (.ref 59), some (.int (v)), some (.int (Int32.ofNat o)), some (.int (x)), some (.int (Int32.ofNat i))]) (st1 := [.int (12), .int (Int32.ofNat i)]) rfl ?_
  refine Wp.if2 rfl (fun c1 => absurd c1 (fun c => by have := (zle (m := 12) rfl (znat (n := i) (by omega))).mp c; omega)) (fun c1 => ?_)
  refine Wp.seg 6 (pc1 := 36) (ls1 := [some (.ref 59), some (.int (v)), some (.int (Int32.ofNat o)), some (.int (x)), some (.int (Int32.ofNat i))]) (st1 := [.int (1), .int ((x >>> ((Int32.ofNat o) &&& 31)) &&& (1 : Int32))]) rfl ?_
  refine Wp.if2 rfl (fun (c2 : ¬ ((x >>> ((Int32.ofNat o) &&& 31)) &&& (1 : Int32)) = (1 : Int32)) => ?_) (fun (c2 : ¬ (¬ ((x >>> ((Int32.ofNat o) &&& 31)) &&& (1 : Int32)) = (1 : Int32))) => ?_)
  · refine Wp.seg 2 (pc1 := 44) (ls1 := [some (.ref 59), some (.int (v)), some (.int (Int32.ofNat o)), some (.int (x)), some (.int (Int32.ofNat i))]) (st1 := [.ref 59, .int (x)]) rfl ?_
    refine Wp.gr (t := (11, 0)) (v := some (60)) rfl (WF.t hw 59 rfl) rfl (WF.r hw 59 0 58 rfl) ?_
    show Wp d 233 47 [some (.ref 59), some (.int (v)), some (.int (Int32.ofNat o)), some (.int (x)), some (.int (Int32.ofNat i))] [.ref 60, .int (x)] h Q
    refine Wp.seg 1 (pc1 := 48) (ls1 := [some (.ref 59), some (.int (v)), some (.int (Int32.ofNat o)), some (.int (x)), some (.int (Int32.ofNat i))]) (st1 := [.int (3), .ref 60, .int (x)]) rfl ?_
    refine Wp.iald (j := 3) (k := 20) (n := 585) rfl (WF.t hw 60 rfl) rfl rfl (by decide) (by decide) ?_
    rw [show h.2.2.1 60 3 = A 3 from (congrFun hk.1 3)]
    refine Wp.inv (d2 := 1) (as := [.int (x), .int (A 3)]) (r := []) rfl rfl rfl rfl rfl rfl (by omega) (s_onw (Nat.le_refl _) ?_)
    show Wp d 233 52 [some (.ref 59), some (.int (v)), some (.int (Int32.ofNat o)), some (.int (x)), some (.int (Int32.ofNat i))] [.int (onw x (A 3))] h Q
    refine Wp.seg 3 (pc1 := 23) (ls1 := [some (.ref 59), some (.int (v)), some (.int (Int32.ofNat o)), some (.int (onw x (A 3))), some (.int ((Int32.ofNat i) + 1))]) (st1 := []) rfl ?_
    exact (hQ.1 c2)
  · refine Wp.seg 1 (pc1 := 41) (ls1 := [some (.ref 59), some (.int (v)), some (.int (Int32.ofNat o)), some (.int (x)), some (.int (Int32.ofNat i))]) (st1 := [.int (Int32.ofNat i)]) rfl ?_
    exact Wp.reti rfl rfl (hQ.2 c2)
set_option maxHeartbeats 4000000 in
theorem t_mwyE {d : Nat} {Q : KO → Prop} {h : KH} {o : Nat} {v x : Int32} (hd : 0 ≤ d) (hQ : Q (some (.int (-3)), h)) : Wp d 233 23 [some (.ref 59), some (.int (v)), some (.int (Int32.ofNat o)), some (.int (x)), some (.int (12))] [] h Q := by
  refine Wp.seg 2 (pc1 := 27) (ls1 := [some (.ref 59), some (.int (v)), some (.int (Int32.ofNat o)), some (.int (x)), some (.int (12))]) (st1 := [.int (12), .int (12)]) rfl ?_
  refine Wp.if2 rfl (fun c1 => ?_) (fun c1 => absurd (show (12 : Int32) ≤ (12 : Int32) by decide) c1)
  refine Wp.seg 1 (pc1 := 61) (ls1 := [some (.ref 59), some (.int (v)), some (.int (Int32.ofNat o)), some (.int (x)), some (.int (12))]) (st1 := [.int (-3)]) rfl ?_
  exact Wp.reti rfl rfl hQ
theorem c_wayL {d : Nat} {Q : KO → Prop} {h : KH} {v l : Int32} {o : Nat} (ho : o < 12) (hd : 1 ≤ d) : ∀ (k i : Nat) (x : Int32), i + k = 12 → ok12 x → Q (some (.int (wayL l o k i x)), h) → Wp d 120 47 [some (.ref 0), some (.int v), some (.int (Int32.ofNat o)), some (.int (f_cRight l)), some (.int (f_cDown l)), some (.int x), some (.int (Int32.ofNat i))] [] h Q
  | 0, i, x, hik, hx, hQ => by
    obtain rfl : i = 12 := hik
    exact t_cwyE (Nat.zero_le _) hQ
  | k + 1, i, x, hik, hx, hQ => by
    unfold wayL at hQ
    have hb0 := bt_low0 (x := x) (k := o) (by omega)
    refine t_cwyB (by omega) hd ⟨fun c1 => ?_, fun c1 => ?_⟩
    · rw [if_neg (by rw [hb0.mp c1]; decide)] at hQ
      rw [wider_onw hx, show Int32.ofNat i + 1 = Int32.ofNat (i + 1) from ofadd i 1]
      exact c_wayL ho hd k (i + 1) _ (by omega) (ok12_onw hx) hQ
    · rw [if_pos (by cases e : bt x o with
        | true => rfl
        | false => exact absurd (hb0.mpr e) c1)] at hQ
      exact hQ
theorem c_way {d : Nat} {h : KH} (hw : WF h) {A : Nat → Int32} {RL : List Rul} {n c dn en : Nat} (hk : cityOK h 1 A RL n c dn en) (hd : 1 ≤ d) {v o : Int32} : Cl d 120 [.ref 0, .int v, .int o] h (qu (wayS A v o) h) := by
  unfold wayS
  refine t_cwy hd ⟨fun q => ?_, fun q => ⟨fun q2 => ?_, fun q2 => ?_⟩⟩
  · rw [if_neg (fun z => by rw [q] at z; cases z.1)]
    exact qu_i (Quiet.refl h)
  · rw [if_pos ⟨q, q2⟩]
    obtain ⟨m, hm, rfl⟩ := inB_nat (b := 11) q
    obtain ⟨p, hp, rfl⟩ := inB_nat (b := 11) q2
    rw [clamp_ofNat (by omega)]
    exact t_cwyS hw hk hd (c_wayL (by omega) hd 12 0 _ (by omega) (ok12_one (by omega)) (qu_i (Quiet.refl h)))
  · rw [if_neg (fun z => by rw [q2] at z; cases z.2)]
    exact qu_i (Quiet.refl h)
theorem m_wayL {d : Nat} {Q : KO → Prop} {h : KH} (hw : WF h) {A : Nat → Int32} {RL : List Rul} {n c dn en : Nat} (hk : refOK h A RL n c dn en) {v : Int32} {o : Nat} (ho : o < 12) (hd : 2 ≤ d) : ∀ (k i : Nat) (x : Int32), i + k = 12 → Q (some (.int (wayL (A 3) o k i x)), h) → Wp d 233 23 [some (.ref 59), some (.int v), some (.int (Int32.ofNat o)), some (.int x), some (.int (Int32.ofNat i))] [] h Q
  | 0, i, x, hik, hQ => by
    obtain rfl : i = 12 := hik
    exact t_mwyE (Nat.zero_le _) hQ
  | k + 1, i, x, hik, hQ => by
    unfold wayL at hQ
    have hb := bt_low (x := x) (k := o) (by omega)
    refine t_mwyB hw hk (by omega) hd ⟨fun c1 => ?_, fun c1 => ?_⟩
    · rw [if_neg (fun z => c1 (hb.mpr z))] at hQ
      rw [show Int32.ofNat i + 1 = Int32.ofNat (i + 1) from ofadd i 1]
      exact m_wayL hw hk ho hd k (i + 1) _ (by omega) hQ
    · rw [if_pos (hb.mp (Decidable.not_not.mp c1))] at hQ
      exact hQ
theorem m_way {d : Nat} {h : KH} (hw : WF h) {A : Nat → Int32} {RL : List Rul} {n c dn en : Nat} (hk : refOK h A RL n c dn en) (hd : 2 ≤ d) {v o : Int32} : Cl d 233 [.ref 59, .int v, .int o] h (qu (wayS A v o) h) := by
  unfold wayS
  refine t_mwy hd ⟨fun q => ?_, fun q => ⟨fun q2 => ?_, fun q2 => ?_⟩⟩
  · rw [if_neg (fun z => by rw [q] at z; cases z.1)]
    exact qu_i (Quiet.refl h)
  · rw [if_pos ⟨q, q2⟩]
    obtain ⟨m, hm, rfl⟩ := inB_nat (b := 11) q
    obtain ⟨p, hp, rfl⟩ := inB_nat (b := 11) q2
    rw [clamp_ofNat (by omega)]
    exact t_mwyS (by omega) (m_wayL hw hk (by omega) hd 12 0 _ (by omega) (qu_i (Quiet.refl h)))
  · rw [if_neg (fun z => by rw [q2] at z; cases z.2)]
    exact qu_i (Quiet.refl h)
set_option maxHeartbeats 4000000 in
theorem t_cbr {d : Nat} {Q : KO → Prop} {h : KH} (hw : WF h) {A : Nat → Int32} {RL : List Rul} {n c dn en : Nat} (hk : cityOK h 1 A RL n c dn en) (hd : 3 ≤ d) (hQ : Wp d 121 12 ([some (.ref 0), some (.int (shA c A)), some (.int (0)), some (.int (0))]) [] h Q) : Cl d 121 [.ref 0] h Q := by
  refine Cl.of (ls := [some (.ref 0), none, none, none]) rfl rfl ?_
  refine Wp.seg 1 (pc1 := 1) (ls1 := [some (.ref 0), none, none, none]) (st1 := [.ref 0]) rfl ?_
  refine Wp.gr (t := (10, 0)) (v := some (1)) rfl (WF.t hw 0 rfl) rfl (WF.r hw 0 0 0 rfl) ?_
  show Wp d 121 4 [some (.ref 0), none, none, none] [.ref 1] h Q
  refine Wp.invV (d2 := 2) (as := [.ref 1]) (r := []) (t := (1, 0)) rfl rfl rfl rfl (WF.t hw 1 rfl) rfl rfl ⟨rfl, rfl⟩ (by omega) (s_shutC hw cA1 hk (Nat.le_refl _) ?_)
  show Wp d 121 7 [some (.ref 0), none, none, none] [.int (shA c A)] h Q
  refine Wp.seg 5 (pc1 := 12) (ls1 := [some (.ref 0), some (.int (shA c A)), some (.int (0)), some (.int (0))]) (st1 := []) rfl ?_
  exact hQ
set_option maxHeartbeats 4000000 in
theorem t_cbrB {d : Nat} {Q : KO → Prop} {h : KH} (hw : WF h) {A : Nat → Int32} {RL : List Rul} {n c dn en : Nat} (hk : cityOK h 1 A RL n c dn en) {x : Int32} {e : Nat} (he : e < 17) (hd : 2 ≤ d) (hQ : ((shutS (Int32.ofNat c) ((A 3) ||| ((1 : Int32) <<< ((Int32.ofNat e) &&& 31)))) = (shA c A) → Wp d 121 12 ([some (.ref 0), some (.int (shA c A)), some (.int (x)), some (.int ((Int32.ofNat e) + 1))]) [] h Q) ∧ (¬ ((shutS (Int32.ofNat c) ((A 3) ||| ((1 : Int32) <<< ((Int32.ofNat e) &&& 31)))) = (shA c A)) → Wp d 121 12 ([some (.ref 0), some (.int (shA c A)), some (.int (x ||| ((1 : Int32) <<< ((Int32.ofNat e) &&& 31)))), some (.int ((Int32.ofNat e) + 1))]) [] h Q)) : Wp d 121 12 [some (.ref 0), some (.int (shA c A)), some (.int (x)), some (.int (Int32.ofNat e))] [] h Q := by
  refine Wp.seg 2 (pc1 := 15) (ls1 := [some (.ref 0), some (.int (shA c A)), some (.int (x)), some (.int (Int32.ofNat e))]) (st1 := [.int (17), .int (Int32.ofNat e)]) rfl ?_
  refine Wp.if2 rfl (fun c1 => absurd c1 (fun c => by have := (zle (m := 17) rfl (znat (n := e) (by omega))).mp c; omega)) (fun c1 => ?_)
  refine Wp.seg 1 (pc1 := 19) (ls1 := [some (.ref 0), some (.int (shA c A)), some (.int (x)), some (.int (Int32.ofNat e))]) (st1 := [.ref 0]) rfl ?_
  refine Wp.gr (t := (10, 0)) (v := some (1)) rfl (WF.t hw 0 rfl) rfl (WF.r hw 0 0 0 rfl) ?_
  show Wp d 121 22 [some (.ref 0), some (.int (shA c A)), some (.int (x)), some (.int (Int32.ofNat e))] [.ref 1] h Q
  refine Wp.gi (t := (1, 0)) rfl (WF.t hw 1 rfl) (Or.inl rfl) ?_
  rw [show h.2.2.1 1 2 = Int32.ofNat c from hk.2.1.2.2.2.1]
  refine Wp.seg 1 (pc1 := 26) (ls1 := [some (.ref 0), some (.int (shA c A)), some (.int (x)), some (.int (Int32.ofNat e))]) (st1 := [.ref 0, .int (Int32.ofNat c)]) rfl ?_
  refine Wp.gr (t := (10, 0)) (v := some (1)) rfl (WF.t hw 0 rfl) rfl (WF.r hw 0 0 0 rfl) ?_
  show Wp d 121 29 [some (.ref 0), some (.int (shA c A)), some (.int (x)), some (.int (Int32.ofNat e))] [.ref 1, .int (Int32.ofNat c)] h Q
  refine Wp.gi (t := (1, 0)) rfl (WF.t hw 1 rfl) (Or.inl rfl) ?_
  rw [show h.2.2.1 1 3 = A 3 from (congrFun hk.1 3)]
  refine Wp.seg 4 (pc1 := 36) (ls1 := [some (.ref 0), some (.int (shA c A)), some (.int (x)), some (.int (Int32.ofNat e))]) (st1 := [.int ((A 3) ||| ((1 : Int32) <<< ((Int32.ofNat e) &&& 31))), .int (Int32.ofNat c)]) rfl ?_
  refine Wp.inv (d2 := 1) (as := [.int (Int32.ofNat c), .int ((A 3) ||| ((1 : Int32) <<< ((Int32.ofNat e) &&& 31)))]) (r := []) rfl rfl rfl rfl rfl rfl (by omega) (s_cshut (Nat.le_refl _) hk.2.1.2.2.1 ?_)
  show Wp d 121 39 [some (.ref 0), some (.int (shA c A)), some (.int (x)), some (.int (Int32.ofNat e))] [.int (shutS (Int32.ofNat c) ((A 3) ||| ((1 : Int32) <<< ((Int32.ofNat e) &&& 31))))] h Q
  refine Wp.seg 1 (pc1 := 40) (ls1 := [some (.ref 0), some (.int (shA c A)), some (.int (x)), some (.int (Int32.ofNat e))]) (st1 := [.int (shA c A), .int (shutS (Int32.ofNat c) ((A 3) ||| ((1 : Int32) <<< ((Int32.ofNat e) &&& 31))))]) rfl ?_
  refine Wp.if2 rfl (fun (c2 : (shutS (Int32.ofNat c) ((A 3) ||| ((1 : Int32) <<< ((Int32.ofNat e) &&& 31)))) = (shA c A)) => ?_) (fun (c2 : ¬ ((shutS (Int32.ofNat c) ((A 3) ||| ((1 : Int32) <<< ((Int32.ofNat e) &&& 31)))) = (shA c A))) => ?_)
  · refine Wp.seg 2 (pc1 := 12) (ls1 := [some (.ref 0), some (.int (shA c A)), some (.int (x)), some (.int ((Int32.ofNat e) + 1))]) (st1 := []) rfl ?_
    exact (hQ.1 c2)
  · refine Wp.seg 8 (pc1 := 12) (ls1 := [some (.ref 0), some (.int (shA c A)), some (.int (x ||| ((1 : Int32) <<< ((Int32.ofNat e) &&& 31)))), some (.int ((Int32.ofNat e) + 1))]) (st1 := []) rfl ?_
    exact (hQ.2 c2)
set_option maxHeartbeats 4000000 in
theorem t_cbrE {d : Nat} {Q : KO → Prop} {h : KH} {x s : Int32} (hd : 0 ≤ d) (hQ : Q (some (.int (x)), h)) : Wp d 121 12 [some (.ref 0), some (.int (s)), some (.int (x)), some (.int (17))] [] h Q := by
  refine Wp.seg 2 (pc1 := 15) (ls1 := [some (.ref 0), some (.int (s)), some (.int (x)), some (.int (17))]) (st1 := [.int (17), .int (17)]) rfl ?_
  refine Wp.if2 rfl (fun c1 => ?_) (fun c1 => absurd (show (17 : Int32) ≤ (17 : Int32) by decide) c1)
  refine Wp.seg 1 (pc1 := 56) (ls1 := [some (.ref 0), some (.int (s)), some (.int (x)), some (.int (17))]) (st1 := [.int (x)]) rfl ?_
  exact Wp.reti rfl rfl hQ
theorem r_shutBy {d : Nat} {Q : KO → Prop} {h : KH} (hw : WF h) {A : Nat → Int32} {RL : List Rul} {n c dn en : Nat} (hk : refOK h A RL n c dn en) {l : Int32} (hd : 2 ≤ d) (hQ : Q (some (.int (shutS (Int32.ofNat c) l)), h)) : Cl d 185 [.ref 59, .int l] h Q := by
  have e2 := hk.2.1.2.2.2.1
  refine s_shutBy hw hd (by rw [e2]; exact fixS_all hk.2.1.2.2.1 l) ?_
  rw [e2]
  exact hQ
set_option maxHeartbeats 4000000 in
theorem t_mbr {d : Nat} {Q : KO → Prop} {h : KH} (hw : WF h) {A : Nat → Int32} {RL : List Rul} {n c dn en : Nat} (hk : refOK h A RL n c dn en) (hd : 4 ≤ d) (hQ : Wp d 234 9 ([some (.ref 59), some (.int (0)), some (.int (shA c A)), some (.int (0)), none]) [] h Q) : Cl d 234 [.ref 59] h Q := by
  refine Cl.of (ls := [some (.ref 59), none, none, none, none]) rfl rfl ?_
  refine Wp.seg 3 (pc1 := 3) (ls1 := [some (.ref 59), some (.int (0)), none, none, none]) (st1 := [.ref 59]) rfl ?_
  refine Wp.invV (d2 := 3) (as := [.ref 59]) (r := []) (t := (11, 0)) rfl rfl rfl rfl (WF.t hw 59 rfl) rfl rfl ⟨rfl, rfl⟩ (by omega) (r_shut hw hk (Nat.le_refl _) ?_)
  show Wp d 234 6 [some (.ref 59), some (.int (0)), none, none, none] [.int (shA c A)] h Q
  refine Wp.seg 3 (pc1 := 9) (ls1 := [some (.ref 59), some (.int (0)), some (.int (shA c A)), some (.int (0)), none]) (st1 := []) rfl ?_
  exact hQ
set_option maxHeartbeats 4000000 in
theorem t_mbrB {d : Nat} {Q : KO → Prop} {h : KH} (hw : WF h) {A : Nat → Int32} {RL : List Rul} {n c dn en : Nat} (hk : refOK h A RL n c dn en) {x : Int32} {e : Nat} {z : Option Value} (he : e < 17) (hd : 3 ≤ d) (hQ : (¬ (((A 3) >>> ((Int32.ofNat e) &&& 31)) &&& (1 : Int32)) = 0 → Wp d 234 9 ([some (.ref 59), some (.int (x ||| (0 : Int32))), some (.int (shA c A)), some (.int ((Int32.ofNat e) + 1)), some (.int (0))]) [] h Q) ∧ (¬ (¬ (((A 3) >>> ((Int32.ofNat e) &&& 31)) &&& (1 : Int32)) = 0) → ((shutS (Int32.ofNat c) ((A 3) ||| ((1 : Int32) <<< ((Int32.ofNat e) &&& 31)))) = (shA c A) → Wp d 234 9 ([some (.ref 59), some (.int (x ||| (0 : Int32))), some (.int (shA c A)), some (.int ((Int32.ofNat e) + 1)), some (.int (0))]) [] h Q) ∧ (¬ ((shutS (Int32.ofNat c) ((A 3) ||| ((1 : Int32) <<< ((Int32.ofNat e) &&& 31)))) = (shA c A)) → Wp d 234 9 ([some (.ref 59), some (.int (x ||| ((1 : Int32) <<< ((Int32.ofNat e) &&& 31)))), some (.int (shA c A)), some (.int ((Int32.ofNat e) + 1)), some (.int (1))]) [] h Q))) : Wp d 234 9 [some (.ref 59), some (.int (x)), some (.int (shA c A)), some (.int (Int32.ofNat e)), z] [] h Q := by
  refine Wp.seg 2 (pc1 := 12) (ls1 := [some (.ref 59), some (.int (x)), some (.int (shA c A)), some (.int (Int32.ofNat e)), z]) (st1 := [.int (17), .int (Int32.ofNat e)]) rfl ?_
  refine Wp.if2 rfl (fun c1 => absurd c1 (fun c => by have := (zle (m := 17) rfl (znat (n := e) (by omega))).mp c; omega)) (fun c1 => ?_)
  refine Wp.seg 1 (pc1 := 16) (ls1 := [some (.ref 59), some (.int (x)), some (.int (shA c A)), some (.int (Int32.ofNat e)), z]) (st1 := [.ref 59]) rfl ?_
  refine Wp.gr (t := (11, 0)) (v := some (60)) rfl (WF.t hw 59 rfl) rfl (WF.r hw 59 0 58 rfl) ?_
  show Wp d 234 19 [some (.ref 59), some (.int (x)), some (.int (shA c A)), some (.int (Int32.ofNat e)), z] [.ref 60] h Q
  refine Wp.seg 1 (pc1 := 20) (ls1 := [some (.ref 59), some (.int (x)), some (.int (shA c A)), some (.int (Int32.ofNat e)), z]) (st1 := [.int (3), .ref 60]) rfl ?_
  refine Wp.iald (j := 3) (k := 20) (n := 585) rfl (WF.t hw 60 rfl) rfl rfl (by decide) (by decide) ?_
  rw [show h.2.2.1 60 3 = A 3 from (congrFun hk.1 3)]
  refine Wp.seg 4 (pc1 := 25) (ls1 := [some (.ref 59), some (.int (x)), some (.int (shA c A)), some (.int (Int32.ofNat e)), z]) (st1 := [.int (((A 3) >>> ((Int32.ofNat e) &&& 31)) &&& (1 : Int32))]) rfl ?_
  refine Wp.if1 rfl (fun (c2 : ¬ (((A 3) >>> ((Int32.ofNat e) &&& 31)) &&& (1 : Int32)) = 0) => ?_) (fun (c2 : ¬ (¬ (((A 3) >>> ((Int32.ofNat e) &&& 31)) &&& (1 : Int32)) = 0)) => ?_)
  · refine Wp.seg 4 (pc1 := 56) (ls1 := [some (.ref 59), some (.int (x)), some (.int (shA c A)), some (.int (Int32.ofNat e)), some (.int (0))]) (st1 := [.int (0), .int (x)]) rfl ?_
    refine Wp.if1 rfl (fun c3 => ?_) (fun c3 => absurd (show (0 : Int32) = 0 by decide) c3)
    refine Wp.seg 5 (pc1 := 9) (ls1 := [some (.ref 59), some (.int (x ||| (0 : Int32))), some (.int (shA c A)), some (.int ((Int32.ofNat e) + 1)), some (.int (0))]) (st1 := []) rfl ?_
    exact (hQ.1 c2)
  · refine Wp.seg 2 (pc1 := 30) (ls1 := [some (.ref 59), some (.int (x)), some (.int (shA c A)), some (.int (Int32.ofNat e)), z]) (st1 := [.ref 59, .ref 59]) rfl ?_
    refine Wp.gr (t := (11, 0)) (v := some (60)) rfl (WF.t hw 59 rfl) rfl (WF.r hw 59 0 58 rfl) ?_
    show Wp d 234 33 [some (.ref 59), some (.int (x)), some (.int (shA c A)), some (.int (Int32.ofNat e)), z] [.ref 60, .ref 59] h Q
    refine Wp.seg 1 (pc1 := 34) (ls1 := [some (.ref 59), some (.int (x)), some (.int (shA c A)), some (.int (Int32.ofNat e)), z]) (st1 := [.int (3), .ref 60, .ref 59]) rfl ?_
    refine Wp.iald (j := 3) (k := 20) (n := 585) rfl (WF.t hw 60 rfl) rfl rfl (by decide) (by decide) ?_
    rw [show h.2.2.1 60 3 = A 3 from (congrFun hk.1 3)]
    refine Wp.seg 4 (pc1 := 39) (ls1 := [some (.ref 59), some (.int (x)), some (.int (shA c A)), some (.int (Int32.ofNat e)), z]) (st1 := [.int ((A 3) ||| ((1 : Int32) <<< ((Int32.ofNat e) &&& 31))), .ref 59]) rfl ?_
    refine Wp.invV (d2 := 2) (as := [.ref 59, .int ((A 3) ||| ((1 : Int32) <<< ((Int32.ofNat e) &&& 31)))]) (r := []) (t := (11, 0)) rfl rfl rfl rfl (WF.t hw 59 rfl) rfl rfl ⟨rfl, rfl⟩ (by omega) (r_shutBy hw hk (Nat.le_refl _) ?_)
    show Wp d 234 42 [some (.ref 59), some (.int (x)), some (.int (shA c A)), some (.int (Int32.ofNat e)), z] [.int (shutS (Int32.ofNat c) ((A 3) ||| ((1 : Int32) <<< ((Int32.ofNat e) &&& 31))))] h Q
    refine Wp.seg 1 (pc1 := 43) (ls1 := [some (.ref 59), some (.int (x)), some (.int (shA c A)), some (.int (Int32.ofNat e)), z]) (st1 := [.int (shA c A), .int (shutS (Int32.ofNat c) ((A 3) ||| ((1 : Int32) <<< ((Int32.ofNat e) &&& 31))))]) rfl ?_
    refine Wp.if2 rfl (fun (c4 : (shutS (Int32.ofNat c) ((A 3) ||| ((1 : Int32) <<< ((Int32.ofNat e) &&& 31)))) = (shA c A)) => ?_) (fun (c4 : ¬ ((shutS (Int32.ofNat c) ((A 3) ||| ((1 : Int32) <<< ((Int32.ofNat e) &&& 31)))) = (shA c A))) => ?_)
    · refine Wp.seg 4 (pc1 := 56) (ls1 := [some (.ref 59), some (.int (x)), some (.int (shA c A)), some (.int (Int32.ofNat e)), some (.int (0))]) (st1 := [.int (0), .int (x)]) rfl ?_
      refine Wp.if1 rfl (fun c5 => ?_) (fun c5 => absurd (show (0 : Int32) = 0 by decide) c5)
      refine Wp.seg 5 (pc1 := 9) (ls1 := [some (.ref 59), some (.int (x ||| (0 : Int32))), some (.int (shA c A)), some (.int ((Int32.ofNat e) + 1)), some (.int (0))]) (st1 := []) rfl ?_
      exact ((hQ.2 c2).1 c4)
    · refine Wp.seg 5 (pc1 := 56) (ls1 := [some (.ref 59), some (.int (x)), some (.int (shA c A)), some (.int (Int32.ofNat e)), some (.int (1))]) (st1 := [.int (1), .int (x)]) rfl ?_
      refine Wp.if1 rfl (fun c6 => absurd c6 (show ¬ ((1 : Int32) = 0) by decide)) (fun c6 => ?_)
      refine Wp.seg 8 (pc1 := 9) (ls1 := [some (.ref 59), some (.int (x ||| ((1 : Int32) <<< ((Int32.ofNat e) &&& 31)))), some (.int (shA c A)), some (.int ((Int32.ofNat e) + 1)), some (.int (1))]) (st1 := []) rfl ?_
      exact ((hQ.2 c2).2 c4)
set_option maxHeartbeats 4000000 in
theorem t_mbrE {d : Nat} {Q : KO → Prop} {h : KH} {x s : Int32} {z : Option Value} (hd : 0 ≤ d) (hQ : Q (some (.int (x)), h)) : Wp d 234 9 [some (.ref 59), some (.int (x)), some (.int (s)), some (.int (17)), z] [] h Q := by
  refine Wp.seg 2 (pc1 := 12) (ls1 := [some (.ref 59), some (.int (x)), some (.int (s)), some (.int (17)), z]) (st1 := [.int (17), .int (17)]) rfl ?_
  refine Wp.if2 rfl (fun c1 => ?_) (fun c1 => absurd (show (17 : Int32) ≤ (17 : Int32) by decide) c1)
  refine Wp.seg 1 (pc1 := 75) (ls1 := [some (.ref 59), some (.int (x)), some (.int (s)), some (.int (17)), z]) (st1 := [.int (x)]) rfl ?_
  exact Wp.reti rfl rfl hQ
theorem or_bit {l : Int32} {e : Nat} (he : e < 32) (h : bt l e = true) : l ||| ((1 : Int32) <<< (Int32.ofNat e &&& 31)) = l := by
  refine bt_ext fun i hi => ?_
  rw [bt_or, bt_shl he]
  by_cases q : i = e
  · subst q
    rw [h]
    rfl
  · simp [q]
theorem c_brL {d : Nat} {Q : KO → Prop} {h : KH} (hw : WF h) {A : Nat → Int32} {RL : List Rul} {n c dn en : Nat} (hk : cityOK h 1 A RL n c dn en) (hd : 2 ≤ d) : ∀ (k e : Nat) (x : Int32), e + k = 17 → Q (some (.int (brL c (A 3) k e x)), h) → Wp d 121 12 [some (.ref 0), some (.int (shA c A)), some (.int x), some (.int (Int32.ofNat e))] [] h Q
  | 0, e, x, hek, hQ => by
    obtain rfl : e = 17 := hek
    exact t_cbrE (Nat.zero_le _) hQ
  | k + 1, e, x, hek, hQ => by
    unfold brL at hQ
    refine t_cbrB hw hk (by omega) hd ⟨fun c1 => ?_, fun c1 => ?_⟩
    · rw [if_pos (show _ = shutS (Int32.ofNat c) (A 3) from c1)] at hQ
      rw [show Int32.ofNat e + 1 = Int32.ofNat (e + 1) from ofadd e 1]
      exact c_brL hw hk hd k (e + 1) _ (by omega) hQ
    · rw [if_neg (show ¬ _ = shutS (Int32.ofNat c) (A 3) from c1)] at hQ
      rw [show Int32.ofNat e + 1 = Int32.ofNat (e + 1) from ofadd e 1]
      exact c_brL hw hk hd k (e + 1) _ (by omega) hQ
theorem c_bridges {d : Nat} {h : KH} (hw : WF h) {A : Nat → Int32} {RL : List Rul} {n c dn en : Nat} (hk : cityOK h 1 A RL n c dn en) (hd : 3 ≤ d) : Cl d 121 [.ref 0] h (qu (bridS c A) h) :=
  t_cbr hw hk hd (c_brL hw hk (by omega) 17 0 0 (by omega) (qu_i (Quiet.refl h)))
theorem m_brL {d : Nat} {Q : KO → Prop} {h : KH} (hw : WF h) {A : Nat → Int32} {RL : List Rul} {n c dn en : Nat} (hk : refOK h A RL n c dn en) (hd : 3 ≤ d) : ∀ (k e : Nat) (x : Int32) (z : Option Value), e + k = 17 → Q (some (.int (brL c (A 3) k e x)), h) → Wp d 234 9 [some (.ref 59), some (.int x), some (.int (shA c A)), some (.int (Int32.ofNat e)), z] [] h Q
  | 0, e, x, z, hek, hQ => by
    obtain rfl : e = 17 := hek
    exact t_mbrE (Nat.zero_le _) hQ
  | k + 1, e, x, z, hek, hQ => by
    unfold brL at hQ
    have hb0 := bt_low0 (x := A 3) (k := e) (by omega)
    have same : shutS (Int32.ofNat c) (A 3 ||| ((1 : Int32) <<< (Int32.ofNat e &&& 31))) = shutS (Int32.ofNat c) (A 3) → ∀ z, Wp d 234 9 [some (.ref 59), some (.int (x ||| 0)), some (.int (shA c A)), some (.int (Int32.ofNat e + 1)), z] [] h Q := by
      intro c1 z
      rw [if_pos c1] at hQ
      rw [show Int32.ofNat e + 1 = Int32.ofNat (e + 1) from ofadd e 1, or_0]
      exact m_brL hw hk hd k (e + 1) _ _ (by omega) hQ
    have other : ¬ shutS (Int32.ofNat c) (A 3 ||| ((1 : Int32) <<< (Int32.ofNat e &&& 31))) = shutS (Int32.ofNat c) (A 3) → ∀ z, Wp d 234 9 [some (.ref 59), some (.int (x ||| ((1 : Int32) <<< (Int32.ofNat e &&& 31)))), some (.int (shA c A)), some (.int (Int32.ofNat e + 1)), z] [] h Q := by
      intro c1 z
      rw [if_neg c1] at hQ
      rw [show Int32.ofNat e + 1 = Int32.ofNat (e + 1) from ofadd e 1]
      exact m_brL hw hk hd k (e + 1) _ _ (by omega) hQ
    refine t_mbrB hw hk (by omega) hd ⟨fun c1 => ?_, fun c1 => ⟨fun c2 => same c2 _, fun c2 => other c2 _⟩⟩
    have hb : bt (A 3) e = true := by
      cases q : bt (A 3) e with
      | true => rfl
      | false => exact absurd (hb0.mpr q) c1
    exact same (by rw [or_bit (by omega) hb]) _
theorem m_bridges {d : Nat} {h : KH} (hw : WF h) {A : Nat → Int32} {RL : List Rul} {n c dn en : Nat} (hk : refOK h A RL n c dn en) (hd : 4 ≤ d) : Cl d 234 [.ref 59] h (qu (bridS c A) h) :=
  t_mbr hw hk hd (m_brL hw hk (by omega) 17 0 0 _ (by omega) (qu_i (Quiet.refl h)))
