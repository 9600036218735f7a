/-! KM: the class: best(), ith(), ways(), siege(), bars() -/
def plN (dn en : Nat) (v : Int32) : Nat := min v.toNatClampNeg (en - dn)
def bestS (RL : List Rul) (n c dn en : Nat) (A : Nat → Int32) (v : Int32) : Int32 := if inB v 0 4 = true then (PL RL c n 0 (plN dn en v) A).1 else -1
def waysS (RL : List Rul) (n c dn en : Nat) (A : Nat → Int32) (v : Int32) : Int32 := if inB v 0 4 = true then (PL RL c n 0 (plN dn en v) A).2.1 else -1
def ithS (RL : List Rul) (n c dn en : Nat) (A : Nat → Int32) (v i : Int32) : Int32 := if inB v 0 4 = true ∧ inB i 0 3 = true then (if i.toNatClampNeg < plN dn en v then Int32.ofNat ((PL RL c n 0 (plN dn en v) A).2.2.2.2.getD i.toNatClampNeg 0) else -3) else -1
def siegeS (RL : List Rul) (n c dn en : Nat) (A : Nat → Int32) (v s : Int32) : Int32 := if inB v 0 4 = true ∧ inB s 0 4095 = true then (if (PL RL c n s (plN dn en v) A).2.2.1 ≤ 4 then (PL RL c n s (plN dn en v) A).2.2.1 else -3) else -1
/-- the least of a set -/
def lstL (x : Int32) : Nat → Nat → Int32
  | 0, _ => -3
  | k + 1, i => if bt x i = true then Int32.ofNat i else lstL x k (i + 1)
def barsS (RL : List Rul) (n c dn en : Nat) (A : Nat → Int32) (v s : Int32) : Int32 := if inB v 0 4 = true ∧ inB s 0 4095 = true then lstL (s &&& ((PL RL c n s (plN dn en v) A).2.2.2.1 ^^^ (-1))) 12 0 else -1
set_option maxHeartbeats 4000000 in
theorem t_cbestB {d : Nat} {Q : KO → Prop} {h : KH} (hw : WF h) {A : Nat → Int32} {RL : List Rul} {n c dn en : Nat} (hk : cityOK h 1 A RL n c dn en) {m : Nat} (hm : m ≤ 4) (hd : 11 ≤ d) (hQ : ∀ k, Fr pE pE h k → WS k 0 (min m (en - dn)) (PL RL c n 0 (min m (en - dn)) A) → (Q (some (.int ((PL RL c n 0 (min m (en - dn)) A).1)), k))) : Wp d 122 9 [some (.ref 0), some (.int (Int32.ofNat m))] [] h Q := by
  refine Wp.seg 1 (pc1 := 10) (ls1 := [some (.ref 0), some (.int (Int32.ofNat m))]) (st1 := [.ref 0]) rfl ?_
  refine Wp.gr (t := (10, 0)) (v := some (10)) rfl (WF.t hw 0 rfl) rfl (WF.r hw 0 3 3 rfl) ?_
  show Wp d 122 13 [some (.ref 0), some (.int (Int32.ofNat m))] [.ref 10] h Q
  refine Wp.seg 1 (pc1 := 14) (ls1 := [some (.ref 0), some (.int (Int32.ofNat m))]) (st1 := [.ref 0, .ref 10]) rfl ?_
  refine Wp.gr (t := (10, 0)) (v := some (1)) rfl (WF.t hw 0 rfl) rfl (WF.r hw 0 0 0 rfl) ?_
  show Wp d 122 17 [some (.ref 0), some (.int (Int32.ofNat m))] [.ref 1, .ref 10] h Q
  refine Wp.seg 2 (pc1 := 19) (ls1 := [some (.ref 0), some (.int (Int32.ofNat m))]) (st1 := [.int (0), .int (Int32.ofNat m), .ref 1, .ref 10]) rfl ?_
  refine Wp.invV (d2 := 10) (as := [.ref 10, .ref 1, .int (Int32.ofNat m), .int (0)]) (r := []) (t := (5, 0)) rfl rfl rfl rfl (WF.t hw 10 rfl) rfl rfl ⟨rfl, rfl⟩ (by omega) (s_explore hw hk hm (Nat.le_refl _) ?_)
  intro k f g
  show Wp d 122 22 [some (.ref 0), some (.int (Int32.ofNat m))] [] k Q
  refine Wp.seg 1 (pc1 := 23) (ls1 := [some (.ref 0), some (.int (Int32.ofNat m))]) (st1 := [.ref 0]) rfl ?_
  refine Wp.gr (t := (10, 0)) (v := some (10)) rfl (WF.t (f.wf hw (by unfold pE; omega)) 0 rfl) rfl (WF.r (f.wf hw (by unfold pE; omega)) 0 3 3 rfl) ?_
  show Wp d 122 26 [some (.ref 0), some (.int (Int32.ofNat m))] [.ref 10] k Q
  refine Wp.gi (t := (5, 0)) rfl (WF.t (f.wf hw (by unfold pE; omega)) 10 rfl) (Or.inl rfl) ?_
  rw [show k.2.2.1 10 4 = (PL RL c n 0 (min m (en - dn)) A).1 from g.1]
  exact Wp.reti rfl rfl (hQ k f g)
set_option maxHeartbeats 4000000 in
theorem t_cbest {d : Nat} {Q : KO → Prop} {h : KH} {v : Int32} (hd : 11 ≤ d) (hQ : ((inB v 0 4) = true → Wp d 122 9 ([some (.ref 0), some (.int (v))]) [] h Q) ∧ ((inB v 0 4) = false → Q (some (.int (-1)), h))) : Cl d 122 [.ref 0, .int (v)] h Q := by
  refine Cl.of (ls := [some (.ref 0), some (.int (v))]) rfl rfl ?_
  refine Wp.seg 1 (pc1 := 1) (ls1 := [some (.ref 0), some (.int (v))]) (st1 := [.int (v)]) rfl ?_
  refine Wp.inv (d2 := 0) (as := [.int (v)]) (r := []) rfl rfl rfl rfl rfl rfl (by omega) (s_b127 ?_)
  show Wp d 122 4 [some (.ref 0), some (.int (v))] [.int (b32 (inB v 0 4))] h Q
  refine Wp.ifnz rfl (fun (c1 : (inB v 0 4) = true) => ?_) (fun (c1 : (inB v 0 4) = false) => ?_)
  · exact (hQ.1 c1)
  · refine Wp.seg 1 (pc1 := 8) (ls1 := [some (.ref 0), some (.int (v))]) (st1 := [.int (-1)]) rfl ?_
    exact Wp.reti rfl rfl (hQ.2 c1)
theorem c_best {d : Nat} {h : KH} (hw : WF h) {A : Nat → Int32} {RL : List Rul} {n c dn en : Nat} (hk : cityOK h 1 A RL n c dn en) (hd : 11 ≤ d) {v : Int32} : Cl d 122 [.ref 0, .int v] h (qu (bestS RL n c dn en A v) h) := by
  unfold bestS plN
  refine t_cbest hd ⟨fun q => ?_, fun q => ?_⟩
  · rw [if_pos q]
    obtain ⟨m, hm, rfl⟩ := inB_nat (b := 4) q
    rw [clamp_ofNat (by omega)]
    exact t_cbestB hw hk hm hd (fun k f g => qu_i (quiet_e f))
  · rw [if_neg (by rw [q]; decide)]
    exact qu_i (Quiet.refl h)
set_option maxHeartbeats 4000000 in
theorem t_cwaysB {d : Nat} {Q : KO → Prop} {h : KH} (hw : WF h) {A : Nat → Int32} {RL : List Rul} {n c dn en : Nat} (hk : cityOK h 1 A RL n c dn en) {m : Nat} (hm : m ≤ 4) (hd : 11 ≤ d) (hQ : ∀ k, Fr pE pE h k → WS k 0 (min m (en - dn)) (PL RL c n 0 (min m (en - dn)) A) → (Q (some (.int ((PL RL c n 0 (min m (en - dn)) A).2.1)), k))) : Wp d 124 9 [some (.ref 0), some (.int (Int32.ofNat m))] [] h Q := by
  refine Wp.seg 1 (pc1 := 10) (ls1 := [some (.ref 0), some (.int (Int32.ofNat m))]) (st1 := [.ref 0]) rfl ?_
  refine Wp.gr (t := (10, 0)) (v := some (10)) rfl (WF.t hw 0 rfl) rfl (WF.r hw 0 3 3 rfl) ?_
  show Wp d 124 13 [some (.ref 0), some (.int (Int32.ofNat m))] [.ref 10] h Q
  refine Wp.seg 1 (pc1 := 14) (ls1 := [some (.ref 0), some (.int (Int32.ofNat m))]) (st1 := [.ref 0, .ref 10]) rfl ?_
  refine Wp.gr (t := (10, 0)) (v := some (1)) rfl (WF.t hw 0 rfl) rfl (WF.r hw 0 0 0 rfl) ?_
  show Wp d 124 17 [some (.ref 0), some (.int (Int32.ofNat m))] [.ref 1, .ref 10] h Q
  refine Wp.seg 2 (pc1 := 19) (ls1 := [some (.ref 0), some (.int (Int32.ofNat m))]) (st1 := [.int (0), .int (Int32.ofNat m), .ref 1, .ref 10]) rfl ?_
  refine Wp.invV (d2 := 10) (as := [.ref 10, .ref 1, .int (Int32.ofNat m), .int (0)]) (r := []) (t := (5, 0)) rfl rfl rfl rfl (WF.t hw 10 rfl) rfl rfl ⟨rfl, rfl⟩ (by omega) (s_explore hw hk hm (Nat.le_refl _) ?_)
  intro k f g
  show Wp d 124 22 [some (.ref 0), some (.int (Int32.ofNat m))] [] k Q
  refine Wp.seg 1 (pc1 := 23) (ls1 := [some (.ref 0), some (.int (Int32.ofNat m))]) (st1 := [.ref 0]) rfl ?_
  refine Wp.gr (t := (10, 0)) (v := some (10)) rfl (WF.t (f.wf hw (by unfold pE; omega)) 0 rfl) rfl (WF.r (f.wf hw (by unfold pE; omega)) 0 3 3 rfl) ?_
  show Wp d 124 26 [some (.ref 0), some (.int (Int32.ofNat m))] [.ref 10] k Q
  refine Wp.gi (t := (5, 0)) rfl (WF.t (f.wf hw (by unfold pE; omega)) 10 rfl) (Or.inl rfl) ?_
  rw [show k.2.2.1 10 5 = (PL RL c n 0 (min m (en - dn)) A).2.1 from g.2.1]
  exact Wp.reti rfl rfl (hQ k f g)
set_option maxHeartbeats 4000000 in
theorem t_cways {d : Nat} {Q : KO → Prop} {h : KH} {v : Int32} (hd : 11 ≤ d) (hQ : ((inB v 0 4) = true → Wp d 124 9 ([some (.ref 0), some (.int (v))]) [] h Q) ∧ ((inB v 0 4) = false → Q (some (.int (-1)), h))) : Cl d 124 [.ref 0, .int (v)] h Q := by
  refine Cl.of (ls := [some (.ref 0), some (.int (v))]) rfl rfl ?_
  refine Wp.seg 1 (pc1 := 1) (ls1 := [some (.ref 0), some (.int (v))]) (st1 := [.int (v)]) rfl ?_
  refine Wp.inv (d2 := 0) (as := [.int (v)]) (r := []) rfl rfl rfl rfl rfl rfl (by omega) (s_b127 ?_)
  show Wp d 124 4 [some (.ref 0), some (.int (v))] [.int (b32 (inB v 0 4))] h Q
  refine Wp.ifnz rfl (fun (c1 : (inB v 0 4) = true) => ?_) (fun (c1 : (inB v 0 4) = false) => ?_)
  · exact (hQ.1 c1)
  · refine Wp.seg 1 (pc1 := 8) (ls1 := [some (.ref 0), some (.int (v))]) (st1 := [.int (-1)]) rfl ?_
    exact Wp.reti rfl rfl (hQ.2 c1)
theorem c_ways {d : Nat} {h : KH} (hw : WF h) {A : Nat → Int32} {RL : List Rul} {n c dn en : Nat} (hk : cityOK h 1 A RL n c dn en) (hd : 11 ≤ d) {v : Int32} : Cl d 124 [.ref 0, .int v] h (qu (waysS RL n c dn en A v) h) := by
  unfold waysS plN
  refine t_cways hd ⟨fun q => ?_, fun q => ?_⟩
  · rw [if_pos q]
    obtain ⟨m, hm, rfl⟩ := inB_nat (b := 4) q
    rw [clamp_ofNat (by omega)]
    exact t_cwaysB hw hk hm hd (fun k f g => qu_i (quiet_e f))
  · rw [if_neg (by rw [q]; decide)]
    exact qu_i (Quiet.refl h)
set_option maxHeartbeats 4000000 in
theorem t_loB {d : Nat} {Q : KO → Prop} {h : KH} {x : Int32} {i : Nat} (hi : i < 12) (hd : 0 ≤ d) (hQ : (((x >>> ((Int32.ofNat i) &&& 31)) &&& (1 : Int32)) = 0 → Wp d 128 2 ([some (.int (x)), some (.int ((Int32.ofNat i) + 1))]) [] h Q) ∧ (¬ (((x >>> ((Int32.ofNat i) &&& 31)) &&& (1 : Int32)) = 0) → Q (some (.int (Int32.ofNat i)), h))) : Wp d 128 2 [some (.int (x)), some (.int (Int32.ofNat i))] [] h Q := by
  refine Wp.seg 2 (pc1 := 5) (ls1 := [some (.int (x)), some (.int (Int32.ofNat i))]) (st1 := [.int (12), .int (Int32.ofNat i)]) rfl ?_
  refine Wp.if2 rfl (fun c1 => absurd c1 (fun c => by have := (zle (m := 12) rfl (znat (n := i) (by omega))).mp c; omega)) (fun c1 => ?_)
  refine Wp.seg 5 (pc1 := 13) (ls1 := [some (.int (x)), some (.int (Int32.ofNat i))]) (st1 := [.int ((x >>> ((Int32.ofNat i) &&& 31)) &&& (1 : Int32))]) rfl ?_
  refine Wp.if1 rfl (fun (c2 : ((x >>> ((Int32.ofNat i) &&& 31)) &&& (1 : Int32)) = 0) => ?_) (fun (c2 : ¬ (((x >>> ((Int32.ofNat i) &&& 31)) &&& (1 : Int32)) = 0)) => ?_)
  · refine Wp.seg 2 (pc1 := 2) (ls1 := [some (.int (x)), some (.int ((Int32.ofNat i) + 1))]) (st1 := []) rfl ?_
    exact (hQ.1 c2)
  · refine Wp.seg 1 (pc1 := 17) (ls1 := [some (.int (x)), some (.int (Int32.ofNat i))]) (st1 := [.int (Int32.ofNat i)]) rfl ?_
    exact Wp.reti rfl rfl (hQ.2 c2)
set_option maxHeartbeats 4000000 in
theorem t_loE {d : Nat} {Q : KO → Prop} {h : KH} {x : Int32} (hd : 0 ≤ d) (hQ : Q (some (.int (-3)), h)) : Wp d 128 2 [some (.int (x)), some (.int (12))] [] h Q := by
  refine Wp.seg 2 (pc1 := 5) (ls1 := [some (.int (x)), some (.int (12))]) (st1 := [.int (12), .int (12)]) rfl ?_
  refine Wp.if2 rfl (fun c1 => ?_) (fun c1 => absurd (show (12 : Int32) ≤ (12 : Int32) by decide) c1)
  refine Wp.seg 1 (pc1 := 26) (ls1 := [some (.int (x)), some (.int (12))]) (st1 := [.int (-3)]) rfl ?_
  exact Wp.reti rfl rfl hQ
set_option maxHeartbeats 4000000 in
theorem t_lo {d : Nat} {Q : KO → Prop} {h : KH} {x : Int32} (hd : 0 ≤ d) (hQ : Wp d 128 2 ([some (.int (x)), some (.int (0))]) [] h Q) : Cl d 128 [.int (x)] h Q := by
  refine Cl.of (ls := [some (.int (x)), none]) rfl rfl ?_
  refine Wp.seg 2 (pc1 := 2) (ls1 := [some (.int (x)), some (.int (0))]) (st1 := []) rfl ?_
  exact hQ
theorem s_leastL {d : Nat} {Q : KO → Prop} {h : KH} {x : Int32} : ∀ (k i : Nat), i + k = 12 → Q (some (.int (lstL x k i)), h) → Wp d 128 2 [some (.int x), some (.int (Int32.ofNat i))] [] h Q
  | 0, i, hik, hQ => by
    obtain rfl : i = 12 := hik
    exact t_loE (Nat.zero_le _) hQ
  | k + 1, i, hik, hQ => by
    unfold lstL at hQ
    have hb0 := bt_low0 (x := x) (k := i) (by omega)
    refine t_loB (by omega) (Nat.zero_le _) ⟨fun c1 => ?_, fun c1 => ?_⟩
    · rw [if_neg (by rw [hb0.mp c1]; decide)] at hQ
      rw [show Int32.ofNat i + 1 = Int32.ofNat (i + 1) from ofadd i 1]
      exact s_leastL k (i + 1) (by omega) hQ
    · rw [if_pos (by cases e : bt x i with
        | true => rfl
        | false => exact absurd (hb0.mpr e) c1)] at hQ
      exact hQ
theorem s_least {d : Nat} {Q : KO → Prop} {h : KH} {x : Int32} (hQ : Q (some (.int (lstL x 12 0)), h)) : Cl d 128 [.int x] h Q := t_lo (Nat.zero_le _) (s_leastL 12 0 rfl hQ)
set_option maxHeartbeats 4000000 in
theorem t_csiegeB {d : Nat} {Q : KO → Prop} {h : KH} (hw : WF h) {A : Nat → Int32} {RL : List Rul} {n c dn en : Nat} (hk : cityOK h 1 A RL n c dn en) {m : Nat} {s : Int32} (hm : m ≤ 4) (hd : 11 ≤ d) (hQ : ∀ k, Fr pE pE h k → WS k s (min m (en - dn)) (PL RL c n s (min m (en - dn)) A) → ((((PL RL c n s (min m (en - dn)) A).2.2.1) ≤ (4 : Int32) → Q (some (.int ((PL RL c n s (min m (en - dn)) A).2.2.1)), k)) ∧ (¬ (((PL RL c n s (min m (en - dn)) A).2.2.1) ≤ (4 : Int32)) → Q (some (.int (-3)), k)))) : Wp d 125 19 [some (.ref 0), some (.int (Int32.ofNat m)), some (.int (s))] [] h Q := by
  refine Wp.seg 1 (pc1 := 20) (ls1 := [some (.ref 0), some (.int (Int32.ofNat m)), some (.int (s))]) (st1 := [.ref 0]) rfl ?_
  refine Wp.gr (t := (10, 0)) (v := some (10)) rfl (WF.t hw 0 rfl) rfl (WF.r hw 0 3 3 rfl) ?_
  show Wp d 125 23 [some (.ref 0), some (.int (Int32.ofNat m)), some (.int (s))] [.ref 10] h Q
  refine Wp.seg 1 (pc1 := 24) (ls1 := [some (.ref 0), some (.int (Int32.ofNat m)), some (.int (s))]) (st1 := [.ref 0, .ref 10]) rfl ?_
  refine Wp.gr (t := (10, 0)) (v := some (1)) rfl (WF.t hw 0 rfl) rfl (WF.r hw 0 0 0 rfl) ?_
  show Wp d 125 27 [some (.ref 0), some (.int (Int32.ofNat m)), some (.int (s))] [.ref 1, .ref 10] h Q
  refine Wp.seg 2 (pc1 := 29) (ls1 := [some (.ref 0), some (.int (Int32.ofNat m)), some (.int (s))]) (st1 := [.int (s), .int (Int32.ofNat m), .ref 1, .ref 10]) rfl ?_
  refine Wp.invV (d2 := 10) (as := [.ref 10, .ref 1, .int (Int32.ofNat m), .int (s)]) (r := []) (t := (5, 0)) rfl rfl rfl rfl (WF.t hw 10 rfl) rfl rfl ⟨rfl, rfl⟩ (by omega) (s_explore hw hk hm (Nat.le_refl _) ?_)
  intro k f g
  show Wp d 125 32 [some (.ref 0), some (.int (Int32.ofNat m)), some (.int (s))] [] k Q
  refine Wp.seg 1 (pc1 := 33) (ls1 := [some (.ref 0), some (.int (Int32.ofNat m)), some (.int (s))]) (st1 := [.ref 0]) rfl ?_
  refine Wp.gr (t := (10, 0)) (v := some (10)) rfl (WF.t (f.wf hw (by unfold pE; omega)) 0 rfl) rfl (WF.r (f.wf hw (by unfold pE; omega)) 0 3 3 rfl) ?_
  show Wp d 125 36 [some (.ref 0), some (.int (Int32.ofNat m)), some (.int (s))] [.ref 10] k Q
  refine Wp.gi (t := (5, 0)) rfl (WF.t (f.wf hw (by unfold pE; omega)) 10 rfl) (Or.inl rfl) ?_
  rw [show k.2.2.1 10 7 = (PL RL c n s (min m (en - dn)) A).2.2.1 from g.2.2.1]
  refine Wp.seg 1 (pc1 := 40) (ls1 := [some (.ref 0), some (.int (Int32.ofNat m)), some (.int (s))]) (st1 := [.int (4), .int ((PL RL c n s (min m (en - dn)) A).2.2.1)]) rfl ?_
  refine Wp.if2 rfl (fun (c1 : ((PL RL c n s (min m (en - dn)) A).2.2.1) ≤ (4 : Int32)) => ?_) (fun (c1 : ¬ (((PL RL c n s (min m (en - dn)) A).2.2.1) ≤ (4 : Int32))) => ?_)
  · refine Wp.seg 1 (pc1 := 49) (ls1 := [some (.ref 0), some (.int (Int32.ofNat m)), some (.int (s))]) (st1 := [.ref 0]) rfl ?_
    refine Wp.gr (t := (10, 0)) (v := some (10)) rfl (WF.t (f.wf hw (by unfold pE; omega)) 0 rfl) rfl (WF.r (f.wf hw (by unfold pE; omega)) 0 3 3 rfl) ?_
    show Wp d 125 52 [some (.ref 0), some (.int (Int32.ofNat m)), some (.int (s))] [.ref 10] k Q
    refine Wp.gi (t := (5, 0)) rfl (WF.t (f.wf hw (by unfold pE; omega)) 10 rfl) (Or.inl rfl) ?_
    rw [show k.2.2.1 10 7 = (PL RL c n s (min m (en - dn)) A).2.2.1 from g.2.2.1]
    exact Wp.reti rfl rfl ((hQ k f g).1 c1)
  · refine Wp.seg 2 (pc1 := 55) (ls1 := [some (.ref 0), some (.int (Int32.ofNat m)), some (.int (s))]) (st1 := [.int (-3)]) rfl ?_
    exact Wp.reti rfl rfl ((hQ k f g).2 c1)
set_option maxHeartbeats 4000000 in
theorem t_csiege {d : Nat} {Q : KO → Prop} {h : KH} {v s : Int32} (hd : 11 ≤ d) (hQ : ((inB v 0 4) = false → Q (some (.int (-1)), h)) ∧ ((inB v 0 4) = true → ((inB s 0 4095) = true → Wp d 125 19 ([some (.ref 0), some (.int (v)), some (.int (s))]) [] h Q) ∧ ((inB s 0 4095) = false → Q (some (.int (-1)), h)))) : Cl d 125 [.ref 0, .int (v), .int (s)] h Q := by
  refine Cl.of (ls := [some (.ref 0), some (.int (v)), some (.int (s))]) rfl rfl ?_
  refine Wp.seg 1 (pc1 := 1) (ls1 := [some (.ref 0), some (.int (v)), some (.int (s))]) (st1 := [.int (v)]) rfl ?_
  refine Wp.inv (d2 := 0) (as := [.int (v)]) (r := []) rfl rfl rfl rfl rfl rfl (by omega) (s_b127 ?_)
  show Wp d 125 4 [some (.ref 0), some (.int (v)), some (.int (s))] [.int (b32 (inB v 0 4))] h Q
  refine Wp.ifz rfl (fun (c1 : (inB v 0 4) = false) => ?_) (fun (c1 : (inB v 0 4) = true) => ?_)
  · refine Wp.seg 1 (pc1 := 18) (ls1 := [some (.ref 0), some (.int (v)), some (.int (s))]) (st1 := [.int (-1)]) rfl ?_
    exact Wp.reti rfl rfl (hQ.1 c1)
  · refine Wp.seg 2 (pc1 := 11) (ls1 := [some (.ref 0), some (.int (v)), some (.int (s))]) (st1 := [.int (4095), .int (s)]) rfl ?_
    refine Wp.inv (d2 := 0) (as := [.int (s), .int (4095)]) (r := []) rfl rfl rfl rfl rfl rfl (by omega) (s_b107 (y := 4095) rfl ?_)
    show Wp d 125 14 [some (.ref 0), some (.int (v)), some (.int (s))] [.int (b32 (inB s 0 4095))] h Q
    refine Wp.ifnz rfl (fun (c2 : (inB s 0 4095) = true) => ?_) (fun (c2 : (inB s 0 4095) = false) => ?_)
    · exact ((hQ.2 c1).1 c2)
    · refine Wp.seg 1 (pc1 := 18) (ls1 := [some (.ref 0), some (.int (v)), some (.int (s))]) (st1 := [.int (-1)]) rfl ?_
      exact Wp.reti rfl rfl ((hQ.2 c1).2 c2)
set_option maxHeartbeats 4000000 in
theorem t_cbarsB {d : Nat} {Q : KO → Prop} {h : KH} (hw : WF h) {A : Nat → Int32} {RL : List Rul} {n c dn en : Nat} (hk : cityOK h 1 A RL n c dn en) {m : Nat} {s : Int32} (hm : m ≤ 4) (hd : 11 ≤ d) (hQ : ∀ k, Fr pE pE h k → WS k s (min m (en - dn)) (PL RL c n s (min m (en - dn)) A) → (Q (some (.int (lstL (s &&& (((PL RL c n s (min m (en - dn)) A).2.2.2.1) ^^^ (-1 : Int32))) 12 0)), k))) : Wp d 126 19 [some (.ref 0), some (.int (Int32.ofNat m)), some (.int (s))] [] h Q := by
  refine Wp.seg 1 (pc1 := 20) (ls1 := [some (.ref 0), some (.int (Int32.ofNat m)), some (.int (s))]) (st1 := [.ref 0]) rfl ?_
  refine Wp.gr (t := (10, 0)) (v := some (10)) rfl (WF.t hw 0 rfl) rfl (WF.r hw 0 3 3 rfl) ?_
  show Wp d 126 23 [some (.ref 0), some (.int (Int32.ofNat m)), some (.int (s))] [.ref 10] h Q
  refine Wp.seg 1 (pc1 := 24) (ls1 := [some (.ref 0), some (.int (Int32.ofNat m)), some (.int (s))]) (st1 := [.ref 0, .ref 10]) rfl ?_
  refine Wp.gr (t := (10, 0)) (v := some (1)) rfl (WF.t hw 0 rfl) rfl (WF.r hw 0 0 0 rfl) ?_
  show Wp d 126 27 [some (.ref 0), some (.int (Int32.ofNat m)), some (.int (s))] [.ref 1, .ref 10] h Q
  refine Wp.seg 2 (pc1 := 29) (ls1 := [some (.ref 0), some (.int (Int32.ofNat m)), some (.int (s))]) (st1 := [.int (s), .int (Int32.ofNat m), .ref 1, .ref 10]) rfl ?_
  refine Wp.invV (d2 := 10) (as := [.ref 10, .ref 1, .int (Int32.ofNat m), .int (s)]) (r := []) (t := (5, 0)) rfl rfl rfl rfl (WF.t hw 10 rfl) rfl rfl ⟨rfl, rfl⟩ (by omega) (s_explore hw hk hm (Nat.le_refl _) ?_)
  intro k f g
  show Wp d 126 32 [some (.ref 0), some (.int (Int32.ofNat m)), some (.int (s))] [] k Q
  refine Wp.seg 2 (pc1 := 34) (ls1 := [some (.ref 0), some (.int (Int32.ofNat m)), some (.int (s))]) (st1 := [.ref 0, .int (s)]) rfl ?_
  refine Wp.gr (t := (10, 0)) (v := some (10)) rfl (WF.t (f.wf hw (by unfold pE; omega)) 0 rfl) rfl (WF.r (f.wf hw (by unfold pE; omega)) 0 3 3 rfl) ?_
  show Wp d 126 37 [some (.ref 0), some (.int (Int32.ofNat m)), some (.int (s))] [.ref 10, .int (s)] k Q
  refine Wp.gi (t := (5, 0)) rfl (WF.t (f.wf hw (by unfold pE; omega)) 10 rfl) (Or.inl rfl) ?_
  rw [show k.2.2.1 10 8 = (PL RL c n s (min m (en - dn)) A).2.2.2.1 from g.2.2.2.1]
  refine Wp.seg 3 (pc1 := 43) (ls1 := [some (.ref 0), some (.int (Int32.ofNat m)), some (.int (s))]) (st1 := [.int (s &&& (((PL RL c n s (min m (en - dn)) A).2.2.2.1) ^^^ (-1 : Int32)))]) rfl ?_
  refine Wp.inv (d2 := 0) (as := [.int (s &&& (((PL RL c n s (min m (en - dn)) A).2.2.2.1) ^^^ (-1 : Int32)))]) (r := []) rfl rfl rfl rfl rfl rfl (by omega) (s_least ?_)
  show Wp d 126 46 [some (.ref 0), some (.int (Int32.ofNat m)), some (.int (s))] [.int (lstL (s &&& (((PL RL c n s (min m (en - dn)) A).2.2.2.1) ^^^ (-1 : Int32))) 12 0)] k Q
  exact Wp.reti rfl rfl (hQ k f g)
set_option maxHeartbeats 4000000 in
theorem t_cbars {d : Nat} {Q : KO → Prop} {h : KH} {v s : Int32} (hd : 11 ≤ d) (hQ : ((inB v 0 4) = false → Q (some (.int (-1)), h)) ∧ ((inB v 0 4) = true → ((inB s 0 4095) = true → Wp d 126 19 ([some (.ref 0), some (.int (v)), some (.int (s))]) [] h Q) ∧ ((inB s 0 4095) = false → Q (some (.int (-1)), h)))) : Cl d 126 [.ref 0, .int (v), .int (s)] h Q := by
  refine Cl.of (ls := [some (.ref 0), some (.int (v)), some (.int (s))]) rfl rfl ?_
  refine Wp.seg 1 (pc1 := 1) (ls1 := [some (.ref 0), some (.int (v)), some (.int (s))]) (st1 := [.int (v)]) rfl ?_
  refine Wp.inv (d2 := 0) (as := [.int (v)]) (r := []) rfl rfl rfl rfl rfl rfl (by omega) (s_b127 ?_)
  show Wp d 126 4 [some (.ref 0), some (.int (v)), some (.int (s))] [.int (b32 (inB v 0 4))] h Q
  refine Wp.ifz rfl (fun (c1 : (inB v 0 4) = false) => ?_) (fun (c1 : (inB v 0 4) = true) => ?_)
  · refine Wp.seg 1 (pc1 := 18) (ls1 := [some (.ref 0), some (.int (v)), some (.int (s))]) (st1 := [.int (-1)]) rfl ?_
    exact Wp.reti rfl rfl (hQ.1 c1)
  · refine Wp.seg 2 (pc1 := 11) (ls1 := [some (.ref 0), some (.int (v)), some (.int (s))]) (st1 := [.int (4095), .int (s)]) rfl ?_
    refine Wp.inv (d2 := 0) (as := [.int (s), .int (4095)]) (r := []) rfl rfl rfl rfl rfl rfl (by omega) (s_b107 (y := 4095) rfl ?_)
    show Wp d 126 14 [some (.ref 0), some (.int (v)), some (.int (s))] [.int (b32 (inB s 0 4095))] h Q
    refine Wp.ifnz rfl (fun (c2 : (inB s 0 4095) = true) => ?_) (fun (c2 : (inB s 0 4095) = false) => ?_)
    · exact ((hQ.2 c1).1 c2)
    · refine Wp.seg 1 (pc1 := 18) (ls1 := [some (.ref 0), some (.int (v)), some (.int (s))]) (st1 := [.int (-1)]) rfl ?_
      exact Wp.reti rfl rfl ((hQ.2 c1).2 c2)
theorem c_siege {d : Nat} {h : KH} (hw : WF h) {A : Nat → Int32} {RL : List Rul} {n c dn en : Nat} (hk : cityOK h 1 A RL n c dn en) (hd : 11 ≤ d) {v s : Int32} : Cl d 125 [.ref 0, .int v, .int s] h (qu (siegeS RL n c dn en A v s) h) := by
  unfold siegeS plN
  refine t_csiege hd ⟨fun q => ?_, fun q => ⟨fun q2 => ?_, fun q2 => ?_⟩⟩
  · rw [if_neg (fun z => by rw [q] at z; cases z.1)]
    exact qu_i (Quiet.refl h)
  · rw [if_pos ⟨q, q2⟩]
    obtain ⟨m, hm, rfl⟩ := inB_nat (b := 4) q
    rw [clamp_ofNat (by omega)]
    refine t_csiegeB hw hk hm hd (fun k f g => ⟨fun c1 => ?_, fun c1 => ?_⟩)
    · rw [if_pos c1]
      exact qu_i (quiet_e f)
    · rw [if_neg c1]
      exact qu_i (quiet_e f)
  · rw [if_neg (fun z => by rw [q2] at z; cases z.2)]
    exact qu_i (Quiet.refl h)
theorem c_bars {d : Nat} {h : KH} (hw : WF h) {A : Nat → Int32} {RL : List Rul} {n c dn en : Nat} (hk : cityOK h 1 A RL n c dn en) (hd : 11 ≤ d) {v s : Int32} : Cl d 126 [.ref 0, .int v, .int s] h (qu (barsS RL n c dn en A v s) h) := by
  unfold barsS plN
  refine t_cbars hd ⟨fun q => ?_, fun q => ⟨fun q2 => ?_, fun q2 => ?_⟩⟩
  · rw [if_neg (fun z => by rw [q] at z; cases z.1)]
    exact qu_i (Quiet.refl h)
  · rw [if_pos ⟨q, q2⟩]
    obtain ⟨m, hm, rfl⟩ := inB_nat (b := 4) q
    rw [clamp_ofNat (by omega)]
    exact t_cbarsB hw hk hm hd (fun k f g => qu_i (quiet_e f))
  · rw [if_neg (fun z => by rw [q2] at z; cases z.2)]
    exact qu_i (Quiet.refl h)
set_option maxHeartbeats 4000000 in
theorem t_cithB {d : Nat} {Q : KO → Prop} {h : KH} (hw : WF h) {A : Nat → Int32} {RL : List Rul} {n c dn en : Nat} (hk : cityOK h 1 A RL n c dn en) {m i : Nat} (hm : m ≤ 4) (hi3 : i ≤ 3) (hiL : i < min m (en - dn)) (hlen : (PL RL c n 0 (min m (en - dn)) A).2.2.2.2.length = min m (en - dn)) (hd : 11 ≤ d) (hQ : ∀ k, Fr pE pE h k → WS k 0 (min m (en - dn)) (PL RL c n 0 (min m (en - dn)) A) → (Q (some (.int (Int32.ofNat ((PL RL c n 0 (min m (en - dn)) A).2.2.2.2.getD i 0))), k))) : Wp d 123 18 [some (.ref 0), some (.int (Int32.ofNat m)), some (.int (Int32.ofNat i))] [] h Q := by
  refine Wp.seg 1 (pc1 := 19) (ls1 := [some (.ref 0), some (.int (Int32.ofNat m)), some (.int (Int32.ofNat i))]) (st1 := [.ref 0]) rfl ?_
  refine Wp.gr (t := (10, 0)) (v := some (10)) rfl (WF.t hw 0 rfl) rfl (WF.r hw 0 3 3 rfl) ?_
  show Wp d 123 22 [some (.ref 0), some (.int (Int32.ofNat m)), some (.int (Int32.ofNat i))] [.ref 10] h Q
  refine Wp.seg 1 (pc1 := 23) (ls1 := [some (.ref 0), some (.int (Int32.ofNat m)), some (.int (Int32.ofNat i))]) (st1 := [.ref 0, .ref 10]) rfl ?_
  refine Wp.gr (t := (10, 0)) (v := some (1)) rfl (WF.t hw 0 rfl) rfl (WF.r hw 0 0 0 rfl) ?_
  show Wp d 123 26 [some (.ref 0), some (.int (Int32.ofNat m)), some (.int (Int32.ofNat i))] [.ref 1, .ref 10] h Q
  refine Wp.seg 2 (pc1 := 28) (ls1 := [some (.ref 0), some (.int (Int32.ofNat m)), some (.int (Int32.ofNat i))]) (st1 := [.int (0), .int (Int32.ofNat m), .ref 1, .ref 10]) rfl ?_
  refine Wp.invV (d2 := 10) (as := [.ref 10, .ref 1, .int (Int32.ofNat m), .int (0)]) (r := []) (t := (5, 0)) rfl rfl rfl rfl (WF.t hw 10 rfl) rfl rfl ⟨rfl, rfl⟩ (by omega) (s_explore hw hk hm (Nat.le_refl _) ?_)
  intro k f g
  show Wp d 123 31 [some (.ref 0), some (.int (Int32.ofNat m)), some (.int (Int32.ofNat i))] [] k Q
  refine Wp.seg 2 (pc1 := 33) (ls1 := [some (.ref 0), some (.int (Int32.ofNat m)), some (.int (Int32.ofNat i))]) (st1 := [.ref 0, .int (Int32.ofNat i)]) rfl ?_
  refine Wp.gr (t := (10, 0)) (v := some (10)) rfl (WF.t (f.wf hw (by unfold pE; omega)) 0 rfl) rfl (WF.r (f.wf hw (by unfold pE; omega)) 0 3 3 rfl) ?_
  show Wp d 123 36 [some (.ref 0), some (.int (Int32.ofNat m)), some (.int (Int32.ofNat i))] [.ref 10, .int (Int32.ofNat i)] k Q
  refine Wp.gi (t := (5, 0)) rfl (WF.t (f.wf hw (by unfold pE; omega)) 10 rfl) (Or.inl rfl) ?_
  rw [show k.2.2.1 10 3 = Int32.ofNat (min m (en - dn)) from g.2.2.2.2.2.2]
  refine Wp.if2 rfl (fun c1 => absurd c1 (fun c => by have := (ole (by omega) (by omega)).mp c; omega)) (fun c1 => ?_)
  refine Wp.seg 1 (pc1 := 43) (ls1 := [some (.ref 0), some (.int (Int32.ofNat m)), some (.int (Int32.ofNat i))]) (st1 := [.ref 0]) rfl ?_
  refine Wp.gr (t := (10, 0)) (v := some (10)) rfl (WF.t (f.wf hw (by unfold pE; omega)) 0 rfl) rfl (WF.r (f.wf hw (by unfold pE; omega)) 0 3 3 rfl) ?_
  show Wp d 123 46 [some (.ref 0), some (.int (Int32.ofNat m)), some (.int (Int32.ofNat i))] [.ref 10] k Q
  refine Wp.gr (t := (5, 0)) (v := some (13)) rfl (WF.t (f.wf hw (by unfold pE; omega)) 10 rfl) rfl (WF.r (f.wf hw (by unfold pE; omega)) 10 2 21 rfl) ?_
  show Wp d 123 49 [some (.ref 0), some (.int (Int32.ofNat m)), some (.int (Int32.ofNat i))] [.ref 13] k Q
  refine Wp.seg 1 (pc1 := 50) (ls1 := [some (.ref 0), some (.int (Int32.ofNat m)), some (.int (Int32.ofNat i))]) (st1 := [.int (Int32.ofNat i), .ref 13]) rfl ?_
  refine Wp.iald (j := i) (k := 20) (n := 4) rfl (WF.t (f.wf hw (by unfold pE; omega)) 13 rfl) rfl rfl (by omega) (by decide) ?_
  rw [show k.2.2.1 13 i = Int32.ofNat ((PL RL c n 0 (min m (en - dn)) A).2.2.2.2.getD i 0) from g.2.2.2.2.1 i (by rw [hlen]; exact hiL)]
  refine Wp.seg 1 (pc1 := 56) (ls1 := [some (.ref 0), some (.int (Int32.ofNat m)), some (.int (Int32.ofNat i))]) (st1 := [.int (Int32.ofNat ((PL RL c n 0 (min m (en - dn)) A).2.2.2.2.getD i 0))]) rfl ?_
  exact Wp.reti rfl rfl (hQ k f g)
set_option maxHeartbeats 4000000 in
theorem t_cithN {d : Nat} {Q : KO → Prop} {h : KH} (hw : WF h) {A : Nat → Int32} {RL : List Rul} {n c dn en : Nat} (hk : cityOK h 1 A RL n c dn en) {m i : Nat} (hm : m ≤ 4) (hi3 : i ≤ 3) (hiL : ¬ i < min m (en - dn)) (hd : 11 ≤ d) (hQ : ∀ k, Fr pE pE h k → WS k 0 (min m (en - dn)) (PL RL c n 0 (min m (en - dn)) A) → (Q (some (.int (-3)), k))) : Wp d 123 18 [some (.ref 0), some (.int (Int32.ofNat m)), some (.int (Int32.ofNat i))] [] h Q := by
  refine Wp.seg 1 (pc1 := 19) (ls1 := [some (.ref 0), some (.int (Int32.ofNat m)), some (.int (Int32.ofNat i))]) (st1 := [.ref 0]) rfl ?_
  refine Wp.gr (t := (10, 0)) (v := some (10)) rfl (WF.t hw 0 rfl) rfl (WF.r hw 0 3 3 rfl) ?_
  show Wp d 123 22 [some (.ref 0), some (.int (Int32.ofNat m)), some (.int (Int32.ofNat i))] [.ref 10] h Q
  refine Wp.seg 1 (pc1 := 23) (ls1 := [some (.ref 0), some (.int (Int32.ofNat m)), some (.int (Int32.ofNat i))]) (st1 := [.ref 0, .ref 10]) rfl ?_
  refine Wp.gr (t := (10, 0)) (v := some (1)) rfl (WF.t hw 0 rfl) rfl (WF.r hw 0 0 0 rfl) ?_
  show Wp d 123 26 [some (.ref 0), some (.int (Int32.ofNat m)), some (.int (Int32.ofNat i))] [.ref 1, .ref 10] h Q
  refine Wp.seg 2 (pc1 := 28) (ls1 := [some (.ref 0), some (.int (Int32.ofNat m)), some (.int (Int32.ofNat i))]) (st1 := [.int (0), .int (Int32.ofNat m), .ref 1, .ref 10]) rfl ?_
  refine Wp.invV (d2 := 10) (as := [.ref 10, .ref 1, .int (Int32.ofNat m), .int (0)]) (r := []) (t := (5, 0)) rfl rfl rfl rfl (WF.t hw 10 rfl) rfl rfl ⟨rfl, rfl⟩ (by omega) (s_explore hw hk hm (Nat.le_refl _) ?_)
  intro k f g
  show Wp d 123 31 [some (.ref 0), some (.int (Int32.ofNat m)), some (.int (Int32.ofNat i))] [] k Q
  refine Wp.seg 2 (pc1 := 33) (ls1 := [some (.ref 0), some (.int (Int32.ofNat m)), some (.int (Int32.ofNat i))]) (st1 := [.ref 0, .int (Int32.ofNat i)]) rfl ?_
  refine Wp.gr (t := (10, 0)) (v := some (10)) rfl (WF.t (f.wf hw (by unfold pE; omega)) 0 rfl) rfl (WF.r (f.wf hw (by unfold pE; omega)) 0 3 3 rfl) ?_
  show Wp d 123 36 [some (.ref 0), some (.int (Int32.ofNat m)), some (.int (Int32.ofNat i))] [.ref 10, .int (Int32.ofNat i)] k Q
  refine Wp.gi (t := (5, 0)) rfl (WF.t (f.wf hw (by unfold pE; omega)) 10 rfl) (Or.inl rfl) ?_
  rw [show k.2.2.1 10 3 = Int32.ofNat (min m (en - dn)) from g.2.2.2.2.2.2]
  refine Wp.if2 rfl (fun c1 => ?_) (fun c1 => absurd ((ole (by omega) (by omega)).mpr (by omega)) c1)
  refine Wp.seg 1 (pc1 := 56) (ls1 := [some (.ref 0), some (.int (Int32.ofNat m)), some (.int (Int32.ofNat i))]) (st1 := [.int (-3)]) rfl ?_
  exact Wp.reti rfl rfl (hQ k f g)
set_option maxHeartbeats 4000000 in
theorem t_cith {d : Nat} {Q : KO → Prop} {h : KH} {v i : Int32} (hd : 11 ≤ d) (hQ : ((inB v 0 4) = false → Q (some (.int (-1)), h)) ∧ ((inB v 0 4) = true → (i < 0 → Q (some (.int (-1)), h)) ∧ (¬ (i < 0) → (i < (4 : Int32) → Wp d 123 18 ([some (.ref 0), some (.int (v)), some (.int (i))]) [] h Q) ∧ (¬ (i < (4 : Int32)) → Q (some (.int (-1)), h))))) : Cl d 123 [.ref 0, .int (v), .int (i)] h Q := by
  refine Cl.of (ls := [some (.ref 0), some (.int (v)), some (.int (i))]) rfl rfl ?_
  refine Wp.seg 1 (pc1 := 1) (ls1 := [some (.ref 0), some (.int (v)), some (.int (i))]) (st1 := [.int (v)]) rfl ?_
  refine Wp.inv (d2 := 0) (as := [.int (v)]) (r := []) rfl rfl rfl rfl rfl rfl (by omega) (s_b127 ?_)
  show Wp d 123 4 [some (.ref 0), some (.int (v)), some (.int (i))] [.int (b32 (inB v 0 4))] h Q
  refine Wp.ifz rfl (fun (c1 : (inB v 0 4) = false) => ?_) (fun (c1 : (inB v 0 4) = true) => ?_)
  · refine Wp.seg 1 (pc1 := 17) (ls1 := [some (.ref 0), some (.int (v)), some (.int (i))]) (st1 := [.int (-1)]) rfl ?_
    exact Wp.reti rfl rfl (hQ.1 c1)
  · refine Wp.seg 1 (pc1 := 8) (ls1 := [some (.ref 0), some (.int (v)), some (.int (i))]) (st1 := [.int (i)]) rfl ?_
    refine Wp.if1 rfl (fun (c2 : i < 0) => ?_) (fun (c2 : ¬ (i < 0)) => ?_)
    · refine Wp.seg 1 (pc1 := 17) (ls1 := [some (.ref 0), some (.int (v)), some (.int (i))]) (st1 := [.int (-1)]) rfl ?_
      exact Wp.reti rfl rfl ((hQ.2 c1).1 c2)
    · refine Wp.seg 2 (pc1 := 13) (ls1 := [some (.ref 0), some (.int (v)), some (.int (i))]) (st1 := [.int (4), .int (i)]) rfl ?_
      refine Wp.if2 rfl (fun (c3 : i < (4 : Int32)) => ?_) (fun (c3 : ¬ (i < (4 : Int32))) => ?_)
      · exact (((hQ.2 c1).2 c2).1 c3)
      · refine Wp.seg 1 (pc1 := 17) (ls1 := [some (.ref 0), some (.int (v)), some (.int (i))]) (st1 := [.int (-1)]) rfl ?_
        exact Wp.reti rfl rfl (((hQ.2 c1).2 c2).2 c3)
theorem c_ith {d : Nat} {h : KH} (hw : WF h) {A : Nat → Int32} {RL : List Rul} {n c dn en : Nat} (hk : cityOK h 1 A RL n c dn en) (hd : 11 ≤ d) {v i : Int32} : Cl d 123 [.ref 0, .int v, .int i] h (qu (ithS RL n c dn en A v i) h) := by
  unfold ithS plN
  have bad : ¬ (inB v 0 4 = true ∧ inB i 0 3 = true) → qu (if inB v 0 4 = true ∧ inB i 0 3 = true then (if i.toNatClampNeg < min v.toNatClampNeg (en - dn) then Int32.ofNat ((PL RL c n 0 (min v.toNatClampNeg (en - dn)) A).2.2.2.2.getD i.toNatClampNeg 0) else -3) else -1) h (some (.int (-1)), h) := fun z => by
    rw [if_neg z]
    exact qu_i (Quiet.refl h)
  refine t_cith hd ⟨fun q => bad (fun z => by rw [q] at z; cases z.1), fun q => ⟨fun c1 => bad (fun z => ?_), fun c1 => ⟨fun c2 => ?_, fun c2 => bad (fun z => ?_)⟩⟩⟩
  · have k1 := (zlt (rfl : i.toInt = i.toInt) (show (0 : Int32).toInt = 0 from rfl)).mp c1
    have := of_decide_eq_true z.2
    omega
  · have k1 := mt (zlt (rfl : i.toInt = i.toInt) (show (0 : Int32).toInt = 0 from rfl)).mpr c1
    have k2 := (zlt (rfl : i.toInt = i.toInt) (show (4 : Int32).toInt = 4 from rfl)).mp c2
    have q2 : inB i 0 3 = true := inB_t (by omega)
    rw [if_pos ⟨q, q2⟩]
    obtain ⟨m, hm, rfl⟩ := inB_nat (b := 4) q
    obtain ⟨j, hj, rfl⟩ := inB_nat (b := 3) q2
    rw [clamp_ofNat (by omega), clamp_ofNat (by omega)]
    by_cases hL : j < min m (en - dn)
    · rw [if_pos hL]
      obtain ⟨-, p, -, e⟩ := PL_best RL c n 0 (L := min m (en - dn)) (by omega) A
      exact t_cithB hw hk hm hj hL (by rw [e, digsR_len]) hd (fun k f g => qu_i (quiet_e f))
    · rw [if_neg hL]
      exact t_cithN hw hk hm hj hL hd (fun k f g => qu_i (quiet_e f))
  · have k2 := mt (zlt (rfl : i.toInt = i.toInt) (show (4 : Int32).toInt = 4 from rfl)).mpr c2
    have := of_decide_eq_true z.2
    omega
