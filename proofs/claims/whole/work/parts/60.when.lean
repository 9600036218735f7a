/-! KM: both sides: when() -/
theorem hA_bit (s : Int32) {k : Nat} (hk : k < 32) : (s &&& ((1 : Int32) <<< (Int32.ofNat k &&& 31)) = (1 : Int32) <<< (Int32.ofNat k &&& 31)) ↔ bt s k = true := by
  constructor
  · intro h
    have h1 := congrArg (fun z => bt z k) h
    simp only [bt_and, bt_shl hk] at h1
    simpa using h1
  · intro h
    refine bt_ext fun i _ => ?_
    rw [bt_and, bt_shl hk]
    by_cases q : i = k
    · subst q; simp [h]
    · simp [q]
set_option maxHeartbeats 4000000 in
theorem t_hall {d : Nat} {Q : KO → Prop} {h : KH} {s t : Int32} (hd : 0 ≤ d) (hQ : (¬ (s &&& t) = t → Q (some (.int (0)), h)) ∧ (¬ (¬ (s &&& t) = t) → Q (some (.int (1)), h))) : Cl d 117 [.int (s), .int (t)] h Q := by
  refine Cl.of (ls := [some (.int (s)), some (.int (t))]) rfl rfl ?_
  refine Wp.seg 4 (pc1 := 4) (ls1 := [some (.int (s)), some (.int (t))]) (st1 := [.int (t), .int (s &&& t)]) rfl ?_
  refine Wp.if2 rfl (fun (c1 : ¬ (s &&& t) = t) => ?_) (fun (c1 : ¬ (¬ (s &&& t) = t)) => ?_)
  · refine Wp.seg 1 (pc1 := 12) (ls1 := [some (.int (s)), some (.int (t))]) (st1 := [.int (0)]) rfl ?_
    exact Wp.reti rfl rfl (hQ.1 c1)
  · refine Wp.seg 2 (pc1 := 12) (ls1 := [some (.int (s)), some (.int (t))]) (st1 := [.int (1)]) rfl ?_
    exact Wp.reti rfl rfl (hQ.2 c1)
theorem s_hall {d : Nat} {Q : KO → Prop} {h : KH} {s t : Int32} {k : Nat} (ht : t = (1 : Int32) <<< (Int32.ofNat k &&& 31)) (hk : k < 32) (hQ : Q (some (.int (b32 (bt s k))), h)) : Cl d 117 [.int s, .int t] h Q := by
  subst ht
  refine t_hall (Nat.zero_le _) ⟨fun q => ?_, fun q => ?_⟩
  · have e : bt s k = false := by
      cases e : bt s k with
      | false => rfl
      | true => exact absurd ((hA_bit s hk).mpr e) q
    rw [e] at hQ
    exact hQ
  · rw [(hA_bit s hk).mp (Decidable.not_not.mp q)] at hQ
    exact hQ
/-- the first dusk of the rest behind which a cell is shut -/
def whenL (RL : List Rul) (n c en cell : Nat) : Nat → Nat → (Nat → Int32) → Int32
  | 0, _, _ => -3
  | k + 1, dn, A => if dn < en then (if bt (shA c (goA RL A (turnT n dn))) cell = true then Int32.ofNat dn else whenL RL n c en cell k (dn + 1) (goA RL A (turnT n dn))) else -3
def whenS (RL : List Rul) (n c dn en : Nat) (A : Nat → Int32) (v : Int32) : Int32 := if inB v 0 11 = true then (if bt (shA c A) v.toNatClampNeg = true then -3 else whenL RL n c en v.toNatClampNeg 16 dn A) else -1
set_option maxHeartbeats 4000000 in
theorem t_cwhB {d : Nat} {Q : KO → Prop} {h : KH} (hw : WF h) {A : Nat → Int32} {RL : List Rul} {n c dn en : Nat} (hk : cityOK h 7 A RL n c dn en) {m i : Nat} {z : Option Value} (hm : m < 12) (hi : i < 16) (hlt : dn < en) (h7 : h.2.2.1 7 7 = Int32.ofNat dn) (hd : 5 ≤ d) (hQ : ∀ k, Fr (pC 7) noP h k → cityOK k 7 (goA RL A (turnT n dn)) RL n c (dn + 1) en → (((bt (shA c (goA RL A (turnT n dn))) m) = false → Wp d 113 41 ([some (.ref 0), some (.int (Int32.ofNat m)), some (.int ((Int32.ofNat i) + 1)), some (.int (Int32.ofNat dn))]) [] k Q) ∧ ((bt (shA c (goA RL A (turnT n dn))) m) = true → Q (some (.int (Int32.ofNat dn)), k)))) : Wp d 113 41 [some (.ref 0), some (.int (Int32.ofNat m)), some (.int (Int32.ofNat i)), z] [] h Q := by
  refine Wp.seg 2 (pc1 := 44) (ls1 := [some (.ref 0), some (.int (Int32.ofNat m)), some (.int (Int32.ofNat i)), z]) (st1 := [.int (16), .int (Int32.ofNat i)]) rfl ?_
  refine Wp.if2 rfl (fun c1 => absurd c1 (fun c => by have := (zle (m := 16) rfl (znat (n := i) (by omega))).mp c; omega)) (fun c1 => ?_)
  refine Wp.seg 1 (pc1 := 48) (ls1 := [some (.ref 0), some (.int (Int32.ofNat m)), some (.int (Int32.ofNat i)), z]) (st1 := [.ref 0]) rfl ?_
  refine Wp.gr (t := (10, 0)) (v := some (7)) rfl (WF.t hw 0 rfl) rfl (WF.r hw 0 2 2 rfl) ?_
  show Wp d 113 51 [some (.ref 0), some (.int (Int32.ofNat m)), some (.int (Int32.ofNat i)), z] [.ref 7] h Q
  refine Wp.invV (d2 := 0) (as := [.ref 7]) (r := []) (t := (1, 0)) rfl rfl rfl rfl (WF.t hw 7 rfl) rfl rfl ⟨rfl, rfl⟩ (by omega) (s_over0 hw cA7 hk hlt ?_)
  show Wp d 113 54 [some (.ref 0), some (.int (Int32.ofNat m)), some (.int (Int32.ofNat i)), z] [.int (0)] h Q
  refine Wp.if1 rfl (fun c2 => absurd c2 (show ¬ (¬ (0 : Int32) = 0) by decide)) (fun c2 => ?_)
  refine Wp.seg 1 (pc1 := 58) (ls1 := [some (.ref 0), some (.int (Int32.ofNat m)), some (.int (Int32.ofNat i)), z]) (st1 := [.ref 0]) rfl ?_
  refine Wp.gr (t := (10, 0)) (v := some (7)) rfl (WF.t hw 0 rfl) rfl (WF.r hw 0 2 2 rfl) ?_
  show Wp d 113 61 [some (.ref 0), some (.int (Int32.ofNat m)), some (.int (Int32.ofNat i)), z] [.ref 7] h Q
  refine Wp.gi (t := (1, 0)) rfl (WF.t hw 7 rfl) (Or.inl rfl) ?_
  rw [show h.2.2.1 7 7 = Int32.ofNat dn from h7]
  refine Wp.seg 2 (pc1 := 66) (ls1 := [some (.ref 0), some (.int (Int32.ofNat m)), some (.int (Int32.ofNat i)), some (.int (Int32.ofNat dn))]) (st1 := [.ref 0]) rfl ?_
  refine Wp.gr (t := (10, 0)) (v := some (7)) rfl (WF.t hw 0 rfl) rfl (WF.r hw 0 2 2 rfl) ?_
  show Wp d 113 69 [some (.ref 0), some (.int (Int32.ofNat m)), some (.int (Int32.ofNat i)), some (.int (Int32.ofNat dn))] [.ref 7] h Q
  refine Wp.seg 1 (pc1 := 70) (ls1 := [some (.ref 0), some (.int (Int32.ofNat m)), some (.int (Int32.ofNat i)), some (.int (Int32.ofNat dn))]) (st1 := [.ref 0, .ref 7]) rfl ?_
  refine Wp.gr (t := (10, 0)) (v := some (7)) rfl (WF.t hw 0 rfl) rfl (WF.r hw 0 2 2 rfl) ?_
  show Wp d 113 73 [some (.ref 0), some (.int (Int32.ofNat m)), some (.int (Int32.ofNat i)), some (.int (Int32.ofNat dn))] [.ref 7, .ref 7] h Q
  refine Wp.invV (d2 := 0) (as := [.ref 7]) (r := [.ref 7]) (t := (1, 0)) rfl rfl rfl rfl (WF.t hw 7 rfl) rfl rfl ⟨rfl, rfl⟩ (by omega) (s_byTurns hw cA7 hk ?_)
  show Wp d 113 76 [some (.ref 0), some (.int (Int32.ofNat m)), some (.int (Int32.ofNat i)), some (.int (Int32.ofNat dn))] [.int (turnT n dn), .ref 7] h Q
  refine Wp.invV (d2 := 4) (as := [.ref 7, .int (turnT n dn)]) (r := []) (t := (1, 0)) rfl rfl rfl rfl (WF.t hw 7 rfl) rfl rfl ⟨rfl, rfl⟩ (by omega) (s_cpassF hw cA7 hk hlt (turn_okT n dn) (Nat.le_refl _) ?_)
  intro k f g
  show Wp d 113 79 [some (.ref 0), some (.int (Int32.ofNat m)), some (.int (Int32.ofNat i)), some (.int (Int32.ofNat dn))] [.int (wA RL A (turnT n dn))] k Q
  refine Wp.seg 2 (pc1 := 81) (ls1 := [some (.ref 0), some (.int (Int32.ofNat m)), some (.int (Int32.ofNat i)), some (.int (Int32.ofNat dn))]) (st1 := [.ref 0]) rfl ?_
  refine Wp.gr (t := (10, 0)) (v := some (7)) rfl (WF.t (f.wf hw (fun z => z)) 0 rfl) rfl (WF.r (f.wf hw (fun z => z)) 0 2 2 rfl) ?_
  show Wp d 113 84 [some (.ref 0), some (.int (Int32.ofNat m)), some (.int (Int32.ofNat i)), some (.int (Int32.ofNat dn))] [.ref 7] k Q
  refine Wp.invV (d2 := 2) (as := [.ref 7]) (r := []) (t := (1, 0)) rfl rfl rfl rfl (WF.t (f.wf hw (fun z => z)) 7 rfl) rfl rfl ⟨rfl, rfl⟩ (by omega) (s_shutC (h := k) (f.wf hw (fun z => z)) cA7 g (Nat.le_refl _) ?_)
  show Wp d 113 87 [some (.ref 0), some (.int (Int32.ofNat m)), some (.int (Int32.ofNat i)), some (.int (Int32.ofNat dn))] [.int (shA c (goA RL A (turnT n dn)))] k Q
  refine Wp.seg 3 (pc1 := 90) (ls1 := [some (.ref 0), some (.int (Int32.ofNat m)), some (.int (Int32.ofNat i)), some (.int (Int32.ofNat dn))]) (st1 := [.int ((1 : Int32) <<< ((Int32.ofNat m) &&& 31)), .int (shA c (goA RL A (turnT n dn)))]) rfl ?_
  refine Wp.inv (d2 := 0) (as := [.int (shA c (goA RL A (turnT n dn))), .int ((1 : Int32) <<< ((Int32.ofNat m) &&& 31))]) (r := []) rfl rfl rfl rfl rfl rfl (by omega) (s_hall (k := m) rfl (by omega) ?_)
  show Wp d 113 93 [some (.ref 0), some (.int (Int32.ofNat m)), some (.int (Int32.ofNat i)), some (.int (Int32.ofNat dn))] [.int (b32 (bt (shA c (goA RL A (turnT n dn))) m))] k Q
  refine Wp.ifz rfl (fun (c3 : (bt (shA c (goA RL A (turnT n dn))) m) = false) => ?_) (fun (c3 : (bt (shA c (goA RL A (turnT n dn))) m) = true) => ?_)
  · refine Wp.seg 2 (pc1 := 41) (ls1 := [some (.ref 0), some (.int (Int32.ofNat m)), some (.int ((Int32.ofNat i) + 1)), some (.int (Int32.ofNat dn))]) (st1 := []) rfl ?_
    exact ((hQ k f g).1 c3)
  · refine Wp.seg 1 (pc1 := 97) (ls1 := [some (.ref 0), some (.int (Int32.ofNat m)), some (.int (Int32.ofNat i)), some (.int (Int32.ofNat dn))]) (st1 := [.int (Int32.ofNat dn)]) rfl ?_
    exact Wp.reti rfl rfl ((hQ k f g).2 c3)
set_option maxHeartbeats 4000000 in
theorem t_cwhO {d : Nat} {Q : KO → Prop} {h : KH} (hw : WF h) {A : Nat → Int32} {RL : List Rul} {n c dn en : Nat} (hk : cityOK h 7 A RL n c dn en) {m i : Nat} {z : Option Value} (hi : i < 16) (hlt : ¬ dn < en) (hd : 1 ≤ d) (hQ : Q (some (.int (-3)), h)) : Wp d 113 41 [some (.ref 0), some (.int (Int32.ofNat m)), some (.int (Int32.ofNat i)), z] [] h Q := by
  refine Wp.seg 2 (pc1 := 44) (ls1 := [some (.ref 0), some (.int (Int32.ofNat m)), some (.int (Int32.ofNat i)), z]) (st1 := [.int (16), .int (Int32.ofNat i)]) rfl ?_
  refine Wp.if2 rfl (fun c1 => absurd c1 (fun c => by have := (zle (m := 16) rfl (znat (n := i) (by omega))).mp c; omega)) (fun c1 => ?_)
  refine Wp.seg 1 (pc1 := 48) (ls1 := [some (.ref 0), some (.int (Int32.ofNat m)), some (.int (Int32.ofNat i)), z]) (st1 := [.ref 0]) rfl ?_
  refine Wp.gr (t := (10, 0)) (v := some (7)) rfl (WF.t hw 0 rfl) rfl (WF.r hw 0 2 2 rfl) ?_
  show Wp d 113 51 [some (.ref 0), some (.int (Int32.ofNat m)), some (.int (Int32.ofNat i)), z] [.ref 7] h Q
  refine Wp.invV (d2 := 0) (as := [.ref 7]) (r := []) (t := (1, 0)) rfl rfl rfl rfl (WF.t hw 7 rfl) rfl rfl ⟨rfl, rfl⟩ (by omega) (s_over1 hw cA7 hk hlt ?_)
  show Wp d 113 54 [some (.ref 0), some (.int (Int32.ofNat m)), some (.int (Int32.ofNat i)), z] [.int (1)] h Q
  refine Wp.if1 rfl (fun c2 => ?_) (fun c2 => absurd (show ¬ (1 : Int32) = 0 by decide) c2)
  refine Wp.seg 1 (pc1 := 106) (ls1 := [some (.ref 0), some (.int (Int32.ofNat m)), some (.int (Int32.ofNat i)), z]) (st1 := [.int (-3)]) rfl ?_
  exact Wp.reti rfl rfl hQ
set_option maxHeartbeats 4000000 in
theorem t_cwhE {d : Nat} {Q : KO → Prop} {h : KH} {m : Int32} {z : Option Value} (hd : 0 ≤ d) (hQ : Q (some (.int (-3)), h)) : Wp d 113 41 [some (.ref 0), some (.int (m)), some (.int (16)), z] [] h Q := by
  refine Wp.seg 2 (pc1 := 44) (ls1 := [some (.ref 0), some (.int (m)), some (.int (16)), z]) (st1 := [.int (16), .int (16)]) rfl ?_
  refine Wp.if2 rfl (fun c1 => ?_) (fun c1 => absurd (show (16 : Int32) ≤ (16 : Int32) by decide) c1)
  refine Wp.seg 1 (pc1 := 106) (ls1 := [some (.ref 0), some (.int (m)), some (.int (16)), z]) (st1 := [.int (-3)]) rfl ?_
  exact Wp.reti rfl rfl hQ
set_option maxHeartbeats 4000000 in
theorem t_cwhS {d : Nat} {Q : KO → Prop} {h : KH} (hw : WF h) {A : Nat → Int32} {RL : List Rul} {n c dn en : Nat} (hk : cityOK h 1 A RL n c dn en) {m : Nat} (hm : m < 12) (hd : 5 ≤ d) (hQ : ∀ k, Fr (pC 7) (fun c => c = 7) h k → nrm (cS k.2.2.1 7) = nrm (cS h.2.2.1 1) → k.2.1 7 10 = h.2.1 1 10 → k.2.1 7 11 = h.2.1 1 11 → (((bt (shA c A) m) = false → Wp d 113 41 ([some (.ref 0), some (.int (Int32.ofNat m)), some (.int (0)), none]) [] k Q) ∧ ((bt (shA c A) m) = true → Q (some (.int (-3)), k)))) : Wp d 113 9 [some (.ref 0), some (.int (Int32.ofNat m)), none, none] [] h Q := by
  refine Wp.seg 1 (pc1 := 10) (ls1 := [some (.ref 0), some (.int (Int32.ofNat m)), none, none]) (st1 := [.ref 0]) rfl ?_
  refine Wp.gr (t := (10, 0)) (v := some (7)) rfl (WF.t hw 0 rfl) rfl (WF.r hw 0 2 2 rfl) ?_
  show Wp d 113 13 [some (.ref 0), some (.int (Int32.ofNat m)), none, none] [.ref 7] h Q
  refine Wp.seg 1 (pc1 := 14) (ls1 := [some (.ref 0), some (.int (Int32.ofNat m)), none, none]) (st1 := [.ref 0, .ref 7]) rfl ?_
  refine Wp.gr (t := (10, 0)) (v := some (1)) rfl (WF.t hw 0 rfl) rfl (WF.r hw 0 0 0 rfl) ?_
  show Wp d 113 17 [some (.ref 0), some (.int (Int32.ofNat m)), none, none] [.ref 1, .ref 7] h Q
  refine Wp.invV (d2 := 1) (as := [.ref 7, .ref 1]) (r := []) (t := (1, 0)) rfl rfl rfl rfl (WF.t hw 7 rfl) rfl rfl ⟨rfl, rfl⟩ (by omega) (s_copy (h := h) hw cA7 cA1 (by decide) (Nat.le_refl _) ?_)
  intro k f e1 e2 e3
  show Wp d 113 20 [some (.ref 0), some (.int (Int32.ofNat m)), none, none] [] k Q
  refine Wp.seg 1 (pc1 := 21) (ls1 := [some (.ref 0), some (.int (Int32.ofNat m)), none, none]) (st1 := [.ref 0]) rfl ?_
  refine Wp.gr (t := (10, 0)) (v := some (7)) rfl (WF.t (f.wf hw (fun z => absurd z (by decide))) 0 rfl) rfl (WF.r (f.wf hw (fun z => absurd z (by decide))) 0 2 2 rfl) ?_
  show Wp d 113 24 [some (.ref 0), some (.int (Int32.ofNat m)), none, none] [.ref 7] k Q
  refine Wp.invV (d2 := 2) (as := [.ref 7]) (r := []) (t := (1, 0)) rfl rfl rfl rfl (WF.t (f.wf hw (fun z => absurd z (by decide))) 7 rfl) rfl rfl ⟨rfl, rfl⟩ (by omega) (s_shutC (h := k) (f.wf hw (fun z => absurd z (by decide))) cA7 (copy_ok hk f e1 e2) (Nat.le_refl _) ?_)
  show Wp d 113 27 [some (.ref 0), some (.int (Int32.ofNat m)), none, none] [.int (shA c A)] k Q
  refine Wp.seg 3 (pc1 := 30) (ls1 := [some (.ref 0), some (.int (Int32.ofNat m)), none, none]) (st1 := [.int ((1 : Int32) <<< ((Int32.ofNat m) &&& 31)), .int (shA c A)]) rfl ?_
  refine Wp.inv (d2 := 0) (as := [.int (shA c A), .int ((1 : Int32) <<< ((Int32.ofNat m) &&& 31))]) (r := []) rfl rfl rfl rfl rfl rfl (by omega) (s_hall (k := m) rfl (by omega) ?_)
  show Wp d 113 33 [some (.ref 0), some (.int (Int32.ofNat m)), none, none] [.int (b32 (bt (shA c A) m))] k Q
  refine Wp.ifz rfl (fun (c1 : (bt (shA c A) m) = false) => ?_) (fun (c1 : (bt (shA c A) m) = true) => ?_)
  · refine Wp.seg 2 (pc1 := 41) (ls1 := [some (.ref 0), some (.int (Int32.ofNat m)), some (.int (0)), none]) (st1 := []) rfl ?_
    exact ((hQ k f e1 e2 e3).1 c1)
  · refine Wp.seg 1 (pc1 := 38) (ls1 := [some (.ref 0), some (.int (Int32.ofNat m)), none, none]) (st1 := [.int (-3)]) rfl ?_
    exact Wp.reti rfl rfl ((hQ k f e1 e2 e3).2 c1)
set_option maxHeartbeats 4000000 in
theorem t_cwh {d : Nat} {Q : KO → Prop} {h : KH} {v : Int32} (hd : 5 ≤ d) (hQ : ((inB v 0 11) = true → Wp d 113 9 ([some (.ref 0), some (.int (v)), none, none]) [] h Q) ∧ ((inB v 0 11) = false → Q (some (.int (-1)), h))) : Cl d 113 [.ref 0, .int (v)] h Q := by
  refine Cl.of (ls := [some (.ref 0), some (.int (v)), none, none]) rfl rfl ?_
  refine Wp.seg 1 (pc1 := 1) (ls1 := [some (.ref 0), some (.int (v)), none, none]) (st1 := [.int (v)]) rfl ?_
  refine Wp.inv (d2 := 0) (as := [.int (v)]) (r := []) rfl rfl rfl rfl rfl rfl (by omega) (s_b104 ?_)
  show Wp d 113 4 [some (.ref 0), some (.int (v)), none, none] [.int (b32 (inB v 0 11))] h Q
  refine Wp.ifnz rfl (fun (c1 : (inB v 0 11) = true) => ?_) (fun (c1 : (inB v 0 11) = false) => ?_)
  · exact (hQ.1 c1)
  · refine Wp.seg 1 (pc1 := 8) (ls1 := [some (.ref 0), some (.int (v)), none, none]) (st1 := [.int (-1)]) rfl ?_
    exact Wp.reti rfl rfl (hQ.2 c1)
theorem c_whenL {d : Nat} {Q : KO → Prop} {n c en m : Nat} {RL : List Rul} (hm : m < 12) (hd : 5 ≤ d) : ∀ (j i dn : Nat) (A : Nat → Int32) (h : KH) (z : Option Value), i + j = 16 → WF h → cityOK h 7 A RL n c dn en →
    (∀ k, Fr (pC 7) noP h k → Q (some (.int (whenL RL n c en m j dn A)), k)) → Wp d 113 41 [some (.ref 0), some (.int (Int32.ofNat m)), some (.int (Int32.ofNat i)), z] [] h Q
  | 0, i, dn, A, h, z, hij, hw, hk, hQ => by
    obtain rfl : i = 16 := hij
    exact t_cwhE (Nat.zero_le _) (hQ h (Fr.refl h))
  | j + 1, i, dn, A, h, z, hij, hw, hk, hQ => by
    unfold whenL at hQ
    by_cases q : dn < en
    · simp only [if_pos q] at hQ
      refine t_cwhB hw hk hm (by omega) q hk.2.1.2.2.2.2.1 hd (fun k f g => ⟨fun c1 => ?_, fun c1 => ?_⟩)
      · simp only [if_neg (bfT c1)] at hQ
        have ei : Int32.ofNat i + 1 = Int32.ofNat (i + 1) := ofadd i 1
        rw [ei]
        exact c_whenL hm hd j (i + 1) (dn + 1) _ k _ (by omega) (f.wf hw (fun z => z)) g (fun k2 f2 => hQ k2 (f.trans f2))
      · simp only [if_pos c1] at hQ
        exact hQ k f
    · simp only [if_neg q] at hQ
      exact t_cwhO hw hk (by omega) q (by omega) (hQ h (Fr.refl h))
theorem c_when {d : Nat} {h : KH} (hw : WF h) {A : Nat → Int32} {RL : List Rul} {n c dn en : Nat} (hk : cityOK h 1 A RL n c dn en) (hd : 5 ≤ d) {v : Int32} : Cl d 113 [.ref 0, .int v] h (qu (whenS RL n c dn en A v) h) := by
  unfold whenS
  refine t_cwh hd ⟨fun q => ?_, fun q => ?_⟩
  · rw [if_pos q]
    obtain ⟨m, hm, rfl⟩ := inB_nat (b := 11) q
    rw [clamp_ofNat (by omega)]
    refine t_cwhS hw hk (by omega) hd (fun k f e1 e2 e3 => ⟨fun c1 => ?_, fun c1 => ?_⟩)
    · rw [if_neg (bfT c1)]
      exact c_whenL (by omega) hd 16 0 dn A k _ (by omega) (f.wf hw (fun z => absurd z (by decide))) (copy_ok hk f e1 e2) (fun k2 f2 => qu_i ((Q7r f).trans (Q7 f2)))
    · rw [if_pos c1]
      exact qu_i (Q7r f)
  · rw [if_neg (by rw [q]; decide)]
    exact qu_i (Quiet.refl h)
set_option maxHeartbeats 4000000 in
theorem t_mwhB {d : Nat} {Q : KO → Prop} {h : KH} (hw : WF h) {S A : Nat → Int32} {RL : List Rul} {n c dn en : Nat} (hk : refTh h S A RL n c dn en) {m : Nat} (hlt : dn < en) (hd : 7 ≤ d) (hQ : ∀ k, Fr pM noP h k → refOK k (goA RL A (turnT n dn)) RL n c (dn + 1) en → keepS (k.2.2.1 60) (h.2.2.1 60) → ((¬ (((shA c (goA RL A (turnT n dn))) >>> ((Int32.ofNat m) &&& 31)) &&& (1 : Int32)) = (1 : Int32) → Wp d 227 31 ([some (.ref 59), some (.int (Int32.ofNat m)), some (.int (-3))]) [] k Q) ∧ (¬ (¬ (((shA c (goA RL A (turnT n dn))) >>> ((Int32.ofNat m) &&& 31)) &&& (1 : Int32)) = (1 : Int32)) → Wp d 227 31 ([some (.ref 59), some (.int (Int32.ofNat m)), some (.int ((Int32.ofNat (dn + 1)) - (1 : Int32)))]) [] k Q))) : Wp d 227 31 [some (.ref 59), some (.int (Int32.ofNat m)), some (.int (-3))] [] h Q := by
  refine Wp.seg 1 (pc1 := 32) (ls1 := [some (.ref 59), some (.int (Int32.ofNat m)), some (.int (-3))]) (st1 := [.int (-3)]) rfl ?_
  refine Wp.if1 rfl (fun c1 => absurd c1 (show ¬ (0 ≤ (-3 : Int32)) by decide)) (fun c1 => ?_)
  refine Wp.seg 1 (pc1 := 36) (ls1 := [some (.ref 59), some (.int (Int32.ofNat m)), some (.int (-3))]) (st1 := [.ref 59]) rfl ?_
  refine Wp.invV (d2 := 0) (as := [.ref 59]) (r := []) (t := (11, 0)) rfl rfl rfl rfl (WF.t hw 59 rfl) rfl rfl ⟨rfl, rfl⟩ (by omega) (r_over0 hw hk.1 hlt ?_)
  show Wp d 227 39 [some (.ref 59), some (.int (Int32.ofNat m)), some (.int (-3))] [.int (0)] h Q
  refine Wp.if1 rfl (fun c2 => absurd c2 (show ¬ (¬ (0 : Int32) = 0) by decide)) (fun c2 => ?_)
  refine Wp.seg 1 (pc1 := 43) (ls1 := [some (.ref 59), some (.int (Int32.ofNat m)), some (.int (-3))]) (st1 := [.ref 59]) rfl ?_
  refine Wp.invV (d2 := 6) (as := [.ref 59]) (r := []) (t := (11, 0)) rfl rfl rfl rfl (WF.t hw 59 rfl) rfl rfl ⟨rfl, rfl⟩ (by omega) (r_byTurns hw hk.1 hlt (Nat.le_refl _) ?_)
  intro k f g e
  show Wp d 227 46 [some (.ref 59), some (.int (Int32.ofNat m)), some (.int (-3))] [.int (wA RL A (turnT n dn))] k Q
  refine Wp.seg 2 (pc1 := 48) (ls1 := [some (.ref 59), some (.int (Int32.ofNat m)), some (.int (-3))]) (st1 := [.ref 59]) rfl ?_
  refine Wp.invV (d2 := 3) (as := [.ref 59]) (r := []) (t := (11, 0)) rfl rfl rfl rfl (WF.t (f.wf hw (fun z => z)) 59 rfl) rfl rfl ⟨rfl, rfl⟩ (by omega) (r_shut (h := k) (f.wf hw (fun z => z)) g (Nat.le_refl _) ?_)
  show Wp d 227 51 [some (.ref 59), some (.int (Int32.ofNat m)), some (.int (-3))] [.int (shA c (goA RL A (turnT n dn)))] k Q
  refine Wp.seg 5 (pc1 := 56) (ls1 := [some (.ref 59), some (.int (Int32.ofNat m)), some (.int (-3))]) (st1 := [.int (1), .int (((shA c (goA RL A (turnT n dn))) >>> ((Int32.ofNat m) &&& 31)) &&& (1 : Int32))]) rfl ?_
  refine Wp.if2 rfl (fun (c3 : ¬ (((shA c (goA RL A (turnT n dn))) >>> ((Int32.ofNat m) &&& 31)) &&& (1 : Int32)) = (1 : Int32)) => ?_) (fun (c3 : ¬ (¬ (((shA c (goA RL A (turnT n dn))) >>> ((Int32.ofNat m) &&& 31)) &&& (1 : Int32)) = (1 : Int32))) => ?_)
  · refine Wp.seg 3 (pc1 := 31) (ls1 := [some (.ref 59), some (.int (Int32.ofNat m)), some (.int (-3))]) (st1 := []) rfl ?_
    exact ((hQ k f g e).1 c3)
  · refine Wp.seg 1 (pc1 := 60) (ls1 := [some (.ref 59), some (.int (Int32.ofNat m)), some (.int (-3))]) (st1 := [.ref 59]) rfl ?_
    refine Wp.gr (t := (11, 0)) (v := some (60)) rfl (WF.t (f.wf hw (fun z => z)) 59 rfl) rfl (WF.r (f.wf hw (fun z => z)) 59 0 58 rfl) ?_
    show Wp d 227 63 [some (.ref 59), some (.int (Int32.ofNat m)), some (.int (-3))] [.ref 60] k Q
    refine Wp.seg 1 (pc1 := 64) (ls1 := [some (.ref 59), some (.int (Int32.ofNat m)), some (.int (-3))]) (st1 := [.int (1), .ref 60]) rfl ?_
    refine Wp.iald (j := 1) (k := 20) (n := 585) rfl (WF.t (f.wf hw (fun z => z)) 60 rfl) rfl rfl (by decide) (by decide) ?_
    rw [show k.2.2.1 60 1 = Int32.ofNat (dn + 1) from (g.2.1.2.2.2.2.1)]
    refine Wp.seg 5 (pc1 := 31) (ls1 := [some (.ref 59), some (.int (Int32.ofNat m)), some (.int ((Int32.ofNat (dn + 1)) - (1 : Int32)))]) (st1 := []) rfl ?_
    exact ((hQ k f g e).2 c3)
set_option maxHeartbeats 4000000 in
theorem t_mwhO {d : Nat} {Q : KO → Prop} {h : KH} (hw : WF h) {S A : Nat → Int32} {RL : List Rul} {n c dn en : Nat} (hk : refTh h S A RL n c dn en) {m : Nat} (hlt : ¬ dn < en) (hd : 7 ≤ d) (hQ : Wp d 227 76 ([some (.ref 59), some (.int (Int32.ofNat m)), some (.int (-3))]) [] h Q) : Wp d 227 31 [some (.ref 59), some (.int (Int32.ofNat m)), some (.int (-3))] [] h Q := by
  refine Wp.seg 1 (pc1 := 32) (ls1 := [some (.ref 59), some (.int (Int32.ofNat m)), some (.int (-3))]) (st1 := [.int (-3)]) rfl ?_
  refine Wp.if1 rfl (fun c1 => absurd c1 (show ¬ (0 ≤ (-3 : Int32)) by decide)) (fun c1 => ?_)
  refine Wp.seg 1 (pc1 := 36) (ls1 := [some (.ref 59), some (.int (Int32.ofNat m)), some (.int (-3))]) (st1 := [.ref 59]) rfl ?_
  refine Wp.invV (d2 := 0) (as := [.ref 59]) (r := []) (t := (11, 0)) rfl rfl rfl rfl (WF.t hw 59 rfl) rfl rfl ⟨rfl, rfl⟩ (by omega) (r_over1 hw hk.1 hlt ?_)
  show Wp d 227 39 [some (.ref 59), some (.int (Int32.ofNat m)), some (.int (-3))] [.int (1)] h Q
  refine Wp.if1 rfl (fun c2 => ?_) (fun c2 => absurd (show ¬ (1 : Int32) = 0 by decide) c2)
  exact hQ
set_option maxHeartbeats 4000000 in
theorem t_mwhX {d : Nat} {Q : KO → Prop} {h : KH} {m v : Int32} (hv : 0 ≤ v) (hd : 0 ≤ d) (hQ : Wp d 227 76 ([some (.ref 59), some (.int (m)), some (.int (v))]) [] h Q) : Wp d 227 31 [some (.ref 59), some (.int (m)), some (.int (v))] [] h Q := by
  refine Wp.seg 1 (pc1 := 32) (ls1 := [some (.ref 59), some (.int (m)), some (.int (v))]) (st1 := [.int (v)]) rfl ?_
  refine Wp.if1 rfl (fun c1 => ?_) (fun c1 => absurd (hv) c1)
  exact hQ
set_option maxHeartbeats 4000000 in
theorem t_mwhE {d : Nat} {Q : KO → Prop} {h : KH} (hw : WF h) {S A : Nat → Int32} {RL : List Rul} {n c dn en : Nat} (hk : refTh h S A RL n c dn en) {m v : Int32} (hd : 2 ≤ d) (hQ : ∀ k, Fr (fun c => c = 60) noP h k → k.2.2.1 60 = S → (Q (some (.int (v)), k))) : Wp d 227 76 [some (.ref 59), some (.int (m)), some (.int (v))] [] h Q := by
  refine Wp.seg 1 (pc1 := 77) (ls1 := [some (.ref 59), some (.int (m)), some (.int (v))]) (st1 := [.ref 59]) rfl ?_
  refine Wp.invV (d2 := 1) (as := [.ref 59]) (r := []) (t := (11, 0)) rfl rfl rfl rfl (WF.t hw 59 rfl) rfl rfl ⟨rfl, rfl⟩ (by omega) (r_back hw hk (Nat.le_refl _) ?_)
  intro k f e
  show Wp d 227 80 [some (.ref 59), some (.int (m)), some (.int (v))] [] k Q
  refine Wp.seg 1 (pc1 := 81) (ls1 := [some (.ref 59), some (.int (m)), some (.int (v))]) (st1 := [.int (v)]) rfl ?_
  exact Wp.reti rfl rfl (hQ k f e)
set_option maxHeartbeats 4000000 in
theorem t_mwhS {d : Nat} {Q : KO → Prop} {h : KH} (hw : WF h) {A : Nat → Int32} {RL : List Rul} {n c dn en : Nat} (hk : refOK h A RL n c dn en) {m : Nat} (hd : 7 ≤ d) (hQ : (¬ (((shA c A) >>> ((Int32.ofNat m) &&& 31)) &&& (1 : Int32)) = (1 : Int32) → ∀ k, Fr (fun c => c = 62) noP h k → refTh k (h.2.2.1 60) A RL n c dn en → (Wp d 227 31 ([some (.ref 59), some (.int (Int32.ofNat m)), some (.int (-3))]) [] k Q)) ∧ (¬ (¬ (((shA c A) >>> ((Int32.ofNat m) &&& 31)) &&& (1 : Int32)) = (1 : Int32)) → Q (some (.int (-3)), h))) : Wp d 227 9 [some (.ref 59), some (.int (Int32.ofNat m)), none] [] h Q := by
  refine Wp.seg 1 (pc1 := 10) (ls1 := [some (.ref 59), some (.int (Int32.ofNat m)), none]) (st1 := [.ref 59]) rfl ?_
  refine Wp.invV (d2 := 3) (as := [.ref 59]) (r := []) (t := (11, 0)) rfl rfl rfl rfl (WF.t hw 59 rfl) rfl rfl ⟨rfl, rfl⟩ (by omega) (r_shut hw hk (Nat.le_refl _) ?_)
  show Wp d 227 13 [some (.ref 59), some (.int (Int32.ofNat m)), none] [.int (shA c A)] h Q
  refine Wp.seg 5 (pc1 := 18) (ls1 := [some (.ref 59), some (.int (Int32.ofNat m)), none]) (st1 := [.int (1), .int (((shA c A) >>> ((Int32.ofNat m) &&& 31)) &&& (1 : Int32))]) rfl ?_
  refine Wp.if2 rfl (fun (c1 : ¬ (((shA c A) >>> ((Int32.ofNat m) &&& 31)) &&& (1 : Int32)) = (1 : Int32)) => ?_) (fun (c1 : ¬ (¬ (((shA c A) >>> ((Int32.ofNat m) &&& 31)) &&& (1 : Int32)) = (1 : Int32))) => ?_)
  · refine Wp.seg 1 (pc1 := 25) (ls1 := [some (.ref 59), some (.int (Int32.ofNat m)), none]) (st1 := [.ref 59]) rfl ?_
    refine Wp.invV (d2 := 1) (as := [.ref 59]) (r := []) (t := (11, 0)) rfl rfl rfl rfl (WF.t hw 59 rfl) rfl rfl ⟨rfl, rfl⟩ (by omega) (r_thinks hw hk (Nat.le_refl _) ?_)
    intro k f g
    show Wp d 227 28 [some (.ref 59), some (.int (Int32.ofNat m)), none] [] k Q
    refine Wp.seg 2 (pc1 := 31) (ls1 := [some (.ref 59), some (.int (Int32.ofNat m)), some (.int (-3))]) (st1 := []) rfl ?_
    exact ((hQ.1 c1) k f g)
  · refine Wp.seg 1 (pc1 := 23) (ls1 := [some (.ref 59), some (.int (Int32.ofNat m)), none]) (st1 := [.int (-3)]) rfl ?_
    exact Wp.reti rfl rfl (hQ.2 c1)
set_option maxHeartbeats 4000000 in
theorem t_mwh {d : Nat} {Q : KO → Prop} {h : KH} {v : Int32} (hd : 7 ≤ d) (hQ : ((inB v 0 11) = true → Wp d 227 9 ([some (.ref 59), some (.int (v)), none]) [] h Q) ∧ ((inB v 0 11) = false → Q (some (.int (-1)), h))) : Cl d 227 [.ref 59, .int (v)] h Q := by
  refine Cl.of (ls := [some (.ref 59), some (.int (v)), none]) rfl rfl ?_
  refine Wp.seg 1 (pc1 := 1) (ls1 := [some (.ref 59), some (.int (v)), none]) (st1 := [.int (v)]) rfl ?_
  refine Wp.inv (d2 := 1) (as := [.int (v)]) (r := []) rfl rfl rfl rfl rfl rfl (by omega) (s_b176 (Nat.le_refl _) ?_)
  show Wp d 227 4 [some (.ref 59), some (.int (v)), none] [.int (b32 (inB v 0 11))] h Q
  refine Wp.ifnz rfl (fun (c1 : (inB v 0 11) = true) => ?_) (fun (c1 : (inB v 0 11) = false) => ?_)
  · exact (hQ.1 c1)
  · refine Wp.seg 1 (pc1 := 8) (ls1 := [some (.ref 59), some (.int (v)), none]) (st1 := [.int (-1)]) rfl ?_
    exact Wp.reti rfl rfl (hQ.2 c1)
theorem m_whenL {d : Nat} {Q : KO → Prop} {S : Nat → Int32} {n c en m : Nat} {RL : List Rul} (hm : m < 12) (hd : 7 ≤ d) : ∀ (j dn : Nat) (A : Nat → Int32) (h : KH), en ≤ dn + j → WF h → refTh h S A RL n c dn en →
    (∀ k, Fr pM noP h k → k.2.2.1 60 = S → Q (some (.int (whenL RL n c en m j dn A)), k)) → Wp d 227 31 [some (.ref 59), some (.int (Int32.ofNat m)), some (.int (-3))] [] h Q
  | 0, dn, A, h, hij, hw, hk, hQ => by
    exact t_mwhO hw hk (by omega) hd (t_mwhE hw hk (by omega) (fun k f e => hQ k (Fr60 f) e))
  | j + 1, dn, A, h, hij, hw, hk, hQ => by
    unfold whenL at hQ
    by_cases q : dn < en
    · simp only [if_pos q] at hQ
      have den := hk.1.2.1.2.2.2.2.2.2.2.2.1
      refine t_mwhB hw hk q hd (fun k f g e => ⟨fun c1 => ?_, fun c1 => ?_⟩)
      · have c2 : ¬ bt (shA c (goA RL A (turnT n dn))) m = true := fun z => c1 ((bt_low (by omega)).mpr z)
        simp only [if_neg c2] at hQ
        exact m_whenL hm hd j (dn + 1) _ k (by omega) (f.wf hw (fun z => z)) (hk.next f pM62 g e) (fun k2 f2 => hQ k2 (f.trans f2))
      · have c2 : bt (shA c (goA RL A (turnT n dn))) m = true := (bt_low (by omega)).mp (Decidable.not_not.mp c1)
        simp only [if_pos c2] at hQ
        have e1 : Int32.ofNat (dn + 1) - 1 = Int32.ofNat dn := ofdec2 dn
        rw [e1]
        refine t_mwhX ((zle (m := 0) rfl (znat (n := dn) (by omega))).mpr (by omega)) (Nat.zero_le _) (t_mwhE (f.wf hw (fun z => z)) (hk.next f pM62 g e) (by omega) (fun k2 f2 e2 => hQ k2 (f.trans (Fr60 f2)) e2))
    · simp only [if_neg q] at hQ
      exact t_mwhO hw hk q hd (t_mwhE hw hk (by omega) (fun k f e => hQ k (Fr60 f) e))
theorem m_when {d : Nat} {h : KH} (hw : WF h) {A : Nat → Int32} {RL : List Rul} {n c dn en : Nat} (hk : refOK h A RL n c dn en) (hd : 7 ≤ d) {v : Int32} : Cl d 227 [.ref 59, .int v] h (qu (whenS RL n c dn en A v) h) := by
  unfold whenS
  refine t_mwh hd ⟨fun q => ?_, fun q => ?_⟩
  · rw [if_pos q]
    obtain ⟨m, hm, rfl⟩ := inB_nat (b := 11) q
    rw [clamp_ofNat (by omega)]
    refine t_mwhS hw hk hd ⟨fun c1 => ?_, fun c1 => ?_⟩
    · have c2 : ¬ bt (shA c A) m = true := fun z => c1 ((bt_low (by omega)).mpr z)
      rw [if_neg c2]
      intro k f g
      exact m_whenL (by omega) hd 16 dn A k (by have := hk.2.1.2.2.2.2.2.2.2.2.1; omega) (f.wf hw (fun z => z)) g (fun k2 f2 e2 => qu_i (quiet_m ((Fr62 f).trans (FrM f2)) e2))
    · have c2 : bt (shA c A) m = true := (bt_low (by omega)).mp (Decidable.not_not.mp c1)
      rw [if_pos c2]
      exact qu_i (Quiet.refl h)
  · rw [if_neg (by rw [q]; decide)]
    exact qu_i (Quiet.refl h)
