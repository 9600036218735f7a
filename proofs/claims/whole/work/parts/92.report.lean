/-! KM: both sides: report, forget -/
set_option maxHeartbeats 4000000 in
theorem t_rin0 {d : Nat} {Q : KO → Prop} {h : KH} {o : Nat} {x k l m : Int32} (ho : h.1 o = (7, 0)) (hd : 1 ≤ d) (hQ : Q (none, kwr (kwi (kwi (kwi (kwi h o 0 x) o 1 k) o 2 l) o 3 m) o 4 none)) : Cl d 71 [.ref o, .int (x), .int (k), .int (l), .int (m), .null] h Q := by
  refine Cl.of (ls := [some (.ref o), some (.int (x)), some (.int (k)), some (.int (l)), some (.int (m)), some (.null)]) rfl rfl ?_
  refine Wp.seg 1 (pc1 := 1) (ls1 := [some (.ref o), some (.int (x)), some (.int (k)), some (.int (l)), some (.int (m)), some (.null)]) (st1 := [.ref o]) rfl ?_
  refine Wp.objinit rfl (by omega) rfl ?_
  refine Wp.seg 2 (pc1 := 6) (ls1 := [some (.ref o), some (.int (x)), some (.int (k)), some (.int (l)), some (.int (m)), some (.null)]) (st1 := [.int (x), .ref o]) rfl ?_
  refine Wp.pi (t := (7, 0)) rfl ho (Or.inl rfl) ?_
  refine Wp.seg 2 (pc1 := 11) (ls1 := [some (.ref o), some (.int (x)), some (.int (k)), some (.int (l)), some (.int (m)), some (.null)]) (st1 := [.int (k), .ref o]) rfl ?_
  refine Wp.pi (t := (7, 0)) rfl ho (Or.inl rfl) ?_
  refine Wp.seg 2 (pc1 := 16) (ls1 := [some (.ref o), some (.int (x)), some (.int (k)), some (.int (l)), some (.int (m)), some (.null)]) (st1 := [.int (l), .ref o]) rfl ?_
  refine Wp.pi (t := (7, 0)) rfl ho (Or.inl rfl) ?_
  refine Wp.seg 2 (pc1 := 22) (ls1 := [some (.ref o), some (.int (x)), some (.int (k)), some (.int (l)), some (.int (m)), some (.null)]) (st1 := [.int (m), .ref o]) rfl ?_
  refine Wp.pi (t := (7, 0)) rfl ho (Or.inl rfl) ?_
  refine Wp.seg 2 (pc1 := 28) (ls1 := [some (.ref o), some (.int (x)), some (.int (k)), some (.int (l)), some (.int (m)), some (.null)]) (st1 := [.null, .ref o]) rfl ?_
  refine Wp.pn (t := (7, 0)) rfl ho rfl ?_
  exact Wp.retv rfl rfl hQ
set_option maxHeartbeats 4000000 in
theorem t_rin1 {d : Nat} {Q : KO → Prop} {h : KH} {o p : Nat} {x k l m : Int32} (ho : h.1 o = (7, 0)) (hd : 1 ≤ d) (hQ : Q (none, kwr (kwi (kwi (kwi (kwi h o 0 x) o 1 k) o 2 l) o 3 m) o 4 (some p))) : Cl d 71 [.ref o, .int (x), .int (k), .int (l), .int (m), .ref p] h Q := by
  refine Cl.of (ls := [some (.ref o), some (.int (x)), some (.int (k)), some (.int (l)), some (.int (m)), some (.ref p)]) rfl rfl ?_
  refine Wp.seg 1 (pc1 := 1) (ls1 := [some (.ref o), some (.int (x)), some (.int (k)), some (.int (l)), some (.int (m)), some (.ref p)]) (st1 := [.ref o]) rfl ?_
  refine Wp.objinit rfl (by omega) rfl ?_
  refine Wp.seg 2 (pc1 := 6) (ls1 := [some (.ref o), some (.int (x)), some (.int (k)), some (.int (l)), some (.int (m)), some (.ref p)]) (st1 := [.int (x), .ref o]) rfl ?_
  refine Wp.pi (t := (7, 0)) rfl ho (Or.inl rfl) ?_
  refine Wp.seg 2 (pc1 := 11) (ls1 := [some (.ref o), some (.int (x)), some (.int (k)), some (.int (l)), some (.int (m)), some (.ref p)]) (st1 := [.int (k), .ref o]) rfl ?_
  refine Wp.pi (t := (7, 0)) rfl ho (Or.inl rfl) ?_
  refine Wp.seg 2 (pc1 := 16) (ls1 := [some (.ref o), some (.int (x)), some (.int (k)), some (.int (l)), some (.int (m)), some (.ref p)]) (st1 := [.int (l), .ref o]) rfl ?_
  refine Wp.pi (t := (7, 0)) rfl ho (Or.inl rfl) ?_
  refine Wp.seg 2 (pc1 := 22) (ls1 := [some (.ref o), some (.int (x)), some (.int (k)), some (.int (l)), some (.int (m)), some (.ref p)]) (st1 := [.int (m), .ref o]) rfl ?_
  refine Wp.pi (t := (7, 0)) rfl ho (Or.inl rfl) ?_
  refine Wp.seg 2 (pc1 := 28) (ls1 := [some (.ref o), some (.int (x)), some (.int (k)), some (.int (l)), some (.int (m)), some (.ref p)]) (st1 := [.ref p, .ref o]) rfl ?_
  refine Wp.pr (t := (7, 0)) rfl ho rfl ?_
  exact Wp.retv rfl rfl hQ
theorem t_rinit {d : Nat} {Q : KO → Prop} {h : KH} {o : Nat} {x k l m : Int32} {v : Option Nat} (ho : h.1 o = (7, 0)) (hd : 1 ≤ d) (hQ : Q (none, kwr (kwi (kwi (kwi (kwi h o 0 x) o 1 k) o 2 l) o 3 m) o 4 v)) : Cl d 71 [.ref o, .int x, .int k, .int l, .int m, krv v] h Q := by
  cases v with
  | none => exact t_rin0 ho hd hQ
  | some p => exact t_rin1 ho hd hQ
set_option maxHeartbeats 4000000 in
theorem t_rc0 {d : Nat} {Q : KO → Prop} {h : KH} (hw : WF h) (hv : h.2.1 1 11 = none) (hd : 0 ≤ d) (hQ : Q (some (.int (0)), h)) : Cl d 7 [.ref 1] h Q := by
  refine Cl.of (ls := [some (.ref 1)]) rfl rfl ?_
  refine Wp.seg 1 (pc1 := 1) (ls1 := [some (.ref 1)]) (st1 := [.ref 1]) rfl ?_
  refine Wp.gr (t := (1, 0)) (v := none) rfl (WF.t hw 1 rfl) rfl hv ?_
  show Wp d 7 4 [some (.ref 1)] [.null] h Q
  refine Wp.br rfl rfl ?_
  show Wp d 7 7 [some (.ref 1)] [] h Q
  refine Wp.seg 2 (pc1 := 20) (ls1 := [some (.ref 1)]) (st1 := [.int (0)]) rfl ?_
  exact Wp.reti rfl rfl hQ
set_option maxHeartbeats 4000000 in
theorem t_rc1 {d : Nat} {Q : KO → Prop} {h : KH} (hw : WF h) {o : Nat} (ho : h.1 o = (7, 0)) (hv : h.2.1 1 11 = some o) (hd : 0 ≤ d) (hQ : Q (some (.int ((h.2.2.1 o 0) + (1 : Int32))), h)) : Cl d 7 [.ref 1] h Q := by
  refine Cl.of (ls := [some (.ref 1)]) rfl rfl ?_
  refine Wp.seg 1 (pc1 := 1) (ls1 := [some (.ref 1)]) (st1 := [.ref 1]) rfl ?_
  refine Wp.gr (t := (1, 0)) (v := some (o)) rfl (WF.t hw 1 rfl) rfl hv ?_
  show Wp d 7 4 [some (.ref 1)] [.ref o] h Q
  refine Wp.br rfl rfl ?_
  show Wp d 7 11 [some (.ref 1)] [] h Q
  refine Wp.seg 1 (pc1 := 12) (ls1 := [some (.ref 1)]) (st1 := [.ref 1]) rfl ?_
  refine Wp.gr (t := (1, 0)) (v := some (o)) rfl (WF.t hw 1 rfl) rfl hv ?_
  show Wp d 7 15 [some (.ref 1)] [.ref o] h Q
  refine Wp.gi (t := (7, 0)) rfl ho (Or.inl rfl) ?_
  refine Wp.seg 2 (pc1 := 20) (ls1 := [some (.ref 1)]) (st1 := [.int ((h.2.2.1 o 0) + (1 : Int32))]) rfl ?_
  exact Wp.reti rfl rfl hQ
theorem s_rcount {d : Nat} {Q : KO → Prop} {h : KH} (hw : WF h) {RP : List (Nat × Nat × Nat)} (hc : crep h RP (h.2.1 1 11)) (hQ : Q (some (.int (Int32.ofNat RP.length)), h)) : Cl d 7 [.ref 1] h Q := by
  cases RP with
  | nil => exact t_rc0 hw hc (Nat.zero_le _) hQ
  | cons x r =>
    obtain ⟨o, p1, p2, p3, p4, p5, p6⟩ := hc
    refine t_rc1 hw p4 p1 (Nat.zero_le _) ?_
    rw [p5, show Int32.ofNat r.length + (1 : Int32) = Int32.ofNat (r.length + 1) from (Int32.ofNat_add r.length 1).symm]
    exact hQ
set_option maxHeartbeats 4000000 in
theorem t_crp1 {d : Nat} {Q : KO → Prop} {h : KH} (hw : WF h) {k l m : Int32} (hd : 2 ≤ d) (hQ : (k < 0 → Q (some (.int (-1)), h)) ∧ (¬ (k < 0) → ((16 : Int32) ≤ k → Q (some (.int (-1)), h)) ∧ (¬ ((16 : Int32) ≤ k) → ((inB l 0 11) = false → Q (some (.int (-1)), h)) ∧ ((inB l 0 11) = true → ((inB m 0 11) = false → Q (some (.int (-1)), h)) ∧ ((inB m 0 11) = true → (l ≤ m → Wp d 131 31 ([some (.ref 0), some (.int (k)), some (.int (l)), some (.int (m)), none]) [] h Q) ∧ (¬ (l ≤ m) → Q (some (.int (-1)), h))))))) : Cl d 131 [.ref 0, .int (k), .int (l), .int (m)] h Q := by
  refine Cl.of (ls := [some (.ref 0), some (.int (k)), some (.int (l)), some (.int (m)), none]) rfl rfl ?_
  refine Wp.seg 1 (pc1 := 1) (ls1 := [some (.ref 0), some (.int (k)), some (.int (l)), some (.int (m)), none]) (st1 := [.int (k)]) rfl ?_
  refine Wp.if1 rfl (fun (c1 : k < 0) => ?_) (fun (c1 : ¬ (k < 0)) => ?_)
  · refine Wp.seg 1 (pc1 := 30) (ls1 := [some (.ref 0), some (.int (k)), some (.int (l)), some (.int (m)), none]) (st1 := [.int (-1)]) rfl ?_
    exact Wp.reti rfl rfl (hQ.1 c1)
  · refine Wp.seg 2 (pc1 := 7) (ls1 := [some (.ref 0), some (.int (k)), some (.int (l)), some (.int (m)), none]) (st1 := [.int (16), .int (k)]) rfl ?_
    refine Wp.if2 rfl (fun (c2 : (16 : Int32) ≤ k) => ?_) (fun (c2 : ¬ ((16 : Int32) ≤ k)) => ?_)
    · refine Wp.seg 1 (pc1 := 30) (ls1 := [some (.ref 0), some (.int (k)), some (.int (l)), some (.int (m)), none]) (st1 := [.int (-1)]) rfl ?_
      exact Wp.reti rfl rfl ((hQ.2 c1).1 c2)
    · refine Wp.seg 1 (pc1 := 11) (ls1 := [some (.ref 0), some (.int (k)), some (.int (l)), some (.int (m)), none]) (st1 := [.int (l)]) rfl ?_
      refine Wp.inv (d2 := 0) (as := [.int (l)]) (r := []) rfl rfl rfl rfl rfl rfl (by omega) (s_b104 ?_)
      show Wp d 131 14 [some (.ref 0), some (.int (k)), some (.int (l)), some (.int (m)), none] [.int (b32 (inB l 0 11))] h Q
      refine Wp.ifz rfl (fun (c3 : (inB l 0 11) = false) => ?_) (fun (c3 : (inB l 0 11) = true) => ?_)
      · refine Wp.seg 1 (pc1 := 30) (ls1 := [some (.ref 0), some (.int (k)), some (.int (l)), some (.int (m)), none]) (st1 := [.int (-1)]) rfl ?_
        exact Wp.reti rfl rfl (((hQ.2 c1).2 c2).1 c3)
      · refine Wp.seg 1 (pc1 := 18) (ls1 := [some (.ref 0), some (.int (k)), some (.int (l)), some (.int (m)), none]) (st1 := [.int (m)]) rfl ?_
        refine Wp.inv (d2 := 0) (as := [.int (m)]) (r := []) rfl rfl rfl rfl rfl rfl (by omega) (s_b104 ?_)
        show Wp d 131 21 [some (.ref 0), some (.int (k)), some (.int (l)), some (.int (m)), none] [.int (b32 (inB m 0 11))] h Q
        refine Wp.ifz rfl (fun (c4 : (inB m 0 11) = false) => ?_) (fun (c4 : (inB m 0 11) = true) => ?_)
        · refine Wp.seg 1 (pc1 := 30) (ls1 := [some (.ref 0), some (.int (k)), some (.int (l)), some (.int (m)), none]) (st1 := [.int (-1)]) rfl ?_
          exact Wp.reti rfl rfl ((((hQ.2 c1).2 c2).2 c3).1 c4)
        · refine Wp.seg 2 (pc1 := 26) (ls1 := [some (.ref 0), some (.int (k)), some (.int (l)), some (.int (m)), none]) (st1 := [.int (l), .int (m)]) rfl ?_
          refine Wp.if2 rfl (fun (c5 : l ≤ m) => ?_) (fun (c5 : ¬ (l ≤ m)) => ?_)
          · exact (((((hQ.2 c1).2 c2).2 c3).2 c4).1 c5)
          · refine Wp.seg 1 (pc1 := 30) (ls1 := [some (.ref 0), some (.int (k)), some (.int (l)), some (.int (m)), none]) (st1 := [.int (-1)]) rfl ?_
            exact Wp.reti rfl rfl (((((hQ.2 c1).2 c2).2 c3).2 c4).2 c5)
set_option maxHeartbeats 4000000 in
theorem t_crp2 {d : Nat} {Q : KO → Prop} {h : KH} (hw : WF h) {k l m : Int32} (k0 : ¬ (k < 0)) (k1 : ¬ ((16 : Int32) ≤ k)) (ql : inB l 0 11 = true) (qm : inB m 0 11 = true) (lm : l ≤ m) {RP : List (Nat × Nat × Nat)} (hc : crep h RP (h.2.1 1 11)) {g : Nat} (eg : RP.length = g) (cg6 : ¬ (Int32.ofNat g < 6)) (hd : 2 ≤ d) (hQ : Q (some (.int (-2)), h)) : Cl d 131 [.ref 0, .int (k), .int (l), .int (m)] h Q := by
  refine Cl.of (ls := [some (.ref 0), some (.int (k)), some (.int (l)), some (.int (m)), none]) rfl rfl ?_
  refine Wp.seg 1 (pc1 := 1) (ls1 := [some (.ref 0), some (.int (k)), some (.int (l)), some (.int (m)), none]) (st1 := [.int (k)]) rfl ?_
  refine Wp.if1 rfl (fun c1 => absurd c1 (k0)) (fun c1 => ?_)
  refine Wp.seg 2 (pc1 := 7) (ls1 := [some (.ref 0), some (.int (k)), some (.int (l)), some (.int (m)), none]) (st1 := [.int (16), .int (k)]) rfl ?_
  refine Wp.if2 rfl (fun c2 => absurd c2 (k1)) (fun c2 => ?_)
  refine Wp.seg 1 (pc1 := 11) (ls1 := [some (.ref 0), some (.int (k)), some (.int (l)), some (.int (m)), none]) (st1 := [.int (l)]) rfl ?_
  refine Wp.inv (d2 := 0) (as := [.int (l)]) (r := []) rfl rfl rfl rfl rfl rfl (by omega) (s_b104 ?_)
  show Wp d 131 14 [some (.ref 0), some (.int (k)), some (.int (l)), some (.int (m)), none] [.int (b32 (inB l 0 11))] h Q
  refine Wp.ifz rfl (fun c3 => absurd (c3.symm.trans (ql)) (by decide)) (fun c3 => ?_)
  refine Wp.seg 1 (pc1 := 18) (ls1 := [some (.ref 0), some (.int (k)), some (.int (l)), some (.int (m)), none]) (st1 := [.int (m)]) rfl ?_
  refine Wp.inv (d2 := 0) (as := [.int (m)]) (r := []) rfl rfl rfl rfl rfl rfl (by omega) (s_b104 ?_)
  show Wp d 131 21 [some (.ref 0), some (.int (k)), some (.int (l)), some (.int (m)), none] [.int (b32 (inB m 0 11))] h Q
  refine Wp.ifz rfl (fun c4 => absurd (c4.symm.trans (qm)) (by decide)) (fun c4 => ?_)
  refine Wp.seg 2 (pc1 := 26) (ls1 := [some (.ref 0), some (.int (k)), some (.int (l)), some (.int (m)), none]) (st1 := [.int (l), .int (m)]) rfl ?_
  refine Wp.if2 rfl (fun c5 => ?_) (fun c5 => absurd (lm) c5)
  refine Wp.seg 1 (pc1 := 32) (ls1 := [some (.ref 0), some (.int (k)), some (.int (l)), some (.int (m)), none]) (st1 := [.ref 0]) rfl ?_
  refine Wp.gr (t := (10, 0)) (v := some (1)) rfl (WF.t hw 0 rfl) rfl (WF.r hw 0 0 0 rfl) ?_
  show Wp d 131 35 [some (.ref 0), some (.int (k)), some (.int (l)), some (.int (m)), none] [.ref 1] h Q
  refine Wp.invV (d2 := 0) (as := [.ref 1]) (r := []) (t := (1, 0)) rfl rfl rfl rfl (WF.t hw 1 rfl) rfl rfl ⟨rfl, rfl⟩ (by omega) (s_rcount hw hc (eg ▸ ?_))
  show Wp d 131 38 [some (.ref 0), some (.int (k)), some (.int (l)), some (.int (m)), none] [.int (Int32.ofNat g)] h Q
  refine Wp.seg 3 (pc1 := 44) (ls1 := [some (.ref 0), some (.int (k)), some (.int (l)), some (.int (m)), some (.int (Int32.ofNat g))]) (st1 := [.int (6), .int (Int32.ofNat g)]) rfl ?_
  refine Wp.if2 rfl (fun c6 => absurd c6 (cg6)) (fun c6 => ?_)
  refine Wp.seg 1 (pc1 := 49) (ls1 := [some (.ref 0), some (.int (k)), some (.int (l)), some (.int (m)), some (.int (Int32.ofNat g))]) (st1 := [.int (-2)]) rfl ?_
  exact Wp.reti rfl rfl hQ
set_option maxHeartbeats 4000000 in
theorem t_crp3 {d : Nat} {Q : KO → Prop} {h : KH} (hw : WF h) {k l m : Int32} (k0 : ¬ (k < 0)) (k1 : ¬ ((16 : Int32) ≤ k)) (ql : inB l 0 11 = true) (qm : inB m 0 11 = true) (lm : l ≤ m) {RP : List (Nat × Nat × Nat)} (hc : crep h RP (h.2.1 1 11)) {g : Nat} (eg : RP.length = g) (cg6 : Int32.ofNat g < 6) (hd : 2 ≤ d) (hQ : Wp d 131 54 ([some (.ref 0), some (.int (k)), some (.int (l)), some (.int (m)), some (.int (Int32.ofNat g))]) [.ref 1] h Q) : Cl d 131 [.ref 0, .int (k), .int (l), .int (m)] h Q := by
  refine Cl.of (ls := [some (.ref 0), some (.int (k)), some (.int (l)), some (.int (m)), none]) rfl rfl ?_
  refine Wp.seg 1 (pc1 := 1) (ls1 := [some (.ref 0), some (.int (k)), some (.int (l)), some (.int (m)), none]) (st1 := [.int (k)]) rfl ?_
  refine Wp.if1 rfl (fun c1 => absurd c1 (k0)) (fun c1 => ?_)
  refine Wp.seg 2 (pc1 := 7) (ls1 := [some (.ref 0), some (.int (k)), some (.int (l)), some (.int (m)), none]) (st1 := [.int (16), .int (k)]) rfl ?_
  refine Wp.if2 rfl (fun c2 => absurd c2 (k1)) (fun c2 => ?_)
  refine Wp.seg 1 (pc1 := 11) (ls1 := [some (.ref 0), some (.int (k)), some (.int (l)), some (.int (m)), none]) (st1 := [.int (l)]) rfl ?_
  refine Wp.inv (d2 := 0) (as := [.int (l)]) (r := []) rfl rfl rfl rfl rfl rfl (by omega) (s_b104 ?_)
  show Wp d 131 14 [some (.ref 0), some (.int (k)), some (.int (l)), some (.int (m)), none] [.int (b32 (inB l 0 11))] h Q
  refine Wp.ifz rfl (fun c3 => absurd (c3.symm.trans (ql)) (by decide)) (fun c3 => ?_)
  refine Wp.seg 1 (pc1 := 18) (ls1 := [some (.ref 0), some (.int (k)), some (.int (l)), some (.int (m)), none]) (st1 := [.int (m)]) rfl ?_
  refine Wp.inv (d2 := 0) (as := [.int (m)]) (r := []) rfl rfl rfl rfl rfl rfl (by omega) (s_b104 ?_)
  show Wp d 131 21 [some (.ref 0), some (.int (k)), some (.int (l)), some (.int (m)), none] [.int (b32 (inB m 0 11))] h Q
  refine Wp.ifz rfl (fun c4 => absurd (c4.symm.trans (qm)) (by decide)) (fun c4 => ?_)
  refine Wp.seg 2 (pc1 := 26) (ls1 := [some (.ref 0), some (.int (k)), some (.int (l)), some (.int (m)), none]) (st1 := [.int (l), .int (m)]) rfl ?_
  refine Wp.if2 rfl (fun c5 => ?_) (fun c5 => absurd (lm) c5)
  refine Wp.seg 1 (pc1 := 32) (ls1 := [some (.ref 0), some (.int (k)), some (.int (l)), some (.int (m)), none]) (st1 := [.ref 0]) rfl ?_
  refine Wp.gr (t := (10, 0)) (v := some (1)) rfl (WF.t hw 0 rfl) rfl (WF.r hw 0 0 0 rfl) ?_
  show Wp d 131 35 [some (.ref 0), some (.int (k)), some (.int (l)), some (.int (m)), none] [.ref 1] h Q
  refine Wp.invV (d2 := 0) (as := [.ref 1]) (r := []) (t := (1, 0)) rfl rfl rfl rfl (WF.t hw 1 rfl) rfl rfl ⟨rfl, rfl⟩ (by omega) (s_rcount hw hc (eg ▸ ?_))
  show Wp d 131 38 [some (.ref 0), some (.int (k)), some (.int (l)), some (.int (m)), none] [.int (Int32.ofNat g)] h Q
  refine Wp.seg 3 (pc1 := 44) (ls1 := [some (.ref 0), some (.int (k)), some (.int (l)), some (.int (m)), some (.int (Int32.ofNat g))]) (st1 := [.int (6), .int (Int32.ofNat g)]) rfl ?_
  refine Wp.if2 rfl (fun c6 => ?_) (fun c6 => absurd (cg6) c6)
  refine Wp.seg 1 (pc1 := 51) (ls1 := [some (.ref 0), some (.int (k)), some (.int (l)), some (.int (m)), some (.int (Int32.ofNat g))]) (st1 := [.ref 0]) rfl ?_
  refine Wp.gr (t := (10, 0)) (v := some (1)) rfl (WF.t hw 0 rfl) rfl (WF.r hw 0 0 0 rfl) ?_
  show Wp d 131 54 [some (.ref 0), some (.int (k)), some (.int (l)), some (.int (m)), some (.int (Int32.ofNat g))] [.ref 1] h Q
  exact hQ
set_option maxHeartbeats 4000000 in
theorem t_crp4 {d : Nat} {Q : KO → Prop} {h : KH} (hw : WF h) {o : Nat} {k l m g : Int32} {v : Option Nat} (ho : h.1 o = (7, 0)) (hv : h.2.1 1 11 = v) (hd : 2 ≤ d) (hQ : Q (some (.int (g)), kwr (kwr (kwi (kwi (kwi (kwi h o 0 g) o 1 k) o 2 l) o 3 m) o 4 v) 1 11 (some o))) : Wp d 131 57 [some (.ref 0), some (.int (k)), some (.int (l)), some (.int (m)), some (.int (g))] [.ref o, .ref 1] h Q := by
  refine Wp.seg 6 (pc1 := 64) (ls1 := [some (.ref 0), some (.int (k)), some (.int (l)), some (.int (m)), some (.int (g))]) (st1 := [.ref 0, .int (m), .int (l), .int (k), .int (g), .ref o, .ref o, .ref 1]) rfl ?_
  refine Wp.gr (t := (10, 0)) (v := some (1)) rfl (WF.t hw 0 rfl) rfl (WF.r hw 0 0 0 rfl) ?_
  show Wp d 131 67 [some (.ref 0), some (.int (k)), some (.int (l)), some (.int (m)), some (.int (g))] [.ref 1, .int (m), .int (l), .int (k), .int (g), .ref o, .ref o, .ref 1] h Q
  refine Wp.gr (t := (1, 0)) (v := v) rfl (WF.t hw 1 rfl) rfl hv ?_
  show Wp d 131 70 [some (.ref 0), some (.int (k)), some (.int (l)), some (.int (m)), some (.int (g))] [krv (v), .int (m), .int (l), .int (k), .int (g), .ref o, .ref o, .ref 1] h Q
  refine Wp.inv (d2 := 1) (as := [.ref o, .int (g), .int (k), .int (l), .int (m), krv (v)]) (r := [.ref o, .ref 1]) rfl rfl rfl rfl rfl rfl (by omega) (t_rinit ho (Nat.le_refl _) ?_)
  show Wp d 131 73 [some (.ref 0), some (.int (k)), some (.int (l)), some (.int (m)), some (.int (g))] [.ref o, .ref 1] (kwr (kwi (kwi (kwi (kwi h o 0 g) o 1 k) o 2 l) o 3 m) o 4 v) Q
  refine Wp.pr (t := (1, 0)) rfl (WF.t hw 1 rfl) rfl ?_
  refine Wp.seg 1 (pc1 := 78) (ls1 := [some (.ref 0), some (.int (k)), some (.int (l)), some (.int (m)), some (.int (g))]) (st1 := [.int (g)]) rfl ?_
  exact Wp.reti rfl rfl hQ
set_option maxHeartbeats 4000000 in
theorem t_mrp1 {d : Nat} {Q : KO → Prop} {h : KH} (hw : WF h) {k l m : Int32} (hd : 2 ≤ d) (hQ : ((inB k 0 15) = false → Q (some (.int (-1)), h)) ∧ ((inB k 0 15) = true → ((inB l 0 11) = false → Q (some (.int (-1)), h)) ∧ ((inB l 0 11) = true → ((inB m (l.toInt) 11) = true → Wp d 249 29 ([some (.ref 59), some (.int (k)), some (.int (l)), some (.int (m)), none]) [] h Q) ∧ ((inB m (l.toInt) 11) = false → Q (some (.int (-1)), h))))) : Cl d 249 [.ref 59, .int (k), .int (l), .int (m)] h Q := by
  refine Cl.of (ls := [some (.ref 59), some (.int (k)), some (.int (l)), some (.int (m)), none]) rfl rfl ?_
  refine Wp.seg 3 (pc1 := 4) (ls1 := [some (.ref 59), some (.int (k)), some (.int (l)), some (.int (m)), none]) (st1 := [.int (15), .int (0), .int (k)]) rfl ?_
  refine Wp.inv (d2 := 0) (as := [.int (k), .int (0), .int (15)]) (r := []) rfl rfl rfl rfl rfl rfl (by omega) (s_inB (x := 0) (y := 15) rfl rfl ?_)
  show Wp d 249 7 [some (.ref 59), some (.int (k)), some (.int (l)), some (.int (m)), none] [.int (b32 (inB k 0 15))] h Q
  refine Wp.ifz rfl (fun (c1 : (inB k 0 15) = false) => ?_) (fun (c1 : (inB k 0 15) = true) => ?_)
  · refine Wp.seg 1 (pc1 := 28) (ls1 := [some (.ref 59), some (.int (k)), some (.int (l)), some (.int (m)), none]) (st1 := [.int (-1)]) rfl ?_
    exact Wp.reti rfl rfl (hQ.1 c1)
  · refine Wp.seg 1 (pc1 := 11) (ls1 := [some (.ref 59), some (.int (k)), some (.int (l)), some (.int (m)), none]) (st1 := [.int (l)]) rfl ?_
    refine Wp.inv (d2 := 1) (as := [.int (l)]) (r := []) rfl rfl rfl rfl rfl rfl (by omega) (s_b176 (Nat.le_refl _) ?_)
    show Wp d 249 14 [some (.ref 59), some (.int (k)), some (.int (l)), some (.int (m)), none] [.int (b32 (inB l 0 11))] h Q
    refine Wp.ifz rfl (fun (c2 : (inB l 0 11) = false) => ?_) (fun (c2 : (inB l 0 11) = true) => ?_)
    · refine Wp.seg 1 (pc1 := 28) (ls1 := [some (.ref 59), some (.int (k)), some (.int (l)), some (.int (m)), none]) (st1 := [.int (-1)]) rfl ?_
      exact Wp.reti rfl rfl ((hQ.2 c1).1 c2)
    · refine Wp.seg 3 (pc1 := 21) (ls1 := [some (.ref 59), some (.int (k)), some (.int (l)), some (.int (m)), none]) (st1 := [.int (11), .int (l), .int (m)]) rfl ?_
      refine Wp.inv (d2 := 0) (as := [.int (m), .int (l), .int (11)]) (r := []) rfl rfl rfl rfl rfl rfl (by omega) (s_inB (x := l.toInt) (y := 11) rfl rfl ?_)
      show Wp d 249 24 [some (.ref 59), some (.int (k)), some (.int (l)), some (.int (m)), none] [.int (b32 (inB m (l.toInt) 11))] h Q
      refine Wp.ifnz rfl (fun (c3 : (inB m (l.toInt) 11) = true) => ?_) (fun (c3 : (inB m (l.toInt) 11) = false) => ?_)
      · exact (((hQ.2 c1).2 c2).1 c3)
      · refine Wp.seg 1 (pc1 := 28) (ls1 := [some (.ref 59), some (.int (k)), some (.int (l)), some (.int (m)), none]) (st1 := [.int (-1)]) rfl ?_
        exact Wp.reti rfl rfl (((hQ.2 c1).2 c2).2 c3)
theorem i35 (g j : Nat) : (35 : Int32) + (3 : Int32) * Int32.ofNat g + Int32.ofNat j = Int32.ofNat (35 + 3 * g + j) := by
  rw [show (35 : Int32) = Int32.ofNat 35 from rfl, show (3 : Int32) = Int32.ofNat 3 from rfl, ← Int32.ofNat_mul, ← Int32.ofNat_add, ← Int32.ofNat_add]
theorem i35' (g : Nat) : (35 : Int32) + (3 : Int32) * Int32.ofNat g = Int32.ofNat (35 + 3 * g) := by
  rw [show (35 : Int32) = Int32.ofNat 35 from rfl, show (3 : Int32) = Int32.ofNat 3 from rfl, ← Int32.ofNat_mul, ← Int32.ofNat_add]
set_option maxHeartbeats 4000000 in
theorem t_mrp2 {d : Nat} {Q : KO → Prop} {h : KH} (hw : WF h) {k l m : Int32} (qk : inB k 0 15 = true) (ql : inB l 0 11 = true) (qm : inB m l.toInt 11 = true) {g : Nat} (hg : g ≤ 6) (h9 : h.2.2.1 60 9 = Int32.ofNat g) (cg6 : Int32.ofNat g = 6) (hd : 2 ≤ d) (hQ : Q (some (.int (-2)), h)) : Cl d 249 [.ref 59, .int (k), .int (l), .int (m)] h Q := by
  refine Cl.of (ls := [some (.ref 59), some (.int (k)), some (.int (l)), some (.int (m)), none]) rfl rfl ?_
  refine Wp.seg 3 (pc1 := 4) (ls1 := [some (.ref 59), some (.int (k)), some (.int (l)), some (.int (m)), none]) (st1 := [.int (15), .int (0), .int (k)]) rfl ?_
  refine Wp.inv (d2 := 0) (as := [.int (k), .int (0), .int (15)]) (r := []) rfl rfl rfl rfl rfl rfl (by omega) (s_inB (x := 0) (y := 15) rfl rfl ?_)
  show Wp d 249 7 [some (.ref 59), some (.int (k)), some (.int (l)), some (.int (m)), none] [.int (b32 (inB k 0 15))] h Q
  refine Wp.ifz rfl (fun c1 => absurd (c1.symm.trans (qk)) (by decide)) (fun c1 => ?_)
  refine Wp.seg 1 (pc1 := 11) (ls1 := [some (.ref 59), some (.int (k)), some (.int (l)), some (.int (m)), none]) (st1 := [.int (l)]) rfl ?_
  refine Wp.inv (d2 := 1) (as := [.int (l)]) (r := []) rfl rfl rfl rfl rfl rfl (by omega) (s_b176 (Nat.le_refl _) ?_)
  show Wp d 249 14 [some (.ref 59), some (.int (k)), some (.int (l)), some (.int (m)), none] [.int (b32 (inB l 0 11))] h Q
  refine Wp.ifz rfl (fun c2 => absurd (c2.symm.trans (ql)) (by decide)) (fun c2 => ?_)
  refine Wp.seg 3 (pc1 := 21) (ls1 := [some (.ref 59), some (.int (k)), some (.int (l)), some (.int (m)), none]) (st1 := [.int (11), .int (l), .int (m)]) rfl ?_
  refine Wp.inv (d2 := 0) (as := [.int (m), .int (l), .int (11)]) (r := []) rfl rfl rfl rfl rfl rfl (by omega) (s_inB (x := l.toInt) (y := 11) rfl rfl ?_)
  show Wp d 249 24 [some (.ref 59), some (.int (k)), some (.int (l)), some (.int (m)), none] [.int (b32 (inB m (l.toInt) 11))] h Q
  refine Wp.ifnz rfl (fun c3 => ?_) (fun c3 => absurd (c3.symm.trans (qm)) (by decide))
  refine Wp.seg 1 (pc1 := 30) (ls1 := [some (.ref 59), some (.int (k)), some (.int (l)), some (.int (m)), none]) (st1 := [.ref 59]) rfl ?_
  refine Wp.gr (t := (11, 0)) (v := some (60)) rfl (WF.t hw 59 rfl) rfl (WF.r hw 59 0 58 rfl) ?_
  show Wp d 249 33 [some (.ref 59), some (.int (k)), some (.int (l)), some (.int (m)), none] [.ref 60] h Q
  refine Wp.seg 1 (pc1 := 35) (ls1 := [some (.ref 59), some (.int (k)), some (.int (l)), some (.int (m)), none]) (st1 := [.int (9), .ref 60]) rfl ?_
  refine Wp.iald (j := 9) (k := 20) (n := 585) rfl (WF.t hw 60 rfl) rfl rfl (by decide) (by decide) ?_
  rw [show h.2.2.1 60 9 = Int32.ofNat g from h9]
  refine Wp.seg 3 (pc1 := 42) (ls1 := [some (.ref 59), some (.int (k)), some (.int (l)), some (.int (m)), some (.int (Int32.ofNat g))]) (st1 := [.int (6), .int (Int32.ofNat g)]) rfl ?_
  refine Wp.if2 rfl (fun c4 => absurd c4 (fun z => z cg6)) (fun c4 => ?_)
  refine Wp.seg 1 (pc1 := 47) (ls1 := [some (.ref 59), some (.int (k)), some (.int (l)), some (.int (m)), some (.int (Int32.ofNat g))]) (st1 := [.int (-2)]) rfl ?_
  exact Wp.reti rfl rfl hQ
set_option maxHeartbeats 4000000 in
theorem t_mrp3 {d : Nat} {Q : KO → Prop} {h : KH} (hw : WF h) {k l m : Int32} (qk : inB k 0 15 = true) (ql : inB l 0 11 = true) (qm : inB m l.toInt 11 = true) {g : Nat} (hg : g ≤ 6) (h9 : h.2.2.1 60 9 = Int32.ofNat g) (cg6 : ¬ (Int32.ofNat g = 6)) (g5 : g < 6) (hd : 2 ≤ d) (hQ : Q (some (.int (Int32.ofNat g)), kwi (kwi (kwi (kwi h 60 9 ((Int32.ofNat g) + (1 : Int32))) 60 ((35 + 3 * g)) k) 60 ((35 + 3 * g + 1)) l) 60 ((35 + 3 * g + 2)) m)) : Cl d 249 [.ref 59, .int (k), .int (l), .int (m)] h Q := by
  refine Cl.of (ls := [some (.ref 59), some (.int (k)), some (.int (l)), some (.int (m)), none]) rfl rfl ?_
  refine Wp.seg 3 (pc1 := 4) (ls1 := [some (.ref 59), some (.int (k)), some (.int (l)), some (.int (m)), none]) (st1 := [.int (15), .int (0), .int (k)]) rfl ?_
  refine Wp.inv (d2 := 0) (as := [.int (k), .int (0), .int (15)]) (r := []) rfl rfl rfl rfl rfl rfl (by omega) (s_inB (x := 0) (y := 15) rfl rfl ?_)
  show Wp d 249 7 [some (.ref 59), some (.int (k)), some (.int (l)), some (.int (m)), none] [.int (b32 (inB k 0 15))] h Q
  refine Wp.ifz rfl (fun c1 => absurd (c1.symm.trans (qk)) (by decide)) (fun c1 => ?_)
  refine Wp.seg 1 (pc1 := 11) (ls1 := [some (.ref 59), some (.int (k)), some (.int (l)), some (.int (m)), none]) (st1 := [.int (l)]) rfl ?_
  refine Wp.inv (d2 := 1) (as := [.int (l)]) (r := []) rfl rfl rfl rfl rfl rfl (by omega) (s_b176 (Nat.le_refl _) ?_)
  show Wp d 249 14 [some (.ref 59), some (.int (k)), some (.int (l)), some (.int (m)), none] [.int (b32 (inB l 0 11))] h Q
  refine Wp.ifz rfl (fun c2 => absurd (c2.symm.trans (ql)) (by decide)) (fun c2 => ?_)
  refine Wp.seg 3 (pc1 := 21) (ls1 := [some (.ref 59), some (.int (k)), some (.int (l)), some (.int (m)), none]) (st1 := [.int (11), .int (l), .int (m)]) rfl ?_
  refine Wp.inv (d2 := 0) (as := [.int (m), .int (l), .int (11)]) (r := []) rfl rfl rfl rfl rfl rfl (by omega) (s_inB (x := l.toInt) (y := 11) rfl rfl ?_)
  show Wp d 249 24 [some (.ref 59), some (.int (k)), some (.int (l)), some (.int (m)), none] [.int (b32 (inB m (l.toInt) 11))] h Q
  refine Wp.ifnz rfl (fun c3 => ?_) (fun c3 => absurd (c3.symm.trans (qm)) (by decide))
  refine Wp.seg 1 (pc1 := 30) (ls1 := [some (.ref 59), some (.int (k)), some (.int (l)), some (.int (m)), none]) (st1 := [.ref 59]) rfl ?_
  refine Wp.gr (t := (11, 0)) (v := some (60)) rfl (WF.t hw 59 rfl) rfl (WF.r hw 59 0 58 rfl) ?_
  show Wp d 249 33 [some (.ref 59), some (.int (k)), some (.int (l)), some (.int (m)), none] [.ref 60] h Q
  refine Wp.seg 1 (pc1 := 35) (ls1 := [some (.ref 59), some (.int (k)), some (.int (l)), some (.int (m)), none]) (st1 := [.int (9), .ref 60]) rfl ?_
  refine Wp.iald (j := 9) (k := 20) (n := 585) rfl (WF.t hw 60 rfl) rfl rfl (by decide) (by decide) ?_
  rw [show h.2.2.1 60 9 = Int32.ofNat g from h9]
  refine Wp.seg 3 (pc1 := 42) (ls1 := [some (.ref 59), some (.int (k)), some (.int (l)), some (.int (m)), some (.int (Int32.ofNat g))]) (st1 := [.int (6), .int (Int32.ofNat g)]) rfl ?_
  refine Wp.if2 rfl (fun c4 => ?_) (fun c4 => absurd (cg6) c4)
  refine Wp.seg 1 (pc1 := 49) (ls1 := [some (.ref 59), some (.int (k)), some (.int (l)), some (.int (m)), some (.int (Int32.ofNat g))]) (st1 := [.ref 59]) rfl ?_
  refine Wp.gr (t := (11, 0)) (v := some (60)) rfl (WF.t hw 59 rfl) rfl (WF.r hw 59 0 58 rfl) ?_
  show Wp d 249 52 [some (.ref 59), some (.int (k)), some (.int (l)), some (.int (m)), some (.int (Int32.ofNat g))] [.ref 60] h Q
  refine Wp.seg 2 (pc1 := 55) (ls1 := [some (.ref 59), some (.int (k)), some (.int (l)), some (.int (m)), some (.int (Int32.ofNat g))]) (st1 := [.int (9), .ref 60, .int (9), .ref 60]) rfl ?_
  refine Wp.iald (j := 9) (k := 20) (n := 585) rfl (WF.t hw 60 rfl) rfl rfl (by decide) (by decide) ?_
  rw [show h.2.2.1 60 9 = Int32.ofNat g from h9]
  refine Wp.seg 2 (pc1 := 58) (ls1 := [some (.ref 59), some (.int (k)), some (.int (l)), some (.int (m)), some (.int (Int32.ofNat g))]) (st1 := [.int ((Int32.ofNat g) + (1 : Int32)), .int (9), .ref 60]) rfl ?_
  refine Wp.iast (j := 9) (n := 585) rfl (WF.t hw 60 rfl) rfl (by decide) (by decide) ?_
  refine Wp.seg 1 (pc1 := 60) (ls1 := [some (.ref 59), some (.int (k)), some (.int (l)), some (.int (m)), some (.int (Int32.ofNat g))]) (st1 := [.ref 59]) rfl ?_
  refine Wp.gr (t := (11, 0)) (v := some (60)) rfl (WF.t hw 59 rfl) rfl (WF.r hw 59 0 58 rfl) ?_
  show Wp d 249 63 [some (.ref 59), some (.int (k)), some (.int (l)), some (.int (m)), some (.int (Int32.ofNat g))] [.ref 60] (kwi h 60 9 ((Int32.ofNat g) + (1 : Int32))) Q
  refine Wp.seg 6 (pc1 := 71) (ls1 := [some (.ref 59), some (.int (k)), some (.int (l)), some (.int (m)), some (.int (Int32.ofNat g))]) (st1 := [.int (k), .int ((35 : Int32) + ((3 : Int32) * (Int32.ofNat g))), .ref 60]) rfl ?_
  refine Wp.iast (j := (35 + 3 * g)) (n := 585) rfl (WF.t hw 60 rfl) (i35' g) (by omega) (by decide) ?_
  refine Wp.seg 1 (pc1 := 73) (ls1 := [some (.ref 59), some (.int (k)), some (.int (l)), some (.int (m)), some (.int (Int32.ofNat g))]) (st1 := [.ref 59]) rfl ?_
  refine Wp.gr (t := (11, 0)) (v := some (60)) rfl (WF.t hw 59 rfl) rfl (WF.r hw 59 0 58 rfl) ?_
  show Wp d 249 76 [some (.ref 59), some (.int (k)), some (.int (l)), some (.int (m)), some (.int (Int32.ofNat g))] [.ref 60] (kwi (kwi h 60 9 ((Int32.ofNat g) + (1 : Int32))) 60 ((35 + 3 * g)) k) Q
  refine Wp.seg 8 (pc1 := 86) (ls1 := [some (.ref 59), some (.int (k)), some (.int (l)), some (.int (m)), some (.int (Int32.ofNat g))]) (st1 := [.int (l), .int (((35 : Int32) + ((3 : Int32) * (Int32.ofNat g))) + (1 : Int32)), .ref 60]) rfl ?_
  refine Wp.iast (j := (35 + 3 * g + 1)) (n := 585) rfl (WF.t hw 60 rfl) (i35 g 1) (by omega) (by decide) ?_
  refine Wp.seg 1 (pc1 := 88) (ls1 := [some (.ref 59), some (.int (k)), some (.int (l)), some (.int (m)), some (.int (Int32.ofNat g))]) (st1 := [.ref 59]) rfl ?_
  refine Wp.gr (t := (11, 0)) (v := some (60)) rfl (WF.t hw 59 rfl) rfl (WF.r hw 59 0 58 rfl) ?_
  show Wp d 249 91 [some (.ref 59), some (.int (k)), some (.int (l)), some (.int (m)), some (.int (Int32.ofNat g))] [.ref 60] (kwi (kwi (kwi h 60 9 ((Int32.ofNat g) + (1 : Int32))) 60 ((35 + 3 * g)) k) 60 ((35 + 3 * g + 1)) l) Q
  refine Wp.seg 8 (pc1 := 101) (ls1 := [some (.ref 59), some (.int (k)), some (.int (l)), some (.int (m)), some (.int (Int32.ofNat g))]) (st1 := [.int (m), .int (((35 : Int32) + ((3 : Int32) * (Int32.ofNat g))) + (2 : Int32)), .ref 60]) rfl ?_
  refine Wp.iast (j := (35 + 3 * g + 2)) (n := 585) rfl (WF.t hw 60 rfl) (i35 g 2) (by omega) (by decide) ?_
  refine Wp.seg 1 (pc1 := 104) (ls1 := [some (.ref 59), some (.int (k)), some (.int (l)), some (.int (m)), some (.int (Int32.ofNat g))]) (st1 := [.int (Int32.ofNat g)]) rfl ?_
  exact Wp.reti rfl rfl hQ
theorem mrep_low {S T : Nat → Int32} : ∀ (RP : List (Nat × Nat × Nat)), (∀ i, 35 ≤ i → i < 35 + 3 * RP.length → T i = S i) → mrep S RP → mrep T RP
  | [], _, _ => trivial
  | (a, l, m) :: r, e, hr => by
    have e' : ∀ i, 35 ≤ i → i < 35 + 3 * (r.length + 1) → T i = S i := e
    obtain ⟨p1, p2, p3, p4⟩ := hr
    exact ⟨by rw [e' _ (by omega) (by omega)]; exact p1, by rw [e' _ (by omega) (by omega)]; exact p2, by rw [e' _ (by omega) (by omega)]; exact p3, p4.1, p4.2.1, p4.2.2.1, mrep_low r (fun i h1 h2 => e' i h1 (by omega)) p4.2.2.2⟩
/-- other reports, the rest kept -/
theorem rep_inv {h k : KH} (hi : Inv h) (ff : Fr (fun c => c = 60) (fun c => c = 1) h k) (n10 : k.2.1 1 10 = h.2.1 1 10) (es : ∀ i, (i < 9 ∨ (10 ≤ i ∧ i < 35) ∨ 53 ≤ i) → k.2.2.1 60 i = h.2.2.1 60 i) {RP : List (Nat × Nat × Nat)} (hr : reps k (k.2.1 1 11) (k.2.2.1 60) RP) : Inv k := by
  obtain ⟨hw, ⟨A, RL, n, c, dn, en, RP0, hb, hr0⟩, ho, hf⟩ := hi
  obtain ⟨⟨c1, c2, RLc, c3, c4⟩, m1, m2, m3⟩ := hb
  have e : cS k.2.2.1 1 = cS h.2.2.1 1 := by
    unfold cS
    rw [ff.2.2.1 1 (Or.inl (by decide)), ff.2.2.1 (1 + 1) (Or.inl (by decide))]
  have ag : agr (h.2.2.1 60) (k.2.2.1 60) := fun m hm => (es m (by omega)).symm
  refine ⟨ff.wf hw (by decide), ⟨A, RL, n, c, dn, en, RP, ⟨⟨by rw [e]; exact c1, by rw [e]; exact c2, RLc, crul_fr ff n10 c3, c4⟩, (agr_nrm ag).symm.trans m1, okS_agr ag m2, rulesS_congr (fun m hm => es m (by omega)) (es 10 (by omega)) m3⟩, hr⟩, oth_kept ho ff (fun c z => ?_) (fun i hi => ?_) (fun i hi => ?_) ?_, ?_⟩
  · unfold pU pQ
    omega
  · rw [ff.2.2.1 0 (Or.inl (by decide))]
  · rw [ff.2.2.1 59 (Or.inl (by decide))]
  · have o1 := ho.1
    unfold keptOK at o1 ⊢
    rw [ff.2.2.1 0 (Or.inl (by decide)), ff.2.2.1 59 (Or.inl (by decide)), ff.2.2.1 61 (Or.inl (by decide)), ff.2.2.2 4 11 (Or.inl (Or.inl (by decide)))]
    rcases o1 with o1 | ⟨a1, a2, A4, RL4, n4, c4, dn4, en4, RP4, a3, a4, a5⟩
    · exact Or.inl o1
    · exact Or.inr ⟨a1, a2, A4, RL4, n4, c4, dn4, en4, RP4, city_fr a3 ff (by decide) (by decide) (by decide), a4, reps_fr a5 ff (fun _ _ => rfl)⟩
  · intro a ha o e
    rw [ff.2.1]
    rcases ha with rfl | rfl
    · rw [n10] at e
      exact hf 1 (Or.inl rfl) o e
    · rw [ff.2.2.2 4 10 (Or.inl (Or.inl (by decide)))] at e
      exact hf 4 (Or.inr rfl) o e
/-- the report is made on both sides -/
theorem J_report {h : KH} (hi : Inv h) (hn : h.2.2.2.2.1 < 800000000) (k l m : Int32) : JI h 131 [.ref 0, .int k, .int l, .int m] 249 [.ref 59, .int k, .int l, .int m] := by
  have hw := hi.1
  have bad : (¬ (inB k 0 15 = true ∧ inB l 0 11 = true ∧ inB m l.toInt 11 = true)) → JI h 131 [.ref 0, .int k, .int l, .int m] 249 [.ref 59, .int k, .int l, .int m] := fun no => by
    refine JI_same (v := -1) (dc := 2) (dm := 2) hi (t_crp1 hw (Nat.le_refl _) ⟨fun _ => rfl, fun k0 => ⟨fun _ => rfl, fun k1 => ⟨fun _ => rfl, fun ql => ⟨fun _ => rfl, fun qm => ⟨fun lm => absurd ?_ no, fun _ => rfl⟩⟩⟩⟩⟩) (t_mrp1 hw (Nat.le_refl _) ⟨fun _ => rfl, fun qk => ⟨fun _ => rfl, fun ql => ⟨fun qm => absurd ⟨qk, ql, qm⟩ no, fun _ => rfl⟩⟩⟩)
    have a1 := i32F (rfl : k.toInt = k.toInt) (show (0 : Int32).toInt = 0 from rfl) k0
    have a2 := i32G (show (16 : Int32).toInt = 16 from rfl) (rfl : k.toInt = k.toInt) k1
    have a3 := i32L (rfl : l.toInt = l.toInt) (rfl : m.toInt = m.toInt) lm
    have a4 : 0 ≤ m.toInt ∧ m.toInt ≤ 11 := of_decide_eq_true qm
    exact ⟨inB_t (by omega), ql, inB_t (by omega)⟩
  by_cases no : ¬ (inB k 0 15 = true ∧ inB l 0 11 = true ∧ inB m l.toInt 11 = true)
  · exact bad no
  obtain ⟨qk, ql, qm⟩ := Classical.not_not.mp no
  have b1 : 0 ≤ k.toInt ∧ k.toInt ≤ 15 := of_decide_eq_true qk
  have b2 : 0 ≤ l.toInt ∧ l.toInt ≤ 11 := of_decide_eq_true ql
  have b3 : l.toInt ≤ m.toInt ∧ m.toInt ≤ 11 := of_decide_eq_true qm
  have k0 : ¬ (k < 0) := fun c => by
    have := i32T (rfl : k.toInt = k.toInt) (show (0 : Int32).toInt = 0 from rfl) c
    omega
  have k1 : ¬ ((16 : Int32) ≤ k) := fun c => by
    have := i32L (show (16 : Int32).toInt = 16 from rfl) (rfl : k.toInt = k.toInt) c
    omega
  have qm0 : inB m 0 11 = true := inB_t (by omega)
  have lm : l ≤ m := (Int32.le_iff_toInt_le).mpr b3.1
  obtain ⟨k', hk', ek⟩ := inB_nat (b := 15) qk
  obtain ⟨l', hl', el⟩ := inB_nat (b := 11) ql
  obtain ⟨m', hm', em⟩ := inB_nat (b := 11) qm0
  have hi0 := hi
  obtain ⟨_, ⟨A, RL, n, c, dn, en, RP, hb, hr⟩, ho, hf⟩ := hi
  obtain ⟨g, eg⟩ : ∃ g, RP.length = g := ⟨_, rfl⟩
  obtain ⟨r1, r2, r3, r4⟩ := hr
  rw [eg] at r2 r3
  by_cases g6 : g = 6
  · subst g6
    exact JI_same (v := -2) (dc := 2) (dm := 2) hi0 (t_crp2 hw k0 k1 ql qm0 lm r1 eg (by decide) (Nat.le_refl _) rfl) (t_mrp2 hw qk ql qm r3 r2 (by decide) (Nat.le_refl _) rfl)
  have g5 : g < 6 := by omega
  have c6 : Int32.ofNat g < 6 := by
    rw [Int32.lt_iff_toInt_lt, znat (n := g) (by omega)]
    show (g : Int) < 6
    omega
  have d6 : ¬ (Int32.ofNat g = 6) := fun c => by
    have := congrArg Int32.toInt c
    rw [znat (n := g) (by omega)] at this
    have : (g : Int) = 6 := this
    omega
  obtain ⟨o, eo⟩ : ∃ o, h.2.2.2.2.1 = o := ⟨_, rfl⟩
  obtain ⟨v, ev⟩ : ∃ v, h.2.1 1 11 = v := ⟨_, rfl⟩
  have o75 : 75 ≤ o := by rw [← eo]; exact hw.2.2.1
  have al0 : Al h (kmake h 7 0 5) := (Al.refl h).make (by omega)
  have hw0 := al0.wf hw
  have t0 : (kmake h 7 0 5).1 o = (7, 0) := by rw [← eo]; exact ku_s _ _ _
  have v0 : (kmake h 7 0 5).2.1 1 11 = v := by rw [al0.r hw (by decide)]; exact ev
  refine ⟨Int32.ofNat g, t_crp3 hw k0 k1 ql qm0 lm r1 eg c6 (by decide) ?_⟩
  refine Wp.mk rfl (by omega) ?_
  rw [eo]
  refine t_crp4 hw0 t0 v0 (by decide) ⟨_, rfl, ?_⟩
  have al : Al h (kwr (kwi (kwi (kwi (kwi (kmake h 7 0 5) o 0 (Int32.ofNat g)) o 1 k) o 2 l) o 3 m) o 4 v) := ((((al0.kwi (by omega) (by omega)).kwi (by omega) (by omega)).kwi (by omega) (by omega)).kwi (by omega) (by omega)).kwr (by omega) (by omega)
  obtain ⟨H, eH⟩ : ∃ H, kwr (kwi (kwi (kwi (kwi (kmake h 7 0 5) o 0 (Int32.ofNat g)) o 1 k) o 2 l) o 3 m) o 4 v = H := ⟨_, rfl⟩
  have x0 : H.1 o = (7, 0) := by rw [← eH]; exact t0
  have xv : H.2.1 o 4 = v := by
    rw [← eH]
    show ku _ o (ku _ 4 v) o 4 = v
    rw [ku_s, ku_s]
  have xi : H.2.2.1 o 0 = Int32.ofNat g ∧ H.2.2.1 o 1 = k ∧ H.2.2.1 o 2 = l ∧ H.2.2.1 o 3 = m := by
    rw [← eH]
    refine ⟨?_, ?_, ?_, ?_⟩
    · exact (kwi_o (by decide)).trans ((kwi_o (by decide)).trans ((kwi_o (by decide)).trans kwi_s))
    · exact (kwi_o (by decide)).trans ((kwi_o (by decide)).trans kwi_s)
    · exact (kwi_o (by decide)).trans kwi_s
    · exact kwi_s
  have xn : H.2.2.2.2.1 = o + 1 := by rw [← eH, ← eo]; rfl
  have xs : H.2.2.2.2.2 = h.2.2.2.2.2 + 5 := by rw [← eH]; rfl
  rw [eH] at al ⊢
  have hiH := Inv_al hi0 al
  have fH : Fr noP (fun c => c = 1) H (kwr H 1 11 (some o)) := ⟨rfl, rfl, fun _ _ => rfl, fun c i hc => by
    show ku H.2.1 1 (ku (H.2.1 1) 11 (some o)) c i = _
    by_cases e : c = 1
    · subst e
      rw [ku_s]
      exact ku_n _ _ (by omega)
    · rw [ku_n _ _ e]⟩
  have hwH := hiH.1
  have hwk : WF (kwr H 1 11 (some o)) := fH.wf hwH (by decide)
  have e60 : H.2.2.1 60 = h.2.2.1 60 := al.i hw (by decide)
  refine t_mrp3 hwk qk ql qm r3 (by show H.2.2.1 60 9 = _; rw [e60]; exact r2) d6 g5 (by decide) ⟨_, rfl, ?_⟩
  have f1 : ∀ (H' : KH) j x, Fr (fun c => c = 60) noP H' (kwi H' 60 j x) := fun _ _ _ => fr_kwi rfl (by decide)
  have f60 : Fr (fun c => c = 60) noP (kwr H 1 11 (some o)) (kwi (kwi (kwi (kwi (kwr H 1 11 (some o)) 60 9 ((Int32.ofNat g) + (1 : Int32))) 60 (35 + 3 * g) k) 60 (35 + 3 * g + 1) l) 60 (35 + 3 * g + 2) m) := (f1 _ _ _).trans ((f1 _ _ _).trans ((f1 _ _ _).trans (f1 _ _ _)))
  obtain ⟨K, eK⟩ : ∃ K, kwi (kwi (kwi (kwi (kwr H 1 11 (some o)) 60 9 ((Int32.ofNat g) + (1 : Int32))) 60 (35 + 3 * g) k) 60 (35 + 3 * g + 1) l) 60 (35 + 3 * g + 2) m = K := ⟨_, rfl⟩
  have s9 : K.2.2.1 60 9 = Int32.ofNat (g + 1) := by
    rw [← eK, kwi_o (by omega), kwi_o (by omega), kwi_o (by omega), kwi_s]
    exact (Int32.ofNat_add g 1).symm
  have sk : K.2.2.1 60 (35 + 3 * g) = k := by rw [← eK, kwi_o (by omega), kwi_o (by omega), kwi_s]
  have sl : K.2.2.1 60 (35 + 3 * g + 1) = l := by rw [← eK, kwi_o (by omega), kwi_s]
  have sm : K.2.2.1 60 (35 + 3 * g + 2) = m := by rw [← eK, kwi_s]
  have so : ∀ i, i ≠ 9 → (i < 35 + 3 * g ∨ 35 + 3 * g + 2 < i) → K.2.2.1 60 i = h.2.2.1 60 i := fun i h1 h2 => by
    rw [← eK, kwi_o (by omega), kwi_o (by omega), kwi_o (by omega), kwi_o h1]
    show H.2.2.1 60 i = _
    rw [e60]
  rw [eK] at f60 ⊢
  have ff : Fr (fun c => c = 60) (fun c => c = 1) H K := (fH.mono (fun c z => absurd z (fun y => y)) (fun _ z => z)).trans (f60.mono (fun _ z => z) (fun _ z => absurd z (fun y => y)))
  have xh := reps_al al ⟨r1, by rw [eg]; exact r2, by rw [eg]; exact r3, r4⟩
  have n10 : K.2.1 1 10 = H.2.1 1 10 := by
    rw [f60.2.2.2 1 10 (Or.inl (Or.inl (fun z => z)))]
    show ku H.2.1 1 (ku (H.2.1 1) 11 (some o)) 1 10 = _
    rw [ku_s]
    exact ku_n _ _ (by decide)
  have n11 : K.2.1 1 11 = some o := by
    rw [f60.2.2.2 1 11 (Or.inl (Or.inl (fun z => z)))]
    show ku H.2.1 1 (ku (H.2.1 1) 11 (some o)) 1 11 = _
    rw [ku_s]
    exact ku_s _ _ _
  refine ⟨rep_inv (RP := (k', l', m') :: RP) hiH ff n10 (fun i hi => ?_) ⟨?_, ?_, ?_, ?_⟩, ?_, ?_, (far_al al).tr (far_fr ff)⟩
  · rw [so i (by omega) (by omega), e60]
  · rw [n11]
    refine ⟨o, rfl, o75, by rw [ff.2.1, xn]; omega, by rw [ff.1]; exact x0, ?_, ?_, ?_, ?_, ?_⟩
    · rw [ff.2.2.1 o (Or.inr o75), eg]; exact xi.1
    · rw [ff.2.2.1 o (Or.inr o75), ← ek]; exact xi.2.1
    · rw [ff.2.2.1 o (Or.inr o75), ← el]; exact xi.2.2.1
    · rw [ff.2.2.1 o (Or.inr o75), ← em]; exact xi.2.2.2
    · rw [ff.2.2.2 o 4 (Or.inl (Or.inr o75)), xv]
      have := xh.1
      rw [ev] at this
      exact crep_fr (by rw [ff.2.1]; exact Nat.le_refl _) (fun c _ _ => by rw [ff.1]) (fun c i hc _ => ff.2.2.2 c i (Or.inl (Or.inr hc))) (fun c hc _ => ff.2.2.1 c (Or.inr hc)) RP v this
  · rw [s9]
    show Int32.ofNat (g + 1) = Int32.ofNat (RP.length + 1)
    rw [eg]
  · show RP.length + 1 ≤ 6
    omega
  · refine ⟨by rw [eg, sk, ek], by rw [eg, sl, el], by rw [eg, sm, em], by omega, by omega, by omega, mrep_low RP (fun i h1 h2 => so i (by omega) (by omega)) r4⟩
  · rw [ff.2.1, xn]
    omega
  · rw [ff.2.1, xs]
    omega
set_option maxHeartbeats 4000000 in
theorem t_cfg {d : Nat} {Q : KO → Prop} {h : KH} (hw : WF h) {RP : List (Nat × Nat × Nat)} (hc : crep h RP (h.2.1 1 11)) {g : Nat} (eg : RP.length = g) (hd : 1 ≤ d) (hQ : Q (some (.int (Int32.ofNat g)), kwr h 1 11 none)) : Cl d 132 [.ref 0] h Q := by
  refine Cl.of (ls := [some (.ref 0), none]) rfl rfl ?_
  refine Wp.seg 1 (pc1 := 1) (ls1 := [some (.ref 0), none]) (st1 := [.ref 0]) rfl ?_
  refine Wp.gr (t := (10, 0)) (v := some (1)) rfl (WF.t hw 0 rfl) rfl (WF.r hw 0 0 0 rfl) ?_
  show Wp d 132 4 [some (.ref 0), none] [.ref 1] h Q
  refine Wp.invV (d2 := 0) (as := [.ref 1]) (r := []) (t := (1, 0)) rfl rfl rfl rfl (WF.t hw 1 rfl) rfl rfl ⟨rfl, rfl⟩ (by omega) (s_rcount hw hc (eg ▸ ?_))
  show Wp d 132 7 [some (.ref 0), none] [.int (Int32.ofNat g)] h Q
  refine Wp.seg 2 (pc1 := 9) (ls1 := [some (.ref 0), some (.int (Int32.ofNat g))]) (st1 := [.ref 0]) rfl ?_
  refine Wp.gr (t := (10, 0)) (v := some (1)) rfl (WF.t hw 0 rfl) rfl (WF.r hw 0 0 0 rfl) ?_
  show Wp d 132 12 [some (.ref 0), some (.int (Int32.ofNat g))] [.ref 1] h Q
  refine Wp.seg 1 (pc1 := 13) (ls1 := [some (.ref 0), some (.int (Int32.ofNat g))]) (st1 := [.null, .ref 1]) rfl ?_
  refine Wp.pn (t := (1, 0)) rfl (WF.t hw 1 rfl) rfl ?_
  refine Wp.seg 1 (pc1 := 17) (ls1 := [some (.ref 0), some (.int (Int32.ofNat g))]) (st1 := [.int (Int32.ofNat g)]) rfl ?_
  exact Wp.reti rfl rfl hQ
set_option maxHeartbeats 4000000 in
theorem t_mfg {d : Nat} {Q : KO → Prop} {h : KH} (hw : WF h) (hd : 1 ≤ d) (hQ : Q (some (.int (h.2.2.1 60 9)), kwi h 60 9 (0 : Int32))) : Cl d 250 [.ref 59] h Q := by
  refine Cl.of (ls := [some (.ref 59)]) rfl rfl ?_
  refine Wp.seg 3 (pc1 := 4) (ls1 := [some (.ref 59)]) (st1 := [.int (0), .int (9), .ref 59]) rfl ?_
  refine Wp.invV (d2 := 0) (as := [.ref 59, .int (9), .int (0)]) (r := []) (t := (11, 0)) rfl rfl rfl rfl (WF.t hw 59 rfl) rfl rfl ⟨rfl, rfl⟩ (by omega) (s_becomes hw (i := 9) rfl (by decide) ?_)
  show Wp d 250 7 [some (.ref 59)] [.int (h.2.2.1 60 9)] (kwi h 60 9 (0 : Int32)) Q
  exact Wp.reti rfl rfl hQ
theorem J_forget {h : KH} (hi : Inv h) : JI h 132 [.ref 0] 250 [.ref 59] := by
  have hw := hi.1
  obtain ⟨_, ⟨A, RL, n, c, dn, en, RP, hb, hr⟩, ho, hf⟩ := id hi
  refine ⟨Int32.ofNat RP.length, t_cfg hw hr.1 rfl (by decide) ⟨_, rfl, ?_⟩⟩
  have fH : Fr noP (fun c => c = 1) h (kwr h 1 11 none) := ⟨rfl, rfl, fun _ _ => rfl, fun c i hc => by
    show ku h.2.1 1 (ku (h.2.1 1) 11 none) c i = _
    by_cases e : c = 1
    · subst e
      rw [ku_s]
      exact ku_n _ _ (by omega)
    · rw [ku_n _ _ e]⟩
  have f60 : Fr (fun c => c = 60) noP (kwr h 1 11 none) (kwi (kwr h 1 11 none) 60 9 0) := fr_kwi rfl (by decide)
  refine t_mfg (fH.wf hw (by decide)) (by decide) ?_
  have ff : Fr (fun c => c = 60) (fun c => c = 1) h (kwi (kwr h 1 11 none) 60 9 0) := (fH.mono (fun c z => absurd z (fun y => y)) (fun _ z => z)).trans (f60.mono (fun _ z => z) (fun _ z => absurd z (fun y => y)))
  rw [show (kwr h 1 11 none).2.2.1 60 9 = Int32.ofNat RP.length from hr.2.1]
  refine ⟨_, rfl, rep_inv (RP := []) hi ff ?_ (fun i hi => ?_) ⟨?_, kwi_s, by decide, trivial⟩, ?_, ?_, far_fr ff⟩
  · show ku h.2.1 1 (ku (h.2.1 1) 11 none) 1 10 = _
    rw [ku_s]
    exact ku_n _ _ (by decide)
  · exact kwi_o (by omega)
  · show ku h.2.1 1 (ku (h.2.1 1) 11 none) 1 11 = _
    rw [ku_s]
    exact ku_s _ _ _
  · exact Nat.le_add_right _ _
  · exact Nat.le_add_right _ _
