/-! KM: the reference, a hand walks; sets are counted -/
/-- the reference's array is another one -/
def hS (h : KH) (S : Nat → Int32) : KH := (h.1, h.2.1, ku h.2.2.1 60 S, h.2.2.2)
theorem hS_w (h : KH) (j : Nat) (x : Int32) : kwi h 60 j x = hS h (ku (h.2.2.1 60) j x) := rfl
theorem hS_g (h : KH) (S : Nat → Int32) : (hS h S).2.2.1 60 = S := ku_s h.2.2.1 60 S
theorem hS_hS (h : KH) (S S2 : Nat → Int32) : hS (hS h S) S2 = hS h S2 := by
  show (h.1, h.2.1, ku (ku h.2.2.1 60 S) 60 S2, h.2.2.2) = _
  rw [ku_u]
  rfl
theorem s_ofv {d : Nat} {Q : KO → Prop} {h : KH} (hw : WF h) {n w : Nat} {wi x : Int32} (hwi : wi = Int32.ofNat w) (hj : 11 + 4 * n + w < 585) (hv : h.2.2.1 60 (11 + 4 * n + w) = x) (hQ : Q (some (.int x), h)) : Cl d 178 [.ref 59, .int (Int32.ofNat n), .int wi] h Q :=
  s_of hw hwi hj (by rw [hv]; exact hQ)
def wjS (S : Nat → Int32) (n : Nat) : Nat := 4 * (S (11 + 4 * n + 1)).toNatClampNeg + (S (11 + 4 * n + 2)).toNatClampNeg
/-- a hand walks -/
def walkS (S : Nat → Int32) (n : Nat) : Nat → Int32 :=
  if 0 ≤ kE.getD (wjS S n) 0 ∧ (S (11 + 4 * n + 0) = 5 ∨ ((S 3) >>> ((kE.getD (wjS S n) 0) &&& 31)) &&& 1 = 0) then ku S (11 + 4 * n + 1) (kN.getD (wjS S n) 0)
  else ku S (11 + 4 * n + 2) ((S (11 + 4 * n + 2) + f_turnsBy (S (11 + 4 * n + 0))) - (S (11 + 4 * n + 2) + f_turnsBy (S (11 + 4 * n + 0))) / 4 * 4)
theorem clamp_ofNat {n : Nat} (h : n < 2147483648) : (Int32.ofNat n).toNatClampNeg = n := by
  show (Int32.ofNat n).toInt.toNat = n
  rw [kofNat_toInt (by omega)]
  rfl
set_option maxHeartbeats 4000000 in
theorem t_walks {d : Nat} {Q : KO → Prop} {h : KH} (hw : WF h) {n c f : Nat} (hn : n < 6) (hc2 : c < 12) (hf2 : f < 4) (hc : h.2.2.1 60 (11 + 4 * n + 1) = Int32.ofNat c) (hf : h.2.2.1 60 (11 + 4 * n + 2) = Int32.ofNat f) (hd : 1 ≤ d) (hQ : ((kE.getD (4 * c + f) 0) < 0 → Q (none, kwi h 60 (11 + 4 * n + 2) (((Int32.ofNat f) + (f_turnsBy (h.2.2.1 60 (11 + 4 * n + 0)))) - ((Int32.ofNat f) + (f_turnsBy (h.2.2.1 60 (11 + 4 * n + 0)))) / (4 : Int32) * (4 : Int32)))) ∧ (¬ ((kE.getD (4 * c + f) 0) < 0) → ((h.2.2.1 60 (11 + 4 * n + 0)) = (5 : Int32) → Q (none, kwi h 60 (11 + 4 * n + 1) (kN.getD (4 * c + f) 0))) ∧ (¬ ((h.2.2.1 60 (11 + 4 * n + 0)) = (5 : Int32)) → (¬ (((h.2.2.1 60 3) >>> ((kE.getD (4 * c + f) 0) &&& 31)) &&& (1 : Int32)) = 0 → Q (none, kwi h 60 (11 + 4 * n + 2) (((Int32.ofNat f) + (f_turnsBy (h.2.2.1 60 (11 + 4 * n + 0)))) - ((Int32.ofNat f) + (f_turnsBy (h.2.2.1 60 (11 + 4 * n + 0)))) / (4 : Int32) * (4 : Int32)))) ∧ (¬ (¬ (((h.2.2.1 60 3) >>> ((kE.getD (4 * c + f) 0) &&& 31)) &&& (1 : Int32)) = 0) → Q (none, kwi h 60 (11 + 4 * n + 1) (kN.getD (4 * c + f) 0)))))) : Cl d 220 [.ref 59, .int (Int32.ofNat n)] h Q := by
  refine Cl.of (ls := [some (.ref 59), some (.int (Int32.ofNat n)), none, none]) rfl rfl ?_
  refine Wp.seg 3 (pc1 := 3) (ls1 := [some (.ref 59), some (.int (Int32.ofNat n)), none, none]) (st1 := [.int (1), .int (Int32.ofNat n), .ref 59]) rfl ?_
  refine Wp.invV (d2 := 0) (as := [.ref 59, .int (Int32.ofNat n), .int (1)]) (r := []) (t := (11, 0)) rfl rfl rfl rfl (WF.t hw 59 rfl) rfl rfl ⟨rfl, rfl⟩ (by omega) (s_ofv hw (n := n) (w := 1) rfl (by omega) hc ?_)
  show Wp d 220 6 [some (.ref 59), some (.int (Int32.ofNat n)), none, none] [.int (Int32.ofNat c)] h Q
  refine Wp.seg 3 (pc1 := 9) (ls1 := [some (.ref 59), some (.int (Int32.ofNat n)), none, none]) (st1 := [.int (2), .int (Int32.ofNat n), .ref 59, .int (Int32.ofNat c)]) rfl ?_
  refine Wp.invV (d2 := 0) (as := [.ref 59, .int (Int32.ofNat n), .int (2)]) (r := [.int (Int32.ofNat c)]) (t := (11, 0)) rfl rfl rfl rfl (WF.t hw 59 rfl) rfl rfl ⟨rfl, rfl⟩ (by omega) (s_ofv hw (n := n) (w := 2) rfl (by omega) hf ?_)
  show Wp d 220 12 [some (.ref 59), some (.int (Int32.ofNat n)), none, none] [.int (Int32.ofNat f), .int (Int32.ofNat c)] h Q
  refine Wp.inv (d2 := 0) (as := [.int (Int32.ofNat c), .int (Int32.ofNat f)]) (r := []) rfl rfl rfl rfl rfl rfl (by omega) (s_edge hc2 hf2 ?_)
  show Wp d 220 15 [some (.ref 59), some (.int (Int32.ofNat n)), none, none] [.int (kE.getD (4 * c + f) 0)] h Q
  refine Wp.seg 2 (pc1 := 17) (ls1 := [some (.ref 59), some (.int (Int32.ofNat n)), some (.int (kE.getD (4 * c + f) 0)), none]) (st1 := [.int (kE.getD (4 * c + f) 0)]) rfl ?_
  refine Wp.if1 rfl (fun (c1 : (kE.getD (4 * c + f) 0) < 0) => ?_) (fun (c1 : ¬ ((kE.getD (4 * c + f) 0) < 0)) => ?_)
  · refine Wp.seg 3 (pc1 := 50) (ls1 := [some (.ref 59), some (.int (Int32.ofNat n)), some (.int (kE.getD (4 * c + f) 0)), some (.int (0))]) (st1 := [.int (0)]) rfl ?_
    refine Wp.if1 rfl (fun c2 => ?_) (fun c2 => absurd (show (0 : Int32) = 0 by decide) c2)
    refine Wp.seg 6 (pc1 := 83) (ls1 := [some (.ref 59), some (.int (Int32.ofNat n)), some (.int (kE.getD (4 * c + f) 0)), some (.int (0))]) (st1 := [.int (2), .int (Int32.ofNat n), .ref 59, .int (2), .int (Int32.ofNat n), .ref 59]) rfl ?_
    refine Wp.invV (d2 := 0) (as := [.ref 59, .int (Int32.ofNat n), .int (2)]) (r := [.int (2), .int (Int32.ofNat n), .ref 59]) (t := (11, 0)) rfl rfl rfl rfl (WF.t hw 59 rfl) rfl rfl ⟨rfl, rfl⟩ (by omega) (s_ofv hw (n := n) (w := 2) rfl (by omega) hf ?_)
    show Wp d 220 86 [some (.ref 59), some (.int (Int32.ofNat n)), some (.int (kE.getD (4 * c + f) 0)), some (.int (0))] [.int (Int32.ofNat f), .int (2), .int (Int32.ofNat n), .ref 59] h Q
    refine Wp.seg 3 (pc1 := 89) (ls1 := [some (.ref 59), some (.int (Int32.ofNat n)), some (.int (kE.getD (4 * c + f) 0)), some (.int (0))]) (st1 := [.int (0), .int (Int32.ofNat n), .ref 59, .int (Int32.ofNat f), .int (2), .int (Int32.ofNat n), .ref 59]) rfl ?_
    refine Wp.invV (d2 := 0) (as := [.ref 59, .int (Int32.ofNat n), .int (0)]) (r := [.int (Int32.ofNat f), .int (2), .int (Int32.ofNat n), .ref 59]) (t := (11, 0)) rfl rfl rfl rfl (WF.t hw 59 rfl) rfl rfl ⟨rfl, rfl⟩ (by omega) (s_of hw (n := n) (w := 0) rfl (by omega) ?_)
    show Wp d 220 92 [some (.ref 59), some (.int (Int32.ofNat n)), some (.int (kE.getD (4 * c + f) 0)), some (.int (0))] [.int (h.2.2.1 60 (11 + 4 * n + 0)), .int (Int32.ofNat f), .int (2), .int (Int32.ofNat n), .ref 59] h Q
    refine Wp.inv (d2 := 0) (as := [.int (h.2.2.1 60 (11 + 4 * n + 0))]) (r := [.int (Int32.ofNat f), .int (2), .int (Int32.ofNat n), .ref 59]) rfl rfl rfl rfl rfl rfl (by omega) (s_turnsBy (Nat.le_refl _) ?_)
    show Wp d 220 95 [some (.ref 59), some (.int (Int32.ofNat n)), some (.int (kE.getD (4 * c + f) 0)), some (.int (0))] [.int (f_turnsBy (h.2.2.1 60 (11 + 4 * n + 0))), .int (Int32.ofNat f), .int (2), .int (Int32.ofNat n), .ref 59] h Q
    refine Wp.seg 2 (pc1 := 97) (ls1 := [some (.ref 59), some (.int (Int32.ofNat n)), some (.int (kE.getD (4 * c + f) 0)), some (.int (0))]) (st1 := [.int (4), .int ((Int32.ofNat f) + (f_turnsBy (h.2.2.1 60 (11 + 4 * n + 0)))), .int (2), .int (Int32.ofNat n), .ref 59]) rfl ?_
    refine Wp.rem rfl (by decide) ?_
    refine Wp.invV (d2 := 0) (as := [.ref 59, .int (Int32.ofNat n), .int (2), .int (((Int32.ofNat f) + (f_turnsBy (h.2.2.1 60 (11 + 4 * n + 0)))) - ((Int32.ofNat f) + (f_turnsBy (h.2.2.1 60 (11 + 4 * n + 0)))) / (4 : Int32) * (4 : Int32))]) (r := []) (t := (11, 0)) rfl rfl rfl rfl (WF.t hw 59 rfl) rfl rfl ⟨rfl, rfl⟩ (by omega) (s_put hw (n := n) (w := 2) rfl (by omega) ?_)
    show Wp d 220 101 [some (.ref 59), some (.int (Int32.ofNat n)), some (.int (kE.getD (4 * c + f) 0)), some (.int (0))] [] (kwi h 60 (11 + 4 * n + 2) (((Int32.ofNat f) + (f_turnsBy (h.2.2.1 60 (11 + 4 * n + 0)))) - ((Int32.ofNat f) + (f_turnsBy (h.2.2.1 60 (11 + 4 * n + 0)))) / (4 : Int32) * (4 : Int32))) Q
    exact Wp.retv rfl rfl (hQ.1 c1)
  · refine Wp.seg 3 (pc1 := 23) (ls1 := [some (.ref 59), some (.int (Int32.ofNat n)), some (.int (kE.getD (4 * c + f) 0)), none]) (st1 := [.int (0), .int (Int32.ofNat n), .ref 59]) rfl ?_
    refine Wp.invV (d2 := 0) (as := [.ref 59, .int (Int32.ofNat n), .int (0)]) (r := []) (t := (11, 0)) rfl rfl rfl rfl (WF.t hw 59 rfl) rfl rfl ⟨rfl, rfl⟩ (by omega) (s_of hw (n := n) (w := 0) rfl (by omega) ?_)
    show Wp d 220 26 [some (.ref 59), some (.int (Int32.ofNat n)), some (.int (kE.getD (4 * c + f) 0)), none] [.int (h.2.2.1 60 (11 + 4 * n + 0))] h Q
    refine Wp.seg 1 (pc1 := 27) (ls1 := [some (.ref 59), some (.int (Int32.ofNat n)), some (.int (kE.getD (4 * c + f) 0)), none]) (st1 := [.int (5), .int (h.2.2.1 60 (11 + 4 * n + 0))]) rfl ?_
    refine Wp.if2 rfl (fun (c3 : (h.2.2.1 60 (11 + 4 * n + 0)) = (5 : Int32)) => ?_) (fun (c3 : ¬ ((h.2.2.1 60 (11 + 4 * n + 0)) = (5 : Int32))) => ?_)
    · refine Wp.seg 4 (pc1 := 50) (ls1 := [some (.ref 59), some (.int (Int32.ofNat n)), some (.int (kE.getD (4 * c + f) 0)), some (.int (1))]) (st1 := [.int (1)]) rfl ?_
      refine Wp.if1 rfl (fun c4 => absurd c4 (show ¬ ((1 : Int32) = 0) by decide)) (fun c4 => ?_)
      refine Wp.seg 6 (pc1 := 59) (ls1 := [some (.ref 59), some (.int (Int32.ofNat n)), some (.int (kE.getD (4 * c + f) 0)), some (.int (1))]) (st1 := [.int (1), .int (Int32.ofNat n), .ref 59, .int (1), .int (Int32.ofNat n), .ref 59]) rfl ?_
      refine Wp.invV (d2 := 0) (as := [.ref 59, .int (Int32.ofNat n), .int (1)]) (r := [.int (1), .int (Int32.ofNat n), .ref 59]) (t := (11, 0)) rfl rfl rfl rfl (WF.t hw 59 rfl) rfl rfl ⟨rfl, rfl⟩ (by omega) (s_ofv hw (n := n) (w := 1) rfl (by omega) hc ?_)
      show Wp d 220 62 [some (.ref 59), some (.int (Int32.ofNat n)), some (.int (kE.getD (4 * c + f) 0)), some (.int (1))] [.int (Int32.ofNat c), .int (1), .int (Int32.ofNat n), .ref 59] h Q
      refine Wp.seg 3 (pc1 := 65) (ls1 := [some (.ref 59), some (.int (Int32.ofNat n)), some (.int (kE.getD (4 * c + f) 0)), some (.int (1))]) (st1 := [.int (2), .int (Int32.ofNat n), .ref 59, .int (Int32.ofNat c), .int (1), .int (Int32.ofNat n), .ref 59]) rfl ?_
      refine Wp.invV (d2 := 0) (as := [.ref 59, .int (Int32.ofNat n), .int (2)]) (r := [.int (Int32.ofNat c), .int (1), .int (Int32.ofNat n), .ref 59]) (t := (11, 0)) rfl rfl rfl rfl (WF.t hw 59 rfl) rfl rfl ⟨rfl, rfl⟩ (by omega) (s_ofv hw (n := n) (w := 2) rfl (by omega) hf ?_)
      show Wp d 220 68 [some (.ref 59), some (.int (Int32.ofNat n)), some (.int (kE.getD (4 * c + f) 0)), some (.int (1))] [.int (Int32.ofNat f), .int (Int32.ofNat c), .int (1), .int (Int32.ofNat n), .ref 59] h Q
      refine Wp.inv (d2 := 0) (as := [.int (Int32.ofNat c), .int (Int32.ofNat f)]) (r := [.int (1), .int (Int32.ofNat n), .ref 59]) rfl rfl rfl rfl rfl rfl (by omega) (s_next hc2 hf2 ?_)
      show Wp d 220 71 [some (.ref 59), some (.int (Int32.ofNat n)), some (.int (kE.getD (4 * c + f) 0)), some (.int (1))] [.int (kN.getD (4 * c + f) 0), .int (1), .int (Int32.ofNat n), .ref 59] h Q
      refine Wp.invV (d2 := 0) (as := [.ref 59, .int (Int32.ofNat n), .int (1), .int (kN.getD (4 * c + f) 0)]) (r := []) (t := (11, 0)) rfl rfl rfl rfl (WF.t hw 59 rfl) rfl rfl ⟨rfl, rfl⟩ (by omega) (s_put hw (n := n) (w := 1) rfl (by omega) ?_)
      show Wp d 220 74 [some (.ref 59), some (.int (Int32.ofNat n)), some (.int (kE.getD (4 * c + f) 0)), some (.int (1))] [] (kwi h 60 (11 + 4 * n + 1) (kN.getD (4 * c + f) 0)) Q
      refine Wp.seg 1 (pc1 := 101) (ls1 := [some (.ref 59), some (.int (Int32.ofNat n)), some (.int (kE.getD (4 * c + f) 0)), some (.int (1))]) (st1 := []) rfl ?_
      exact Wp.retv rfl rfl ((hQ.2 c1).1 c3)
    · refine Wp.seg 1 (pc1 := 31) (ls1 := [some (.ref 59), some (.int (Int32.ofNat n)), some (.int (kE.getD (4 * c + f) 0)), none]) (st1 := [.ref 59]) rfl ?_
      refine Wp.gr (t := (11, 0)) (v := some (60)) rfl (WF.t hw 59 rfl) rfl (WF.r hw 59 0 58 rfl) ?_
      show Wp d 220 34 [some (.ref 59), some (.int (Int32.ofNat n)), some (.int (kE.getD (4 * c + f) 0)), none] [.ref 60] h Q
      refine Wp.seg 1 (pc1 := 35) (ls1 := [some (.ref 59), some (.int (Int32.ofNat n)), some (.int (kE.getD (4 * c + f) 0)), none]) (st1 := [.int (3), .ref 60]) rfl ?_
      refine Wp.iald (j := 3) (k := 20) (n := 585) rfl (WF.t hw 60 rfl) rfl rfl (by decide) (by decide) ?_
      refine Wp.seg 4 (pc1 := 40) (ls1 := [some (.ref 59), some (.int (Int32.ofNat n)), some (.int (kE.getD (4 * c + f) 0)), none]) (st1 := [.int (((h.2.2.1 60 3) >>> ((kE.getD (4 * c + f) 0) &&& 31)) &&& (1 : Int32))]) rfl ?_
      refine Wp.if1 rfl (fun (c5 : ¬ (((h.2.2.1 60 3) >>> ((kE.getD (4 * c + f) 0) &&& 31)) &&& (1 : Int32)) = 0) => ?_) (fun (c5 : ¬ (¬ (((h.2.2.1 60 3) >>> ((kE.getD (4 * c + f) 0) &&& 31)) &&& (1 : Int32)) = 0)) => ?_)
      · refine Wp.seg 3 (pc1 := 50) (ls1 := [some (.ref 59), some (.int (Int32.ofNat n)), some (.int (kE.getD (4 * c + f) 0)), some (.int (0))]) (st1 := [.int (0)]) rfl ?_
        refine Wp.if1 rfl (fun c6 => ?_) (fun c6 => absurd (show (0 : Int32) = 0 by decide) c6)
        refine Wp.seg 6 (pc1 := 83) (ls1 := [some (.ref 59), some (.int (Int32.ofNat n)), some (.int (kE.getD (4 * c + f) 0)), some (.int (0))]) (st1 := [.int (2), .int (Int32.ofNat n), .ref 59, .int (2), .int (Int32.ofNat n), .ref 59]) rfl ?_
        refine Wp.invV (d2 := 0) (as := [.ref 59, .int (Int32.ofNat n), .int (2)]) (r := [.int (2), .int (Int32.ofNat n), .ref 59]) (t := (11, 0)) rfl rfl rfl rfl (WF.t hw 59 rfl) rfl rfl ⟨rfl, rfl⟩ (by omega) (s_ofv hw (n := n) (w := 2) rfl (by omega) hf ?_)
        show Wp d 220 86 [some (.ref 59), some (.int (Int32.ofNat n)), some (.int (kE.getD (4 * c + f) 0)), some (.int (0))] [.int (Int32.ofNat f), .int (2), .int (Int32.ofNat n), .ref 59] h Q
        refine Wp.seg 3 (pc1 := 89) (ls1 := [some (.ref 59), some (.int (Int32.ofNat n)), some (.int (kE.getD (4 * c + f) 0)), some (.int (0))]) (st1 := [.int (0), .int (Int32.ofNat n), .ref 59, .int (Int32.ofNat f), .int (2), .int (Int32.ofNat n), .ref 59]) rfl ?_
        refine Wp.invV (d2 := 0) (as := [.ref 59, .int (Int32.ofNat n), .int (0)]) (r := [.int (Int32.ofNat f), .int (2), .int (Int32.ofNat n), .ref 59]) (t := (11, 0)) rfl rfl rfl rfl (WF.t hw 59 rfl) rfl rfl ⟨rfl, rfl⟩ (by omega) (s_of hw (n := n) (w := 0) rfl (by omega) ?_)
        show Wp d 220 92 [some (.ref 59), some (.int (Int32.ofNat n)), some (.int (kE.getD (4 * c + f) 0)), some (.int (0))] [.int (h.2.2.1 60 (11 + 4 * n + 0)), .int (Int32.ofNat f), .int (2), .int (Int32.ofNat n), .ref 59] h Q
        refine Wp.inv (d2 := 0) (as := [.int (h.2.2.1 60 (11 + 4 * n + 0))]) (r := [.int (Int32.ofNat f), .int (2), .int (Int32.ofNat n), .ref 59]) rfl rfl rfl rfl rfl rfl (by omega) (s_turnsBy (Nat.le_refl _) ?_)
        show Wp d 220 95 [some (.ref 59), some (.int (Int32.ofNat n)), some (.int (kE.getD (4 * c + f) 0)), some (.int (0))] [.int (f_turnsBy (h.2.2.1 60 (11 + 4 * n + 0))), .int (Int32.ofNat f), .int (2), .int (Int32.ofNat n), .ref 59] h Q
        refine Wp.seg 2 (pc1 := 97) (ls1 := [some (.ref 59), some (.int (Int32.ofNat n)), some (.int (kE.getD (4 * c + f) 0)), some (.int (0))]) (st1 := [.int (4), .int ((Int32.ofNat f) + (f_turnsBy (h.2.2.1 60 (11 + 4 * n + 0)))), .int (2), .int (Int32.ofNat n), .ref 59]) rfl ?_
        refine Wp.rem rfl (by decide) ?_
        refine Wp.invV (d2 := 0) (as := [.ref 59, .int (Int32.ofNat n), .int (2), .int (((Int32.ofNat f) + (f_turnsBy (h.2.2.1 60 (11 + 4 * n + 0)))) - ((Int32.ofNat f) + (f_turnsBy (h.2.2.1 60 (11 + 4 * n + 0)))) / (4 : Int32) * (4 : Int32))]) (r := []) (t := (11, 0)) rfl rfl rfl rfl (WF.t hw 59 rfl) rfl rfl ⟨rfl, rfl⟩ (by omega) (s_put hw (n := n) (w := 2) rfl (by omega) ?_)
        show Wp d 220 101 [some (.ref 59), some (.int (Int32.ofNat n)), some (.int (kE.getD (4 * c + f) 0)), some (.int (0))] [] (kwi h 60 (11 + 4 * n + 2) (((Int32.ofNat f) + (f_turnsBy (h.2.2.1 60 (11 + 4 * n + 0)))) - ((Int32.ofNat f) + (f_turnsBy (h.2.2.1 60 (11 + 4 * n + 0)))) / (4 : Int32) * (4 : Int32))) Q
        exact Wp.retv rfl rfl (((hQ.2 c1).2 c3).1 c5)
      · refine Wp.seg 4 (pc1 := 50) (ls1 := [some (.ref 59), some (.int (Int32.ofNat n)), some (.int (kE.getD (4 * c + f) 0)), some (.int (1))]) (st1 := [.int (1)]) rfl ?_
        refine Wp.if1 rfl (fun c7 => absurd c7 (show ¬ ((1 : Int32) = 0) by decide)) (fun c7 => ?_)
        refine Wp.seg 6 (pc1 := 59) (ls1 := [some (.ref 59), some (.int (Int32.ofNat n)), some (.int (kE.getD (4 * c + f) 0)), some (.int (1))]) (st1 := [.int (1), .int (Int32.ofNat n), .ref 59, .int (1), .int (Int32.ofNat n), .ref 59]) rfl ?_
        refine Wp.invV (d2 := 0) (as := [.ref 59, .int (Int32.ofNat n), .int (1)]) (r := [.int (1), .int (Int32.ofNat n), .ref 59]) (t := (11, 0)) rfl rfl rfl rfl (WF.t hw 59 rfl) rfl rfl ⟨rfl, rfl⟩ (by omega) (s_ofv hw (n := n) (w := 1) rfl (by omega) hc ?_)
        show Wp d 220 62 [some (.ref 59), some (.int (Int32.ofNat n)), some (.int (kE.getD (4 * c + f) 0)), some (.int (1))] [.int (Int32.ofNat c), .int (1), .int (Int32.ofNat n), .ref 59] h Q
        refine Wp.seg 3 (pc1 := 65) (ls1 := [some (.ref 59), some (.int (Int32.ofNat n)), some (.int (kE.getD (4 * c + f) 0)), some (.int (1))]) (st1 := [.int (2), .int (Int32.ofNat n), .ref 59, .int (Int32.ofNat c), .int (1), .int (Int32.ofNat n), .ref 59]) rfl ?_
        refine Wp.invV (d2 := 0) (as := [.ref 59, .int (Int32.ofNat n), .int (2)]) (r := [.int (Int32.ofNat c), .int (1), .int (Int32.ofNat n), .ref 59]) (t := (11, 0)) rfl rfl rfl rfl (WF.t hw 59 rfl) rfl rfl ⟨rfl, rfl⟩ (by omega) (s_ofv hw (n := n) (w := 2) rfl (by omega) hf ?_)
        show Wp d 220 68 [some (.ref 59), some (.int (Int32.ofNat n)), some (.int (kE.getD (4 * c + f) 0)), some (.int (1))] [.int (Int32.ofNat f), .int (Int32.ofNat c), .int (1), .int (Int32.ofNat n), .ref 59] h Q
        refine Wp.inv (d2 := 0) (as := [.int (Int32.ofNat c), .int (Int32.ofNat f)]) (r := [.int (1), .int (Int32.ofNat n), .ref 59]) rfl rfl rfl rfl rfl rfl (by omega) (s_next hc2 hf2 ?_)
        show Wp d 220 71 [some (.ref 59), some (.int (Int32.ofNat n)), some (.int (kE.getD (4 * c + f) 0)), some (.int (1))] [.int (kN.getD (4 * c + f) 0), .int (1), .int (Int32.ofNat n), .ref 59] h Q
        refine Wp.invV (d2 := 0) (as := [.ref 59, .int (Int32.ofNat n), .int (1), .int (kN.getD (4 * c + f) 0)]) (r := []) (t := (11, 0)) rfl rfl rfl rfl (WF.t hw 59 rfl) rfl rfl ⟨rfl, rfl⟩ (by omega) (s_put hw (n := n) (w := 1) rfl (by omega) ?_)
        show Wp d 220 74 [some (.ref 59), some (.int (Int32.ofNat n)), some (.int (kE.getD (4 * c + f) 0)), some (.int (1))] [] (kwi h 60 (11 + 4 * n + 1) (kN.getD (4 * c + f) 0)) Q
        refine Wp.seg 1 (pc1 := 101) (ls1 := [some (.ref 59), some (.int (Int32.ofNat n)), some (.int (kE.getD (4 * c + f) 0)), some (.int (1))]) (st1 := []) rfl ?_
        exact Wp.retv rfl rfl (((hQ.2 c1).2 c3).2 c5)
theorem s_walks {d : Nat} {Q : KO → Prop} {h : KH} (hw : WF h) {n c f : Nat} (hn : n < 6) (hc2 : c < 12) (hf2 : f < 4) (hc : h.2.2.1 60 (11 + 4 * n + 1) = Int32.ofNat c) (hf : h.2.2.1 60 (11 + 4 * n + 2) = Int32.ofNat f) (hd : 1 ≤ d) (hQ : Q (none, hS h (walkS (h.2.2.1 60) n))) : Cl d 220 [.ref 59, .int (Int32.ofNat n)] h Q := by
  have ej : wjS (h.2.2.1 60) n = 4 * c + f := by
    unfold wjS
    rw [hc, hf, clamp_ofNat (by omega), clamp_ofNat (by omega)]
  unfold walkS at hQ
  rw [ej, hf] at hQ
  have no : ∀ hh : ¬ (0 ≤ kE.getD (4 * c + f) 0 ∧ (h.2.2.1 60 (11 + 4 * n + 0) = 5 ∨ ((h.2.2.1 60 3) >>> ((kE.getD (4 * c + f) 0) &&& 31)) &&& 1 = 0)), Q (none, kwi h 60 (11 + 4 * n + 2) ((Int32.ofNat f + f_turnsBy (h.2.2.1 60 (11 + 4 * n + 0))) - (Int32.ofNat f + f_turnsBy (h.2.2.1 60 (11 + 4 * n + 0))) / 4 * 4)) := by
    intro hh
    rw [if_neg hh] at hQ
    exact hQ
  have yes : ∀ hh : (0 ≤ kE.getD (4 * c + f) 0 ∧ (h.2.2.1 60 (11 + 4 * n + 0) = 5 ∨ ((h.2.2.1 60 3) >>> ((kE.getD (4 * c + f) 0) &&& 31)) &&& 1 = 0)), Q (none, kwi h 60 (11 + 4 * n + 1) (kN.getD (4 * c + f) 0)) := by
    intro hh
    rw [if_pos hh] at hQ
    exact hQ
  exact t_walks hw hn hc2 hf2 hc hf hd ⟨fun c1 => no (fun q => Int32.not_le.mpr c1 q.1), fun c1 => ⟨fun c2 => yes ⟨Int32.not_lt.mp c1, Or.inl c2⟩, fun c2 => ⟨fun c3 => no (fun q => q.2.elim c2 c3), fun c3 => yes ⟨Int32.not_lt.mp c1, Or.inr (Decidable.not_not.mp c3)⟩⟩⟩⟩
def popR : Nat → Int32 → Int32 → Int32
  | 0, _, n => n
  | k + 1, x, n => if x = 0 then n else popR k (x &&& (x - 1)) (n + 1)
def clrR : Nat → Int32 → Int32
  | 0, x => x
  | k + 1, x => clrR k (x &&& (x - 1))
set_option maxHeartbeats 4000000 in
theorem t_bitsB {d : Nat} {Q : KO → Prop} {h : KH} {s n x : Int32} (hd : 0 ≤ d) (hQ : (x = 0 → Q (some (.int (n)), h)) ∧ (¬ (x = 0) → Wp d 181 4 ([some (.int (s)), some (.int (n + 1)), some (.int (x &&& (x - (1 : Int32))))]) [] h Q)) : Wp d 181 4 [some (.int (s)), some (.int (n)), some (.int (x))] [] h Q := by
  refine Wp.seg 1 (pc1 := 5) (ls1 := [some (.int (s)), some (.int (n)), some (.int (x))]) (st1 := [.int (x)]) rfl ?_
  refine Wp.if1 rfl (fun (c1 : x = 0) => ?_) (fun (c1 : ¬ (x = 0)) => ?_)
  · refine Wp.seg 1 (pc1 := 21) (ls1 := [some (.int (s)), some (.int (n)), some (.int (x))]) (st1 := [.int (n)]) rfl ?_
    exact Wp.reti rfl rfl (hQ.1 c1)
  · refine Wp.seg 8 (pc1 := 4) (ls1 := [some (.int (s)), some (.int (n + 1)), some (.int (x &&& (x - (1 : Int32))))]) (st1 := []) rfl ?_
    exact (hQ.2 c1)
set_option maxHeartbeats 4000000 in
theorem t_bits {d : Nat} {Q : KO → Prop} {h : KH} {s : Int32} (hd : 0 ≤ d) (hQ : Wp d 181 4 ([some (.int (s)), some (.int (0)), some (.int (s))]) [] h Q) : Cl d 181 [.int (s)] h Q := by
  refine Cl.of (ls := [some (.int (s)), none, none]) rfl rfl ?_
  refine Wp.seg 4 (pc1 := 4) (ls1 := [some (.int (s)), some (.int (0)), some (.int (s))]) (st1 := []) rfl ?_
  exact hQ
theorem clr0 : ∀ k, clrR k 0 = 0
  | 0 => rfl
  | k + 1 => by unfold clrR; exact clr0 k
theorem s_bitsL {d : Nat} {Q : KO → Prop} {h : KH} {s : Int32} : ∀ (k : Nat) (x n : Int32), clrR k x = 0 → Q (some (.int (popR k x n)), h) → Wp d 181 4 [some (.int s), some (.int n), some (.int x)] [] h Q
  | 0, x, n, hc, hQ => t_bitsB (Nat.zero_le _) ⟨fun _ => hQ, fun c => absurd hc c⟩
  | k + 1, x, n, hc, hQ => by
    refine t_bitsB (Nat.zero_le _) ⟨fun c => ?_, fun c => s_bitsL k _ _ hc ?_⟩
    · unfold popR at hQ
      rw [if_pos c] at hQ
      exact hQ
    · unfold popR at hQ
      rw [if_neg c] at hQ
      exact hQ
/-- how many are in a set of 17 at most -/
def popS (x : Int32) : Int32 := popR 17 x 0
theorem s_bits {d : Nat} {Q : KO → Prop} {h : KH} {x : Int32} (hc : clrR 17 x = 0) (hQ : Q (some (.int (popS x)), h)) : Cl d 181 [.int x] h Q := t_bits (Nat.zero_le _) (s_bitsL 17 x 0 hc hQ)
