/-! KM: the reference, a hand acts -/
/-- the reference's array and the pile are others -/
def hG (h : KH) (S p : Nat → Int32) : KH := (h.1, h.2.1, ku (ku h.2.2.1 64 p) 60 S, h.2.2.2)
theorem hG_hS (h : KH) (S : Nat → Int32) : hS h S = hG h S (h.2.2.1 64) := by
  unfold hS hG
  rw [ku_self]
theorem hG_hPl (h : KH) (p : Nat → Int32) : hPl h p = hG h (h.2.2.1 60) p := by
  have e : ku h.2.2.1 64 p 60 = h.2.2.1 60 := ku_n (k := 64) (j := 60) h.2.2.1 p (by decide)
  unfold hPl hG
  rw [← e, ku_self]
theorem hG_w (h : KH) (S p : Nat → Int32) (j : Nat) (x : Int32) : kwi (hG h S p) 60 j x = hG h (ku S j x) p := by
  have e : (hG h S p).2.2.1 60 = S := ku_s (ku h.2.2.1 64 p) 60 S
  rw [hS_w, e]
  show (h.1, h.2.1, ku (ku (ku h.2.2.1 64 p) 60 S) 60 _, h.2.2.2) = _
  rw [ku_u]
  rfl
theorem hG_S (h : KH) (S p : Nat → Int32) : (hG h S p).2.2.1 60 = S := ku_s (ku h.2.2.1 64 p) 60 S
theorem hG_G (h : KH) (S p S2 p2 : Nat → Int32) : hG (hG h S p) S2 p2 = hG h S2 p2 := by
  show (h.1, h.2.1, ku (ku (ku (ku h.2.2.1 64 p) 60 S) 64 p2) 60 S2, h.2.2.2) = (h.1, h.2.1, ku (ku h.2.2.1 64 p2) 60 S2, h.2.2.2)
  rw [ku_c (ku h.2.2.1 64 p) S p2 (k := 60) (l := 64) (by decide), ku_u, ku_u]
theorem kwi_o {H : KH} {a j i : Nat} {x : Int32} (h : i ≠ j) : (kwi H a j x).2.2.1 a i = H.2.2.1 a i := by
  show ku H.2.2.1 a (ku (H.2.2.1 a) j x) a i = _
  rw [ku_s, ku_n _ _ h]
theorem s_stP {d : Nat} {Q : KO → Prop} {h : KH} {p : Nat → Int32} (hw : WF h) (hd : 2 ≤ d) {n c : Nat} (hn : n < 6) (hc2 : c < 12) (hc : h.2.2.1 60 (11 + 4 * n + 1) = Int32.ofNat c) (hQ : Q (some (.int (stE (f_strokesOf (h.2.2.1 60) n) c)), hPl h p)) : Cl d 192 [.ref 59, .int (Int32.ofNat n)] (hPl h p) Q :=
  s_st (h := hPl h p) hw hd hn hc2 (by rw [hPl_S]; exact hc) (by rw [hPl_S]; exact hQ)
theorem s_costsP {d : Nat} {Q : KO → Prop} {h : KH} {p : Nat → Int32} (hw : WF h) (hd : 1 ≤ d) {n : Nat} (hn : n < 6) (hQ : Q (some (.int (f_costsOf (h.2.2.1 60) n)), hPl h p)) : Cl d 188 [.ref 59, .int (Int32.ofNat n)] (hPl h p) Q :=
  s_costsOf (h := hPl h p) hw hn hd (by rw [hPl_S]; exact hQ)
theorem s_rubP {d : Nat} {Q : KO → Prop} {h : KH} {p : Nat → Int32} (hw : WF h) (hd : 1 ≤ d) {n : Nat} (hn : n < 6) (hQ : Q (some (.int (f_doesRub (h.2.2.1 60) n)), hPl h p)) : Cl d 190 [.ref 59, .int (Int32.ofNat n)] (hPl h p) Q :=
  s_doesRub (h := hPl h p) hw hn hd (by rw [hPl_S]; exact hQ)
theorem s_ofP {d : Nat} {Q : KO → Prop} {h : KH} {p : Nat → Int32} (hw : WF h) {n : Nat} (hn : n < 6) (hQ : Q (some (.int (h.2.2.1 60 (11 + 4 * n + 3))), hPl h p)) : Cl d 178 [.ref 59, .int (Int32.ofNat n), .int 3] (hPl h p) Q :=
  s_of (h := hPl h p) hw (n := n) (w := 3) rfl (by omega) (by rw [hPl_S]; exact hQ)
/-- a hand acts: its will, the edges where it draws -/
def actS (S : Nat → Int32) (w E : Int32) (n : Nat) : Nat → Int32 :=
  if w = 2 ∨ (w = 0 ∧ ¬ f_doesRub S n = 0) then ku S 3 (S 3 &&& (E ^^^ -1))
  else if w = 0 ∧ f_costsOf S n ≤ S (11 + 4 * n + 3) then ku (ku S (11 + 4 * n + 3) (S (11 + 4 * n + 3) - f_costsOf S n)) 3 (S 3 ||| E)
  else S
set_option maxHeartbeats 4000000 in
theorem t_acts {d : Nat} {Q : KO → Prop} {h : KH} (hw : WF h) {n c : Nat} {RL : List Rul} (hn : n < 6) (hR : rulesS (h.2.2.1 60) RL) (hc2 : c < 12) (hc : h.2.2.1 60 (11 + 4 * n + 1) = Int32.ofNat c) (hd : 4 ≤ d) (hQ : ∀ p : Nat → Int32, (((willS (h.2.2.1 60) RL n) = (2 : Int32) → Q (none, kwi (hPl h p) 60 3 ((h.2.2.1 60 3) &&& ((stE (f_strokesOf (h.2.2.1 60) n) c) ^^^ (-1 : Int32))))) ∧ (¬ ((willS (h.2.2.1 60) RL n) = (2 : Int32)) → (¬ (willS (h.2.2.1 60) RL n) = 0 → (¬ (willS (h.2.2.1 60) RL n) = 0 → Q (none, hPl h p)) ∧ (¬ (¬ (willS (h.2.2.1 60) RL n) = 0) → ((h.2.2.1 60 (11 + 4 * n + 3)) < (f_costsOf (h.2.2.1 60) n) → Q (none, hPl h p)) ∧ (¬ ((h.2.2.1 60 (11 + 4 * n + 3)) < (f_costsOf (h.2.2.1 60) n)) → Q (none, kwi (kwi (hPl h p) 60 (11 + 4 * n + 3) ((h.2.2.1 60 (11 + 4 * n + 3)) - (f_costsOf (h.2.2.1 60) n))) 60 3 ((h.2.2.1 60 3) ||| (stE (f_strokesOf (h.2.2.1 60) n) c)))))) ∧ (¬ (¬ (willS (h.2.2.1 60) RL n) = 0) → ((f_doesRub (h.2.2.1 60) n) = 0 → (¬ (willS (h.2.2.1 60) RL n) = 0 → Q (none, hPl h p)) ∧ (¬ (¬ (willS (h.2.2.1 60) RL n) = 0) → ((h.2.2.1 60 (11 + 4 * n + 3)) < (f_costsOf (h.2.2.1 60) n) → Q (none, hPl h p)) ∧ (¬ ((h.2.2.1 60 (11 + 4 * n + 3)) < (f_costsOf (h.2.2.1 60) n)) → Q (none, kwi (kwi (hPl h p) 60 (11 + 4 * n + 3) ((h.2.2.1 60 (11 + 4 * n + 3)) - (f_costsOf (h.2.2.1 60) n))) 60 3 ((h.2.2.1 60 3) ||| (stE (f_strokesOf (h.2.2.1 60) n) c)))))) ∧ (¬ ((f_doesRub (h.2.2.1 60) n) = 0) → Q (none, kwi (hPl h p) 60 3 ((h.2.2.1 60 3) &&& ((stE (f_strokesOf (h.2.2.1 60) n) c) ^^^ (-1 : Int32))))))))) : Cl d 221 [.ref 59, .int (Int32.ofNat n)] h Q := by
  refine Cl.of (ls := [some (.ref 59), some (.int (Int32.ofNat n)), none, none, none]) rfl rfl ?_
  refine Wp.seg 2 (pc1 := 2) (ls1 := [some (.ref 59), some (.int (Int32.ofNat n)), none, none, none]) (st1 := [.int (Int32.ofNat n), .ref 59]) rfl ?_
  refine Wp.invV (d2 := 3) (as := [.ref 59, .int (Int32.ofNat n)]) (r := []) (t := (11, 0)) rfl rfl rfl rfl (WF.t hw 59 rfl) rfl rfl ⟨rfl, rfl⟩ (by omega) (s_does hw hn hR (Nat.le_refl _) ?_)
  intro p
  show Wp d 221 5 [some (.ref 59), some (.int (Int32.ofNat n)), none, none, none] [.int (willS (h.2.2.1 60) RL n)] (hPl h p) Q
  refine Wp.seg 3 (pc1 := 8) (ls1 := [some (.ref 59), some (.int (Int32.ofNat n)), some (.int (willS (h.2.2.1 60) RL n)), none, none]) (st1 := [.int (Int32.ofNat n), .ref 59]) rfl ?_
  refine Wp.invV (d2 := 2) (as := [.ref 59, .int (Int32.ofNat n)]) (r := []) (t := (11, 0)) rfl rfl rfl rfl (WF.t hw 59 rfl) rfl rfl ⟨rfl, rfl⟩ (by omega) (s_stP hw (Nat.le_refl _) hn hc2 hc ?_)
  show Wp d 221 11 [some (.ref 59), some (.int (Int32.ofNat n)), some (.int (willS (h.2.2.1 60) RL n)), none, none] [.int (stE (f_strokesOf (h.2.2.1 60) n) c)] (hPl h p) Q
  refine Wp.seg 3 (pc1 := 14) (ls1 := [some (.ref 59), some (.int (Int32.ofNat n)), some (.int (willS (h.2.2.1 60) RL n)), some (.int (stE (f_strokesOf (h.2.2.1 60) n) c)), none]) (st1 := [.int (Int32.ofNat n), .ref 59]) rfl ?_
  refine Wp.invV (d2 := 1) (as := [.ref 59, .int (Int32.ofNat n)]) (r := []) (t := (11, 0)) rfl rfl rfl rfl (WF.t hw 59 rfl) rfl rfl ⟨rfl, rfl⟩ (by omega) (s_costsP hw (Nat.le_refl _) hn ?_)
  show Wp d 221 17 [some (.ref 59), some (.int (Int32.ofNat n)), some (.int (willS (h.2.2.1 60) RL n)), some (.int (stE (f_strokesOf (h.2.2.1 60) n) c)), none] [.int (f_costsOf (h.2.2.1 60) n)] (hPl h p) Q
  refine Wp.seg 3 (pc1 := 21) (ls1 := [some (.ref 59), some (.int (Int32.ofNat n)), some (.int (willS (h.2.2.1 60) RL n)), some (.int (stE (f_strokesOf (h.2.2.1 60) n) c)), some (.int (f_costsOf (h.2.2.1 60) n))]) (st1 := [.int (2), .int (willS (h.2.2.1 60) RL n)]) rfl ?_
  refine Wp.if2 rfl (fun (c1 : (willS (h.2.2.1 60) RL n) = (2 : Int32)) => ?_) (fun (c1 : ¬ ((willS (h.2.2.1 60) RL n) = (2 : Int32))) => ?_)
  · refine Wp.seg 1 (pc1 := 37) (ls1 := [some (.ref 59), some (.int (Int32.ofNat n)), some (.int (willS (h.2.2.1 60) RL n)), some (.int (stE (f_strokesOf (h.2.2.1 60) n) c)), some (.int (f_costsOf (h.2.2.1 60) n))]) (st1 := [.ref 59]) rfl ?_
    refine Wp.gr (t := (11, 0)) (v := some (60)) rfl (WF.t hw 59 rfl) rfl (WF.r hw 59 0 58 rfl) ?_
    show Wp d 221 40 [some (.ref 59), some (.int (Int32.ofNat n)), some (.int (willS (h.2.2.1 60) RL n)), some (.int (stE (f_strokesOf (h.2.2.1 60) n) c)), some (.int (f_costsOf (h.2.2.1 60) n))] [.ref 60] (hPl h p) Q
    refine Wp.seg 2 (pc1 := 42) (ls1 := [some (.ref 59), some (.int (Int32.ofNat n)), some (.int (willS (h.2.2.1 60) RL n)), some (.int (stE (f_strokesOf (h.2.2.1 60) n) c)), some (.int (f_costsOf (h.2.2.1 60) n))]) (st1 := [.int (3), .ref 60, .int (3), .ref 60]) rfl ?_
    refine Wp.iald (j := 3) (k := 20) (n := 585) rfl (WF.t hw 60 rfl) rfl rfl (by decide) (by decide) ?_
    rw [show (hPl h p).2.2.1 60 3 = h.2.2.1 60 3 from congrFun (hPl_S _ _) _]
    refine Wp.seg 4 (pc1 := 47) (ls1 := [some (.ref 59), some (.int (Int32.ofNat n)), some (.int (willS (h.2.2.1 60) RL n)), some (.int (stE (f_strokesOf (h.2.2.1 60) n) c)), some (.int (f_costsOf (h.2.2.1 60) n))]) (st1 := [.int ((h.2.2.1 60 3) &&& ((stE (f_strokesOf (h.2.2.1 60) n) c) ^^^ (-1 : Int32))), .int (3), .ref 60]) rfl ?_
    refine Wp.iast (j := 3) (n := 585) rfl (WF.t hw 60 rfl) rfl (by decide) (by decide) ?_
    refine Wp.seg 1 (pc1 := 91) (ls1 := [some (.ref 59), some (.int (Int32.ofNat n)), some (.int (willS (h.2.2.1 60) RL n)), some (.int (stE (f_strokesOf (h.2.2.1 60) n) c)), some (.int (f_costsOf (h.2.2.1 60) n))]) (st1 := []) rfl ?_
    exact Wp.retv rfl rfl ((hQ p).1 c1)
  · refine Wp.seg 1 (pc1 := 25) (ls1 := [some (.ref 59), some (.int (Int32.ofNat n)), some (.int (willS (h.2.2.1 60) RL n)), some (.int (stE (f_strokesOf (h.2.2.1 60) n) c)), some (.int (f_costsOf (h.2.2.1 60) n))]) (st1 := [.int (willS (h.2.2.1 60) RL n)]) rfl ?_
    refine Wp.if1 rfl (fun (c2 : ¬ (willS (h.2.2.1 60) RL n) = 0) => ?_) (fun (c2 : ¬ (¬ (willS (h.2.2.1 60) RL n) = 0)) => ?_)
    · refine Wp.seg 1 (pc1 := 52) (ls1 := [some (.ref 59), some (.int (Int32.ofNat n)), some (.int (willS (h.2.2.1 60) RL n)), some (.int (stE (f_strokesOf (h.2.2.1 60) n) c)), some (.int (f_costsOf (h.2.2.1 60) n))]) (st1 := [.int (willS (h.2.2.1 60) RL n)]) rfl ?_
      refine Wp.if1 rfl (fun (c3 : ¬ (willS (h.2.2.1 60) RL n) = 0) => ?_) (fun (c3 : ¬ (¬ (willS (h.2.2.1 60) RL n) = 0)) => ?_)
      · exact Wp.retv rfl rfl ((((hQ p).2 c1).1 c2).1 c3)
      · refine Wp.seg 3 (pc1 := 58) (ls1 := [some (.ref 59), some (.int (Int32.ofNat n)), some (.int (willS (h.2.2.1 60) RL n)), some (.int (stE (f_strokesOf (h.2.2.1 60) n) c)), some (.int (f_costsOf (h.2.2.1 60) n))]) (st1 := [.int (3), .int (Int32.ofNat n), .ref 59]) rfl ?_
        refine Wp.invV (d2 := 0) (as := [.ref 59, .int (Int32.ofNat n), .int (3)]) (r := []) (t := (11, 0)) rfl rfl rfl rfl (WF.t hw 59 rfl) rfl rfl ⟨rfl, rfl⟩ (by omega) (s_ofP hw hn ?_)
        show Wp d 221 61 [some (.ref 59), some (.int (Int32.ofNat n)), some (.int (willS (h.2.2.1 60) RL n)), some (.int (stE (f_strokesOf (h.2.2.1 60) n) c)), some (.int (f_costsOf (h.2.2.1 60) n))] [.int (h.2.2.1 60 (11 + 4 * n + 3))] (hPl h p) Q
        refine Wp.seg 1 (pc1 := 63) (ls1 := [some (.ref 59), some (.int (Int32.ofNat n)), some (.int (willS (h.2.2.1 60) RL n)), some (.int (stE (f_strokesOf (h.2.2.1 60) n) c)), some (.int (f_costsOf (h.2.2.1 60) n))]) (st1 := [.int (f_costsOf (h.2.2.1 60) n), .int (h.2.2.1 60 (11 + 4 * n + 3))]) rfl ?_
        refine Wp.if2 rfl (fun (c4 : (h.2.2.1 60 (11 + 4 * n + 3)) < (f_costsOf (h.2.2.1 60) n)) => ?_) (fun (c4 : ¬ ((h.2.2.1 60 (11 + 4 * n + 3)) < (f_costsOf (h.2.2.1 60) n))) => ?_)
        · exact Wp.retv rfl rfl (((((hQ p).2 c1).1 c2).2 c3).1 c4)
        · refine Wp.seg 6 (pc1 := 72) (ls1 := [some (.ref 59), some (.int (Int32.ofNat n)), some (.int (willS (h.2.2.1 60) RL n)), some (.int (stE (f_strokesOf (h.2.2.1 60) n) c)), some (.int (f_costsOf (h.2.2.1 60) n))]) (st1 := [.int (3), .int (Int32.ofNat n), .ref 59, .int (3), .int (Int32.ofNat n), .ref 59]) rfl ?_
          refine Wp.invV (d2 := 0) (as := [.ref 59, .int (Int32.ofNat n), .int (3)]) (r := [.int (3), .int (Int32.ofNat n), .ref 59]) (t := (11, 0)) rfl rfl rfl rfl (WF.t hw 59 rfl) rfl rfl ⟨rfl, rfl⟩ (by omega) (s_ofP hw hn ?_)
          show Wp d 221 75 [some (.ref 59), some (.int (Int32.ofNat n)), some (.int (willS (h.2.2.1 60) RL n)), some (.int (stE (f_strokesOf (h.2.2.1 60) n) c)), some (.int (f_costsOf (h.2.2.1 60) n))] [.int (h.2.2.1 60 (11 + 4 * n + 3)), .int (3), .int (Int32.ofNat n), .ref 59] (hPl h p) Q
          refine Wp.seg 2 (pc1 := 78) (ls1 := [some (.ref 59), some (.int (Int32.ofNat n)), some (.int (willS (h.2.2.1 60) RL n)), some (.int (stE (f_strokesOf (h.2.2.1 60) n) c)), some (.int (f_costsOf (h.2.2.1 60) n))]) (st1 := [.int ((h.2.2.1 60 (11 + 4 * n + 3)) - (f_costsOf (h.2.2.1 60) n)), .int (3), .int (Int32.ofNat n), .ref 59]) rfl ?_
          refine Wp.invV (d2 := 0) (as := [.ref 59, .int (Int32.ofNat n), .int (3), .int ((h.2.2.1 60 (11 + 4 * n + 3)) - (f_costsOf (h.2.2.1 60) n))]) (r := []) (t := (11, 0)) rfl rfl rfl rfl (WF.t hw 59 rfl) rfl rfl ⟨rfl, rfl⟩ (by omega) (s_put (h := hPl h p) hw (n := n) (w := 3) rfl (by omega) ?_)
          show Wp d 221 81 [some (.ref 59), some (.int (Int32.ofNat n)), some (.int (willS (h.2.2.1 60) RL n)), some (.int (stE (f_strokesOf (h.2.2.1 60) n) c)), some (.int (f_costsOf (h.2.2.1 60) n))] [] (kwi (hPl h p) 60 (11 + 4 * n + 3) ((h.2.2.1 60 (11 + 4 * n + 3)) - (f_costsOf (h.2.2.1 60) n))) Q
          refine Wp.seg 1 (pc1 := 82) (ls1 := [some (.ref 59), some (.int (Int32.ofNat n)), some (.int (willS (h.2.2.1 60) RL n)), some (.int (stE (f_strokesOf (h.2.2.1 60) n) c)), some (.int (f_costsOf (h.2.2.1 60) n))]) (st1 := [.ref 59]) rfl ?_
          refine Wp.gr (t := (11, 0)) (v := some (60)) rfl (WF.t hw 59 rfl) rfl (WF.r hw 59 0 58 rfl) ?_
          show Wp d 221 85 [some (.ref 59), some (.int (Int32.ofNat n)), some (.int (willS (h.2.2.1 60) RL n)), some (.int (stE (f_strokesOf (h.2.2.1 60) n) c)), some (.int (f_costsOf (h.2.2.1 60) n))] [.ref 60] (kwi (hPl h p) 60 (11 + 4 * n + 3) ((h.2.2.1 60 (11 + 4 * n + 3)) - (f_costsOf (h.2.2.1 60) n))) Q
          refine Wp.seg 2 (pc1 := 87) (ls1 := [some (.ref 59), some (.int (Int32.ofNat n)), some (.int (willS (h.2.2.1 60) RL n)), some (.int (stE (f_strokesOf (h.2.2.1 60) n) c)), some (.int (f_costsOf (h.2.2.1 60) n))]) (st1 := [.int (3), .ref 60, .int (3), .ref 60]) rfl ?_
          refine Wp.iald (j := 3) (k := 20) (n := 585) rfl (WF.t hw 60 rfl) rfl rfl (by decide) (by decide) ?_
          rw [show (kwi (hPl h p) 60 (11 + 4 * n + 3) ((h.2.2.1 60 (11 + 4 * n + 3)) - (f_costsOf (h.2.2.1 60) n))).2.2.1 60 3 = h.2.2.1 60 3 from (kwi_o (by omega)).trans (congrFun (hPl_S _ _) _)]
          refine Wp.seg 2 (pc1 := 90) (ls1 := [some (.ref 59), some (.int (Int32.ofNat n)), some (.int (willS (h.2.2.1 60) RL n)), some (.int (stE (f_strokesOf (h.2.2.1 60) n) c)), some (.int (f_costsOf (h.2.2.1 60) n))]) (st1 := [.int ((h.2.2.1 60 3) ||| (stE (f_strokesOf (h.2.2.1 60) n) c)), .int (3), .ref 60]) rfl ?_
          refine Wp.iast (j := 3) (n := 585) rfl (WF.t hw 60 rfl) rfl (by decide) (by decide) ?_
          exact Wp.retv rfl rfl (((((hQ p).2 c1).1 c2).2 c3).2 c4)
    · refine Wp.seg 2 (pc1 := 30) (ls1 := [some (.ref 59), some (.int (Int32.ofNat n)), some (.int (willS (h.2.2.1 60) RL n)), some (.int (stE (f_strokesOf (h.2.2.1 60) n) c)), some (.int (f_costsOf (h.2.2.1 60) n))]) (st1 := [.int (Int32.ofNat n), .ref 59]) rfl ?_
      refine Wp.invV (d2 := 1) (as := [.ref 59, .int (Int32.ofNat n)]) (r := []) (t := (11, 0)) rfl rfl rfl rfl (WF.t hw 59 rfl) rfl rfl ⟨rfl, rfl⟩ (by omega) (s_rubP hw (Nat.le_refl _) hn ?_)
      show Wp d 221 33 [some (.ref 59), some (.int (Int32.ofNat n)), some (.int (willS (h.2.2.1 60) RL n)), some (.int (stE (f_strokesOf (h.2.2.1 60) n) c)), some (.int (f_costsOf (h.2.2.1 60) n))] [.int (f_doesRub (h.2.2.1 60) n)] (hPl h p) Q
      refine Wp.if1 rfl (fun (c5 : (f_doesRub (h.2.2.1 60) n) = 0) => ?_) (fun (c5 : ¬ ((f_doesRub (h.2.2.1 60) n) = 0)) => ?_)
      · refine Wp.seg 1 (pc1 := 52) (ls1 := [some (.ref 59), some (.int (Int32.ofNat n)), some (.int (willS (h.2.2.1 60) RL n)), some (.int (stE (f_strokesOf (h.2.2.1 60) n) c)), some (.int (f_costsOf (h.2.2.1 60) n))]) (st1 := [.int (willS (h.2.2.1 60) RL n)]) rfl ?_
        refine Wp.if1 rfl (fun (c6 : ¬ (willS (h.2.2.1 60) RL n) = 0) => ?_) (fun (c6 : ¬ (¬ (willS (h.2.2.1 60) RL n) = 0)) => ?_)
        · exact Wp.retv rfl rfl (((((hQ p).2 c1).2 c2).1 c5).1 c6)
        · refine Wp.seg 3 (pc1 := 58) (ls1 := [some (.ref 59), some (.int (Int32.ofNat n)), some (.int (willS (h.2.2.1 60) RL n)), some (.int (stE (f_strokesOf (h.2.2.1 60) n) c)), some (.int (f_costsOf (h.2.2.1 60) n))]) (st1 := [.int (3), .int (Int32.ofNat n), .ref 59]) rfl ?_
          refine Wp.invV (d2 := 0) (as := [.ref 59, .int (Int32.ofNat n), .int (3)]) (r := []) (t := (11, 0)) rfl rfl rfl rfl (WF.t hw 59 rfl) rfl rfl ⟨rfl, rfl⟩ (by omega) (s_ofP hw hn ?_)
          show Wp d 221 61 [some (.ref 59), some (.int (Int32.ofNat n)), some (.int (willS (h.2.2.1 60) RL n)), some (.int (stE (f_strokesOf (h.2.2.1 60) n) c)), some (.int (f_costsOf (h.2.2.1 60) n))] [.int (h.2.2.1 60 (11 + 4 * n + 3))] (hPl h p) Q
          refine Wp.seg 1 (pc1 := 63) (ls1 := [some (.ref 59), some (.int (Int32.ofNat n)), some (.int (willS (h.2.2.1 60) RL n)), some (.int (stE (f_strokesOf (h.2.2.1 60) n) c)), some (.int (f_costsOf (h.2.2.1 60) n))]) (st1 := [.int (f_costsOf (h.2.2.1 60) n), .int (h.2.2.1 60 (11 + 4 * n + 3))]) rfl ?_
          refine Wp.if2 rfl (fun (c7 : (h.2.2.1 60 (11 + 4 * n + 3)) < (f_costsOf (h.2.2.1 60) n)) => ?_) (fun (c7 : ¬ ((h.2.2.1 60 (11 + 4 * n + 3)) < (f_costsOf (h.2.2.1 60) n))) => ?_)
          · exact Wp.retv rfl rfl ((((((hQ p).2 c1).2 c2).1 c5).2 c6).1 c7)
          · refine Wp.seg 6 (pc1 := 72) (ls1 := [some (.ref 59), some (.int (Int32.ofNat n)), some (.int (willS (h.2.2.1 60) RL n)), some (.int (stE (f_strokesOf (h.2.2.1 60) n) c)), some (.int (f_costsOf (h.2.2.1 60) n))]) (st1 := [.int (3), .int (Int32.ofNat n), .ref 59, .int (3), .int (Int32.ofNat n), .ref 59]) rfl ?_
            refine Wp.invV (d2 := 0) (as := [.ref 59, .int (Int32.ofNat n), .int (3)]) (r := [.int (3), .int (Int32.ofNat n), .ref 59]) (t := (11, 0)) rfl rfl rfl rfl (WF.t hw 59 rfl) rfl rfl ⟨rfl, rfl⟩ (by omega) (s_ofP hw hn ?_)
            show Wp d 221 75 [some (.ref 59), some (.int (Int32.ofNat n)), some (.int (willS (h.2.2.1 60) RL n)), some (.int (stE (f_strokesOf (h.2.2.1 60) n) c)), some (.int (f_costsOf (h.2.2.1 60) n))] [.int (h.2.2.1 60 (11 + 4 * n + 3)), .int (3), .int (Int32.ofNat n), .ref 59] (hPl h p) Q
            refine Wp.seg 2 (pc1 := 78) (ls1 := [some (.ref 59), some (.int (Int32.ofNat n)), some (.int (willS (h.2.2.1 60) RL n)), some (.int (stE (f_strokesOf (h.2.2.1 60) n) c)), some (.int (f_costsOf (h.2.2.1 60) n))]) (st1 := [.int ((h.2.2.1 60 (11 + 4 * n + 3)) - (f_costsOf (h.2.2.1 60) n)), .int (3), .int (Int32.ofNat n), .ref 59]) rfl ?_
            refine Wp.invV (d2 := 0) (as := [.ref 59, .int (Int32.ofNat n), .int (3), .int ((h.2.2.1 60 (11 + 4 * n + 3)) - (f_costsOf (h.2.2.1 60) n))]) (r := []) (t := (11, 0)) rfl rfl rfl rfl (WF.t hw 59 rfl) rfl rfl ⟨rfl, rfl⟩ (by omega) (s_put (h := hPl h p) hw (n := n) (w := 3) rfl (by omega) ?_)
            show Wp d 221 81 [some (.ref 59), some (.int (Int32.ofNat n)), some (.int (willS (h.2.2.1 60) RL n)), some (.int (stE (f_strokesOf (h.2.2.1 60) n) c)), some (.int (f_costsOf (h.2.2.1 60) n))] [] (kwi (hPl h p) 60 (11 + 4 * n + 3) ((h.2.2.1 60 (11 + 4 * n + 3)) - (f_costsOf (h.2.2.1 60) n))) Q
            refine Wp.seg 1 (pc1 := 82) (ls1 := [some (.ref 59), some (.int (Int32.ofNat n)), some (.int (willS (h.2.2.1 60) RL n)), some (.int (stE (f_strokesOf (h.2.2.1 60) n) c)), some (.int (f_costsOf (h.2.2.1 60) n))]) (st1 := [.ref 59]) rfl ?_
            refine Wp.gr (t := (11, 0)) (v := some (60)) rfl (WF.t hw 59 rfl) rfl (WF.r hw 59 0 58 rfl) ?_
            show Wp d 221 85 [some (.ref 59), some (.int (Int32.ofNat n)), some (.int (willS (h.2.2.1 60) RL n)), some (.int (stE (f_strokesOf (h.2.2.1 60) n) c)), some (.int (f_costsOf (h.2.2.1 60) n))] [.ref 60] (kwi (hPl h p) 60 (11 + 4 * n + 3) ((h.2.2.1 60 (11 + 4 * n + 3)) - (f_costsOf (h.2.2.1 60) n))) Q
            refine Wp.seg 2 (pc1 := 87) (ls1 := [some (.ref 59), some (.int (Int32.ofNat n)), some (.int (willS (h.2.2.1 60) RL n)), some (.int (stE (f_strokesOf (h.2.2.1 60) n) c)), some (.int (f_costsOf (h.2.2.1 60) n))]) (st1 := [.int (3), .ref 60, .int (3), .ref 60]) rfl ?_
            refine Wp.iald (j := 3) (k := 20) (n := 585) rfl (WF.t hw 60 rfl) rfl rfl (by decide) (by decide) ?_
            rw [show (kwi (hPl h p) 60 (11 + 4 * n + 3) ((h.2.2.1 60 (11 + 4 * n + 3)) - (f_costsOf (h.2.2.1 60) n))).2.2.1 60 3 = h.2.2.1 60 3 from (kwi_o (by omega)).trans (congrFun (hPl_S _ _) _)]
            refine Wp.seg 2 (pc1 := 90) (ls1 := [some (.ref 59), some (.int (Int32.ofNat n)), some (.int (willS (h.2.2.1 60) RL n)), some (.int (stE (f_strokesOf (h.2.2.1 60) n) c)), some (.int (f_costsOf (h.2.2.1 60) n))]) (st1 := [.int ((h.2.2.1 60 3) ||| (stE (f_strokesOf (h.2.2.1 60) n) c)), .int (3), .ref 60]) rfl ?_
            refine Wp.iast (j := 3) (n := 585) rfl (WF.t hw 60 rfl) rfl (by decide) (by decide) ?_
            exact Wp.retv rfl rfl ((((((hQ p).2 c1).2 c2).1 c5).2 c6).2 c7)
      · refine Wp.seg 1 (pc1 := 37) (ls1 := [some (.ref 59), some (.int (Int32.ofNat n)), some (.int (willS (h.2.2.1 60) RL n)), some (.int (stE (f_strokesOf (h.2.2.1 60) n) c)), some (.int (f_costsOf (h.2.2.1 60) n))]) (st1 := [.ref 59]) rfl ?_
        refine Wp.gr (t := (11, 0)) (v := some (60)) rfl (WF.t hw 59 rfl) rfl (WF.r hw 59 0 58 rfl) ?_
        show Wp d 221 40 [some (.ref 59), some (.int (Int32.ofNat n)), some (.int (willS (h.2.2.1 60) RL n)), some (.int (stE (f_strokesOf (h.2.2.1 60) n) c)), some (.int (f_costsOf (h.2.2.1 60) n))] [.ref 60] (hPl h p) Q
        refine Wp.seg 2 (pc1 := 42) (ls1 := [some (.ref 59), some (.int (Int32.ofNat n)), some (.int (willS (h.2.2.1 60) RL n)), some (.int (stE (f_strokesOf (h.2.2.1 60) n) c)), some (.int (f_costsOf (h.2.2.1 60) n))]) (st1 := [.int (3), .ref 60, .int (3), .ref 60]) rfl ?_
        refine Wp.iald (j := 3) (k := 20) (n := 585) rfl (WF.t hw 60 rfl) rfl rfl (by decide) (by decide) ?_
        rw [show (hPl h p).2.2.1 60 3 = h.2.2.1 60 3 from congrFun (hPl_S _ _) _]
        refine Wp.seg 4 (pc1 := 47) (ls1 := [some (.ref 59), some (.int (Int32.ofNat n)), some (.int (willS (h.2.2.1 60) RL n)), some (.int (stE (f_strokesOf (h.2.2.1 60) n) c)), some (.int (f_costsOf (h.2.2.1 60) n))]) (st1 := [.int ((h.2.2.1 60 3) &&& ((stE (f_strokesOf (h.2.2.1 60) n) c) ^^^ (-1 : Int32))), .int (3), .ref 60]) rfl ?_
        refine Wp.iast (j := 3) (n := 585) rfl (WF.t hw 60 rfl) rfl (by decide) (by decide) ?_
        refine Wp.seg 1 (pc1 := 91) (ls1 := [some (.ref 59), some (.int (Int32.ofNat n)), some (.int (willS (h.2.2.1 60) RL n)), some (.int (stE (f_strokesOf (h.2.2.1 60) n) c)), some (.int (f_costsOf (h.2.2.1 60) n))]) (st1 := []) rfl ?_
        exact Wp.retv rfl rfl ((((hQ p).2 c1).2 c2).2 c5)
theorem s_acts {d : Nat} {Q : KO → Prop} {h : KH} (hw : WF h) {n c : Nat} {RL : List Rul} (hn : n < 6) (hR : rulesS (h.2.2.1 60) RL) (hc2 : c < 12) (hc : h.2.2.1 60 (11 + 4 * n + 1) = Int32.ofNat c) (hd : 4 ≤ d) (hQ : ∀ p, Q (none, hG h (actS (h.2.2.1 60) (willS (h.2.2.1 60) RL n) (stE (f_strokesOf (h.2.2.1 60) n) c) n) p)) : Cl d 221 [.ref 59, .int (Int32.ofNat n)] h Q := by
  unfold actS at hQ
  have y1 : ∀ p, (willS (h.2.2.1 60) RL n = 2 ∨ (willS (h.2.2.1 60) RL n = 0 ∧ ¬ f_doesRub (h.2.2.1 60) n = 0)) → Q (none, kwi (hPl h p) 60 3 (h.2.2.1 60 3 &&& (stE (f_strokesOf (h.2.2.1 60) n) c ^^^ -1))) := by
    intro p q
    simp only [if_pos q] at hQ
    rw [hG_hPl, hG_w]
    exact hQ p
  have y2 : ∀ p, ¬ (willS (h.2.2.1 60) RL n = 2 ∨ (willS (h.2.2.1 60) RL n = 0 ∧ ¬ f_doesRub (h.2.2.1 60) n = 0)) → (willS (h.2.2.1 60) RL n = 0 ∧ f_costsOf (h.2.2.1 60) n ≤ h.2.2.1 60 (11 + 4 * n + 3)) → Q (none, kwi (kwi (hPl h p) 60 (11 + 4 * n + 3) (h.2.2.1 60 (11 + 4 * n + 3) - f_costsOf (h.2.2.1 60) n)) 60 3 (h.2.2.1 60 3 ||| stE (f_strokesOf (h.2.2.1 60) n) c)) := by
    intro p q q2
    simp only [if_neg q, if_pos q2] at hQ
    rw [hG_hPl, hG_w, hG_w]
    exact hQ p
  have y3 : ∀ p, ¬ (willS (h.2.2.1 60) RL n = 2 ∨ (willS (h.2.2.1 60) RL n = 0 ∧ ¬ f_doesRub (h.2.2.1 60) n = 0)) → ¬ (willS (h.2.2.1 60) RL n = 0 ∧ f_costsOf (h.2.2.1 60) n ≤ h.2.2.1 60 (11 + 4 * n + 3)) → Q (none, hPl h p) := by
    intro p q q2
    simp only [if_neg q, if_neg q2] at hQ
    rw [hG_hPl]
    exact hQ p
  exact t_acts hw hn hR hc2 hc hd (fun p => ⟨fun a1 => y1 p (Or.inl a1), fun a1 => ⟨fun a2 => ⟨fun _ => y3 p (fun q => q.elim a1 (fun z => a2 z.1)) (fun q => a2 q.1), fun b => absurd a2 b⟩, fun a2 => ⟨fun a3 => ⟨fun b => absurd b a2, fun _ => ⟨fun a4 => y3 p (fun q => q.elim a1 (fun z => z.2 a3)) (fun q => Int32.not_le.mpr a4 q.2), fun a4 => y2 p (fun q => q.elim a1 (fun z => z.2 a3)) ⟨Decidable.not_not.mp a2, Int32.not_lt.mp a4⟩⟩⟩, fun a3 => y1 p (Or.inr ⟨Decidable.not_not.mp a2, a3⟩)⟩⟩⟩)
