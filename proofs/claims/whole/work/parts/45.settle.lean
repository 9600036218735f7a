/-! KM: the class, what comes behind an act -/
theorem kwi_s {H : KH} {a j : Nat} {x : Int32} : (kwi H a j x).2.2.1 a j = x := by
  show ku H.2.2.1 a (ku (H.2.2.1 a) j x) a j = x
  rw [ku_s, ku_s]
set_option maxHeartbeats 4000000 in
theorem t_cshutCells {d : Nat} {Q : KO → Prop} {h : KH} (hw : WF h) {a c : Nat} (ha : cityA a) (hc : c < 12) (h2 : h.2.2.1 a 2 = Int32.ofNat c) (hd : 2 ≤ d) (hQ : Q (some (.int (shutS (Int32.ofNat c) (h.2.2.1 a 3))), h)) : Cl d 21 [.ref a] h Q := by
  refine Cl.of (ls := [some (.ref a)]) rfl rfl ?_
  refine Wp.seg 1 (pc1 := 1) (ls1 := [some (.ref a)]) (st1 := [.ref a]) rfl ?_
  refine Wp.gi (t := (1, 0)) rfl (cA_t hw ha) (Or.inl rfl) ?_
  rw [show h.2.2.1 a 2 = Int32.ofNat c from h2]
  refine Wp.seg 1 (pc1 := 5) (ls1 := [some (.ref a)]) (st1 := [.ref a, .int (Int32.ofNat c)]) rfl ?_
  refine Wp.gi (t := (1, 0)) rfl (cA_t hw ha) (Or.inl rfl) ?_
  refine Wp.inv (d2 := 1) (as := [.int (Int32.ofNat c), .int (h.2.2.1 a 3)]) (r := []) rfl rfl rfl rfl rfl rfl (by omega) (s_cshut (Nat.le_refl _) hc ?_)
  show Wp d 21 11 [some (.ref a)] [.int (shutS (Int32.ofNat c) (h.2.2.1 a 3))] h Q
  exact Wp.reti rfl rfl hQ
theorem s_cshutCells {d : Nat} {Q : KO → Prop} {h : KH} (hw : WF h) {a c : Nat} (ha : cityA a) (hd : 2 ≤ d) (hc : c < 12) (h2 : h.2.2.1 a 2 = Int32.ofNat c) {l : Int32} (h3 : h.2.2.1 a 3 = l) (hQ : Q (some (.int (shutS (Int32.ofNat c) l)), h)) : Cl d 21 [.ref a] h Q := t_cshutCells hw ha hc h2 hd (by rw [h3]; exact hQ)
set_option maxHeartbeats 4000000 in
theorem t_setT {d : Nat} {Q : KO → Prop} {h : KH} (hw : WF h) {a c : Nat} {t : Int32} {z : Option Value} (ha : cityA a) (hc : c < 12) (h2 : h.2.2.1 a 2 = Int32.ofNat c) (hd : 3 ≤ d) (hQ : ((((h.2.2.1 a 5) >>> ((h.2.2.1 a 7) &&& 31)) &&& (1 : Int32)) = 0 → Q (some (.int (shutS (Int32.ofNat c) (h.2.2.1 a 3))), kwi (kwi h a 8 ((h.2.2.1 a 8) + (f_bitCount (shutS (Int32.ofNat c) (h.2.2.1 a 3))))) a 7 ((h.2.2.1 a 7) + (1 : Int32)))) ∧ (¬ ((((h.2.2.1 a 5) >>> ((h.2.2.1 a 7) &&& 31)) &&& (1 : Int32)) = 0) → Q (some (.int (shutS (Int32.ofNat c) (((h.2.2.1 a 3) &&& (h.2.2.1 a 4))))), kwi (kwi (kwi h a 3 ((h.2.2.1 a 3) &&& (h.2.2.1 a 4))) a 8 ((h.2.2.1 a 8) + (f_bitCount (shutS (Int32.ofNat c) (((h.2.2.1 a 3) &&& (h.2.2.1 a 4))))))) a 7 ((h.2.2.1 a 7) + (1 : Int32))))) : Wp d 15 22 [some (.ref a), some (.int (t)), z] [] h Q := by
  refine Wp.seg 1 (pc1 := 23) (ls1 := [some (.ref a), some (.int (t)), z]) (st1 := [.ref a]) rfl ?_
  refine Wp.gi (t := (1, 0)) rfl (cA_t hw ha) (Or.inl rfl) ?_
  refine Wp.seg 1 (pc1 := 27) (ls1 := [some (.ref a), some (.int (t)), z]) (st1 := [.ref a, .int (h.2.2.1 a 5)]) rfl ?_
  refine Wp.gi (t := (1, 0)) rfl (cA_t hw ha) (Or.inl rfl) ?_
  refine Wp.seg 3 (pc1 := 33) (ls1 := [some (.ref a), some (.int (t)), z]) (st1 := [.int (((h.2.2.1 a 5) >>> ((h.2.2.1 a 7) &&& 31)) &&& (1 : Int32))]) rfl ?_
  refine Wp.if1 rfl (fun (c1 : (((h.2.2.1 a 5) >>> ((h.2.2.1 a 7) &&& 31)) &&& (1 : Int32)) = 0) => ?_) (fun (c1 : ¬ ((((h.2.2.1 a 5) >>> ((h.2.2.1 a 7) &&& 31)) &&& (1 : Int32)) = 0)) => ?_)
  · refine Wp.seg 1 (pc1 := 50) (ls1 := [some (.ref a), some (.int (t)), z]) (st1 := [.ref a]) rfl ?_
    refine Wp.invV (d2 := 2) (as := [.ref a]) (r := []) (t := (1, 0)) rfl rfl rfl rfl (cA_t hw ha) rfl rfl ⟨rfl, rfl⟩ (by omega) (s_cshutCells hw ha (Nat.le_refl _) hc h2 rfl ?_)
    show Wp d 15 53 [some (.ref a), some (.int (t)), z] [.int (shutS (Int32.ofNat c) (h.2.2.1 a 3))] h Q
    refine Wp.seg 3 (pc1 := 56) (ls1 := [some (.ref a), some (.int (t)), some (.int (shutS (Int32.ofNat c) (h.2.2.1 a 3)))]) (st1 := [.ref a, .ref a]) rfl ?_
    refine Wp.gi (t := (1, 0)) rfl (cA_t hw ha) (Or.inl rfl) ?_
    refine Wp.seg 1 (pc1 := 60) (ls1 := [some (.ref a), some (.int (t)), some (.int (shutS (Int32.ofNat c) (h.2.2.1 a 3)))]) (st1 := [.int (shutS (Int32.ofNat c) (h.2.2.1 a 3)), .int (h.2.2.1 a 8), .ref a]) rfl ?_
    refine Wp.inv (d2 := 0) (as := [.int (shutS (Int32.ofNat c) (h.2.2.1 a 3))]) (r := [.int (h.2.2.1 a 8), .ref a]) rfl rfl rfl rfl rfl rfl (by omega) (s_bitCount (Nat.le_refl _) ?_)
    show Wp d 15 63 [some (.ref a), some (.int (t)), some (.int (shutS (Int32.ofNat c) (h.2.2.1 a 3)))] [.int (f_bitCount (shutS (Int32.ofNat c) (h.2.2.1 a 3))), .int (h.2.2.1 a 8), .ref a] h Q
    refine Wp.seg 1 (pc1 := 64) (ls1 := [some (.ref a), some (.int (t)), some (.int (shutS (Int32.ofNat c) (h.2.2.1 a 3)))]) (st1 := [.int ((h.2.2.1 a 8) + (f_bitCount (shutS (Int32.ofNat c) (h.2.2.1 a 3)))), .ref a]) rfl ?_
    refine Wp.pi (t := (1, 0)) rfl (cA_t hw ha) (Or.inl rfl) ?_
    refine Wp.seg 2 (pc1 := 69) (ls1 := [some (.ref a), some (.int (t)), some (.int (shutS (Int32.ofNat c) (h.2.2.1 a 3)))]) (st1 := [.ref a, .ref a]) rfl ?_
    refine Wp.gi (t := (1, 0)) rfl (cA_t hw ha) (Or.inl rfl) ?_
    rw [show (kwi h a 8 ((h.2.2.1 a 8) + (f_bitCount (shutS (Int32.ofNat c) (h.2.2.1 a 3))))).2.2.1 a 7 = h.2.2.1 a 7 from (kwi_o (by decide)).trans (rfl)]
    refine Wp.seg 2 (pc1 := 74) (ls1 := [some (.ref a), some (.int (t)), some (.int (shutS (Int32.ofNat c) (h.2.2.1 a 3)))]) (st1 := [.int ((h.2.2.1 a 7) + (1 : Int32)), .ref a]) rfl ?_
    refine Wp.pi (t := (1, 0)) rfl (cA_t hw ha) (Or.inl rfl) ?_
    refine Wp.seg 1 (pc1 := 78) (ls1 := [some (.ref a), some (.int (t)), some (.int (shutS (Int32.ofNat c) (h.2.2.1 a 3)))]) (st1 := [.int (shutS (Int32.ofNat c) (h.2.2.1 a 3))]) rfl ?_
    exact Wp.reti rfl rfl (hQ.1 c1)
  · refine Wp.seg 2 (pc1 := 38) (ls1 := [some (.ref a), some (.int (t)), z]) (st1 := [.ref a, .ref a]) rfl ?_
    refine Wp.gi (t := (1, 0)) rfl (cA_t hw ha) (Or.inl rfl) ?_
    refine Wp.seg 1 (pc1 := 42) (ls1 := [some (.ref a), some (.int (t)), z]) (st1 := [.ref a, .int (h.2.2.1 a 3), .ref a]) rfl ?_
    refine Wp.gi (t := (1, 0)) rfl (cA_t hw ha) (Or.inl rfl) ?_
    refine Wp.seg 1 (pc1 := 46) (ls1 := [some (.ref a), some (.int (t)), z]) (st1 := [.int ((h.2.2.1 a 3) &&& (h.2.2.1 a 4)), .ref a]) rfl ?_
    refine Wp.pi (t := (1, 0)) rfl (cA_t hw ha) (Or.inl rfl) ?_
    refine Wp.seg 1 (pc1 := 50) (ls1 := [some (.ref a), some (.int (t)), z]) (st1 := [.ref a]) rfl ?_
    refine Wp.invV (d2 := 2) (as := [.ref a]) (r := []) (t := (1, 0)) rfl rfl rfl rfl (cA_t hw ha) rfl rfl ⟨rfl, rfl⟩ (by omega) (s_cshutCells (h := kwi h a 3 ((h.2.2.1 a 3) &&& (h.2.2.1 a 4))) hw ha (Nat.le_refl _) hc ((kwi_o (by decide)).trans (h2)) (kwi_s) ?_)
    show Wp d 15 53 [some (.ref a), some (.int (t)), z] [.int (shutS (Int32.ofNat c) (((h.2.2.1 a 3) &&& (h.2.2.1 a 4))))] (kwi h a 3 ((h.2.2.1 a 3) &&& (h.2.2.1 a 4))) Q
    refine Wp.seg 3 (pc1 := 56) (ls1 := [some (.ref a), some (.int (t)), some (.int (shutS (Int32.ofNat c) (((h.2.2.1 a 3) &&& (h.2.2.1 a 4)))))]) (st1 := [.ref a, .ref a]) rfl ?_
    refine Wp.gi (t := (1, 0)) rfl (cA_t hw ha) (Or.inl rfl) ?_
    rw [show (kwi h a 3 ((h.2.2.1 a 3) &&& (h.2.2.1 a 4))).2.2.1 a 8 = h.2.2.1 a 8 from (kwi_o (by decide)).trans (rfl)]
    refine Wp.seg 1 (pc1 := 60) (ls1 := [some (.ref a), some (.int (t)), some (.int (shutS (Int32.ofNat c) (((h.2.2.1 a 3) &&& (h.2.2.1 a 4)))))]) (st1 := [.int (shutS (Int32.ofNat c) (((h.2.2.1 a 3) &&& (h.2.2.1 a 4)))), .int (h.2.2.1 a 8), .ref a]) rfl ?_
    refine Wp.inv (d2 := 0) (as := [.int (shutS (Int32.ofNat c) (((h.2.2.1 a 3) &&& (h.2.2.1 a 4))))]) (r := [.int (h.2.2.1 a 8), .ref a]) rfl rfl rfl rfl rfl rfl (by omega) (s_bitCount (Nat.le_refl _) ?_)
    show Wp d 15 63 [some (.ref a), some (.int (t)), some (.int (shutS (Int32.ofNat c) (((h.2.2.1 a 3) &&& (h.2.2.1 a 4)))))] [.int (f_bitCount (shutS (Int32.ofNat c) (((h.2.2.1 a 3) &&& (h.2.2.1 a 4))))), .int (h.2.2.1 a 8), .ref a] (kwi h a 3 ((h.2.2.1 a 3) &&& (h.2.2.1 a 4))) Q
    refine Wp.seg 1 (pc1 := 64) (ls1 := [some (.ref a), some (.int (t)), some (.int (shutS (Int32.ofNat c) (((h.2.2.1 a 3) &&& (h.2.2.1 a 4)))))]) (st1 := [.int ((h.2.2.1 a 8) + (f_bitCount (shutS (Int32.ofNat c) (((h.2.2.1 a 3) &&& (h.2.2.1 a 4)))))), .ref a]) rfl ?_
    refine Wp.pi (t := (1, 0)) rfl (cA_t hw ha) (Or.inl rfl) ?_
    refine Wp.seg 2 (pc1 := 69) (ls1 := [some (.ref a), some (.int (t)), some (.int (shutS (Int32.ofNat c) (((h.2.2.1 a 3) &&& (h.2.2.1 a 4)))))]) (st1 := [.ref a, .ref a]) rfl ?_
    refine Wp.gi (t := (1, 0)) rfl (cA_t hw ha) (Or.inl rfl) ?_
    rw [show (kwi (kwi h a 3 ((h.2.2.1 a 3) &&& (h.2.2.1 a 4))) a 8 ((h.2.2.1 a 8) + (f_bitCount (shutS (Int32.ofNat c) (((h.2.2.1 a 3) &&& (h.2.2.1 a 4))))))).2.2.1 a 7 = h.2.2.1 a 7 from (kwi_o (by decide)).trans ((kwi_o (by decide)).trans (rfl))]
    refine Wp.seg 2 (pc1 := 74) (ls1 := [some (.ref a), some (.int (t)), some (.int (shutS (Int32.ofNat c) (((h.2.2.1 a 3) &&& (h.2.2.1 a 4)))))]) (st1 := [.int ((h.2.2.1 a 7) + (1 : Int32)), .ref a]) rfl ?_
    refine Wp.pi (t := (1, 0)) rfl (cA_t hw ha) (Or.inl rfl) ?_
    refine Wp.seg 1 (pc1 := 78) (ls1 := [some (.ref a), some (.int (t)), some (.int (shutS (Int32.ofNat c) (((h.2.2.1 a 3) &&& (h.2.2.1 a 4)))))]) (st1 := [.int (shutS (Int32.ofNat c) (((h.2.2.1 a 3) &&& (h.2.2.1 a 4))))]) rfl ?_
    exact Wp.reti rfl rfl (hQ.2 c1)
