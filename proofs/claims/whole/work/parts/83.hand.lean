/-! KM: both sides: hand() -/
set_option maxHeartbeats 4000000 in
theorem t_add {d : Nat} {Q : KO → Prop} {h : KH} (hw : WF h) {n : Nat} {k p f y : Int32} (hn : n < 6) (h1 : h.2.2.1 1 1 = Int32.ofNat n) (hd : 1 ≤ d) (hQ : Q (some (.int (Int32.ofNat n)), kwi (kwi (kwi (kwi (kwi h 1 1 ((Int32.ofNat n) + (1 : Int32))) (1 + 1) (4 * n + 0) k) (1 + 1) (4 * n + 1) p) (1 + 1) (4 * n + 2) f) (1 + 1) (4 * n + 3) y)) : Cl d 4 [.ref 1, .int (k), .int (p), .int (f), .int (y)] h Q := by
  refine Cl.of (ls := [some (.ref 1), some (.int (k)), some (.int (p)), some (.int (f)), some (.int (y)), none]) rfl rfl ?_
  refine Wp.seg 1 (pc1 := 1) (ls1 := [some (.ref 1), some (.int (k)), some (.int (p)), some (.int (f)), some (.int (y)), none]) (st1 := [.ref 1]) rfl ?_
  refine Wp.gi (t := (1, 0)) rfl (WF.t hw 1 rfl) (Or.inl rfl) ?_
  rw [show h.2.2.1 1 1 = Int32.ofNat n from h1]
  refine Wp.seg 3 (pc1 := 8) (ls1 := [some (.ref 1), some (.int (k)), some (.int (p)), some (.int (f)), some (.int (y)), some (.int (Int32.ofNat n))]) (st1 := [.ref 1, .ref 1]) rfl ?_
  refine Wp.gi (t := (1, 0)) rfl (WF.t hw 1 rfl) (Or.inl rfl) ?_
  rw [show h.2.2.1 1 1 = Int32.ofNat n from h1]
  refine Wp.seg 2 (pc1 := 13) (ls1 := [some (.ref 1), some (.int (k)), some (.int (p)), some (.int (f)), some (.int (y)), some (.int (Int32.ofNat n))]) (st1 := [.int ((Int32.ofNat n) + (1 : Int32)), .ref 1]) rfl ?_
  refine Wp.pi (t := (1, 0)) rfl (WF.t hw 1 rfl) (Or.inl rfl) ?_
  refine Wp.seg 4 (pc1 := 21) (ls1 := [some (.ref 1), some (.int (k)), some (.int (p)), some (.int (f)), some (.int (y)), some (.int (Int32.ofNat n))]) (st1 := [.int (k), .int (0), .int (Int32.ofNat n), .ref 1]) rfl ?_
  refine Wp.invV (d2 := 0) (as := [.ref 1, .int (Int32.ofNat n), .int (0), .int (k)]) (r := []) (t := (1, 0)) rfl rfl rfl rfl (WF.t hw 1 rfl) rfl rfl ⟨rfl, rfl⟩ (by omega) (s_cput (h := kwi h 1 1 ((Int32.ofNat n) + (1 : Int32))) hw cA1 (n := n) (w := 0) rfl (by omega) ?_)
  show Wp d 4 24 [some (.ref 1), some (.int (k)), some (.int (p)), some (.int (f)), some (.int (y)), some (.int (Int32.ofNat n))] [.int ((kwi h 1 1 ((Int32.ofNat n) + (1 : Int32))).2.2.1 (1 + 1) (4 * n + 0))] (kwi (kwi h 1 1 ((Int32.ofNat n) + (1 : Int32))) (1 + 1) (4 * n + 0) k) Q
  refine Wp.seg 5 (pc1 := 30) (ls1 := [some (.ref 1), some (.int (k)), some (.int (p)), some (.int (f)), some (.int (y)), some (.int (Int32.ofNat n))]) (st1 := [.int (p), .int (1), .int (Int32.ofNat n), .ref 1]) rfl ?_
  refine Wp.invV (d2 := 0) (as := [.ref 1, .int (Int32.ofNat n), .int (1), .int (p)]) (r := []) (t := (1, 0)) rfl rfl rfl rfl (WF.t hw 1 rfl) rfl rfl ⟨rfl, rfl⟩ (by omega) (s_cput (h := kwi (kwi h 1 1 ((Int32.ofNat n) + (1 : Int32))) (1 + 1) (4 * n + 0) k) hw cA1 (n := n) (w := 1) rfl (by omega) ?_)
  show Wp d 4 33 [some (.ref 1), some (.int (k)), some (.int (p)), some (.int (f)), some (.int (y)), some (.int (Int32.ofNat n))] [.int ((kwi (kwi h 1 1 ((Int32.ofNat n) + (1 : Int32))) (1 + 1) (4 * n + 0) k).2.2.1 (1 + 1) (4 * n + 1))] (kwi (kwi (kwi h 1 1 ((Int32.ofNat n) + (1 : Int32))) (1 + 1) (4 * n + 0) k) (1 + 1) (4 * n + 1) p) Q
  refine Wp.seg 5 (pc1 := 39) (ls1 := [some (.ref 1), some (.int (k)), some (.int (p)), some (.int (f)), some (.int (y)), some (.int (Int32.ofNat n))]) (st1 := [.int (f), .int (2), .int (Int32.ofNat n), .ref 1]) rfl ?_
  refine Wp.invV (d2 := 0) (as := [.ref 1, .int (Int32.ofNat n), .int (2), .int (f)]) (r := []) (t := (1, 0)) rfl rfl rfl rfl (WF.t hw 1 rfl) rfl rfl ⟨rfl, rfl⟩ (by omega) (s_cput (h := kwi (kwi (kwi h 1 1 ((Int32.ofNat n) + (1 : Int32))) (1 + 1) (4 * n + 0) k) (1 + 1) (4 * n + 1) p) hw cA1 (n := n) (w := 2) rfl (by omega) ?_)
  show Wp d 4 42 [some (.ref 1), some (.int (k)), some (.int (p)), some (.int (f)), some (.int (y)), some (.int (Int32.ofNat n))] [.int ((kwi (kwi (kwi h 1 1 ((Int32.ofNat n) + (1 : Int32))) (1 + 1) (4 * n + 0) k) (1 + 1) (4 * n + 1) p).2.2.1 (1 + 1) (4 * n + 2))] (kwi (kwi (kwi (kwi h 1 1 ((Int32.ofNat n) + (1 : Int32))) (1 + 1) (4 * n + 0) k) (1 + 1) (4 * n + 1) p) (1 + 1) (4 * n + 2) f) Q
  refine Wp.seg 5 (pc1 := 49) (ls1 := [some (.ref 1), some (.int (k)), some (.int (p)), some (.int (f)), some (.int (y)), some (.int (Int32.ofNat n))]) (st1 := [.int (y), .int (3), .int (Int32.ofNat n), .ref 1]) rfl ?_
  refine Wp.invV (d2 := 0) (as := [.ref 1, .int (Int32.ofNat n), .int (3), .int (y)]) (r := []) (t := (1, 0)) rfl rfl rfl rfl (WF.t hw 1 rfl) rfl rfl ⟨rfl, rfl⟩ (by omega) (s_cput (h := kwi (kwi (kwi (kwi h 1 1 ((Int32.ofNat n) + (1 : Int32))) (1 + 1) (4 * n + 0) k) (1 + 1) (4 * n + 1) p) (1 + 1) (4 * n + 2) f) hw cA1 (n := n) (w := 3) rfl (by omega) ?_)
  show Wp d 4 52 [some (.ref 1), some (.int (k)), some (.int (p)), some (.int (f)), some (.int (y)), some (.int (Int32.ofNat n))] [.int ((kwi (kwi (kwi (kwi h 1 1 ((Int32.ofNat n) + (1 : Int32))) (1 + 1) (4 * n + 0) k) (1 + 1) (4 * n + 1) p) (1 + 1) (4 * n + 2) f).2.2.1 (1 + 1) (4 * n + 3))] (kwi (kwi (kwi (kwi (kwi h 1 1 ((Int32.ofNat n) + (1 : Int32))) (1 + 1) (4 * n + 0) k) (1 + 1) (4 * n + 1) p) (1 + 1) (4 * n + 2) f) (1 + 1) (4 * n + 3) y) Q
  refine Wp.seg 2 (pc1 := 55) (ls1 := [some (.ref 1), some (.int (k)), some (.int (p)), some (.int (f)), some (.int (y)), some (.int (Int32.ofNat n))]) (st1 := [.int (Int32.ofNat n)]) rfl ?_
  exact Wp.reti rfl rfl hQ
def addH (h : KH) (n : Nat) (k p f y : Int32) : KH := kwi (kwi (kwi (kwi (kwi h 1 1 ((Int32.ofNat n) + (1 : Int32))) (1 + 1) (4 * n + 0) k) (1 + 1) (4 * n + 1) p) (1 + 1) (4 * n + 2) f) (1 + 1) (4 * n + 3) y
set_option maxHeartbeats 4000000 in
theorem t_chd {d : Nat} {Q : KO → Prop} {h : KH} {k p f y : Int32} (hd : 2 ≤ d) (hQ : ((inB k 1 5) = false → Q (some (.int (-1)), h)) ∧ ((inB k 1 5) = true → ((inB p 0 11) = false → Q (some (.int (-1)), h)) ∧ ((inB p 0 11) = true → ((inB f 0 3) = false → Q (some (.int (-1)), h)) ∧ ((inB f 0 3) = true → ((inB y 0 9) = true → Wp d 88 31 ([some (.ref 0), some (.int (k)), some (.int (p)), some (.int (f)), some (.int (y))]) [] h Q) ∧ ((inB y 0 9) = false → Q (some (.int (-1)), h)))))) : Cl d 88 [.ref 0, .int (k), .int (p), .int (f), .int (y)] h Q := by
  refine Cl.of (ls := [some (.ref 0), some (.int (k)), some (.int (p)), some (.int (f)), some (.int (y))]) rfl rfl ?_
  refine Wp.seg 1 (pc1 := 1) (ls1 := [some (.ref 0), some (.int (k)), some (.int (p)), some (.int (f)), some (.int (y))]) (st1 := [.int (k)]) rfl ?_
  refine Wp.inv (d2 := 0) (as := [.int (k)]) (r := []) rfl rfl rfl rfl rfl rfl (by omega) (s_b103 ?_)
  show Wp d 88 4 [some (.ref 0), some (.int (k)), some (.int (p)), some (.int (f)), some (.int (y))] [.int (b32 (inB k 1 5))] h Q
  refine Wp.ifz rfl (fun (c1 : (inB k 1 5) = false) => ?_) (fun (c1 : (inB k 1 5) = true) => ?_)
  · refine Wp.seg 1 (pc1 := 30) (ls1 := [some (.ref 0), some (.int (k)), some (.int (p)), some (.int (f)), some (.int (y))]) (st1 := [.int (-1)]) rfl ?_
    exact Wp.reti rfl rfl (hQ.1 c1)
  · refine Wp.seg 1 (pc1 := 8) (ls1 := [some (.ref 0), some (.int (k)), some (.int (p)), some (.int (f)), some (.int (y))]) (st1 := [.int (p)]) rfl ?_
    refine Wp.inv (d2 := 0) (as := [.int (p)]) (r := []) rfl rfl rfl rfl rfl rfl (by omega) (s_b104 ?_)
    show Wp d 88 11 [some (.ref 0), some (.int (k)), some (.int (p)), some (.int (f)), some (.int (y))] [.int (b32 (inB p 0 11))] h Q
    refine Wp.ifz rfl (fun (c2 : (inB p 0 11) = false) => ?_) (fun (c2 : (inB p 0 11) = true) => ?_)
    · refine Wp.seg 1 (pc1 := 30) (ls1 := [some (.ref 0), some (.int (k)), some (.int (p)), some (.int (f)), some (.int (y))]) (st1 := [.int (-1)]) rfl ?_
      exact Wp.reti rfl rfl ((hQ.2 c1).1 c2)
    · refine Wp.seg 1 (pc1 := 15) (ls1 := [some (.ref 0), some (.int (k)), some (.int (p)), some (.int (f)), some (.int (y))]) (st1 := [.int (f)]) rfl ?_
      refine Wp.inv (d2 := 0) (as := [.int (f)]) (r := []) rfl rfl rfl rfl rfl rfl (by omega) (s_b105 ?_)
      show Wp d 88 18 [some (.ref 0), some (.int (k)), some (.int (p)), some (.int (f)), some (.int (y))] [.int (b32 (inB f 0 3))] h Q
      refine Wp.ifz rfl (fun (c3 : (inB f 0 3) = false) => ?_) (fun (c3 : (inB f 0 3) = true) => ?_)
      · refine Wp.seg 1 (pc1 := 30) (ls1 := [some (.ref 0), some (.int (k)), some (.int (p)), some (.int (f)), some (.int (y))]) (st1 := [.int (-1)]) rfl ?_
        exact Wp.reti rfl rfl (((hQ.2 c1).2 c2).1 c3)
      · refine Wp.seg 1 (pc1 := 23) (ls1 := [some (.ref 0), some (.int (k)), some (.int (p)), some (.int (f)), some (.int (y))]) (st1 := [.int (y)]) rfl ?_
        refine Wp.inv (d2 := 0) (as := [.int (y)]) (r := []) rfl rfl rfl rfl rfl rfl (by omega) (s_b106 ?_)
        show Wp d 88 26 [some (.ref 0), some (.int (k)), some (.int (p)), some (.int (f)), some (.int (y))] [.int (b32 (inB y 0 9))] h Q
        refine Wp.ifnz rfl (fun (c4 : (inB y 0 9) = true) => ?_) (fun (c4 : (inB y 0 9) = false) => ?_)
        · exact ((((hQ.2 c1).2 c2).2 c3).1 c4)
        · refine Wp.seg 1 (pc1 := 30) (ls1 := [some (.ref 0), some (.int (k)), some (.int (p)), some (.int (f)), some (.int (y))]) (st1 := [.int (-1)]) rfl ?_
          exact Wp.reti rfl rfl ((((hQ.2 c1).2 c2).2 c3).2 c4)
set_option maxHeartbeats 4000000 in
theorem t_chdB {d : Nat} {Q : KO → Prop} {h : KH} (hw : WF h) {n : Nat} {k p f y : Int32} (hn : n < 6) (h1 : h.2.2.1 1 1 = Int32.ofNat n) (hd : 2 ≤ d) (hQ : Q (some (.int (Int32.ofNat n)), addH h n k p f y)) : Wp d 88 31 [some (.ref 0), some (.int (k)), some (.int (p)), some (.int (f)), some (.int (y))] [] h Q := by
  refine Wp.seg 1 (pc1 := 32) (ls1 := [some (.ref 0), some (.int (k)), some (.int (p)), some (.int (f)), some (.int (y))]) (st1 := [.ref 0]) rfl ?_
  refine Wp.gr (t := (10, 0)) (v := some (1)) rfl (WF.t hw 0 rfl) rfl (WF.r hw 0 0 0 rfl) ?_
  show Wp d 88 35 [some (.ref 0), some (.int (k)), some (.int (p)), some (.int (f)), some (.int (y))] [.ref 1] h Q
  refine Wp.gi (t := (1, 0)) rfl (WF.t hw 1 rfl) (Or.inl rfl) ?_
  rw [show h.2.2.1 1 1 = Int32.ofNat n from h1]
  refine Wp.seg 1 (pc1 := 40) (ls1 := [some (.ref 0), some (.int (k)), some (.int (p)), some (.int (f)), some (.int (y))]) (st1 := [.int (6), .int (Int32.ofNat n)]) rfl ?_
  refine Wp.if2 rfl (fun c1 => ?_) (fun c1 => absurd ((zlt (n := 6) (znat (n := n) (by omega)) rfl).mpr (by omega)) c1)
  refine Wp.seg 1 (pc1 := 47) (ls1 := [some (.ref 0), some (.int (k)), some (.int (p)), some (.int (f)), some (.int (y))]) (st1 := [.ref 0]) rfl ?_
  refine Wp.gr (t := (10, 0)) (v := some (1)) rfl (WF.t hw 0 rfl) rfl (WF.r hw 0 0 0 rfl) ?_
  show Wp d 88 50 [some (.ref 0), some (.int (k)), some (.int (p)), some (.int (f)), some (.int (y))] [.ref 1] h Q
  refine Wp.seg 4 (pc1 := 55) (ls1 := [some (.ref 0), some (.int (k)), some (.int (p)), some (.int (f)), some (.int (y))]) (st1 := [.int (y), .int (f), .int (p), .int (k), .ref 1]) rfl ?_
  refine Wp.invV (d2 := 1) (as := [.ref 1, .int (k), .int (p), .int (f), .int (y)]) (r := []) (t := (1, 0)) rfl rfl rfl rfl (WF.t hw 1 rfl) rfl rfl ⟨rfl, rfl⟩ (by omega) (t_add hw hn h1 (Nat.le_refl _) ?_)
  show Wp d 88 58 [some (.ref 0), some (.int (k)), some (.int (p)), some (.int (f)), some (.int (y))] [.int (Int32.ofNat n)] (addH h n k p f y) Q
  exact Wp.reti rfl rfl hQ
set_option maxHeartbeats 4000000 in
theorem t_chdF {d : Nat} {Q : KO → Prop} {h : KH} (hw : WF h) {n : Nat} {k p f y : Int32} (hn : ¬ n < 6) (hn6 : n ≤ 6) (h1 : h.2.2.1 1 1 = Int32.ofNat n) (hd : 0 ≤ d) (hQ : Q (some (.int (-2)), h)) : Wp d 88 31 [some (.ref 0), some (.int (k)), some (.int (p)), some (.int (f)), some (.int (y))] [] h Q := by
  refine Wp.seg 1 (pc1 := 32) (ls1 := [some (.ref 0), some (.int (k)), some (.int (p)), some (.int (f)), some (.int (y))]) (st1 := [.ref 0]) rfl ?_
  refine Wp.gr (t := (10, 0)) (v := some (1)) rfl (WF.t hw 0 rfl) rfl (WF.r hw 0 0 0 rfl) ?_
  show Wp d 88 35 [some (.ref 0), some (.int (k)), some (.int (p)), some (.int (f)), some (.int (y))] [.ref 1] h Q
  refine Wp.gi (t := (1, 0)) rfl (WF.t hw 1 rfl) (Or.inl rfl) ?_
  rw [show h.2.2.1 1 1 = Int32.ofNat n from h1]
  refine Wp.seg 1 (pc1 := 40) (ls1 := [some (.ref 0), some (.int (k)), some (.int (p)), some (.int (f)), some (.int (y))]) (st1 := [.int (6), .int (Int32.ofNat n)]) rfl ?_
  refine Wp.if2 rfl (fun c1 => absurd c1 (fun c => by have := (zlt (n := 6) (znat (n := n) (by omega)) rfl).mp c; omega)) (fun c1 => ?_)
  refine Wp.seg 1 (pc1 := 45) (ls1 := [some (.ref 0), some (.int (k)), some (.int (p)), some (.int (f)), some (.int (y))]) (st1 := [.int (-2)]) rfl ?_
  exact Wp.reti rfl rfl hQ
set_option maxHeartbeats 4000000 in
theorem t_mhd {d : Nat} {Q : KO → Prop} {h : KH} {k p f y : Int32} (hd : 3 ≤ d) (hQ : ((inB k 1 5) = false → Q (some (.int (-1)), h)) ∧ ((inB k 1 5) = true → ((ofB (1 : Int32) p) = false → Q (some (.int (-1)), h)) ∧ ((ofB (1 : Int32) p) = true → ((ofB (2 : Int32) f) = false → Q (some (.int (-1)), h)) ∧ ((ofB (2 : Int32) f) = true → ((ofB (3 : Int32) y) = true → Wp d 194 36 ([some (.ref 59), some (.int (k)), some (.int (p)), some (.int (f)), some (.int (y)), none]) [] h Q) ∧ ((ofB (3 : Int32) y) = false → Q (some (.int (-1)), h)))))) : Cl d 194 [.ref 59, .int (k), .int (p), .int (f), .int (y)] h Q := by
  refine Cl.of (ls := [some (.ref 59), some (.int (k)), some (.int (p)), some (.int (f)), some (.int (y)), none]) rfl rfl ?_
  refine Wp.seg 3 (pc1 := 3) (ls1 := [some (.ref 59), some (.int (k)), some (.int (p)), some (.int (f)), some (.int (y)), none]) (st1 := [.int (5), .int (1), .int (k)]) rfl ?_
  refine Wp.inv (d2 := 0) (as := [.int (k), .int (1), .int (5)]) (r := []) rfl rfl rfl rfl rfl rfl (by omega) (s_inB (x := 1) (y := 5) rfl rfl ?_)
  show Wp d 194 6 [some (.ref 59), some (.int (k)), some (.int (p)), some (.int (f)), some (.int (y)), none] [.int (b32 (inB k 1 5))] h Q
  refine Wp.ifz rfl (fun (c1 : (inB k 1 5) = false) => ?_) (fun (c1 : (inB k 1 5) = true) => ?_)
  · refine Wp.seg 1 (pc1 := 35) (ls1 := [some (.ref 59), some (.int (k)), some (.int (p)), some (.int (f)), some (.int (y)), none]) (st1 := [.int (-1)]) rfl ?_
    exact Wp.reti rfl rfl (hQ.1 c1)
  · refine Wp.seg 2 (pc1 := 11) (ls1 := [some (.ref 59), some (.int (k)), some (.int (p)), some (.int (f)), some (.int (y)), none]) (st1 := [.int (p), .int (1)]) rfl ?_
    refine Wp.inv (d2 := 2) (as := [.int (1), .int (p)]) (r := []) rfl rfl rfl rfl rfl rfl (by omega) (s_b193 (Nat.le_refl _) ?_)
    show Wp d 194 14 [some (.ref 59), some (.int (k)), some (.int (p)), some (.int (f)), some (.int (y)), none] [.int (b32 (ofB (1 : Int32) p))] h Q
    refine Wp.ifz rfl (fun (c2 : (ofB (1 : Int32) p) = false) => ?_) (fun (c2 : (ofB (1 : Int32) p) = true) => ?_)
    · refine Wp.seg 1 (pc1 := 35) (ls1 := [some (.ref 59), some (.int (k)), some (.int (p)), some (.int (f)), some (.int (y)), none]) (st1 := [.int (-1)]) rfl ?_
      exact Wp.reti rfl rfl ((hQ.2 c1).1 c2)
    · refine Wp.seg 2 (pc1 := 19) (ls1 := [some (.ref 59), some (.int (k)), some (.int (p)), some (.int (f)), some (.int (y)), none]) (st1 := [.int (f), .int (2)]) rfl ?_
      refine Wp.inv (d2 := 2) (as := [.int (2), .int (f)]) (r := []) rfl rfl rfl rfl rfl rfl (by omega) (s_b193 (Nat.le_refl _) ?_)
      show Wp d 194 22 [some (.ref 59), some (.int (k)), some (.int (p)), some (.int (f)), some (.int (y)), none] [.int (b32 (ofB (2 : Int32) f))] h Q
      refine Wp.ifz rfl (fun (c3 : (ofB (2 : Int32) f) = false) => ?_) (fun (c3 : (ofB (2 : Int32) f) = true) => ?_)
      · refine Wp.seg 1 (pc1 := 35) (ls1 := [some (.ref 59), some (.int (k)), some (.int (p)), some (.int (f)), some (.int (y)), none]) (st1 := [.int (-1)]) rfl ?_
        exact Wp.reti rfl rfl (((hQ.2 c1).2 c2).1 c3)
      · refine Wp.seg 2 (pc1 := 28) (ls1 := [some (.ref 59), some (.int (k)), some (.int (p)), some (.int (f)), some (.int (y)), none]) (st1 := [.int (y), .int (3)]) rfl ?_
        refine Wp.inv (d2 := 2) (as := [.int (3), .int (y)]) (r := []) rfl rfl rfl rfl rfl rfl (by omega) (s_b193 (Nat.le_refl _) ?_)
        show Wp d 194 31 [some (.ref 59), some (.int (k)), some (.int (p)), some (.int (f)), some (.int (y)), none] [.int (b32 (ofB (3 : Int32) y))] h Q
        refine Wp.ifnz rfl (fun (c4 : (ofB (3 : Int32) y) = true) => ?_) (fun (c4 : (ofB (3 : Int32) y) = false) => ?_)
        · exact ((((hQ.2 c1).2 c2).2 c3).1 c4)
        · refine Wp.seg 1 (pc1 := 35) (ls1 := [some (.ref 59), some (.int (k)), some (.int (p)), some (.int (f)), some (.int (y)), none]) (st1 := [.int (-1)]) rfl ?_
          exact Wp.reti rfl rfl ((((hQ.2 c1).2 c2).2 c3).2 c4)
set_option maxHeartbeats 4000000 in
theorem t_mhdB {d : Nat} {Q : KO → Prop} {h : KH} (hw : WF h) {n : Nat} {k p f y : Int32} (hn : n < 6) (h8 : h.2.2.1 60 8 = Int32.ofNat n) (hd : 1 ≤ d) (hQ : Q (some (.int (Int32.ofNat n)), kwi (kwi (kwi (kwi (kwi h 60 8 ((Int32.ofNat n) + (1 : Int32))) 60 (11 + 4 * n + 0) k) 60 (11 + 4 * n + 1) p) 60 (11 + 4 * n + 2) f) 60 (11 + 4 * n + 3) y)) : Wp d 194 36 [some (.ref 59), some (.int (k)), some (.int (p)), some (.int (f)), some (.int (y)), none] [] h Q := by
  refine Wp.seg 1 (pc1 := 37) (ls1 := [some (.ref 59), some (.int (k)), some (.int (p)), some (.int (f)), some (.int (y)), none]) (st1 := [.ref 59]) rfl ?_
  refine Wp.gr (t := (11, 0)) (v := some (60)) rfl (WF.t hw 59 rfl) rfl (WF.r hw 59 0 58 rfl) ?_
  show Wp d 194 40 [some (.ref 59), some (.int (k)), some (.int (p)), some (.int (f)), some (.int (y)), none] [.ref 60] h Q
  refine Wp.seg 1 (pc1 := 42) (ls1 := [some (.ref 59), some (.int (k)), some (.int (p)), some (.int (f)), some (.int (y)), none]) (st1 := [.int (8), .ref 60]) rfl ?_
  refine Wp.iald (j := 8) (k := 20) (n := 585) rfl (WF.t hw 60 rfl) rfl rfl (by decide) (by decide) ?_
  rw [show h.2.2.1 60 8 = Int32.ofNat n from h8]
  refine Wp.seg 3 (pc1 := 49) (ls1 := [some (.ref 59), some (.int (k)), some (.int (p)), some (.int (f)), some (.int (y)), some (.int (Int32.ofNat n))]) (st1 := [.int (6), .int (Int32.ofNat n)]) rfl ?_
  refine Wp.if2 rfl (fun c1 => ?_) (fun c1 => absurd (fun c => by have := (oeq (b := 6) (by omega) (by decide)).mp c; omega) c1)
  refine Wp.seg 1 (pc1 := 56) (ls1 := [some (.ref 59), some (.int (k)), some (.int (p)), some (.int (f)), some (.int (y)), some (.int (Int32.ofNat n))]) (st1 := [.ref 59]) rfl ?_
  refine Wp.gr (t := (11, 0)) (v := some (60)) rfl (WF.t hw 59 rfl) rfl (WF.r hw 59 0 58 rfl) ?_
  show Wp d 194 59 [some (.ref 59), some (.int (k)), some (.int (p)), some (.int (f)), some (.int (y)), some (.int (Int32.ofNat n))] [.ref 60] h Q
  refine Wp.seg 2 (pc1 := 62) (ls1 := [some (.ref 59), some (.int (k)), some (.int (p)), some (.int (f)), some (.int (y)), some (.int (Int32.ofNat n))]) (st1 := [.int (8), .ref 60, .int (8), .ref 60]) rfl ?_
  refine Wp.iald (j := 8) (k := 20) (n := 585) rfl (WF.t hw 60 rfl) rfl rfl (by decide) (by decide) ?_
  rw [show h.2.2.1 60 8 = Int32.ofNat n from h8]
  refine Wp.seg 2 (pc1 := 65) (ls1 := [some (.ref 59), some (.int (k)), some (.int (p)), some (.int (f)), some (.int (y)), some (.int (Int32.ofNat n))]) (st1 := [.int ((Int32.ofNat n) + (1 : Int32)), .int (8), .ref 60]) rfl ?_
  refine Wp.iast (j := 8) (n := 585) rfl (WF.t hw 60 rfl) rfl (by decide) (by decide) ?_
  refine Wp.seg 4 (pc1 := 71) (ls1 := [some (.ref 59), some (.int (k)), some (.int (p)), some (.int (f)), some (.int (y)), some (.int (Int32.ofNat n))]) (st1 := [.int (k), .int (0), .int (Int32.ofNat n), .ref 59]) rfl ?_
  refine Wp.invV (d2 := 0) (as := [.ref 59, .int (Int32.ofNat n), .int (0), .int (k)]) (r := []) (t := (11, 0)) rfl rfl rfl rfl (WF.t hw 59 rfl) rfl rfl ⟨rfl, rfl⟩ (by omega) (s_put (h := kwi h 60 8 ((Int32.ofNat n) + (1 : Int32))) hw (n := n) (w := 0) rfl (by omega) ?_)
  show Wp d 194 74 [some (.ref 59), some (.int (k)), some (.int (p)), some (.int (f)), some (.int (y)), some (.int (Int32.ofNat n))] [] (kwi (kwi h 60 8 ((Int32.ofNat n) + (1 : Int32))) 60 (11 + 4 * n + 0) k) Q
  refine Wp.seg 4 (pc1 := 79) (ls1 := [some (.ref 59), some (.int (k)), some (.int (p)), some (.int (f)), some (.int (y)), some (.int (Int32.ofNat n))]) (st1 := [.int (p), .int (1), .int (Int32.ofNat n), .ref 59]) rfl ?_
  refine Wp.invV (d2 := 0) (as := [.ref 59, .int (Int32.ofNat n), .int (1), .int (p)]) (r := []) (t := (11, 0)) rfl rfl rfl rfl (WF.t hw 59 rfl) rfl rfl ⟨rfl, rfl⟩ (by omega) (s_put (h := kwi (kwi h 60 8 ((Int32.ofNat n) + (1 : Int32))) 60 (11 + 4 * n + 0) k) hw (n := n) (w := 1) rfl (by omega) ?_)
  show Wp d 194 82 [some (.ref 59), some (.int (k)), some (.int (p)), some (.int (f)), some (.int (y)), some (.int (Int32.ofNat n))] [] (kwi (kwi (kwi h 60 8 ((Int32.ofNat n) + (1 : Int32))) 60 (11 + 4 * n + 0) k) 60 (11 + 4 * n + 1) p) Q
  refine Wp.seg 4 (pc1 := 87) (ls1 := [some (.ref 59), some (.int (k)), some (.int (p)), some (.int (f)), some (.int (y)), some (.int (Int32.ofNat n))]) (st1 := [.int (f), .int (2), .int (Int32.ofNat n), .ref 59]) rfl ?_
  refine Wp.invV (d2 := 0) (as := [.ref 59, .int (Int32.ofNat n), .int (2), .int (f)]) (r := []) (t := (11, 0)) rfl rfl rfl rfl (WF.t hw 59 rfl) rfl rfl ⟨rfl, rfl⟩ (by omega) (s_put (h := kwi (kwi (kwi h 60 8 ((Int32.ofNat n) + (1 : Int32))) 60 (11 + 4 * n + 0) k) 60 (11 + 4 * n + 1) p) hw (n := n) (w := 2) rfl (by omega) ?_)
  show Wp d 194 90 [some (.ref 59), some (.int (k)), some (.int (p)), some (.int (f)), some (.int (y)), some (.int (Int32.ofNat n))] [] (kwi (kwi (kwi (kwi h 60 8 ((Int32.ofNat n) + (1 : Int32))) 60 (11 + 4 * n + 0) k) 60 (11 + 4 * n + 1) p) 60 (11 + 4 * n + 2) f) Q
  refine Wp.seg 4 (pc1 := 96) (ls1 := [some (.ref 59), some (.int (k)), some (.int (p)), some (.int (f)), some (.int (y)), some (.int (Int32.ofNat n))]) (st1 := [.int (y), .int (3), .int (Int32.ofNat n), .ref 59]) rfl ?_
  refine Wp.invV (d2 := 0) (as := [.ref 59, .int (Int32.ofNat n), .int (3), .int (y)]) (r := []) (t := (11, 0)) rfl rfl rfl rfl (WF.t hw 59 rfl) rfl rfl ⟨rfl, rfl⟩ (by omega) (s_put (h := kwi (kwi (kwi (kwi h 60 8 ((Int32.ofNat n) + (1 : Int32))) 60 (11 + 4 * n + 0) k) 60 (11 + 4 * n + 1) p) 60 (11 + 4 * n + 2) f) hw (n := n) (w := 3) rfl (by omega) ?_)
  show Wp d 194 99 [some (.ref 59), some (.int (k)), some (.int (p)), some (.int (f)), some (.int (y)), some (.int (Int32.ofNat n))] [] (kwi (kwi (kwi (kwi (kwi h 60 8 ((Int32.ofNat n) + (1 : Int32))) 60 (11 + 4 * n + 0) k) 60 (11 + 4 * n + 1) p) 60 (11 + 4 * n + 2) f) 60 (11 + 4 * n + 3) y) Q
  refine Wp.seg 1 (pc1 := 101) (ls1 := [some (.ref 59), some (.int (k)), some (.int (p)), some (.int (f)), some (.int (y)), some (.int (Int32.ofNat n))]) (st1 := [.int (Int32.ofNat n)]) rfl ?_
  exact Wp.reti rfl rfl hQ
def addM (h : KH) (n : Nat) (k p f y : Int32) : KH := kwi (kwi (kwi (kwi (kwi h 60 8 ((Int32.ofNat n) + (1 : Int32))) 60 (11 + 4 * n + 0) k) 60 (11 + 4 * n + 1) p) 60 (11 + 4 * n + 2) f) 60 (11 + 4 * n + 3) y
set_option maxHeartbeats 4000000 in
theorem t_mhdF {d : Nat} {Q : KO → Prop} {h : KH} (hw : WF h) {n : Nat} {k p f y : Int32} (hn : ¬ n < 6) (hn6 : n ≤ 6) (h8 : h.2.2.1 60 8 = Int32.ofNat n) (hd : 0 ≤ d) (hQ : Q (some (.int (-2)), h)) : Wp d 194 36 [some (.ref 59), some (.int (k)), some (.int (p)), some (.int (f)), some (.int (y)), none] [] h Q := by
  refine Wp.seg 1 (pc1 := 37) (ls1 := [some (.ref 59), some (.int (k)), some (.int (p)), some (.int (f)), some (.int (y)), none]) (st1 := [.ref 59]) rfl ?_
  refine Wp.gr (t := (11, 0)) (v := some (60)) rfl (WF.t hw 59 rfl) rfl (WF.r hw 59 0 58 rfl) ?_
  show Wp d 194 40 [some (.ref 59), some (.int (k)), some (.int (p)), some (.int (f)), some (.int (y)), none] [.ref 60] h Q
  refine Wp.seg 1 (pc1 := 42) (ls1 := [some (.ref 59), some (.int (k)), some (.int (p)), some (.int (f)), some (.int (y)), none]) (st1 := [.int (8), .ref 60]) rfl ?_
  refine Wp.iald (j := 8) (k := 20) (n := 585) rfl (WF.t hw 60 rfl) rfl rfl (by decide) (by decide) ?_
  rw [show h.2.2.1 60 8 = Int32.ofNat n from h8]
  refine Wp.seg 3 (pc1 := 49) (ls1 := [some (.ref 59), some (.int (k)), some (.int (p)), some (.int (f)), some (.int (y)), some (.int (Int32.ofNat n))]) (st1 := [.int (6), .int (Int32.ofNat n)]) rfl ?_
  refine Wp.if2 rfl (fun c1 => absurd c1 (fun c => c (by rw [show n = 6 by omega]; rfl))) (fun c1 => ?_)
  refine Wp.seg 1 (pc1 := 54) (ls1 := [some (.ref 59), some (.int (k)), some (.int (p)), some (.int (f)), some (.int (y)), some (.int (Int32.ofNat n))]) (st1 := [.int (-2)]) rfl ?_
  exact Wp.reti rfl rfl hQ
def addS (S : Nat → Int32) (n : Nat) (k p f y : Int32) : Nat → Int32 := ku (ku (ku (ku (ku S 8 (Int32.ofNat n + 1)) (11 + 4 * n + 0) k) (11 + 4 * n + 1) p) (11 + 4 * n + 2) f) (11 + 4 * n + 3) y
theorem addS_ok {S : Nat → Int32} {n c dn en a p f y : Nat} (h : okS S n c dn en) (hn : n < 6) (h1 : 1 ≤ a) (h2 : a ≤ 5) (h3 : p < 12) (h4 : f < 4) (h5 : y ≤ 9) : okS (addS S n (Int32.ofNat a) (Int32.ofNat p) (Int32.ofNat f) (Int32.ofNat y)) (n + 1) c dn en := by
  obtain ⟨o1, o2, o3, o4, o5, o6, o7, o8, o9, o10⟩ := h
  have e : ∀ m, m < 8 → addS S n (Int32.ofNat a) (Int32.ofNat p) (Int32.ofNat f) (Int32.ofNat y) m = S m := fun m hm => by
    unfold addS
    rw [ku_n _ _ (by omega), ku_n _ _ (by omega), ku_n _ _ (by omega), ku_n _ _ (by omega), ku_n _ _ (by omega)]
  refine ⟨by omega, ?_, o3, by rw [e 2 (by decide)]; exact o4, by rw [e 1 (by decide)]; exact o5, by rw [e 0 (by decide)]; exact o6, o7, o8, o9, fun i hi => ?_⟩
  · unfold addS
    rw [ku_n _ _ (by omega), ku_n _ _ (by omega), ku_n _ _ (by omega), ku_n _ _ (by omega), ku_s]
    exact ofadd n 1
  · by_cases q : i = n
    · subst q
      refine ⟨a, p, f, y, h1, h2, h3, h4, h5, ?_, ?_, ?_, ?_⟩
      · unfold addS
        rw [ku_n _ _ (by omega), ku_n _ _ (by omega), ku_n _ _ (by omega), ku_s]
      · unfold addS
        rw [ku_n _ _ (by omega), ku_n _ _ (by omega), ku_s]
      · unfold addS
        rw [ku_n _ _ (by omega), ku_s]
      · unfold addS
        rw [ku_s]
    · unfold addS
      exact handOK_other (j := 0) (by omega) (handOK_other (j := 0) (by omega) (handOK_other (j := 0) (by omega) (handOK_other (j := 0) (by omega) (handOK_other (j := 0) (by omega) (o10 i (by omega))))))
theorem addS_nrm {S A : Nat → Int32} {n : Nat} {k p f y : Int32} (hn : n < 6) (h : nrm S = A) : nrm (addS S n k p f y) = addS A n k p f y := by
  unfold addS
  rw [nrm_ku (by omega), nrm_ku (by omega), nrm_ku (by omega), nrm_ku (by omega), nrm_ku (by omega), h]
theorem J_hand {h : KH} (hw : WF h) {A : Nat → Int32} {RL : List Rul} {n c dn en : Nat} (hk : both h A RL n c dn en) (k p f y : Int32) : JJ h RL 88 [.ref 0, .int k, .int p, .int f, .int y] 194 [.ref 59, .int k, .int p, .int f, .int y] := by
  have hn6 := hk.1.2.1.1
  have e1 : ofB 1 p = inB p 0 11 := rfl
  have e2 : ofB 2 f = inB f 0 3 := rfl
  have e3 : ofB 3 y = inB y 0 9 := rfl
  by_cases q : inB k 1 5 = true ∧ inB p 0 11 = true ∧ inB f 0 3 = true ∧ inB y 0 9 = true
  · by_cases hn : n < 6
    · obtain ⟨a, a1, a2, rfl⟩ := inB_natL (a := 1) (b := 5) q.1
      obtain ⟨pp, p1, rfl⟩ := inB_nat (b := 11) q.2.1
      obtain ⟨ff, f1, rfl⟩ := inB_nat (b := 3) q.2.2.1
      obtain ⟨yy, y1, rfl⟩ := inB_nat (b := 9) q.2.2.2
      refine J_m (v := Int32.ofNat n) (B := addS A n (Int32.ofNat a) (Int32.ofNat pp) (Int32.ofNat ff) (Int32.ofNat yy)) (n2 := n + 1) (c2 := c) (dn2 := dn) (en2 := en) (dc := 2) (dm := 3) hw hk (t_chd (by decide) ?_) (fun k kw kk => t_mhd (by decide) ?_)
      · have z : Wp 2 88 31 [some (.ref 0), some (.int (Int32.ofNat a)), some (.int (Int32.ofNat pp)), some (.int (Int32.ofNat ff)), some (.int (Int32.ofNat yy))] [] h (mc (Int32.ofNat n) (addS A n (Int32.ofNat a) (Int32.ofNat pp) (Int32.ofNat ff) (Int32.ofNat yy)) RL (n + 1) c dn en h) := by
          refine t_chdB hw hn hk.1.2.1.2.1 (Nat.le_refl _) ?_
          have fr : Fr (pC 1) noP h (addH h n (Int32.ofNat a) (Int32.ofNat pp) (Int32.ofNat ff) (Int32.ofNat yy)) := Fr.trans (fr_kwi (by unfold pC; omega) (by decide)) (Fr.trans (fr_kwi (by unfold pC; omega) (by decide)) (Fr.trans (fr_kwi (by unfold pC; omega) (by decide)) (Fr.trans (fr_kwi (by unfold pC; omega) (by decide)) (fr_kwi (by unfold pC; omega) (by decide)))))
          have eS : cS (addH h n (Int32.ofNat a) (Int32.ofNat pp) (Int32.ofNat ff) (Int32.ofNat yy)).2.2.1 1 = addS (cS h.2.2.1 1) n (Int32.ofNat a) (Int32.ofNat pp) (Int32.ofNat ff) (Int32.ofNat yy) := by
            unfold addH addS
            rw [cS_putk, cS_putk, cS_putk, cS_putk]
            have := cS_kwi h 1 (m := 8) (by decide) (Int32.ofNat n + 1)
            rw [show fld 8 = 1 from rfl] at this
            rw [this, ← Nat.add_assoc, ← Nat.add_assoc, ← Nat.add_assoc, ← Nat.add_assoc]
          have g := city_new hk.1 fr rfl eS (addS_ok hk.1.2.1 hn a1 a2 (by omega) (by omega) y1)
          rw [addS_nrm hn hk.1.1] at g
          exact mc_i fr g
        exact ⟨fun c1 => absurd (c1) (by rw [q.1]; decide), fun c1 => ⟨fun c2 => absurd (c2) (by rw [q.2.1]; decide), fun c2 => ⟨fun c3 => absurd (c3) (by rw [q.2.2.1]; decide), fun c3 => ⟨fun c4 => z, fun c4 => absurd (c4) (by rw [q.2.2.2]; decide)⟩⟩⟩⟩
      · have z : Wp 3 194 36 [some (.ref 59), some (.int (Int32.ofNat a)), some (.int (Int32.ofNat pp)), some (.int (Int32.ofNat ff)), some (.int (Int32.ofNat yy)), none] [] k (mm (Int32.ofNat n) (addS A n (Int32.ofNat a) (Int32.ofNat pp) (Int32.ofNat ff) (Int32.ofNat yy)) RL (n + 1) c dn en k) := by
          refine t_mhdB kw hn kk.2.1.2.1 (by decide) ?_
          have fr : Fr (fun c => c = 60) noP k (addM k n (Int32.ofNat a) (Int32.ofNat pp) (Int32.ofNat ff) (Int32.ofNat yy)) := Fr.trans (fr_kwi rfl (by decide)) (Fr.trans (fr_kwi rfl (by decide)) (Fr.trans (fr_kwi rfl (by decide)) (Fr.trans (fr_kwi rfl (by decide)) (fr_kwi rfl (by decide)))))
          have eS : (addM k n (Int32.ofNat a) (Int32.ofNat pp) (Int32.ofNat ff) (Int32.ofNat yy)).2.2.1 60 = addS (k.2.2.1 60) n (Int32.ofNat a) (Int32.ofNat pp) (Int32.ofNat ff) (Int32.ofNat yy) := by
            have e : ∀ (H : KH) (j : Nat) (x : Int32), (kwi H 60 j x).2.2.1 60 = ku (H.2.2.1 60) j x := fun H j x => ku_s H.2.2.1 60 (ku (H.2.2.1 60) j x)
            unfold addM addS
            rw [e, e, e, e, e]
          have kp : keepS (addS (k.2.2.1 60) n (Int32.ofNat a) (Int32.ofNat pp) (Int32.ofNat ff) (Int32.ofNat yy)) (k.2.2.1 60) := fun m hm => by
            unfold addS
            rw [ku_n _ _ (by omega), ku_n _ _ (by omega), ku_n _ _ (by omega), ku_n _ _ (by omega), ku_n _ _ (by omega)]
          have g := ref_new kk eS kp (addS_ok kk.2.1 hn a1 a2 (by omega) (by omega) y1)
          rw [addS_nrm hn kk.1] at g
          exact mm_i fr (show keepS ((addM k n (Int32.ofNat a) (Int32.ofNat pp) (Int32.ofNat ff) (Int32.ofNat yy)).2.2.1 60) _ by rw [eS]; exact kp) g
        rw [e1, e2, e3]
        exact ⟨fun c1 => absurd (c1) (by rw [q.1]; decide), fun c1 => ⟨fun c2 => absurd (c2) (by rw [q.2.1]; decide), fun c2 => ⟨fun c3 => absurd (c3) (by rw [q.2.2.1]; decide), fun c3 => ⟨fun c4 => z, fun c4 => absurd (c4) (by rw [q.2.2.2]; decide)⟩⟩⟩⟩
    · refine J_m (v := -2) (B := A) (n2 := n) (c2 := c) (dn2 := dn) (en2 := en) (dc := 2) (dm := 3) hw hk (t_chd (by decide) ?_) (fun kh kw kk => t_mhd (by decide) ?_)
      · have z := t_chdF (d := 2) (k := k) (p := p) (f := f) (y := y) hw hn hn6 hk.1.2.1.2.1 (by decide) (mc_bad (v := -2) hk.1)
        exact ⟨fun c1 => absurd (c1) (by rw [q.1]; decide), fun c1 => ⟨fun c2 => absurd (c2) (by rw [q.2.1]; decide), fun c2 => ⟨fun c3 => absurd (c3) (by rw [q.2.2.1]; decide), fun c3 => ⟨fun c4 => z, fun c4 => absurd (c4) (by rw [q.2.2.2]; decide)⟩⟩⟩⟩
      · have z := t_mhdF (d := 3) (k := k) (p := p) (f := f) (y := y) kw hn hn6 kk.2.1.2.1 (by decide) (mm_bad (v := -2) kk)
        rw [e1, e2, e3]
        exact ⟨fun c1 => absurd (c1) (by rw [q.1]; decide), fun c1 => ⟨fun c2 => absurd (c2) (by rw [q.2.1]; decide), fun c2 => ⟨fun c3 => absurd (c3) (by rw [q.2.2.1]; decide), fun c3 => ⟨fun c4 => z, fun c4 => absurd (c4) (by rw [q.2.2.2]; decide)⟩⟩⟩⟩
  · refine J_m (v := -1) (B := A) (n2 := n) (c2 := c) (dn2 := dn) (en2 := en) (dc := 2) (dm := 3) hw hk (t_chd (by decide) ?_) (fun kh kw kk => t_mhd (by decide) ?_)
    · exact ⟨fun c1 => mc_bad hk.1, fun c1 => ⟨fun c2 => mc_bad hk.1, fun c2 => ⟨fun c3 => mc_bad hk.1, fun c3 => ⟨fun c4 => absurd ⟨c1, c2, c3, c4⟩ q, fun c4 => mc_bad hk.1⟩⟩⟩⟩
    · rw [e1, e2, e3]
      exact ⟨fun c1 => mm_bad kk, fun c1 => ⟨fun c2 => mm_bad kk, fun c2 => ⟨fun c3 => mm_bad kk, fun c3 => ⟨fun c4 => absurd ⟨c1, c2, c3, c4⟩ q, fun c4 => mm_bad kk⟩⟩⟩⟩
