/-! KM: the law: the loop, with what is owed still: rules, prove, judge, act -/
set_option maxHeartbeats 4000000 in
theorem t_la18 {d : Nat} {Q : KO → Prop} {h : KH} {L i : Nat} {xs : Nat → Int32} (ht : h.1 1000000003 = (30, L)) (hx : ∀ q, h.2.2.1 1000000003 q = xs q) (hL : L ≤ 2560) (hi5 : ¬ ((Int32.ofNat L) - (5 : Int32) < (Int32.ofNat i)) → i + 5 ≤ L) (hd : 0 ≤ d) (hQ : (((Int32.ofNat L) - (5 : Int32)) < (Int32.ofNat i) → Q (some (.int (1)), h)) ∧ (¬ (((Int32.ofNat L) - (5 : Int32)) < (Int32.ofNat i)) → ((xs i) &&& (63 : Int32) = 0 → Wp d 297 240 ([some (.ref 1000000003), some (.ref 0), some (.ref 59), some (.int (Int32.ofNat i))]) [] h Q) ∧ (¬ ((xs i) &&& (63 : Int32) = 0) → ((xs i) &&& (63 : Int32) = 1 → Wp d 297 293 ([some (.ref 1000000003), some (.ref 0), some (.ref 59), some (.int (Int32.ofNat i))]) [] h Q) ∧ (¬ ((xs i) &&& (63 : Int32) = 1) → ((xs i) &&& (63 : Int32) = 2 → Wp d 297 326 ([some (.ref 1000000003), some (.ref 0), some (.ref 59), some (.int (Int32.ofNat i))]) [] h Q) ∧ (¬ ((xs i) &&& (63 : Int32) = 2) → ((xs i) &&& (63 : Int32) = 3 → Wp d 297 369 ([some (.ref 1000000003), some (.ref 0), some (.ref 59), some (.int (Int32.ofNat i))]) [] h Q) ∧ (¬ ((xs i) &&& (63 : Int32) = 3) → ((xs i) &&& (63 : Int32) = 4 → Wp d 297 402 ([some (.ref 1000000003), some (.ref 0), some (.ref 59), some (.int (Int32.ofNat i))]) [] h Q) ∧ (¬ ((xs i) &&& (63 : Int32) = 4) → ((xs i) &&& (63 : Int32) = 5 → Wp d 297 435 ([some (.ref 1000000003), some (.ref 0), some (.ref 59), some (.int (Int32.ofNat i))]) [] h Q) ∧ (¬ ((xs i) &&& (63 : Int32) = 5) → ((xs i) &&& (63 : Int32) = 6 → Wp d 297 468 ([some (.ref 1000000003), some (.ref 0), some (.ref 59), some (.int (Int32.ofNat i))]) [] h Q) ∧ (¬ ((xs i) &&& (63 : Int32) = 6) → ((xs i) &&& (63 : Int32) = 7 → Wp d 297 481 ([some (.ref 1000000003), some (.ref 0), some (.ref 59), some (.int (Int32.ofNat i))]) [] h Q) ∧ (¬ ((xs i) &&& (63 : Int32) = 7) → ((xs i) &&& (63 : Int32) = 8 → Wp d 297 504 ([some (.ref 1000000003), some (.ref 0), some (.ref 59), some (.int (Int32.ofNat i))]) [] h Q) ∧ (¬ ((xs i) &&& (63 : Int32) = 8) → ((xs i) &&& (63 : Int32) = 9 → Wp d 297 567 ([some (.ref 1000000003), some (.ref 0), some (.ref 59), some (.int (Int32.ofNat i))]) [] h Q) ∧ (¬ ((xs i) &&& (63 : Int32) = 9) → ((xs i) &&& (63 : Int32) = 10 → Wp d 297 580 ([some (.ref 1000000003), some (.ref 0), some (.ref 59), some (.int (Int32.ofNat i))]) [] h Q) ∧ (¬ ((xs i) &&& (63 : Int32) = 10) → ((xs i) &&& (63 : Int32) = 11 → Wp d 297 593 ([some (.ref 1000000003), some (.ref 0), some (.ref 59), some (.int (Int32.ofNat i))]) [] h Q) ∧ (¬ ((xs i) &&& (63 : Int32) = 11) → ((xs i) &&& (63 : Int32) = 12 → Wp d 297 616 ([some (.ref 1000000003), some (.ref 0), some (.ref 59), some (.int (Int32.ofNat i))]) [] h Q) ∧ (¬ ((xs i) &&& (63 : Int32) = 12) → ((xs i) &&& (63 : Int32) = 13 → Wp d 297 639 ([some (.ref 1000000003), some (.ref 0), some (.ref 59), some (.int (Int32.ofNat i))]) [] h Q) ∧ (¬ ((xs i) &&& (63 : Int32) = 13) → ((xs i) &&& (63 : Int32) = 14 → Wp d 297 662 ([some (.ref 1000000003), some (.ref 0), some (.ref 59), some (.int (Int32.ofNat i))]) [] h Q) ∧ (¬ ((xs i) &&& (63 : Int32) = 14) → ((xs i) &&& (63 : Int32) = 15 → Wp d 297 685 ([some (.ref 1000000003), some (.ref 0), some (.ref 59), some (.int (Int32.ofNat i))]) [] h Q) ∧ (¬ ((xs i) &&& (63 : Int32) = 15) → ((xs i) &&& (63 : Int32) = 16 → Wp d 297 718 ([some (.ref 1000000003), some (.ref 0), some (.ref 59), some (.int (Int32.ofNat i))]) [] h Q) ∧ (¬ ((xs i) &&& (63 : Int32) = 16) → ((xs i) &&& (63 : Int32) = 17 → Wp d 297 751 ([some (.ref 1000000003), some (.ref 0), some (.ref 59), some (.int (Int32.ofNat i))]) [] h Q) ∧ (¬ ((xs i) &&& (63 : Int32) = 17) → ((xs i) &&& (63 : Int32) = 18 → Wp d 297 764 ([some (.ref 1000000003), some (.ref 0), some (.ref 59), some (.int (Int32.ofNat i))]) [] h Q) ∧ (¬ ((xs i) &&& (63 : Int32) = 18) → ((xs i) &&& (63 : Int32) = 19 → Wp d 297 787 ([some (.ref 1000000003), some (.ref 0), some (.ref 59), some (.int (Int32.ofNat i))]) [] h Q) ∧ (¬ ((xs i) &&& (63 : Int32) = 19) → ((xs i) &&& (63 : Int32) = 20 → Wp d 297 820 ([some (.ref 1000000003), some (.ref 0), some (.ref 59), some (.int (Int32.ofNat i))]) [] h Q) ∧ (¬ ((xs i) &&& (63 : Int32) = 20) → ((xs i) &&& (63 : Int32) = 21 → Wp d 297 843 ([some (.ref 1000000003), some (.ref 0), some (.ref 59), some (.int (Int32.ofNat i))]) [] h Q) ∧ (¬ ((xs i) &&& (63 : Int32) = 21) → ((xs i) &&& (63 : Int32) = 22 → Wp d 297 876 ([some (.ref 1000000003), some (.ref 0), some (.ref 59), some (.int (Int32.ofNat i))]) [] h Q) ∧ (¬ ((xs i) &&& (63 : Int32) = 22) → ((xs i) &&& (63 : Int32) = 23 → Wp d 297 909 ([some (.ref 1000000003), some (.ref 0), some (.ref 59), some (.int (Int32.ofNat i))]) [] h Q) ∧ (¬ ((xs i) &&& (63 : Int32) = 23) → ((xs i) &&& (63 : Int32) = 24 → Wp d 297 932 ([some (.ref 1000000003), some (.ref 0), some (.ref 59), some (.int (Int32.ofNat i))]) [] h Q) ∧ (¬ ((xs i) &&& (63 : Int32) = 24) → ((xs i) &&& (63 : Int32) = 25 → Wp d 297 955 ([some (.ref 1000000003), some (.ref 0), some (.ref 59), some (.int (Int32.ofNat i))]) [] h Q) ∧ (¬ ((xs i) &&& (63 : Int32) = 25) → ((xs i) &&& (63 : Int32) = 26 → Wp d 297 998 ([some (.ref 1000000003), some (.ref 0), some (.ref 59), some (.int (Int32.ofNat i))]) [] h Q) ∧ (¬ ((xs i) &&& (63 : Int32) = 26) → ((xs i) &&& (63 : Int32) = 27 → Wp d 297 1011 ([some (.ref 1000000003), some (.ref 0), some (.ref 59), some (.int (Int32.ofNat i))]) [] h Q) ∧ (¬ ((xs i) &&& (63 : Int32) = 27) → ((xs i) &&& (63 : Int32) = 28 → Wp d 297 1034 ([some (.ref 1000000003), some (.ref 0), some (.ref 59), some (.int (Int32.ofNat i))]) [] h Q) ∧ (¬ ((xs i) &&& (63 : Int32) = 28) → ((xs i) &&& (63 : Int32) = 29 → Wp d 297 1047 ([some (.ref 1000000003), some (.ref 0), some (.ref 59), some (.int (Int32.ofNat i))]) [] h Q) ∧ (¬ ((xs i) &&& (63 : Int32) = 29) → ((xs i) &&& (63 : Int32) = 30 → Wp d 297 1070 ([some (.ref 1000000003), some (.ref 0), some (.ref 59), some (.int (Int32.ofNat i))]) [] h Q) ∧ (¬ ((xs i) &&& (63 : Int32) = 30) → ((xs i) &&& (63 : Int32) = 31 → Wp d 297 1083 ([some (.ref 1000000003), some (.ref 0), some (.ref 59), some (.int (Int32.ofNat i))]) [] h Q) ∧ (¬ ((xs i) &&& (63 : Int32) = 31) → ((xs i) &&& (63 : Int32) = 32 → Wp d 297 1116 ([some (.ref 1000000003), some (.ref 0), some (.ref 59), some (.int (Int32.ofNat i))]) [] h Q) ∧ (¬ ((xs i) &&& (63 : Int32) = 32) → ((xs i) &&& (63 : Int32) = 33 → Wp d 297 1139 ([some (.ref 1000000003), some (.ref 0), some (.ref 59), some (.int (Int32.ofNat i))]) [] h Q) ∧ (¬ ((xs i) &&& (63 : Int32) = 33) → ((xs i) &&& (63 : Int32) = 34 → Wp d 297 1172 ([some (.ref 1000000003), some (.ref 0), some (.ref 59), some (.int (Int32.ofNat i))]) [] h Q) ∧ (¬ ((xs i) &&& (63 : Int32) = 34) → ((xs i) &&& (63 : Int32) = 35 → Wp d 297 1215 ([some (.ref 1000000003), some (.ref 0), some (.ref 59), some (.int (Int32.ofNat i))]) [] h Q) ∧ (¬ ((xs i) &&& (63 : Int32) = 35) → ((xs i) &&& (63 : Int32) = 36 → Wp d 297 1228 ([some (.ref 1000000003), some (.ref 0), some (.ref 59), some (.int (Int32.ofNat i))]) [] h Q) ∧ (¬ ((xs i) &&& (63 : Int32) = 36) → ((xs i) &&& (63 : Int32) = 37 → Wp d 297 1271 ([some (.ref 1000000003), some (.ref 0), some (.ref 59), some (.int (Int32.ofNat i))]) [] h Q) ∧ (¬ ((xs i) &&& (63 : Int32) = 37) → ((xs i) &&& (63 : Int32) = 38 → Wp d 297 1314 ([some (.ref 1000000003), some (.ref 0), some (.ref 59), some (.int (Int32.ofNat i))]) [] h Q) ∧ (¬ ((xs i) &&& (63 : Int32) = 38) → ((xs i) &&& (63 : Int32) = 39 → Wp d 297 1357 ([some (.ref 1000000003), some (.ref 0), some (.ref 59), some (.int (Int32.ofNat i))]) [] h Q) ∧ (¬ ((xs i) &&& (63 : Int32) = 39) → ((xs i) &&& (63 : Int32) = 40 → Wp d 297 1400 ([some (.ref 1000000003), some (.ref 0), some (.ref 59), some (.int (Int32.ofNat i))]) [] h Q) ∧ (¬ ((xs i) &&& (63 : Int32) = 40) → ((xs i) &&& (63 : Int32) = 41 → Wp d 297 1443 ([some (.ref 1000000003), some (.ref 0), some (.ref 59), some (.int (Int32.ofNat i))]) [] h Q) ∧ (¬ ((xs i) &&& (63 : Int32) = 41) → ((xs i) &&& (63 : Int32) = 42 → Wp d 297 1486 ([some (.ref 1000000003), some (.ref 0), some (.ref 59), some (.int (Int32.ofNat i))]) [] h Q) ∧ (¬ ((xs i) &&& (63 : Int32) = 42) → ((xs i) &&& (63 : Int32) = 43 → Wp d 297 1519 ([some (.ref 1000000003), some (.ref 0), some (.ref 59), some (.int (Int32.ofNat i))]) [] h Q) ∧ (¬ ((xs i) &&& (63 : Int32) = 43) → ((xs i) &&& (63 : Int32) = 44 → Wp d 297 1562 ([some (.ref 1000000003), some (.ref 0), some (.ref 59), some (.int (Int32.ofNat i))]) [] h Q) ∧ (¬ ((xs i) &&& (63 : Int32) = 44) → ((xs i) &&& (63 : Int32) = 45 → Wp d 297 1585 ([some (.ref 1000000003), some (.ref 0), some (.ref 59), some (.int (Int32.ofNat i))]) [] h Q) ∧ (¬ ((xs i) &&& (63 : Int32) = 45) → ((xs i) &&& (63 : Int32) = 46 → Wp d 297 1608 ([some (.ref 1000000003), some (.ref 0), some (.ref 59), some (.int (Int32.ofNat i))]) [] h Q) ∧ (¬ ((xs i) &&& (63 : Int32) = 46) → ((xs i) &&& (63 : Int32) = 47 → Wp d 297 1621 ([some (.ref 1000000003), some (.ref 0), some (.ref 59), some (.int (Int32.ofNat i))]) [] h Q) ∧ (¬ ((xs i) &&& (63 : Int32) = 47) → Wp d 297 18 ([some (.ref 1000000003), some (.ref 0), some (.ref 59), some (.int ((Int32.ofNat i) + 5))]) [] h Q)))))))))))))))))))))))))))))))))))))))))))))))))) : Wp d 297 18 [some (.ref 1000000003), some (.ref 0), some (.ref 59), some (.int (Int32.ofNat i))] [] h Q := by
  refine Wp.seg 2 (pc1 := 20) (ls1 := [some (.ref 1000000003), some (.ref 0), some (.ref 59), some (.int (Int32.ofNat i))]) (st1 := [.ref 1000000003, .int (Int32.ofNat i)]) rfl ?_
  refine Wp.alen (n := L) (k := 30) rfl ht rfl ?_
  refine Wp.seg 2 (pc1 := 23) (ls1 := [some (.ref 1000000003), some (.ref 0), some (.ref 59), some (.int (Int32.ofNat i))]) (st1 := [.int ((Int32.ofNat L) - (5 : Int32)), .int (Int32.ofNat i)]) rfl ?_
  refine Wp.if2 rfl (fun (c1 : ((Int32.ofNat L) - (5 : Int32)) < (Int32.ofNat i)) => ?_) (fun (c1 : ¬ (((Int32.ofNat L) - (5 : Int32)) < (Int32.ofNat i))) => ?_)
  · refine Wp.seg 1 (pc1 := 1641) (ls1 := [some (.ref 1000000003), some (.ref 0), some (.ref 59), some (.int (Int32.ofNat i))]) (st1 := [.int (1)]) rfl ?_
    exact Wp.reti rfl rfl (hQ.1 c1)
  · refine Wp.seg 2 (pc1 := 28) (ls1 := [some (.ref 1000000003), some (.ref 0), some (.ref 59), some (.int (Int32.ofNat i))]) (st1 := [.int (Int32.ofNat i), .ref 1000000003]) rfl ?_
    refine Wp.iald (j := i) (k := 30) (n := L) rfl ht rfl rfl ((by have := hi5 ‹_›; omega)) (by omega) ?_
    rw [show h.2.2.1 1000000003 i = xs i from hx i]
    refine Wp.seg 2 (pc1 := 32) (ls1 := [some (.ref 1000000003), some (.ref 0), some (.ref 59), some (.int (Int32.ofNat i))]) (st1 := [.int ((xs i) &&& (63 : Int32))]) rfl ?_
    refine Wp.tsw rfl ?_
    refine ⟨fun c2 => ?_, fun c2 => ?_⟩
    · have c2 : (xs i) &&& (63 : Int32) = 0 := c2
      show Wp d 297 240 [some (.ref 1000000003), some (.ref 0), some (.ref 59), some (.int (Int32.ofNat i))] [] h Q
      exact ((hQ.2 c1).1 c2)
    have c2 : ¬ ((xs i) &&& (63 : Int32)) = 0 := c2
    refine ⟨fun c3 => ?_, fun c3 => ?_⟩
    · have c3 : (xs i) &&& (63 : Int32) = 1 := c3
      show Wp d 297 293 [some (.ref 1000000003), some (.ref 0), some (.ref 59), some (.int (Int32.ofNat i))] [] h Q
      exact (((hQ.2 c1).2 c2).1 c3)
    have c3 : ¬ ((xs i) &&& (63 : Int32)) = 1 := c3
    refine ⟨fun c4 => ?_, fun c4 => ?_⟩
    · have c4 : (xs i) &&& (63 : Int32) = 2 := c4
      show Wp d 297 326 [some (.ref 1000000003), some (.ref 0), some (.ref 59), some (.int (Int32.ofNat i))] [] h Q
      exact ((((hQ.2 c1).2 c2).2 c3).1 c4)
    have c4 : ¬ ((xs i) &&& (63 : Int32)) = 2 := c4
    refine ⟨fun c5 => ?_, fun c5 => ?_⟩
    · have c5 : (xs i) &&& (63 : Int32) = 3 := c5
      show Wp d 297 369 [some (.ref 1000000003), some (.ref 0), some (.ref 59), some (.int (Int32.ofNat i))] [] h Q
      exact (((((hQ.2 c1).2 c2).2 c3).2 c4).1 c5)
    have c5 : ¬ ((xs i) &&& (63 : Int32)) = 3 := c5
    refine ⟨fun c6 => ?_, fun c6 => ?_⟩
    · have c6 : (xs i) &&& (63 : Int32) = 4 := c6
      show Wp d 297 402 [some (.ref 1000000003), some (.ref 0), some (.ref 59), some (.int (Int32.ofNat i))] [] h Q
      exact ((((((hQ.2 c1).2 c2).2 c3).2 c4).2 c5).1 c6)
    have c6 : ¬ ((xs i) &&& (63 : Int32)) = 4 := c6
    refine ⟨fun c7 => ?_, fun c7 => ?_⟩
    · have c7 : (xs i) &&& (63 : Int32) = 5 := c7
      show Wp d 297 435 [some (.ref 1000000003), some (.ref 0), some (.ref 59), some (.int (Int32.ofNat i))] [] h Q
      exact (((((((hQ.2 c1).2 c2).2 c3).2 c4).2 c5).2 c6).1 c7)
    have c7 : ¬ ((xs i) &&& (63 : Int32)) = 5 := c7
    refine ⟨fun c8 => ?_, fun c8 => ?_⟩
    · have c8 : (xs i) &&& (63 : Int32) = 6 := c8
      show Wp d 297 468 [some (.ref 1000000003), some (.ref 0), some (.ref 59), some (.int (Int32.ofNat i))] [] h Q
      exact ((((((((hQ.2 c1).2 c2).2 c3).2 c4).2 c5).2 c6).2 c7).1 c8)
    have c8 : ¬ ((xs i) &&& (63 : Int32)) = 6 := c8
    refine ⟨fun c9 => ?_, fun c9 => ?_⟩
    · have c9 : (xs i) &&& (63 : Int32) = 7 := c9
      show Wp d 297 481 [some (.ref 1000000003), some (.ref 0), some (.ref 59), some (.int (Int32.ofNat i))] [] h Q
      exact (((((((((hQ.2 c1).2 c2).2 c3).2 c4).2 c5).2 c6).2 c7).2 c8).1 c9)
    have c9 : ¬ ((xs i) &&& (63 : Int32)) = 7 := c9
    refine ⟨fun c10 => ?_, fun c10 => ?_⟩
    · have c10 : (xs i) &&& (63 : Int32) = 8 := c10
      show Wp d 297 504 [some (.ref 1000000003), some (.ref 0), some (.ref 59), some (.int (Int32.ofNat i))] [] h Q
      exact ((((((((((hQ.2 c1).2 c2).2 c3).2 c4).2 c5).2 c6).2 c7).2 c8).2 c9).1 c10)
    have c10 : ¬ ((xs i) &&& (63 : Int32)) = 8 := c10
    refine ⟨fun c11 => ?_, fun c11 => ?_⟩
    · have c11 : (xs i) &&& (63 : Int32) = 9 := c11
      show Wp d 297 567 [some (.ref 1000000003), some (.ref 0), some (.ref 59), some (.int (Int32.ofNat i))] [] h Q
      exact (((((((((((hQ.2 c1).2 c2).2 c3).2 c4).2 c5).2 c6).2 c7).2 c8).2 c9).2 c10).1 c11)
    have c11 : ¬ ((xs i) &&& (63 : Int32)) = 9 := c11
    refine ⟨fun c12 => ?_, fun c12 => ?_⟩
    · have c12 : (xs i) &&& (63 : Int32) = 10 := c12
      show Wp d 297 580 [some (.ref 1000000003), some (.ref 0), some (.ref 59), some (.int (Int32.ofNat i))] [] h Q
      exact ((((((((((((hQ.2 c1).2 c2).2 c3).2 c4).2 c5).2 c6).2 c7).2 c8).2 c9).2 c10).2 c11).1 c12)
    have c12 : ¬ ((xs i) &&& (63 : Int32)) = 10 := c12
    refine ⟨fun c13 => ?_, fun c13 => ?_⟩
    · have c13 : (xs i) &&& (63 : Int32) = 11 := c13
      show Wp d 297 593 [some (.ref 1000000003), some (.ref 0), some (.ref 59), some (.int (Int32.ofNat i))] [] h Q
      exact (((((((((((((hQ.2 c1).2 c2).2 c3).2 c4).2 c5).2 c6).2 c7).2 c8).2 c9).2 c10).2 c11).2 c12).1 c13)
    have c13 : ¬ ((xs i) &&& (63 : Int32)) = 11 := c13
    refine ⟨fun c14 => ?_, fun c14 => ?_⟩
    · have c14 : (xs i) &&& (63 : Int32) = 12 := c14
      show Wp d 297 616 [some (.ref 1000000003), some (.ref 0), some (.ref 59), some (.int (Int32.ofNat i))] [] h Q
      exact ((((((((((((((hQ.2 c1).2 c2).2 c3).2 c4).2 c5).2 c6).2 c7).2 c8).2 c9).2 c10).2 c11).2 c12).2 c13).1 c14)
    have c14 : ¬ ((xs i) &&& (63 : Int32)) = 12 := c14
    refine ⟨fun c15 => ?_, fun c15 => ?_⟩
    · have c15 : (xs i) &&& (63 : Int32) = 13 := c15
      show Wp d 297 639 [some (.ref 1000000003), some (.ref 0), some (.ref 59), some (.int (Int32.ofNat i))] [] h Q
      exact (((((((((((((((hQ.2 c1).2 c2).2 c3).2 c4).2 c5).2 c6).2 c7).2 c8).2 c9).2 c10).2 c11).2 c12).2 c13).2 c14).1 c15)
    have c15 : ¬ ((xs i) &&& (63 : Int32)) = 13 := c15
    refine ⟨fun c16 => ?_, fun c16 => ?_⟩
    · have c16 : (xs i) &&& (63 : Int32) = 14 := c16
      show Wp d 297 662 [some (.ref 1000000003), some (.ref 0), some (.ref 59), some (.int (Int32.ofNat i))] [] h Q
      exact ((((((((((((((((hQ.2 c1).2 c2).2 c3).2 c4).2 c5).2 c6).2 c7).2 c8).2 c9).2 c10).2 c11).2 c12).2 c13).2 c14).2 c15).1 c16)
    have c16 : ¬ ((xs i) &&& (63 : Int32)) = 14 := c16
    refine ⟨fun c17 => ?_, fun c17 => ?_⟩
    · have c17 : (xs i) &&& (63 : Int32) = 15 := c17
      show Wp d 297 685 [some (.ref 1000000003), some (.ref 0), some (.ref 59), some (.int (Int32.ofNat i))] [] h Q
      exact (((((((((((((((((hQ.2 c1).2 c2).2 c3).2 c4).2 c5).2 c6).2 c7).2 c8).2 c9).2 c10).2 c11).2 c12).2 c13).2 c14).2 c15).2 c16).1 c17)
    have c17 : ¬ ((xs i) &&& (63 : Int32)) = 15 := c17
    refine ⟨fun c18 => ?_, fun c18 => ?_⟩
    · have c18 : (xs i) &&& (63 : Int32) = 16 := c18
      show Wp d 297 718 [some (.ref 1000000003), some (.ref 0), some (.ref 59), some (.int (Int32.ofNat i))] [] h Q
      exact ((((((((((((((((((hQ.2 c1).2 c2).2 c3).2 c4).2 c5).2 c6).2 c7).2 c8).2 c9).2 c10).2 c11).2 c12).2 c13).2 c14).2 c15).2 c16).2 c17).1 c18)
    have c18 : ¬ ((xs i) &&& (63 : Int32)) = 16 := c18
    refine ⟨fun c19 => ?_, fun c19 => ?_⟩
    · have c19 : (xs i) &&& (63 : Int32) = 17 := c19
      show Wp d 297 751 [some (.ref 1000000003), some (.ref 0), some (.ref 59), some (.int (Int32.ofNat i))] [] h Q
      exact (((((((((((((((((((hQ.2 c1).2 c2).2 c3).2 c4).2 c5).2 c6).2 c7).2 c8).2 c9).2 c10).2 c11).2 c12).2 c13).2 c14).2 c15).2 c16).2 c17).2 c18).1 c19)
    have c19 : ¬ ((xs i) &&& (63 : Int32)) = 17 := c19
    refine ⟨fun c20 => ?_, fun c20 => ?_⟩
    · have c20 : (xs i) &&& (63 : Int32) = 18 := c20
      show Wp d 297 764 [some (.ref 1000000003), some (.ref 0), some (.ref 59), some (.int (Int32.ofNat i))] [] h Q
      exact ((((((((((((((((((((hQ.2 c1).2 c2).2 c3).2 c4).2 c5).2 c6).2 c7).2 c8).2 c9).2 c10).2 c11).2 c12).2 c13).2 c14).2 c15).2 c16).2 c17).2 c18).2 c19).1 c20)
    have c20 : ¬ ((xs i) &&& (63 : Int32)) = 18 := c20
    refine ⟨fun c21 => ?_, fun c21 => ?_⟩
    · have c21 : (xs i) &&& (63 : Int32) = 19 := c21
      show Wp d 297 787 [some (.ref 1000000003), some (.ref 0), some (.ref 59), some (.int (Int32.ofNat i))] [] h Q
      exact (((((((((((((((((((((hQ.2 c1).2 c2).2 c3).2 c4).2 c5).2 c6).2 c7).2 c8).2 c9).2 c10).2 c11).2 c12).2 c13).2 c14).2 c15).2 c16).2 c17).2 c18).2 c19).2 c20).1 c21)
    have c21 : ¬ ((xs i) &&& (63 : Int32)) = 19 := c21
    refine ⟨fun c22 => ?_, fun c22 => ?_⟩
    · have c22 : (xs i) &&& (63 : Int32) = 20 := c22
      show Wp d 297 820 [some (.ref 1000000003), some (.ref 0), some (.ref 59), some (.int (Int32.ofNat i))] [] h Q
      exact ((((((((((((((((((((((hQ.2 c1).2 c2).2 c3).2 c4).2 c5).2 c6).2 c7).2 c8).2 c9).2 c10).2 c11).2 c12).2 c13).2 c14).2 c15).2 c16).2 c17).2 c18).2 c19).2 c20).2 c21).1 c22)
    have c22 : ¬ ((xs i) &&& (63 : Int32)) = 20 := c22
    refine ⟨fun c23 => ?_, fun c23 => ?_⟩
    · have c23 : (xs i) &&& (63 : Int32) = 21 := c23
      show Wp d 297 843 [some (.ref 1000000003), some (.ref 0), some (.ref 59), some (.int (Int32.ofNat i))] [] h Q
      exact (((((((((((((((((((((((hQ.2 c1).2 c2).2 c3).2 c4).2 c5).2 c6).2 c7).2 c8).2 c9).2 c10).2 c11).2 c12).2 c13).2 c14).2 c15).2 c16).2 c17).2 c18).2 c19).2 c20).2 c21).2 c22).1 c23)
    have c23 : ¬ ((xs i) &&& (63 : Int32)) = 21 := c23
    refine ⟨fun c24 => ?_, fun c24 => ?_⟩
    · have c24 : (xs i) &&& (63 : Int32) = 22 := c24
      show Wp d 297 876 [some (.ref 1000000003), some (.ref 0), some (.ref 59), some (.int (Int32.ofNat i))] [] h Q
      exact ((((((((((((((((((((((((hQ.2 c1).2 c2).2 c3).2 c4).2 c5).2 c6).2 c7).2 c8).2 c9).2 c10).2 c11).2 c12).2 c13).2 c14).2 c15).2 c16).2 c17).2 c18).2 c19).2 c20).2 c21).2 c22).2 c23).1 c24)
    have c24 : ¬ ((xs i) &&& (63 : Int32)) = 22 := c24
    refine ⟨fun c25 => ?_, fun c25 => ?_⟩
    · have c25 : (xs i) &&& (63 : Int32) = 23 := c25
      show Wp d 297 909 [some (.ref 1000000003), some (.ref 0), some (.ref 59), some (.int (Int32.ofNat i))] [] h Q
      exact (((((((((((((((((((((((((hQ.2 c1).2 c2).2 c3).2 c4).2 c5).2 c6).2 c7).2 c8).2 c9).2 c10).2 c11).2 c12).2 c13).2 c14).2 c15).2 c16).2 c17).2 c18).2 c19).2 c20).2 c21).2 c22).2 c23).2 c24).1 c25)
    have c25 : ¬ ((xs i) &&& (63 : Int32)) = 23 := c25
    refine ⟨fun c26 => ?_, fun c26 => ?_⟩
    · have c26 : (xs i) &&& (63 : Int32) = 24 := c26
      show Wp d 297 932 [some (.ref 1000000003), some (.ref 0), some (.ref 59), some (.int (Int32.ofNat i))] [] h Q
      exact ((((((((((((((((((((((((((hQ.2 c1).2 c2).2 c3).2 c4).2 c5).2 c6).2 c7).2 c8).2 c9).2 c10).2 c11).2 c12).2 c13).2 c14).2 c15).2 c16).2 c17).2 c18).2 c19).2 c20).2 c21).2 c22).2 c23).2 c24).2 c25).1 c26)
    have c26 : ¬ ((xs i) &&& (63 : Int32)) = 24 := c26
    refine ⟨fun c27 => ?_, fun c27 => ?_⟩
    · have c27 : (xs i) &&& (63 : Int32) = 25 := c27
      show Wp d 297 955 [some (.ref 1000000003), some (.ref 0), some (.ref 59), some (.int (Int32.ofNat i))] [] h Q
      exact (((((((((((((((((((((((((((hQ.2 c1).2 c2).2 c3).2 c4).2 c5).2 c6).2 c7).2 c8).2 c9).2 c10).2 c11).2 c12).2 c13).2 c14).2 c15).2 c16).2 c17).2 c18).2 c19).2 c20).2 c21).2 c22).2 c23).2 c24).2 c25).2 c26).1 c27)
    have c27 : ¬ ((xs i) &&& (63 : Int32)) = 25 := c27
    refine ⟨fun c28 => ?_, fun c28 => ?_⟩
    · have c28 : (xs i) &&& (63 : Int32) = 26 := c28
      show Wp d 297 998 [some (.ref 1000000003), some (.ref 0), some (.ref 59), some (.int (Int32.ofNat i))] [] h Q
      exact ((((((((((((((((((((((((((((hQ.2 c1).2 c2).2 c3).2 c4).2 c5).2 c6).2 c7).2 c8).2 c9).2 c10).2 c11).2 c12).2 c13).2 c14).2 c15).2 c16).2 c17).2 c18).2 c19).2 c20).2 c21).2 c22).2 c23).2 c24).2 c25).2 c26).2 c27).1 c28)
    have c28 : ¬ ((xs i) &&& (63 : Int32)) = 26 := c28
    refine ⟨fun c29 => ?_, fun c29 => ?_⟩
    · have c29 : (xs i) &&& (63 : Int32) = 27 := c29
      show Wp d 297 1011 [some (.ref 1000000003), some (.ref 0), some (.ref 59), some (.int (Int32.ofNat i))] [] h Q
      exact (((((((((((((((((((((((((((((hQ.2 c1).2 c2).2 c3).2 c4).2 c5).2 c6).2 c7).2 c8).2 c9).2 c10).2 c11).2 c12).2 c13).2 c14).2 c15).2 c16).2 c17).2 c18).2 c19).2 c20).2 c21).2 c22).2 c23).2 c24).2 c25).2 c26).2 c27).2 c28).1 c29)
    have c29 : ¬ ((xs i) &&& (63 : Int32)) = 27 := c29
    refine ⟨fun c30 => ?_, fun c30 => ?_⟩
    · have c30 : (xs i) &&& (63 : Int32) = 28 := c30
      show Wp d 297 1034 [some (.ref 1000000003), some (.ref 0), some (.ref 59), some (.int (Int32.ofNat i))] [] h Q
      exact ((((((((((((((((((((((((((((((hQ.2 c1).2 c2).2 c3).2 c4).2 c5).2 c6).2 c7).2 c8).2 c9).2 c10).2 c11).2 c12).2 c13).2 c14).2 c15).2 c16).2 c17).2 c18).2 c19).2 c20).2 c21).2 c22).2 c23).2 c24).2 c25).2 c26).2 c27).2 c28).2 c29).1 c30)
    have c30 : ¬ ((xs i) &&& (63 : Int32)) = 28 := c30
    refine ⟨fun c31 => ?_, fun c31 => ?_⟩
    · have c31 : (xs i) &&& (63 : Int32) = 29 := c31
      show Wp d 297 1047 [some (.ref 1000000003), some (.ref 0), some (.ref 59), some (.int (Int32.ofNat i))] [] h Q
      exact (((((((((((((((((((((((((((((((hQ.2 c1).2 c2).2 c3).2 c4).2 c5).2 c6).2 c7).2 c8).2 c9).2 c10).2 c11).2 c12).2 c13).2 c14).2 c15).2 c16).2 c17).2 c18).2 c19).2 c20).2 c21).2 c22).2 c23).2 c24).2 c25).2 c26).2 c27).2 c28).2 c29).2 c30).1 c31)
    have c31 : ¬ ((xs i) &&& (63 : Int32)) = 29 := c31
    refine ⟨fun c32 => ?_, fun c32 => ?_⟩
    · have c32 : (xs i) &&& (63 : Int32) = 30 := c32
      show Wp d 297 1070 [some (.ref 1000000003), some (.ref 0), some (.ref 59), some (.int (Int32.ofNat i))] [] h Q
      exact ((((((((((((((((((((((((((((((((hQ.2 c1).2 c2).2 c3).2 c4).2 c5).2 c6).2 c7).2 c8).2 c9).2 c10).2 c11).2 c12).2 c13).2 c14).2 c15).2 c16).2 c17).2 c18).2 c19).2 c20).2 c21).2 c22).2 c23).2 c24).2 c25).2 c26).2 c27).2 c28).2 c29).2 c30).2 c31).1 c32)
    have c32 : ¬ ((xs i) &&& (63 : Int32)) = 30 := c32
    refine ⟨fun c33 => ?_, fun c33 => ?_⟩
    · have c33 : (xs i) &&& (63 : Int32) = 31 := c33
      show Wp d 297 1083 [some (.ref 1000000003), some (.ref 0), some (.ref 59), some (.int (Int32.ofNat i))] [] h Q
      exact (((((((((((((((((((((((((((((((((hQ.2 c1).2 c2).2 c3).2 c4).2 c5).2 c6).2 c7).2 c8).2 c9).2 c10).2 c11).2 c12).2 c13).2 c14).2 c15).2 c16).2 c17).2 c18).2 c19).2 c20).2 c21).2 c22).2 c23).2 c24).2 c25).2 c26).2 c27).2 c28).2 c29).2 c30).2 c31).2 c32).1 c33)
    have c33 : ¬ ((xs i) &&& (63 : Int32)) = 31 := c33
    refine ⟨fun c34 => ?_, fun c34 => ?_⟩
    · have c34 : (xs i) &&& (63 : Int32) = 32 := c34
      show Wp d 297 1116 [some (.ref 1000000003), some (.ref 0), some (.ref 59), some (.int (Int32.ofNat i))] [] h Q
      exact ((((((((((((((((((((((((((((((((((hQ.2 c1).2 c2).2 c3).2 c4).2 c5).2 c6).2 c7).2 c8).2 c9).2 c10).2 c11).2 c12).2 c13).2 c14).2 c15).2 c16).2 c17).2 c18).2 c19).2 c20).2 c21).2 c22).2 c23).2 c24).2 c25).2 c26).2 c27).2 c28).2 c29).2 c30).2 c31).2 c32).2 c33).1 c34)
    have c34 : ¬ ((xs i) &&& (63 : Int32)) = 32 := c34
    refine ⟨fun c35 => ?_, fun c35 => ?_⟩
    · have c35 : (xs i) &&& (63 : Int32) = 33 := c35
      show Wp d 297 1139 [some (.ref 1000000003), some (.ref 0), some (.ref 59), some (.int (Int32.ofNat i))] [] h Q
      exact (((((((((((((((((((((((((((((((((((hQ.2 c1).2 c2).2 c3).2 c4).2 c5).2 c6).2 c7).2 c8).2 c9).2 c10).2 c11).2 c12).2 c13).2 c14).2 c15).2 c16).2 c17).2 c18).2 c19).2 c20).2 c21).2 c22).2 c23).2 c24).2 c25).2 c26).2 c27).2 c28).2 c29).2 c30).2 c31).2 c32).2 c33).2 c34).1 c35)
    have c35 : ¬ ((xs i) &&& (63 : Int32)) = 33 := c35
    refine ⟨fun c36 => ?_, fun c36 => ?_⟩
    · have c36 : (xs i) &&& (63 : Int32) = 34 := c36
      show Wp d 297 1172 [some (.ref 1000000003), some (.ref 0), some (.ref 59), some (.int (Int32.ofNat i))] [] h Q
      exact ((((((((((((((((((((((((((((((((((((hQ.2 c1).2 c2).2 c3).2 c4).2 c5).2 c6).2 c7).2 c8).2 c9).2 c10).2 c11).2 c12).2 c13).2 c14).2 c15).2 c16).2 c17).2 c18).2 c19).2 c20).2 c21).2 c22).2 c23).2 c24).2 c25).2 c26).2 c27).2 c28).2 c29).2 c30).2 c31).2 c32).2 c33).2 c34).2 c35).1 c36)
    have c36 : ¬ ((xs i) &&& (63 : Int32)) = 34 := c36
    refine ⟨fun c37 => ?_, fun c37 => ?_⟩
    · have c37 : (xs i) &&& (63 : Int32) = 35 := c37
      show Wp d 297 1215 [some (.ref 1000000003), some (.ref 0), some (.ref 59), some (.int (Int32.ofNat i))] [] h Q
      exact (((((((((((((((((((((((((((((((((((((hQ.2 c1).2 c2).2 c3).2 c4).2 c5).2 c6).2 c7).2 c8).2 c9).2 c10).2 c11).2 c12).2 c13).2 c14).2 c15).2 c16).2 c17).2 c18).2 c19).2 c20).2 c21).2 c22).2 c23).2 c24).2 c25).2 c26).2 c27).2 c28).2 c29).2 c30).2 c31).2 c32).2 c33).2 c34).2 c35).2 c36).1 c37)
    have c37 : ¬ ((xs i) &&& (63 : Int32)) = 35 := c37
    refine ⟨fun c38 => ?_, fun c38 => ?_⟩
    · have c38 : (xs i) &&& (63 : Int32) = 36 := c38
      show Wp d 297 1228 [some (.ref 1000000003), some (.ref 0), some (.ref 59), some (.int (Int32.ofNat i))] [] h Q
      exact ((((((((((((((((((((((((((((((((((((((hQ.2 c1).2 c2).2 c3).2 c4).2 c5).2 c6).2 c7).2 c8).2 c9).2 c10).2 c11).2 c12).2 c13).2 c14).2 c15).2 c16).2 c17).2 c18).2 c19).2 c20).2 c21).2 c22).2 c23).2 c24).2 c25).2 c26).2 c27).2 c28).2 c29).2 c30).2 c31).2 c32).2 c33).2 c34).2 c35).2 c36).2 c37).1 c38)
    have c38 : ¬ ((xs i) &&& (63 : Int32)) = 36 := c38
    refine ⟨fun c39 => ?_, fun c39 => ?_⟩
    · have c39 : (xs i) &&& (63 : Int32) = 37 := c39
      show Wp d 297 1271 [some (.ref 1000000003), some (.ref 0), some (.ref 59), some (.int (Int32.ofNat i))] [] h Q
      exact (((((((((((((((((((((((((((((((((((((((hQ.2 c1).2 c2).2 c3).2 c4).2 c5).2 c6).2 c7).2 c8).2 c9).2 c10).2 c11).2 c12).2 c13).2 c14).2 c15).2 c16).2 c17).2 c18).2 c19).2 c20).2 c21).2 c22).2 c23).2 c24).2 c25).2 c26).2 c27).2 c28).2 c29).2 c30).2 c31).2 c32).2 c33).2 c34).2 c35).2 c36).2 c37).2 c38).1 c39)
    have c39 : ¬ ((xs i) &&& (63 : Int32)) = 37 := c39
    refine ⟨fun c40 => ?_, fun c40 => ?_⟩
    · have c40 : (xs i) &&& (63 : Int32) = 38 := c40
      show Wp d 297 1314 [some (.ref 1000000003), some (.ref 0), some (.ref 59), some (.int (Int32.ofNat i))] [] h Q
      exact ((((((((((((((((((((((((((((((((((((((((hQ.2 c1).2 c2).2 c3).2 c4).2 c5).2 c6).2 c7).2 c8).2 c9).2 c10).2 c11).2 c12).2 c13).2 c14).2 c15).2 c16).2 c17).2 c18).2 c19).2 c20).2 c21).2 c22).2 c23).2 c24).2 c25).2 c26).2 c27).2 c28).2 c29).2 c30).2 c31).2 c32).2 c33).2 c34).2 c35).2 c36).2 c37).2 c38).2 c39).1 c40)
    have c40 : ¬ ((xs i) &&& (63 : Int32)) = 38 := c40
    refine ⟨fun c41 => ?_, fun c41 => ?_⟩
    · have c41 : (xs i) &&& (63 : Int32) = 39 := c41
      show Wp d 297 1357 [some (.ref 1000000003), some (.ref 0), some (.ref 59), some (.int (Int32.ofNat i))] [] h Q
      exact (((((((((((((((((((((((((((((((((((((((((hQ.2 c1).2 c2).2 c3).2 c4).2 c5).2 c6).2 c7).2 c8).2 c9).2 c10).2 c11).2 c12).2 c13).2 c14).2 c15).2 c16).2 c17).2 c18).2 c19).2 c20).2 c21).2 c22).2 c23).2 c24).2 c25).2 c26).2 c27).2 c28).2 c29).2 c30).2 c31).2 c32).2 c33).2 c34).2 c35).2 c36).2 c37).2 c38).2 c39).2 c40).1 c41)
    have c41 : ¬ ((xs i) &&& (63 : Int32)) = 39 := c41
    refine ⟨fun c42 => ?_, fun c42 => ?_⟩
    · have c42 : (xs i) &&& (63 : Int32) = 40 := c42
      show Wp d 297 1400 [some (.ref 1000000003), some (.ref 0), some (.ref 59), some (.int (Int32.ofNat i))] [] h Q
      exact ((((((((((((((((((((((((((((((((((((((((((hQ.2 c1).2 c2).2 c3).2 c4).2 c5).2 c6).2 c7).2 c8).2 c9).2 c10).2 c11).2 c12).2 c13).2 c14).2 c15).2 c16).2 c17).2 c18).2 c19).2 c20).2 c21).2 c22).2 c23).2 c24).2 c25).2 c26).2 c27).2 c28).2 c29).2 c30).2 c31).2 c32).2 c33).2 c34).2 c35).2 c36).2 c37).2 c38).2 c39).2 c40).2 c41).1 c42)
    have c42 : ¬ ((xs i) &&& (63 : Int32)) = 40 := c42
    refine ⟨fun c43 => ?_, fun c43 => ?_⟩
    · have c43 : (xs i) &&& (63 : Int32) = 41 := c43
      show Wp d 297 1443 [some (.ref 1000000003), some (.ref 0), some (.ref 59), some (.int (Int32.ofNat i))] [] h Q
      exact (((((((((((((((((((((((((((((((((((((((((((hQ.2 c1).2 c2).2 c3).2 c4).2 c5).2 c6).2 c7).2 c8).2 c9).2 c10).2 c11).2 c12).2 c13).2 c14).2 c15).2 c16).2 c17).2 c18).2 c19).2 c20).2 c21).2 c22).2 c23).2 c24).2 c25).2 c26).2 c27).2 c28).2 c29).2 c30).2 c31).2 c32).2 c33).2 c34).2 c35).2 c36).2 c37).2 c38).2 c39).2 c40).2 c41).2 c42).1 c43)
    have c43 : ¬ ((xs i) &&& (63 : Int32)) = 41 := c43
    refine ⟨fun c44 => ?_, fun c44 => ?_⟩
    · have c44 : (xs i) &&& (63 : Int32) = 42 := c44
      show Wp d 297 1486 [some (.ref 1000000003), some (.ref 0), some (.ref 59), some (.int (Int32.ofNat i))] [] h Q
      exact ((((((((((((((((((((((((((((((((((((((((((((hQ.2 c1).2 c2).2 c3).2 c4).2 c5).2 c6).2 c7).2 c8).2 c9).2 c10).2 c11).2 c12).2 c13).2 c14).2 c15).2 c16).2 c17).2 c18).2 c19).2 c20).2 c21).2 c22).2 c23).2 c24).2 c25).2 c26).2 c27).2 c28).2 c29).2 c30).2 c31).2 c32).2 c33).2 c34).2 c35).2 c36).2 c37).2 c38).2 c39).2 c40).2 c41).2 c42).2 c43).1 c44)
    have c44 : ¬ ((xs i) &&& (63 : Int32)) = 42 := c44
    refine ⟨fun c45 => ?_, fun c45 => ?_⟩
    · have c45 : (xs i) &&& (63 : Int32) = 43 := c45
      show Wp d 297 1519 [some (.ref 1000000003), some (.ref 0), some (.ref 59), some (.int (Int32.ofNat i))] [] h Q
      exact (((((((((((((((((((((((((((((((((((((((((((((hQ.2 c1).2 c2).2 c3).2 c4).2 c5).2 c6).2 c7).2 c8).2 c9).2 c10).2 c11).2 c12).2 c13).2 c14).2 c15).2 c16).2 c17).2 c18).2 c19).2 c20).2 c21).2 c22).2 c23).2 c24).2 c25).2 c26).2 c27).2 c28).2 c29).2 c30).2 c31).2 c32).2 c33).2 c34).2 c35).2 c36).2 c37).2 c38).2 c39).2 c40).2 c41).2 c42).2 c43).2 c44).1 c45)
    have c45 : ¬ ((xs i) &&& (63 : Int32)) = 43 := c45
    refine ⟨fun c46 => ?_, fun c46 => ?_⟩
    · have c46 : (xs i) &&& (63 : Int32) = 44 := c46
      show Wp d 297 1562 [some (.ref 1000000003), some (.ref 0), some (.ref 59), some (.int (Int32.ofNat i))] [] h Q
      exact ((((((((((((((((((((((((((((((((((((((((((((((hQ.2 c1).2 c2).2 c3).2 c4).2 c5).2 c6).2 c7).2 c8).2 c9).2 c10).2 c11).2 c12).2 c13).2 c14).2 c15).2 c16).2 c17).2 c18).2 c19).2 c20).2 c21).2 c22).2 c23).2 c24).2 c25).2 c26).2 c27).2 c28).2 c29).2 c30).2 c31).2 c32).2 c33).2 c34).2 c35).2 c36).2 c37).2 c38).2 c39).2 c40).2 c41).2 c42).2 c43).2 c44).2 c45).1 c46)
    have c46 : ¬ ((xs i) &&& (63 : Int32)) = 44 := c46
    refine ⟨fun c47 => ?_, fun c47 => ?_⟩
    · have c47 : (xs i) &&& (63 : Int32) = 45 := c47
      show Wp d 297 1585 [some (.ref 1000000003), some (.ref 0), some (.ref 59), some (.int (Int32.ofNat i))] [] h Q
      exact (((((((((((((((((((((((((((((((((((((((((((((((hQ.2 c1).2 c2).2 c3).2 c4).2 c5).2 c6).2 c7).2 c8).2 c9).2 c10).2 c11).2 c12).2 c13).2 c14).2 c15).2 c16).2 c17).2 c18).2 c19).2 c20).2 c21).2 c22).2 c23).2 c24).2 c25).2 c26).2 c27).2 c28).2 c29).2 c30).2 c31).2 c32).2 c33).2 c34).2 c35).2 c36).2 c37).2 c38).2 c39).2 c40).2 c41).2 c42).2 c43).2 c44).2 c45).2 c46).1 c47)
    have c47 : ¬ ((xs i) &&& (63 : Int32)) = 45 := c47
    refine ⟨fun c48 => ?_, fun c48 => ?_⟩
    · have c48 : (xs i) &&& (63 : Int32) = 46 := c48
      show Wp d 297 1608 [some (.ref 1000000003), some (.ref 0), some (.ref 59), some (.int (Int32.ofNat i))] [] h Q
      exact ((((((((((((((((((((((((((((((((((((((((((((((((hQ.2 c1).2 c2).2 c3).2 c4).2 c5).2 c6).2 c7).2 c8).2 c9).2 c10).2 c11).2 c12).2 c13).2 c14).2 c15).2 c16).2 c17).2 c18).2 c19).2 c20).2 c21).2 c22).2 c23).2 c24).2 c25).2 c26).2 c27).2 c28).2 c29).2 c30).2 c31).2 c32).2 c33).2 c34).2 c35).2 c36).2 c37).2 c38).2 c39).2 c40).2 c41).2 c42).2 c43).2 c44).2 c45).2 c46).2 c47).1 c48)
    have c48 : ¬ ((xs i) &&& (63 : Int32)) = 46 := c48
    refine ⟨fun c49 => ?_, fun c49 => ?_⟩
    · have c49 : (xs i) &&& (63 : Int32) = 47 := c49
      show Wp d 297 1621 [some (.ref 1000000003), some (.ref 0), some (.ref 59), some (.int (Int32.ofNat i))] [] h Q
      exact (((((((((((((((((((((((((((((((((((((((((((((((((hQ.2 c1).2 c2).2 c3).2 c4).2 c5).2 c6).2 c7).2 c8).2 c9).2 c10).2 c11).2 c12).2 c13).2 c14).2 c15).2 c16).2 c17).2 c18).2 c19).2 c20).2 c21).2 c22).2 c23).2 c24).2 c25).2 c26).2 c27).2 c28).2 c29).2 c30).2 c31).2 c32).2 c33).2 c34).2 c35).2 c36).2 c37).2 c38).2 c39).2 c40).2 c41).2 c42).2 c43).2 c44).2 c45).2 c46).2 c47).2 c48).1 c49)
    have c49 : ¬ ((xs i) &&& (63 : Int32)) = 47 := c49
    show Wp d 297 1634 [some (.ref 1000000003), some (.ref 0), some (.ref 59), some (.int (Int32.ofNat i))] [] h Q
    refine Wp.seg 2 (pc1 := 18) (ls1 := [some (.ref 1000000003), some (.ref 0), some (.ref 59), some (.int ((Int32.ofNat i) + 5))]) (st1 := []) rfl ?_
    exact (((((((((((((((((((((((((((((((((((((((((((((((((hQ.2 c1).2 c2).2 c3).2 c4).2 c5).2 c6).2 c7).2 c8).2 c9).2 c10).2 c11).2 c12).2 c13).2 c14).2 c15).2 c16).2 c17).2 c18).2 c19).2 c20).2 c21).2 c22).2 c23).2 c24).2 c25).2 c26).2 c27).2 c28).2 c29).2 c30).2 c31).2 c32).2 c33).2 c34).2 c35).2 c36).2 c37).2 c38).2 c39).2 c40).2 c41).2 c42).2 c43).2 c44).2 c45).2 c46).2 c47).2 c48).2 c49)
set_option maxRecDepth 100000 in
set_option maxHeartbeats 4000000 in
theorem law_loop {d : Nat} {Q : KO → Prop} {L S0 : Nat} {xs : Nat → Int32} (hL : L ≤ 2560) (hd : 31 ≤ d) (hR : ∀ h, Inv h → NM h → h.2.2.2.2.1 < 800000000 → JIr h 110 [.ref 0] 215 [.ref 59]) (hP : ∀ h, Inv h → ∀ v, JI h 142 [.ref 0, .int v] 259 [.ref 59, .int v]) (hG : ∀ h, Inv h → JI h 146 [.ref 0] 263 [.ref 59]) (hA : ∀ h, Inv h → ∀ v w x, JI h 161 [.ref 0, .int v, .int w, .int x] 284 [.ref 59, .int v, .int w, .int x]) (hQ : ∀ k, k.2.2.2.2.1 ≤ 80 + L → k.2.2.2.2.2 ≤ S0 + 48 * (L + 5) → Q (some (.int 1), k)) : ∀ (m i : Nat) (h : KH), L ≤ i + 5 * m + 4 → i ≤ L → Inv h → NM h → h.1 1000000003 = (30, L) → (∀ q, h.2.2.1 1000000003 q = xs q) → h.2.2.2.2.1 ≤ 75 + i → h.2.2.2.2.2 ≤ S0 + 48 * i → Wp d 297 18 [some (.ref 1000000003), some (.ref 0), some (.ref 59), some (.int (Int32.ofNat i))] [] h Q := by
  intro m
  induction m with
  | zero =>
    intro i h hm hiL hi hN ht hx n1 s1
    have c : Int32.ofNat L - 5 < Int32.ofNat i := by
      rw [Int32.lt_iff_toInt_lt, zs (znat (n := L) (by omega)) (n := 5) rfl (by omega), znat (n := i) (by omega)]
      omega
    exact t_la18 ht hx hL (fun z => absurd c z) (Nat.zero_le _) ⟨fun _ => hQ h (by omega) (by omega), fun z => absurd c z⟩
  | succ m ih =>
    intro i h hm hiL hi hN ht hx n1 s1
    have hi5 : ¬ (Int32.ofNat L - (5 : Int32) < Int32.ofNat i) → i + 5 ≤ L := fun z => by
      rw [Int32.lt_iff_toInt_lt, zs (znat (n := L) (by omega)) (n := 5) rfl (by omega), znat (n := i) (by omega)] at z
      omega
    refine t_la18 ht hx hL hi5 (Nat.zero_le _) ⟨fun _ => hQ h (by omega) (by omega), fun c => ?_⟩
    have h5 := hi5 c
    have nx : ∀ k, Inv k → k.1 1000000003 = (30, L) → (∀ q, k.2.2.1 1000000003 q = xs q) → k.2.2.2.2.1 ≤ h.2.2.2.2.1 + 5 → k.2.2.2.2.2 ≤ h.2.2.2.2.2 + 240 → far h k → Wp d 297 18 [some (.ref 1000000003), some (.ref 0), some (.ref 59), some (.int (Int32.ofNat i + 5))] [] k Q := fun k ik tk xk n2 s2 fa => by
      rw [show Int32.ofNat i + (5 : Int32) = Int32.ofNat (i + 5) from (Int32.ofNat_add i 5).symm]
      exact ih (i + 5) k (by omega) h5 ik (hN.far fa) tk xk (by omega) (by omega)
    exact ⟨fun _ => law_0 ht hx hL (hi5 c) hi hd (I_hand hi _ _ _ _) nx, fun _ => ⟨fun _ => law_1 ht hx hL (hi5 c) hi hd (I_handOf hi _ _) nx, fun _ => ⟨fun _ => law_2 ht hx hL (hi5 c) hi hd (I_change hi _ _ _) nx, fun _ => ⟨fun _ => law_3 ht hx hL (hi5 c) hi hd (I_remake hi _ _) nx, fun _ => ⟨fun _ => law_4 ht hx hL (hi5 c) hi hd (I_set hi _ _) nx, fun _ => ⟨fun _ => law_5 ht hx hL (hi5 c) hi hd (I_edge hi _ _) nx, fun _ => ⟨fun _ => law_6 ht hx hL (hi5 c) hi hd (I_anew hi) nx, fun _ => ⟨fun _ => law_7 ht hx hL (hi5 c) hi hd (I_state hi _) nx, fun _ => ⟨fun _ => law_8 ht hx hL (hi5 c) hi hd (J_feed hi _ _) nx, fun _ => ⟨fun _ => law_9 ht hx hL (hi5 c) hi hd (hR h hi hN (by omega)) nx, fun _ => ⟨fun _ => law_10 ht hx hL (hi5 c) hi hd (I_dusk hi) nx, fun _ => ⟨fun _ => law_11 ht hx hL (hi5 c) hi hd (I_on hi _) nx, fun _ => ⟨fun _ => law_12 ht hx hL (hi5 c) hi hd (I_when hi _) nx, fun _ => ⟨fun _ => law_13 ht hx hL (hi5 c) hi hd (I_chalk hi _) nx, fun _ => ⟨fun _ => law_14 ht hx hL (hi5 c) hi hd (I_facing hi _) nx, fun _ => ⟨fun _ => law_15 ht hx hL (hi5 c) hi hd (I_cut hi _ _) nx, fun _ => ⟨fun _ => law_16 ht hx hL (hi5 c) hi hd (I_way hi _ _) nx, fun _ => ⟨fun _ => law_17 ht hx hL (hi5 c) hi hd (I_bridges hi) nx, fun _ => ⟨fun _ => law_18 ht hx hL (hi5 c) hi hd (I_best hi _) nx, fun _ => ⟨fun _ => law_19 ht hx hL (hi5 c) hi hd (I_ith hi _ _) nx, fun _ => ⟨fun _ => law_20 ht hx hL (hi5 c) hi hd (I_ways hi _) nx, fun _ => ⟨fun _ => law_21 ht hx hL (hi5 c) hi hd (I_siege hi _ _) nx, fun _ => ⟨fun _ => law_22 ht hx hL (hi5 c) hi hd (I_bars hi _ _) nx, fun _ => ⟨fun _ => law_23 ht hx hL (hi5 c) hi hd (I_game hi _) nx, fun _ => ⟨fun _ => law_24 ht hx hL (hi5 c) hi hd (I_play hi _) nx, fun _ => ⟨fun _ => law_25 ht hx hL (hi5 c) hi hd (J_report hi (by omega) _ _ _) nx, fun _ => ⟨fun _ => law_26 ht hx hL (hi5 c) hi hd (J_forget hi) nx, fun _ => ⟨fun _ => law_27 ht hx hL (hi5 c) hi hd (J_span hi _) nx, fun _ => ⟨fun _ => law_28 ht hx hL (hi5 c) hi hd (J_liar hi) nx, fun _ => ⟨fun _ => law_29 ht hx hL (hi5 c) hi hd (I_seed hi _) nx, fun _ => ⟨fun _ => law_30 ht hx hL (hi5 c) hi hd (I_lot hi) nx, fun _ => ⟨fun _ => law_31 ht hx hL (hi5 c) hi hd (I_times hi _ _) nx, fun _ => ⟨fun _ => law_32 ht hx hL (hi5 c) hi hd (hP h hi _) nx, fun _ => ⟨fun _ => law_33 ht hx hL (hi5 c) hi hd (J_row hi _ _) nx, fun _ => ⟨fun _ => law_34 ht hx hL (hi5 c) hi hd (J_alter hi _ _ _) nx, fun _ => ⟨fun _ => law_35 ht hx hL (hi5 c) hi hd (hG h hi) nx, fun _ => ⟨fun _ => law_36 ht hx hL (hi5 c) hi hd (J_sheet hi _ _ _) nx, fun _ => ⟨fun _ => law_37 ht hx hL (hi5 c) hi hd (J_write hi _ _ _) nx, fun _ => ⟨fun _ => law_38 ht hx hL (hi5 c) hi hd (J_item hi _ _ _) nx, fun _ => ⟨fun _ => law_39 ht hx hL (hi5 c) hi hd (J_goAll hi _ _ _) nx, fun _ => ⟨fun _ => law_40 ht hx hL (hi5 c) hi hd (J_would hi _ _ _) nx, fun _ => ⟨fun _ => law_41 ht hx hL (hi5 c) hi hd (J_shelf hi _ _ _) nx, fun _ => ⟨fun _ => law_42 ht hx hL (hi5 c) hi hd (J_taken hi _ _) nx, fun _ => ⟨fun _ => law_43 ht hx hL (hi5 c) hi hd (hA h hi _ _ _) nx, fun _ => ⟨fun _ => law_44 ht hx hL (hi5 c) hi hd (J_trace hi _) nx, fun _ => ⟨fun _ => law_45 ht hx hL (hi5 c) hi hd (J_many hi _) nx, fun _ => ⟨fun _ => law_46 ht hx hL (hi5 c) hi hd (J_keep hi) nx, fun _ => ⟨fun _ => law_47 ht hx hL (hi5 c) hi hd (J_again hi) nx, fun _ => nx h hi ht hx (by omega) (by omega) (fun _ _ => ⟨rfl, rfl⟩)⟩⟩⟩⟩⟩⟩⟩⟩⟩⟩⟩⟩⟩⟩⟩⟩⟩⟩⟩⟩⟩⟩⟩⟩⟩⟩⟩⟩⟩⟩⟩⟩⟩⟩⟩⟩⟩⟩⟩⟩⟩⟩⟩⟩⟩⟩⟩⟩
