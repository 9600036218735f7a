/-! KM: the law: one step of each kind -/
/-- a call of each side that goes deep -/
def JIr (h : KH) (Mc : Nat) (ca : List Value) (Mm : Nat) (ma : List Value) : Prop := ∃ v : Int32, Cl 30 Mc ca h (fun o => ∃ k, o = (some (.int v), k) ∧ Cl 30 Mm ma k (fun o2 => ∃ k2, o2 = (some (.int v), k2) ∧ Inv k2 ∧ k2.2.2.2.2.1 ≤ h.2.2.2.2.1 + 5 ∧ k2.2.2.2.2.2 ≤ h.2.2.2.2.2 + 240 ∧ far h k2))
/-- the names that both sides read -/
def NM (h : KH) : Prop := (∀ i, i < 126 → h.2.2.1 1000000000 i = kNM.getD i 0) ∧ (∀ i, i < 93 → h.2.2.1 1000000002 i = kSB.getD i 0) ∧ h.2.2.1 1000000001 1 = 0
theorem NM.far {h k : KH} (n : NM h) (f : far h k) : NM k := ⟨fun i hi => by rw [(f 1000000000 (by decide)).2]; exact n.1 i hi, fun i hi => by rw [(f 1000000002 (by decide)).2]; exact n.2.1 i hi, by rw [(f 1000000001 (by decide)).2]; exact n.2.2⟩
set_option maxHeartbeats 4000000 in
theorem t_laA0 {d : Nat} {Q : KO → Prop} {h : KH} {L i : Nat} {xs : Nat → Int32} (ht : h.1 1000000003 = (30, L)) (hx : ∀ q, h.2.2.1 1000000003 q = xs q) (hL : L ≤ 2560) (hi5 : i + 5 ≤ L) (hd : 0 ≤ d) (hQ : Wp d 297 261 ([some (.ref 1000000003), some (.ref 0), some (.ref 59), some (.int (Int32.ofNat i))]) [.int (xs ((i + 4))), .int (xs ((i + 3))), .int (xs ((i + 2))), .int (xs ((i + 1))), .ref 0] h Q) : Wp d 297 240 [some (.ref 1000000003), some (.ref 0), some (.ref 59), some (.int (Int32.ofNat i))] [] h Q := by
  refine Wp.seg 5 (pc1 := 245) (ls1 := [some (.ref 1000000003), some (.ref 0), some (.ref 59), some (.int (Int32.ofNat i))]) (st1 := [.int ((Int32.ofNat i) + (1 : Int32)), .ref 1000000003, .ref 0]) rfl ?_
  refine Wp.iald (j := (i + 1)) (k := 30) (n := L) rfl ht rfl ((Int32.ofNat_add i 1).symm) (by omega) (by omega) ?_
  rw [show h.2.2.1 1000000003 ((i + 1)) = xs ((i + 1)) from hx ((i + 1))]
  refine Wp.seg 4 (pc1 := 250) (ls1 := [some (.ref 1000000003), some (.ref 0), some (.ref 59), some (.int (Int32.ofNat i))]) (st1 := [.int ((Int32.ofNat i) + (2 : Int32)), .ref 1000000003, .int (xs ((i + 1))), .ref 0]) rfl ?_
  refine Wp.iald (j := (i + 2)) (k := 30) (n := L) rfl ht rfl ((Int32.ofNat_add i 2).symm) (by omega) (by omega) ?_
  rw [show h.2.2.1 1000000003 ((i + 2)) = xs ((i + 2)) from hx ((i + 2))]
  refine Wp.seg 4 (pc1 := 255) (ls1 := [some (.ref 1000000003), some (.ref 0), some (.ref 59), some (.int (Int32.ofNat i))]) (st1 := [.int ((Int32.ofNat i) + (3 : Int32)), .ref 1000000003, .int (xs ((i + 2))), .int (xs ((i + 1))), .ref 0]) rfl ?_
  refine Wp.iald (j := (i + 3)) (k := 30) (n := L) rfl ht rfl ((Int32.ofNat_add i 3).symm) (by omega) (by omega) ?_
  rw [show h.2.2.1 1000000003 ((i + 3)) = xs ((i + 3)) from hx ((i + 3))]
  refine Wp.seg 4 (pc1 := 260) (ls1 := [some (.ref 1000000003), some (.ref 0), some (.ref 59), some (.int (Int32.ofNat i))]) (st1 := [.int ((Int32.ofNat i) + (4 : Int32)), .ref 1000000003, .int (xs ((i + 3))), .int (xs ((i + 2))), .int (xs ((i + 1))), .ref 0]) rfl ?_
  refine Wp.iald (j := (i + 4)) (k := 30) (n := L) rfl ht rfl ((Int32.ofNat_add i 4).symm) (by omega) (by omega) ?_
  rw [show h.2.2.1 1000000003 ((i + 4)) = xs ((i + 4)) from hx ((i + 4))]
  exact hQ
set_option maxHeartbeats 4000000 in
theorem t_laB0 {d : Nat} {Q : KO → Prop} {h : KH} {L i : Nat} {xs : Nat → Int32} (ht : h.1 1000000003 = (30, L)) (hx : ∀ q, h.2.2.1 1000000003 q = xs q) (hL : L ≤ 2560) (hi5 : i + 5 ≤ L) {v : Int32} (hd : 0 ≤ d) (hQ : Wp d 297 285 ([some (.ref 1000000003), some (.ref 0), some (.ref 59), some (.int (Int32.ofNat i))]) [.int (xs ((i + 4))), .int (xs ((i + 3))), .int (xs ((i + 2))), .int (xs ((i + 1))), .ref 59, .int (v)] h Q) : Wp d 297 264 [some (.ref 1000000003), some (.ref 0), some (.ref 59), some (.int (Int32.ofNat i))] [.int (v)] h Q := by
  refine Wp.seg 5 (pc1 := 269) (ls1 := [some (.ref 1000000003), some (.ref 0), some (.ref 59), some (.int (Int32.ofNat i))]) (st1 := [.int ((Int32.ofNat i) + (1 : Int32)), .ref 1000000003, .ref 59, .int (v)]) rfl ?_
  refine Wp.iald (j := (i + 1)) (k := 30) (n := L) rfl ht rfl ((Int32.ofNat_add i 1).symm) (by omega) (by omega) ?_
  rw [show h.2.2.1 1000000003 ((i + 1)) = xs ((i + 1)) from hx ((i + 1))]
  refine Wp.seg 4 (pc1 := 274) (ls1 := [some (.ref 1000000003), some (.ref 0), some (.ref 59), some (.int (Int32.ofNat i))]) (st1 := [.int ((Int32.ofNat i) + (2 : Int32)), .ref 1000000003, .int (xs ((i + 1))), .ref 59, .int (v)]) rfl ?_
  refine Wp.iald (j := (i + 2)) (k := 30) (n := L) rfl ht rfl ((Int32.ofNat_add i 2).symm) (by omega) (by omega) ?_
  rw [show h.2.2.1 1000000003 ((i + 2)) = xs ((i + 2)) from hx ((i + 2))]
  refine Wp.seg 4 (pc1 := 279) (ls1 := [some (.ref 1000000003), some (.ref 0), some (.ref 59), some (.int (Int32.ofNat i))]) (st1 := [.int ((Int32.ofNat i) + (3 : Int32)), .ref 1000000003, .int (xs ((i + 2))), .int (xs ((i + 1))), .ref 59, .int (v)]) rfl ?_
  refine Wp.iald (j := (i + 3)) (k := 30) (n := L) rfl ht rfl ((Int32.ofNat_add i 3).symm) (by omega) (by omega) ?_
  rw [show h.2.2.1 1000000003 ((i + 3)) = xs ((i + 3)) from hx ((i + 3))]
  refine Wp.seg 4 (pc1 := 284) (ls1 := [some (.ref 1000000003), some (.ref 0), some (.ref 59), some (.int (Int32.ofNat i))]) (st1 := [.int ((Int32.ofNat i) + (4 : Int32)), .ref 1000000003, .int (xs ((i + 3))), .int (xs ((i + 2))), .int (xs ((i + 1))), .ref 59, .int (v)]) rfl ?_
  refine Wp.iald (j := (i + 4)) (k := 30) (n := L) rfl ht rfl ((Int32.ofNat_add i 4).symm) (by omega) (by omega) ?_
  rw [show h.2.2.1 1000000003 ((i + 4)) = xs ((i + 4)) from hx ((i + 4))]
  exact hQ
set_option maxHeartbeats 4000000 in
theorem t_laC0 {d : Nat} {Q : KO → Prop} {h : KH} {i : Nat} {v : Int32} (hd : 0 ≤ d) (hQ : Wp d 297 18 ([some (.ref 1000000003), some (.ref 0), some (.ref 59), some (.int ((Int32.ofNat i) + 5))]) [] h Q) : Wp d 297 288 [some (.ref 1000000003), some (.ref 0), some (.ref 59), some (.int (Int32.ofNat i))] [.int (v), .int (v)] h Q := by
  refine Wp.if2 rfl (fun c1 => ?_) (fun c1 => absurd (rfl) c1)
  refine Wp.seg 2 (pc1 := 18) (ls1 := [some (.ref 1000000003), some (.ref 0), some (.ref 59), some (.int ((Int32.ofNat i) + 5))]) (st1 := []) rfl ?_
  exact hQ
theorem law_0 {d : Nat} {Q : KO → Prop} {h : KH} {L i : Nat} {xs : Nat → Int32} (ht : h.1 1000000003 = (30, L)) (hx : ∀ q, h.2.2.1 1000000003 q = xs q) (hL : L ≤ 2560) (hi5 : i + 5 ≤ L) (hi : Inv h) (hd : 31 ≤ d) (hj : JI h 88 [.ref 0, .int (xs ((i + 1))), .int (xs ((i + 2))), .int (xs ((i + 3))), .int (xs ((i + 4)))] 194 [.ref 59, .int (xs ((i + 1))), .int (xs ((i + 2))), .int (xs ((i + 3))), .int (xs ((i + 4)))]) (hQ : ∀ k, Inv k → k.1 1000000003 = (30, L) → (∀ q, k.2.2.1 1000000003 q = xs q) → k.2.2.2.2.1 ≤ h.2.2.2.2.1 + 5 → k.2.2.2.2.2 ≤ h.2.2.2.2.2 + 240 → far h k → Wp d 297 18 [some (.ref 1000000003), some (.ref 0), some (.ref 59), some (.int (Int32.ofNat i + 5))] [] k Q) : Wp d 297 240 [some (.ref 1000000003), some (.ref 0), some (.ref 59), some (.int (Int32.ofNat i))] [] h Q := by
  obtain ⟨v, hc⟩ := hj
  refine t_laA0 ht hx hL hi5 (Nat.zero_le _) ?_
  refine Wp.invV (d2 := 15) (as := [.ref 0, .int (xs ((i + 1))), .int (xs ((i + 2))), .int (xs ((i + 3))), .int (xs ((i + 4)))]) (r := []) (t := (10, 0)) rfl rfl rfl rfl (WF.t hi.1 0 rfl) rfl rfl ⟨rfl, rfl⟩ (by omega) (hc.far.post ?_)
  rintro _ ⟨⟨k, rfl, hm⟩, f1⟩
  have ht1 : k.1 1000000003 = (30, L) := (f1.2 1000000003 (by decide) (by rw [ht])).1.trans ht
  have hx1 : ∀ q, k.2.2.1 1000000003 q = xs q := fun q => by rw [(f1.2 1000000003 (by decide) (by rw [ht])).2]; exact hx q
  have h59 : k.1 59 = (11, 0) := (f1.1.2 59 (by have := hi.1.2.2.1; omega)).trans (WF.t hi.1 59 rfl)
  refine t_laB0 (h := k) (v := v) ht1 hx1 hL hi5 (Nat.zero_le _) ?_
  refine Wp.invV (d2 := 15) (as := [.ref 59, .int (xs ((i + 1))), .int (xs ((i + 2))), .int (xs ((i + 3))), .int (xs ((i + 4)))]) (r := [.int v]) (t := (11, 0)) rfl rfl rfl rfl h59 rfl rfl ⟨rfl, rfl⟩ (by omega) (hm.far.post ?_)
  rintro _ ⟨⟨k2, rfl, i2, s1, s2, fa⟩, f2⟩
  have ht2 : k2.1 1000000003 = (30, L) := (f2.2 1000000003 (by decide) (by rw [ht1])).1.trans ht1
  exact t_laC0 (h := k2) (v := v) (Nat.zero_le _) (hQ k2 i2 ht2 (fun q => by rw [(f2.2 1000000003 (by decide) (by rw [ht1])).2]; exact hx1 q) s1 s2 fa)
set_option maxHeartbeats 4000000 in
theorem t_laA1 {d : Nat} {Q : KO → Prop} {h : KH} {L i : Nat} {xs : Nat → Int32} (ht : h.1 1000000003 = (30, L)) (hx : ∀ q, h.2.2.1 1000000003 q = xs q) (hL : L ≤ 2560) (hi5 : i + 5 ≤ L) (hd : 0 ≤ d) (hQ : Wp d 297 304 ([some (.ref 1000000003), some (.ref 0), some (.ref 59), some (.int (Int32.ofNat i))]) [.int (xs ((i + 2))), .int (xs ((i + 1))), .ref 0] h Q) : Wp d 297 293 [some (.ref 1000000003), some (.ref 0), some (.ref 59), some (.int (Int32.ofNat i))] [] h Q := by
  refine Wp.seg 5 (pc1 := 298) (ls1 := [some (.ref 1000000003), some (.ref 0), some (.ref 59), some (.int (Int32.ofNat i))]) (st1 := [.int ((Int32.ofNat i) + (1 : Int32)), .ref 1000000003, .ref 0]) rfl ?_
  refine Wp.iald (j := (i + 1)) (k := 30) (n := L) rfl ht rfl ((Int32.ofNat_add i 1).symm) (by omega) (by omega) ?_
  rw [show h.2.2.1 1000000003 ((i + 1)) = xs ((i + 1)) from hx ((i + 1))]
  refine Wp.seg 4 (pc1 := 303) (ls1 := [some (.ref 1000000003), some (.ref 0), some (.ref 59), some (.int (Int32.ofNat i))]) (st1 := [.int ((Int32.ofNat i) + (2 : Int32)), .ref 1000000003, .int (xs ((i + 1))), .ref 0]) rfl ?_
  refine Wp.iald (j := (i + 2)) (k := 30) (n := L) rfl ht rfl ((Int32.ofNat_add i 2).symm) (by omega) (by omega) ?_
  rw [show h.2.2.1 1000000003 ((i + 2)) = xs ((i + 2)) from hx ((i + 2))]
  exact hQ
set_option maxHeartbeats 4000000 in
theorem t_laB1 {d : Nat} {Q : KO → Prop} {h : KH} {L i : Nat} {xs : Nat → Int32} (ht : h.1 1000000003 = (30, L)) (hx : ∀ q, h.2.2.1 1000000003 q = xs q) (hL : L ≤ 2560) (hi5 : i + 5 ≤ L) {v : Int32} (hd : 0 ≤ d) (hQ : Wp d 297 318 ([some (.ref 1000000003), some (.ref 0), some (.ref 59), some (.int (Int32.ofNat i))]) [.int (xs ((i + 2))), .int (xs ((i + 1))), .ref 59, .int (v)] h Q) : Wp d 297 307 [some (.ref 1000000003), some (.ref 0), some (.ref 59), some (.int (Int32.ofNat i))] [.int (v)] h Q := by
  refine Wp.seg 5 (pc1 := 312) (ls1 := [some (.ref 1000000003), some (.ref 0), some (.ref 59), some (.int (Int32.ofNat i))]) (st1 := [.int ((Int32.ofNat i) + (1 : Int32)), .ref 1000000003, .ref 59, .int (v)]) rfl ?_
  refine Wp.iald (j := (i + 1)) (k := 30) (n := L) rfl ht rfl ((Int32.ofNat_add i 1).symm) (by omega) (by omega) ?_
  rw [show h.2.2.1 1000000003 ((i + 1)) = xs ((i + 1)) from hx ((i + 1))]
  refine Wp.seg 4 (pc1 := 317) (ls1 := [some (.ref 1000000003), some (.ref 0), some (.ref 59), some (.int (Int32.ofNat i))]) (st1 := [.int ((Int32.ofNat i) + (2 : Int32)), .ref 1000000003, .int (xs ((i + 1))), .ref 59, .int (v)]) rfl ?_
  refine Wp.iald (j := (i + 2)) (k := 30) (n := L) rfl ht rfl ((Int32.ofNat_add i 2).symm) (by omega) (by omega) ?_
  rw [show h.2.2.1 1000000003 ((i + 2)) = xs ((i + 2)) from hx ((i + 2))]
  exact hQ
set_option maxHeartbeats 4000000 in
theorem t_laC1 {d : Nat} {Q : KO → Prop} {h : KH} {i : Nat} {v : Int32} (hd : 0 ≤ d) (hQ : Wp d 297 18 ([some (.ref 1000000003), some (.ref 0), some (.ref 59), some (.int ((Int32.ofNat i) + 5))]) [] h Q) : Wp d 297 321 [some (.ref 1000000003), some (.ref 0), some (.ref 59), some (.int (Int32.ofNat i))] [.int (v), .int (v)] h Q := by
  refine Wp.if2 rfl (fun c1 => ?_) (fun c1 => absurd (rfl) c1)
  refine Wp.seg 2 (pc1 := 18) (ls1 := [some (.ref 1000000003), some (.ref 0), some (.ref 59), some (.int ((Int32.ofNat i) + 5))]) (st1 := []) rfl ?_
  exact hQ
theorem law_1 {d : Nat} {Q : KO → Prop} {h : KH} {L i : Nat} {xs : Nat → Int32} (ht : h.1 1000000003 = (30, L)) (hx : ∀ q, h.2.2.1 1000000003 q = xs q) (hL : L ≤ 2560) (hi5 : i + 5 ≤ L) (hi : Inv h) (hd : 31 ≤ d) (hj : JI h 89 [.ref 0, .int (xs ((i + 1))), .int (xs ((i + 2)))] 195 [.ref 59, .int (xs ((i + 1))), .int (xs ((i + 2)))]) (hQ : ∀ k, Inv k → k.1 1000000003 = (30, L) → (∀ q, k.2.2.1 1000000003 q = xs q) → k.2.2.2.2.1 ≤ h.2.2.2.2.1 + 5 → k.2.2.2.2.2 ≤ h.2.2.2.2.2 + 240 → far h k → Wp d 297 18 [some (.ref 1000000003), some (.ref 0), some (.ref 59), some (.int (Int32.ofNat i + 5))] [] k Q) : Wp d 297 293 [some (.ref 1000000003), some (.ref 0), some (.ref 59), some (.int (Int32.ofNat i))] [] h Q := by
  obtain ⟨v, hc⟩ := hj
  refine t_laA1 ht hx hL hi5 (Nat.zero_le _) ?_
  refine Wp.invV (d2 := 15) (as := [.ref 0, .int (xs ((i + 1))), .int (xs ((i + 2)))]) (r := []) (t := (10, 0)) rfl rfl rfl rfl (WF.t hi.1 0 rfl) rfl rfl ⟨rfl, rfl⟩ (by omega) (hc.far.post ?_)
  rintro _ ⟨⟨k, rfl, hm⟩, f1⟩
  have ht1 : k.1 1000000003 = (30, L) := (f1.2 1000000003 (by decide) (by rw [ht])).1.trans ht
  have hx1 : ∀ q, k.2.2.1 1000000003 q = xs q := fun q => by rw [(f1.2 1000000003 (by decide) (by rw [ht])).2]; exact hx q
  have h59 : k.1 59 = (11, 0) := (f1.1.2 59 (by have := hi.1.2.2.1; omega)).trans (WF.t hi.1 59 rfl)
  refine t_laB1 (h := k) (v := v) ht1 hx1 hL hi5 (Nat.zero_le _) ?_
  refine Wp.invV (d2 := 15) (as := [.ref 59, .int (xs ((i + 1))), .int (xs ((i + 2)))]) (r := [.int v]) (t := (11, 0)) rfl rfl rfl rfl h59 rfl rfl ⟨rfl, rfl⟩ (by omega) (hm.far.post ?_)
  rintro _ ⟨⟨k2, rfl, i2, s1, s2, fa⟩, f2⟩
  have ht2 : k2.1 1000000003 = (30, L) := (f2.2 1000000003 (by decide) (by rw [ht1])).1.trans ht1
  exact t_laC1 (h := k2) (v := v) (Nat.zero_le _) (hQ k2 i2 ht2 (fun q => by rw [(f2.2 1000000003 (by decide) (by rw [ht1])).2]; exact hx1 q) s1 s2 fa)
set_option maxHeartbeats 4000000 in
theorem t_laA2 {d : Nat} {Q : KO → Prop} {h : KH} {L i : Nat} {xs : Nat → Int32} (ht : h.1 1000000003 = (30, L)) (hx : ∀ q, h.2.2.1 1000000003 q = xs q) (hL : L ≤ 2560) (hi5 : i + 5 ≤ L) (hd : 0 ≤ d) (hQ : Wp d 297 342 ([some (.ref 1000000003), some (.ref 0), some (.ref 59), some (.int (Int32.ofNat i))]) [.int (xs ((i + 3))), .int (xs ((i + 2))), .int (xs ((i + 1))), .ref 0] h Q) : Wp d 297 326 [some (.ref 1000000003), some (.ref 0), some (.ref 59), some (.int (Int32.ofNat i))] [] h Q := by
  refine Wp.seg 5 (pc1 := 331) (ls1 := [some (.ref 1000000003), some (.ref 0), some (.ref 59), some (.int (Int32.ofNat i))]) (st1 := [.int ((Int32.ofNat i) + (1 : Int32)), .ref 1000000003, .ref 0]) rfl ?_
  refine Wp.iald (j := (i + 1)) (k := 30) (n := L) rfl ht rfl ((Int32.ofNat_add i 1).symm) (by omega) (by omega) ?_
  rw [show h.2.2.1 1000000003 ((i + 1)) = xs ((i + 1)) from hx ((i + 1))]
  refine Wp.seg 4 (pc1 := 336) (ls1 := [some (.ref 1000000003), some (.ref 0), some (.ref 59), some (.int (Int32.ofNat i))]) (st1 := [.int ((Int32.ofNat i) + (2 : Int32)), .ref 1000000003, .int (xs ((i + 1))), .ref 0]) rfl ?_
  refine Wp.iald (j := (i + 2)) (k := 30) (n := L) rfl ht rfl ((Int32.ofNat_add i 2).symm) (by omega) (by omega) ?_
  rw [show h.2.2.1 1000000003 ((i + 2)) = xs ((i + 2)) from hx ((i + 2))]
  refine Wp.seg 4 (pc1 := 341) (ls1 := [some (.ref 1000000003), some (.ref 0), some (.ref 59), some (.int (Int32.ofNat i))]) (st1 := [.int ((Int32.ofNat i) + (3 : Int32)), .ref 1000000003, .int (xs ((i + 2))), .int (xs ((i + 1))), .ref 0]) rfl ?_
  refine Wp.iald (j := (i + 3)) (k := 30) (n := L) rfl ht rfl ((Int32.ofNat_add i 3).symm) (by omega) (by omega) ?_
  rw [show h.2.2.1 1000000003 ((i + 3)) = xs ((i + 3)) from hx ((i + 3))]
  exact hQ
set_option maxHeartbeats 4000000 in
theorem t_laB2 {d : Nat} {Q : KO → Prop} {h : KH} {L i : Nat} {xs : Nat → Int32} (ht : h.1 1000000003 = (30, L)) (hx : ∀ q, h.2.2.1 1000000003 q = xs q) (hL : L ≤ 2560) (hi5 : i + 5 ≤ L) {v : Int32} (hd : 0 ≤ d) (hQ : Wp d 297 361 ([some (.ref 1000000003), some (.ref 0), some (.ref 59), some (.int (Int32.ofNat i))]) [.int (xs ((i + 3))), .int (xs ((i + 2))), .int (xs ((i + 1))), .ref 59, .int (v)] h Q) : Wp d 297 345 [some (.ref 1000000003), some (.ref 0), some (.ref 59), some (.int (Int32.ofNat i))] [.int (v)] h Q := by
  refine Wp.seg 5 (pc1 := 350) (ls1 := [some (.ref 1000000003), some (.ref 0), some (.ref 59), some (.int (Int32.ofNat i))]) (st1 := [.int ((Int32.ofNat i) + (1 : Int32)), .ref 1000000003, .ref 59, .int (v)]) rfl ?_
  refine Wp.iald (j := (i + 1)) (k := 30) (n := L) rfl ht rfl ((Int32.ofNat_add i 1).symm) (by omega) (by omega) ?_
  rw [show h.2.2.1 1000000003 ((i + 1)) = xs ((i + 1)) from hx ((i + 1))]
  refine Wp.seg 4 (pc1 := 355) (ls1 := [some (.ref 1000000003), some (.ref 0), some (.ref 59), some (.int (Int32.ofNat i))]) (st1 := [.int ((Int32.ofNat i) + (2 : Int32)), .ref 1000000003, .int (xs ((i + 1))), .ref 59, .int (v)]) rfl ?_
  refine Wp.iald (j := (i + 2)) (k := 30) (n := L) rfl ht rfl ((Int32.ofNat_add i 2).symm) (by omega) (by omega) ?_
  rw [show h.2.2.1 1000000003 ((i + 2)) = xs ((i + 2)) from hx ((i + 2))]
  refine Wp.seg 4 (pc1 := 360) (ls1 := [some (.ref 1000000003), some (.ref 0), some (.ref 59), some (.int (Int32.ofNat i))]) (st1 := [.int ((Int32.ofNat i) + (3 : Int32)), .ref 1000000003, .int (xs ((i + 2))), .int (xs ((i + 1))), .ref 59, .int (v)]) rfl ?_
  refine Wp.iald (j := (i + 3)) (k := 30) (n := L) rfl ht rfl ((Int32.ofNat_add i 3).symm) (by omega) (by omega) ?_
  rw [show h.2.2.1 1000000003 ((i + 3)) = xs ((i + 3)) from hx ((i + 3))]
  exact hQ
set_option maxHeartbeats 4000000 in
theorem t_laC2 {d : Nat} {Q : KO → Prop} {h : KH} {i : Nat} {v : Int32} (hd : 0 ≤ d) (hQ : Wp d 297 18 ([some (.ref 1000000003), some (.ref 0), some (.ref 59), some (.int ((Int32.ofNat i) + 5))]) [] h Q) : Wp d 297 364 [some (.ref 1000000003), some (.ref 0), some (.ref 59), some (.int (Int32.ofNat i))] [.int (v), .int (v)] h Q := by
  refine Wp.if2 rfl (fun c1 => ?_) (fun c1 => absurd (rfl) c1)
  refine Wp.seg 2 (pc1 := 18) (ls1 := [some (.ref 1000000003), some (.ref 0), some (.ref 59), some (.int ((Int32.ofNat i) + 5))]) (st1 := []) rfl ?_
  exact hQ
theorem law_2 {d : Nat} {Q : KO → Prop} {h : KH} {L i : Nat} {xs : Nat → Int32} (ht : h.1 1000000003 = (30, L)) (hx : ∀ q, h.2.2.1 1000000003 q = xs q) (hL : L ≤ 2560) (hi5 : i + 5 ≤ L) (hi : Inv h) (hd : 31 ≤ d) (hj : JI h 90 [.ref 0, .int (xs ((i + 1))), .int (xs ((i + 2))), .int (xs ((i + 3)))] 196 [.ref 59, .int (xs ((i + 1))), .int (xs ((i + 2))), .int (xs ((i + 3)))]) (hQ : ∀ k, Inv k → k.1 1000000003 = (30, L) → (∀ q, k.2.2.1 1000000003 q = xs q) → k.2.2.2.2.1 ≤ h.2.2.2.2.1 + 5 → k.2.2.2.2.2 ≤ h.2.2.2.2.2 + 240 → far h k → Wp d 297 18 [some (.ref 1000000003), some (.ref 0), some (.ref 59), some (.int (Int32.ofNat i + 5))] [] k Q) : Wp d 297 326 [some (.ref 1000000003), some (.ref 0), some (.ref 59), some (.int (Int32.ofNat i))] [] h Q := by
  obtain ⟨v, hc⟩ := hj
  refine t_laA2 ht hx hL hi5 (Nat.zero_le _) ?_
  refine Wp.invV (d2 := 15) (as := [.ref 0, .int (xs ((i + 1))), .int (xs ((i + 2))), .int (xs ((i + 3)))]) (r := []) (t := (10, 0)) rfl rfl rfl rfl (WF.t hi.1 0 rfl) rfl rfl ⟨rfl, rfl⟩ (by omega) (hc.far.post ?_)
  rintro _ ⟨⟨k, rfl, hm⟩, f1⟩
  have ht1 : k.1 1000000003 = (30, L) := (f1.2 1000000003 (by decide) (by rw [ht])).1.trans ht
  have hx1 : ∀ q, k.2.2.1 1000000003 q = xs q := fun q => by rw [(f1.2 1000000003 (by decide) (by rw [ht])).2]; exact hx q
  have h59 : k.1 59 = (11, 0) := (f1.1.2 59 (by have := hi.1.2.2.1; omega)).trans (WF.t hi.1 59 rfl)
  refine t_laB2 (h := k) (v := v) ht1 hx1 hL hi5 (Nat.zero_le _) ?_
  refine Wp.invV (d2 := 15) (as := [.ref 59, .int (xs ((i + 1))), .int (xs ((i + 2))), .int (xs ((i + 3)))]) (r := [.int v]) (t := (11, 0)) rfl rfl rfl rfl h59 rfl rfl ⟨rfl, rfl⟩ (by omega) (hm.far.post ?_)
  rintro _ ⟨⟨k2, rfl, i2, s1, s2, fa⟩, f2⟩
  have ht2 : k2.1 1000000003 = (30, L) := (f2.2 1000000003 (by decide) (by rw [ht1])).1.trans ht1
  exact t_laC2 (h := k2) (v := v) (Nat.zero_le _) (hQ k2 i2 ht2 (fun q => by rw [(f2.2 1000000003 (by decide) (by rw [ht1])).2]; exact hx1 q) s1 s2 fa)
set_option maxHeartbeats 4000000 in
theorem t_laA3 {d : Nat} {Q : KO → Prop} {h : KH} {L i : Nat} {xs : Nat → Int32} (ht : h.1 1000000003 = (30, L)) (hx : ∀ q, h.2.2.1 1000000003 q = xs q) (hL : L ≤ 2560) (hi5 : i + 5 ≤ L) (hd : 0 ≤ d) (hQ : Wp d 297 380 ([some (.ref 1000000003), some (.ref 0), some (.ref 59), some (.int (Int32.ofNat i))]) [.int (xs ((i + 2))), .int (xs ((i + 1))), .ref 0] h Q) : Wp d 297 369 [some (.ref 1000000003), some (.ref 0), some (.ref 59), some (.int (Int32.ofNat i))] [] h Q := by
  refine Wp.seg 5 (pc1 := 374) (ls1 := [some (.ref 1000000003), some (.ref 0), some (.ref 59), some (.int (Int32.ofNat i))]) (st1 := [.int ((Int32.ofNat i) + (1 : Int32)), .ref 1000000003, .ref 0]) rfl ?_
  refine Wp.iald (j := (i + 1)) (k := 30) (n := L) rfl ht rfl ((Int32.ofNat_add i 1).symm) (by omega) (by omega) ?_
  rw [show h.2.2.1 1000000003 ((i + 1)) = xs ((i + 1)) from hx ((i + 1))]
  refine Wp.seg 4 (pc1 := 379) (ls1 := [some (.ref 1000000003), some (.ref 0), some (.ref 59), some (.int (Int32.ofNat i))]) (st1 := [.int ((Int32.ofNat i) + (2 : Int32)), .ref 1000000003, .int (xs ((i + 1))), .ref 0]) rfl ?_
  refine Wp.iald (j := (i + 2)) (k := 30) (n := L) rfl ht rfl ((Int32.ofNat_add i 2).symm) (by omega) (by omega) ?_
  rw [show h.2.2.1 1000000003 ((i + 2)) = xs ((i + 2)) from hx ((i + 2))]
  exact hQ
set_option maxHeartbeats 4000000 in
theorem t_laB3 {d : Nat} {Q : KO → Prop} {h : KH} {L i : Nat} {xs : Nat → Int32} (ht : h.1 1000000003 = (30, L)) (hx : ∀ q, h.2.2.1 1000000003 q = xs q) (hL : L ≤ 2560) (hi5 : i + 5 ≤ L) {v : Int32} (hd : 0 ≤ d) (hQ : Wp d 297 394 ([some (.ref 1000000003), some (.ref 0), some (.ref 59), some (.int (Int32.ofNat i))]) [.int (xs ((i + 2))), .int (xs ((i + 1))), .ref 59, .int (v)] h Q) : Wp d 297 383 [some (.ref 1000000003), some (.ref 0), some (.ref 59), some (.int (Int32.ofNat i))] [.int (v)] h Q := by
  refine Wp.seg 5 (pc1 := 388) (ls1 := [some (.ref 1000000003), some (.ref 0), some (.ref 59), some (.int (Int32.ofNat i))]) (st1 := [.int ((Int32.ofNat i) + (1 : Int32)), .ref 1000000003, .ref 59, .int (v)]) rfl ?_
  refine Wp.iald (j := (i + 1)) (k := 30) (n := L) rfl ht rfl ((Int32.ofNat_add i 1).symm) (by omega) (by omega) ?_
  rw [show h.2.2.1 1000000003 ((i + 1)) = xs ((i + 1)) from hx ((i + 1))]
  refine Wp.seg 4 (pc1 := 393) (ls1 := [some (.ref 1000000003), some (.ref 0), some (.ref 59), some (.int (Int32.ofNat i))]) (st1 := [.int ((Int32.ofNat i) + (2 : Int32)), .ref 1000000003, .int (xs ((i + 1))), .ref 59, .int (v)]) rfl ?_
  refine Wp.iald (j := (i + 2)) (k := 30) (n := L) rfl ht rfl ((Int32.ofNat_add i 2).symm) (by omega) (by omega) ?_
  rw [show h.2.2.1 1000000003 ((i + 2)) = xs ((i + 2)) from hx ((i + 2))]
  exact hQ
set_option maxHeartbeats 4000000 in
theorem t_laC3 {d : Nat} {Q : KO → Prop} {h : KH} {i : Nat} {v : Int32} (hd : 0 ≤ d) (hQ : Wp d 297 18 ([some (.ref 1000000003), some (.ref 0), some (.ref 59), some (.int ((Int32.ofNat i) + 5))]) [] h Q) : Wp d 297 397 [some (.ref 1000000003), some (.ref 0), some (.ref 59), some (.int (Int32.ofNat i))] [.int (v), .int (v)] h Q := by
  refine Wp.if2 rfl (fun c1 => ?_) (fun c1 => absurd (rfl) c1)
  refine Wp.seg 2 (pc1 := 18) (ls1 := [some (.ref 1000000003), some (.ref 0), some (.ref 59), some (.int ((Int32.ofNat i) + 5))]) (st1 := []) rfl ?_
  exact hQ
theorem law_3 {d : Nat} {Q : KO → Prop} {h : KH} {L i : Nat} {xs : Nat → Int32} (ht : h.1 1000000003 = (30, L)) (hx : ∀ q, h.2.2.1 1000000003 q = xs q) (hL : L ≤ 2560) (hi5 : i + 5 ≤ L) (hi : Inv h) (hd : 31 ≤ d) (hj : JI h 91 [.ref 0, .int (xs ((i + 1))), .int (xs ((i + 2)))] 197 [.ref 59, .int (xs ((i + 1))), .int (xs ((i + 2)))]) (hQ : ∀ k, Inv k → k.1 1000000003 = (30, L) → (∀ q, k.2.2.1 1000000003 q = xs q) → k.2.2.2.2.1 ≤ h.2.2.2.2.1 + 5 → k.2.2.2.2.2 ≤ h.2.2.2.2.2 + 240 → far h k → Wp d 297 18 [some (.ref 1000000003), some (.ref 0), some (.ref 59), some (.int (Int32.ofNat i + 5))] [] k Q) : Wp d 297 369 [some (.ref 1000000003), some (.ref 0), some (.ref 59), some (.int (Int32.ofNat i))] [] h Q := by
  obtain ⟨v, hc⟩ := hj
  refine t_laA3 ht hx hL hi5 (Nat.zero_le _) ?_
  refine Wp.invV (d2 := 15) (as := [.ref 0, .int (xs ((i + 1))), .int (xs ((i + 2)))]) (r := []) (t := (10, 0)) rfl rfl rfl rfl (WF.t hi.1 0 rfl) rfl rfl ⟨rfl, rfl⟩ (by omega) (hc.far.post ?_)
  rintro _ ⟨⟨k, rfl, hm⟩, f1⟩
  have ht1 : k.1 1000000003 = (30, L) := (f1.2 1000000003 (by decide) (by rw [ht])).1.trans ht
  have hx1 : ∀ q, k.2.2.1 1000000003 q = xs q := fun q => by rw [(f1.2 1000000003 (by decide) (by rw [ht])).2]; exact hx q
  have h59 : k.1 59 = (11, 0) := (f1.1.2 59 (by have := hi.1.2.2.1; omega)).trans (WF.t hi.1 59 rfl)
  refine t_laB3 (h := k) (v := v) ht1 hx1 hL hi5 (Nat.zero_le _) ?_
  refine Wp.invV (d2 := 15) (as := [.ref 59, .int (xs ((i + 1))), .int (xs ((i + 2)))]) (r := [.int v]) (t := (11, 0)) rfl rfl rfl rfl h59 rfl rfl ⟨rfl, rfl⟩ (by omega) (hm.far.post ?_)
  rintro _ ⟨⟨k2, rfl, i2, s1, s2, fa⟩, f2⟩
  have ht2 : k2.1 1000000003 = (30, L) := (f2.2 1000000003 (by decide) (by rw [ht1])).1.trans ht1
  exact t_laC3 (h := k2) (v := v) (Nat.zero_le _) (hQ k2 i2 ht2 (fun q => by rw [(f2.2 1000000003 (by decide) (by rw [ht1])).2]; exact hx1 q) s1 s2 fa)
set_option maxHeartbeats 4000000 in
theorem t_laA4 {d : Nat} {Q : KO → Prop} {h : KH} {L i : Nat} {xs : Nat → Int32} (ht : h.1 1000000003 = (30, L)) (hx : ∀ q, h.2.2.1 1000000003 q = xs q) (hL : L ≤ 2560) (hi5 : i + 5 ≤ L) (hd : 0 ≤ d) (hQ : Wp d 297 413 ([some (.ref 1000000003), some (.ref 0), some (.ref 59), some (.int (Int32.ofNat i))]) [.int (xs ((i + 2))), .int (xs ((i + 1))), .ref 0] h Q) : Wp d 297 402 [some (.ref 1000000003), some (.ref 0), some (.ref 59), some (.int (Int32.ofNat i))] [] h Q := by
  refine Wp.seg 5 (pc1 := 407) (ls1 := [some (.ref 1000000003), some (.ref 0), some (.ref 59), some (.int (Int32.ofNat i))]) (st1 := [.int ((Int32.ofNat i) + (1 : Int32)), .ref 1000000003, .ref 0]) rfl ?_
  refine Wp.iald (j := (i + 1)) (k := 30) (n := L) rfl ht rfl ((Int32.ofNat_add i 1).symm) (by omega) (by omega) ?_
  rw [show h.2.2.1 1000000003 ((i + 1)) = xs ((i + 1)) from hx ((i + 1))]
  refine Wp.seg 4 (pc1 := 412) (ls1 := [some (.ref 1000000003), some (.ref 0), some (.ref 59), some (.int (Int32.ofNat i))]) (st1 := [.int ((Int32.ofNat i) + (2 : Int32)), .ref 1000000003, .int (xs ((i + 1))), .ref 0]) rfl ?_
  refine Wp.iald (j := (i + 2)) (k := 30) (n := L) rfl ht rfl ((Int32.ofNat_add i 2).symm) (by omega) (by omega) ?_
  rw [show h.2.2.1 1000000003 ((i + 2)) = xs ((i + 2)) from hx ((i + 2))]
  exact hQ
set_option maxHeartbeats 4000000 in
theorem t_laB4 {d : Nat} {Q : KO → Prop} {h : KH} {L i : Nat} {xs : Nat → Int32} (ht : h.1 1000000003 = (30, L)) (hx : ∀ q, h.2.2.1 1000000003 q = xs q) (hL : L ≤ 2560) (hi5 : i + 5 ≤ L) {v : Int32} (hd : 0 ≤ d) (hQ : Wp d 297 427 ([some (.ref 1000000003), some (.ref 0), some (.ref 59), some (.int (Int32.ofNat i))]) [.int (xs ((i + 2))), .int (xs ((i + 1))), .ref 59, .int (v)] h Q) : Wp d 297 416 [some (.ref 1000000003), some (.ref 0), some (.ref 59), some (.int (Int32.ofNat i))] [.int (v)] h Q := by
  refine Wp.seg 5 (pc1 := 421) (ls1 := [some (.ref 1000000003), some (.ref 0), some (.ref 59), some (.int (Int32.ofNat i))]) (st1 := [.int ((Int32.ofNat i) + (1 : Int32)), .ref 1000000003, .ref 59, .int (v)]) rfl ?_
  refine Wp.iald (j := (i + 1)) (k := 30) (n := L) rfl ht rfl ((Int32.ofNat_add i 1).symm) (by omega) (by omega) ?_
  rw [show h.2.2.1 1000000003 ((i + 1)) = xs ((i + 1)) from hx ((i + 1))]
  refine Wp.seg 4 (pc1 := 426) (ls1 := [some (.ref 1000000003), some (.ref 0), some (.ref 59), some (.int (Int32.ofNat i))]) (st1 := [.int ((Int32.ofNat i) + (2 : Int32)), .ref 1000000003, .int (xs ((i + 1))), .ref 59, .int (v)]) rfl ?_
  refine Wp.iald (j := (i + 2)) (k := 30) (n := L) rfl ht rfl ((Int32.ofNat_add i 2).symm) (by omega) (by omega) ?_
  rw [show h.2.2.1 1000000003 ((i + 2)) = xs ((i + 2)) from hx ((i + 2))]
  exact hQ
set_option maxHeartbeats 4000000 in
theorem t_laC4 {d : Nat} {Q : KO → Prop} {h : KH} {i : Nat} {v : Int32} (hd : 0 ≤ d) (hQ : Wp d 297 18 ([some (.ref 1000000003), some (.ref 0), some (.ref 59), some (.int ((Int32.ofNat i) + 5))]) [] h Q) : Wp d 297 430 [some (.ref 1000000003), some (.ref 0), some (.ref 59), some (.int (Int32.ofNat i))] [.int (v), .int (v)] h Q := by
  refine Wp.if2 rfl (fun c1 => ?_) (fun c1 => absurd (rfl) c1)
  refine Wp.seg 2 (pc1 := 18) (ls1 := [some (.ref 1000000003), some (.ref 0), some (.ref 59), some (.int ((Int32.ofNat i) + 5))]) (st1 := []) rfl ?_
  exact hQ
theorem law_4 {d : Nat} {Q : KO → Prop} {h : KH} {L i : Nat} {xs : Nat → Int32} (ht : h.1 1000000003 = (30, L)) (hx : ∀ q, h.2.2.1 1000000003 q = xs q) (hL : L ≤ 2560) (hi5 : i + 5 ≤ L) (hi : Inv h) (hd : 31 ≤ d) (hj : JI h 92 [.ref 0, .int (xs ((i + 1))), .int (xs ((i + 2)))] 198 [.ref 59, .int (xs ((i + 1))), .int (xs ((i + 2)))]) (hQ : ∀ k, Inv k → k.1 1000000003 = (30, L) → (∀ q, k.2.2.1 1000000003 q = xs q) → k.2.2.2.2.1 ≤ h.2.2.2.2.1 + 5 → k.2.2.2.2.2 ≤ h.2.2.2.2.2 + 240 → far h k → Wp d 297 18 [some (.ref 1000000003), some (.ref 0), some (.ref 59), some (.int (Int32.ofNat i + 5))] [] k Q) : Wp d 297 402 [some (.ref 1000000003), some (.ref 0), some (.ref 59), some (.int (Int32.ofNat i))] [] h Q := by
  obtain ⟨v, hc⟩ := hj
  refine t_laA4 ht hx hL hi5 (Nat.zero_le _) ?_
  refine Wp.invV (d2 := 15) (as := [.ref 0, .int (xs ((i + 1))), .int (xs ((i + 2)))]) (r := []) (t := (10, 0)) rfl rfl rfl rfl (WF.t hi.1 0 rfl) rfl rfl ⟨rfl, rfl⟩ (by omega) (hc.far.post ?_)
  rintro _ ⟨⟨k, rfl, hm⟩, f1⟩
  have ht1 : k.1 1000000003 = (30, L) := (f1.2 1000000003 (by decide) (by rw [ht])).1.trans ht
  have hx1 : ∀ q, k.2.2.1 1000000003 q = xs q := fun q => by rw [(f1.2 1000000003 (by decide) (by rw [ht])).2]; exact hx q
  have h59 : k.1 59 = (11, 0) := (f1.1.2 59 (by have := hi.1.2.2.1; omega)).trans (WF.t hi.1 59 rfl)
  refine t_laB4 (h := k) (v := v) ht1 hx1 hL hi5 (Nat.zero_le _) ?_
  refine Wp.invV (d2 := 15) (as := [.ref 59, .int (xs ((i + 1))), .int (xs ((i + 2)))]) (r := [.int v]) (t := (11, 0)) rfl rfl rfl rfl h59 rfl rfl ⟨rfl, rfl⟩ (by omega) (hm.far.post ?_)
  rintro _ ⟨⟨k2, rfl, i2, s1, s2, fa⟩, f2⟩
  have ht2 : k2.1 1000000003 = (30, L) := (f2.2 1000000003 (by decide) (by rw [ht1])).1.trans ht1
  exact t_laC4 (h := k2) (v := v) (Nat.zero_le _) (hQ k2 i2 ht2 (fun q => by rw [(f2.2 1000000003 (by decide) (by rw [ht1])).2]; exact hx1 q) s1 s2 fa)
set_option maxHeartbeats 4000000 in
theorem t_laA5 {d : Nat} {Q : KO → Prop} {h : KH} {L i : Nat} {xs : Nat → Int32} (ht : h.1 1000000003 = (30, L)) (hx : ∀ q, h.2.2.1 1000000003 q = xs q) (hL : L ≤ 2560) (hi5 : i + 5 ≤ L) (hd : 0 ≤ d) (hQ : Wp d 297 446 ([some (.ref 1000000003), some (.ref 0), some (.ref 59), some (.int (Int32.ofNat i))]) [.int (xs ((i + 2))), .int (xs ((i + 1))), .ref 0] h Q) : Wp d 297 435 [some (.ref 1000000003), some (.ref 0), some (.ref 59), some (.int (Int32.ofNat i))] [] h Q := by
  refine Wp.seg 5 (pc1 := 440) (ls1 := [some (.ref 1000000003), some (.ref 0), some (.ref 59), some (.int (Int32.ofNat i))]) (st1 := [.int ((Int32.ofNat i) + (1 : Int32)), .ref 1000000003, .ref 0]) rfl ?_
  refine Wp.iald (j := (i + 1)) (k := 30) (n := L) rfl ht rfl ((Int32.ofNat_add i 1).symm) (by omega) (by omega) ?_
  rw [show h.2.2.1 1000000003 ((i + 1)) = xs ((i + 1)) from hx ((i + 1))]
  refine Wp.seg 4 (pc1 := 445) (ls1 := [some (.ref 1000000003), some (.ref 0), some (.ref 59), some (.int (Int32.ofNat i))]) (st1 := [.int ((Int32.ofNat i) + (2 : Int32)), .ref 1000000003, .int (xs ((i + 1))), .ref 0]) rfl ?_
  refine Wp.iald (j := (i + 2)) (k := 30) (n := L) rfl ht rfl ((Int32.ofNat_add i 2).symm) (by omega) (by omega) ?_
  rw [show h.2.2.1 1000000003 ((i + 2)) = xs ((i + 2)) from hx ((i + 2))]
  exact hQ
set_option maxHeartbeats 4000000 in
theorem t_laB5 {d : Nat} {Q : KO → Prop} {h : KH} {L i : Nat} {xs : Nat → Int32} (ht : h.1 1000000003 = (30, L)) (hx : ∀ q, h.2.2.1 1000000003 q = xs q) (hL : L ≤ 2560) (hi5 : i + 5 ≤ L) {v : Int32} (hd : 0 ≤ d) (hQ : Wp d 297 460 ([some (.ref 1000000003), some (.ref 0), some (.ref 59), some (.int (Int32.ofNat i))]) [.int (xs ((i + 2))), .int (xs ((i + 1))), .ref 59, .int (v)] h Q) : Wp d 297 449 [some (.ref 1000000003), some (.ref 0), some (.ref 59), some (.int (Int32.ofNat i))] [.int (v)] h Q := by
  refine Wp.seg 5 (pc1 := 454) (ls1 := [some (.ref 1000000003), some (.ref 0), some (.ref 59), some (.int (Int32.ofNat i))]) (st1 := [.int ((Int32.ofNat i) + (1 : Int32)), .ref 1000000003, .ref 59, .int (v)]) rfl ?_
  refine Wp.iald (j := (i + 1)) (k := 30) (n := L) rfl ht rfl ((Int32.ofNat_add i 1).symm) (by omega) (by omega) ?_
  rw [show h.2.2.1 1000000003 ((i + 1)) = xs ((i + 1)) from hx ((i + 1))]
  refine Wp.seg 4 (pc1 := 459) (ls1 := [some (.ref 1000000003), some (.ref 0), some (.ref 59), some (.int (Int32.ofNat i))]) (st1 := [.int ((Int32.ofNat i) + (2 : Int32)), .ref 1000000003, .int (xs ((i + 1))), .ref 59, .int (v)]) rfl ?_
  refine Wp.iald (j := (i + 2)) (k := 30) (n := L) rfl ht rfl ((Int32.ofNat_add i 2).symm) (by omega) (by omega) ?_
  rw [show h.2.2.1 1000000003 ((i + 2)) = xs ((i + 2)) from hx ((i + 2))]
  exact hQ
set_option maxHeartbeats 4000000 in
theorem t_laC5 {d : Nat} {Q : KO → Prop} {h : KH} {i : Nat} {v : Int32} (hd : 0 ≤ d) (hQ : Wp d 297 18 ([some (.ref 1000000003), some (.ref 0), some (.ref 59), some (.int ((Int32.ofNat i) + 5))]) [] h Q) : Wp d 297 463 [some (.ref 1000000003), some (.ref 0), some (.ref 59), some (.int (Int32.ofNat i))] [.int (v), .int (v)] h Q := by
  refine Wp.if2 rfl (fun c1 => ?_) (fun c1 => absurd (rfl) c1)
  refine Wp.seg 2 (pc1 := 18) (ls1 := [some (.ref 1000000003), some (.ref 0), some (.ref 59), some (.int ((Int32.ofNat i) + 5))]) (st1 := []) rfl ?_
  exact hQ
theorem law_5 {d : Nat} {Q : KO → Prop} {h : KH} {L i : Nat} {xs : Nat → Int32} (ht : h.1 1000000003 = (30, L)) (hx : ∀ q, h.2.2.1 1000000003 q = xs q) (hL : L ≤ 2560) (hi5 : i + 5 ≤ L) (hi : Inv h) (hd : 31 ≤ d) (hj : JI h 98 [.ref 0, .int (xs ((i + 1))), .int (xs ((i + 2)))] 199 [.ref 59, .int (xs ((i + 1))), .int (xs ((i + 2)))]) (hQ : ∀ k, Inv k → k.1 1000000003 = (30, L) → (∀ q, k.2.2.1 1000000003 q = xs q) → k.2.2.2.2.1 ≤ h.2.2.2.2.1 + 5 → k.2.2.2.2.2 ≤ h.2.2.2.2.2 + 240 → far h k → Wp d 297 18 [some (.ref 1000000003), some (.ref 0), some (.ref 59), some (.int (Int32.ofNat i + 5))] [] k Q) : Wp d 297 435 [some (.ref 1000000003), some (.ref 0), some (.ref 59), some (.int (Int32.ofNat i))] [] h Q := by
  obtain ⟨v, hc⟩ := hj
  refine t_laA5 ht hx hL hi5 (Nat.zero_le _) ?_
  refine Wp.invV (d2 := 15) (as := [.ref 0, .int (xs ((i + 1))), .int (xs ((i + 2)))]) (r := []) (t := (10, 0)) rfl rfl rfl rfl (WF.t hi.1 0 rfl) rfl rfl ⟨rfl, rfl⟩ (by omega) (hc.far.post ?_)
  rintro _ ⟨⟨k, rfl, hm⟩, f1⟩
  have ht1 : k.1 1000000003 = (30, L) := (f1.2 1000000003 (by decide) (by rw [ht])).1.trans ht
  have hx1 : ∀ q, k.2.2.1 1000000003 q = xs q := fun q => by rw [(f1.2 1000000003 (by decide) (by rw [ht])).2]; exact hx q
  have h59 : k.1 59 = (11, 0) := (f1.1.2 59 (by have := hi.1.2.2.1; omega)).trans (WF.t hi.1 59 rfl)
  refine t_laB5 (h := k) (v := v) ht1 hx1 hL hi5 (Nat.zero_le _) ?_
  refine Wp.invV (d2 := 15) (as := [.ref 59, .int (xs ((i + 1))), .int (xs ((i + 2)))]) (r := [.int v]) (t := (11, 0)) rfl rfl rfl rfl h59 rfl rfl ⟨rfl, rfl⟩ (by omega) (hm.far.post ?_)
  rintro _ ⟨⟨k2, rfl, i2, s1, s2, fa⟩, f2⟩
  have ht2 : k2.1 1000000003 = (30, L) := (f2.2 1000000003 (by decide) (by rw [ht1])).1.trans ht1
  exact t_laC5 (h := k2) (v := v) (Nat.zero_le _) (hQ k2 i2 ht2 (fun q => by rw [(f2.2 1000000003 (by decide) (by rw [ht1])).2]; exact hx1 q) s1 s2 fa)
set_option maxHeartbeats 4000000 in
theorem t_laA6 {d : Nat} {Q : KO → Prop} {h : KH} {L i : Nat} {xs : Nat → Int32} (ht : h.1 1000000003 = (30, L)) (hx : ∀ q, h.2.2.1 1000000003 q = xs q) (hL : L ≤ 2560) (hi5 : i + 5 ≤ L) (hd : 0 ≤ d) (hQ : Wp d 297 469 ([some (.ref 1000000003), some (.ref 0), some (.ref 59), some (.int (Int32.ofNat i))]) [.ref 0] h Q) : Wp d 297 468 [some (.ref 1000000003), some (.ref 0), some (.ref 59), some (.int (Int32.ofNat i))] [] h Q := by
  refine Wp.seg 1 (pc1 := 469) (ls1 := [some (.ref 1000000003), some (.ref 0), some (.ref 59), some (.int (Int32.ofNat i))]) (st1 := [.ref 0]) rfl ?_
  exact hQ
set_option maxHeartbeats 4000000 in
theorem t_laB6 {d : Nat} {Q : KO → Prop} {h : KH} {L i : Nat} {xs : Nat → Int32} (ht : h.1 1000000003 = (30, L)) (hx : ∀ q, h.2.2.1 1000000003 q = xs q) (hL : L ≤ 2560) (hi5 : i + 5 ≤ L) {v : Int32} (hd : 0 ≤ d) (hQ : Wp d 297 473 ([some (.ref 1000000003), some (.ref 0), some (.ref 59), some (.int (Int32.ofNat i))]) [.ref 59, .int (v)] h Q) : Wp d 297 472 [some (.ref 1000000003), some (.ref 0), some (.ref 59), some (.int (Int32.ofNat i))] [.int (v)] h Q := by
  refine Wp.seg 1 (pc1 := 473) (ls1 := [some (.ref 1000000003), some (.ref 0), some (.ref 59), some (.int (Int32.ofNat i))]) (st1 := [.ref 59, .int (v)]) rfl ?_
  exact hQ
set_option maxHeartbeats 4000000 in
theorem t_laC6 {d : Nat} {Q : KO → Prop} {h : KH} {i : Nat} {v : Int32} (hd : 0 ≤ d) (hQ : Wp d 297 18 ([some (.ref 1000000003), some (.ref 0), some (.ref 59), some (.int ((Int32.ofNat i) + 5))]) [] h Q) : Wp d 297 476 [some (.ref 1000000003), some (.ref 0), some (.ref 59), some (.int (Int32.ofNat i))] [.int (v), .int (v)] h Q := by
  refine Wp.if2 rfl (fun c1 => ?_) (fun c1 => absurd (rfl) c1)
  refine Wp.seg 2 (pc1 := 18) (ls1 := [some (.ref 1000000003), some (.ref 0), some (.ref 59), some (.int ((Int32.ofNat i) + 5))]) (st1 := []) rfl ?_
  exact hQ
theorem law_6 {d : Nat} {Q : KO → Prop} {h : KH} {L i : Nat} {xs : Nat → Int32} (ht : h.1 1000000003 = (30, L)) (hx : ∀ q, h.2.2.1 1000000003 q = xs q) (hL : L ≤ 2560) (hi5 : i + 5 ≤ L) (hi : Inv h) (hd : 31 ≤ d) (hj : JI h 99 [.ref 0] 200 [.ref 59]) (hQ : ∀ k, Inv k → k.1 1000000003 = (30, L) → (∀ q, k.2.2.1 1000000003 q = xs q) → k.2.2.2.2.1 ≤ h.2.2.2.2.1 + 5 → k.2.2.2.2.2 ≤ h.2.2.2.2.2 + 240 → far h k → Wp d 297 18 [some (.ref 1000000003), some (.ref 0), some (.ref 59), some (.int (Int32.ofNat i + 5))] [] k Q) : Wp d 297 468 [some (.ref 1000000003), some (.ref 0), some (.ref 59), some (.int (Int32.ofNat i))] [] h Q := by
  obtain ⟨v, hc⟩ := hj
  refine t_laA6 ht hx hL hi5 (Nat.zero_le _) ?_
  refine Wp.invV (d2 := 15) (as := [.ref 0]) (r := []) (t := (10, 0)) rfl rfl rfl rfl (WF.t hi.1 0 rfl) rfl rfl ⟨rfl, rfl⟩ (by omega) (hc.far.post ?_)
  rintro _ ⟨⟨k, rfl, hm⟩, f1⟩
  have ht1 : k.1 1000000003 = (30, L) := (f1.2 1000000003 (by decide) (by rw [ht])).1.trans ht
  have hx1 : ∀ q, k.2.2.1 1000000003 q = xs q := fun q => by rw [(f1.2 1000000003 (by decide) (by rw [ht])).2]; exact hx q
  have h59 : k.1 59 = (11, 0) := (f1.1.2 59 (by have := hi.1.2.2.1; omega)).trans (WF.t hi.1 59 rfl)
  refine t_laB6 (h := k) (v := v) ht1 hx1 hL hi5 (Nat.zero_le _) ?_
  refine Wp.invV (d2 := 15) (as := [.ref 59]) (r := [.int v]) (t := (11, 0)) rfl rfl rfl rfl h59 rfl rfl ⟨rfl, rfl⟩ (by omega) (hm.far.post ?_)
  rintro _ ⟨⟨k2, rfl, i2, s1, s2, fa⟩, f2⟩
  have ht2 : k2.1 1000000003 = (30, L) := (f2.2 1000000003 (by decide) (by rw [ht1])).1.trans ht1
  exact t_laC6 (h := k2) (v := v) (Nat.zero_le _) (hQ k2 i2 ht2 (fun q => by rw [(f2.2 1000000003 (by decide) (by rw [ht1])).2]; exact hx1 q) s1 s2 fa)
set_option maxHeartbeats 4000000 in
theorem t_laA7 {d : Nat} {Q : KO → Prop} {h : KH} {L i : Nat} {xs : Nat → Int32} (ht : h.1 1000000003 = (30, L)) (hx : ∀ q, h.2.2.1 1000000003 q = xs q) (hL : L ≤ 2560) (hi5 : i + 5 ≤ L) (hd : 0 ≤ d) (hQ : Wp d 297 487 ([some (.ref 1000000003), some (.ref 0), some (.ref 59), some (.int (Int32.ofNat i))]) [.int (xs ((i + 1))), .ref 0] h Q) : Wp d 297 481 [some (.ref 1000000003), some (.ref 0), some (.ref 59), some (.int (Int32.ofNat i))] [] h Q := by
  refine Wp.seg 5 (pc1 := 486) (ls1 := [some (.ref 1000000003), some (.ref 0), some (.ref 59), some (.int (Int32.ofNat i))]) (st1 := [.int ((Int32.ofNat i) + (1 : Int32)), .ref 1000000003, .ref 0]) rfl ?_
  refine Wp.iald (j := (i + 1)) (k := 30) (n := L) rfl ht rfl ((Int32.ofNat_add i 1).symm) (by omega) (by omega) ?_
  rw [show h.2.2.1 1000000003 ((i + 1)) = xs ((i + 1)) from hx ((i + 1))]
  exact hQ
set_option maxHeartbeats 4000000 in
theorem t_laB7 {d : Nat} {Q : KO → Prop} {h : KH} {L i : Nat} {xs : Nat → Int32} (ht : h.1 1000000003 = (30, L)) (hx : ∀ q, h.2.2.1 1000000003 q = xs q) (hL : L ≤ 2560) (hi5 : i + 5 ≤ L) {v : Int32} (hd : 0 ≤ d) (hQ : Wp d 297 496 ([some (.ref 1000000003), some (.ref 0), some (.ref 59), some (.int (Int32.ofNat i))]) [.int (xs ((i + 1))), .ref 59, .int (v)] h Q) : Wp d 297 490 [some (.ref 1000000003), some (.ref 0), some (.ref 59), some (.int (Int32.ofNat i))] [.int (v)] h Q := by
  refine Wp.seg 5 (pc1 := 495) (ls1 := [some (.ref 1000000003), some (.ref 0), some (.ref 59), some (.int (Int32.ofNat i))]) (st1 := [.int ((Int32.ofNat i) + (1 : Int32)), .ref 1000000003, .ref 59, .int (v)]) rfl ?_
  refine Wp.iald (j := (i + 1)) (k := 30) (n := L) rfl ht rfl ((Int32.ofNat_add i 1).symm) (by omega) (by omega) ?_
  rw [show h.2.2.1 1000000003 ((i + 1)) = xs ((i + 1)) from hx ((i + 1))]
  exact hQ
set_option maxHeartbeats 4000000 in
theorem t_laC7 {d : Nat} {Q : KO → Prop} {h : KH} {i : Nat} {v : Int32} (hd : 0 ≤ d) (hQ : Wp d 297 18 ([some (.ref 1000000003), some (.ref 0), some (.ref 59), some (.int ((Int32.ofNat i) + 5))]) [] h Q) : Wp d 297 499 [some (.ref 1000000003), some (.ref 0), some (.ref 59), some (.int (Int32.ofNat i))] [.int (v), .int (v)] h Q := by
  refine Wp.if2 rfl (fun c1 => ?_) (fun c1 => absurd (rfl) c1)
  refine Wp.seg 2 (pc1 := 18) (ls1 := [some (.ref 1000000003), some (.ref 0), some (.ref 59), some (.int ((Int32.ofNat i) + 5))]) (st1 := []) rfl ?_
  exact hQ
theorem law_7 {d : Nat} {Q : KO → Prop} {h : KH} {L i : Nat} {xs : Nat → Int32} (ht : h.1 1000000003 = (30, L)) (hx : ∀ q, h.2.2.1 1000000003 q = xs q) (hL : L ≤ 2560) (hi5 : i + 5 ≤ L) (hi : Inv h) (hd : 31 ≤ d) (hj : JI h 100 [.ref 0, .int (xs ((i + 1)))] 201 [.ref 59, .int (xs ((i + 1)))]) (hQ : ∀ k, Inv k → k.1 1000000003 = (30, L) → (∀ q, k.2.2.1 1000000003 q = xs q) → k.2.2.2.2.1 ≤ h.2.2.2.2.1 + 5 → k.2.2.2.2.2 ≤ h.2.2.2.2.2 + 240 → far h k → Wp d 297 18 [some (.ref 1000000003), some (.ref 0), some (.ref 59), some (.int (Int32.ofNat i + 5))] [] k Q) : Wp d 297 481 [some (.ref 1000000003), some (.ref 0), some (.ref 59), some (.int (Int32.ofNat i))] [] h Q := by
  obtain ⟨v, hc⟩ := hj
  refine t_laA7 ht hx hL hi5 (Nat.zero_le _) ?_
  refine Wp.invV (d2 := 15) (as := [.ref 0, .int (xs ((i + 1)))]) (r := []) (t := (10, 0)) rfl rfl rfl rfl (WF.t hi.1 0 rfl) rfl rfl ⟨rfl, rfl⟩ (by omega) (hc.far.post ?_)
  rintro _ ⟨⟨k, rfl, hm⟩, f1⟩
  have ht1 : k.1 1000000003 = (30, L) := (f1.2 1000000003 (by decide) (by rw [ht])).1.trans ht
  have hx1 : ∀ q, k.2.2.1 1000000003 q = xs q := fun q => by rw [(f1.2 1000000003 (by decide) (by rw [ht])).2]; exact hx q
  have h59 : k.1 59 = (11, 0) := (f1.1.2 59 (by have := hi.1.2.2.1; omega)).trans (WF.t hi.1 59 rfl)
  refine t_laB7 (h := k) (v := v) ht1 hx1 hL hi5 (Nat.zero_le _) ?_
  refine Wp.invV (d2 := 15) (as := [.ref 59, .int (xs ((i + 1)))]) (r := [.int v]) (t := (11, 0)) rfl rfl rfl rfl h59 rfl rfl ⟨rfl, rfl⟩ (by omega) (hm.far.post ?_)
  rintro _ ⟨⟨k2, rfl, i2, s1, s2, fa⟩, f2⟩
  have ht2 : k2.1 1000000003 = (30, L) := (f2.2 1000000003 (by decide) (by rw [ht1])).1.trans ht1
  exact t_laC7 (h := k2) (v := v) (Nat.zero_le _) (hQ k2 i2 ht2 (fun q => by rw [(f2.2 1000000003 (by decide) (by rw [ht1])).2]; exact hx1 q) s1 s2 fa)
set_option maxHeartbeats 4000000 in
theorem t_laA8 {d : Nat} {Q : KO → Prop} {h : KH} {L i : Nat} {xs : Nat → Int32} (ht : h.1 1000000003 = (30, L)) (hx : ∀ q, h.2.2.1 1000000003 q = xs q) (hL : L ≤ 2560) (hi5 : i + 5 ≤ L) (hd : 0 ≤ d) (hQ : Wp d 297 530 ([some (.ref 1000000003), some (.ref 0), some (.ref 59), some (.int (Int32.ofNat i))]) [.int (xs ((i + 3))), .long ((((xs ((i + 1))).toInt64) <<< ((32 : Int32).toInt64 &&& 63)) ||| (((xs ((i + 2))).toInt64) &&& (4294967295 : Int64))), .ref 0] h Q) : Wp d 297 504 [some (.ref 1000000003), some (.ref 0), some (.ref 59), some (.int (Int32.ofNat i))] [] h Q := by
  refine Wp.seg 5 (pc1 := 509) (ls1 := [some (.ref 1000000003), some (.ref 0), some (.ref 59), some (.int (Int32.ofNat i))]) (st1 := [.int ((Int32.ofNat i) + (1 : Int32)), .ref 1000000003, .ref 0]) rfl ?_
  refine Wp.iald (j := (i + 1)) (k := 30) (n := L) rfl ht rfl ((Int32.ofNat_add i 1).symm) (by omega) (by omega) ?_
  rw [show h.2.2.1 1000000003 ((i + 1)) = xs ((i + 1)) from hx ((i + 1))]
  refine Wp.seg 7 (pc1 := 518) (ls1 := [some (.ref 1000000003), some (.ref 0), some (.ref 59), some (.int (Int32.ofNat i))]) (st1 := [.int ((Int32.ofNat i) + (2 : Int32)), .ref 1000000003, .long (((xs ((i + 1))).toInt64) <<< ((32 : Int32).toInt64 &&& 63)), .ref 0]) rfl ?_
  refine Wp.iald (j := (i + 2)) (k := 30) (n := L) rfl ht rfl ((Int32.ofNat_add i 2).symm) (by omega) (by omega) ?_
  rw [show h.2.2.1 1000000003 ((i + 2)) = xs ((i + 2)) from hx ((i + 2))]
  refine Wp.seg 8 (pc1 := 529) (ls1 := [some (.ref 1000000003), some (.ref 0), some (.ref 59), some (.int (Int32.ofNat i))]) (st1 := [.int ((Int32.ofNat i) + (3 : Int32)), .ref 1000000003, .long ((((xs ((i + 1))).toInt64) <<< ((32 : Int32).toInt64 &&& 63)) ||| (((xs ((i + 2))).toInt64) &&& (4294967295 : Int64))), .ref 0]) rfl ?_
  refine Wp.iald (j := (i + 3)) (k := 30) (n := L) rfl ht rfl ((Int32.ofNat_add i 3).symm) (by omega) (by omega) ?_
  rw [show h.2.2.1 1000000003 ((i + 3)) = xs ((i + 3)) from hx ((i + 3))]
  exact hQ
set_option maxHeartbeats 4000000 in
theorem t_laB8 {d : Nat} {Q : KO → Prop} {h : KH} {L i : Nat} {xs : Nat → Int32} (ht : h.1 1000000003 = (30, L)) (hx : ∀ q, h.2.2.1 1000000003 q = xs q) (hL : L ≤ 2560) (hi5 : i + 5 ≤ L) {v : Int32} (hd : 0 ≤ d) (hQ : Wp d 297 559 ([some (.ref 1000000003), some (.ref 0), some (.ref 59), some (.int (Int32.ofNat i))]) [.int (xs ((i + 3))), .long ((((xs ((i + 1))).toInt64) <<< ((32 : Int32).toInt64 &&& 63)) ||| (((xs ((i + 2))).toInt64) &&& (4294967295 : Int64))), .ref 59, .int (v)] h Q) : Wp d 297 533 [some (.ref 1000000003), some (.ref 0), some (.ref 59), some (.int (Int32.ofNat i))] [.int (v)] h Q := by
  refine Wp.seg 5 (pc1 := 538) (ls1 := [some (.ref 1000000003), some (.ref 0), some (.ref 59), some (.int (Int32.ofNat i))]) (st1 := [.int ((Int32.ofNat i) + (1 : Int32)), .ref 1000000003, .ref 59, .int (v)]) rfl ?_
  refine Wp.iald (j := (i + 1)) (k := 30) (n := L) rfl ht rfl ((Int32.ofNat_add i 1).symm) (by omega) (by omega) ?_
  rw [show h.2.2.1 1000000003 ((i + 1)) = xs ((i + 1)) from hx ((i + 1))]
  refine Wp.seg 7 (pc1 := 547) (ls1 := [some (.ref 1000000003), some (.ref 0), some (.ref 59), some (.int (Int32.ofNat i))]) (st1 := [.int ((Int32.ofNat i) + (2 : Int32)), .ref 1000000003, .long (((xs ((i + 1))).toInt64) <<< ((32 : Int32).toInt64 &&& 63)), .ref 59, .int (v)]) rfl ?_
  refine Wp.iald (j := (i + 2)) (k := 30) (n := L) rfl ht rfl ((Int32.ofNat_add i 2).symm) (by omega) (by omega) ?_
  rw [show h.2.2.1 1000000003 ((i + 2)) = xs ((i + 2)) from hx ((i + 2))]
  refine Wp.seg 8 (pc1 := 558) (ls1 := [some (.ref 1000000003), some (.ref 0), some (.ref 59), some (.int (Int32.ofNat i))]) (st1 := [.int ((Int32.ofNat i) + (3 : Int32)), .ref 1000000003, .long ((((xs ((i + 1))).toInt64) <<< ((32 : Int32).toInt64 &&& 63)) ||| (((xs ((i + 2))).toInt64) &&& (4294967295 : Int64))), .ref 59, .int (v)]) rfl ?_
  refine Wp.iald (j := (i + 3)) (k := 30) (n := L) rfl ht rfl ((Int32.ofNat_add i 3).symm) (by omega) (by omega) ?_
  rw [show h.2.2.1 1000000003 ((i + 3)) = xs ((i + 3)) from hx ((i + 3))]
  exact hQ
set_option maxHeartbeats 4000000 in
theorem t_laC8 {d : Nat} {Q : KO → Prop} {h : KH} {i : Nat} {v : Int32} (hd : 0 ≤ d) (hQ : Wp d 297 18 ([some (.ref 1000000003), some (.ref 0), some (.ref 59), some (.int ((Int32.ofNat i) + 5))]) [] h Q) : Wp d 297 562 [some (.ref 1000000003), some (.ref 0), some (.ref 59), some (.int (Int32.ofNat i))] [.int (v), .int (v)] h Q := by
  refine Wp.if2 rfl (fun c1 => ?_) (fun c1 => absurd (rfl) c1)
  refine Wp.seg 2 (pc1 := 18) (ls1 := [some (.ref 1000000003), some (.ref 0), some (.ref 59), some (.int ((Int32.ofNat i) + 5))]) (st1 := []) rfl ?_
  exact hQ
theorem law_8 {d : Nat} {Q : KO → Prop} {h : KH} {L i : Nat} {xs : Nat → Int32} (ht : h.1 1000000003 = (30, L)) (hx : ∀ q, h.2.2.1 1000000003 q = xs q) (hL : L ≤ 2560) (hi5 : i + 5 ≤ L) (hi : Inv h) (hd : 31 ≤ d) (hj : JI h 109 [.ref 0, .long ((((xs ((i + 1))).toInt64) <<< ((32 : Int32).toInt64 &&& 63)) ||| (((xs ((i + 2))).toInt64) &&& (4294967295 : Int64))), .int (xs ((i + 3)))] 202 [.ref 59, .long ((((xs ((i + 1))).toInt64) <<< ((32 : Int32).toInt64 &&& 63)) ||| (((xs ((i + 2))).toInt64) &&& (4294967295 : Int64))), .int (xs ((i + 3)))]) (hQ : ∀ k, Inv k → k.1 1000000003 = (30, L) → (∀ q, k.2.2.1 1000000003 q = xs q) → k.2.2.2.2.1 ≤ h.2.2.2.2.1 + 5 → k.2.2.2.2.2 ≤ h.2.2.2.2.2 + 240 → far h k → Wp d 297 18 [some (.ref 1000000003), some (.ref 0), some (.ref 59), some (.int (Int32.ofNat i + 5))] [] k Q) : Wp d 297 504 [some (.ref 1000000003), some (.ref 0), some (.ref 59), some (.int (Int32.ofNat i))] [] h Q := by
  obtain ⟨v, hc⟩ := hj
  refine t_laA8 ht hx hL hi5 (Nat.zero_le _) ?_
  refine Wp.invV (d2 := 15) (as := [.ref 0, .long ((((xs ((i + 1))).toInt64) <<< ((32 : Int32).toInt64 &&& 63)) ||| (((xs ((i + 2))).toInt64) &&& (4294967295 : Int64))), .int (xs ((i + 3)))]) (r := []) (t := (10, 0)) rfl rfl rfl rfl (WF.t hi.1 0 rfl) rfl rfl ⟨rfl, rfl⟩ (by omega) (hc.far.post ?_)
  rintro _ ⟨⟨k, rfl, hm⟩, f1⟩
  have ht1 : k.1 1000000003 = (30, L) := (f1.2 1000000003 (by decide) (by rw [ht])).1.trans ht
  have hx1 : ∀ q, k.2.2.1 1000000003 q = xs q := fun q => by rw [(f1.2 1000000003 (by decide) (by rw [ht])).2]; exact hx q
  have h59 : k.1 59 = (11, 0) := (f1.1.2 59 (by have := hi.1.2.2.1; omega)).trans (WF.t hi.1 59 rfl)
  refine t_laB8 (h := k) (v := v) ht1 hx1 hL hi5 (Nat.zero_le _) ?_
  refine Wp.invV (d2 := 15) (as := [.ref 59, .long ((((xs ((i + 1))).toInt64) <<< ((32 : Int32).toInt64 &&& 63)) ||| (((xs ((i + 2))).toInt64) &&& (4294967295 : Int64))), .int (xs ((i + 3)))]) (r := [.int v]) (t := (11, 0)) rfl rfl rfl rfl h59 rfl rfl ⟨rfl, rfl⟩ (by omega) (hm.far.post ?_)
  rintro _ ⟨⟨k2, rfl, i2, s1, s2, fa⟩, f2⟩
  have ht2 : k2.1 1000000003 = (30, L) := (f2.2 1000000003 (by decide) (by rw [ht1])).1.trans ht1
  exact t_laC8 (h := k2) (v := v) (Nat.zero_le _) (hQ k2 i2 ht2 (fun q => by rw [(f2.2 1000000003 (by decide) (by rw [ht1])).2]; exact hx1 q) s1 s2 fa)
set_option maxHeartbeats 4000000 in
theorem t_laA9 {d : Nat} {Q : KO → Prop} {h : KH} {L i : Nat} {xs : Nat → Int32} (ht : h.1 1000000003 = (30, L)) (hx : ∀ q, h.2.2.1 1000000003 q = xs q) (hL : L ≤ 2560) (hi5 : i + 5 ≤ L) (hd : 0 ≤ d) (hQ : Wp d 297 568 ([some (.ref 1000000003), some (.ref 0), some (.ref 59), some (.int (Int32.ofNat i))]) [.ref 0] h Q) : Wp d 297 567 [some (.ref 1000000003), some (.ref 0), some (.ref 59), some (.int (Int32.ofNat i))] [] h Q := by
  refine Wp.seg 1 (pc1 := 568) (ls1 := [some (.ref 1000000003), some (.ref 0), some (.ref 59), some (.int (Int32.ofNat i))]) (st1 := [.ref 0]) rfl ?_
  exact hQ
set_option maxHeartbeats 4000000 in
theorem t_laB9 {d : Nat} {Q : KO → Prop} {h : KH} {L i : Nat} {xs : Nat → Int32} (ht : h.1 1000000003 = (30, L)) (hx : ∀ q, h.2.2.1 1000000003 q = xs q) (hL : L ≤ 2560) (hi5 : i + 5 ≤ L) {v : Int32} (hd : 0 ≤ d) (hQ : Wp d 297 572 ([some (.ref 1000000003), some (.ref 0), some (.ref 59), some (.int (Int32.ofNat i))]) [.ref 59, .int (v)] h Q) : Wp d 297 571 [some (.ref 1000000003), some (.ref 0), some (.ref 59), some (.int (Int32.ofNat i))] [.int (v)] h Q := by
  refine Wp.seg 1 (pc1 := 572) (ls1 := [some (.ref 1000000003), some (.ref 0), some (.ref 59), some (.int (Int32.ofNat i))]) (st1 := [.ref 59, .int (v)]) rfl ?_
  exact hQ
set_option maxHeartbeats 4000000 in
theorem t_laC9 {d : Nat} {Q : KO → Prop} {h : KH} {i : Nat} {v : Int32} (hd : 0 ≤ d) (hQ : Wp d 297 18 ([some (.ref 1000000003), some (.ref 0), some (.ref 59), some (.int ((Int32.ofNat i) + 5))]) [] h Q) : Wp d 297 575 [some (.ref 1000000003), some (.ref 0), some (.ref 59), some (.int (Int32.ofNat i))] [.int (v), .int (v)] h Q := by
  refine Wp.if2 rfl (fun c1 => ?_) (fun c1 => absurd (rfl) c1)
  refine Wp.seg 2 (pc1 := 18) (ls1 := [some (.ref 1000000003), some (.ref 0), some (.ref 59), some (.int ((Int32.ofNat i) + 5))]) (st1 := []) rfl ?_
  exact hQ
theorem law_9 {d : Nat} {Q : KO → Prop} {h : KH} {L i : Nat} {xs : Nat → Int32} (ht : h.1 1000000003 = (30, L)) (hx : ∀ q, h.2.2.1 1000000003 q = xs q) (hL : L ≤ 2560) (hi5 : i + 5 ≤ L) (hi : Inv h) (hd : 31 ≤ d) (hj : JIr h 110 [.ref 0] 215 [.ref 59]) (hQ : ∀ k, Inv k → k.1 1000000003 = (30, L) → (∀ q, k.2.2.1 1000000003 q = xs q) → k.2.2.2.2.1 ≤ h.2.2.2.2.1 + 5 → k.2.2.2.2.2 ≤ h.2.2.2.2.2 + 240 → far h k → Wp d 297 18 [some (.ref 1000000003), some (.ref 0), some (.ref 59), some (.int (Int32.ofNat i + 5))] [] k Q) : Wp d 297 567 [some (.ref 1000000003), some (.ref 0), some (.ref 59), some (.int (Int32.ofNat i))] [] h Q := by
  obtain ⟨v, hc⟩ := hj
  refine t_laA9 ht hx hL hi5 (Nat.zero_le _) ?_
  refine Wp.invV (d2 := 30) (as := [.ref 0]) (r := []) (t := (10, 0)) rfl rfl rfl rfl (WF.t hi.1 0 rfl) rfl rfl ⟨rfl, rfl⟩ (by omega) (hc.far.post ?_)
  rintro _ ⟨⟨k, rfl, hm⟩, f1⟩
  have ht1 : k.1 1000000003 = (30, L) := (f1.2 1000000003 (by decide) (by rw [ht])).1.trans ht
  have hx1 : ∀ q, k.2.2.1 1000000003 q = xs q := fun q => by rw [(f1.2 1000000003 (by decide) (by rw [ht])).2]; exact hx q
  have h59 : k.1 59 = (11, 0) := (f1.1.2 59 (by have := hi.1.2.2.1; omega)).trans (WF.t hi.1 59 rfl)
  refine t_laB9 (h := k) (v := v) ht1 hx1 hL hi5 (Nat.zero_le _) ?_
  refine Wp.invV (d2 := 30) (as := [.ref 59]) (r := [.int v]) (t := (11, 0)) rfl rfl rfl rfl h59 rfl rfl ⟨rfl, rfl⟩ (by omega) (hm.far.post ?_)
  rintro _ ⟨⟨k2, rfl, i2, s1, s2, fa⟩, f2⟩
  have ht2 : k2.1 1000000003 = (30, L) := (f2.2 1000000003 (by decide) (by rw [ht1])).1.trans ht1
  exact t_laC9 (h := k2) (v := v) (Nat.zero_le _) (hQ k2 i2 ht2 (fun q => by rw [(f2.2 1000000003 (by decide) (by rw [ht1])).2]; exact hx1 q) s1 s2 fa)
set_option maxHeartbeats 4000000 in
theorem t_laA10 {d : Nat} {Q : KO → Prop} {h : KH} {L i : Nat} {xs : Nat → Int32} (ht : h.1 1000000003 = (30, L)) (hx : ∀ q, h.2.2.1 1000000003 q = xs q) (hL : L ≤ 2560) (hi5 : i + 5 ≤ L) (hd : 0 ≤ d) (hQ : Wp d 297 581 ([some (.ref 1000000003), some (.ref 0), some (.ref 59), some (.int (Int32.ofNat i))]) [.ref 0] h Q) : Wp d 297 580 [some (.ref 1000000003), some (.ref 0), some (.ref 59), some (.int (Int32.ofNat i))] [] h Q := by
  refine Wp.seg 1 (pc1 := 581) (ls1 := [some (.ref 1000000003), some (.ref 0), some (.ref 59), some (.int (Int32.ofNat i))]) (st1 := [.ref 0]) rfl ?_
  exact hQ
set_option maxHeartbeats 4000000 in
theorem t_laB10 {d : Nat} {Q : KO → Prop} {h : KH} {L i : Nat} {xs : Nat → Int32} (ht : h.1 1000000003 = (30, L)) (hx : ∀ q, h.2.2.1 1000000003 q = xs q) (hL : L ≤ 2560) (hi5 : i + 5 ≤ L) {v : Int32} (hd : 0 ≤ d) (hQ : Wp d 297 585 ([some (.ref 1000000003), some (.ref 0), some (.ref 59), some (.int (Int32.ofNat i))]) [.ref 59, .int (v)] h Q) : Wp d 297 584 [some (.ref 1000000003), some (.ref 0), some (.ref 59), some (.int (Int32.ofNat i))] [.int (v)] h Q := by
  refine Wp.seg 1 (pc1 := 585) (ls1 := [some (.ref 1000000003), some (.ref 0), some (.ref 59), some (.int (Int32.ofNat i))]) (st1 := [.ref 59, .int (v)]) rfl ?_
  exact hQ
set_option maxHeartbeats 4000000 in
theorem t_laC10 {d : Nat} {Q : KO → Prop} {h : KH} {i : Nat} {v : Int32} (hd : 0 ≤ d) (hQ : Wp d 297 18 ([some (.ref 1000000003), some (.ref 0), some (.ref 59), some (.int ((Int32.ofNat i) + 5))]) [] h Q) : Wp d 297 588 [some (.ref 1000000003), some (.ref 0), some (.ref 59), some (.int (Int32.ofNat i))] [.int (v), .int (v)] h Q := by
  refine Wp.if2 rfl (fun c1 => ?_) (fun c1 => absurd (rfl) c1)
  refine Wp.seg 2 (pc1 := 18) (ls1 := [some (.ref 1000000003), some (.ref 0), some (.ref 59), some (.int ((Int32.ofNat i) + 5))]) (st1 := []) rfl ?_
  exact hQ
theorem law_10 {d : Nat} {Q : KO → Prop} {h : KH} {L i : Nat} {xs : Nat → Int32} (ht : h.1 1000000003 = (30, L)) (hx : ∀ q, h.2.2.1 1000000003 q = xs q) (hL : L ≤ 2560) (hi5 : i + 5 ≤ L) (hi : Inv h) (hd : 31 ≤ d) (hj : JI h 111 [.ref 0] 224 [.ref 59]) (hQ : ∀ k, Inv k → k.1 1000000003 = (30, L) → (∀ q, k.2.2.1 1000000003 q = xs q) → k.2.2.2.2.1 ≤ h.2.2.2.2.1 + 5 → k.2.2.2.2.2 ≤ h.2.2.2.2.2 + 240 → far h k → Wp d 297 18 [some (.ref 1000000003), some (.ref 0), some (.ref 59), some (.int (Int32.ofNat i + 5))] [] k Q) : Wp d 297 580 [some (.ref 1000000003), some (.ref 0), some (.ref 59), some (.int (Int32.ofNat i))] [] h Q := by
  obtain ⟨v, hc⟩ := hj
  refine t_laA10 ht hx hL hi5 (Nat.zero_le _) ?_
  refine Wp.invV (d2 := 15) (as := [.ref 0]) (r := []) (t := (10, 0)) rfl rfl rfl rfl (WF.t hi.1 0 rfl) rfl rfl ⟨rfl, rfl⟩ (by omega) (hc.far.post ?_)
  rintro _ ⟨⟨k, rfl, hm⟩, f1⟩
  have ht1 : k.1 1000000003 = (30, L) := (f1.2 1000000003 (by decide) (by rw [ht])).1.trans ht
  have hx1 : ∀ q, k.2.2.1 1000000003 q = xs q := fun q => by rw [(f1.2 1000000003 (by decide) (by rw [ht])).2]; exact hx q
  have h59 : k.1 59 = (11, 0) := (f1.1.2 59 (by have := hi.1.2.2.1; omega)).trans (WF.t hi.1 59 rfl)
  refine t_laB10 (h := k) (v := v) ht1 hx1 hL hi5 (Nat.zero_le _) ?_
  refine Wp.invV (d2 := 15) (as := [.ref 59]) (r := [.int v]) (t := (11, 0)) rfl rfl rfl rfl h59 rfl rfl ⟨rfl, rfl⟩ (by omega) (hm.far.post ?_)
  rintro _ ⟨⟨k2, rfl, i2, s1, s2, fa⟩, f2⟩
  have ht2 : k2.1 1000000003 = (30, L) := (f2.2 1000000003 (by decide) (by rw [ht1])).1.trans ht1
  exact t_laC10 (h := k2) (v := v) (Nat.zero_le _) (hQ k2 i2 ht2 (fun q => by rw [(f2.2 1000000003 (by decide) (by rw [ht1])).2]; exact hx1 q) s1 s2 fa)
set_option maxHeartbeats 4000000 in
theorem t_laA11 {d : Nat} {Q : KO → Prop} {h : KH} {L i : Nat} {xs : Nat → Int32} (ht : h.1 1000000003 = (30, L)) (hx : ∀ q, h.2.2.1 1000000003 q = xs q) (hL : L ≤ 2560) (hi5 : i + 5 ≤ L) (hd : 0 ≤ d) (hQ : Wp d 297 599 ([some (.ref 1000000003), some (.ref 0), some (.ref 59), some (.int (Int32.ofNat i))]) [.int (xs ((i + 1))), .ref 0] h Q) : Wp d 297 593 [some (.ref 1000000003), some (.ref 0), some (.ref 59), some (.int (Int32.ofNat i))] [] h Q := by
  refine Wp.seg 5 (pc1 := 598) (ls1 := [some (.ref 1000000003), some (.ref 0), some (.ref 59), some (.int (Int32.ofNat i))]) (st1 := [.int ((Int32.ofNat i) + (1 : Int32)), .ref 1000000003, .ref 0]) rfl ?_
  refine Wp.iald (j := (i + 1)) (k := 30) (n := L) rfl ht rfl ((Int32.ofNat_add i 1).symm) (by omega) (by omega) ?_
  rw [show h.2.2.1 1000000003 ((i + 1)) = xs ((i + 1)) from hx ((i + 1))]
  exact hQ
set_option maxHeartbeats 4000000 in
theorem t_laB11 {d : Nat} {Q : KO → Prop} {h : KH} {L i : Nat} {xs : Nat → Int32} (ht : h.1 1000000003 = (30, L)) (hx : ∀ q, h.2.2.1 1000000003 q = xs q) (hL : L ≤ 2560) (hi5 : i + 5 ≤ L) {v : Int32} (hd : 0 ≤ d) (hQ : Wp d 297 608 ([some (.ref 1000000003), some (.ref 0), some (.ref 59), some (.int (Int32.ofNat i))]) [.int (xs ((i + 1))), .ref 59, .int (v)] h Q) : Wp d 297 602 [some (.ref 1000000003), some (.ref 0), some (.ref 59), some (.int (Int32.ofNat i))] [.int (v)] h Q := by
  refine Wp.seg 5 (pc1 := 607) (ls1 := [some (.ref 1000000003), some (.ref 0), some (.ref 59), some (.int (Int32.ofNat i))]) (st1 := [.int ((Int32.ofNat i) + (1 : Int32)), .ref 1000000003, .ref 59, .int (v)]) rfl ?_
  refine Wp.iald (j := (i + 1)) (k := 30) (n := L) rfl ht rfl ((Int32.ofNat_add i 1).symm) (by omega) (by omega) ?_
  rw [show h.2.2.1 1000000003 ((i + 1)) = xs ((i + 1)) from hx ((i + 1))]
  exact hQ
set_option maxHeartbeats 4000000 in
theorem t_laC11 {d : Nat} {Q : KO → Prop} {h : KH} {i : Nat} {v : Int32} (hd : 0 ≤ d) (hQ : Wp d 297 18 ([some (.ref 1000000003), some (.ref 0), some (.ref 59), some (.int ((Int32.ofNat i) + 5))]) [] h Q) : Wp d 297 611 [some (.ref 1000000003), some (.ref 0), some (.ref 59), some (.int (Int32.ofNat i))] [.int (v), .int (v)] h Q := by
  refine Wp.if2 rfl (fun c1 => ?_) (fun c1 => absurd (rfl) c1)
  refine Wp.seg 2 (pc1 := 18) (ls1 := [some (.ref 1000000003), some (.ref 0), some (.ref 59), some (.int ((Int32.ofNat i) + 5))]) (st1 := []) rfl ?_
  exact hQ
theorem law_11 {d : Nat} {Q : KO → Prop} {h : KH} {L i : Nat} {xs : Nat → Int32} (ht : h.1 1000000003 = (30, L)) (hx : ∀ q, h.2.2.1 1000000003 q = xs q) (hL : L ≤ 2560) (hi5 : i + 5 ≤ L) (hi : Inv h) (hd : 31 ≤ d) (hj : JI h 112 [.ref 0, .int (xs ((i + 1)))] 226 [.ref 59, .int (xs ((i + 1)))]) (hQ : ∀ k, Inv k → k.1 1000000003 = (30, L) → (∀ q, k.2.2.1 1000000003 q = xs q) → k.2.2.2.2.1 ≤ h.2.2.2.2.1 + 5 → k.2.2.2.2.2 ≤ h.2.2.2.2.2 + 240 → far h k → Wp d 297 18 [some (.ref 1000000003), some (.ref 0), some (.ref 59), some (.int (Int32.ofNat i + 5))] [] k Q) : Wp d 297 593 [some (.ref 1000000003), some (.ref 0), some (.ref 59), some (.int (Int32.ofNat i))] [] h Q := by
  obtain ⟨v, hc⟩ := hj
  refine t_laA11 ht hx hL hi5 (Nat.zero_le _) ?_
  refine Wp.invV (d2 := 15) (as := [.ref 0, .int (xs ((i + 1)))]) (r := []) (t := (10, 0)) rfl rfl rfl rfl (WF.t hi.1 0 rfl) rfl rfl ⟨rfl, rfl⟩ (by omega) (hc.far.post ?_)
  rintro _ ⟨⟨k, rfl, hm⟩, f1⟩
  have ht1 : k.1 1000000003 = (30, L) := (f1.2 1000000003 (by decide) (by rw [ht])).1.trans ht
  have hx1 : ∀ q, k.2.2.1 1000000003 q = xs q := fun q => by rw [(f1.2 1000000003 (by decide) (by rw [ht])).2]; exact hx q
  have h59 : k.1 59 = (11, 0) := (f1.1.2 59 (by have := hi.1.2.2.1; omega)).trans (WF.t hi.1 59 rfl)
  refine t_laB11 (h := k) (v := v) ht1 hx1 hL hi5 (Nat.zero_le _) ?_
  refine Wp.invV (d2 := 15) (as := [.ref 59, .int (xs ((i + 1)))]) (r := [.int v]) (t := (11, 0)) rfl rfl rfl rfl h59 rfl rfl ⟨rfl, rfl⟩ (by omega) (hm.far.post ?_)
  rintro _ ⟨⟨k2, rfl, i2, s1, s2, fa⟩, f2⟩
  have ht2 : k2.1 1000000003 = (30, L) := (f2.2 1000000003 (by decide) (by rw [ht1])).1.trans ht1
  exact t_laC11 (h := k2) (v := v) (Nat.zero_le _) (hQ k2 i2 ht2 (fun q => by rw [(f2.2 1000000003 (by decide) (by rw [ht1])).2]; exact hx1 q) s1 s2 fa)
set_option maxHeartbeats 4000000 in
theorem t_laA12 {d : Nat} {Q : KO → Prop} {h : KH} {L i : Nat} {xs : Nat → Int32} (ht : h.1 1000000003 = (30, L)) (hx : ∀ q, h.2.2.1 1000000003 q = xs q) (hL : L ≤ 2560) (hi5 : i + 5 ≤ L) (hd : 0 ≤ d) (hQ : Wp d 297 622 ([some (.ref 1000000003), some (.ref 0), some (.ref 59), some (.int (Int32.ofNat i))]) [.int (xs ((i + 1))), .ref 0] h Q) : Wp d 297 616 [some (.ref 1000000003), some (.ref 0), some (.ref 59), some (.int (Int32.ofNat i))] [] h Q := by
  refine Wp.seg 5 (pc1 := 621) (ls1 := [some (.ref 1000000003), some (.ref 0), some (.ref 59), some (.int (Int32.ofNat i))]) (st1 := [.int ((Int32.ofNat i) + (1 : Int32)), .ref 1000000003, .ref 0]) rfl ?_
  refine Wp.iald (j := (i + 1)) (k := 30) (n := L) rfl ht rfl ((Int32.ofNat_add i 1).symm) (by omega) (by omega) ?_
  rw [show h.2.2.1 1000000003 ((i + 1)) = xs ((i + 1)) from hx ((i + 1))]
  exact hQ
set_option maxHeartbeats 4000000 in
theorem t_laB12 {d : Nat} {Q : KO → Prop} {h : KH} {L i : Nat} {xs : Nat → Int32} (ht : h.1 1000000003 = (30, L)) (hx : ∀ q, h.2.2.1 1000000003 q = xs q) (hL : L ≤ 2560) (hi5 : i + 5 ≤ L) {v : Int32} (hd : 0 ≤ d) (hQ : Wp d 297 631 ([some (.ref 1000000003), some (.ref 0), some (.ref 59), some (.int (Int32.ofNat i))]) [.int (xs ((i + 1))), .ref 59, .int (v)] h Q) : Wp d 297 625 [some (.ref 1000000003), some (.ref 0), some (.ref 59), some (.int (Int32.ofNat i))] [.int (v)] h Q := by
  refine Wp.seg 5 (pc1 := 630) (ls1 := [some (.ref 1000000003), some (.ref 0), some (.ref 59), some (.int (Int32.ofNat i))]) (st1 := [.int ((Int32.ofNat i) + (1 : Int32)), .ref 1000000003, .ref 59, .int (v)]) rfl ?_
  refine Wp.iald (j := (i + 1)) (k := 30) (n := L) rfl ht rfl ((Int32.ofNat_add i 1).symm) (by omega) (by omega) ?_
  rw [show h.2.2.1 1000000003 ((i + 1)) = xs ((i + 1)) from hx ((i + 1))]
  exact hQ
set_option maxHeartbeats 4000000 in
theorem t_laC12 {d : Nat} {Q : KO → Prop} {h : KH} {i : Nat} {v : Int32} (hd : 0 ≤ d) (hQ : Wp d 297 18 ([some (.ref 1000000003), some (.ref 0), some (.ref 59), some (.int ((Int32.ofNat i) + 5))]) [] h Q) : Wp d 297 634 [some (.ref 1000000003), some (.ref 0), some (.ref 59), some (.int (Int32.ofNat i))] [.int (v), .int (v)] h Q := by
  refine Wp.if2 rfl (fun c1 => ?_) (fun c1 => absurd (rfl) c1)
  refine Wp.seg 2 (pc1 := 18) (ls1 := [some (.ref 1000000003), some (.ref 0), some (.ref 59), some (.int ((Int32.ofNat i) + 5))]) (st1 := []) rfl ?_
  exact hQ
theorem law_12 {d : Nat} {Q : KO → Prop} {h : KH} {L i : Nat} {xs : Nat → Int32} (ht : h.1 1000000003 = (30, L)) (hx : ∀ q, h.2.2.1 1000000003 q = xs q) (hL : L ≤ 2560) (hi5 : i + 5 ≤ L) (hi : Inv h) (hd : 31 ≤ d) (hj : JI h 113 [.ref 0, .int (xs ((i + 1)))] 227 [.ref 59, .int (xs ((i + 1)))]) (hQ : ∀ k, Inv k → k.1 1000000003 = (30, L) → (∀ q, k.2.2.1 1000000003 q = xs q) → k.2.2.2.2.1 ≤ h.2.2.2.2.1 + 5 → k.2.2.2.2.2 ≤ h.2.2.2.2.2 + 240 → far h k → Wp d 297 18 [some (.ref 1000000003), some (.ref 0), some (.ref 59), some (.int (Int32.ofNat i + 5))] [] k Q) : Wp d 297 616 [some (.ref 1000000003), some (.ref 0), some (.ref 59), some (.int (Int32.ofNat i))] [] h Q := by
  obtain ⟨v, hc⟩ := hj
  refine t_laA12 ht hx hL hi5 (Nat.zero_le _) ?_
  refine Wp.invV (d2 := 15) (as := [.ref 0, .int (xs ((i + 1)))]) (r := []) (t := (10, 0)) rfl rfl rfl rfl (WF.t hi.1 0 rfl) rfl rfl ⟨rfl, rfl⟩ (by omega) (hc.far.post ?_)
  rintro _ ⟨⟨k, rfl, hm⟩, f1⟩
  have ht1 : k.1 1000000003 = (30, L) := (f1.2 1000000003 (by decide) (by rw [ht])).1.trans ht
  have hx1 : ∀ q, k.2.2.1 1000000003 q = xs q := fun q => by rw [(f1.2 1000000003 (by decide) (by rw [ht])).2]; exact hx q
  have h59 : k.1 59 = (11, 0) := (f1.1.2 59 (by have := hi.1.2.2.1; omega)).trans (WF.t hi.1 59 rfl)
  refine t_laB12 (h := k) (v := v) ht1 hx1 hL hi5 (Nat.zero_le _) ?_
  refine Wp.invV (d2 := 15) (as := [.ref 59, .int (xs ((i + 1)))]) (r := [.int v]) (t := (11, 0)) rfl rfl rfl rfl h59 rfl rfl ⟨rfl, rfl⟩ (by omega) (hm.far.post ?_)
  rintro _ ⟨⟨k2, rfl, i2, s1, s2, fa⟩, f2⟩
  have ht2 : k2.1 1000000003 = (30, L) := (f2.2 1000000003 (by decide) (by rw [ht1])).1.trans ht1
  exact t_laC12 (h := k2) (v := v) (Nat.zero_le _) (hQ k2 i2 ht2 (fun q => by rw [(f2.2 1000000003 (by decide) (by rw [ht1])).2]; exact hx1 q) s1 s2 fa)
set_option maxHeartbeats 4000000 in
theorem t_laA13 {d : Nat} {Q : KO → Prop} {h : KH} {L i : Nat} {xs : Nat → Int32} (ht : h.1 1000000003 = (30, L)) (hx : ∀ q, h.2.2.1 1000000003 q = xs q) (hL : L ≤ 2560) (hi5 : i + 5 ≤ L) (hd : 0 ≤ d) (hQ : Wp d 297 645 ([some (.ref 1000000003), some (.ref 0), some (.ref 59), some (.int (Int32.ofNat i))]) [.int (xs ((i + 1))), .ref 0] h Q) : Wp d 297 639 [some (.ref 1000000003), some (.ref 0), some (.ref 59), some (.int (Int32.ofNat i))] [] h Q := by
  refine Wp.seg 5 (pc1 := 644) (ls1 := [some (.ref 1000000003), some (.ref 0), some (.ref 59), some (.int (Int32.ofNat i))]) (st1 := [.int ((Int32.ofNat i) + (1 : Int32)), .ref 1000000003, .ref 0]) rfl ?_
  refine Wp.iald (j := (i + 1)) (k := 30) (n := L) rfl ht rfl ((Int32.ofNat_add i 1).symm) (by omega) (by omega) ?_
  rw [show h.2.2.1 1000000003 ((i + 1)) = xs ((i + 1)) from hx ((i + 1))]
  exact hQ
set_option maxHeartbeats 4000000 in
theorem t_laB13 {d : Nat} {Q : KO → Prop} {h : KH} {L i : Nat} {xs : Nat → Int32} (ht : h.1 1000000003 = (30, L)) (hx : ∀ q, h.2.2.1 1000000003 q = xs q) (hL : L ≤ 2560) (hi5 : i + 5 ≤ L) {v : Int32} (hd : 0 ≤ d) (hQ : Wp d 297 654 ([some (.ref 1000000003), some (.ref 0), some (.ref 59), some (.int (Int32.ofNat i))]) [.int (xs ((i + 1))), .ref 59, .int (v)] h Q) : Wp d 297 648 [some (.ref 1000000003), some (.ref 0), some (.ref 59), some (.int (Int32.ofNat i))] [.int (v)] h Q := by
  refine Wp.seg 5 (pc1 := 653) (ls1 := [some (.ref 1000000003), some (.ref 0), some (.ref 59), some (.int (Int32.ofNat i))]) (st1 := [.int ((Int32.ofNat i) + (1 : Int32)), .ref 1000000003, .ref 59, .int (v)]) rfl ?_
  refine Wp.iald (j := (i + 1)) (k := 30) (n := L) rfl ht rfl ((Int32.ofNat_add i 1).symm) (by omega) (by omega) ?_
  rw [show h.2.2.1 1000000003 ((i + 1)) = xs ((i + 1)) from hx ((i + 1))]
  exact hQ
set_option maxHeartbeats 4000000 in
theorem t_laC13 {d : Nat} {Q : KO → Prop} {h : KH} {i : Nat} {v : Int32} (hd : 0 ≤ d) (hQ : Wp d 297 18 ([some (.ref 1000000003), some (.ref 0), some (.ref 59), some (.int ((Int32.ofNat i) + 5))]) [] h Q) : Wp d 297 657 [some (.ref 1000000003), some (.ref 0), some (.ref 59), some (.int (Int32.ofNat i))] [.int (v), .int (v)] h Q := by
  refine Wp.if2 rfl (fun c1 => ?_) (fun c1 => absurd (rfl) c1)
  refine Wp.seg 2 (pc1 := 18) (ls1 := [some (.ref 1000000003), some (.ref 0), some (.ref 59), some (.int ((Int32.ofNat i) + 5))]) (st1 := []) rfl ?_
  exact hQ
theorem law_13 {d : Nat} {Q : KO → Prop} {h : KH} {L i : Nat} {xs : Nat → Int32} (ht : h.1 1000000003 = (30, L)) (hx : ∀ q, h.2.2.1 1000000003 q = xs q) (hL : L ≤ 2560) (hi5 : i + 5 ≤ L) (hi : Inv h) (hd : 31 ≤ d) (hj : JI h 114 [.ref 0, .int (xs ((i + 1)))] 229 [.ref 59, .int (xs ((i + 1)))]) (hQ : ∀ k, Inv k → k.1 1000000003 = (30, L) → (∀ q, k.2.2.1 1000000003 q = xs q) → k.2.2.2.2.1 ≤ h.2.2.2.2.1 + 5 → k.2.2.2.2.2 ≤ h.2.2.2.2.2 + 240 → far h k → Wp d 297 18 [some (.ref 1000000003), some (.ref 0), some (.ref 59), some (.int (Int32.ofNat i + 5))] [] k Q) : Wp d 297 639 [some (.ref 1000000003), some (.ref 0), some (.ref 59), some (.int (Int32.ofNat i))] [] h Q := by
  obtain ⟨v, hc⟩ := hj
  refine t_laA13 ht hx hL hi5 (Nat.zero_le _) ?_
  refine Wp.invV (d2 := 15) (as := [.ref 0, .int (xs ((i + 1)))]) (r := []) (t := (10, 0)) rfl rfl rfl rfl (WF.t hi.1 0 rfl) rfl rfl ⟨rfl, rfl⟩ (by omega) (hc.far.post ?_)
  rintro _ ⟨⟨k, rfl, hm⟩, f1⟩
  have ht1 : k.1 1000000003 = (30, L) := (f1.2 1000000003 (by decide) (by rw [ht])).1.trans ht
  have hx1 : ∀ q, k.2.2.1 1000000003 q = xs q := fun q => by rw [(f1.2 1000000003 (by decide) (by rw [ht])).2]; exact hx q
  have h59 : k.1 59 = (11, 0) := (f1.1.2 59 (by have := hi.1.2.2.1; omega)).trans (WF.t hi.1 59 rfl)
  refine t_laB13 (h := k) (v := v) ht1 hx1 hL hi5 (Nat.zero_le _) ?_
  refine Wp.invV (d2 := 15) (as := [.ref 59, .int (xs ((i + 1)))]) (r := [.int v]) (t := (11, 0)) rfl rfl rfl rfl h59 rfl rfl ⟨rfl, rfl⟩ (by omega) (hm.far.post ?_)
  rintro _ ⟨⟨k2, rfl, i2, s1, s2, fa⟩, f2⟩
  have ht2 : k2.1 1000000003 = (30, L) := (f2.2 1000000003 (by decide) (by rw [ht1])).1.trans ht1
  exact t_laC13 (h := k2) (v := v) (Nat.zero_le _) (hQ k2 i2 ht2 (fun q => by rw [(f2.2 1000000003 (by decide) (by rw [ht1])).2]; exact hx1 q) s1 s2 fa)
set_option maxHeartbeats 4000000 in
theorem t_laA14 {d : Nat} {Q : KO → Prop} {h : KH} {L i : Nat} {xs : Nat → Int32} (ht : h.1 1000000003 = (30, L)) (hx : ∀ q, h.2.2.1 1000000003 q = xs q) (hL : L ≤ 2560) (hi5 : i + 5 ≤ L) (hd : 0 ≤ d) (hQ : Wp d 297 668 ([some (.ref 1000000003), some (.ref 0), some (.ref 59), some (.int (Int32.ofNat i))]) [.int (xs ((i + 1))), .ref 0] h Q) : Wp d 297 662 [some (.ref 1000000003), some (.ref 0), some (.ref 59), some (.int (Int32.ofNat i))] [] h Q := by
  refine Wp.seg 5 (pc1 := 667) (ls1 := [some (.ref 1000000003), some (.ref 0), some (.ref 59), some (.int (Int32.ofNat i))]) (st1 := [.int ((Int32.ofNat i) + (1 : Int32)), .ref 1000000003, .ref 0]) rfl ?_
  refine Wp.iald (j := (i + 1)) (k := 30) (n := L) rfl ht rfl ((Int32.ofNat_add i 1).symm) (by omega) (by omega) ?_
  rw [show h.2.2.1 1000000003 ((i + 1)) = xs ((i + 1)) from hx ((i + 1))]
  exact hQ
set_option maxHeartbeats 4000000 in
theorem t_laB14 {d : Nat} {Q : KO → Prop} {h : KH} {L i : Nat} {xs : Nat → Int32} (ht : h.1 1000000003 = (30, L)) (hx : ∀ q, h.2.2.1 1000000003 q = xs q) (hL : L ≤ 2560) (hi5 : i + 5 ≤ L) {v : Int32} (hd : 0 ≤ d) (hQ : Wp d 297 677 ([some (.ref 1000000003), some (.ref 0), some (.ref 59), some (.int (Int32.ofNat i))]) [.int (xs ((i + 1))), .ref 59, .int (v)] h Q) : Wp d 297 671 [some (.ref 1000000003), some (.ref 0), some (.ref 59), some (.int (Int32.ofNat i))] [.int (v)] h Q := by
  refine Wp.seg 5 (pc1 := 676) (ls1 := [some (.ref 1000000003), some (.ref 0), some (.ref 59), some (.int (Int32.ofNat i))]) (st1 := [.int ((Int32.ofNat i) + (1 : Int32)), .ref 1000000003, .ref 59, .int (v)]) rfl ?_
  refine Wp.iald (j := (i + 1)) (k := 30) (n := L) rfl ht rfl ((Int32.ofNat_add i 1).symm) (by omega) (by omega) ?_
  rw [show h.2.2.1 1000000003 ((i + 1)) = xs ((i + 1)) from hx ((i + 1))]
  exact hQ
set_option maxHeartbeats 4000000 in
theorem t_laC14 {d : Nat} {Q : KO → Prop} {h : KH} {i : Nat} {v : Int32} (hd : 0 ≤ d) (hQ : Wp d 297 18 ([some (.ref 1000000003), some (.ref 0), some (.ref 59), some (.int ((Int32.ofNat i) + 5))]) [] h Q) : Wp d 297 680 [some (.ref 1000000003), some (.ref 0), some (.ref 59), some (.int (Int32.ofNat i))] [.int (v), .int (v)] h Q := by
  refine Wp.if2 rfl (fun c1 => ?_) (fun c1 => absurd (rfl) c1)
  refine Wp.seg 2 (pc1 := 18) (ls1 := [some (.ref 1000000003), some (.ref 0), some (.ref 59), some (.int ((Int32.ofNat i) + 5))]) (st1 := []) rfl ?_
  exact hQ
theorem law_14 {d : Nat} {Q : KO → Prop} {h : KH} {L i : Nat} {xs : Nat → Int32} (ht : h.1 1000000003 = (30, L)) (hx : ∀ q, h.2.2.1 1000000003 q = xs q) (hL : L ≤ 2560) (hi5 : i + 5 ≤ L) (hi : Inv h) (hd : 31 ≤ d) (hj : JI h 115 [.ref 0, .int (xs ((i + 1)))] 230 [.ref 59, .int (xs ((i + 1)))]) (hQ : ∀ k, Inv k → k.1 1000000003 = (30, L) → (∀ q, k.2.2.1 1000000003 q = xs q) → k.2.2.2.2.1 ≤ h.2.2.2.2.1 + 5 → k.2.2.2.2.2 ≤ h.2.2.2.2.2 + 240 → far h k → Wp d 297 18 [some (.ref 1000000003), some (.ref 0), some (.ref 59), some (.int (Int32.ofNat i + 5))] [] k Q) : Wp d 297 662 [some (.ref 1000000003), some (.ref 0), some (.ref 59), some (.int (Int32.ofNat i))] [] h Q := by
  obtain ⟨v, hc⟩ := hj
  refine t_laA14 ht hx hL hi5 (Nat.zero_le _) ?_
  refine Wp.invV (d2 := 15) (as := [.ref 0, .int (xs ((i + 1)))]) (r := []) (t := (10, 0)) rfl rfl rfl rfl (WF.t hi.1 0 rfl) rfl rfl ⟨rfl, rfl⟩ (by omega) (hc.far.post ?_)
  rintro _ ⟨⟨k, rfl, hm⟩, f1⟩
  have ht1 : k.1 1000000003 = (30, L) := (f1.2 1000000003 (by decide) (by rw [ht])).1.trans ht
  have hx1 : ∀ q, k.2.2.1 1000000003 q = xs q := fun q => by rw [(f1.2 1000000003 (by decide) (by rw [ht])).2]; exact hx q
  have h59 : k.1 59 = (11, 0) := (f1.1.2 59 (by have := hi.1.2.2.1; omega)).trans (WF.t hi.1 59 rfl)
  refine t_laB14 (h := k) (v := v) ht1 hx1 hL hi5 (Nat.zero_le _) ?_
  refine Wp.invV (d2 := 15) (as := [.ref 59, .int (xs ((i + 1)))]) (r := [.int v]) (t := (11, 0)) rfl rfl rfl rfl h59 rfl rfl ⟨rfl, rfl⟩ (by omega) (hm.far.post ?_)
  rintro _ ⟨⟨k2, rfl, i2, s1, s2, fa⟩, f2⟩
  have ht2 : k2.1 1000000003 = (30, L) := (f2.2 1000000003 (by decide) (by rw [ht1])).1.trans ht1
  exact t_laC14 (h := k2) (v := v) (Nat.zero_le _) (hQ k2 i2 ht2 (fun q => by rw [(f2.2 1000000003 (by decide) (by rw [ht1])).2]; exact hx1 q) s1 s2 fa)
set_option maxHeartbeats 4000000 in
theorem t_laA15 {d : Nat} {Q : KO → Prop} {h : KH} {L i : Nat} {xs : Nat → Int32} (ht : h.1 1000000003 = (30, L)) (hx : ∀ q, h.2.2.1 1000000003 q = xs q) (hL : L ≤ 2560) (hi5 : i + 5 ≤ L) (hd : 0 ≤ d) (hQ : Wp d 297 696 ([some (.ref 1000000003), some (.ref 0), some (.ref 59), some (.int (Int32.ofNat i))]) [.int (xs ((i + 2))), .int (xs ((i + 1))), .ref 0] h Q) : Wp d 297 685 [some (.ref 1000000003), some (.ref 0), some (.ref 59), some (.int (Int32.ofNat i))] [] h Q := by
  refine Wp.seg 5 (pc1 := 690) (ls1 := [some (.ref 1000000003), some (.ref 0), some (.ref 59), some (.int (Int32.ofNat i))]) (st1 := [.int ((Int32.ofNat i) + (1 : Int32)), .ref 1000000003, .ref 0]) rfl ?_
  refine Wp.iald (j := (i + 1)) (k := 30) (n := L) rfl ht rfl ((Int32.ofNat_add i 1).symm) (by omega) (by omega) ?_
  rw [show h.2.2.1 1000000003 ((i + 1)) = xs ((i + 1)) from hx ((i + 1))]
  refine Wp.seg 4 (pc1 := 695) (ls1 := [some (.ref 1000000003), some (.ref 0), some (.ref 59), some (.int (Int32.ofNat i))]) (st1 := [.int ((Int32.ofNat i) + (2 : Int32)), .ref 1000000003, .int (xs ((i + 1))), .ref 0]) rfl ?_
  refine Wp.iald (j := (i + 2)) (k := 30) (n := L) rfl ht rfl ((Int32.ofNat_add i 2).symm) (by omega) (by omega) ?_
  rw [show h.2.2.1 1000000003 ((i + 2)) = xs ((i + 2)) from hx ((i + 2))]
  exact hQ
set_option maxHeartbeats 4000000 in
theorem t_laB15 {d : Nat} {Q : KO → Prop} {h : KH} {L i : Nat} {xs : Nat → Int32} (ht : h.1 1000000003 = (30, L)) (hx : ∀ q, h.2.2.1 1000000003 q = xs q) (hL : L ≤ 2560) (hi5 : i + 5 ≤ L) {v : Int32} (hd : 0 ≤ d) (hQ : Wp d 297 710 ([some (.ref 1000000003), some (.ref 0), some (.ref 59), some (.int (Int32.ofNat i))]) [.int (xs ((i + 2))), .int (xs ((i + 1))), .ref 59, .int (v)] h Q) : Wp d 297 699 [some (.ref 1000000003), some (.ref 0), some (.ref 59), some (.int (Int32.ofNat i))] [.int (v)] h Q := by
  refine Wp.seg 5 (pc1 := 704) (ls1 := [some (.ref 1000000003), some (.ref 0), some (.ref 59), some (.int (Int32.ofNat i))]) (st1 := [.int ((Int32.ofNat i) + (1 : Int32)), .ref 1000000003, .ref 59, .int (v)]) rfl ?_
  refine Wp.iald (j := (i + 1)) (k := 30) (n := L) rfl ht rfl ((Int32.ofNat_add i 1).symm) (by omega) (by omega) ?_
  rw [show h.2.2.1 1000000003 ((i + 1)) = xs ((i + 1)) from hx ((i + 1))]
  refine Wp.seg 4 (pc1 := 709) (ls1 := [some (.ref 1000000003), some (.ref 0), some (.ref 59), some (.int (Int32.ofNat i))]) (st1 := [.int ((Int32.ofNat i) + (2 : Int32)), .ref 1000000003, .int (xs ((i + 1))), .ref 59, .int (v)]) rfl ?_
  refine Wp.iald (j := (i + 2)) (k := 30) (n := L) rfl ht rfl ((Int32.ofNat_add i 2).symm) (by omega) (by omega) ?_
  rw [show h.2.2.1 1000000003 ((i + 2)) = xs ((i + 2)) from hx ((i + 2))]
  exact hQ
set_option maxHeartbeats 4000000 in
theorem t_laC15 {d : Nat} {Q : KO → Prop} {h : KH} {i : Nat} {v : Int32} (hd : 0 ≤ d) (hQ : Wp d 297 18 ([some (.ref 1000000003), some (.ref 0), some (.ref 59), some (.int ((Int32.ofNat i) + 5))]) [] h Q) : Wp d 297 713 [some (.ref 1000000003), some (.ref 0), some (.ref 59), some (.int (Int32.ofNat i))] [.int (v), .int (v)] h Q := by
  refine Wp.if2 rfl (fun c1 => ?_) (fun c1 => absurd (rfl) c1)
  refine Wp.seg 2 (pc1 := 18) (ls1 := [some (.ref 1000000003), some (.ref 0), some (.ref 59), some (.int ((Int32.ofNat i) + 5))]) (st1 := []) rfl ?_
  exact hQ
theorem law_15 {d : Nat} {Q : KO → Prop} {h : KH} {L i : Nat} {xs : Nat → Int32} (ht : h.1 1000000003 = (30, L)) (hx : ∀ q, h.2.2.1 1000000003 q = xs q) (hL : L ≤ 2560) (hi5 : i + 5 ≤ L) (hi : Inv h) (hd : 31 ≤ d) (hj : JI h 118 [.ref 0, .int (xs ((i + 1))), .int (xs ((i + 2)))] 232 [.ref 59, .int (xs ((i + 1))), .int (xs ((i + 2)))]) (hQ : ∀ k, Inv k → k.1 1000000003 = (30, L) → (∀ q, k.2.2.1 1000000003 q = xs q) → k.2.2.2.2.1 ≤ h.2.2.2.2.1 + 5 → k.2.2.2.2.2 ≤ h.2.2.2.2.2 + 240 → far h k → Wp d 297 18 [some (.ref 1000000003), some (.ref 0), some (.ref 59), some (.int (Int32.ofNat i + 5))] [] k Q) : Wp d 297 685 [some (.ref 1000000003), some (.ref 0), some (.ref 59), some (.int (Int32.ofNat i))] [] h Q := by
  obtain ⟨v, hc⟩ := hj
  refine t_laA15 ht hx hL hi5 (Nat.zero_le _) ?_
  refine Wp.invV (d2 := 15) (as := [.ref 0, .int (xs ((i + 1))), .int (xs ((i + 2)))]) (r := []) (t := (10, 0)) rfl rfl rfl rfl (WF.t hi.1 0 rfl) rfl rfl ⟨rfl, rfl⟩ (by omega) (hc.far.post ?_)
  rintro _ ⟨⟨k, rfl, hm⟩, f1⟩
  have ht1 : k.1 1000000003 = (30, L) := (f1.2 1000000003 (by decide) (by rw [ht])).1.trans ht
  have hx1 : ∀ q, k.2.2.1 1000000003 q = xs q := fun q => by rw [(f1.2 1000000003 (by decide) (by rw [ht])).2]; exact hx q
  have h59 : k.1 59 = (11, 0) := (f1.1.2 59 (by have := hi.1.2.2.1; omega)).trans (WF.t hi.1 59 rfl)
  refine t_laB15 (h := k) (v := v) ht1 hx1 hL hi5 (Nat.zero_le _) ?_
  refine Wp.invV (d2 := 15) (as := [.ref 59, .int (xs ((i + 1))), .int (xs ((i + 2)))]) (r := [.int v]) (t := (11, 0)) rfl rfl rfl rfl h59 rfl rfl ⟨rfl, rfl⟩ (by omega) (hm.far.post ?_)
  rintro _ ⟨⟨k2, rfl, i2, s1, s2, fa⟩, f2⟩
  have ht2 : k2.1 1000000003 = (30, L) := (f2.2 1000000003 (by decide) (by rw [ht1])).1.trans ht1
  exact t_laC15 (h := k2) (v := v) (Nat.zero_le _) (hQ k2 i2 ht2 (fun q => by rw [(f2.2 1000000003 (by decide) (by rw [ht1])).2]; exact hx1 q) s1 s2 fa)
set_option maxHeartbeats 4000000 in
theorem t_laA16 {d : Nat} {Q : KO → Prop} {h : KH} {L i : Nat} {xs : Nat → Int32} (ht : h.1 1000000003 = (30, L)) (hx : ∀ q, h.2.2.1 1000000003 q = xs q) (hL : L ≤ 2560) (hi5 : i + 5 ≤ L) (hd : 0 ≤ d) (hQ : Wp d 297 729 ([some (.ref 1000000003), some (.ref 0), some (.ref 59), some (.int (Int32.ofNat i))]) [.int (xs ((i + 2))), .int (xs ((i + 1))), .ref 0] h Q) : Wp d 297 718 [some (.ref 1000000003), some (.ref 0), some (.ref 59), some (.int (Int32.ofNat i))] [] h Q := by
  refine Wp.seg 5 (pc1 := 723) (ls1 := [some (.ref 1000000003), some (.ref 0), some (.ref 59), some (.int (Int32.ofNat i))]) (st1 := [.int ((Int32.ofNat i) + (1 : Int32)), .ref 1000000003, .ref 0]) rfl ?_
  refine Wp.iald (j := (i + 1)) (k := 30) (n := L) rfl ht rfl ((Int32.ofNat_add i 1).symm) (by omega) (by omega) ?_
  rw [show h.2.2.1 1000000003 ((i + 1)) = xs ((i + 1)) from hx ((i + 1))]
  refine Wp.seg 4 (pc1 := 728) (ls1 := [some (.ref 1000000003), some (.ref 0), some (.ref 59), some (.int (Int32.ofNat i))]) (st1 := [.int ((Int32.ofNat i) + (2 : Int32)), .ref 1000000003, .int (xs ((i + 1))), .ref 0]) rfl ?_
  refine Wp.iald (j := (i + 2)) (k := 30) (n := L) rfl ht rfl ((Int32.ofNat_add i 2).symm) (by omega) (by omega) ?_
  rw [show h.2.2.1 1000000003 ((i + 2)) = xs ((i + 2)) from hx ((i + 2))]
  exact hQ
set_option maxHeartbeats 4000000 in
theorem t_laB16 {d : Nat} {Q : KO → Prop} {h : KH} {L i : Nat} {xs : Nat → Int32} (ht : h.1 1000000003 = (30, L)) (hx : ∀ q, h.2.2.1 1000000003 q = xs q) (hL : L ≤ 2560) (hi5 : i + 5 ≤ L) {v : Int32} (hd : 0 ≤ d) (hQ : Wp d 297 743 ([some (.ref 1000000003), some (.ref 0), some (.ref 59), some (.int (Int32.ofNat i))]) [.int (xs ((i + 2))), .int (xs ((i + 1))), .ref 59, .int (v)] h Q) : Wp d 297 732 [some (.ref 1000000003), some (.ref 0), some (.ref 59), some (.int (Int32.ofNat i))] [.int (v)] h Q := by
  refine Wp.seg 5 (pc1 := 737) (ls1 := [some (.ref 1000000003), some (.ref 0), some (.ref 59), some (.int (Int32.ofNat i))]) (st1 := [.int ((Int32.ofNat i) + (1 : Int32)), .ref 1000000003, .ref 59, .int (v)]) rfl ?_
  refine Wp.iald (j := (i + 1)) (k := 30) (n := L) rfl ht rfl ((Int32.ofNat_add i 1).symm) (by omega) (by omega) ?_
  rw [show h.2.2.1 1000000003 ((i + 1)) = xs ((i + 1)) from hx ((i + 1))]
  refine Wp.seg 4 (pc1 := 742) (ls1 := [some (.ref 1000000003), some (.ref 0), some (.ref 59), some (.int (Int32.ofNat i))]) (st1 := [.int ((Int32.ofNat i) + (2 : Int32)), .ref 1000000003, .int (xs ((i + 1))), .ref 59, .int (v)]) rfl ?_
  refine Wp.iald (j := (i + 2)) (k := 30) (n := L) rfl ht rfl ((Int32.ofNat_add i 2).symm) (by omega) (by omega) ?_
  rw [show h.2.2.1 1000000003 ((i + 2)) = xs ((i + 2)) from hx ((i + 2))]
  exact hQ
set_option maxHeartbeats 4000000 in
theorem t_laC16 {d : Nat} {Q : KO → Prop} {h : KH} {i : Nat} {v : Int32} (hd : 0 ≤ d) (hQ : Wp d 297 18 ([some (.ref 1000000003), some (.ref 0), some (.ref 59), some (.int ((Int32.ofNat i) + 5))]) [] h Q) : Wp d 297 746 [some (.ref 1000000003), some (.ref 0), some (.ref 59), some (.int (Int32.ofNat i))] [.int (v), .int (v)] h Q := by
  refine Wp.if2 rfl (fun c1 => ?_) (fun c1 => absurd (rfl) c1)
  refine Wp.seg 2 (pc1 := 18) (ls1 := [some (.ref 1000000003), some (.ref 0), some (.ref 59), some (.int ((Int32.ofNat i) + 5))]) (st1 := []) rfl ?_
  exact hQ
theorem law_16 {d : Nat} {Q : KO → Prop} {h : KH} {L i : Nat} {xs : Nat → Int32} (ht : h.1 1000000003 = (30, L)) (hx : ∀ q, h.2.2.1 1000000003 q = xs q) (hL : L ≤ 2560) (hi5 : i + 5 ≤ L) (hi : Inv h) (hd : 31 ≤ d) (hj : JI h 120 [.ref 0, .int (xs ((i + 1))), .int (xs ((i + 2)))] 233 [.ref 59, .int (xs ((i + 1))), .int (xs ((i + 2)))]) (hQ : ∀ k, Inv k → k.1 1000000003 = (30, L) → (∀ q, k.2.2.1 1000000003 q = xs q) → k.2.2.2.2.1 ≤ h.2.2.2.2.1 + 5 → k.2.2.2.2.2 ≤ h.2.2.2.2.2 + 240 → far h k → Wp d 297 18 [some (.ref 1000000003), some (.ref 0), some (.ref 59), some (.int (Int32.ofNat i + 5))] [] k Q) : Wp d 297 718 [some (.ref 1000000003), some (.ref 0), some (.ref 59), some (.int (Int32.ofNat i))] [] h Q := by
  obtain ⟨v, hc⟩ := hj
  refine t_laA16 ht hx hL hi5 (Nat.zero_le _) ?_
  refine Wp.invV (d2 := 15) (as := [.ref 0, .int (xs ((i + 1))), .int (xs ((i + 2)))]) (r := []) (t := (10, 0)) rfl rfl rfl rfl (WF.t hi.1 0 rfl) rfl rfl ⟨rfl, rfl⟩ (by omega) (hc.far.post ?_)
  rintro _ ⟨⟨k, rfl, hm⟩, f1⟩
  have ht1 : k.1 1000000003 = (30, L) := (f1.2 1000000003 (by decide) (by rw [ht])).1.trans ht
  have hx1 : ∀ q, k.2.2.1 1000000003 q = xs q := fun q => by rw [(f1.2 1000000003 (by decide) (by rw [ht])).2]; exact hx q
  have h59 : k.1 59 = (11, 0) := (f1.1.2 59 (by have := hi.1.2.2.1; omega)).trans (WF.t hi.1 59 rfl)
  refine t_laB16 (h := k) (v := v) ht1 hx1 hL hi5 (Nat.zero_le _) ?_
  refine Wp.invV (d2 := 15) (as := [.ref 59, .int (xs ((i + 1))), .int (xs ((i + 2)))]) (r := [.int v]) (t := (11, 0)) rfl rfl rfl rfl h59 rfl rfl ⟨rfl, rfl⟩ (by omega) (hm.far.post ?_)
  rintro _ ⟨⟨k2, rfl, i2, s1, s2, fa⟩, f2⟩
  have ht2 : k2.1 1000000003 = (30, L) := (f2.2 1000000003 (by decide) (by rw [ht1])).1.trans ht1
  exact t_laC16 (h := k2) (v := v) (Nat.zero_le _) (hQ k2 i2 ht2 (fun q => by rw [(f2.2 1000000003 (by decide) (by rw [ht1])).2]; exact hx1 q) s1 s2 fa)
set_option maxHeartbeats 4000000 in
theorem t_laA17 {d : Nat} {Q : KO → Prop} {h : KH} {L i : Nat} {xs : Nat → Int32} (ht : h.1 1000000003 = (30, L)) (hx : ∀ q, h.2.2.1 1000000003 q = xs q) (hL : L ≤ 2560) (hi5 : i + 5 ≤ L) (hd : 0 ≤ d) (hQ : Wp d 297 752 ([some (.ref 1000000003), some (.ref 0), some (.ref 59), some (.int (Int32.ofNat i))]) [.ref 0] h Q) : Wp d 297 751 [some (.ref 1000000003), some (.ref 0), some (.ref 59), some (.int (Int32.ofNat i))] [] h Q := by
  refine Wp.seg 1 (pc1 := 752) (ls1 := [some (.ref 1000000003), some (.ref 0), some (.ref 59), some (.int (Int32.ofNat i))]) (st1 := [.ref 0]) rfl ?_
  exact hQ
set_option maxHeartbeats 4000000 in
theorem t_laB17 {d : Nat} {Q : KO → Prop} {h : KH} {L i : Nat} {xs : Nat → Int32} (ht : h.1 1000000003 = (30, L)) (hx : ∀ q, h.2.2.1 1000000003 q = xs q) (hL : L ≤ 2560) (hi5 : i + 5 ≤ L) {v : Int32} (hd : 0 ≤ d) (hQ : Wp d 297 756 ([some (.ref 1000000003), some (.ref 0), some (.ref 59), some (.int (Int32.ofNat i))]) [.ref 59, .int (v)] h Q) : Wp d 297 755 [some (.ref 1000000003), some (.ref 0), some (.ref 59), some (.int (Int32.ofNat i))] [.int (v)] h Q := by
  refine Wp.seg 1 (pc1 := 756) (ls1 := [some (.ref 1000000003), some (.ref 0), some (.ref 59), some (.int (Int32.ofNat i))]) (st1 := [.ref 59, .int (v)]) rfl ?_
  exact hQ
set_option maxHeartbeats 4000000 in
theorem t_laC17 {d : Nat} {Q : KO → Prop} {h : KH} {i : Nat} {v : Int32} (hd : 0 ≤ d) (hQ : Wp d 297 18 ([some (.ref 1000000003), some (.ref 0), some (.ref 59), some (.int ((Int32.ofNat i) + 5))]) [] h Q) : Wp d 297 759 [some (.ref 1000000003), some (.ref 0), some (.ref 59), some (.int (Int32.ofNat i))] [.int (v), .int (v)] h Q := by
  refine Wp.if2 rfl (fun c1 => ?_) (fun c1 => absurd (rfl) c1)
  refine Wp.seg 2 (pc1 := 18) (ls1 := [some (.ref 1000000003), some (.ref 0), some (.ref 59), some (.int ((Int32.ofNat i) + 5))]) (st1 := []) rfl ?_
  exact hQ
theorem law_17 {d : Nat} {Q : KO → Prop} {h : KH} {L i : Nat} {xs : Nat → Int32} (ht : h.1 1000000003 = (30, L)) (hx : ∀ q, h.2.2.1 1000000003 q = xs q) (hL : L ≤ 2560) (hi5 : i + 5 ≤ L) (hi : Inv h) (hd : 31 ≤ d) (hj : JI h 121 [.ref 0] 234 [.ref 59]) (hQ : ∀ k, Inv k → k.1 1000000003 = (30, L) → (∀ q, k.2.2.1 1000000003 q = xs q) → k.2.2.2.2.1 ≤ h.2.2.2.2.1 + 5 → k.2.2.2.2.2 ≤ h.2.2.2.2.2 + 240 → far h k → Wp d 297 18 [some (.ref 1000000003), some (.ref 0), some (.ref 59), some (.int (Int32.ofNat i + 5))] [] k Q) : Wp d 297 751 [some (.ref 1000000003), some (.ref 0), some (.ref 59), some (.int (Int32.ofNat i))] [] h Q := by
  obtain ⟨v, hc⟩ := hj
  refine t_laA17 ht hx hL hi5 (Nat.zero_le _) ?_
  refine Wp.invV (d2 := 15) (as := [.ref 0]) (r := []) (t := (10, 0)) rfl rfl rfl rfl (WF.t hi.1 0 rfl) rfl rfl ⟨rfl, rfl⟩ (by omega) (hc.far.post ?_)
  rintro _ ⟨⟨k, rfl, hm⟩, f1⟩
  have ht1 : k.1 1000000003 = (30, L) := (f1.2 1000000003 (by decide) (by rw [ht])).1.trans ht
  have hx1 : ∀ q, k.2.2.1 1000000003 q = xs q := fun q => by rw [(f1.2 1000000003 (by decide) (by rw [ht])).2]; exact hx q
  have h59 : k.1 59 = (11, 0) := (f1.1.2 59 (by have := hi.1.2.2.1; omega)).trans (WF.t hi.1 59 rfl)
  refine t_laB17 (h := k) (v := v) ht1 hx1 hL hi5 (Nat.zero_le _) ?_
  refine Wp.invV (d2 := 15) (as := [.ref 59]) (r := [.int v]) (t := (11, 0)) rfl rfl rfl rfl h59 rfl rfl ⟨rfl, rfl⟩ (by omega) (hm.far.post ?_)
  rintro _ ⟨⟨k2, rfl, i2, s1, s2, fa⟩, f2⟩
  have ht2 : k2.1 1000000003 = (30, L) := (f2.2 1000000003 (by decide) (by rw [ht1])).1.trans ht1
  exact t_laC17 (h := k2) (v := v) (Nat.zero_le _) (hQ k2 i2 ht2 (fun q => by rw [(f2.2 1000000003 (by decide) (by rw [ht1])).2]; exact hx1 q) s1 s2 fa)
set_option maxHeartbeats 4000000 in
theorem t_laA18 {d : Nat} {Q : KO → Prop} {h : KH} {L i : Nat} {xs : Nat → Int32} (ht : h.1 1000000003 = (30, L)) (hx : ∀ q, h.2.2.1 1000000003 q = xs q) (hL : L ≤ 2560) (hi5 : i + 5 ≤ L) (hd : 0 ≤ d) (hQ : Wp d 297 770 ([some (.ref 1000000003), some (.ref 0), some (.ref 59), some (.int (Int32.ofNat i))]) [.int (xs ((i + 1))), .ref 0] h Q) : Wp d 297 764 [some (.ref 1000000003), some (.ref 0), some (.ref 59), some (.int (Int32.ofNat i))] [] h Q := by
  refine Wp.seg 5 (pc1 := 769) (ls1 := [some (.ref 1000000003), some (.ref 0), some (.ref 59), some (.int (Int32.ofNat i))]) (st1 := [.int ((Int32.ofNat i) + (1 : Int32)), .ref 1000000003, .ref 0]) rfl ?_
  refine Wp.iald (j := (i + 1)) (k := 30) (n := L) rfl ht rfl ((Int32.ofNat_add i 1).symm) (by omega) (by omega) ?_
  rw [show h.2.2.1 1000000003 ((i + 1)) = xs ((i + 1)) from hx ((i + 1))]
  exact hQ
set_option maxHeartbeats 4000000 in
theorem t_laB18 {d : Nat} {Q : KO → Prop} {h : KH} {L i : Nat} {xs : Nat → Int32} (ht : h.1 1000000003 = (30, L)) (hx : ∀ q, h.2.2.1 1000000003 q = xs q) (hL : L ≤ 2560) (hi5 : i + 5 ≤ L) {v : Int32} (hd : 0 ≤ d) (hQ : Wp d 297 779 ([some (.ref 1000000003), some (.ref 0), some (.ref 59), some (.int (Int32.ofNat i))]) [.int (xs ((i + 1))), .ref 59, .int (v)] h Q) : Wp d 297 773 [some (.ref 1000000003), some (.ref 0), some (.ref 59), some (.int (Int32.ofNat i))] [.int (v)] h Q := by
  refine Wp.seg 5 (pc1 := 778) (ls1 := [some (.ref 1000000003), some (.ref 0), some (.ref 59), some (.int (Int32.ofNat i))]) (st1 := [.int ((Int32.ofNat i) + (1 : Int32)), .ref 1000000003, .ref 59, .int (v)]) rfl ?_
  refine Wp.iald (j := (i + 1)) (k := 30) (n := L) rfl ht rfl ((Int32.ofNat_add i 1).symm) (by omega) (by omega) ?_
  rw [show h.2.2.1 1000000003 ((i + 1)) = xs ((i + 1)) from hx ((i + 1))]
  exact hQ
set_option maxHeartbeats 4000000 in
theorem t_laC18 {d : Nat} {Q : KO → Prop} {h : KH} {i : Nat} {v : Int32} (hd : 0 ≤ d) (hQ : Wp d 297 18 ([some (.ref 1000000003), some (.ref 0), some (.ref 59), some (.int ((Int32.ofNat i) + 5))]) [] h Q) : Wp d 297 782 [some (.ref 1000000003), some (.ref 0), some (.ref 59), some (.int (Int32.ofNat i))] [.int (v), .int (v)] h Q := by
  refine Wp.if2 rfl (fun c1 => ?_) (fun c1 => absurd (rfl) c1)
  refine Wp.seg 2 (pc1 := 18) (ls1 := [some (.ref 1000000003), some (.ref 0), some (.ref 59), some (.int ((Int32.ofNat i) + 5))]) (st1 := []) rfl ?_
  exact hQ
theorem law_18 {d : Nat} {Q : KO → Prop} {h : KH} {L i : Nat} {xs : Nat → Int32} (ht : h.1 1000000003 = (30, L)) (hx : ∀ q, h.2.2.1 1000000003 q = xs q) (hL : L ≤ 2560) (hi5 : i + 5 ≤ L) (hi : Inv h) (hd : 31 ≤ d) (hj : JI h 122 [.ref 0, .int (xs ((i + 1)))] 240 [.ref 59, .int (xs ((i + 1)))]) (hQ : ∀ k, Inv k → k.1 1000000003 = (30, L) → (∀ q, k.2.2.1 1000000003 q = xs q) → k.2.2.2.2.1 ≤ h.2.2.2.2.1 + 5 → k.2.2.2.2.2 ≤ h.2.2.2.2.2 + 240 → far h k → Wp d 297 18 [some (.ref 1000000003), some (.ref 0), some (.ref 59), some (.int (Int32.ofNat i + 5))] [] k Q) : Wp d 297 764 [some (.ref 1000000003), some (.ref 0), some (.ref 59), some (.int (Int32.ofNat i))] [] h Q := by
  obtain ⟨v, hc⟩ := hj
  refine t_laA18 ht hx hL hi5 (Nat.zero_le _) ?_
  refine Wp.invV (d2 := 15) (as := [.ref 0, .int (xs ((i + 1)))]) (r := []) (t := (10, 0)) rfl rfl rfl rfl (WF.t hi.1 0 rfl) rfl rfl ⟨rfl, rfl⟩ (by omega) (hc.far.post ?_)
  rintro _ ⟨⟨k, rfl, hm⟩, f1⟩
  have ht1 : k.1 1000000003 = (30, L) := (f1.2 1000000003 (by decide) (by rw [ht])).1.trans ht
  have hx1 : ∀ q, k.2.2.1 1000000003 q = xs q := fun q => by rw [(f1.2 1000000003 (by decide) (by rw [ht])).2]; exact hx q
  have h59 : k.1 59 = (11, 0) := (f1.1.2 59 (by have := hi.1.2.2.1; omega)).trans (WF.t hi.1 59 rfl)
  refine t_laB18 (h := k) (v := v) ht1 hx1 hL hi5 (Nat.zero_le _) ?_
  refine Wp.invV (d2 := 15) (as := [.ref 59, .int (xs ((i + 1)))]) (r := [.int v]) (t := (11, 0)) rfl rfl rfl rfl h59 rfl rfl ⟨rfl, rfl⟩ (by omega) (hm.far.post ?_)
  rintro _ ⟨⟨k2, rfl, i2, s1, s2, fa⟩, f2⟩
  have ht2 : k2.1 1000000003 = (30, L) := (f2.2 1000000003 (by decide) (by rw [ht1])).1.trans ht1
  exact t_laC18 (h := k2) (v := v) (Nat.zero_le _) (hQ k2 i2 ht2 (fun q => by rw [(f2.2 1000000003 (by decide) (by rw [ht1])).2]; exact hx1 q) s1 s2 fa)
set_option maxHeartbeats 4000000 in
theorem t_laA19 {d : Nat} {Q : KO → Prop} {h : KH} {L i : Nat} {xs : Nat → Int32} (ht : h.1 1000000003 = (30, L)) (hx : ∀ q, h.2.2.1 1000000003 q = xs q) (hL : L ≤ 2560) (hi5 : i + 5 ≤ L) (hd : 0 ≤ d) (hQ : Wp d 297 798 ([some (.ref 1000000003), some (.ref 0), some (.ref 59), some (.int (Int32.ofNat i))]) [.int (xs ((i + 2))), .int (xs ((i + 1))), .ref 0] h Q) : Wp d 297 787 [some (.ref 1000000003), some (.ref 0), some (.ref 59), some (.int (Int32.ofNat i))] [] h Q := by
  refine Wp.seg 5 (pc1 := 792) (ls1 := [some (.ref 1000000003), some (.ref 0), some (.ref 59), some (.int (Int32.ofNat i))]) (st1 := [.int ((Int32.ofNat i) + (1 : Int32)), .ref 1000000003, .ref 0]) rfl ?_
  refine Wp.iald (j := (i + 1)) (k := 30) (n := L) rfl ht rfl ((Int32.ofNat_add i 1).symm) (by omega) (by omega) ?_
  rw [show h.2.2.1 1000000003 ((i + 1)) = xs ((i + 1)) from hx ((i + 1))]
  refine Wp.seg 4 (pc1 := 797) (ls1 := [some (.ref 1000000003), some (.ref 0), some (.ref 59), some (.int (Int32.ofNat i))]) (st1 := [.int ((Int32.ofNat i) + (2 : Int32)), .ref 1000000003, .int (xs ((i + 1))), .ref 0]) rfl ?_
  refine Wp.iald (j := (i + 2)) (k := 30) (n := L) rfl ht rfl ((Int32.ofNat_add i 2).symm) (by omega) (by omega) ?_
  rw [show h.2.2.1 1000000003 ((i + 2)) = xs ((i + 2)) from hx ((i + 2))]
  exact hQ
set_option maxHeartbeats 4000000 in
theorem t_laB19 {d : Nat} {Q : KO → Prop} {h : KH} {L i : Nat} {xs : Nat → Int32} (ht : h.1 1000000003 = (30, L)) (hx : ∀ q, h.2.2.1 1000000003 q = xs q) (hL : L ≤ 2560) (hi5 : i + 5 ≤ L) {v : Int32} (hd : 0 ≤ d) (hQ : Wp d 297 812 ([some (.ref 1000000003), some (.ref 0), some (.ref 59), some (.int (Int32.ofNat i))]) [.int (xs ((i + 2))), .int (xs ((i + 1))), .ref 59, .int (v)] h Q) : Wp d 297 801 [some (.ref 1000000003), some (.ref 0), some (.ref 59), some (.int (Int32.ofNat i))] [.int (v)] h Q := by
  refine Wp.seg 5 (pc1 := 806) (ls1 := [some (.ref 1000000003), some (.ref 0), some (.ref 59), some (.int (Int32.ofNat i))]) (st1 := [.int ((Int32.ofNat i) + (1 : Int32)), .ref 1000000003, .ref 59, .int (v)]) rfl ?_
  refine Wp.iald (j := (i + 1)) (k := 30) (n := L) rfl ht rfl ((Int32.ofNat_add i 1).symm) (by omega) (by omega) ?_
  rw [show h.2.2.1 1000000003 ((i + 1)) = xs ((i + 1)) from hx ((i + 1))]
  refine Wp.seg 4 (pc1 := 811) (ls1 := [some (.ref 1000000003), some (.ref 0), some (.ref 59), some (.int (Int32.ofNat i))]) (st1 := [.int ((Int32.ofNat i) + (2 : Int32)), .ref 1000000003, .int (xs ((i + 1))), .ref 59, .int (v)]) rfl ?_
  refine Wp.iald (j := (i + 2)) (k := 30) (n := L) rfl ht rfl ((Int32.ofNat_add i 2).symm) (by omega) (by omega) ?_
  rw [show h.2.2.1 1000000003 ((i + 2)) = xs ((i + 2)) from hx ((i + 2))]
  exact hQ
set_option maxHeartbeats 4000000 in
theorem t_laC19 {d : Nat} {Q : KO → Prop} {h : KH} {i : Nat} {v : Int32} (hd : 0 ≤ d) (hQ : Wp d 297 18 ([some (.ref 1000000003), some (.ref 0), some (.ref 59), some (.int ((Int32.ofNat i) + 5))]) [] h Q) : Wp d 297 815 [some (.ref 1000000003), some (.ref 0), some (.ref 59), some (.int (Int32.ofNat i))] [.int (v), .int (v)] h Q := by
  refine Wp.if2 rfl (fun c1 => ?_) (fun c1 => absurd (rfl) c1)
  refine Wp.seg 2 (pc1 := 18) (ls1 := [some (.ref 1000000003), some (.ref 0), some (.ref 59), some (.int ((Int32.ofNat i) + 5))]) (st1 := []) rfl ?_
  exact hQ
theorem law_19 {d : Nat} {Q : KO → Prop} {h : KH} {L i : Nat} {xs : Nat → Int32} (ht : h.1 1000000003 = (30, L)) (hx : ∀ q, h.2.2.1 1000000003 q = xs q) (hL : L ≤ 2560) (hi5 : i + 5 ≤ L) (hi : Inv h) (hd : 31 ≤ d) (hj : JI h 123 [.ref 0, .int (xs ((i + 1))), .int (xs ((i + 2)))] 241 [.ref 59, .int (xs ((i + 1))), .int (xs ((i + 2)))]) (hQ : ∀ k, Inv k → k.1 1000000003 = (30, L) → (∀ q, k.2.2.1 1000000003 q = xs q) → k.2.2.2.2.1 ≤ h.2.2.2.2.1 + 5 → k.2.2.2.2.2 ≤ h.2.2.2.2.2 + 240 → far h k → Wp d 297 18 [some (.ref 1000000003), some (.ref 0), some (.ref 59), some (.int (Int32.ofNat i + 5))] [] k Q) : Wp d 297 787 [some (.ref 1000000003), some (.ref 0), some (.ref 59), some (.int (Int32.ofNat i))] [] h Q := by
  obtain ⟨v, hc⟩ := hj
  refine t_laA19 ht hx hL hi5 (Nat.zero_le _) ?_
  refine Wp.invV (d2 := 15) (as := [.ref 0, .int (xs ((i + 1))), .int (xs ((i + 2)))]) (r := []) (t := (10, 0)) rfl rfl rfl rfl (WF.t hi.1 0 rfl) rfl rfl ⟨rfl, rfl⟩ (by omega) (hc.far.post ?_)
  rintro _ ⟨⟨k, rfl, hm⟩, f1⟩
  have ht1 : k.1 1000000003 = (30, L) := (f1.2 1000000003 (by decide) (by rw [ht])).1.trans ht
  have hx1 : ∀ q, k.2.2.1 1000000003 q = xs q := fun q => by rw [(f1.2 1000000003 (by decide) (by rw [ht])).2]; exact hx q
  have h59 : k.1 59 = (11, 0) := (f1.1.2 59 (by have := hi.1.2.2.1; omega)).trans (WF.t hi.1 59 rfl)
  refine t_laB19 (h := k) (v := v) ht1 hx1 hL hi5 (Nat.zero_le _) ?_
  refine Wp.invV (d2 := 15) (as := [.ref 59, .int (xs ((i + 1))), .int (xs ((i + 2)))]) (r := [.int v]) (t := (11, 0)) rfl rfl rfl rfl h59 rfl rfl ⟨rfl, rfl⟩ (by omega) (hm.far.post ?_)
  rintro _ ⟨⟨k2, rfl, i2, s1, s2, fa⟩, f2⟩
  have ht2 : k2.1 1000000003 = (30, L) := (f2.2 1000000003 (by decide) (by rw [ht1])).1.trans ht1
  exact t_laC19 (h := k2) (v := v) (Nat.zero_le _) (hQ k2 i2 ht2 (fun q => by rw [(f2.2 1000000003 (by decide) (by rw [ht1])).2]; exact hx1 q) s1 s2 fa)
set_option maxHeartbeats 4000000 in
theorem t_laA20 {d : Nat} {Q : KO → Prop} {h : KH} {L i : Nat} {xs : Nat → Int32} (ht : h.1 1000000003 = (30, L)) (hx : ∀ q, h.2.2.1 1000000003 q = xs q) (hL : L ≤ 2560) (hi5 : i + 5 ≤ L) (hd : 0 ≤ d) (hQ : Wp d 297 826 ([some (.ref 1000000003), some (.ref 0), some (.ref 59), some (.int (Int32.ofNat i))]) [.int (xs ((i + 1))), .ref 0] h Q) : Wp d 297 820 [some (.ref 1000000003), some (.ref 0), some (.ref 59), some (.int (Int32.ofNat i))] [] h Q := by
  refine Wp.seg 5 (pc1 := 825) (ls1 := [some (.ref 1000000003), some (.ref 0), some (.ref 59), some (.int (Int32.ofNat i))]) (st1 := [.int ((Int32.ofNat i) + (1 : Int32)), .ref 1000000003, .ref 0]) rfl ?_
  refine Wp.iald (j := (i + 1)) (k := 30) (n := L) rfl ht rfl ((Int32.ofNat_add i 1).symm) (by omega) (by omega) ?_
  rw [show h.2.2.1 1000000003 ((i + 1)) = xs ((i + 1)) from hx ((i + 1))]
  exact hQ
set_option maxHeartbeats 4000000 in
theorem t_laB20 {d : Nat} {Q : KO → Prop} {h : KH} {L i : Nat} {xs : Nat → Int32} (ht : h.1 1000000003 = (30, L)) (hx : ∀ q, h.2.2.1 1000000003 q = xs q) (hL : L ≤ 2560) (hi5 : i + 5 ≤ L) {v : Int32} (hd : 0 ≤ d) (hQ : Wp d 297 835 ([some (.ref 1000000003), some (.ref 0), some (.ref 59), some (.int (Int32.ofNat i))]) [.int (xs ((i + 1))), .ref 59, .int (v)] h Q) : Wp d 297 829 [some (.ref 1000000003), some (.ref 0), some (.ref 59), some (.int (Int32.ofNat i))] [.int (v)] h Q := by
  refine Wp.seg 5 (pc1 := 834) (ls1 := [some (.ref 1000000003), some (.ref 0), some (.ref 59), some (.int (Int32.ofNat i))]) (st1 := [.int ((Int32.ofNat i) + (1 : Int32)), .ref 1000000003, .ref 59, .int (v)]) rfl ?_
  refine Wp.iald (j := (i + 1)) (k := 30) (n := L) rfl ht rfl ((Int32.ofNat_add i 1).symm) (by omega) (by omega) ?_
  rw [show h.2.2.1 1000000003 ((i + 1)) = xs ((i + 1)) from hx ((i + 1))]
  exact hQ
set_option maxHeartbeats 4000000 in
theorem t_laC20 {d : Nat} {Q : KO → Prop} {h : KH} {i : Nat} {v : Int32} (hd : 0 ≤ d) (hQ : Wp d 297 18 ([some (.ref 1000000003), some (.ref 0), some (.ref 59), some (.int ((Int32.ofNat i) + 5))]) [] h Q) : Wp d 297 838 [some (.ref 1000000003), some (.ref 0), some (.ref 59), some (.int (Int32.ofNat i))] [.int (v), .int (v)] h Q := by
  refine Wp.if2 rfl (fun c1 => ?_) (fun c1 => absurd (rfl) c1)
  refine Wp.seg 2 (pc1 := 18) (ls1 := [some (.ref 1000000003), some (.ref 0), some (.ref 59), some (.int ((Int32.ofNat i) + 5))]) (st1 := []) rfl ?_
  exact hQ
theorem law_20 {d : Nat} {Q : KO → Prop} {h : KH} {L i : Nat} {xs : Nat → Int32} (ht : h.1 1000000003 = (30, L)) (hx : ∀ q, h.2.2.1 1000000003 q = xs q) (hL : L ≤ 2560) (hi5 : i + 5 ≤ L) (hi : Inv h) (hd : 31 ≤ d) (hj : JI h 124 [.ref 0, .int (xs ((i + 1)))] 242 [.ref 59, .int (xs ((i + 1)))]) (hQ : ∀ k, Inv k → k.1 1000000003 = (30, L) → (∀ q, k.2.2.1 1000000003 q = xs q) → k.2.2.2.2.1 ≤ h.2.2.2.2.1 + 5 → k.2.2.2.2.2 ≤ h.2.2.2.2.2 + 240 → far h k → Wp d 297 18 [some (.ref 1000000003), some (.ref 0), some (.ref 59), some (.int (Int32.ofNat i + 5))] [] k Q) : Wp d 297 820 [some (.ref 1000000003), some (.ref 0), some (.ref 59), some (.int (Int32.ofNat i))] [] h Q := by
  obtain ⟨v, hc⟩ := hj
  refine t_laA20 ht hx hL hi5 (Nat.zero_le _) ?_
  refine Wp.invV (d2 := 15) (as := [.ref 0, .int (xs ((i + 1)))]) (r := []) (t := (10, 0)) rfl rfl rfl rfl (WF.t hi.1 0 rfl) rfl rfl ⟨rfl, rfl⟩ (by omega) (hc.far.post ?_)
  rintro _ ⟨⟨k, rfl, hm⟩, f1⟩
  have ht1 : k.1 1000000003 = (30, L) := (f1.2 1000000003 (by decide) (by rw [ht])).1.trans ht
  have hx1 : ∀ q, k.2.2.1 1000000003 q = xs q := fun q => by rw [(f1.2 1000000003 (by decide) (by rw [ht])).2]; exact hx q
  have h59 : k.1 59 = (11, 0) := (f1.1.2 59 (by have := hi.1.2.2.1; omega)).trans (WF.t hi.1 59 rfl)
  refine t_laB20 (h := k) (v := v) ht1 hx1 hL hi5 (Nat.zero_le _) ?_
  refine Wp.invV (d2 := 15) (as := [.ref 59, .int (xs ((i + 1)))]) (r := [.int v]) (t := (11, 0)) rfl rfl rfl rfl h59 rfl rfl ⟨rfl, rfl⟩ (by omega) (hm.far.post ?_)
  rintro _ ⟨⟨k2, rfl, i2, s1, s2, fa⟩, f2⟩
  have ht2 : k2.1 1000000003 = (30, L) := (f2.2 1000000003 (by decide) (by rw [ht1])).1.trans ht1
  exact t_laC20 (h := k2) (v := v) (Nat.zero_le _) (hQ k2 i2 ht2 (fun q => by rw [(f2.2 1000000003 (by decide) (by rw [ht1])).2]; exact hx1 q) s1 s2 fa)
set_option maxHeartbeats 4000000 in
theorem t_laA21 {d : Nat} {Q : KO → Prop} {h : KH} {L i : Nat} {xs : Nat → Int32} (ht : h.1 1000000003 = (30, L)) (hx : ∀ q, h.2.2.1 1000000003 q = xs q) (hL : L ≤ 2560) (hi5 : i + 5 ≤ L) (hd : 0 ≤ d) (hQ : Wp d 297 854 ([some (.ref 1000000003), some (.ref 0), some (.ref 59), some (.int (Int32.ofNat i))]) [.int (xs ((i + 2))), .int (xs ((i + 1))), .ref 0] h Q) : Wp d 297 843 [some (.ref 1000000003), some (.ref 0), some (.ref 59), some (.int (Int32.ofNat i))] [] h Q := by
  refine Wp.seg 5 (pc1 := 848) (ls1 := [some (.ref 1000000003), some (.ref 0), some (.ref 59), some (.int (Int32.ofNat i))]) (st1 := [.int ((Int32.ofNat i) + (1 : Int32)), .ref 1000000003, .ref 0]) rfl ?_
  refine Wp.iald (j := (i + 1)) (k := 30) (n := L) rfl ht rfl ((Int32.ofNat_add i 1).symm) (by omega) (by omega) ?_
  rw [show h.2.2.1 1000000003 ((i + 1)) = xs ((i + 1)) from hx ((i + 1))]
  refine Wp.seg 4 (pc1 := 853) (ls1 := [some (.ref 1000000003), some (.ref 0), some (.ref 59), some (.int (Int32.ofNat i))]) (st1 := [.int ((Int32.ofNat i) + (2 : Int32)), .ref 1000000003, .int (xs ((i + 1))), .ref 0]) rfl ?_
  refine Wp.iald (j := (i + 2)) (k := 30) (n := L) rfl ht rfl ((Int32.ofNat_add i 2).symm) (by omega) (by omega) ?_
  rw [show h.2.2.1 1000000003 ((i + 2)) = xs ((i + 2)) from hx ((i + 2))]
  exact hQ
set_option maxHeartbeats 4000000 in
theorem t_laB21 {d : Nat} {Q : KO → Prop} {h : KH} {L i : Nat} {xs : Nat → Int32} (ht : h.1 1000000003 = (30, L)) (hx : ∀ q, h.2.2.1 1000000003 q = xs q) (hL : L ≤ 2560) (hi5 : i + 5 ≤ L) {v : Int32} (hd : 0 ≤ d) (hQ : Wp d 297 868 ([some (.ref 1000000003), some (.ref 0), some (.ref 59), some (.int (Int32.ofNat i))]) [.int (xs ((i + 2))), .int (xs ((i + 1))), .ref 59, .int (v)] h Q) : Wp d 297 857 [some (.ref 1000000003), some (.ref 0), some (.ref 59), some (.int (Int32.ofNat i))] [.int (v)] h Q := by
  refine Wp.seg 5 (pc1 := 862) (ls1 := [some (.ref 1000000003), some (.ref 0), some (.ref 59), some (.int (Int32.ofNat i))]) (st1 := [.int ((Int32.ofNat i) + (1 : Int32)), .ref 1000000003, .ref 59, .int (v)]) rfl ?_
  refine Wp.iald (j := (i + 1)) (k := 30) (n := L) rfl ht rfl ((Int32.ofNat_add i 1).symm) (by omega) (by omega) ?_
  rw [show h.2.2.1 1000000003 ((i + 1)) = xs ((i + 1)) from hx ((i + 1))]
  refine Wp.seg 4 (pc1 := 867) (ls1 := [some (.ref 1000000003), some (.ref 0), some (.ref 59), some (.int (Int32.ofNat i))]) (st1 := [.int ((Int32.ofNat i) + (2 : Int32)), .ref 1000000003, .int (xs ((i + 1))), .ref 59, .int (v)]) rfl ?_
  refine Wp.iald (j := (i + 2)) (k := 30) (n := L) rfl ht rfl ((Int32.ofNat_add i 2).symm) (by omega) (by omega) ?_
  rw [show h.2.2.1 1000000003 ((i + 2)) = xs ((i + 2)) from hx ((i + 2))]
  exact hQ
set_option maxHeartbeats 4000000 in
theorem t_laC21 {d : Nat} {Q : KO → Prop} {h : KH} {i : Nat} {v : Int32} (hd : 0 ≤ d) (hQ : Wp d 297 18 ([some (.ref 1000000003), some (.ref 0), some (.ref 59), some (.int ((Int32.ofNat i) + 5))]) [] h Q) : Wp d 297 871 [some (.ref 1000000003), some (.ref 0), some (.ref 59), some (.int (Int32.ofNat i))] [.int (v), .int (v)] h Q := by
  refine Wp.if2 rfl (fun c1 => ?_) (fun c1 => absurd (rfl) c1)
  refine Wp.seg 2 (pc1 := 18) (ls1 := [some (.ref 1000000003), some (.ref 0), some (.ref 59), some (.int ((Int32.ofNat i) + 5))]) (st1 := []) rfl ?_
  exact hQ
theorem law_21 {d : Nat} {Q : KO → Prop} {h : KH} {L i : Nat} {xs : Nat → Int32} (ht : h.1 1000000003 = (30, L)) (hx : ∀ q, h.2.2.1 1000000003 q = xs q) (hL : L ≤ 2560) (hi5 : i + 5 ≤ L) (hi : Inv h) (hd : 31 ≤ d) (hj : JI h 125 [.ref 0, .int (xs ((i + 1))), .int (xs ((i + 2)))] 244 [.ref 59, .int (xs ((i + 1))), .int (xs ((i + 2)))]) (hQ : ∀ k, Inv k → k.1 1000000003 = (30, L) → (∀ q, k.2.2.1 1000000003 q = xs q) → k.2.2.2.2.1 ≤ h.2.2.2.2.1 + 5 → k.2.2.2.2.2 ≤ h.2.2.2.2.2 + 240 → far h k → Wp d 297 18 [some (.ref 1000000003), some (.ref 0), some (.ref 59), some (.int (Int32.ofNat i + 5))] [] k Q) : Wp d 297 843 [some (.ref 1000000003), some (.ref 0), some (.ref 59), some (.int (Int32.ofNat i))] [] h Q := by
  obtain ⟨v, hc⟩ := hj
  refine t_laA21 ht hx hL hi5 (Nat.zero_le _) ?_
  refine Wp.invV (d2 := 15) (as := [.ref 0, .int (xs ((i + 1))), .int (xs ((i + 2)))]) (r := []) (t := (10, 0)) rfl rfl rfl rfl (WF.t hi.1 0 rfl) rfl rfl ⟨rfl, rfl⟩ (by omega) (hc.far.post ?_)
  rintro _ ⟨⟨k, rfl, hm⟩, f1⟩
  have ht1 : k.1 1000000003 = (30, L) := (f1.2 1000000003 (by decide) (by rw [ht])).1.trans ht
  have hx1 : ∀ q, k.2.2.1 1000000003 q = xs q := fun q => by rw [(f1.2 1000000003 (by decide) (by rw [ht])).2]; exact hx q
  have h59 : k.1 59 = (11, 0) := (f1.1.2 59 (by have := hi.1.2.2.1; omega)).trans (WF.t hi.1 59 rfl)
  refine t_laB21 (h := k) (v := v) ht1 hx1 hL hi5 (Nat.zero_le _) ?_
  refine Wp.invV (d2 := 15) (as := [.ref 59, .int (xs ((i + 1))), .int (xs ((i + 2)))]) (r := [.int v]) (t := (11, 0)) rfl rfl rfl rfl h59 rfl rfl ⟨rfl, rfl⟩ (by omega) (hm.far.post ?_)
  rintro _ ⟨⟨k2, rfl, i2, s1, s2, fa⟩, f2⟩
  have ht2 : k2.1 1000000003 = (30, L) := (f2.2 1000000003 (by decide) (by rw [ht1])).1.trans ht1
  exact t_laC21 (h := k2) (v := v) (Nat.zero_le _) (hQ k2 i2 ht2 (fun q => by rw [(f2.2 1000000003 (by decide) (by rw [ht1])).2]; exact hx1 q) s1 s2 fa)
set_option maxHeartbeats 4000000 in
theorem t_laA22 {d : Nat} {Q : KO → Prop} {h : KH} {L i : Nat} {xs : Nat → Int32} (ht : h.1 1000000003 = (30, L)) (hx : ∀ q, h.2.2.1 1000000003 q = xs q) (hL : L ≤ 2560) (hi5 : i + 5 ≤ L) (hd : 0 ≤ d) (hQ : Wp d 297 887 ([some (.ref 1000000003), some (.ref 0), some (.ref 59), some (.int (Int32.ofNat i))]) [.int (xs ((i + 2))), .int (xs ((i + 1))), .ref 0] h Q) : Wp d 297 876 [some (.ref 1000000003), some (.ref 0), some (.ref 59), some (.int (Int32.ofNat i))] [] h Q := by
  refine Wp.seg 5 (pc1 := 881) (ls1 := [some (.ref 1000000003), some (.ref 0), some (.ref 59), some (.int (Int32.ofNat i))]) (st1 := [.int ((Int32.ofNat i) + (1 : Int32)), .ref 1000000003, .ref 0]) rfl ?_
  refine Wp.iald (j := (i + 1)) (k := 30) (n := L) rfl ht rfl ((Int32.ofNat_add i 1).symm) (by omega) (by omega) ?_
  rw [show h.2.2.1 1000000003 ((i + 1)) = xs ((i + 1)) from hx ((i + 1))]
  refine Wp.seg 4 (pc1 := 886) (ls1 := [some (.ref 1000000003), some (.ref 0), some (.ref 59), some (.int (Int32.ofNat i))]) (st1 := [.int ((Int32.ofNat i) + (2 : Int32)), .ref 1000000003, .int (xs ((i + 1))), .ref 0]) rfl ?_
  refine Wp.iald (j := (i + 2)) (k := 30) (n := L) rfl ht rfl ((Int32.ofNat_add i 2).symm) (by omega) (by omega) ?_
  rw [show h.2.2.1 1000000003 ((i + 2)) = xs ((i + 2)) from hx ((i + 2))]
  exact hQ
set_option maxHeartbeats 4000000 in
theorem t_laB22 {d : Nat} {Q : KO → Prop} {h : KH} {L i : Nat} {xs : Nat → Int32} (ht : h.1 1000000003 = (30, L)) (hx : ∀ q, h.2.2.1 1000000003 q = xs q) (hL : L ≤ 2560) (hi5 : i + 5 ≤ L) {v : Int32} (hd : 0 ≤ d) (hQ : Wp d 297 901 ([some (.ref 1000000003), some (.ref 0), some (.ref 59), some (.int (Int32.ofNat i))]) [.int (xs ((i + 2))), .int (xs ((i + 1))), .ref 59, .int (v)] h Q) : Wp d 297 890 [some (.ref 1000000003), some (.ref 0), some (.ref 59), some (.int (Int32.ofNat i))] [.int (v)] h Q := by
  refine Wp.seg 5 (pc1 := 895) (ls1 := [some (.ref 1000000003), some (.ref 0), some (.ref 59), some (.int (Int32.ofNat i))]) (st1 := [.int ((Int32.ofNat i) + (1 : Int32)), .ref 1000000003, .ref 59, .int (v)]) rfl ?_
  refine Wp.iald (j := (i + 1)) (k := 30) (n := L) rfl ht rfl ((Int32.ofNat_add i 1).symm) (by omega) (by omega) ?_
  rw [show h.2.2.1 1000000003 ((i + 1)) = xs ((i + 1)) from hx ((i + 1))]
  refine Wp.seg 4 (pc1 := 900) (ls1 := [some (.ref 1000000003), some (.ref 0), some (.ref 59), some (.int (Int32.ofNat i))]) (st1 := [.int ((Int32.ofNat i) + (2 : Int32)), .ref 1000000003, .int (xs ((i + 1))), .ref 59, .int (v)]) rfl ?_
  refine Wp.iald (j := (i + 2)) (k := 30) (n := L) rfl ht rfl ((Int32.ofNat_add i 2).symm) (by omega) (by omega) ?_
  rw [show h.2.2.1 1000000003 ((i + 2)) = xs ((i + 2)) from hx ((i + 2))]
  exact hQ
set_option maxHeartbeats 4000000 in
theorem t_laC22 {d : Nat} {Q : KO → Prop} {h : KH} {i : Nat} {v : Int32} (hd : 0 ≤ d) (hQ : Wp d 297 18 ([some (.ref 1000000003), some (.ref 0), some (.ref 59), some (.int ((Int32.ofNat i) + 5))]) [] h Q) : Wp d 297 904 [some (.ref 1000000003), some (.ref 0), some (.ref 59), some (.int (Int32.ofNat i))] [.int (v), .int (v)] h Q := by
  refine Wp.if2 rfl (fun c1 => ?_) (fun c1 => absurd (rfl) c1)
  refine Wp.seg 2 (pc1 := 18) (ls1 := [some (.ref 1000000003), some (.ref 0), some (.ref 59), some (.int ((Int32.ofNat i) + 5))]) (st1 := []) rfl ?_
  exact hQ
theorem law_22 {d : Nat} {Q : KO → Prop} {h : KH} {L i : Nat} {xs : Nat → Int32} (ht : h.1 1000000003 = (30, L)) (hx : ∀ q, h.2.2.1 1000000003 q = xs q) (hL : L ≤ 2560) (hi5 : i + 5 ≤ L) (hi : Inv h) (hd : 31 ≤ d) (hj : JI h 126 [.ref 0, .int (xs ((i + 1))), .int (xs ((i + 2)))] 245 [.ref 59, .int (xs ((i + 1))), .int (xs ((i + 2)))]) (hQ : ∀ k, Inv k → k.1 1000000003 = (30, L) → (∀ q, k.2.2.1 1000000003 q = xs q) → k.2.2.2.2.1 ≤ h.2.2.2.2.1 + 5 → k.2.2.2.2.2 ≤ h.2.2.2.2.2 + 240 → far h k → Wp d 297 18 [some (.ref 1000000003), some (.ref 0), some (.ref 59), some (.int (Int32.ofNat i + 5))] [] k Q) : Wp d 297 876 [some (.ref 1000000003), some (.ref 0), some (.ref 59), some (.int (Int32.ofNat i))] [] h Q := by
  obtain ⟨v, hc⟩ := hj
  refine t_laA22 ht hx hL hi5 (Nat.zero_le _) ?_
  refine Wp.invV (d2 := 15) (as := [.ref 0, .int (xs ((i + 1))), .int (xs ((i + 2)))]) (r := []) (t := (10, 0)) rfl rfl rfl rfl (WF.t hi.1 0 rfl) rfl rfl ⟨rfl, rfl⟩ (by omega) (hc.far.post ?_)
  rintro _ ⟨⟨k, rfl, hm⟩, f1⟩
  have ht1 : k.1 1000000003 = (30, L) := (f1.2 1000000003 (by decide) (by rw [ht])).1.trans ht
  have hx1 : ∀ q, k.2.2.1 1000000003 q = xs q := fun q => by rw [(f1.2 1000000003 (by decide) (by rw [ht])).2]; exact hx q
  have h59 : k.1 59 = (11, 0) := (f1.1.2 59 (by have := hi.1.2.2.1; omega)).trans (WF.t hi.1 59 rfl)
  refine t_laB22 (h := k) (v := v) ht1 hx1 hL hi5 (Nat.zero_le _) ?_
  refine Wp.invV (d2 := 15) (as := [.ref 59, .int (xs ((i + 1))), .int (xs ((i + 2)))]) (r := [.int v]) (t := (11, 0)) rfl rfl rfl rfl h59 rfl rfl ⟨rfl, rfl⟩ (by omega) (hm.far.post ?_)
  rintro _ ⟨⟨k2, rfl, i2, s1, s2, fa⟩, f2⟩
  have ht2 : k2.1 1000000003 = (30, L) := (f2.2 1000000003 (by decide) (by rw [ht1])).1.trans ht1
  exact t_laC22 (h := k2) (v := v) (Nat.zero_le _) (hQ k2 i2 ht2 (fun q => by rw [(f2.2 1000000003 (by decide) (by rw [ht1])).2]; exact hx1 q) s1 s2 fa)
set_option maxHeartbeats 4000000 in
theorem t_laA23 {d : Nat} {Q : KO → Prop} {h : KH} {L i : Nat} {xs : Nat → Int32} (ht : h.1 1000000003 = (30, L)) (hx : ∀ q, h.2.2.1 1000000003 q = xs q) (hL : L ≤ 2560) (hi5 : i + 5 ≤ L) (hd : 0 ≤ d) (hQ : Wp d 297 915 ([some (.ref 1000000003), some (.ref 0), some (.ref 59), some (.int (Int32.ofNat i))]) [.int (xs ((i + 1))), .ref 0] h Q) : Wp d 297 909 [some (.ref 1000000003), some (.ref 0), some (.ref 59), some (.int (Int32.ofNat i))] [] h Q := by
  refine Wp.seg 5 (pc1 := 914) (ls1 := [some (.ref 1000000003), some (.ref 0), some (.ref 59), some (.int (Int32.ofNat i))]) (st1 := [.int ((Int32.ofNat i) + (1 : Int32)), .ref 1000000003, .ref 0]) rfl ?_
  refine Wp.iald (j := (i + 1)) (k := 30) (n := L) rfl ht rfl ((Int32.ofNat_add i 1).symm) (by omega) (by omega) ?_
  rw [show h.2.2.1 1000000003 ((i + 1)) = xs ((i + 1)) from hx ((i + 1))]
  exact hQ
set_option maxHeartbeats 4000000 in
theorem t_laB23 {d : Nat} {Q : KO → Prop} {h : KH} {L i : Nat} {xs : Nat → Int32} (ht : h.1 1000000003 = (30, L)) (hx : ∀ q, h.2.2.1 1000000003 q = xs q) (hL : L ≤ 2560) (hi5 : i + 5 ≤ L) {v : Int32} (hd : 0 ≤ d) (hQ : Wp d 297 924 ([some (.ref 1000000003), some (.ref 0), some (.ref 59), some (.int (Int32.ofNat i))]) [.int (xs ((i + 1))), .ref 59, .int (v)] h Q) : Wp d 297 918 [some (.ref 1000000003), some (.ref 0), some (.ref 59), some (.int (Int32.ofNat i))] [.int (v)] h Q := by
  refine Wp.seg 5 (pc1 := 923) (ls1 := [some (.ref 1000000003), some (.ref 0), some (.ref 59), some (.int (Int32.ofNat i))]) (st1 := [.int ((Int32.ofNat i) + (1 : Int32)), .ref 1000000003, .ref 59, .int (v)]) rfl ?_
  refine Wp.iald (j := (i + 1)) (k := 30) (n := L) rfl ht rfl ((Int32.ofNat_add i 1).symm) (by omega) (by omega) ?_
  rw [show h.2.2.1 1000000003 ((i + 1)) = xs ((i + 1)) from hx ((i + 1))]
  exact hQ
set_option maxHeartbeats 4000000 in
theorem t_laC23 {d : Nat} {Q : KO → Prop} {h : KH} {i : Nat} {v : Int32} (hd : 0 ≤ d) (hQ : Wp d 297 18 ([some (.ref 1000000003), some (.ref 0), some (.ref 59), some (.int ((Int32.ofNat i) + 5))]) [] h Q) : Wp d 297 927 [some (.ref 1000000003), some (.ref 0), some (.ref 59), some (.int (Int32.ofNat i))] [.int (v), .int (v)] h Q := by
  refine Wp.if2 rfl (fun c1 => ?_) (fun c1 => absurd (rfl) c1)
  refine Wp.seg 2 (pc1 := 18) (ls1 := [some (.ref 1000000003), some (.ref 0), some (.ref 59), some (.int ((Int32.ofNat i) + 5))]) (st1 := []) rfl ?_
  exact hQ
theorem law_23 {d : Nat} {Q : KO → Prop} {h : KH} {L i : Nat} {xs : Nat → Int32} (ht : h.1 1000000003 = (30, L)) (hx : ∀ q, h.2.2.1 1000000003 q = xs q) (hL : L ≤ 2560) (hi5 : i + 5 ≤ L) (hi : Inv h) (hd : 31 ≤ d) (hj : JI h 129 [.ref 0, .int (xs ((i + 1)))] 247 [.ref 59, .int (xs ((i + 1)))]) (hQ : ∀ k, Inv k → k.1 1000000003 = (30, L) → (∀ q, k.2.2.1 1000000003 q = xs q) → k.2.2.2.2.1 ≤ h.2.2.2.2.1 + 5 → k.2.2.2.2.2 ≤ h.2.2.2.2.2 + 240 → far h k → Wp d 297 18 [some (.ref 1000000003), some (.ref 0), some (.ref 59), some (.int (Int32.ofNat i + 5))] [] k Q) : Wp d 297 909 [some (.ref 1000000003), some (.ref 0), some (.ref 59), some (.int (Int32.ofNat i))] [] h Q := by
  obtain ⟨v, hc⟩ := hj
  refine t_laA23 ht hx hL hi5 (Nat.zero_le _) ?_
  refine Wp.invV (d2 := 15) (as := [.ref 0, .int (xs ((i + 1)))]) (r := []) (t := (10, 0)) rfl rfl rfl rfl (WF.t hi.1 0 rfl) rfl rfl ⟨rfl, rfl⟩ (by omega) (hc.far.post ?_)
  rintro _ ⟨⟨k, rfl, hm⟩, f1⟩
  have ht1 : k.1 1000000003 = (30, L) := (f1.2 1000000003 (by decide) (by rw [ht])).1.trans ht
  have hx1 : ∀ q, k.2.2.1 1000000003 q = xs q := fun q => by rw [(f1.2 1000000003 (by decide) (by rw [ht])).2]; exact hx q
  have h59 : k.1 59 = (11, 0) := (f1.1.2 59 (by have := hi.1.2.2.1; omega)).trans (WF.t hi.1 59 rfl)
  refine t_laB23 (h := k) (v := v) ht1 hx1 hL hi5 (Nat.zero_le _) ?_
  refine Wp.invV (d2 := 15) (as := [.ref 59, .int (xs ((i + 1)))]) (r := [.int v]) (t := (11, 0)) rfl rfl rfl rfl h59 rfl rfl ⟨rfl, rfl⟩ (by omega) (hm.far.post ?_)
  rintro _ ⟨⟨k2, rfl, i2, s1, s2, fa⟩, f2⟩
  have ht2 : k2.1 1000000003 = (30, L) := (f2.2 1000000003 (by decide) (by rw [ht1])).1.trans ht1
  exact t_laC23 (h := k2) (v := v) (Nat.zero_le _) (hQ k2 i2 ht2 (fun q => by rw [(f2.2 1000000003 (by decide) (by rw [ht1])).2]; exact hx1 q) s1 s2 fa)
set_option maxHeartbeats 4000000 in
theorem t_laA24 {d : Nat} {Q : KO → Prop} {h : KH} {L i : Nat} {xs : Nat → Int32} (ht : h.1 1000000003 = (30, L)) (hx : ∀ q, h.2.2.1 1000000003 q = xs q) (hL : L ≤ 2560) (hi5 : i + 5 ≤ L) (hd : 0 ≤ d) (hQ : Wp d 297 938 ([some (.ref 1000000003), some (.ref 0), some (.ref 59), some (.int (Int32.ofNat i))]) [.int (xs ((i + 1))), .ref 0] h Q) : Wp d 297 932 [some (.ref 1000000003), some (.ref 0), some (.ref 59), some (.int (Int32.ofNat i))] [] h Q := by
  refine Wp.seg 5 (pc1 := 937) (ls1 := [some (.ref 1000000003), some (.ref 0), some (.ref 59), some (.int (Int32.ofNat i))]) (st1 := [.int ((Int32.ofNat i) + (1 : Int32)), .ref 1000000003, .ref 0]) rfl ?_
  refine Wp.iald (j := (i + 1)) (k := 30) (n := L) rfl ht rfl ((Int32.ofNat_add i 1).symm) (by omega) (by omega) ?_
  rw [show h.2.2.1 1000000003 ((i + 1)) = xs ((i + 1)) from hx ((i + 1))]
  exact hQ
set_option maxHeartbeats 4000000 in
theorem t_laB24 {d : Nat} {Q : KO → Prop} {h : KH} {L i : Nat} {xs : Nat → Int32} (ht : h.1 1000000003 = (30, L)) (hx : ∀ q, h.2.2.1 1000000003 q = xs q) (hL : L ≤ 2560) (hi5 : i + 5 ≤ L) {v : Int32} (hd : 0 ≤ d) (hQ : Wp d 297 947 ([some (.ref 1000000003), some (.ref 0), some (.ref 59), some (.int (Int32.ofNat i))]) [.int (xs ((i + 1))), .ref 59, .int (v)] h Q) : Wp d 297 941 [some (.ref 1000000003), some (.ref 0), some (.ref 59), some (.int (Int32.ofNat i))] [.int (v)] h Q := by
  refine Wp.seg 5 (pc1 := 946) (ls1 := [some (.ref 1000000003), some (.ref 0), some (.ref 59), some (.int (Int32.ofNat i))]) (st1 := [.int ((Int32.ofNat i) + (1 : Int32)), .ref 1000000003, .ref 59, .int (v)]) rfl ?_
  refine Wp.iald (j := (i + 1)) (k := 30) (n := L) rfl ht rfl ((Int32.ofNat_add i 1).symm) (by omega) (by omega) ?_
  rw [show h.2.2.1 1000000003 ((i + 1)) = xs ((i + 1)) from hx ((i + 1))]
  exact hQ
set_option maxHeartbeats 4000000 in
theorem t_laC24 {d : Nat} {Q : KO → Prop} {h : KH} {i : Nat} {v : Int32} (hd : 0 ≤ d) (hQ : Wp d 297 18 ([some (.ref 1000000003), some (.ref 0), some (.ref 59), some (.int ((Int32.ofNat i) + 5))]) [] h Q) : Wp d 297 950 [some (.ref 1000000003), some (.ref 0), some (.ref 59), some (.int (Int32.ofNat i))] [.int (v), .int (v)] h Q := by
  refine Wp.if2 rfl (fun c1 => ?_) (fun c1 => absurd (rfl) c1)
  refine Wp.seg 2 (pc1 := 18) (ls1 := [some (.ref 1000000003), some (.ref 0), some (.ref 59), some (.int ((Int32.ofNat i) + 5))]) (st1 := []) rfl ?_
  exact hQ
theorem law_24 {d : Nat} {Q : KO → Prop} {h : KH} {L i : Nat} {xs : Nat → Int32} (ht : h.1 1000000003 = (30, L)) (hx : ∀ q, h.2.2.1 1000000003 q = xs q) (hL : L ≤ 2560) (hi5 : i + 5 ≤ L) (hi : Inv h) (hd : 31 ≤ d) (hj : JI h 130 [.ref 0, .int (xs ((i + 1)))] 248 [.ref 59, .int (xs ((i + 1)))]) (hQ : ∀ k, Inv k → k.1 1000000003 = (30, L) → (∀ q, k.2.2.1 1000000003 q = xs q) → k.2.2.2.2.1 ≤ h.2.2.2.2.1 + 5 → k.2.2.2.2.2 ≤ h.2.2.2.2.2 + 240 → far h k → Wp d 297 18 [some (.ref 1000000003), some (.ref 0), some (.ref 59), some (.int (Int32.ofNat i + 5))] [] k Q) : Wp d 297 932 [some (.ref 1000000003), some (.ref 0), some (.ref 59), some (.int (Int32.ofNat i))] [] h Q := by
  obtain ⟨v, hc⟩ := hj
  refine t_laA24 ht hx hL hi5 (Nat.zero_le _) ?_
  refine Wp.invV (d2 := 15) (as := [.ref 0, .int (xs ((i + 1)))]) (r := []) (t := (10, 0)) rfl rfl rfl rfl (WF.t hi.1 0 rfl) rfl rfl ⟨rfl, rfl⟩ (by omega) (hc.far.post ?_)
  rintro _ ⟨⟨k, rfl, hm⟩, f1⟩
  have ht1 : k.1 1000000003 = (30, L) := (f1.2 1000000003 (by decide) (by rw [ht])).1.trans ht
  have hx1 : ∀ q, k.2.2.1 1000000003 q = xs q := fun q => by rw [(f1.2 1000000003 (by decide) (by rw [ht])).2]; exact hx q
  have h59 : k.1 59 = (11, 0) := (f1.1.2 59 (by have := hi.1.2.2.1; omega)).trans (WF.t hi.1 59 rfl)
  refine t_laB24 (h := k) (v := v) ht1 hx1 hL hi5 (Nat.zero_le _) ?_
  refine Wp.invV (d2 := 15) (as := [.ref 59, .int (xs ((i + 1)))]) (r := [.int v]) (t := (11, 0)) rfl rfl rfl rfl h59 rfl rfl ⟨rfl, rfl⟩ (by omega) (hm.far.post ?_)
  rintro _ ⟨⟨k2, rfl, i2, s1, s2, fa⟩, f2⟩
  have ht2 : k2.1 1000000003 = (30, L) := (f2.2 1000000003 (by decide) (by rw [ht1])).1.trans ht1
  exact t_laC24 (h := k2) (v := v) (Nat.zero_le _) (hQ k2 i2 ht2 (fun q => by rw [(f2.2 1000000003 (by decide) (by rw [ht1])).2]; exact hx1 q) s1 s2 fa)
set_option maxHeartbeats 4000000 in
theorem t_laA25 {d : Nat} {Q : KO → Prop} {h : KH} {L i : Nat} {xs : Nat → Int32} (ht : h.1 1000000003 = (30, L)) (hx : ∀ q, h.2.2.1 1000000003 q = xs q) (hL : L ≤ 2560) (hi5 : i + 5 ≤ L) (hd : 0 ≤ d) (hQ : Wp d 297 971 ([some (.ref 1000000003), some (.ref 0), some (.ref 59), some (.int (Int32.ofNat i))]) [.int (xs ((i + 3))), .int (xs ((i + 2))), .int (xs ((i + 1))), .ref 0] h Q) : Wp d 297 955 [some (.ref 1000000003), some (.ref 0), some (.ref 59), some (.int (Int32.ofNat i))] [] h Q := by
  refine Wp.seg 5 (pc1 := 960) (ls1 := [some (.ref 1000000003), some (.ref 0), some (.ref 59), some (.int (Int32.ofNat i))]) (st1 := [.int ((Int32.ofNat i) + (1 : Int32)), .ref 1000000003, .ref 0]) rfl ?_
  refine Wp.iald (j := (i + 1)) (k := 30) (n := L) rfl ht rfl ((Int32.ofNat_add i 1).symm) (by omega) (by omega) ?_
  rw [show h.2.2.1 1000000003 ((i + 1)) = xs ((i + 1)) from hx ((i + 1))]
  refine Wp.seg 4 (pc1 := 965) (ls1 := [some (.ref 1000000003), some (.ref 0), some (.ref 59), some (.int (Int32.ofNat i))]) (st1 := [.int ((Int32.ofNat i) + (2 : Int32)), .ref 1000000003, .int (xs ((i + 1))), .ref 0]) rfl ?_
  refine Wp.iald (j := (i + 2)) (k := 30) (n := L) rfl ht rfl ((Int32.ofNat_add i 2).symm) (by omega) (by omega) ?_
  rw [show h.2.2.1 1000000003 ((i + 2)) = xs ((i + 2)) from hx ((i + 2))]
  refine Wp.seg 4 (pc1 := 970) (ls1 := [some (.ref 1000000003), some (.ref 0), some (.ref 59), some (.int (Int32.ofNat i))]) (st1 := [.int ((Int32.ofNat i) + (3 : Int32)), .ref 1000000003, .int (xs ((i + 2))), .int (xs ((i + 1))), .ref 0]) rfl ?_
  refine Wp.iald (j := (i + 3)) (k := 30) (n := L) rfl ht rfl ((Int32.ofNat_add i 3).symm) (by omega) (by omega) ?_
  rw [show h.2.2.1 1000000003 ((i + 3)) = xs ((i + 3)) from hx ((i + 3))]
  exact hQ
set_option maxHeartbeats 4000000 in
theorem t_laB25 {d : Nat} {Q : KO → Prop} {h : KH} {L i : Nat} {xs : Nat → Int32} (ht : h.1 1000000003 = (30, L)) (hx : ∀ q, h.2.2.1 1000000003 q = xs q) (hL : L ≤ 2560) (hi5 : i + 5 ≤ L) {v : Int32} (hd : 0 ≤ d) (hQ : Wp d 297 990 ([some (.ref 1000000003), some (.ref 0), some (.ref 59), some (.int (Int32.ofNat i))]) [.int (xs ((i + 3))), .int (xs ((i + 2))), .int (xs ((i + 1))), .ref 59, .int (v)] h Q) : Wp d 297 974 [some (.ref 1000000003), some (.ref 0), some (.ref 59), some (.int (Int32.ofNat i))] [.int (v)] h Q := by
  refine Wp.seg 5 (pc1 := 979) (ls1 := [some (.ref 1000000003), some (.ref 0), some (.ref 59), some (.int (Int32.ofNat i))]) (st1 := [.int ((Int32.ofNat i) + (1 : Int32)), .ref 1000000003, .ref 59, .int (v)]) rfl ?_
  refine Wp.iald (j := (i + 1)) (k := 30) (n := L) rfl ht rfl ((Int32.ofNat_add i 1).symm) (by omega) (by omega) ?_
  rw [show h.2.2.1 1000000003 ((i + 1)) = xs ((i + 1)) from hx ((i + 1))]
  refine Wp.seg 4 (pc1 := 984) (ls1 := [some (.ref 1000000003), some (.ref 0), some (.ref 59), some (.int (Int32.ofNat i))]) (st1 := [.int ((Int32.ofNat i) + (2 : Int32)), .ref 1000000003, .int (xs ((i + 1))), .ref 59, .int (v)]) rfl ?_
  refine Wp.iald (j := (i + 2)) (k := 30) (n := L) rfl ht rfl ((Int32.ofNat_add i 2).symm) (by omega) (by omega) ?_
  rw [show h.2.2.1 1000000003 ((i + 2)) = xs ((i + 2)) from hx ((i + 2))]
  refine Wp.seg 4 (pc1 := 989) (ls1 := [some (.ref 1000000003), some (.ref 0), some (.ref 59), some (.int (Int32.ofNat i))]) (st1 := [.int ((Int32.ofNat i) + (3 : Int32)), .ref 1000000003, .int (xs ((i + 2))), .int (xs ((i + 1))), .ref 59, .int (v)]) rfl ?_
  refine Wp.iald (j := (i + 3)) (k := 30) (n := L) rfl ht rfl ((Int32.ofNat_add i 3).symm) (by omega) (by omega) ?_
  rw [show h.2.2.1 1000000003 ((i + 3)) = xs ((i + 3)) from hx ((i + 3))]
  exact hQ
set_option maxHeartbeats 4000000 in
theorem t_laC25 {d : Nat} {Q : KO → Prop} {h : KH} {i : Nat} {v : Int32} (hd : 0 ≤ d) (hQ : Wp d 297 18 ([some (.ref 1000000003), some (.ref 0), some (.ref 59), some (.int ((Int32.ofNat i) + 5))]) [] h Q) : Wp d 297 993 [some (.ref 1000000003), some (.ref 0), some (.ref 59), some (.int (Int32.ofNat i))] [.int (v), .int (v)] h Q := by
  refine Wp.if2 rfl (fun c1 => ?_) (fun c1 => absurd (rfl) c1)
  refine Wp.seg 2 (pc1 := 18) (ls1 := [some (.ref 1000000003), some (.ref 0), some (.ref 59), some (.int ((Int32.ofNat i) + 5))]) (st1 := []) rfl ?_
  exact hQ
theorem law_25 {d : Nat} {Q : KO → Prop} {h : KH} {L i : Nat} {xs : Nat → Int32} (ht : h.1 1000000003 = (30, L)) (hx : ∀ q, h.2.2.1 1000000003 q = xs q) (hL : L ≤ 2560) (hi5 : i + 5 ≤ L) (hi : Inv h) (hd : 31 ≤ d) (hj : JI h 131 [.ref 0, .int (xs ((i + 1))), .int (xs ((i + 2))), .int (xs ((i + 3)))] 249 [.ref 59, .int (xs ((i + 1))), .int (xs ((i + 2))), .int (xs ((i + 3)))]) (hQ : ∀ k, Inv k → k.1 1000000003 = (30, L) → (∀ q, k.2.2.1 1000000003 q = xs q) → k.2.2.2.2.1 ≤ h.2.2.2.2.1 + 5 → k.2.2.2.2.2 ≤ h.2.2.2.2.2 + 240 → far h k → Wp d 297 18 [some (.ref 1000000003), some (.ref 0), some (.ref 59), some (.int (Int32.ofNat i + 5))] [] k Q) : Wp d 297 955 [some (.ref 1000000003), some (.ref 0), some (.ref 59), some (.int (Int32.ofNat i))] [] h Q := by
  obtain ⟨v, hc⟩ := hj
  refine t_laA25 ht hx hL hi5 (Nat.zero_le _) ?_
  refine Wp.invV (d2 := 15) (as := [.ref 0, .int (xs ((i + 1))), .int (xs ((i + 2))), .int (xs ((i + 3)))]) (r := []) (t := (10, 0)) rfl rfl rfl rfl (WF.t hi.1 0 rfl) rfl rfl ⟨rfl, rfl⟩ (by omega) (hc.far.post ?_)
  rintro _ ⟨⟨k, rfl, hm⟩, f1⟩
  have ht1 : k.1 1000000003 = (30, L) := (f1.2 1000000003 (by decide) (by rw [ht])).1.trans ht
  have hx1 : ∀ q, k.2.2.1 1000000003 q = xs q := fun q => by rw [(f1.2 1000000003 (by decide) (by rw [ht])).2]; exact hx q
  have h59 : k.1 59 = (11, 0) := (f1.1.2 59 (by have := hi.1.2.2.1; omega)).trans (WF.t hi.1 59 rfl)
  refine t_laB25 (h := k) (v := v) ht1 hx1 hL hi5 (Nat.zero_le _) ?_
  refine Wp.invV (d2 := 15) (as := [.ref 59, .int (xs ((i + 1))), .int (xs ((i + 2))), .int (xs ((i + 3)))]) (r := [.int v]) (t := (11, 0)) rfl rfl rfl rfl h59 rfl rfl ⟨rfl, rfl⟩ (by omega) (hm.far.post ?_)
  rintro _ ⟨⟨k2, rfl, i2, s1, s2, fa⟩, f2⟩
  have ht2 : k2.1 1000000003 = (30, L) := (f2.2 1000000003 (by decide) (by rw [ht1])).1.trans ht1
  exact t_laC25 (h := k2) (v := v) (Nat.zero_le _) (hQ k2 i2 ht2 (fun q => by rw [(f2.2 1000000003 (by decide) (by rw [ht1])).2]; exact hx1 q) s1 s2 fa)
set_option maxHeartbeats 4000000 in
theorem t_laA26 {d : Nat} {Q : KO → Prop} {h : KH} {L i : Nat} {xs : Nat → Int32} (ht : h.1 1000000003 = (30, L)) (hx : ∀ q, h.2.2.1 1000000003 q = xs q) (hL : L ≤ 2560) (hi5 : i + 5 ≤ L) (hd : 0 ≤ d) (hQ : Wp d 297 999 ([some (.ref 1000000003), some (.ref 0), some (.ref 59), some (.int (Int32.ofNat i))]) [.ref 0] h Q) : Wp d 297 998 [some (.ref 1000000003), some (.ref 0), some (.ref 59), some (.int (Int32.ofNat i))] [] h Q := by
  refine Wp.seg 1 (pc1 := 999) (ls1 := [some (.ref 1000000003), some (.ref 0), some (.ref 59), some (.int (Int32.ofNat i))]) (st1 := [.ref 0]) rfl ?_
  exact hQ
set_option maxHeartbeats 4000000 in
theorem t_laB26 {d : Nat} {Q : KO → Prop} {h : KH} {L i : Nat} {xs : Nat → Int32} (ht : h.1 1000000003 = (30, L)) (hx : ∀ q, h.2.2.1 1000000003 q = xs q) (hL : L ≤ 2560) (hi5 : i + 5 ≤ L) {v : Int32} (hd : 0 ≤ d) (hQ : Wp d 297 1003 ([some (.ref 1000000003), some (.ref 0), some (.ref 59), some (.int (Int32.ofNat i))]) [.ref 59, .int (v)] h Q) : Wp d 297 1002 [some (.ref 1000000003), some (.ref 0), some (.ref 59), some (.int (Int32.ofNat i))] [.int (v)] h Q := by
  refine Wp.seg 1 (pc1 := 1003) (ls1 := [some (.ref 1000000003), some (.ref 0), some (.ref 59), some (.int (Int32.ofNat i))]) (st1 := [.ref 59, .int (v)]) rfl ?_
  exact hQ
set_option maxHeartbeats 4000000 in
theorem t_laC26 {d : Nat} {Q : KO → Prop} {h : KH} {i : Nat} {v : Int32} (hd : 0 ≤ d) (hQ : Wp d 297 18 ([some (.ref 1000000003), some (.ref 0), some (.ref 59), some (.int ((Int32.ofNat i) + 5))]) [] h Q) : Wp d 297 1006 [some (.ref 1000000003), some (.ref 0), some (.ref 59), some (.int (Int32.ofNat i))] [.int (v), .int (v)] h Q := by
  refine Wp.if2 rfl (fun c1 => ?_) (fun c1 => absurd (rfl) c1)
  refine Wp.seg 2 (pc1 := 18) (ls1 := [some (.ref 1000000003), some (.ref 0), some (.ref 59), some (.int ((Int32.ofNat i) + 5))]) (st1 := []) rfl ?_
  exact hQ
theorem law_26 {d : Nat} {Q : KO → Prop} {h : KH} {L i : Nat} {xs : Nat → Int32} (ht : h.1 1000000003 = (30, L)) (hx : ∀ q, h.2.2.1 1000000003 q = xs q) (hL : L ≤ 2560) (hi5 : i + 5 ≤ L) (hi : Inv h) (hd : 31 ≤ d) (hj : JI h 132 [.ref 0] 250 [.ref 59]) (hQ : ∀ k, Inv k → k.1 1000000003 = (30, L) → (∀ q, k.2.2.1 1000000003 q = xs q) → k.2.2.2.2.1 ≤ h.2.2.2.2.1 + 5 → k.2.2.2.2.2 ≤ h.2.2.2.2.2 + 240 → far h k → Wp d 297 18 [some (.ref 1000000003), some (.ref 0), some (.ref 59), some (.int (Int32.ofNat i + 5))] [] k Q) : Wp d 297 998 [some (.ref 1000000003), some (.ref 0), some (.ref 59), some (.int (Int32.ofNat i))] [] h Q := by
  obtain ⟨v, hc⟩ := hj
  refine t_laA26 ht hx hL hi5 (Nat.zero_le _) ?_
  refine Wp.invV (d2 := 15) (as := [.ref 0]) (r := []) (t := (10, 0)) rfl rfl rfl rfl (WF.t hi.1 0 rfl) rfl rfl ⟨rfl, rfl⟩ (by omega) (hc.far.post ?_)
  rintro _ ⟨⟨k, rfl, hm⟩, f1⟩
  have ht1 : k.1 1000000003 = (30, L) := (f1.2 1000000003 (by decide) (by rw [ht])).1.trans ht
  have hx1 : ∀ q, k.2.2.1 1000000003 q = xs q := fun q => by rw [(f1.2 1000000003 (by decide) (by rw [ht])).2]; exact hx q
  have h59 : k.1 59 = (11, 0) := (f1.1.2 59 (by have := hi.1.2.2.1; omega)).trans (WF.t hi.1 59 rfl)
  refine t_laB26 (h := k) (v := v) ht1 hx1 hL hi5 (Nat.zero_le _) ?_
  refine Wp.invV (d2 := 15) (as := [.ref 59]) (r := [.int v]) (t := (11, 0)) rfl rfl rfl rfl h59 rfl rfl ⟨rfl, rfl⟩ (by omega) (hm.far.post ?_)
  rintro _ ⟨⟨k2, rfl, i2, s1, s2, fa⟩, f2⟩
  have ht2 : k2.1 1000000003 = (30, L) := (f2.2 1000000003 (by decide) (by rw [ht1])).1.trans ht1
  exact t_laC26 (h := k2) (v := v) (Nat.zero_le _) (hQ k2 i2 ht2 (fun q => by rw [(f2.2 1000000003 (by decide) (by rw [ht1])).2]; exact hx1 q) s1 s2 fa)
set_option maxHeartbeats 4000000 in
theorem t_laA27 {d : Nat} {Q : KO → Prop} {h : KH} {L i : Nat} {xs : Nat → Int32} (ht : h.1 1000000003 = (30, L)) (hx : ∀ q, h.2.2.1 1000000003 q = xs q) (hL : L ≤ 2560) (hi5 : i + 5 ≤ L) (hd : 0 ≤ d) (hQ : Wp d 297 1017 ([some (.ref 1000000003), some (.ref 0), some (.ref 59), some (.int (Int32.ofNat i))]) [.int (xs ((i + 1))), .ref 0] h Q) : Wp d 297 1011 [some (.ref 1000000003), some (.ref 0), some (.ref 59), some (.int (Int32.ofNat i))] [] h Q := by
  refine Wp.seg 5 (pc1 := 1016) (ls1 := [some (.ref 1000000003), some (.ref 0), some (.ref 59), some (.int (Int32.ofNat i))]) (st1 := [.int ((Int32.ofNat i) + (1 : Int32)), .ref 1000000003, .ref 0]) rfl ?_
  refine Wp.iald (j := (i + 1)) (k := 30) (n := L) rfl ht rfl ((Int32.ofNat_add i 1).symm) (by omega) (by omega) ?_
  rw [show h.2.2.1 1000000003 ((i + 1)) = xs ((i + 1)) from hx ((i + 1))]
  exact hQ
set_option maxHeartbeats 4000000 in
theorem t_laB27 {d : Nat} {Q : KO → Prop} {h : KH} {L i : Nat} {xs : Nat → Int32} (ht : h.1 1000000003 = (30, L)) (hx : ∀ q, h.2.2.1 1000000003 q = xs q) (hL : L ≤ 2560) (hi5 : i + 5 ≤ L) {v : Int32} (hd : 0 ≤ d) (hQ : Wp d 297 1026 ([some (.ref 1000000003), some (.ref 0), some (.ref 59), some (.int (Int32.ofNat i))]) [.int (xs ((i + 1))), .ref 59, .int (v)] h Q) : Wp d 297 1020 [some (.ref 1000000003), some (.ref 0), some (.ref 59), some (.int (Int32.ofNat i))] [.int (v)] h Q := by
  refine Wp.seg 5 (pc1 := 1025) (ls1 := [some (.ref 1000000003), some (.ref 0), some (.ref 59), some (.int (Int32.ofNat i))]) (st1 := [.int ((Int32.ofNat i) + (1 : Int32)), .ref 1000000003, .ref 59, .int (v)]) rfl ?_
  refine Wp.iald (j := (i + 1)) (k := 30) (n := L) rfl ht rfl ((Int32.ofNat_add i 1).symm) (by omega) (by omega) ?_
  rw [show h.2.2.1 1000000003 ((i + 1)) = xs ((i + 1)) from hx ((i + 1))]
  exact hQ
set_option maxHeartbeats 4000000 in
theorem t_laC27 {d : Nat} {Q : KO → Prop} {h : KH} {i : Nat} {v : Int32} (hd : 0 ≤ d) (hQ : Wp d 297 18 ([some (.ref 1000000003), some (.ref 0), some (.ref 59), some (.int ((Int32.ofNat i) + 5))]) [] h Q) : Wp d 297 1029 [some (.ref 1000000003), some (.ref 0), some (.ref 59), some (.int (Int32.ofNat i))] [.int (v), .int (v)] h Q := by
  refine Wp.if2 rfl (fun c1 => ?_) (fun c1 => absurd (rfl) c1)
  refine Wp.seg 2 (pc1 := 18) (ls1 := [some (.ref 1000000003), some (.ref 0), some (.ref 59), some (.int ((Int32.ofNat i) + 5))]) (st1 := []) rfl ?_
  exact hQ
theorem law_27 {d : Nat} {Q : KO → Prop} {h : KH} {L i : Nat} {xs : Nat → Int32} (ht : h.1 1000000003 = (30, L)) (hx : ∀ q, h.2.2.1 1000000003 q = xs q) (hL : L ≤ 2560) (hi5 : i + 5 ≤ L) (hi : Inv h) (hd : 31 ≤ d) (hj : JI h 133 [.ref 0, .int (xs ((i + 1)))] 253 [.ref 59, .int (xs ((i + 1)))]) (hQ : ∀ k, Inv k → k.1 1000000003 = (30, L) → (∀ q, k.2.2.1 1000000003 q = xs q) → k.2.2.2.2.1 ≤ h.2.2.2.2.1 + 5 → k.2.2.2.2.2 ≤ h.2.2.2.2.2 + 240 → far h k → Wp d 297 18 [some (.ref 1000000003), some (.ref 0), some (.ref 59), some (.int (Int32.ofNat i + 5))] [] k Q) : Wp d 297 1011 [some (.ref 1000000003), some (.ref 0), some (.ref 59), some (.int (Int32.ofNat i))] [] h Q := by
  obtain ⟨v, hc⟩ := hj
  refine t_laA27 ht hx hL hi5 (Nat.zero_le _) ?_
  refine Wp.invV (d2 := 15) (as := [.ref 0, .int (xs ((i + 1)))]) (r := []) (t := (10, 0)) rfl rfl rfl rfl (WF.t hi.1 0 rfl) rfl rfl ⟨rfl, rfl⟩ (by omega) (hc.far.post ?_)
  rintro _ ⟨⟨k, rfl, hm⟩, f1⟩
  have ht1 : k.1 1000000003 = (30, L) := (f1.2 1000000003 (by decide) (by rw [ht])).1.trans ht
  have hx1 : ∀ q, k.2.2.1 1000000003 q = xs q := fun q => by rw [(f1.2 1000000003 (by decide) (by rw [ht])).2]; exact hx q
  have h59 : k.1 59 = (11, 0) := (f1.1.2 59 (by have := hi.1.2.2.1; omega)).trans (WF.t hi.1 59 rfl)
  refine t_laB27 (h := k) (v := v) ht1 hx1 hL hi5 (Nat.zero_le _) ?_
  refine Wp.invV (d2 := 15) (as := [.ref 59, .int (xs ((i + 1)))]) (r := [.int v]) (t := (11, 0)) rfl rfl rfl rfl h59 rfl rfl ⟨rfl, rfl⟩ (by omega) (hm.far.post ?_)
  rintro _ ⟨⟨k2, rfl, i2, s1, s2, fa⟩, f2⟩
  have ht2 : k2.1 1000000003 = (30, L) := (f2.2 1000000003 (by decide) (by rw [ht1])).1.trans ht1
  exact t_laC27 (h := k2) (v := v) (Nat.zero_le _) (hQ k2 i2 ht2 (fun q => by rw [(f2.2 1000000003 (by decide) (by rw [ht1])).2]; exact hx1 q) s1 s2 fa)
set_option maxHeartbeats 4000000 in
theorem t_laA28 {d : Nat} {Q : KO → Prop} {h : KH} {L i : Nat} {xs : Nat → Int32} (ht : h.1 1000000003 = (30, L)) (hx : ∀ q, h.2.2.1 1000000003 q = xs q) (hL : L ≤ 2560) (hi5 : i + 5 ≤ L) (hd : 0 ≤ d) (hQ : Wp d 297 1035 ([some (.ref 1000000003), some (.ref 0), some (.ref 59), some (.int (Int32.ofNat i))]) [.ref 0] h Q) : Wp d 297 1034 [some (.ref 1000000003), some (.ref 0), some (.ref 59), some (.int (Int32.ofNat i))] [] h Q := by
  refine Wp.seg 1 (pc1 := 1035) (ls1 := [some (.ref 1000000003), some (.ref 0), some (.ref 59), some (.int (Int32.ofNat i))]) (st1 := [.ref 0]) rfl ?_
  exact hQ
set_option maxHeartbeats 4000000 in
theorem t_laB28 {d : Nat} {Q : KO → Prop} {h : KH} {L i : Nat} {xs : Nat → Int32} (ht : h.1 1000000003 = (30, L)) (hx : ∀ q, h.2.2.1 1000000003 q = xs q) (hL : L ≤ 2560) (hi5 : i + 5 ≤ L) {v : Int32} (hd : 0 ≤ d) (hQ : Wp d 297 1039 ([some (.ref 1000000003), some (.ref 0), some (.ref 59), some (.int (Int32.ofNat i))]) [.ref 59, .int (v)] h Q) : Wp d 297 1038 [some (.ref 1000000003), some (.ref 0), some (.ref 59), some (.int (Int32.ofNat i))] [.int (v)] h Q := by
  refine Wp.seg 1 (pc1 := 1039) (ls1 := [some (.ref 1000000003), some (.ref 0), some (.ref 59), some (.int (Int32.ofNat i))]) (st1 := [.ref 59, .int (v)]) rfl ?_
  exact hQ
set_option maxHeartbeats 4000000 in
theorem t_laC28 {d : Nat} {Q : KO → Prop} {h : KH} {i : Nat} {v : Int32} (hd : 0 ≤ d) (hQ : Wp d 297 18 ([some (.ref 1000000003), some (.ref 0), some (.ref 59), some (.int ((Int32.ofNat i) + 5))]) [] h Q) : Wp d 297 1042 [some (.ref 1000000003), some (.ref 0), some (.ref 59), some (.int (Int32.ofNat i))] [.int (v), .int (v)] h Q := by
  refine Wp.if2 rfl (fun c1 => ?_) (fun c1 => absurd (rfl) c1)
  refine Wp.seg 2 (pc1 := 18) (ls1 := [some (.ref 1000000003), some (.ref 0), some (.ref 59), some (.int ((Int32.ofNat i) + 5))]) (st1 := []) rfl ?_
  exact hQ
theorem law_28 {d : Nat} {Q : KO → Prop} {h : KH} {L i : Nat} {xs : Nat → Int32} (ht : h.1 1000000003 = (30, L)) (hx : ∀ q, h.2.2.1 1000000003 q = xs q) (hL : L ≤ 2560) (hi5 : i + 5 ≤ L) (hi : Inv h) (hd : 31 ≤ d) (hj : JI h 134 [.ref 0] 254 [.ref 59]) (hQ : ∀ k, Inv k → k.1 1000000003 = (30, L) → (∀ q, k.2.2.1 1000000003 q = xs q) → k.2.2.2.2.1 ≤ h.2.2.2.2.1 + 5 → k.2.2.2.2.2 ≤ h.2.2.2.2.2 + 240 → far h k → Wp d 297 18 [some (.ref 1000000003), some (.ref 0), some (.ref 59), some (.int (Int32.ofNat i + 5))] [] k Q) : Wp d 297 1034 [some (.ref 1000000003), some (.ref 0), some (.ref 59), some (.int (Int32.ofNat i))] [] h Q := by
  obtain ⟨v, hc⟩ := hj
  refine t_laA28 ht hx hL hi5 (Nat.zero_le _) ?_
  refine Wp.invV (d2 := 15) (as := [.ref 0]) (r := []) (t := (10, 0)) rfl rfl rfl rfl (WF.t hi.1 0 rfl) rfl rfl ⟨rfl, rfl⟩ (by omega) (hc.far.post ?_)
  rintro _ ⟨⟨k, rfl, hm⟩, f1⟩
  have ht1 : k.1 1000000003 = (30, L) := (f1.2 1000000003 (by decide) (by rw [ht])).1.trans ht
  have hx1 : ∀ q, k.2.2.1 1000000003 q = xs q := fun q => by rw [(f1.2 1000000003 (by decide) (by rw [ht])).2]; exact hx q
  have h59 : k.1 59 = (11, 0) := (f1.1.2 59 (by have := hi.1.2.2.1; omega)).trans (WF.t hi.1 59 rfl)
  refine t_laB28 (h := k) (v := v) ht1 hx1 hL hi5 (Nat.zero_le _) ?_
  refine Wp.invV (d2 := 15) (as := [.ref 59]) (r := [.int v]) (t := (11, 0)) rfl rfl rfl rfl h59 rfl rfl ⟨rfl, rfl⟩ (by omega) (hm.far.post ?_)
  rintro _ ⟨⟨k2, rfl, i2, s1, s2, fa⟩, f2⟩
  have ht2 : k2.1 1000000003 = (30, L) := (f2.2 1000000003 (by decide) (by rw [ht1])).1.trans ht1
  exact t_laC28 (h := k2) (v := v) (Nat.zero_le _) (hQ k2 i2 ht2 (fun q => by rw [(f2.2 1000000003 (by decide) (by rw [ht1])).2]; exact hx1 q) s1 s2 fa)
set_option maxHeartbeats 4000000 in
theorem t_laA29 {d : Nat} {Q : KO → Prop} {h : KH} {L i : Nat} {xs : Nat → Int32} (ht : h.1 1000000003 = (30, L)) (hx : ∀ q, h.2.2.1 1000000003 q = xs q) (hL : L ≤ 2560) (hi5 : i + 5 ≤ L) (hd : 0 ≤ d) (hQ : Wp d 297 1053 ([some (.ref 1000000003), some (.ref 0), some (.ref 59), some (.int (Int32.ofNat i))]) [.int (xs ((i + 1))), .ref 0] h Q) : Wp d 297 1047 [some (.ref 1000000003), some (.ref 0), some (.ref 59), some (.int (Int32.ofNat i))] [] h Q := by
  refine Wp.seg 5 (pc1 := 1052) (ls1 := [some (.ref 1000000003), some (.ref 0), some (.ref 59), some (.int (Int32.ofNat i))]) (st1 := [.int ((Int32.ofNat i) + (1 : Int32)), .ref 1000000003, .ref 0]) rfl ?_
  refine Wp.iald (j := (i + 1)) (k := 30) (n := L) rfl ht rfl ((Int32.ofNat_add i 1).symm) (by omega) (by omega) ?_
  rw [show h.2.2.1 1000000003 ((i + 1)) = xs ((i + 1)) from hx ((i + 1))]
  exact hQ
set_option maxHeartbeats 4000000 in
theorem t_laB29 {d : Nat} {Q : KO → Prop} {h : KH} {L i : Nat} {xs : Nat → Int32} (ht : h.1 1000000003 = (30, L)) (hx : ∀ q, h.2.2.1 1000000003 q = xs q) (hL : L ≤ 2560) (hi5 : i + 5 ≤ L) {v : Int32} (hd : 0 ≤ d) (hQ : Wp d 297 1062 ([some (.ref 1000000003), some (.ref 0), some (.ref 59), some (.int (Int32.ofNat i))]) [.int (xs ((i + 1))), .ref 59, .int (v)] h Q) : Wp d 297 1056 [some (.ref 1000000003), some (.ref 0), some (.ref 59), some (.int (Int32.ofNat i))] [.int (v)] h Q := by
  refine Wp.seg 5 (pc1 := 1061) (ls1 := [some (.ref 1000000003), some (.ref 0), some (.ref 59), some (.int (Int32.ofNat i))]) (st1 := [.int ((Int32.ofNat i) + (1 : Int32)), .ref 1000000003, .ref 59, .int (v)]) rfl ?_
  refine Wp.iald (j := (i + 1)) (k := 30) (n := L) rfl ht rfl ((Int32.ofNat_add i 1).symm) (by omega) (by omega) ?_
  rw [show h.2.2.1 1000000003 ((i + 1)) = xs ((i + 1)) from hx ((i + 1))]
  exact hQ
set_option maxHeartbeats 4000000 in
theorem t_laC29 {d : Nat} {Q : KO → Prop} {h : KH} {i : Nat} {v : Int32} (hd : 0 ≤ d) (hQ : Wp d 297 18 ([some (.ref 1000000003), some (.ref 0), some (.ref 59), some (.int ((Int32.ofNat i) + 5))]) [] h Q) : Wp d 297 1065 [some (.ref 1000000003), some (.ref 0), some (.ref 59), some (.int (Int32.ofNat i))] [.int (v), .int (v)] h Q := by
  refine Wp.if2 rfl (fun c1 => ?_) (fun c1 => absurd (rfl) c1)
  refine Wp.seg 2 (pc1 := 18) (ls1 := [some (.ref 1000000003), some (.ref 0), some (.ref 59), some (.int ((Int32.ofNat i) + 5))]) (st1 := []) rfl ?_
  exact hQ
theorem law_29 {d : Nat} {Q : KO → Prop} {h : KH} {L i : Nat} {xs : Nat → Int32} (ht : h.1 1000000003 = (30, L)) (hx : ∀ q, h.2.2.1 1000000003 q = xs q) (hL : L ≤ 2560) (hi5 : i + 5 ≤ L) (hi : Inv h) (hd : 31 ≤ d) (hj : JI h 139 [.ref 0, .int (xs ((i + 1)))] 255 [.ref 59, .int (xs ((i + 1)))]) (hQ : ∀ k, Inv k → k.1 1000000003 = (30, L) → (∀ q, k.2.2.1 1000000003 q = xs q) → k.2.2.2.2.1 ≤ h.2.2.2.2.1 + 5 → k.2.2.2.2.2 ≤ h.2.2.2.2.2 + 240 → far h k → Wp d 297 18 [some (.ref 1000000003), some (.ref 0), some (.ref 59), some (.int (Int32.ofNat i + 5))] [] k Q) : Wp d 297 1047 [some (.ref 1000000003), some (.ref 0), some (.ref 59), some (.int (Int32.ofNat i))] [] h Q := by
  obtain ⟨v, hc⟩ := hj
  refine t_laA29 ht hx hL hi5 (Nat.zero_le _) ?_
  refine Wp.invV (d2 := 15) (as := [.ref 0, .int (xs ((i + 1)))]) (r := []) (t := (10, 0)) rfl rfl rfl rfl (WF.t hi.1 0 rfl) rfl rfl ⟨rfl, rfl⟩ (by omega) (hc.far.post ?_)
  rintro _ ⟨⟨k, rfl, hm⟩, f1⟩
  have ht1 : k.1 1000000003 = (30, L) := (f1.2 1000000003 (by decide) (by rw [ht])).1.trans ht
  have hx1 : ∀ q, k.2.2.1 1000000003 q = xs q := fun q => by rw [(f1.2 1000000003 (by decide) (by rw [ht])).2]; exact hx q
  have h59 : k.1 59 = (11, 0) := (f1.1.2 59 (by have := hi.1.2.2.1; omega)).trans (WF.t hi.1 59 rfl)
  refine t_laB29 (h := k) (v := v) ht1 hx1 hL hi5 (Nat.zero_le _) ?_
  refine Wp.invV (d2 := 15) (as := [.ref 59, .int (xs ((i + 1)))]) (r := [.int v]) (t := (11, 0)) rfl rfl rfl rfl h59 rfl rfl ⟨rfl, rfl⟩ (by omega) (hm.far.post ?_)
  rintro _ ⟨⟨k2, rfl, i2, s1, s2, fa⟩, f2⟩
  have ht2 : k2.1 1000000003 = (30, L) := (f2.2 1000000003 (by decide) (by rw [ht1])).1.trans ht1
  exact t_laC29 (h := k2) (v := v) (Nat.zero_le _) (hQ k2 i2 ht2 (fun q => by rw [(f2.2 1000000003 (by decide) (by rw [ht1])).2]; exact hx1 q) s1 s2 fa)
set_option maxHeartbeats 4000000 in
theorem t_laA30 {d : Nat} {Q : KO → Prop} {h : KH} {L i : Nat} {xs : Nat → Int32} (ht : h.1 1000000003 = (30, L)) (hx : ∀ q, h.2.2.1 1000000003 q = xs q) (hL : L ≤ 2560) (hi5 : i + 5 ≤ L) (hd : 0 ≤ d) (hQ : Wp d 297 1071 ([some (.ref 1000000003), some (.ref 0), some (.ref 59), some (.int (Int32.ofNat i))]) [.ref 0] h Q) : Wp d 297 1070 [some (.ref 1000000003), some (.ref 0), some (.ref 59), some (.int (Int32.ofNat i))] [] h Q := by
  refine Wp.seg 1 (pc1 := 1071) (ls1 := [some (.ref 1000000003), some (.ref 0), some (.ref 59), some (.int (Int32.ofNat i))]) (st1 := [.ref 0]) rfl ?_
  exact hQ
set_option maxHeartbeats 4000000 in
theorem t_laB30 {d : Nat} {Q : KO → Prop} {h : KH} {L i : Nat} {xs : Nat → Int32} (ht : h.1 1000000003 = (30, L)) (hx : ∀ q, h.2.2.1 1000000003 q = xs q) (hL : L ≤ 2560) (hi5 : i + 5 ≤ L) {v : Int32} (hd : 0 ≤ d) (hQ : Wp d 297 1075 ([some (.ref 1000000003), some (.ref 0), some (.ref 59), some (.int (Int32.ofNat i))]) [.ref 59, .int (v)] h Q) : Wp d 297 1074 [some (.ref 1000000003), some (.ref 0), some (.ref 59), some (.int (Int32.ofNat i))] [.int (v)] h Q := by
  refine Wp.seg 1 (pc1 := 1075) (ls1 := [some (.ref 1000000003), some (.ref 0), some (.ref 59), some (.int (Int32.ofNat i))]) (st1 := [.ref 59, .int (v)]) rfl ?_
  exact hQ
set_option maxHeartbeats 4000000 in
theorem t_laC30 {d : Nat} {Q : KO → Prop} {h : KH} {i : Nat} {v : Int32} (hd : 0 ≤ d) (hQ : Wp d 297 18 ([some (.ref 1000000003), some (.ref 0), some (.ref 59), some (.int ((Int32.ofNat i) + 5))]) [] h Q) : Wp d 297 1078 [some (.ref 1000000003), some (.ref 0), some (.ref 59), some (.int (Int32.ofNat i))] [.int (v), .int (v)] h Q := by
  refine Wp.if2 rfl (fun c1 => ?_) (fun c1 => absurd (rfl) c1)
  refine Wp.seg 2 (pc1 := 18) (ls1 := [some (.ref 1000000003), some (.ref 0), some (.ref 59), some (.int ((Int32.ofNat i) + 5))]) (st1 := []) rfl ?_
  exact hQ
theorem law_30 {d : Nat} {Q : KO → Prop} {h : KH} {L i : Nat} {xs : Nat → Int32} (ht : h.1 1000000003 = (30, L)) (hx : ∀ q, h.2.2.1 1000000003 q = xs q) (hL : L ≤ 2560) (hi5 : i + 5 ≤ L) (hi : Inv h) (hd : 31 ≤ d) (hj : JI h 140 [.ref 0] 257 [.ref 59]) (hQ : ∀ k, Inv k → k.1 1000000003 = (30, L) → (∀ q, k.2.2.1 1000000003 q = xs q) → k.2.2.2.2.1 ≤ h.2.2.2.2.1 + 5 → k.2.2.2.2.2 ≤ h.2.2.2.2.2 + 240 → far h k → Wp d 297 18 [some (.ref 1000000003), some (.ref 0), some (.ref 59), some (.int (Int32.ofNat i + 5))] [] k Q) : Wp d 297 1070 [some (.ref 1000000003), some (.ref 0), some (.ref 59), some (.int (Int32.ofNat i))] [] h Q := by
  obtain ⟨v, hc⟩ := hj
  refine t_laA30 ht hx hL hi5 (Nat.zero_le _) ?_
  refine Wp.invV (d2 := 15) (as := [.ref 0]) (r := []) (t := (10, 0)) rfl rfl rfl rfl (WF.t hi.1 0 rfl) rfl rfl ⟨rfl, rfl⟩ (by omega) (hc.far.post ?_)
  rintro _ ⟨⟨k, rfl, hm⟩, f1⟩
  have ht1 : k.1 1000000003 = (30, L) := (f1.2 1000000003 (by decide) (by rw [ht])).1.trans ht
  have hx1 : ∀ q, k.2.2.1 1000000003 q = xs q := fun q => by rw [(f1.2 1000000003 (by decide) (by rw [ht])).2]; exact hx q
  have h59 : k.1 59 = (11, 0) := (f1.1.2 59 (by have := hi.1.2.2.1; omega)).trans (WF.t hi.1 59 rfl)
  refine t_laB30 (h := k) (v := v) ht1 hx1 hL hi5 (Nat.zero_le _) ?_
  refine Wp.invV (d2 := 15) (as := [.ref 59]) (r := [.int v]) (t := (11, 0)) rfl rfl rfl rfl h59 rfl rfl ⟨rfl, rfl⟩ (by omega) (hm.far.post ?_)
  rintro _ ⟨⟨k2, rfl, i2, s1, s2, fa⟩, f2⟩
  have ht2 : k2.1 1000000003 = (30, L) := (f2.2 1000000003 (by decide) (by rw [ht1])).1.trans ht1
  exact t_laC30 (h := k2) (v := v) (Nat.zero_le _) (hQ k2 i2 ht2 (fun q => by rw [(f2.2 1000000003 (by decide) (by rw [ht1])).2]; exact hx1 q) s1 s2 fa)
set_option maxHeartbeats 4000000 in
theorem t_laA31 {d : Nat} {Q : KO → Prop} {h : KH} {L i : Nat} {xs : Nat → Int32} (ht : h.1 1000000003 = (30, L)) (hx : ∀ q, h.2.2.1 1000000003 q = xs q) (hL : L ≤ 2560) (hi5 : i + 5 ≤ L) (hd : 0 ≤ d) (hQ : Wp d 297 1094 ([some (.ref 1000000003), some (.ref 0), some (.ref 59), some (.int (Int32.ofNat i))]) [.int (xs ((i + 2))), .int (xs ((i + 1))), .ref 0] h Q) : Wp d 297 1083 [some (.ref 1000000003), some (.ref 0), some (.ref 59), some (.int (Int32.ofNat i))] [] h Q := by
  refine Wp.seg 5 (pc1 := 1088) (ls1 := [some (.ref 1000000003), some (.ref 0), some (.ref 59), some (.int (Int32.ofNat i))]) (st1 := [.int ((Int32.ofNat i) + (1 : Int32)), .ref 1000000003, .ref 0]) rfl ?_
  refine Wp.iald (j := (i + 1)) (k := 30) (n := L) rfl ht rfl ((Int32.ofNat_add i 1).symm) (by omega) (by omega) ?_
  rw [show h.2.2.1 1000000003 ((i + 1)) = xs ((i + 1)) from hx ((i + 1))]
  refine Wp.seg 4 (pc1 := 1093) (ls1 := [some (.ref 1000000003), some (.ref 0), some (.ref 59), some (.int (Int32.ofNat i))]) (st1 := [.int ((Int32.ofNat i) + (2 : Int32)), .ref 1000000003, .int (xs ((i + 1))), .ref 0]) rfl ?_
  refine Wp.iald (j := (i + 2)) (k := 30) (n := L) rfl ht rfl ((Int32.ofNat_add i 2).symm) (by omega) (by omega) ?_
  rw [show h.2.2.1 1000000003 ((i + 2)) = xs ((i + 2)) from hx ((i + 2))]
  exact hQ
set_option maxHeartbeats 4000000 in
theorem t_laB31 {d : Nat} {Q : KO → Prop} {h : KH} {L i : Nat} {xs : Nat → Int32} (ht : h.1 1000000003 = (30, L)) (hx : ∀ q, h.2.2.1 1000000003 q = xs q) (hL : L ≤ 2560) (hi5 : i + 5 ≤ L) {v : Int32} (hd : 0 ≤ d) (hQ : Wp d 297 1108 ([some (.ref 1000000003), some (.ref 0), some (.ref 59), some (.int (Int32.ofNat i))]) [.int (xs ((i + 2))), .int (xs ((i + 1))), .ref 59, .int (v)] h Q) : Wp d 297 1097 [some (.ref 1000000003), some (.ref 0), some (.ref 59), some (.int (Int32.ofNat i))] [.int (v)] h Q := by
  refine Wp.seg 5 (pc1 := 1102) (ls1 := [some (.ref 1000000003), some (.ref 0), some (.ref 59), some (.int (Int32.ofNat i))]) (st1 := [.int ((Int32.ofNat i) + (1 : Int32)), .ref 1000000003, .ref 59, .int (v)]) rfl ?_
  refine Wp.iald (j := (i + 1)) (k := 30) (n := L) rfl ht rfl ((Int32.ofNat_add i 1).symm) (by omega) (by omega) ?_
  rw [show h.2.2.1 1000000003 ((i + 1)) = xs ((i + 1)) from hx ((i + 1))]
  refine Wp.seg 4 (pc1 := 1107) (ls1 := [some (.ref 1000000003), some (.ref 0), some (.ref 59), some (.int (Int32.ofNat i))]) (st1 := [.int ((Int32.ofNat i) + (2 : Int32)), .ref 1000000003, .int (xs ((i + 1))), .ref 59, .int (v)]) rfl ?_
  refine Wp.iald (j := (i + 2)) (k := 30) (n := L) rfl ht rfl ((Int32.ofNat_add i 2).symm) (by omega) (by omega) ?_
  rw [show h.2.2.1 1000000003 ((i + 2)) = xs ((i + 2)) from hx ((i + 2))]
  exact hQ
set_option maxHeartbeats 4000000 in
theorem t_laC31 {d : Nat} {Q : KO → Prop} {h : KH} {i : Nat} {v : Int32} (hd : 0 ≤ d) (hQ : Wp d 297 18 ([some (.ref 1000000003), some (.ref 0), some (.ref 59), some (.int ((Int32.ofNat i) + 5))]) [] h Q) : Wp d 297 1111 [some (.ref 1000000003), some (.ref 0), some (.ref 59), some (.int (Int32.ofNat i))] [.int (v), .int (v)] h Q := by
  refine Wp.if2 rfl (fun c1 => ?_) (fun c1 => absurd (rfl) c1)
  refine Wp.seg 2 (pc1 := 18) (ls1 := [some (.ref 1000000003), some (.ref 0), some (.ref 59), some (.int ((Int32.ofNat i) + 5))]) (st1 := []) rfl ?_
  exact hQ
theorem law_31 {d : Nat} {Q : KO → Prop} {h : KH} {L i : Nat} {xs : Nat → Int32} (ht : h.1 1000000003 = (30, L)) (hx : ∀ q, h.2.2.1 1000000003 q = xs q) (hL : L ≤ 2560) (hi5 : i + 5 ≤ L) (hi : Inv h) (hd : 31 ≤ d) (hj : JI h 141 [.ref 0, .int (xs ((i + 1))), .int (xs ((i + 2)))] 258 [.ref 59, .int (xs ((i + 1))), .int (xs ((i + 2)))]) (hQ : ∀ k, Inv k → k.1 1000000003 = (30, L) → (∀ q, k.2.2.1 1000000003 q = xs q) → k.2.2.2.2.1 ≤ h.2.2.2.2.1 + 5 → k.2.2.2.2.2 ≤ h.2.2.2.2.2 + 240 → far h k → Wp d 297 18 [some (.ref 1000000003), some (.ref 0), some (.ref 59), some (.int (Int32.ofNat i + 5))] [] k Q) : Wp d 297 1083 [some (.ref 1000000003), some (.ref 0), some (.ref 59), some (.int (Int32.ofNat i))] [] h Q := by
  obtain ⟨v, hc⟩ := hj
  refine t_laA31 ht hx hL hi5 (Nat.zero_le _) ?_
  refine Wp.invV (d2 := 15) (as := [.ref 0, .int (xs ((i + 1))), .int (xs ((i + 2)))]) (r := []) (t := (10, 0)) rfl rfl rfl rfl (WF.t hi.1 0 rfl) rfl rfl ⟨rfl, rfl⟩ (by omega) (hc.far.post ?_)
  rintro _ ⟨⟨k, rfl, hm⟩, f1⟩
  have ht1 : k.1 1000000003 = (30, L) := (f1.2 1000000003 (by decide) (by rw [ht])).1.trans ht
  have hx1 : ∀ q, k.2.2.1 1000000003 q = xs q := fun q => by rw [(f1.2 1000000003 (by decide) (by rw [ht])).2]; exact hx q
  have h59 : k.1 59 = (11, 0) := (f1.1.2 59 (by have := hi.1.2.2.1; omega)).trans (WF.t hi.1 59 rfl)
  refine t_laB31 (h := k) (v := v) ht1 hx1 hL hi5 (Nat.zero_le _) ?_
  refine Wp.invV (d2 := 15) (as := [.ref 59, .int (xs ((i + 1))), .int (xs ((i + 2)))]) (r := [.int v]) (t := (11, 0)) rfl rfl rfl rfl h59 rfl rfl ⟨rfl, rfl⟩ (by omega) (hm.far.post ?_)
  rintro _ ⟨⟨k2, rfl, i2, s1, s2, fa⟩, f2⟩
  have ht2 : k2.1 1000000003 = (30, L) := (f2.2 1000000003 (by decide) (by rw [ht1])).1.trans ht1
  exact t_laC31 (h := k2) (v := v) (Nat.zero_le _) (hQ k2 i2 ht2 (fun q => by rw [(f2.2 1000000003 (by decide) (by rw [ht1])).2]; exact hx1 q) s1 s2 fa)
set_option maxHeartbeats 4000000 in
theorem t_laA32 {d : Nat} {Q : KO → Prop} {h : KH} {L i : Nat} {xs : Nat → Int32} (ht : h.1 1000000003 = (30, L)) (hx : ∀ q, h.2.2.1 1000000003 q = xs q) (hL : L ≤ 2560) (hi5 : i + 5 ≤ L) (hd : 0 ≤ d) (hQ : Wp d 297 1122 ([some (.ref 1000000003), some (.ref 0), some (.ref 59), some (.int (Int32.ofNat i))]) [.int (xs ((i + 1))), .ref 0] h Q) : Wp d 297 1116 [some (.ref 1000000003), some (.ref 0), some (.ref 59), some (.int (Int32.ofNat i))] [] h Q := by
  refine Wp.seg 5 (pc1 := 1121) (ls1 := [some (.ref 1000000003), some (.ref 0), some (.ref 59), some (.int (Int32.ofNat i))]) (st1 := [.int ((Int32.ofNat i) + (1 : Int32)), .ref 1000000003, .ref 0]) rfl ?_
  refine Wp.iald (j := (i + 1)) (k := 30) (n := L) rfl ht rfl ((Int32.ofNat_add i 1).symm) (by omega) (by omega) ?_
  rw [show h.2.2.1 1000000003 ((i + 1)) = xs ((i + 1)) from hx ((i + 1))]
  exact hQ
set_option maxHeartbeats 4000000 in
theorem t_laB32 {d : Nat} {Q : KO → Prop} {h : KH} {L i : Nat} {xs : Nat → Int32} (ht : h.1 1000000003 = (30, L)) (hx : ∀ q, h.2.2.1 1000000003 q = xs q) (hL : L ≤ 2560) (hi5 : i + 5 ≤ L) {v : Int32} (hd : 0 ≤ d) (hQ : Wp d 297 1131 ([some (.ref 1000000003), some (.ref 0), some (.ref 59), some (.int (Int32.ofNat i))]) [.int (xs ((i + 1))), .ref 59, .int (v)] h Q) : Wp d 297 1125 [some (.ref 1000000003), some (.ref 0), some (.ref 59), some (.int (Int32.ofNat i))] [.int (v)] h Q := by
  refine Wp.seg 5 (pc1 := 1130) (ls1 := [some (.ref 1000000003), some (.ref 0), some (.ref 59), some (.int (Int32.ofNat i))]) (st1 := [.int ((Int32.ofNat i) + (1 : Int32)), .ref 1000000003, .ref 59, .int (v)]) rfl ?_
  refine Wp.iald (j := (i + 1)) (k := 30) (n := L) rfl ht rfl ((Int32.ofNat_add i 1).symm) (by omega) (by omega) ?_
  rw [show h.2.2.1 1000000003 ((i + 1)) = xs ((i + 1)) from hx ((i + 1))]
  exact hQ
set_option maxHeartbeats 4000000 in
theorem t_laC32 {d : Nat} {Q : KO → Prop} {h : KH} {i : Nat} {v : Int32} (hd : 0 ≤ d) (hQ : Wp d 297 18 ([some (.ref 1000000003), some (.ref 0), some (.ref 59), some (.int ((Int32.ofNat i) + 5))]) [] h Q) : Wp d 297 1134 [some (.ref 1000000003), some (.ref 0), some (.ref 59), some (.int (Int32.ofNat i))] [.int (v), .int (v)] h Q := by
  refine Wp.if2 rfl (fun c1 => ?_) (fun c1 => absurd (rfl) c1)
  refine Wp.seg 2 (pc1 := 18) (ls1 := [some (.ref 1000000003), some (.ref 0), some (.ref 59), some (.int ((Int32.ofNat i) + 5))]) (st1 := []) rfl ?_
  exact hQ
theorem law_32 {d : Nat} {Q : KO → Prop} {h : KH} {L i : Nat} {xs : Nat → Int32} (ht : h.1 1000000003 = (30, L)) (hx : ∀ q, h.2.2.1 1000000003 q = xs q) (hL : L ≤ 2560) (hi5 : i + 5 ≤ L) (hi : Inv h) (hd : 31 ≤ d) (hj : JI h 142 [.ref 0, .int (xs ((i + 1)))] 259 [.ref 59, .int (xs ((i + 1)))]) (hQ : ∀ k, Inv k → k.1 1000000003 = (30, L) → (∀ q, k.2.2.1 1000000003 q = xs q) → k.2.2.2.2.1 ≤ h.2.2.2.2.1 + 5 → k.2.2.2.2.2 ≤ h.2.2.2.2.2 + 240 → far h k → Wp d 297 18 [some (.ref 1000000003), some (.ref 0), some (.ref 59), some (.int (Int32.ofNat i + 5))] [] k Q) : Wp d 297 1116 [some (.ref 1000000003), some (.ref 0), some (.ref 59), some (.int (Int32.ofNat i))] [] h Q := by
  obtain ⟨v, hc⟩ := hj
  refine t_laA32 ht hx hL hi5 (Nat.zero_le _) ?_
  refine Wp.invV (d2 := 15) (as := [.ref 0, .int (xs ((i + 1)))]) (r := []) (t := (10, 0)) rfl rfl rfl rfl (WF.t hi.1 0 rfl) rfl rfl ⟨rfl, rfl⟩ (by omega) (hc.far.post ?_)
  rintro _ ⟨⟨k, rfl, hm⟩, f1⟩
  have ht1 : k.1 1000000003 = (30, L) := (f1.2 1000000003 (by decide) (by rw [ht])).1.trans ht
  have hx1 : ∀ q, k.2.2.1 1000000003 q = xs q := fun q => by rw [(f1.2 1000000003 (by decide) (by rw [ht])).2]; exact hx q
  have h59 : k.1 59 = (11, 0) := (f1.1.2 59 (by have := hi.1.2.2.1; omega)).trans (WF.t hi.1 59 rfl)
  refine t_laB32 (h := k) (v := v) ht1 hx1 hL hi5 (Nat.zero_le _) ?_
  refine Wp.invV (d2 := 15) (as := [.ref 59, .int (xs ((i + 1)))]) (r := [.int v]) (t := (11, 0)) rfl rfl rfl rfl h59 rfl rfl ⟨rfl, rfl⟩ (by omega) (hm.far.post ?_)
  rintro _ ⟨⟨k2, rfl, i2, s1, s2, fa⟩, f2⟩
  have ht2 : k2.1 1000000003 = (30, L) := (f2.2 1000000003 (by decide) (by rw [ht1])).1.trans ht1
  exact t_laC32 (h := k2) (v := v) (Nat.zero_le _) (hQ k2 i2 ht2 (fun q => by rw [(f2.2 1000000003 (by decide) (by rw [ht1])).2]; exact hx1 q) s1 s2 fa)
set_option maxHeartbeats 4000000 in
theorem t_laA33 {d : Nat} {Q : KO → Prop} {h : KH} {L i : Nat} {xs : Nat → Int32} (ht : h.1 1000000003 = (30, L)) (hx : ∀ q, h.2.2.1 1000000003 q = xs q) (hL : L ≤ 2560) (hi5 : i + 5 ≤ L) (hd : 0 ≤ d) (hQ : Wp d 297 1150 ([some (.ref 1000000003), some (.ref 0), some (.ref 59), some (.int (Int32.ofNat i))]) [.int (xs ((i + 2))), .int (xs ((i + 1))), .ref 0] h Q) : Wp d 297 1139 [some (.ref 1000000003), some (.ref 0), some (.ref 59), some (.int (Int32.ofNat i))] [] h Q := by
  refine Wp.seg 5 (pc1 := 1144) (ls1 := [some (.ref 1000000003), some (.ref 0), some (.ref 59), some (.int (Int32.ofNat i))]) (st1 := [.int ((Int32.ofNat i) + (1 : Int32)), .ref 1000000003, .ref 0]) rfl ?_
  refine Wp.iald (j := (i + 1)) (k := 30) (n := L) rfl ht rfl ((Int32.ofNat_add i 1).symm) (by omega) (by omega) ?_
  rw [show h.2.2.1 1000000003 ((i + 1)) = xs ((i + 1)) from hx ((i + 1))]
  refine Wp.seg 4 (pc1 := 1149) (ls1 := [some (.ref 1000000003), some (.ref 0), some (.ref 59), some (.int (Int32.ofNat i))]) (st1 := [.int ((Int32.ofNat i) + (2 : Int32)), .ref 1000000003, .int (xs ((i + 1))), .ref 0]) rfl ?_
  refine Wp.iald (j := (i + 2)) (k := 30) (n := L) rfl ht rfl ((Int32.ofNat_add i 2).symm) (by omega) (by omega) ?_
  rw [show h.2.2.1 1000000003 ((i + 2)) = xs ((i + 2)) from hx ((i + 2))]
  exact hQ
set_option maxHeartbeats 4000000 in
theorem t_laB33 {d : Nat} {Q : KO → Prop} {h : KH} {L i : Nat} {xs : Nat → Int32} (ht : h.1 1000000003 = (30, L)) (hx : ∀ q, h.2.2.1 1000000003 q = xs q) (hL : L ≤ 2560) (hi5 : i + 5 ≤ L) {v : Int32} (hd : 0 ≤ d) (hQ : Wp d 297 1164 ([some (.ref 1000000003), some (.ref 0), some (.ref 59), some (.int (Int32.ofNat i))]) [.int (xs ((i + 2))), .int (xs ((i + 1))), .ref 59, .int (v)] h Q) : Wp d 297 1153 [some (.ref 1000000003), some (.ref 0), some (.ref 59), some (.int (Int32.ofNat i))] [.int (v)] h Q := by
  refine Wp.seg 5 (pc1 := 1158) (ls1 := [some (.ref 1000000003), some (.ref 0), some (.ref 59), some (.int (Int32.ofNat i))]) (st1 := [.int ((Int32.ofNat i) + (1 : Int32)), .ref 1000000003, .ref 59, .int (v)]) rfl ?_
  refine Wp.iald (j := (i + 1)) (k := 30) (n := L) rfl ht rfl ((Int32.ofNat_add i 1).symm) (by omega) (by omega) ?_
  rw [show h.2.2.1 1000000003 ((i + 1)) = xs ((i + 1)) from hx ((i + 1))]
  refine Wp.seg 4 (pc1 := 1163) (ls1 := [some (.ref 1000000003), some (.ref 0), some (.ref 59), some (.int (Int32.ofNat i))]) (st1 := [.int ((Int32.ofNat i) + (2 : Int32)), .ref 1000000003, .int (xs ((i + 1))), .ref 59, .int (v)]) rfl ?_
  refine Wp.iald (j := (i + 2)) (k := 30) (n := L) rfl ht rfl ((Int32.ofNat_add i 2).symm) (by omega) (by omega) ?_
  rw [show h.2.2.1 1000000003 ((i + 2)) = xs ((i + 2)) from hx ((i + 2))]
  exact hQ
set_option maxHeartbeats 4000000 in
theorem t_laC33 {d : Nat} {Q : KO → Prop} {h : KH} {i : Nat} {v : Int32} (hd : 0 ≤ d) (hQ : Wp d 297 18 ([some (.ref 1000000003), some (.ref 0), some (.ref 59), some (.int ((Int32.ofNat i) + 5))]) [] h Q) : Wp d 297 1167 [some (.ref 1000000003), some (.ref 0), some (.ref 59), some (.int (Int32.ofNat i))] [.int (v), .int (v)] h Q := by
  refine Wp.if2 rfl (fun c1 => ?_) (fun c1 => absurd (rfl) c1)
  refine Wp.seg 2 (pc1 := 18) (ls1 := [some (.ref 1000000003), some (.ref 0), some (.ref 59), some (.int ((Int32.ofNat i) + 5))]) (st1 := []) rfl ?_
  exact hQ
theorem law_33 {d : Nat} {Q : KO → Prop} {h : KH} {L i : Nat} {xs : Nat → Int32} (ht : h.1 1000000003 = (30, L)) (hx : ∀ q, h.2.2.1 1000000003 q = xs q) (hL : L ≤ 2560) (hi5 : i + 5 ≤ L) (hi : Inv h) (hd : 31 ≤ d) (hj : JI h 143 [.ref 0, .int (xs ((i + 1))), .int (xs ((i + 2)))] 261 [.ref 59, .int (xs ((i + 1))), .int (xs ((i + 2)))]) (hQ : ∀ k, Inv k → k.1 1000000003 = (30, L) → (∀ q, k.2.2.1 1000000003 q = xs q) → k.2.2.2.2.1 ≤ h.2.2.2.2.1 + 5 → k.2.2.2.2.2 ≤ h.2.2.2.2.2 + 240 → far h k → Wp d 297 18 [some (.ref 1000000003), some (.ref 0), some (.ref 59), some (.int (Int32.ofNat i + 5))] [] k Q) : Wp d 297 1139 [some (.ref 1000000003), some (.ref 0), some (.ref 59), some (.int (Int32.ofNat i))] [] h Q := by
  obtain ⟨v, hc⟩ := hj
  refine t_laA33 ht hx hL hi5 (Nat.zero_le _) ?_
  refine Wp.invV (d2 := 15) (as := [.ref 0, .int (xs ((i + 1))), .int (xs ((i + 2)))]) (r := []) (t := (10, 0)) rfl rfl rfl rfl (WF.t hi.1 0 rfl) rfl rfl ⟨rfl, rfl⟩ (by omega) (hc.far.post ?_)
  rintro _ ⟨⟨k, rfl, hm⟩, f1⟩
  have ht1 : k.1 1000000003 = (30, L) := (f1.2 1000000003 (by decide) (by rw [ht])).1.trans ht
  have hx1 : ∀ q, k.2.2.1 1000000003 q = xs q := fun q => by rw [(f1.2 1000000003 (by decide) (by rw [ht])).2]; exact hx q
  have h59 : k.1 59 = (11, 0) := (f1.1.2 59 (by have := hi.1.2.2.1; omega)).trans (WF.t hi.1 59 rfl)
  refine t_laB33 (h := k) (v := v) ht1 hx1 hL hi5 (Nat.zero_le _) ?_
  refine Wp.invV (d2 := 15) (as := [.ref 59, .int (xs ((i + 1))), .int (xs ((i + 2)))]) (r := [.int v]) (t := (11, 0)) rfl rfl rfl rfl h59 rfl rfl ⟨rfl, rfl⟩ (by omega) (hm.far.post ?_)
  rintro _ ⟨⟨k2, rfl, i2, s1, s2, fa⟩, f2⟩
  have ht2 : k2.1 1000000003 = (30, L) := (f2.2 1000000003 (by decide) (by rw [ht1])).1.trans ht1
  exact t_laC33 (h := k2) (v := v) (Nat.zero_le _) (hQ k2 i2 ht2 (fun q => by rw [(f2.2 1000000003 (by decide) (by rw [ht1])).2]; exact hx1 q) s1 s2 fa)
set_option maxHeartbeats 4000000 in
theorem t_laA34 {d : Nat} {Q : KO → Prop} {h : KH} {L i : Nat} {xs : Nat → Int32} (ht : h.1 1000000003 = (30, L)) (hx : ∀ q, h.2.2.1 1000000003 q = xs q) (hL : L ≤ 2560) (hi5 : i + 5 ≤ L) (hd : 0 ≤ d) (hQ : Wp d 297 1188 ([some (.ref 1000000003), some (.ref 0), some (.ref 59), some (.int (Int32.ofNat i))]) [.int (xs ((i + 3))), .int (xs ((i + 2))), .int (xs ((i + 1))), .ref 0] h Q) : Wp d 297 1172 [some (.ref 1000000003), some (.ref 0), some (.ref 59), some (.int (Int32.ofNat i))] [] h Q := by
  refine Wp.seg 5 (pc1 := 1177) (ls1 := [some (.ref 1000000003), some (.ref 0), some (.ref 59), some (.int (Int32.ofNat i))]) (st1 := [.int ((Int32.ofNat i) + (1 : Int32)), .ref 1000000003, .ref 0]) rfl ?_
  refine Wp.iald (j := (i + 1)) (k := 30) (n := L) rfl ht rfl ((Int32.ofNat_add i 1).symm) (by omega) (by omega) ?_
  rw [show h.2.2.1 1000000003 ((i + 1)) = xs ((i + 1)) from hx ((i + 1))]
  refine Wp.seg 4 (pc1 := 1182) (ls1 := [some (.ref 1000000003), some (.ref 0), some (.ref 59), some (.int (Int32.ofNat i))]) (st1 := [.int ((Int32.ofNat i) + (2 : Int32)), .ref 1000000003, .int (xs ((i + 1))), .ref 0]) rfl ?_
  refine Wp.iald (j := (i + 2)) (k := 30) (n := L) rfl ht rfl ((Int32.ofNat_add i 2).symm) (by omega) (by omega) ?_
  rw [show h.2.2.1 1000000003 ((i + 2)) = xs ((i + 2)) from hx ((i + 2))]
  refine Wp.seg 4 (pc1 := 1187) (ls1 := [some (.ref 1000000003), some (.ref 0), some (.ref 59), some (.int (Int32.ofNat i))]) (st1 := [.int ((Int32.ofNat i) + (3 : Int32)), .ref 1000000003, .int (xs ((i + 2))), .int (xs ((i + 1))), .ref 0]) rfl ?_
  refine Wp.iald (j := (i + 3)) (k := 30) (n := L) rfl ht rfl ((Int32.ofNat_add i 3).symm) (by omega) (by omega) ?_
  rw [show h.2.2.1 1000000003 ((i + 3)) = xs ((i + 3)) from hx ((i + 3))]
  exact hQ
set_option maxHeartbeats 4000000 in
theorem t_laB34 {d : Nat} {Q : KO → Prop} {h : KH} {L i : Nat} {xs : Nat → Int32} (ht : h.1 1000000003 = (30, L)) (hx : ∀ q, h.2.2.1 1000000003 q = xs q) (hL : L ≤ 2560) (hi5 : i + 5 ≤ L) {v : Int32} (hd : 0 ≤ d) (hQ : Wp d 297 1207 ([some (.ref 1000000003), some (.ref 0), some (.ref 59), some (.int (Int32.ofNat i))]) [.int (xs ((i + 3))), .int (xs ((i + 2))), .int (xs ((i + 1))), .ref 59, .int (v)] h Q) : Wp d 297 1191 [some (.ref 1000000003), some (.ref 0), some (.ref 59), some (.int (Int32.ofNat i))] [.int (v)] h Q := by
  refine Wp.seg 5 (pc1 := 1196) (ls1 := [some (.ref 1000000003), some (.ref 0), some (.ref 59), some (.int (Int32.ofNat i))]) (st1 := [.int ((Int32.ofNat i) + (1 : Int32)), .ref 1000000003, .ref 59, .int (v)]) rfl ?_
  refine Wp.iald (j := (i + 1)) (k := 30) (n := L) rfl ht rfl ((Int32.ofNat_add i 1).symm) (by omega) (by omega) ?_
  rw [show h.2.2.1 1000000003 ((i + 1)) = xs ((i + 1)) from hx ((i + 1))]
  refine Wp.seg 4 (pc1 := 1201) (ls1 := [some (.ref 1000000003), some (.ref 0), some (.ref 59), some (.int (Int32.ofNat i))]) (st1 := [.int ((Int32.ofNat i) + (2 : Int32)), .ref 1000000003, .int (xs ((i + 1))), .ref 59, .int (v)]) rfl ?_
  refine Wp.iald (j := (i + 2)) (k := 30) (n := L) rfl ht rfl ((Int32.ofNat_add i 2).symm) (by omega) (by omega) ?_
  rw [show h.2.2.1 1000000003 ((i + 2)) = xs ((i + 2)) from hx ((i + 2))]
  refine Wp.seg 4 (pc1 := 1206) (ls1 := [some (.ref 1000000003), some (.ref 0), some (.ref 59), some (.int (Int32.ofNat i))]) (st1 := [.int ((Int32.ofNat i) + (3 : Int32)), .ref 1000000003, .int (xs ((i + 2))), .int (xs ((i + 1))), .ref 59, .int (v)]) rfl ?_
  refine Wp.iald (j := (i + 3)) (k := 30) (n := L) rfl ht rfl ((Int32.ofNat_add i 3).symm) (by omega) (by omega) ?_
  rw [show h.2.2.1 1000000003 ((i + 3)) = xs ((i + 3)) from hx ((i + 3))]
  exact hQ
set_option maxHeartbeats 4000000 in
theorem t_laC34 {d : Nat} {Q : KO → Prop} {h : KH} {i : Nat} {v : Int32} (hd : 0 ≤ d) (hQ : Wp d 297 18 ([some (.ref 1000000003), some (.ref 0), some (.ref 59), some (.int ((Int32.ofNat i) + 5))]) [] h Q) : Wp d 297 1210 [some (.ref 1000000003), some (.ref 0), some (.ref 59), some (.int (Int32.ofNat i))] [.int (v), .int (v)] h Q := by
  refine Wp.if2 rfl (fun c1 => ?_) (fun c1 => absurd (rfl) c1)
  refine Wp.seg 2 (pc1 := 18) (ls1 := [some (.ref 1000000003), some (.ref 0), some (.ref 59), some (.int ((Int32.ofNat i) + 5))]) (st1 := []) rfl ?_
  exact hQ
theorem law_34 {d : Nat} {Q : KO → Prop} {h : KH} {L i : Nat} {xs : Nat → Int32} (ht : h.1 1000000003 = (30, L)) (hx : ∀ q, h.2.2.1 1000000003 q = xs q) (hL : L ≤ 2560) (hi5 : i + 5 ≤ L) (hi : Inv h) (hd : 31 ≤ d) (hj : JI h 144 [.ref 0, .int (xs ((i + 1))), .int (xs ((i + 2))), .int (xs ((i + 3)))] 262 [.ref 59, .int (xs ((i + 1))), .int (xs ((i + 2))), .int (xs ((i + 3)))]) (hQ : ∀ k, Inv k → k.1 1000000003 = (30, L) → (∀ q, k.2.2.1 1000000003 q = xs q) → k.2.2.2.2.1 ≤ h.2.2.2.2.1 + 5 → k.2.2.2.2.2 ≤ h.2.2.2.2.2 + 240 → far h k → Wp d 297 18 [some (.ref 1000000003), some (.ref 0), some (.ref 59), some (.int (Int32.ofNat i + 5))] [] k Q) : Wp d 297 1172 [some (.ref 1000000003), some (.ref 0), some (.ref 59), some (.int (Int32.ofNat i))] [] h Q := by
  obtain ⟨v, hc⟩ := hj
  refine t_laA34 ht hx hL hi5 (Nat.zero_le _) ?_
  refine Wp.invV (d2 := 15) (as := [.ref 0, .int (xs ((i + 1))), .int (xs ((i + 2))), .int (xs ((i + 3)))]) (r := []) (t := (10, 0)) rfl rfl rfl rfl (WF.t hi.1 0 rfl) rfl rfl ⟨rfl, rfl⟩ (by omega) (hc.far.post ?_)
  rintro _ ⟨⟨k, rfl, hm⟩, f1⟩
  have ht1 : k.1 1000000003 = (30, L) := (f1.2 1000000003 (by decide) (by rw [ht])).1.trans ht
  have hx1 : ∀ q, k.2.2.1 1000000003 q = xs q := fun q => by rw [(f1.2 1000000003 (by decide) (by rw [ht])).2]; exact hx q
  have h59 : k.1 59 = (11, 0) := (f1.1.2 59 (by have := hi.1.2.2.1; omega)).trans (WF.t hi.1 59 rfl)
  refine t_laB34 (h := k) (v := v) ht1 hx1 hL hi5 (Nat.zero_le _) ?_
  refine Wp.invV (d2 := 15) (as := [.ref 59, .int (xs ((i + 1))), .int (xs ((i + 2))), .int (xs ((i + 3)))]) (r := [.int v]) (t := (11, 0)) rfl rfl rfl rfl h59 rfl rfl ⟨rfl, rfl⟩ (by omega) (hm.far.post ?_)
  rintro _ ⟨⟨k2, rfl, i2, s1, s2, fa⟩, f2⟩
  have ht2 : k2.1 1000000003 = (30, L) := (f2.2 1000000003 (by decide) (by rw [ht1])).1.trans ht1
  exact t_laC34 (h := k2) (v := v) (Nat.zero_le _) (hQ k2 i2 ht2 (fun q => by rw [(f2.2 1000000003 (by decide) (by rw [ht1])).2]; exact hx1 q) s1 s2 fa)
set_option maxHeartbeats 4000000 in
theorem t_laA35 {d : Nat} {Q : KO → Prop} {h : KH} {L i : Nat} {xs : Nat → Int32} (ht : h.1 1000000003 = (30, L)) (hx : ∀ q, h.2.2.1 1000000003 q = xs q) (hL : L ≤ 2560) (hi5 : i + 5 ≤ L) (hd : 0 ≤ d) (hQ : Wp d 297 1216 ([some (.ref 1000000003), some (.ref 0), some (.ref 59), some (.int (Int32.ofNat i))]) [.ref 0] h Q) : Wp d 297 1215 [some (.ref 1000000003), some (.ref 0), some (.ref 59), some (.int (Int32.ofNat i))] [] h Q := by
  refine Wp.seg 1 (pc1 := 1216) (ls1 := [some (.ref 1000000003), some (.ref 0), some (.ref 59), some (.int (Int32.ofNat i))]) (st1 := [.ref 0]) rfl ?_
  exact hQ
set_option maxHeartbeats 4000000 in
theorem t_laB35 {d : Nat} {Q : KO → Prop} {h : KH} {L i : Nat} {xs : Nat → Int32} (ht : h.1 1000000003 = (30, L)) (hx : ∀ q, h.2.2.1 1000000003 q = xs q) (hL : L ≤ 2560) (hi5 : i + 5 ≤ L) {v : Int32} (hd : 0 ≤ d) (hQ : Wp d 297 1220 ([some (.ref 1000000003), some (.ref 0), some (.ref 59), some (.int (Int32.ofNat i))]) [.ref 59, .int (v)] h Q) : Wp d 297 1219 [some (.ref 1000000003), some (.ref 0), some (.ref 59), some (.int (Int32.ofNat i))] [.int (v)] h Q := by
  refine Wp.seg 1 (pc1 := 1220) (ls1 := [some (.ref 1000000003), some (.ref 0), some (.ref 59), some (.int (Int32.ofNat i))]) (st1 := [.ref 59, .int (v)]) rfl ?_
  exact hQ
set_option maxHeartbeats 4000000 in
theorem t_laC35 {d : Nat} {Q : KO → Prop} {h : KH} {i : Nat} {v : Int32} (hd : 0 ≤ d) (hQ : Wp d 297 18 ([some (.ref 1000000003), some (.ref 0), some (.ref 59), some (.int ((Int32.ofNat i) + 5))]) [] h Q) : Wp d 297 1223 [some (.ref 1000000003), some (.ref 0), some (.ref 59), some (.int (Int32.ofNat i))] [.int (v), .int (v)] h Q := by
  refine Wp.if2 rfl (fun c1 => ?_) (fun c1 => absurd (rfl) c1)
  refine Wp.seg 2 (pc1 := 18) (ls1 := [some (.ref 1000000003), some (.ref 0), some (.ref 59), some (.int ((Int32.ofNat i) + 5))]) (st1 := []) rfl ?_
  exact hQ
theorem law_35 {d : Nat} {Q : KO → Prop} {h : KH} {L i : Nat} {xs : Nat → Int32} (ht : h.1 1000000003 = (30, L)) (hx : ∀ q, h.2.2.1 1000000003 q = xs q) (hL : L ≤ 2560) (hi5 : i + 5 ≤ L) (hi : Inv h) (hd : 31 ≤ d) (hj : JI h 146 [.ref 0] 263 [.ref 59]) (hQ : ∀ k, Inv k → k.1 1000000003 = (30, L) → (∀ q, k.2.2.1 1000000003 q = xs q) → k.2.2.2.2.1 ≤ h.2.2.2.2.1 + 5 → k.2.2.2.2.2 ≤ h.2.2.2.2.2 + 240 → far h k → Wp d 297 18 [some (.ref 1000000003), some (.ref 0), some (.ref 59), some (.int (Int32.ofNat i + 5))] [] k Q) : Wp d 297 1215 [some (.ref 1000000003), some (.ref 0), some (.ref 59), some (.int (Int32.ofNat i))] [] h Q := by
  obtain ⟨v, hc⟩ := hj
  refine t_laA35 ht hx hL hi5 (Nat.zero_le _) ?_
  refine Wp.invV (d2 := 15) (as := [.ref 0]) (r := []) (t := (10, 0)) rfl rfl rfl rfl (WF.t hi.1 0 rfl) rfl rfl ⟨rfl, rfl⟩ (by omega) (hc.far.post ?_)
  rintro _ ⟨⟨k, rfl, hm⟩, f1⟩
  have ht1 : k.1 1000000003 = (30, L) := (f1.2 1000000003 (by decide) (by rw [ht])).1.trans ht
  have hx1 : ∀ q, k.2.2.1 1000000003 q = xs q := fun q => by rw [(f1.2 1000000003 (by decide) (by rw [ht])).2]; exact hx q
  have h59 : k.1 59 = (11, 0) := (f1.1.2 59 (by have := hi.1.2.2.1; omega)).trans (WF.t hi.1 59 rfl)
  refine t_laB35 (h := k) (v := v) ht1 hx1 hL hi5 (Nat.zero_le _) ?_
  refine Wp.invV (d2 := 15) (as := [.ref 59]) (r := [.int v]) (t := (11, 0)) rfl rfl rfl rfl h59 rfl rfl ⟨rfl, rfl⟩ (by omega) (hm.far.post ?_)
  rintro _ ⟨⟨k2, rfl, i2, s1, s2, fa⟩, f2⟩
  have ht2 : k2.1 1000000003 = (30, L) := (f2.2 1000000003 (by decide) (by rw [ht1])).1.trans ht1
  exact t_laC35 (h := k2) (v := v) (Nat.zero_le _) (hQ k2 i2 ht2 (fun q => by rw [(f2.2 1000000003 (by decide) (by rw [ht1])).2]; exact hx1 q) s1 s2 fa)
set_option maxHeartbeats 4000000 in
theorem t_laA36 {d : Nat} {Q : KO → Prop} {h : KH} {L i : Nat} {xs : Nat → Int32} (ht : h.1 1000000003 = (30, L)) (hx : ∀ q, h.2.2.1 1000000003 q = xs q) (hL : L ≤ 2560) (hi5 : i + 5 ≤ L) (hd : 0 ≤ d) (hQ : Wp d 297 1244 ([some (.ref 1000000003), some (.ref 0), some (.ref 59), some (.int (Int32.ofNat i))]) [.int (xs ((i + 3))), .int (xs ((i + 2))), .int (xs ((i + 1))), .ref 0] h Q) : Wp d 297 1228 [some (.ref 1000000003), some (.ref 0), some (.ref 59), some (.int (Int32.ofNat i))] [] h Q := by
  refine Wp.seg 5 (pc1 := 1233) (ls1 := [some (.ref 1000000003), some (.ref 0), some (.ref 59), some (.int (Int32.ofNat i))]) (st1 := [.int ((Int32.ofNat i) + (1 : Int32)), .ref 1000000003, .ref 0]) rfl ?_
  refine Wp.iald (j := (i + 1)) (k := 30) (n := L) rfl ht rfl ((Int32.ofNat_add i 1).symm) (by omega) (by omega) ?_
  rw [show h.2.2.1 1000000003 ((i + 1)) = xs ((i + 1)) from hx ((i + 1))]
  refine Wp.seg 4 (pc1 := 1238) (ls1 := [some (.ref 1000000003), some (.ref 0), some (.ref 59), some (.int (Int32.ofNat i))]) (st1 := [.int ((Int32.ofNat i) + (2 : Int32)), .ref 1000000003, .int (xs ((i + 1))), .ref 0]) rfl ?_
  refine Wp.iald (j := (i + 2)) (k := 30) (n := L) rfl ht rfl ((Int32.ofNat_add i 2).symm) (by omega) (by omega) ?_
  rw [show h.2.2.1 1000000003 ((i + 2)) = xs ((i + 2)) from hx ((i + 2))]
  refine Wp.seg 4 (pc1 := 1243) (ls1 := [some (.ref 1000000003), some (.ref 0), some (.ref 59), some (.int (Int32.ofNat i))]) (st1 := [.int ((Int32.ofNat i) + (3 : Int32)), .ref 1000000003, .int (xs ((i + 2))), .int (xs ((i + 1))), .ref 0]) rfl ?_
  refine Wp.iald (j := (i + 3)) (k := 30) (n := L) rfl ht rfl ((Int32.ofNat_add i 3).symm) (by omega) (by omega) ?_
  rw [show h.2.2.1 1000000003 ((i + 3)) = xs ((i + 3)) from hx ((i + 3))]
  exact hQ
set_option maxHeartbeats 4000000 in
theorem t_laB36 {d : Nat} {Q : KO → Prop} {h : KH} {L i : Nat} {xs : Nat → Int32} (ht : h.1 1000000003 = (30, L)) (hx : ∀ q, h.2.2.1 1000000003 q = xs q) (hL : L ≤ 2560) (hi5 : i + 5 ≤ L) {v : Int32} (hd : 0 ≤ d) (hQ : Wp d 297 1263 ([some (.ref 1000000003), some (.ref 0), some (.ref 59), some (.int (Int32.ofNat i))]) [.int (xs ((i + 3))), .int (xs ((i + 2))), .int (xs ((i + 1))), .ref 59, .int (v)] h Q) : Wp d 297 1247 [some (.ref 1000000003), some (.ref 0), some (.ref 59), some (.int (Int32.ofNat i))] [.int (v)] h Q := by
  refine Wp.seg 5 (pc1 := 1252) (ls1 := [some (.ref 1000000003), some (.ref 0), some (.ref 59), some (.int (Int32.ofNat i))]) (st1 := [.int ((Int32.ofNat i) + (1 : Int32)), .ref 1000000003, .ref 59, .int (v)]) rfl ?_
  refine Wp.iald (j := (i + 1)) (k := 30) (n := L) rfl ht rfl ((Int32.ofNat_add i 1).symm) (by omega) (by omega) ?_
  rw [show h.2.2.1 1000000003 ((i + 1)) = xs ((i + 1)) from hx ((i + 1))]
  refine Wp.seg 4 (pc1 := 1257) (ls1 := [some (.ref 1000000003), some (.ref 0), some (.ref 59), some (.int (Int32.ofNat i))]) (st1 := [.int ((Int32.ofNat i) + (2 : Int32)), .ref 1000000003, .int (xs ((i + 1))), .ref 59, .int (v)]) rfl ?_
  refine Wp.iald (j := (i + 2)) (k := 30) (n := L) rfl ht rfl ((Int32.ofNat_add i 2).symm) (by omega) (by omega) ?_
  rw [show h.2.2.1 1000000003 ((i + 2)) = xs ((i + 2)) from hx ((i + 2))]
  refine Wp.seg 4 (pc1 := 1262) (ls1 := [some (.ref 1000000003), some (.ref 0), some (.ref 59), some (.int (Int32.ofNat i))]) (st1 := [.int ((Int32.ofNat i) + (3 : Int32)), .ref 1000000003, .int (xs ((i + 2))), .int (xs ((i + 1))), .ref 59, .int (v)]) rfl ?_
  refine Wp.iald (j := (i + 3)) (k := 30) (n := L) rfl ht rfl ((Int32.ofNat_add i 3).symm) (by omega) (by omega) ?_
  rw [show h.2.2.1 1000000003 ((i + 3)) = xs ((i + 3)) from hx ((i + 3))]
  exact hQ
set_option maxHeartbeats 4000000 in
theorem t_laC36 {d : Nat} {Q : KO → Prop} {h : KH} {i : Nat} {v : Int32} (hd : 0 ≤ d) (hQ : Wp d 297 18 ([some (.ref 1000000003), some (.ref 0), some (.ref 59), some (.int ((Int32.ofNat i) + 5))]) [] h Q) : Wp d 297 1266 [some (.ref 1000000003), some (.ref 0), some (.ref 59), some (.int (Int32.ofNat i))] [.int (v), .int (v)] h Q := by
  refine Wp.if2 rfl (fun c1 => ?_) (fun c1 => absurd (rfl) c1)
  refine Wp.seg 2 (pc1 := 18) (ls1 := [some (.ref 1000000003), some (.ref 0), some (.ref 59), some (.int ((Int32.ofNat i) + 5))]) (st1 := []) rfl ?_
  exact hQ
theorem law_36 {d : Nat} {Q : KO → Prop} {h : KH} {L i : Nat} {xs : Nat → Int32} (ht : h.1 1000000003 = (30, L)) (hx : ∀ q, h.2.2.1 1000000003 q = xs q) (hL : L ≤ 2560) (hi5 : i + 5 ≤ L) (hi : Inv h) (hd : 31 ≤ d) (hj : JI h 148 [.ref 0, .int (xs ((i + 1))), .int (xs ((i + 2))), .int (xs ((i + 3)))] 264 [.ref 59, .int (xs ((i + 1))), .int (xs ((i + 2))), .int (xs ((i + 3)))]) (hQ : ∀ k, Inv k → k.1 1000000003 = (30, L) → (∀ q, k.2.2.1 1000000003 q = xs q) → k.2.2.2.2.1 ≤ h.2.2.2.2.1 + 5 → k.2.2.2.2.2 ≤ h.2.2.2.2.2 + 240 → far h k → Wp d 297 18 [some (.ref 1000000003), some (.ref 0), some (.ref 59), some (.int (Int32.ofNat i + 5))] [] k Q) : Wp d 297 1228 [some (.ref 1000000003), some (.ref 0), some (.ref 59), some (.int (Int32.ofNat i))] [] h Q := by
  obtain ⟨v, hc⟩ := hj
  refine t_laA36 ht hx hL hi5 (Nat.zero_le _) ?_
  refine Wp.invV (d2 := 15) (as := [.ref 0, .int (xs ((i + 1))), .int (xs ((i + 2))), .int (xs ((i + 3)))]) (r := []) (t := (10, 0)) rfl rfl rfl rfl (WF.t hi.1 0 rfl) rfl rfl ⟨rfl, rfl⟩ (by omega) (hc.far.post ?_)
  rintro _ ⟨⟨k, rfl, hm⟩, f1⟩
  have ht1 : k.1 1000000003 = (30, L) := (f1.2 1000000003 (by decide) (by rw [ht])).1.trans ht
  have hx1 : ∀ q, k.2.2.1 1000000003 q = xs q := fun q => by rw [(f1.2 1000000003 (by decide) (by rw [ht])).2]; exact hx q
  have h59 : k.1 59 = (11, 0) := (f1.1.2 59 (by have := hi.1.2.2.1; omega)).trans (WF.t hi.1 59 rfl)
  refine t_laB36 (h := k) (v := v) ht1 hx1 hL hi5 (Nat.zero_le _) ?_
  refine Wp.invV (d2 := 15) (as := [.ref 59, .int (xs ((i + 1))), .int (xs ((i + 2))), .int (xs ((i + 3)))]) (r := [.int v]) (t := (11, 0)) rfl rfl rfl rfl h59 rfl rfl ⟨rfl, rfl⟩ (by omega) (hm.far.post ?_)
  rintro _ ⟨⟨k2, rfl, i2, s1, s2, fa⟩, f2⟩
  have ht2 : k2.1 1000000003 = (30, L) := (f2.2 1000000003 (by decide) (by rw [ht1])).1.trans ht1
  exact t_laC36 (h := k2) (v := v) (Nat.zero_le _) (hQ k2 i2 ht2 (fun q => by rw [(f2.2 1000000003 (by decide) (by rw [ht1])).2]; exact hx1 q) s1 s2 fa)
set_option maxHeartbeats 4000000 in
theorem t_laA37 {d : Nat} {Q : KO → Prop} {h : KH} {L i : Nat} {xs : Nat → Int32} (ht : h.1 1000000003 = (30, L)) (hx : ∀ q, h.2.2.1 1000000003 q = xs q) (hL : L ≤ 2560) (hi5 : i + 5 ≤ L) (hd : 0 ≤ d) (hQ : Wp d 297 1287 ([some (.ref 1000000003), some (.ref 0), some (.ref 59), some (.int (Int32.ofNat i))]) [.int (xs ((i + 3))), .int (xs ((i + 2))), .int (xs ((i + 1))), .ref 0] h Q) : Wp d 297 1271 [some (.ref 1000000003), some (.ref 0), some (.ref 59), some (.int (Int32.ofNat i))] [] h Q := by
  refine Wp.seg 5 (pc1 := 1276) (ls1 := [some (.ref 1000000003), some (.ref 0), some (.ref 59), some (.int (Int32.ofNat i))]) (st1 := [.int ((Int32.ofNat i) + (1 : Int32)), .ref 1000000003, .ref 0]) rfl ?_
  refine Wp.iald (j := (i + 1)) (k := 30) (n := L) rfl ht rfl ((Int32.ofNat_add i 1).symm) (by omega) (by omega) ?_
  rw [show h.2.2.1 1000000003 ((i + 1)) = xs ((i + 1)) from hx ((i + 1))]
  refine Wp.seg 4 (pc1 := 1281) (ls1 := [some (.ref 1000000003), some (.ref 0), some (.ref 59), some (.int (Int32.ofNat i))]) (st1 := [.int ((Int32.ofNat i) + (2 : Int32)), .ref 1000000003, .int (xs ((i + 1))), .ref 0]) rfl ?_
  refine Wp.iald (j := (i + 2)) (k := 30) (n := L) rfl ht rfl ((Int32.ofNat_add i 2).symm) (by omega) (by omega) ?_
  rw [show h.2.2.1 1000000003 ((i + 2)) = xs ((i + 2)) from hx ((i + 2))]
  refine Wp.seg 4 (pc1 := 1286) (ls1 := [some (.ref 1000000003), some (.ref 0), some (.ref 59), some (.int (Int32.ofNat i))]) (st1 := [.int ((Int32.ofNat i) + (3 : Int32)), .ref 1000000003, .int (xs ((i + 2))), .int (xs ((i + 1))), .ref 0]) rfl ?_
  refine Wp.iald (j := (i + 3)) (k := 30) (n := L) rfl ht rfl ((Int32.ofNat_add i 3).symm) (by omega) (by omega) ?_
  rw [show h.2.2.1 1000000003 ((i + 3)) = xs ((i + 3)) from hx ((i + 3))]
  exact hQ
set_option maxHeartbeats 4000000 in
theorem t_laB37 {d : Nat} {Q : KO → Prop} {h : KH} {L i : Nat} {xs : Nat → Int32} (ht : h.1 1000000003 = (30, L)) (hx : ∀ q, h.2.2.1 1000000003 q = xs q) (hL : L ≤ 2560) (hi5 : i + 5 ≤ L) {v : Int32} (hd : 0 ≤ d) (hQ : Wp d 297 1306 ([some (.ref 1000000003), some (.ref 0), some (.ref 59), some (.int (Int32.ofNat i))]) [.int (xs ((i + 3))), .int (xs ((i + 2))), .int (xs ((i + 1))), .ref 59, .int (v)] h Q) : Wp d 297 1290 [some (.ref 1000000003), some (.ref 0), some (.ref 59), some (.int (Int32.ofNat i))] [.int (v)] h Q := by
  refine Wp.seg 5 (pc1 := 1295) (ls1 := [some (.ref 1000000003), some (.ref 0), some (.ref 59), some (.int (Int32.ofNat i))]) (st1 := [.int ((Int32.ofNat i) + (1 : Int32)), .ref 1000000003, .ref 59, .int (v)]) rfl ?_
  refine Wp.iald (j := (i + 1)) (k := 30) (n := L) rfl ht rfl ((Int32.ofNat_add i 1).symm) (by omega) (by omega) ?_
  rw [show h.2.2.1 1000000003 ((i + 1)) = xs ((i + 1)) from hx ((i + 1))]
  refine Wp.seg 4 (pc1 := 1300) (ls1 := [some (.ref 1000000003), some (.ref 0), some (.ref 59), some (.int (Int32.ofNat i))]) (st1 := [.int ((Int32.ofNat i) + (2 : Int32)), .ref 1000000003, .int (xs ((i + 1))), .ref 59, .int (v)]) rfl ?_
  refine Wp.iald (j := (i + 2)) (k := 30) (n := L) rfl ht rfl ((Int32.ofNat_add i 2).symm) (by omega) (by omega) ?_
  rw [show h.2.2.1 1000000003 ((i + 2)) = xs ((i + 2)) from hx ((i + 2))]
  refine Wp.seg 4 (pc1 := 1305) (ls1 := [some (.ref 1000000003), some (.ref 0), some (.ref 59), some (.int (Int32.ofNat i))]) (st1 := [.int ((Int32.ofNat i) + (3 : Int32)), .ref 1000000003, .int (xs ((i + 2))), .int (xs ((i + 1))), .ref 59, .int (v)]) rfl ?_
  refine Wp.iald (j := (i + 3)) (k := 30) (n := L) rfl ht rfl ((Int32.ofNat_add i 3).symm) (by omega) (by omega) ?_
  rw [show h.2.2.1 1000000003 ((i + 3)) = xs ((i + 3)) from hx ((i + 3))]
  exact hQ
set_option maxHeartbeats 4000000 in
theorem t_laC37 {d : Nat} {Q : KO → Prop} {h : KH} {i : Nat} {v : Int32} (hd : 0 ≤ d) (hQ : Wp d 297 18 ([some (.ref 1000000003), some (.ref 0), some (.ref 59), some (.int ((Int32.ofNat i) + 5))]) [] h Q) : Wp d 297 1309 [some (.ref 1000000003), some (.ref 0), some (.ref 59), some (.int (Int32.ofNat i))] [.int (v), .int (v)] h Q := by
  refine Wp.if2 rfl (fun c1 => ?_) (fun c1 => absurd (rfl) c1)
  refine Wp.seg 2 (pc1 := 18) (ls1 := [some (.ref 1000000003), some (.ref 0), some (.ref 59), some (.int ((Int32.ofNat i) + 5))]) (st1 := []) rfl ?_
  exact hQ
theorem law_37 {d : Nat} {Q : KO → Prop} {h : KH} {L i : Nat} {xs : Nat → Int32} (ht : h.1 1000000003 = (30, L)) (hx : ∀ q, h.2.2.1 1000000003 q = xs q) (hL : L ≤ 2560) (hi5 : i + 5 ≤ L) (hi : Inv h) (hd : 31 ≤ d) (hj : JI h 149 [.ref 0, .int (xs ((i + 1))), .int (xs ((i + 2))), .int (xs ((i + 3)))] 265 [.ref 59, .int (xs ((i + 1))), .int (xs ((i + 2))), .int (xs ((i + 3)))]) (hQ : ∀ k, Inv k → k.1 1000000003 = (30, L) → (∀ q, k.2.2.1 1000000003 q = xs q) → k.2.2.2.2.1 ≤ h.2.2.2.2.1 + 5 → k.2.2.2.2.2 ≤ h.2.2.2.2.2 + 240 → far h k → Wp d 297 18 [some (.ref 1000000003), some (.ref 0), some (.ref 59), some (.int (Int32.ofNat i + 5))] [] k Q) : Wp d 297 1271 [some (.ref 1000000003), some (.ref 0), some (.ref 59), some (.int (Int32.ofNat i))] [] h Q := by
  obtain ⟨v, hc⟩ := hj
  refine t_laA37 ht hx hL hi5 (Nat.zero_le _) ?_
  refine Wp.invV (d2 := 15) (as := [.ref 0, .int (xs ((i + 1))), .int (xs ((i + 2))), .int (xs ((i + 3)))]) (r := []) (t := (10, 0)) rfl rfl rfl rfl (WF.t hi.1 0 rfl) rfl rfl ⟨rfl, rfl⟩ (by omega) (hc.far.post ?_)
  rintro _ ⟨⟨k, rfl, hm⟩, f1⟩
  have ht1 : k.1 1000000003 = (30, L) := (f1.2 1000000003 (by decide) (by rw [ht])).1.trans ht
  have hx1 : ∀ q, k.2.2.1 1000000003 q = xs q := fun q => by rw [(f1.2 1000000003 (by decide) (by rw [ht])).2]; exact hx q
  have h59 : k.1 59 = (11, 0) := (f1.1.2 59 (by have := hi.1.2.2.1; omega)).trans (WF.t hi.1 59 rfl)
  refine t_laB37 (h := k) (v := v) ht1 hx1 hL hi5 (Nat.zero_le _) ?_
  refine Wp.invV (d2 := 15) (as := [.ref 59, .int (xs ((i + 1))), .int (xs ((i + 2))), .int (xs ((i + 3)))]) (r := [.int v]) (t := (11, 0)) rfl rfl rfl rfl h59 rfl rfl ⟨rfl, rfl⟩ (by omega) (hm.far.post ?_)
  rintro _ ⟨⟨k2, rfl, i2, s1, s2, fa⟩, f2⟩
  have ht2 : k2.1 1000000003 = (30, L) := (f2.2 1000000003 (by decide) (by rw [ht1])).1.trans ht1
  exact t_laC37 (h := k2) (v := v) (Nat.zero_le _) (hQ k2 i2 ht2 (fun q => by rw [(f2.2 1000000003 (by decide) (by rw [ht1])).2]; exact hx1 q) s1 s2 fa)
set_option maxHeartbeats 4000000 in
theorem t_laA38 {d : Nat} {Q : KO → Prop} {h : KH} {L i : Nat} {xs : Nat → Int32} (ht : h.1 1000000003 = (30, L)) (hx : ∀ q, h.2.2.1 1000000003 q = xs q) (hL : L ≤ 2560) (hi5 : i + 5 ≤ L) (hd : 0 ≤ d) (hQ : Wp d 297 1330 ([some (.ref 1000000003), some (.ref 0), some (.ref 59), some (.int (Int32.ofNat i))]) [.int (xs ((i + 3))), .int (xs ((i + 2))), .int (xs ((i + 1))), .ref 0] h Q) : Wp d 297 1314 [some (.ref 1000000003), some (.ref 0), some (.ref 59), some (.int (Int32.ofNat i))] [] h Q := by
  refine Wp.seg 5 (pc1 := 1319) (ls1 := [some (.ref 1000000003), some (.ref 0), some (.ref 59), some (.int (Int32.ofNat i))]) (st1 := [.int ((Int32.ofNat i) + (1 : Int32)), .ref 1000000003, .ref 0]) rfl ?_
  refine Wp.iald (j := (i + 1)) (k := 30) (n := L) rfl ht rfl ((Int32.ofNat_add i 1).symm) (by omega) (by omega) ?_
  rw [show h.2.2.1 1000000003 ((i + 1)) = xs ((i + 1)) from hx ((i + 1))]
  refine Wp.seg 4 (pc1 := 1324) (ls1 := [some (.ref 1000000003), some (.ref 0), some (.ref 59), some (.int (Int32.ofNat i))]) (st1 := [.int ((Int32.ofNat i) + (2 : Int32)), .ref 1000000003, .int (xs ((i + 1))), .ref 0]) rfl ?_
  refine Wp.iald (j := (i + 2)) (k := 30) (n := L) rfl ht rfl ((Int32.ofNat_add i 2).symm) (by omega) (by omega) ?_
  rw [show h.2.2.1 1000000003 ((i + 2)) = xs ((i + 2)) from hx ((i + 2))]
  refine Wp.seg 4 (pc1 := 1329) (ls1 := [some (.ref 1000000003), some (.ref 0), some (.ref 59), some (.int (Int32.ofNat i))]) (st1 := [.int ((Int32.ofNat i) + (3 : Int32)), .ref 1000000003, .int (xs ((i + 2))), .int (xs ((i + 1))), .ref 0]) rfl ?_
  refine Wp.iald (j := (i + 3)) (k := 30) (n := L) rfl ht rfl ((Int32.ofNat_add i 3).symm) (by omega) (by omega) ?_
  rw [show h.2.2.1 1000000003 ((i + 3)) = xs ((i + 3)) from hx ((i + 3))]
  exact hQ
set_option maxHeartbeats 4000000 in
theorem t_laB38 {d : Nat} {Q : KO → Prop} {h : KH} {L i : Nat} {xs : Nat → Int32} (ht : h.1 1000000003 = (30, L)) (hx : ∀ q, h.2.2.1 1000000003 q = xs q) (hL : L ≤ 2560) (hi5 : i + 5 ≤ L) {v : Int32} (hd : 0 ≤ d) (hQ : Wp d 297 1349 ([some (.ref 1000000003), some (.ref 0), some (.ref 59), some (.int (Int32.ofNat i))]) [.int (xs ((i + 3))), .int (xs ((i + 2))), .int (xs ((i + 1))), .ref 59, .int (v)] h Q) : Wp d 297 1333 [some (.ref 1000000003), some (.ref 0), some (.ref 59), some (.int (Int32.ofNat i))] [.int (v)] h Q := by
  refine Wp.seg 5 (pc1 := 1338) (ls1 := [some (.ref 1000000003), some (.ref 0), some (.ref 59), some (.int (Int32.ofNat i))]) (st1 := [.int ((Int32.ofNat i) + (1 : Int32)), .ref 1000000003, .ref 59, .int (v)]) rfl ?_
  refine Wp.iald (j := (i + 1)) (k := 30) (n := L) rfl ht rfl ((Int32.ofNat_add i 1).symm) (by omega) (by omega) ?_
  rw [show h.2.2.1 1000000003 ((i + 1)) = xs ((i + 1)) from hx ((i + 1))]
  refine Wp.seg 4 (pc1 := 1343) (ls1 := [some (.ref 1000000003), some (.ref 0), some (.ref 59), some (.int (Int32.ofNat i))]) (st1 := [.int ((Int32.ofNat i) + (2 : Int32)), .ref 1000000003, .int (xs ((i + 1))), .ref 59, .int (v)]) rfl ?_
  refine Wp.iald (j := (i + 2)) (k := 30) (n := L) rfl ht rfl ((Int32.ofNat_add i 2).symm) (by omega) (by omega) ?_
  rw [show h.2.2.1 1000000003 ((i + 2)) = xs ((i + 2)) from hx ((i + 2))]
  refine Wp.seg 4 (pc1 := 1348) (ls1 := [some (.ref 1000000003), some (.ref 0), some (.ref 59), some (.int (Int32.ofNat i))]) (st1 := [.int ((Int32.ofNat i) + (3 : Int32)), .ref 1000000003, .int (xs ((i + 2))), .int (xs ((i + 1))), .ref 59, .int (v)]) rfl ?_
  refine Wp.iald (j := (i + 3)) (k := 30) (n := L) rfl ht rfl ((Int32.ofNat_add i 3).symm) (by omega) (by omega) ?_
  rw [show h.2.2.1 1000000003 ((i + 3)) = xs ((i + 3)) from hx ((i + 3))]
  exact hQ
set_option maxHeartbeats 4000000 in
theorem t_laC38 {d : Nat} {Q : KO → Prop} {h : KH} {i : Nat} {v : Int32} (hd : 0 ≤ d) (hQ : Wp d 297 18 ([some (.ref 1000000003), some (.ref 0), some (.ref 59), some (.int ((Int32.ofNat i) + 5))]) [] h Q) : Wp d 297 1352 [some (.ref 1000000003), some (.ref 0), some (.ref 59), some (.int (Int32.ofNat i))] [.int (v), .int (v)] h Q := by
  refine Wp.if2 rfl (fun c1 => ?_) (fun c1 => absurd (rfl) c1)
  refine Wp.seg 2 (pc1 := 18) (ls1 := [some (.ref 1000000003), some (.ref 0), some (.ref 59), some (.int ((Int32.ofNat i) + 5))]) (st1 := []) rfl ?_
  exact hQ
theorem law_38 {d : Nat} {Q : KO → Prop} {h : KH} {L i : Nat} {xs : Nat → Int32} (ht : h.1 1000000003 = (30, L)) (hx : ∀ q, h.2.2.1 1000000003 q = xs q) (hL : L ≤ 2560) (hi5 : i + 5 ≤ L) (hi : Inv h) (hd : 31 ≤ d) (hj : JI h 151 [.ref 0, .int (xs ((i + 1))), .int (xs ((i + 2))), .int (xs ((i + 3)))] 266 [.ref 59, .int (xs ((i + 1))), .int (xs ((i + 2))), .int (xs ((i + 3)))]) (hQ : ∀ k, Inv k → k.1 1000000003 = (30, L) → (∀ q, k.2.2.1 1000000003 q = xs q) → k.2.2.2.2.1 ≤ h.2.2.2.2.1 + 5 → k.2.2.2.2.2 ≤ h.2.2.2.2.2 + 240 → far h k → Wp d 297 18 [some (.ref 1000000003), some (.ref 0), some (.ref 59), some (.int (Int32.ofNat i + 5))] [] k Q) : Wp d 297 1314 [some (.ref 1000000003), some (.ref 0), some (.ref 59), some (.int (Int32.ofNat i))] [] h Q := by
  obtain ⟨v, hc⟩ := hj
  refine t_laA38 ht hx hL hi5 (Nat.zero_le _) ?_
  refine Wp.invV (d2 := 15) (as := [.ref 0, .int (xs ((i + 1))), .int (xs ((i + 2))), .int (xs ((i + 3)))]) (r := []) (t := (10, 0)) rfl rfl rfl rfl (WF.t hi.1 0 rfl) rfl rfl ⟨rfl, rfl⟩ (by omega) (hc.far.post ?_)
  rintro _ ⟨⟨k, rfl, hm⟩, f1⟩
  have ht1 : k.1 1000000003 = (30, L) := (f1.2 1000000003 (by decide) (by rw [ht])).1.trans ht
  have hx1 : ∀ q, k.2.2.1 1000000003 q = xs q := fun q => by rw [(f1.2 1000000003 (by decide) (by rw [ht])).2]; exact hx q
  have h59 : k.1 59 = (11, 0) := (f1.1.2 59 (by have := hi.1.2.2.1; omega)).trans (WF.t hi.1 59 rfl)
  refine t_laB38 (h := k) (v := v) ht1 hx1 hL hi5 (Nat.zero_le _) ?_
  refine Wp.invV (d2 := 15) (as := [.ref 59, .int (xs ((i + 1))), .int (xs ((i + 2))), .int (xs ((i + 3)))]) (r := [.int v]) (t := (11, 0)) rfl rfl rfl rfl h59 rfl rfl ⟨rfl, rfl⟩ (by omega) (hm.far.post ?_)
  rintro _ ⟨⟨k2, rfl, i2, s1, s2, fa⟩, f2⟩
  have ht2 : k2.1 1000000003 = (30, L) := (f2.2 1000000003 (by decide) (by rw [ht1])).1.trans ht1
  exact t_laC38 (h := k2) (v := v) (Nat.zero_le _) (hQ k2 i2 ht2 (fun q => by rw [(f2.2 1000000003 (by decide) (by rw [ht1])).2]; exact hx1 q) s1 s2 fa)
set_option maxHeartbeats 4000000 in
theorem t_laA39 {d : Nat} {Q : KO → Prop} {h : KH} {L i : Nat} {xs : Nat → Int32} (ht : h.1 1000000003 = (30, L)) (hx : ∀ q, h.2.2.1 1000000003 q = xs q) (hL : L ≤ 2560) (hi5 : i + 5 ≤ L) (hd : 0 ≤ d) (hQ : Wp d 297 1373 ([some (.ref 1000000003), some (.ref 0), some (.ref 59), some (.int (Int32.ofNat i))]) [.int (xs ((i + 3))), .int (xs ((i + 2))), .int (xs ((i + 1))), .ref 0] h Q) : Wp d 297 1357 [some (.ref 1000000003), some (.ref 0), some (.ref 59), some (.int (Int32.ofNat i))] [] h Q := by
  refine Wp.seg 5 (pc1 := 1362) (ls1 := [some (.ref 1000000003), some (.ref 0), some (.ref 59), some (.int (Int32.ofNat i))]) (st1 := [.int ((Int32.ofNat i) + (1 : Int32)), .ref 1000000003, .ref 0]) rfl ?_
  refine Wp.iald (j := (i + 1)) (k := 30) (n := L) rfl ht rfl ((Int32.ofNat_add i 1).symm) (by omega) (by omega) ?_
  rw [show h.2.2.1 1000000003 ((i + 1)) = xs ((i + 1)) from hx ((i + 1))]
  refine Wp.seg 4 (pc1 := 1367) (ls1 := [some (.ref 1000000003), some (.ref 0), some (.ref 59), some (.int (Int32.ofNat i))]) (st1 := [.int ((Int32.ofNat i) + (2 : Int32)), .ref 1000000003, .int (xs ((i + 1))), .ref 0]) rfl ?_
  refine Wp.iald (j := (i + 2)) (k := 30) (n := L) rfl ht rfl ((Int32.ofNat_add i 2).symm) (by omega) (by omega) ?_
  rw [show h.2.2.1 1000000003 ((i + 2)) = xs ((i + 2)) from hx ((i + 2))]
  refine Wp.seg 4 (pc1 := 1372) (ls1 := [some (.ref 1000000003), some (.ref 0), some (.ref 59), some (.int (Int32.ofNat i))]) (st1 := [.int ((Int32.ofNat i) + (3 : Int32)), .ref 1000000003, .int (xs ((i + 2))), .int (xs ((i + 1))), .ref 0]) rfl ?_
  refine Wp.iald (j := (i + 3)) (k := 30) (n := L) rfl ht rfl ((Int32.ofNat_add i 3).symm) (by omega) (by omega) ?_
  rw [show h.2.2.1 1000000003 ((i + 3)) = xs ((i + 3)) from hx ((i + 3))]
  exact hQ
set_option maxHeartbeats 4000000 in
theorem t_laB39 {d : Nat} {Q : KO → Prop} {h : KH} {L i : Nat} {xs : Nat → Int32} (ht : h.1 1000000003 = (30, L)) (hx : ∀ q, h.2.2.1 1000000003 q = xs q) (hL : L ≤ 2560) (hi5 : i + 5 ≤ L) {v : Int32} (hd : 0 ≤ d) (hQ : Wp d 297 1392 ([some (.ref 1000000003), some (.ref 0), some (.ref 59), some (.int (Int32.ofNat i))]) [.int (xs ((i + 3))), .int (xs ((i + 2))), .int (xs ((i + 1))), .ref 59, .int (v)] h Q) : Wp d 297 1376 [some (.ref 1000000003), some (.ref 0), some (.ref 59), some (.int (Int32.ofNat i))] [.int (v)] h Q := by
  refine Wp.seg 5 (pc1 := 1381) (ls1 := [some (.ref 1000000003), some (.ref 0), some (.ref 59), some (.int (Int32.ofNat i))]) (st1 := [.int ((Int32.ofNat i) + (1 : Int32)), .ref 1000000003, .ref 59, .int (v)]) rfl ?_
  refine Wp.iald (j := (i + 1)) (k := 30) (n := L) rfl ht rfl ((Int32.ofNat_add i 1).symm) (by omega) (by omega) ?_
  rw [show h.2.2.1 1000000003 ((i + 1)) = xs ((i + 1)) from hx ((i + 1))]
  refine Wp.seg 4 (pc1 := 1386) (ls1 := [some (.ref 1000000003), some (.ref 0), some (.ref 59), some (.int (Int32.ofNat i))]) (st1 := [.int ((Int32.ofNat i) + (2 : Int32)), .ref 1000000003, .int (xs ((i + 1))), .ref 59, .int (v)]) rfl ?_
  refine Wp.iald (j := (i + 2)) (k := 30) (n := L) rfl ht rfl ((Int32.ofNat_add i 2).symm) (by omega) (by omega) ?_
  rw [show h.2.2.1 1000000003 ((i + 2)) = xs ((i + 2)) from hx ((i + 2))]
  refine Wp.seg 4 (pc1 := 1391) (ls1 := [some (.ref 1000000003), some (.ref 0), some (.ref 59), some (.int (Int32.ofNat i))]) (st1 := [.int ((Int32.ofNat i) + (3 : Int32)), .ref 1000000003, .int (xs ((i + 2))), .int (xs ((i + 1))), .ref 59, .int (v)]) rfl ?_
  refine Wp.iald (j := (i + 3)) (k := 30) (n := L) rfl ht rfl ((Int32.ofNat_add i 3).symm) (by omega) (by omega) ?_
  rw [show h.2.2.1 1000000003 ((i + 3)) = xs ((i + 3)) from hx ((i + 3))]
  exact hQ
set_option maxHeartbeats 4000000 in
theorem t_laC39 {d : Nat} {Q : KO → Prop} {h : KH} {i : Nat} {v : Int32} (hd : 0 ≤ d) (hQ : Wp d 297 18 ([some (.ref 1000000003), some (.ref 0), some (.ref 59), some (.int ((Int32.ofNat i) + 5))]) [] h Q) : Wp d 297 1395 [some (.ref 1000000003), some (.ref 0), some (.ref 59), some (.int (Int32.ofNat i))] [.int (v), .int (v)] h Q := by
  refine Wp.if2 rfl (fun c1 => ?_) (fun c1 => absurd (rfl) c1)
  refine Wp.seg 2 (pc1 := 18) (ls1 := [some (.ref 1000000003), some (.ref 0), some (.ref 59), some (.int ((Int32.ofNat i) + 5))]) (st1 := []) rfl ?_
  exact hQ
theorem law_39 {d : Nat} {Q : KO → Prop} {h : KH} {L i : Nat} {xs : Nat → Int32} (ht : h.1 1000000003 = (30, L)) (hx : ∀ q, h.2.2.1 1000000003 q = xs q) (hL : L ≤ 2560) (hi5 : i + 5 ≤ L) (hi : Inv h) (hd : 31 ≤ d) (hj : JI h 152 [.ref 0, .int (xs ((i + 1))), .int (xs ((i + 2))), .int (xs ((i + 3)))] 269 [.ref 59, .int (xs ((i + 1))), .int (xs ((i + 2))), .int (xs ((i + 3)))]) (hQ : ∀ k, Inv k → k.1 1000000003 = (30, L) → (∀ q, k.2.2.1 1000000003 q = xs q) → k.2.2.2.2.1 ≤ h.2.2.2.2.1 + 5 → k.2.2.2.2.2 ≤ h.2.2.2.2.2 + 240 → far h k → Wp d 297 18 [some (.ref 1000000003), some (.ref 0), some (.ref 59), some (.int (Int32.ofNat i + 5))] [] k Q) : Wp d 297 1357 [some (.ref 1000000003), some (.ref 0), some (.ref 59), some (.int (Int32.ofNat i))] [] h Q := by
  obtain ⟨v, hc⟩ := hj
  refine t_laA39 ht hx hL hi5 (Nat.zero_le _) ?_
  refine Wp.invV (d2 := 15) (as := [.ref 0, .int (xs ((i + 1))), .int (xs ((i + 2))), .int (xs ((i + 3)))]) (r := []) (t := (10, 0)) rfl rfl rfl rfl (WF.t hi.1 0 rfl) rfl rfl ⟨rfl, rfl⟩ (by omega) (hc.far.post ?_)
  rintro _ ⟨⟨k, rfl, hm⟩, f1⟩
  have ht1 : k.1 1000000003 = (30, L) := (f1.2 1000000003 (by decide) (by rw [ht])).1.trans ht
  have hx1 : ∀ q, k.2.2.1 1000000003 q = xs q := fun q => by rw [(f1.2 1000000003 (by decide) (by rw [ht])).2]; exact hx q
  have h59 : k.1 59 = (11, 0) := (f1.1.2 59 (by have := hi.1.2.2.1; omega)).trans (WF.t hi.1 59 rfl)
  refine t_laB39 (h := k) (v := v) ht1 hx1 hL hi5 (Nat.zero_le _) ?_
  refine Wp.invV (d2 := 15) (as := [.ref 59, .int (xs ((i + 1))), .int (xs ((i + 2))), .int (xs ((i + 3)))]) (r := [.int v]) (t := (11, 0)) rfl rfl rfl rfl h59 rfl rfl ⟨rfl, rfl⟩ (by omega) (hm.far.post ?_)
  rintro _ ⟨⟨k2, rfl, i2, s1, s2, fa⟩, f2⟩
  have ht2 : k2.1 1000000003 = (30, L) := (f2.2 1000000003 (by decide) (by rw [ht1])).1.trans ht1
  exact t_laC39 (h := k2) (v := v) (Nat.zero_le _) (hQ k2 i2 ht2 (fun q => by rw [(f2.2 1000000003 (by decide) (by rw [ht1])).2]; exact hx1 q) s1 s2 fa)
set_option maxHeartbeats 4000000 in
theorem t_laA40 {d : Nat} {Q : KO → Prop} {h : KH} {L i : Nat} {xs : Nat → Int32} (ht : h.1 1000000003 = (30, L)) (hx : ∀ q, h.2.2.1 1000000003 q = xs q) (hL : L ≤ 2560) (hi5 : i + 5 ≤ L) (hd : 0 ≤ d) (hQ : Wp d 297 1416 ([some (.ref 1000000003), some (.ref 0), some (.ref 59), some (.int (Int32.ofNat i))]) [.int (xs ((i + 3))), .int (xs ((i + 2))), .int (xs ((i + 1))), .ref 0] h Q) : Wp d 297 1400 [some (.ref 1000000003), some (.ref 0), some (.ref 59), some (.int (Int32.ofNat i))] [] h Q := by
  refine Wp.seg 5 (pc1 := 1405) (ls1 := [some (.ref 1000000003), some (.ref 0), some (.ref 59), some (.int (Int32.ofNat i))]) (st1 := [.int ((Int32.ofNat i) + (1 : Int32)), .ref 1000000003, .ref 0]) rfl ?_
  refine Wp.iald (j := (i + 1)) (k := 30) (n := L) rfl ht rfl ((Int32.ofNat_add i 1).symm) (by omega) (by omega) ?_
  rw [show h.2.2.1 1000000003 ((i + 1)) = xs ((i + 1)) from hx ((i + 1))]
  refine Wp.seg 4 (pc1 := 1410) (ls1 := [some (.ref 1000000003), some (.ref 0), some (.ref 59), some (.int (Int32.ofNat i))]) (st1 := [.int ((Int32.ofNat i) + (2 : Int32)), .ref 1000000003, .int (xs ((i + 1))), .ref 0]) rfl ?_
  refine Wp.iald (j := (i + 2)) (k := 30) (n := L) rfl ht rfl ((Int32.ofNat_add i 2).symm) (by omega) (by omega) ?_
  rw [show h.2.2.1 1000000003 ((i + 2)) = xs ((i + 2)) from hx ((i + 2))]
  refine Wp.seg 4 (pc1 := 1415) (ls1 := [some (.ref 1000000003), some (.ref 0), some (.ref 59), some (.int (Int32.ofNat i))]) (st1 := [.int ((Int32.ofNat i) + (3 : Int32)), .ref 1000000003, .int (xs ((i + 2))), .int (xs ((i + 1))), .ref 0]) rfl ?_
  refine Wp.iald (j := (i + 3)) (k := 30) (n := L) rfl ht rfl ((Int32.ofNat_add i 3).symm) (by omega) (by omega) ?_
  rw [show h.2.2.1 1000000003 ((i + 3)) = xs ((i + 3)) from hx ((i + 3))]
  exact hQ
set_option maxHeartbeats 4000000 in
theorem t_laB40 {d : Nat} {Q : KO → Prop} {h : KH} {L i : Nat} {xs : Nat → Int32} (ht : h.1 1000000003 = (30, L)) (hx : ∀ q, h.2.2.1 1000000003 q = xs q) (hL : L ≤ 2560) (hi5 : i + 5 ≤ L) {v : Int32} (hd : 0 ≤ d) (hQ : Wp d 297 1435 ([some (.ref 1000000003), some (.ref 0), some (.ref 59), some (.int (Int32.ofNat i))]) [.int (xs ((i + 3))), .int (xs ((i + 2))), .int (xs ((i + 1))), .ref 59, .int (v)] h Q) : Wp d 297 1419 [some (.ref 1000000003), some (.ref 0), some (.ref 59), some (.int (Int32.ofNat i))] [.int (v)] h Q := by
  refine Wp.seg 5 (pc1 := 1424) (ls1 := [some (.ref 1000000003), some (.ref 0), some (.ref 59), some (.int (Int32.ofNat i))]) (st1 := [.int ((Int32.ofNat i) + (1 : Int32)), .ref 1000000003, .ref 59, .int (v)]) rfl ?_
  refine Wp.iald (j := (i + 1)) (k := 30) (n := L) rfl ht rfl ((Int32.ofNat_add i 1).symm) (by omega) (by omega) ?_
  rw [show h.2.2.1 1000000003 ((i + 1)) = xs ((i + 1)) from hx ((i + 1))]
  refine Wp.seg 4 (pc1 := 1429) (ls1 := [some (.ref 1000000003), some (.ref 0), some (.ref 59), some (.int (Int32.ofNat i))]) (st1 := [.int ((Int32.ofNat i) + (2 : Int32)), .ref 1000000003, .int (xs ((i + 1))), .ref 59, .int (v)]) rfl ?_
  refine Wp.iald (j := (i + 2)) (k := 30) (n := L) rfl ht rfl ((Int32.ofNat_add i 2).symm) (by omega) (by omega) ?_
  rw [show h.2.2.1 1000000003 ((i + 2)) = xs ((i + 2)) from hx ((i + 2))]
  refine Wp.seg 4 (pc1 := 1434) (ls1 := [some (.ref 1000000003), some (.ref 0), some (.ref 59), some (.int (Int32.ofNat i))]) (st1 := [.int ((Int32.ofNat i) + (3 : Int32)), .ref 1000000003, .int (xs ((i + 2))), .int (xs ((i + 1))), .ref 59, .int (v)]) rfl ?_
  refine Wp.iald (j := (i + 3)) (k := 30) (n := L) rfl ht rfl ((Int32.ofNat_add i 3).symm) (by omega) (by omega) ?_
  rw [show h.2.2.1 1000000003 ((i + 3)) = xs ((i + 3)) from hx ((i + 3))]
  exact hQ
set_option maxHeartbeats 4000000 in
theorem t_laC40 {d : Nat} {Q : KO → Prop} {h : KH} {i : Nat} {v : Int32} (hd : 0 ≤ d) (hQ : Wp d 297 18 ([some (.ref 1000000003), some (.ref 0), some (.ref 59), some (.int ((Int32.ofNat i) + 5))]) [] h Q) : Wp d 297 1438 [some (.ref 1000000003), some (.ref 0), some (.ref 59), some (.int (Int32.ofNat i))] [.int (v), .int (v)] h Q := by
  refine Wp.if2 rfl (fun c1 => ?_) (fun c1 => absurd (rfl) c1)
  refine Wp.seg 2 (pc1 := 18) (ls1 := [some (.ref 1000000003), some (.ref 0), some (.ref 59), some (.int ((Int32.ofNat i) + 5))]) (st1 := []) rfl ?_
  exact hQ
theorem law_40 {d : Nat} {Q : KO → Prop} {h : KH} {L i : Nat} {xs : Nat → Int32} (ht : h.1 1000000003 = (30, L)) (hx : ∀ q, h.2.2.1 1000000003 q = xs q) (hL : L ≤ 2560) (hi5 : i + 5 ≤ L) (hi : Inv h) (hd : 31 ≤ d) (hj : JI h 153 [.ref 0, .int (xs ((i + 1))), .int (xs ((i + 2))), .int (xs ((i + 3)))] 270 [.ref 59, .int (xs ((i + 1))), .int (xs ((i + 2))), .int (xs ((i + 3)))]) (hQ : ∀ k, Inv k → k.1 1000000003 = (30, L) → (∀ q, k.2.2.1 1000000003 q = xs q) → k.2.2.2.2.1 ≤ h.2.2.2.2.1 + 5 → k.2.2.2.2.2 ≤ h.2.2.2.2.2 + 240 → far h k → Wp d 297 18 [some (.ref 1000000003), some (.ref 0), some (.ref 59), some (.int (Int32.ofNat i + 5))] [] k Q) : Wp d 297 1400 [some (.ref 1000000003), some (.ref 0), some (.ref 59), some (.int (Int32.ofNat i))] [] h Q := by
  obtain ⟨v, hc⟩ := hj
  refine t_laA40 ht hx hL hi5 (Nat.zero_le _) ?_
  refine Wp.invV (d2 := 15) (as := [.ref 0, .int (xs ((i + 1))), .int (xs ((i + 2))), .int (xs ((i + 3)))]) (r := []) (t := (10, 0)) rfl rfl rfl rfl (WF.t hi.1 0 rfl) rfl rfl ⟨rfl, rfl⟩ (by omega) (hc.far.post ?_)
  rintro _ ⟨⟨k, rfl, hm⟩, f1⟩
  have ht1 : k.1 1000000003 = (30, L) := (f1.2 1000000003 (by decide) (by rw [ht])).1.trans ht
  have hx1 : ∀ q, k.2.2.1 1000000003 q = xs q := fun q => by rw [(f1.2 1000000003 (by decide) (by rw [ht])).2]; exact hx q
  have h59 : k.1 59 = (11, 0) := (f1.1.2 59 (by have := hi.1.2.2.1; omega)).trans (WF.t hi.1 59 rfl)
  refine t_laB40 (h := k) (v := v) ht1 hx1 hL hi5 (Nat.zero_le _) ?_
  refine Wp.invV (d2 := 15) (as := [.ref 59, .int (xs ((i + 1))), .int (xs ((i + 2))), .int (xs ((i + 3)))]) (r := [.int v]) (t := (11, 0)) rfl rfl rfl rfl h59 rfl rfl ⟨rfl, rfl⟩ (by omega) (hm.far.post ?_)
  rintro _ ⟨⟨k2, rfl, i2, s1, s2, fa⟩, f2⟩
  have ht2 : k2.1 1000000003 = (30, L) := (f2.2 1000000003 (by decide) (by rw [ht1])).1.trans ht1
  exact t_laC40 (h := k2) (v := v) (Nat.zero_le _) (hQ k2 i2 ht2 (fun q => by rw [(f2.2 1000000003 (by decide) (by rw [ht1])).2]; exact hx1 q) s1 s2 fa)
set_option maxHeartbeats 4000000 in
theorem t_laA41 {d : Nat} {Q : KO → Prop} {h : KH} {L i : Nat} {xs : Nat → Int32} (ht : h.1 1000000003 = (30, L)) (hx : ∀ q, h.2.2.1 1000000003 q = xs q) (hL : L ≤ 2560) (hi5 : i + 5 ≤ L) (hd : 0 ≤ d) (hQ : Wp d 297 1459 ([some (.ref 1000000003), some (.ref 0), some (.ref 59), some (.int (Int32.ofNat i))]) [.int (xs ((i + 3))), .int (xs ((i + 2))), .int (xs ((i + 1))), .ref 0] h Q) : Wp d 297 1443 [some (.ref 1000000003), some (.ref 0), some (.ref 59), some (.int (Int32.ofNat i))] [] h Q := by
  refine Wp.seg 5 (pc1 := 1448) (ls1 := [some (.ref 1000000003), some (.ref 0), some (.ref 59), some (.int (Int32.ofNat i))]) (st1 := [.int ((Int32.ofNat i) + (1 : Int32)), .ref 1000000003, .ref 0]) rfl ?_
  refine Wp.iald (j := (i + 1)) (k := 30) (n := L) rfl ht rfl ((Int32.ofNat_add i 1).symm) (by omega) (by omega) ?_
  rw [show h.2.2.1 1000000003 ((i + 1)) = xs ((i + 1)) from hx ((i + 1))]
  refine Wp.seg 4 (pc1 := 1453) (ls1 := [some (.ref 1000000003), some (.ref 0), some (.ref 59), some (.int (Int32.ofNat i))]) (st1 := [.int ((Int32.ofNat i) + (2 : Int32)), .ref 1000000003, .int (xs ((i + 1))), .ref 0]) rfl ?_
  refine Wp.iald (j := (i + 2)) (k := 30) (n := L) rfl ht rfl ((Int32.ofNat_add i 2).symm) (by omega) (by omega) ?_
  rw [show h.2.2.1 1000000003 ((i + 2)) = xs ((i + 2)) from hx ((i + 2))]
  refine Wp.seg 4 (pc1 := 1458) (ls1 := [some (.ref 1000000003), some (.ref 0), some (.ref 59), some (.int (Int32.ofNat i))]) (st1 := [.int ((Int32.ofNat i) + (3 : Int32)), .ref 1000000003, .int (xs ((i + 2))), .int (xs ((i + 1))), .ref 0]) rfl ?_
  refine Wp.iald (j := (i + 3)) (k := 30) (n := L) rfl ht rfl ((Int32.ofNat_add i 3).symm) (by omega) (by omega) ?_
  rw [show h.2.2.1 1000000003 ((i + 3)) = xs ((i + 3)) from hx ((i + 3))]
  exact hQ
set_option maxHeartbeats 4000000 in
theorem t_laB41 {d : Nat} {Q : KO → Prop} {h : KH} {L i : Nat} {xs : Nat → Int32} (ht : h.1 1000000003 = (30, L)) (hx : ∀ q, h.2.2.1 1000000003 q = xs q) (hL : L ≤ 2560) (hi5 : i + 5 ≤ L) {v : Int32} (hd : 0 ≤ d) (hQ : Wp d 297 1478 ([some (.ref 1000000003), some (.ref 0), some (.ref 59), some (.int (Int32.ofNat i))]) [.int (xs ((i + 3))), .int (xs ((i + 2))), .int (xs ((i + 1))), .ref 59, .int (v)] h Q) : Wp d 297 1462 [some (.ref 1000000003), some (.ref 0), some (.ref 59), some (.int (Int32.ofNat i))] [.int (v)] h Q := by
  refine Wp.seg 5 (pc1 := 1467) (ls1 := [some (.ref 1000000003), some (.ref 0), some (.ref 59), some (.int (Int32.ofNat i))]) (st1 := [.int ((Int32.ofNat i) + (1 : Int32)), .ref 1000000003, .ref 59, .int (v)]) rfl ?_
  refine Wp.iald (j := (i + 1)) (k := 30) (n := L) rfl ht rfl ((Int32.ofNat_add i 1).symm) (by omega) (by omega) ?_
  rw [show h.2.2.1 1000000003 ((i + 1)) = xs ((i + 1)) from hx ((i + 1))]
  refine Wp.seg 4 (pc1 := 1472) (ls1 := [some (.ref 1000000003), some (.ref 0), some (.ref 59), some (.int (Int32.ofNat i))]) (st1 := [.int ((Int32.ofNat i) + (2 : Int32)), .ref 1000000003, .int (xs ((i + 1))), .ref 59, .int (v)]) rfl ?_
  refine Wp.iald (j := (i + 2)) (k := 30) (n := L) rfl ht rfl ((Int32.ofNat_add i 2).symm) (by omega) (by omega) ?_
  rw [show h.2.2.1 1000000003 ((i + 2)) = xs ((i + 2)) from hx ((i + 2))]
  refine Wp.seg 4 (pc1 := 1477) (ls1 := [some (.ref 1000000003), some (.ref 0), some (.ref 59), some (.int (Int32.ofNat i))]) (st1 := [.int ((Int32.ofNat i) + (3 : Int32)), .ref 1000000003, .int (xs ((i + 2))), .int (xs ((i + 1))), .ref 59, .int (v)]) rfl ?_
  refine Wp.iald (j := (i + 3)) (k := 30) (n := L) rfl ht rfl ((Int32.ofNat_add i 3).symm) (by omega) (by omega) ?_
  rw [show h.2.2.1 1000000003 ((i + 3)) = xs ((i + 3)) from hx ((i + 3))]
  exact hQ
set_option maxHeartbeats 4000000 in
theorem t_laC41 {d : Nat} {Q : KO → Prop} {h : KH} {i : Nat} {v : Int32} (hd : 0 ≤ d) (hQ : Wp d 297 18 ([some (.ref 1000000003), some (.ref 0), some (.ref 59), some (.int ((Int32.ofNat i) + 5))]) [] h Q) : Wp d 297 1481 [some (.ref 1000000003), some (.ref 0), some (.ref 59), some (.int (Int32.ofNat i))] [.int (v), .int (v)] h Q := by
  refine Wp.if2 rfl (fun c1 => ?_) (fun c1 => absurd (rfl) c1)
  refine Wp.seg 2 (pc1 := 18) (ls1 := [some (.ref 1000000003), some (.ref 0), some (.ref 59), some (.int ((Int32.ofNat i) + 5))]) (st1 := []) rfl ?_
  exact hQ
theorem law_41 {d : Nat} {Q : KO → Prop} {h : KH} {L i : Nat} {xs : Nat → Int32} (ht : h.1 1000000003 = (30, L)) (hx : ∀ q, h.2.2.1 1000000003 q = xs q) (hL : L ≤ 2560) (hi5 : i + 5 ≤ L) (hi : Inv h) (hd : 31 ≤ d) (hj : JI h 157 [.ref 0, .int (xs ((i + 1))), .int (xs ((i + 2))), .int (xs ((i + 3)))] 271 [.ref 59, .int (xs ((i + 1))), .int (xs ((i + 2))), .int (xs ((i + 3)))]) (hQ : ∀ k, Inv k → k.1 1000000003 = (30, L) → (∀ q, k.2.2.1 1000000003 q = xs q) → k.2.2.2.2.1 ≤ h.2.2.2.2.1 + 5 → k.2.2.2.2.2 ≤ h.2.2.2.2.2 + 240 → far h k → Wp d 297 18 [some (.ref 1000000003), some (.ref 0), some (.ref 59), some (.int (Int32.ofNat i + 5))] [] k Q) : Wp d 297 1443 [some (.ref 1000000003), some (.ref 0), some (.ref 59), some (.int (Int32.ofNat i))] [] h Q := by
  obtain ⟨v, hc⟩ := hj
  refine t_laA41 ht hx hL hi5 (Nat.zero_le _) ?_
  refine Wp.invV (d2 := 15) (as := [.ref 0, .int (xs ((i + 1))), .int (xs ((i + 2))), .int (xs ((i + 3)))]) (r := []) (t := (10, 0)) rfl rfl rfl rfl (WF.t hi.1 0 rfl) rfl rfl ⟨rfl, rfl⟩ (by omega) (hc.far.post ?_)
  rintro _ ⟨⟨k, rfl, hm⟩, f1⟩
  have ht1 : k.1 1000000003 = (30, L) := (f1.2 1000000003 (by decide) (by rw [ht])).1.trans ht
  have hx1 : ∀ q, k.2.2.1 1000000003 q = xs q := fun q => by rw [(f1.2 1000000003 (by decide) (by rw [ht])).2]; exact hx q
  have h59 : k.1 59 = (11, 0) := (f1.1.2 59 (by have := hi.1.2.2.1; omega)).trans (WF.t hi.1 59 rfl)
  refine t_laB41 (h := k) (v := v) ht1 hx1 hL hi5 (Nat.zero_le _) ?_
  refine Wp.invV (d2 := 15) (as := [.ref 59, .int (xs ((i + 1))), .int (xs ((i + 2))), .int (xs ((i + 3)))]) (r := [.int v]) (t := (11, 0)) rfl rfl rfl rfl h59 rfl rfl ⟨rfl, rfl⟩ (by omega) (hm.far.post ?_)
  rintro _ ⟨⟨k2, rfl, i2, s1, s2, fa⟩, f2⟩
  have ht2 : k2.1 1000000003 = (30, L) := (f2.2 1000000003 (by decide) (by rw [ht1])).1.trans ht1
  exact t_laC41 (h := k2) (v := v) (Nat.zero_le _) (hQ k2 i2 ht2 (fun q => by rw [(f2.2 1000000003 (by decide) (by rw [ht1])).2]; exact hx1 q) s1 s2 fa)
set_option maxHeartbeats 4000000 in
theorem t_laA42 {d : Nat} {Q : KO → Prop} {h : KH} {L i : Nat} {xs : Nat → Int32} (ht : h.1 1000000003 = (30, L)) (hx : ∀ q, h.2.2.1 1000000003 q = xs q) (hL : L ≤ 2560) (hi5 : i + 5 ≤ L) (hd : 0 ≤ d) (hQ : Wp d 297 1497 ([some (.ref 1000000003), some (.ref 0), some (.ref 59), some (.int (Int32.ofNat i))]) [.int (xs ((i + 2))), .int (xs ((i + 1))), .ref 0] h Q) : Wp d 297 1486 [some (.ref 1000000003), some (.ref 0), some (.ref 59), some (.int (Int32.ofNat i))] [] h Q := by
  refine Wp.seg 5 (pc1 := 1491) (ls1 := [some (.ref 1000000003), some (.ref 0), some (.ref 59), some (.int (Int32.ofNat i))]) (st1 := [.int ((Int32.ofNat i) + (1 : Int32)), .ref 1000000003, .ref 0]) rfl ?_
  refine Wp.iald (j := (i + 1)) (k := 30) (n := L) rfl ht rfl ((Int32.ofNat_add i 1).symm) (by omega) (by omega) ?_
  rw [show h.2.2.1 1000000003 ((i + 1)) = xs ((i + 1)) from hx ((i + 1))]
  refine Wp.seg 4 (pc1 := 1496) (ls1 := [some (.ref 1000000003), some (.ref 0), some (.ref 59), some (.int (Int32.ofNat i))]) (st1 := [.int ((Int32.ofNat i) + (2 : Int32)), .ref 1000000003, .int (xs ((i + 1))), .ref 0]) rfl ?_
  refine Wp.iald (j := (i + 2)) (k := 30) (n := L) rfl ht rfl ((Int32.ofNat_add i 2).symm) (by omega) (by omega) ?_
  rw [show h.2.2.1 1000000003 ((i + 2)) = xs ((i + 2)) from hx ((i + 2))]
  exact hQ
set_option maxHeartbeats 4000000 in
theorem t_laB42 {d : Nat} {Q : KO → Prop} {h : KH} {L i : Nat} {xs : Nat → Int32} (ht : h.1 1000000003 = (30, L)) (hx : ∀ q, h.2.2.1 1000000003 q = xs q) (hL : L ≤ 2560) (hi5 : i + 5 ≤ L) {v : Int32} (hd : 0 ≤ d) (hQ : Wp d 297 1511 ([some (.ref 1000000003), some (.ref 0), some (.ref 59), some (.int (Int32.ofNat i))]) [.int (xs ((i + 2))), .int (xs ((i + 1))), .ref 59, .int (v)] h Q) : Wp d 297 1500 [some (.ref 1000000003), some (.ref 0), some (.ref 59), some (.int (Int32.ofNat i))] [.int (v)] h Q := by
  refine Wp.seg 5 (pc1 := 1505) (ls1 := [some (.ref 1000000003), some (.ref 0), some (.ref 59), some (.int (Int32.ofNat i))]) (st1 := [.int ((Int32.ofNat i) + (1 : Int32)), .ref 1000000003, .ref 59, .int (v)]) rfl ?_
  refine Wp.iald (j := (i + 1)) (k := 30) (n := L) rfl ht rfl ((Int32.ofNat_add i 1).symm) (by omega) (by omega) ?_
  rw [show h.2.2.1 1000000003 ((i + 1)) = xs ((i + 1)) from hx ((i + 1))]
  refine Wp.seg 4 (pc1 := 1510) (ls1 := [some (.ref 1000000003), some (.ref 0), some (.ref 59), some (.int (Int32.ofNat i))]) (st1 := [.int ((Int32.ofNat i) + (2 : Int32)), .ref 1000000003, .int (xs ((i + 1))), .ref 59, .int (v)]) rfl ?_
  refine Wp.iald (j := (i + 2)) (k := 30) (n := L) rfl ht rfl ((Int32.ofNat_add i 2).symm) (by omega) (by omega) ?_
  rw [show h.2.2.1 1000000003 ((i + 2)) = xs ((i + 2)) from hx ((i + 2))]
  exact hQ
set_option maxHeartbeats 4000000 in
theorem t_laC42 {d : Nat} {Q : KO → Prop} {h : KH} {i : Nat} {v : Int32} (hd : 0 ≤ d) (hQ : Wp d 297 18 ([some (.ref 1000000003), some (.ref 0), some (.ref 59), some (.int ((Int32.ofNat i) + 5))]) [] h Q) : Wp d 297 1514 [some (.ref 1000000003), some (.ref 0), some (.ref 59), some (.int (Int32.ofNat i))] [.int (v), .int (v)] h Q := by
  refine Wp.if2 rfl (fun c1 => ?_) (fun c1 => absurd (rfl) c1)
  refine Wp.seg 2 (pc1 := 18) (ls1 := [some (.ref 1000000003), some (.ref 0), some (.ref 59), some (.int ((Int32.ofNat i) + 5))]) (st1 := []) rfl ?_
  exact hQ
theorem law_42 {d : Nat} {Q : KO → Prop} {h : KH} {L i : Nat} {xs : Nat → Int32} (ht : h.1 1000000003 = (30, L)) (hx : ∀ q, h.2.2.1 1000000003 q = xs q) (hL : L ≤ 2560) (hi5 : i + 5 ≤ L) (hi : Inv h) (hd : 31 ≤ d) (hj : JI h 160 [.ref 0, .int (xs ((i + 1))), .int (xs ((i + 2)))] 273 [.ref 59, .int (xs ((i + 1))), .int (xs ((i + 2)))]) (hQ : ∀ k, Inv k → k.1 1000000003 = (30, L) → (∀ q, k.2.2.1 1000000003 q = xs q) → k.2.2.2.2.1 ≤ h.2.2.2.2.1 + 5 → k.2.2.2.2.2 ≤ h.2.2.2.2.2 + 240 → far h k → Wp d 297 18 [some (.ref 1000000003), some (.ref 0), some (.ref 59), some (.int (Int32.ofNat i + 5))] [] k Q) : Wp d 297 1486 [some (.ref 1000000003), some (.ref 0), some (.ref 59), some (.int (Int32.ofNat i))] [] h Q := by
  obtain ⟨v, hc⟩ := hj
  refine t_laA42 ht hx hL hi5 (Nat.zero_le _) ?_
  refine Wp.invV (d2 := 15) (as := [.ref 0, .int (xs ((i + 1))), .int (xs ((i + 2)))]) (r := []) (t := (10, 0)) rfl rfl rfl rfl (WF.t hi.1 0 rfl) rfl rfl ⟨rfl, rfl⟩ (by omega) (hc.far.post ?_)
  rintro _ ⟨⟨k, rfl, hm⟩, f1⟩
  have ht1 : k.1 1000000003 = (30, L) := (f1.2 1000000003 (by decide) (by rw [ht])).1.trans ht
  have hx1 : ∀ q, k.2.2.1 1000000003 q = xs q := fun q => by rw [(f1.2 1000000003 (by decide) (by rw [ht])).2]; exact hx q
  have h59 : k.1 59 = (11, 0) := (f1.1.2 59 (by have := hi.1.2.2.1; omega)).trans (WF.t hi.1 59 rfl)
  refine t_laB42 (h := k) (v := v) ht1 hx1 hL hi5 (Nat.zero_le _) ?_
  refine Wp.invV (d2 := 15) (as := [.ref 59, .int (xs ((i + 1))), .int (xs ((i + 2)))]) (r := [.int v]) (t := (11, 0)) rfl rfl rfl rfl h59 rfl rfl ⟨rfl, rfl⟩ (by omega) (hm.far.post ?_)
  rintro _ ⟨⟨k2, rfl, i2, s1, s2, fa⟩, f2⟩
  have ht2 : k2.1 1000000003 = (30, L) := (f2.2 1000000003 (by decide) (by rw [ht1])).1.trans ht1
  exact t_laC42 (h := k2) (v := v) (Nat.zero_le _) (hQ k2 i2 ht2 (fun q => by rw [(f2.2 1000000003 (by decide) (by rw [ht1])).2]; exact hx1 q) s1 s2 fa)
set_option maxHeartbeats 4000000 in
theorem t_laA43 {d : Nat} {Q : KO → Prop} {h : KH} {L i : Nat} {xs : Nat → Int32} (ht : h.1 1000000003 = (30, L)) (hx : ∀ q, h.2.2.1 1000000003 q = xs q) (hL : L ≤ 2560) (hi5 : i + 5 ≤ L) (hd : 0 ≤ d) (hQ : Wp d 297 1535 ([some (.ref 1000000003), some (.ref 0), some (.ref 59), some (.int (Int32.ofNat i))]) [.int (xs ((i + 3))), .int (xs ((i + 2))), .int (xs ((i + 1))), .ref 0] h Q) : Wp d 297 1519 [some (.ref 1000000003), some (.ref 0), some (.ref 59), some (.int (Int32.ofNat i))] [] h Q := by
  refine Wp.seg 5 (pc1 := 1524) (ls1 := [some (.ref 1000000003), some (.ref 0), some (.ref 59), some (.int (Int32.ofNat i))]) (st1 := [.int ((Int32.ofNat i) + (1 : Int32)), .ref 1000000003, .ref 0]) rfl ?_
  refine Wp.iald (j := (i + 1)) (k := 30) (n := L) rfl ht rfl ((Int32.ofNat_add i 1).symm) (by omega) (by omega) ?_
  rw [show h.2.2.1 1000000003 ((i + 1)) = xs ((i + 1)) from hx ((i + 1))]
  refine Wp.seg 4 (pc1 := 1529) (ls1 := [some (.ref 1000000003), some (.ref 0), some (.ref 59), some (.int (Int32.ofNat i))]) (st1 := [.int ((Int32.ofNat i) + (2 : Int32)), .ref 1000000003, .int (xs ((i + 1))), .ref 0]) rfl ?_
  refine Wp.iald (j := (i + 2)) (k := 30) (n := L) rfl ht rfl ((Int32.ofNat_add i 2).symm) (by omega) (by omega) ?_
  rw [show h.2.2.1 1000000003 ((i + 2)) = xs ((i + 2)) from hx ((i + 2))]
  refine Wp.seg 4 (pc1 := 1534) (ls1 := [some (.ref 1000000003), some (.ref 0), some (.ref 59), some (.int (Int32.ofNat i))]) (st1 := [.int ((Int32.ofNat i) + (3 : Int32)), .ref 1000000003, .int (xs ((i + 2))), .int (xs ((i + 1))), .ref 0]) rfl ?_
  refine Wp.iald (j := (i + 3)) (k := 30) (n := L) rfl ht rfl ((Int32.ofNat_add i 3).symm) (by omega) (by omega) ?_
  rw [show h.2.2.1 1000000003 ((i + 3)) = xs ((i + 3)) from hx ((i + 3))]
  exact hQ
set_option maxHeartbeats 4000000 in
theorem t_laB43 {d : Nat} {Q : KO → Prop} {h : KH} {L i : Nat} {xs : Nat → Int32} (ht : h.1 1000000003 = (30, L)) (hx : ∀ q, h.2.2.1 1000000003 q = xs q) (hL : L ≤ 2560) (hi5 : i + 5 ≤ L) {v : Int32} (hd : 0 ≤ d) (hQ : Wp d 297 1554 ([some (.ref 1000000003), some (.ref 0), some (.ref 59), some (.int (Int32.ofNat i))]) [.int (xs ((i + 3))), .int (xs ((i + 2))), .int (xs ((i + 1))), .ref 59, .int (v)] h Q) : Wp d 297 1538 [some (.ref 1000000003), some (.ref 0), some (.ref 59), some (.int (Int32.ofNat i))] [.int (v)] h Q := by
  refine Wp.seg 5 (pc1 := 1543) (ls1 := [some (.ref 1000000003), some (.ref 0), some (.ref 59), some (.int (Int32.ofNat i))]) (st1 := [.int ((Int32.ofNat i) + (1 : Int32)), .ref 1000000003, .ref 59, .int (v)]) rfl ?_
  refine Wp.iald (j := (i + 1)) (k := 30) (n := L) rfl ht rfl ((Int32.ofNat_add i 1).symm) (by omega) (by omega) ?_
  rw [show h.2.2.1 1000000003 ((i + 1)) = xs ((i + 1)) from hx ((i + 1))]
  refine Wp.seg 4 (pc1 := 1548) (ls1 := [some (.ref 1000000003), some (.ref 0), some (.ref 59), some (.int (Int32.ofNat i))]) (st1 := [.int ((Int32.ofNat i) + (2 : Int32)), .ref 1000000003, .int (xs ((i + 1))), .ref 59, .int (v)]) rfl ?_
  refine Wp.iald (j := (i + 2)) (k := 30) (n := L) rfl ht rfl ((Int32.ofNat_add i 2).symm) (by omega) (by omega) ?_
  rw [show h.2.2.1 1000000003 ((i + 2)) = xs ((i + 2)) from hx ((i + 2))]
  refine Wp.seg 4 (pc1 := 1553) (ls1 := [some (.ref 1000000003), some (.ref 0), some (.ref 59), some (.int (Int32.ofNat i))]) (st1 := [.int ((Int32.ofNat i) + (3 : Int32)), .ref 1000000003, .int (xs ((i + 2))), .int (xs ((i + 1))), .ref 59, .int (v)]) rfl ?_
  refine Wp.iald (j := (i + 3)) (k := 30) (n := L) rfl ht rfl ((Int32.ofNat_add i 3).symm) (by omega) (by omega) ?_
  rw [show h.2.2.1 1000000003 ((i + 3)) = xs ((i + 3)) from hx ((i + 3))]
  exact hQ
set_option maxHeartbeats 4000000 in
theorem t_laC43 {d : Nat} {Q : KO → Prop} {h : KH} {i : Nat} {v : Int32} (hd : 0 ≤ d) (hQ : Wp d 297 18 ([some (.ref 1000000003), some (.ref 0), some (.ref 59), some (.int ((Int32.ofNat i) + 5))]) [] h Q) : Wp d 297 1557 [some (.ref 1000000003), some (.ref 0), some (.ref 59), some (.int (Int32.ofNat i))] [.int (v), .int (v)] h Q := by
  refine Wp.if2 rfl (fun c1 => ?_) (fun c1 => absurd (rfl) c1)
  refine Wp.seg 2 (pc1 := 18) (ls1 := [some (.ref 1000000003), some (.ref 0), some (.ref 59), some (.int ((Int32.ofNat i) + 5))]) (st1 := []) rfl ?_
  exact hQ
theorem law_43 {d : Nat} {Q : KO → Prop} {h : KH} {L i : Nat} {xs : Nat → Int32} (ht : h.1 1000000003 = (30, L)) (hx : ∀ q, h.2.2.1 1000000003 q = xs q) (hL : L ≤ 2560) (hi5 : i + 5 ≤ L) (hi : Inv h) (hd : 31 ≤ d) (hj : JI h 161 [.ref 0, .int (xs ((i + 1))), .int (xs ((i + 2))), .int (xs ((i + 3)))] 284 [.ref 59, .int (xs ((i + 1))), .int (xs ((i + 2))), .int (xs ((i + 3)))]) (hQ : ∀ k, Inv k → k.1 1000000003 = (30, L) → (∀ q, k.2.2.1 1000000003 q = xs q) → k.2.2.2.2.1 ≤ h.2.2.2.2.1 + 5 → k.2.2.2.2.2 ≤ h.2.2.2.2.2 + 240 → far h k → Wp d 297 18 [some (.ref 1000000003), some (.ref 0), some (.ref 59), some (.int (Int32.ofNat i + 5))] [] k Q) : Wp d 297 1519 [some (.ref 1000000003), some (.ref 0), some (.ref 59), some (.int (Int32.ofNat i))] [] h Q := by
  obtain ⟨v, hc⟩ := hj
  refine t_laA43 ht hx hL hi5 (Nat.zero_le _) ?_
  refine Wp.invV (d2 := 15) (as := [.ref 0, .int (xs ((i + 1))), .int (xs ((i + 2))), .int (xs ((i + 3)))]) (r := []) (t := (10, 0)) rfl rfl rfl rfl (WF.t hi.1 0 rfl) rfl rfl ⟨rfl, rfl⟩ (by omega) (hc.far.post ?_)
  rintro _ ⟨⟨k, rfl, hm⟩, f1⟩
  have ht1 : k.1 1000000003 = (30, L) := (f1.2 1000000003 (by decide) (by rw [ht])).1.trans ht
  have hx1 : ∀ q, k.2.2.1 1000000003 q = xs q := fun q => by rw [(f1.2 1000000003 (by decide) (by rw [ht])).2]; exact hx q
  have h59 : k.1 59 = (11, 0) := (f1.1.2 59 (by have := hi.1.2.2.1; omega)).trans (WF.t hi.1 59 rfl)
  refine t_laB43 (h := k) (v := v) ht1 hx1 hL hi5 (Nat.zero_le _) ?_
  refine Wp.invV (d2 := 15) (as := [.ref 59, .int (xs ((i + 1))), .int (xs ((i + 2))), .int (xs ((i + 3)))]) (r := [.int v]) (t := (11, 0)) rfl rfl rfl rfl h59 rfl rfl ⟨rfl, rfl⟩ (by omega) (hm.far.post ?_)
  rintro _ ⟨⟨k2, rfl, i2, s1, s2, fa⟩, f2⟩
  have ht2 : k2.1 1000000003 = (30, L) := (f2.2 1000000003 (by decide) (by rw [ht1])).1.trans ht1
  exact t_laC43 (h := k2) (v := v) (Nat.zero_le _) (hQ k2 i2 ht2 (fun q => by rw [(f2.2 1000000003 (by decide) (by rw [ht1])).2]; exact hx1 q) s1 s2 fa)
set_option maxHeartbeats 4000000 in
theorem t_laA44 {d : Nat} {Q : KO → Prop} {h : KH} {L i : Nat} {xs : Nat → Int32} (ht : h.1 1000000003 = (30, L)) (hx : ∀ q, h.2.2.1 1000000003 q = xs q) (hL : L ≤ 2560) (hi5 : i + 5 ≤ L) (hd : 0 ≤ d) (hQ : Wp d 297 1568 ([some (.ref 1000000003), some (.ref 0), some (.ref 59), some (.int (Int32.ofNat i))]) [.int (xs ((i + 1))), .ref 0] h Q) : Wp d 297 1562 [some (.ref 1000000003), some (.ref 0), some (.ref 59), some (.int (Int32.ofNat i))] [] h Q := by
  refine Wp.seg 5 (pc1 := 1567) (ls1 := [some (.ref 1000000003), some (.ref 0), some (.ref 59), some (.int (Int32.ofNat i))]) (st1 := [.int ((Int32.ofNat i) + (1 : Int32)), .ref 1000000003, .ref 0]) rfl ?_
  refine Wp.iald (j := (i + 1)) (k := 30) (n := L) rfl ht rfl ((Int32.ofNat_add i 1).symm) (by omega) (by omega) ?_
  rw [show h.2.2.1 1000000003 ((i + 1)) = xs ((i + 1)) from hx ((i + 1))]
  exact hQ
set_option maxHeartbeats 4000000 in
theorem t_laB44 {d : Nat} {Q : KO → Prop} {h : KH} {L i : Nat} {xs : Nat → Int32} (ht : h.1 1000000003 = (30, L)) (hx : ∀ q, h.2.2.1 1000000003 q = xs q) (hL : L ≤ 2560) (hi5 : i + 5 ≤ L) {v : Int32} (hd : 0 ≤ d) (hQ : Wp d 297 1577 ([some (.ref 1000000003), some (.ref 0), some (.ref 59), some (.int (Int32.ofNat i))]) [.int (xs ((i + 1))), .ref 59, .int (v)] h Q) : Wp d 297 1571 [some (.ref 1000000003), some (.ref 0), some (.ref 59), some (.int (Int32.ofNat i))] [.int (v)] h Q := by
  refine Wp.seg 5 (pc1 := 1576) (ls1 := [some (.ref 1000000003), some (.ref 0), some (.ref 59), some (.int (Int32.ofNat i))]) (st1 := [.int ((Int32.ofNat i) + (1 : Int32)), .ref 1000000003, .ref 59, .int (v)]) rfl ?_
  refine Wp.iald (j := (i + 1)) (k := 30) (n := L) rfl ht rfl ((Int32.ofNat_add i 1).symm) (by omega) (by omega) ?_
  rw [show h.2.2.1 1000000003 ((i + 1)) = xs ((i + 1)) from hx ((i + 1))]
  exact hQ
set_option maxHeartbeats 4000000 in
theorem t_laC44 {d : Nat} {Q : KO → Prop} {h : KH} {i : Nat} {v : Int32} (hd : 0 ≤ d) (hQ : Wp d 297 18 ([some (.ref 1000000003), some (.ref 0), some (.ref 59), some (.int ((Int32.ofNat i) + 5))]) [] h Q) : Wp d 297 1580 [some (.ref 1000000003), some (.ref 0), some (.ref 59), some (.int (Int32.ofNat i))] [.int (v), .int (v)] h Q := by
  refine Wp.if2 rfl (fun c1 => ?_) (fun c1 => absurd (rfl) c1)
  refine Wp.seg 2 (pc1 := 18) (ls1 := [some (.ref 1000000003), some (.ref 0), some (.ref 59), some (.int ((Int32.ofNat i) + 5))]) (st1 := []) rfl ?_
  exact hQ
theorem law_44 {d : Nat} {Q : KO → Prop} {h : KH} {L i : Nat} {xs : Nat → Int32} (ht : h.1 1000000003 = (30, L)) (hx : ∀ q, h.2.2.1 1000000003 q = xs q) (hL : L ≤ 2560) (hi5 : i + 5 ≤ L) (hi : Inv h) (hd : 31 ≤ d) (hj : JI h 162 [.ref 0, .int (xs ((i + 1)))] 285 [.ref 59, .int (xs ((i + 1)))]) (hQ : ∀ k, Inv k → k.1 1000000003 = (30, L) → (∀ q, k.2.2.1 1000000003 q = xs q) → k.2.2.2.2.1 ≤ h.2.2.2.2.1 + 5 → k.2.2.2.2.2 ≤ h.2.2.2.2.2 + 240 → far h k → Wp d 297 18 [some (.ref 1000000003), some (.ref 0), some (.ref 59), some (.int (Int32.ofNat i + 5))] [] k Q) : Wp d 297 1562 [some (.ref 1000000003), some (.ref 0), some (.ref 59), some (.int (Int32.ofNat i))] [] h Q := by
  obtain ⟨v, hc⟩ := hj
  refine t_laA44 ht hx hL hi5 (Nat.zero_le _) ?_
  refine Wp.invV (d2 := 15) (as := [.ref 0, .int (xs ((i + 1)))]) (r := []) (t := (10, 0)) rfl rfl rfl rfl (WF.t hi.1 0 rfl) rfl rfl ⟨rfl, rfl⟩ (by omega) (hc.far.post ?_)
  rintro _ ⟨⟨k, rfl, hm⟩, f1⟩
  have ht1 : k.1 1000000003 = (30, L) := (f1.2 1000000003 (by decide) (by rw [ht])).1.trans ht
  have hx1 : ∀ q, k.2.2.1 1000000003 q = xs q := fun q => by rw [(f1.2 1000000003 (by decide) (by rw [ht])).2]; exact hx q
  have h59 : k.1 59 = (11, 0) := (f1.1.2 59 (by have := hi.1.2.2.1; omega)).trans (WF.t hi.1 59 rfl)
  refine t_laB44 (h := k) (v := v) ht1 hx1 hL hi5 (Nat.zero_le _) ?_
  refine Wp.invV (d2 := 15) (as := [.ref 59, .int (xs ((i + 1)))]) (r := [.int v]) (t := (11, 0)) rfl rfl rfl rfl h59 rfl rfl ⟨rfl, rfl⟩ (by omega) (hm.far.post ?_)
  rintro _ ⟨⟨k2, rfl, i2, s1, s2, fa⟩, f2⟩
  have ht2 : k2.1 1000000003 = (30, L) := (f2.2 1000000003 (by decide) (by rw [ht1])).1.trans ht1
  exact t_laC44 (h := k2) (v := v) (Nat.zero_le _) (hQ k2 i2 ht2 (fun q => by rw [(f2.2 1000000003 (by decide) (by rw [ht1])).2]; exact hx1 q) s1 s2 fa)
set_option maxHeartbeats 4000000 in
theorem t_laA45 {d : Nat} {Q : KO → Prop} {h : KH} {L i : Nat} {xs : Nat → Int32} (ht : h.1 1000000003 = (30, L)) (hx : ∀ q, h.2.2.1 1000000003 q = xs q) (hL : L ≤ 2560) (hi5 : i + 5 ≤ L) (hd : 0 ≤ d) (hQ : Wp d 297 1591 ([some (.ref 1000000003), some (.ref 0), some (.ref 59), some (.int (Int32.ofNat i))]) [.int (xs ((i + 1))), .ref 0] h Q) : Wp d 297 1585 [some (.ref 1000000003), some (.ref 0), some (.ref 59), some (.int (Int32.ofNat i))] [] h Q := by
  refine Wp.seg 5 (pc1 := 1590) (ls1 := [some (.ref 1000000003), some (.ref 0), some (.ref 59), some (.int (Int32.ofNat i))]) (st1 := [.int ((Int32.ofNat i) + (1 : Int32)), .ref 1000000003, .ref 0]) rfl ?_
  refine Wp.iald (j := (i + 1)) (k := 30) (n := L) rfl ht rfl ((Int32.ofNat_add i 1).symm) (by omega) (by omega) ?_
  rw [show h.2.2.1 1000000003 ((i + 1)) = xs ((i + 1)) from hx ((i + 1))]
  exact hQ
set_option maxHeartbeats 4000000 in
theorem t_laB45 {d : Nat} {Q : KO → Prop} {h : KH} {L i : Nat} {xs : Nat → Int32} (ht : h.1 1000000003 = (30, L)) (hx : ∀ q, h.2.2.1 1000000003 q = xs q) (hL : L ≤ 2560) (hi5 : i + 5 ≤ L) {v : Int32} (hd : 0 ≤ d) (hQ : Wp d 297 1600 ([some (.ref 1000000003), some (.ref 0), some (.ref 59), some (.int (Int32.ofNat i))]) [.int (xs ((i + 1))), .ref 59, .int (v)] h Q) : Wp d 297 1594 [some (.ref 1000000003), some (.ref 0), some (.ref 59), some (.int (Int32.ofNat i))] [.int (v)] h Q := by
  refine Wp.seg 5 (pc1 := 1599) (ls1 := [some (.ref 1000000003), some (.ref 0), some (.ref 59), some (.int (Int32.ofNat i))]) (st1 := [.int ((Int32.ofNat i) + (1 : Int32)), .ref 1000000003, .ref 59, .int (v)]) rfl ?_
  refine Wp.iald (j := (i + 1)) (k := 30) (n := L) rfl ht rfl ((Int32.ofNat_add i 1).symm) (by omega) (by omega) ?_
  rw [show h.2.2.1 1000000003 ((i + 1)) = xs ((i + 1)) from hx ((i + 1))]
  exact hQ
set_option maxHeartbeats 4000000 in
theorem t_laC45 {d : Nat} {Q : KO → Prop} {h : KH} {i : Nat} {v : Int32} (hd : 0 ≤ d) (hQ : Wp d 297 18 ([some (.ref 1000000003), some (.ref 0), some (.ref 59), some (.int ((Int32.ofNat i) + 5))]) [] h Q) : Wp d 297 1603 [some (.ref 1000000003), some (.ref 0), some (.ref 59), some (.int (Int32.ofNat i))] [.int (v), .int (v)] h Q := by
  refine Wp.if2 rfl (fun c1 => ?_) (fun c1 => absurd (rfl) c1)
  refine Wp.seg 2 (pc1 := 18) (ls1 := [some (.ref 1000000003), some (.ref 0), some (.ref 59), some (.int ((Int32.ofNat i) + 5))]) (st1 := []) rfl ?_
  exact hQ
theorem law_45 {d : Nat} {Q : KO → Prop} {h : KH} {L i : Nat} {xs : Nat → Int32} (ht : h.1 1000000003 = (30, L)) (hx : ∀ q, h.2.2.1 1000000003 q = xs q) (hL : L ≤ 2560) (hi5 : i + 5 ≤ L) (hi : Inv h) (hd : 31 ≤ d) (hj : JI h 163 [.ref 0, .int (xs ((i + 1)))] 286 [.ref 59, .int (xs ((i + 1)))]) (hQ : ∀ k, Inv k → k.1 1000000003 = (30, L) → (∀ q, k.2.2.1 1000000003 q = xs q) → k.2.2.2.2.1 ≤ h.2.2.2.2.1 + 5 → k.2.2.2.2.2 ≤ h.2.2.2.2.2 + 240 → far h k → Wp d 297 18 [some (.ref 1000000003), some (.ref 0), some (.ref 59), some (.int (Int32.ofNat i + 5))] [] k Q) : Wp d 297 1585 [some (.ref 1000000003), some (.ref 0), some (.ref 59), some (.int (Int32.ofNat i))] [] h Q := by
  obtain ⟨v, hc⟩ := hj
  refine t_laA45 ht hx hL hi5 (Nat.zero_le _) ?_
  refine Wp.invV (d2 := 15) (as := [.ref 0, .int (xs ((i + 1)))]) (r := []) (t := (10, 0)) rfl rfl rfl rfl (WF.t hi.1 0 rfl) rfl rfl ⟨rfl, rfl⟩ (by omega) (hc.far.post ?_)
  rintro _ ⟨⟨k, rfl, hm⟩, f1⟩
  have ht1 : k.1 1000000003 = (30, L) := (f1.2 1000000003 (by decide) (by rw [ht])).1.trans ht
  have hx1 : ∀ q, k.2.2.1 1000000003 q = xs q := fun q => by rw [(f1.2 1000000003 (by decide) (by rw [ht])).2]; exact hx q
  have h59 : k.1 59 = (11, 0) := (f1.1.2 59 (by have := hi.1.2.2.1; omega)).trans (WF.t hi.1 59 rfl)
  refine t_laB45 (h := k) (v := v) ht1 hx1 hL hi5 (Nat.zero_le _) ?_
  refine Wp.invV (d2 := 15) (as := [.ref 59, .int (xs ((i + 1)))]) (r := [.int v]) (t := (11, 0)) rfl rfl rfl rfl h59 rfl rfl ⟨rfl, rfl⟩ (by omega) (hm.far.post ?_)
  rintro _ ⟨⟨k2, rfl, i2, s1, s2, fa⟩, f2⟩
  have ht2 : k2.1 1000000003 = (30, L) := (f2.2 1000000003 (by decide) (by rw [ht1])).1.trans ht1
  exact t_laC45 (h := k2) (v := v) (Nat.zero_le _) (hQ k2 i2 ht2 (fun q => by rw [(f2.2 1000000003 (by decide) (by rw [ht1])).2]; exact hx1 q) s1 s2 fa)
set_option maxHeartbeats 4000000 in
theorem t_laA46 {d : Nat} {Q : KO → Prop} {h : KH} {L i : Nat} {xs : Nat → Int32} (ht : h.1 1000000003 = (30, L)) (hx : ∀ q, h.2.2.1 1000000003 q = xs q) (hL : L ≤ 2560) (hi5 : i + 5 ≤ L) (hd : 0 ≤ d) (hQ : Wp d 297 1609 ([some (.ref 1000000003), some (.ref 0), some (.ref 59), some (.int (Int32.ofNat i))]) [.ref 0] h Q) : Wp d 297 1608 [some (.ref 1000000003), some (.ref 0), some (.ref 59), some (.int (Int32.ofNat i))] [] h Q := by
  refine Wp.seg 1 (pc1 := 1609) (ls1 := [some (.ref 1000000003), some (.ref 0), some (.ref 59), some (.int (Int32.ofNat i))]) (st1 := [.ref 0]) rfl ?_
  exact hQ
set_option maxHeartbeats 4000000 in
theorem t_laB46 {d : Nat} {Q : KO → Prop} {h : KH} {L i : Nat} {xs : Nat → Int32} (ht : h.1 1000000003 = (30, L)) (hx : ∀ q, h.2.2.1 1000000003 q = xs q) (hL : L ≤ 2560) (hi5 : i + 5 ≤ L) {v : Int32} (hd : 0 ≤ d) (hQ : Wp d 297 1613 ([some (.ref 1000000003), some (.ref 0), some (.ref 59), some (.int (Int32.ofNat i))]) [.ref 59, .int (v)] h Q) : Wp d 297 1612 [some (.ref 1000000003), some (.ref 0), some (.ref 59), some (.int (Int32.ofNat i))] [.int (v)] h Q := by
  refine Wp.seg 1 (pc1 := 1613) (ls1 := [some (.ref 1000000003), some (.ref 0), some (.ref 59), some (.int (Int32.ofNat i))]) (st1 := [.ref 59, .int (v)]) rfl ?_
  exact hQ
set_option maxHeartbeats 4000000 in
theorem t_laC46 {d : Nat} {Q : KO → Prop} {h : KH} {i : Nat} {v : Int32} (hd : 0 ≤ d) (hQ : Wp d 297 18 ([some (.ref 1000000003), some (.ref 0), some (.ref 59), some (.int ((Int32.ofNat i) + 5))]) [] h Q) : Wp d 297 1616 [some (.ref 1000000003), some (.ref 0), some (.ref 59), some (.int (Int32.ofNat i))] [.int (v), .int (v)] h Q := by
  refine Wp.if2 rfl (fun c1 => ?_) (fun c1 => absurd (rfl) c1)
  refine Wp.seg 2 (pc1 := 18) (ls1 := [some (.ref 1000000003), some (.ref 0), some (.ref 59), some (.int ((Int32.ofNat i) + 5))]) (st1 := []) rfl ?_
  exact hQ
theorem law_46 {d : Nat} {Q : KO → Prop} {h : KH} {L i : Nat} {xs : Nat → Int32} (ht : h.1 1000000003 = (30, L)) (hx : ∀ q, h.2.2.1 1000000003 q = xs q) (hL : L ≤ 2560) (hi5 : i + 5 ≤ L) (hi : Inv h) (hd : 31 ≤ d) (hj : JI h 167 [.ref 0] 287 [.ref 59]) (hQ : ∀ k, Inv k → k.1 1000000003 = (30, L) → (∀ q, k.2.2.1 1000000003 q = xs q) → k.2.2.2.2.1 ≤ h.2.2.2.2.1 + 5 → k.2.2.2.2.2 ≤ h.2.2.2.2.2 + 240 → far h k → Wp d 297 18 [some (.ref 1000000003), some (.ref 0), some (.ref 59), some (.int (Int32.ofNat i + 5))] [] k Q) : Wp d 297 1608 [some (.ref 1000000003), some (.ref 0), some (.ref 59), some (.int (Int32.ofNat i))] [] h Q := by
  obtain ⟨v, hc⟩ := hj
  refine t_laA46 ht hx hL hi5 (Nat.zero_le _) ?_
  refine Wp.invV (d2 := 15) (as := [.ref 0]) (r := []) (t := (10, 0)) rfl rfl rfl rfl (WF.t hi.1 0 rfl) rfl rfl ⟨rfl, rfl⟩ (by omega) (hc.far.post ?_)
  rintro _ ⟨⟨k, rfl, hm⟩, f1⟩
  have ht1 : k.1 1000000003 = (30, L) := (f1.2 1000000003 (by decide) (by rw [ht])).1.trans ht
  have hx1 : ∀ q, k.2.2.1 1000000003 q = xs q := fun q => by rw [(f1.2 1000000003 (by decide) (by rw [ht])).2]; exact hx q
  have h59 : k.1 59 = (11, 0) := (f1.1.2 59 (by have := hi.1.2.2.1; omega)).trans (WF.t hi.1 59 rfl)
  refine t_laB46 (h := k) (v := v) ht1 hx1 hL hi5 (Nat.zero_le _) ?_
  refine Wp.invV (d2 := 15) (as := [.ref 59]) (r := [.int v]) (t := (11, 0)) rfl rfl rfl rfl h59 rfl rfl ⟨rfl, rfl⟩ (by omega) (hm.far.post ?_)
  rintro _ ⟨⟨k2, rfl, i2, s1, s2, fa⟩, f2⟩
  have ht2 : k2.1 1000000003 = (30, L) := (f2.2 1000000003 (by decide) (by rw [ht1])).1.trans ht1
  exact t_laC46 (h := k2) (v := v) (Nat.zero_le _) (hQ k2 i2 ht2 (fun q => by rw [(f2.2 1000000003 (by decide) (by rw [ht1])).2]; exact hx1 q) s1 s2 fa)
set_option maxHeartbeats 4000000 in
theorem t_laA47 {d : Nat} {Q : KO → Prop} {h : KH} {L i : Nat} {xs : Nat → Int32} (ht : h.1 1000000003 = (30, L)) (hx : ∀ q, h.2.2.1 1000000003 q = xs q) (hL : L ≤ 2560) (hi5 : i + 5 ≤ L) (hd : 0 ≤ d) (hQ : Wp d 297 1622 ([some (.ref 1000000003), some (.ref 0), some (.ref 59), some (.int (Int32.ofNat i))]) [.ref 0] h Q) : Wp d 297 1621 [some (.ref 1000000003), some (.ref 0), some (.ref 59), some (.int (Int32.ofNat i))] [] h Q := by
  refine Wp.seg 1 (pc1 := 1622) (ls1 := [some (.ref 1000000003), some (.ref 0), some (.ref 59), some (.int (Int32.ofNat i))]) (st1 := [.ref 0]) rfl ?_
  exact hQ
set_option maxHeartbeats 4000000 in
theorem t_laB47 {d : Nat} {Q : KO → Prop} {h : KH} {L i : Nat} {xs : Nat → Int32} (ht : h.1 1000000003 = (30, L)) (hx : ∀ q, h.2.2.1 1000000003 q = xs q) (hL : L ≤ 2560) (hi5 : i + 5 ≤ L) {v : Int32} (hd : 0 ≤ d) (hQ : Wp d 297 1626 ([some (.ref 1000000003), some (.ref 0), some (.ref 59), some (.int (Int32.ofNat i))]) [.ref 59, .int (v)] h Q) : Wp d 297 1625 [some (.ref 1000000003), some (.ref 0), some (.ref 59), some (.int (Int32.ofNat i))] [.int (v)] h Q := by
  refine Wp.seg 1 (pc1 := 1626) (ls1 := [some (.ref 1000000003), some (.ref 0), some (.ref 59), some (.int (Int32.ofNat i))]) (st1 := [.ref 59, .int (v)]) rfl ?_
  exact hQ
set_option maxHeartbeats 4000000 in
theorem t_laC47 {d : Nat} {Q : KO → Prop} {h : KH} {i : Nat} {v : Int32} (hd : 0 ≤ d) (hQ : Wp d 297 18 ([some (.ref 1000000003), some (.ref 0), some (.ref 59), some (.int ((Int32.ofNat i) + 5))]) [] h Q) : Wp d 297 1629 [some (.ref 1000000003), some (.ref 0), some (.ref 59), some (.int (Int32.ofNat i))] [.int (v), .int (v)] h Q := by
  refine Wp.if2 rfl (fun c1 => ?_) (fun c1 => absurd (rfl) c1)
  refine Wp.seg 2 (pc1 := 18) (ls1 := [some (.ref 1000000003), some (.ref 0), some (.ref 59), some (.int ((Int32.ofNat i) + 5))]) (st1 := []) rfl ?_
  exact hQ
theorem law_47 {d : Nat} {Q : KO → Prop} {h : KH} {L i : Nat} {xs : Nat → Int32} (ht : h.1 1000000003 = (30, L)) (hx : ∀ q, h.2.2.1 1000000003 q = xs q) (hL : L ≤ 2560) (hi5 : i + 5 ≤ L) (hi : Inv h) (hd : 31 ≤ d) (hj : JI h 168 [.ref 0] 288 [.ref 59]) (hQ : ∀ k, Inv k → k.1 1000000003 = (30, L) → (∀ q, k.2.2.1 1000000003 q = xs q) → k.2.2.2.2.1 ≤ h.2.2.2.2.1 + 5 → k.2.2.2.2.2 ≤ h.2.2.2.2.2 + 240 → far h k → Wp d 297 18 [some (.ref 1000000003), some (.ref 0), some (.ref 59), some (.int (Int32.ofNat i + 5))] [] k Q) : Wp d 297 1621 [some (.ref 1000000003), some (.ref 0), some (.ref 59), some (.int (Int32.ofNat i))] [] h Q := by
  obtain ⟨v, hc⟩ := hj
  refine t_laA47 ht hx hL hi5 (Nat.zero_le _) ?_
  refine Wp.invV (d2 := 15) (as := [.ref 0]) (r := []) (t := (10, 0)) rfl rfl rfl rfl (WF.t hi.1 0 rfl) rfl rfl ⟨rfl, rfl⟩ (by omega) (hc.far.post ?_)
  rintro _ ⟨⟨k, rfl, hm⟩, f1⟩
  have ht1 : k.1 1000000003 = (30, L) := (f1.2 1000000003 (by decide) (by rw [ht])).1.trans ht
  have hx1 : ∀ q, k.2.2.1 1000000003 q = xs q := fun q => by rw [(f1.2 1000000003 (by decide) (by rw [ht])).2]; exact hx q
  have h59 : k.1 59 = (11, 0) := (f1.1.2 59 (by have := hi.1.2.2.1; omega)).trans (WF.t hi.1 59 rfl)
  refine t_laB47 (h := k) (v := v) ht1 hx1 hL hi5 (Nat.zero_le _) ?_
  refine Wp.invV (d2 := 15) (as := [.ref 59]) (r := [.int v]) (t := (11, 0)) rfl rfl rfl rfl h59 rfl rfl ⟨rfl, rfl⟩ (by omega) (hm.far.post ?_)
  rintro _ ⟨⟨k2, rfl, i2, s1, s2, fa⟩, f2⟩
  have ht2 : k2.1 1000000003 = (30, L) := (f2.2 1000000003 (by decide) (by rw [ht1])).1.trans ht1
  exact t_laC47 (h := k2) (v := v) (Nat.zero_le _) (hQ k2 i2 ht2 (fun q => by rw [(f2.2 1000000003 (by decide) (by rw [ht1])).2]; exact hx1 q) s1 s2 fa)
