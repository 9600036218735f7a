/-! KM: both sides: act, its walks -/
theorem thO_new {h : KH} {t : Nat} {n a : Int32} : thO (kwi (kwi (kwi (kwi h t 1 0) t 2 0) t 3 n) t 4 a) t [] false n a := by
  refine ⟨by decide, ?_, fun i hi => absurd hi (Nat.not_lt_zero i), ?_, ?_, kwi_s⟩
  · rw [kwi_o (by decide), kwi_o (by decide), kwi_o (by decide), kwi_s]
    rfl
  · rw [kwi_o (by decide), kwi_o (by decide), kwi_s]
    rfl
  · rw [kwi_o (by decide), kwi_s]
theorem fr_sf {h : KH} {t : Nat} {n a : Int32} (ht : t < 75) : Fr (pTh t) noP h (kwi (kwi (kwi (kwi h t 1 0) t 2 0) t 3 n) t 4 a) :=
  (((fr_kwi (Or.inl rfl) ht).trans (fr_kwi (Or.inl rfl) ht)).trans (fr_kwi (Or.inl rfl) ht)).trans (fr_kwi (Or.inl rfl) ht)
set_option maxHeartbeats 4000000 in
theorem t_sf49 {d : Nat} {Q : KO → Prop} {h : KH} (hw : WF h) {n a : Int32} (hd : 0 ≤ d) (hQ : Q (none, kwi (kwi (kwi (kwi h 49 1 (0 : Int32)) 49 2 (0 : Int32)) 49 3 n) 49 4 a)) : Cl d 81 [.ref 49, .int (n), .int (a)] h Q := by
  refine Cl.of (ls := [some (.ref 49), some (.int (n)), some (.int (a))]) rfl rfl ?_
  refine Wp.seg 2 (pc1 := 2) (ls1 := [some (.ref 49), some (.int (n)), some (.int (a))]) (st1 := [.int (0), .ref 49]) rfl ?_
  refine Wp.pi (t := (0, 0)) rfl (WF.t hw 49 rfl) (Or.inl rfl) ?_
  refine Wp.seg 2 (pc1 := 7) (ls1 := [some (.ref 49), some (.int (n)), some (.int (a))]) (st1 := [.int (0), .ref 49]) rfl ?_
  refine Wp.pi (t := (0, 0)) rfl (WF.t hw 49 rfl) (Or.inr ⟨rfl, Or.inl rfl⟩) ?_
  refine Wp.seg 2 (pc1 := 12) (ls1 := [some (.ref 49), some (.int (n)), some (.int (a))]) (st1 := [.int (n), .ref 49]) rfl ?_
  refine Wp.pi (t := (0, 0)) rfl (WF.t hw 49 rfl) (Or.inl rfl) ?_
  refine Wp.seg 2 (pc1 := 17) (ls1 := [some (.ref 49), some (.int (n)), some (.int (a))]) (st1 := [.int (a), .ref 49]) rfl ?_
  refine Wp.pi (t := (0, 0)) rfl (WF.t hw 49 rfl) (Or.inl rfl) ?_
  exact Wp.retv rfl rfl hQ
theorem s_sf49 {d : Nat} {Q : KO → Prop} {h : KH} (hw : WF h) {n a : Int32} (hQ : ∀ k, Fr (pTh 49) noP h k → thO k 49 [] false n a → Q (none, k)) : Cl d 81 [.ref 49, .int n, .int a] h Q :=
  t_sf49 hw (Nat.zero_le _) (hQ _ (fr_sf (by decide)) thO_new)
set_option maxHeartbeats 4000000 in
theorem t_sf51 {d : Nat} {Q : KO → Prop} {h : KH} (hw : WF h) {n a : Int32} (hd : 0 ≤ d) (hQ : Q (none, kwi (kwi (kwi (kwi h 51 1 (0 : Int32)) 51 2 (0 : Int32)) 51 3 n) 51 4 a)) : Cl d 81 [.ref 51, .int (n), .int (a)] h Q := by
  refine Cl.of (ls := [some (.ref 51), some (.int (n)), some (.int (a))]) rfl rfl ?_
  refine Wp.seg 2 (pc1 := 2) (ls1 := [some (.ref 51), some (.int (n)), some (.int (a))]) (st1 := [.int (0), .ref 51]) rfl ?_
  refine Wp.pi (t := (3, 0)) rfl (WF.t hw 51 rfl) (Or.inl rfl) ?_
  refine Wp.seg 2 (pc1 := 7) (ls1 := [some (.ref 51), some (.int (n)), some (.int (a))]) (st1 := [.int (0), .ref 51]) rfl ?_
  refine Wp.pi (t := (3, 0)) rfl (WF.t hw 51 rfl) (Or.inr ⟨rfl, Or.inl rfl⟩) ?_
  refine Wp.seg 2 (pc1 := 12) (ls1 := [some (.ref 51), some (.int (n)), some (.int (a))]) (st1 := [.int (n), .ref 51]) rfl ?_
  refine Wp.pi (t := (3, 0)) rfl (WF.t hw 51 rfl) (Or.inl rfl) ?_
  refine Wp.seg 2 (pc1 := 17) (ls1 := [some (.ref 51), some (.int (n)), some (.int (a))]) (st1 := [.int (a), .ref 51]) rfl ?_
  refine Wp.pi (t := (3, 0)) rfl (WF.t hw 51 rfl) (Or.inl rfl) ?_
  exact Wp.retv rfl rfl hQ
theorem s_sf51 {d : Nat} {Q : KO → Prop} {h : KH} (hw : WF h) {n a : Int32} (hQ : ∀ k, Fr (pTh 51) noP h k → thO k 51 [] false n a → Q (none, k)) : Cl d 81 [.ref 51, .int n, .int a] h Q :=
  t_sf51 hw (Nat.zero_le _) (hQ _ (fr_sf (by decide)) thO_new)
set_option maxHeartbeats 4000000 in
theorem t_sf53 {d : Nat} {Q : KO → Prop} {h : KH} (hw : WF h) {n a : Int32} (hd : 0 ≤ d) (hQ : Q (none, kwi (kwi (kwi (kwi h 53 1 (0 : Int32)) 53 2 (0 : Int32)) 53 3 n) 53 4 a)) : Cl d 81 [.ref 53, .int (n), .int (a)] h Q := by
  refine Cl.of (ls := [some (.ref 53), some (.int (n)), some (.int (a))]) rfl rfl ?_
  refine Wp.seg 2 (pc1 := 2) (ls1 := [some (.ref 53), some (.int (n)), some (.int (a))]) (st1 := [.int (0), .ref 53]) rfl ?_
  refine Wp.pi (t := (4, 0)) rfl (WF.t hw 53 rfl) (Or.inl rfl) ?_
  refine Wp.seg 2 (pc1 := 7) (ls1 := [some (.ref 53), some (.int (n)), some (.int (a))]) (st1 := [.int (0), .ref 53]) rfl ?_
  refine Wp.pi (t := (4, 0)) rfl (WF.t hw 53 rfl) (Or.inr ⟨rfl, Or.inl rfl⟩) ?_
  refine Wp.seg 2 (pc1 := 12) (ls1 := [some (.ref 53), some (.int (n)), some (.int (a))]) (st1 := [.int (n), .ref 53]) rfl ?_
  refine Wp.pi (t := (4, 0)) rfl (WF.t hw 53 rfl) (Or.inl rfl) ?_
  refine Wp.seg 2 (pc1 := 17) (ls1 := [some (.ref 53), some (.int (n)), some (.int (a))]) (st1 := [.int (a), .ref 53]) rfl ?_
  refine Wp.pi (t := (4, 0)) rfl (WF.t hw 53 rfl) (Or.inl rfl) ?_
  exact Wp.retv rfl rfl hQ
theorem s_sf53 {d : Nat} {Q : KO → Prop} {h : KH} (hw : WF h) {n a : Int32} (hQ : ∀ k, Fr (pTh 53) noP h k → thO k 53 [] false n a → Q (none, k)) : Cl d 81 [.ref 53, .int n, .int a] h Q :=
  t_sf53 hw (Nat.zero_le _) (hQ _ (fr_sf (by decide)) thO_new)
set_option maxHeartbeats 4000000 in
theorem t_sf55 {d : Nat} {Q : KO → Prop} {h : KH} (hw : WF h) {n a : Int32} (hd : 0 ≤ d) (hQ : Q (none, kwi (kwi (kwi (kwi h 55 1 (0 : Int32)) 55 2 (0 : Int32)) 55 3 n) 55 4 a)) : Cl d 81 [.ref 55, .int (n), .int (a)] h Q := by
  refine Cl.of (ls := [some (.ref 55), some (.int (n)), some (.int (a))]) rfl rfl ?_
  refine Wp.seg 2 (pc1 := 2) (ls1 := [some (.ref 55), some (.int (n)), some (.int (a))]) (st1 := [.int (0), .ref 55]) rfl ?_
  refine Wp.pi (t := (8, 0)) rfl (WF.t hw 55 rfl) (Or.inl rfl) ?_
  refine Wp.seg 2 (pc1 := 7) (ls1 := [some (.ref 55), some (.int (n)), some (.int (a))]) (st1 := [.int (0), .ref 55]) rfl ?_
  refine Wp.pi (t := (8, 0)) rfl (WF.t hw 55 rfl) (Or.inr ⟨rfl, Or.inl rfl⟩) ?_
  refine Wp.seg 2 (pc1 := 12) (ls1 := [some (.ref 55), some (.int (n)), some (.int (a))]) (st1 := [.int (n), .ref 55]) rfl ?_
  refine Wp.pi (t := (8, 0)) rfl (WF.t hw 55 rfl) (Or.inl rfl) ?_
  refine Wp.seg 2 (pc1 := 17) (ls1 := [some (.ref 55), some (.int (n)), some (.int (a))]) (st1 := [.int (a), .ref 55]) rfl ?_
  refine Wp.pi (t := (8, 0)) rfl (WF.t hw 55 rfl) (Or.inl rfl) ?_
  exact Wp.retv rfl rfl hQ
theorem s_sf55 {d : Nat} {Q : KO → Prop} {h : KH} (hw : WF h) {n a : Int32} (hQ : ∀ k, Fr (pTh 55) noP h k → thO k 55 [] false n a → Q (none, k)) : Cl d 81 [.ref 55, .int n, .int a] h Q :=
  t_sf55 hw (Nat.zero_le _) (hQ _ (fr_sf (by decide)) thO_new)
set_option maxHeartbeats 4000000 in
theorem t_sf57 {d : Nat} {Q : KO → Prop} {h : KH} (hw : WF h) {n a : Int32} (hd : 0 ≤ d) (hQ : Q (none, kwi (kwi (kwi (kwi h 57 1 (0 : Int32)) 57 2 (0 : Int32)) 57 3 n) 57 4 a)) : Cl d 81 [.ref 57, .int (n), .int (a)] h Q := by
  refine Cl.of (ls := [some (.ref 57), some (.int (n)), some (.int (a))]) rfl rfl ?_
  refine Wp.seg 2 (pc1 := 2) (ls1 := [some (.ref 57), some (.int (n)), some (.int (a))]) (st1 := [.int (0), .ref 57]) rfl ?_
  refine Wp.pi (t := (2, 0)) rfl (WF.t hw 57 rfl) (Or.inl rfl) ?_
  refine Wp.seg 2 (pc1 := 7) (ls1 := [some (.ref 57), some (.int (n)), some (.int (a))]) (st1 := [.int (0), .ref 57]) rfl ?_
  refine Wp.pi (t := (2, 0)) rfl (WF.t hw 57 rfl) (Or.inr ⟨rfl, Or.inl rfl⟩) ?_
  refine Wp.seg 2 (pc1 := 12) (ls1 := [some (.ref 57), some (.int (n)), some (.int (a))]) (st1 := [.int (n), .ref 57]) rfl ?_
  refine Wp.pi (t := (2, 0)) rfl (WF.t hw 57 rfl) (Or.inl rfl) ?_
  refine Wp.seg 2 (pc1 := 17) (ls1 := [some (.ref 57), some (.int (n)), some (.int (a))]) (st1 := [.int (a), .ref 57]) rfl ?_
  refine Wp.pi (t := (2, 0)) rfl (WF.t hw 57 rfl) (Or.inl rfl) ?_
  exact Wp.retv rfl rfl hQ
theorem s_sf57 {d : Nat} {Q : KO → Prop} {h : KH} (hw : WF h) {n a : Int32} (hQ : ∀ k, Fr (pTh 57) noP h k → thO k 57 [] false n a → Q (none, k)) : Cl d 81 [.ref 57, .int n, .int a] h Q :=
  t_sf57 hw (Nat.zero_le _) (hQ _ (fr_sf (by decide)) thO_new)
set_option maxHeartbeats 4000000 in
theorem t_ac {d : Nat} {Q : KO → Prop} {h : KH} (hw : WF h) {v w x : Int32} (hd : 8 ≤ d) (hQ : Wp d 161 5 ([some (.ref 0), some (.int (v)), some (.int (w)), some (.int (x)), none, none, none]) [] (kwr h 0 15 none) Q) : Cl d 161 [.ref 0, .int (v), .int (w), .int (x)] h Q := by
  refine Cl.of (ls := [some (.ref 0), some (.int (v)), some (.int (w)), some (.int (x)), none, none, none]) rfl rfl ?_
  refine Wp.seg 2 (pc1 := 2) (ls1 := [some (.ref 0), some (.int (v)), some (.int (w)), some (.int (x)), none, none, none]) (st1 := [.null, .ref 0]) rfl ?_
  refine Wp.pn (t := (10, 0)) rfl (WF.t hw 0 rfl) rfl ?_
  exact hQ
set_option maxHeartbeats 4000000 in
theorem t_ac0 {d : Nat} {Q : KO → Prop} {h : KH} (hw : WF h) {v w x : Int32} (q : inB v 0 3 = false) (hd : 8 ≤ d) (hQ : Q (some (.int (0)), h)) : Wp d 161 5 [some (.ref 0), some (.int (v)), some (.int (w)), some (.int (x)), none, none, none] [] h Q := by
  refine Wp.seg 1 (pc1 := 6) (ls1 := [some (.ref 0), some (.int (v)), some (.int (w)), some (.int (x)), none, none, none]) (st1 := [.int (v)]) rfl ?_
  refine Wp.inv (d2 := 0) (as := [.int (v)]) (r := []) rfl rfl rfl rfl rfl rfl (by omega) (s_b164 ?_)
  show Wp d 161 9 [some (.ref 0), some (.int (v)), some (.int (w)), some (.int (x)), none, none, none] [.int (b32 (inB v 0 3))] h Q
  refine Wp.ifz rfl (fun c1 => ?_) (fun c1 => absurd (c1.symm.trans (q)) (by decide))
  refine Wp.seg 1 (pc1 := 22) (ls1 := [some (.ref 0), some (.int (v)), some (.int (w)), some (.int (x)), none, none, none]) (st1 := [.int (0)]) rfl ?_
  exact Wp.reti rfl rfl hQ
set_option maxHeartbeats 4000000 in
theorem t_ac1 {d : Nat} {Q : KO → Prop} {h : KH} (hw : WF h) {s : Nat} (hs : s < 4) (qs : inB (Int32.ofNat s) 0 3 = true) {w x : Int32} (m0 : w < 0) (hd : 8 ≤ d) (hQ : Q (some (.int (0)), h)) : Wp d 161 5 [some (.ref 0), some (.int (Int32.ofNat s)), some (.int (w)), some (.int (x)), none, none, none] [] h Q := by
  refine Wp.seg 1 (pc1 := 6) (ls1 := [some (.ref 0), some (.int (Int32.ofNat s)), some (.int (w)), some (.int (x)), none, none, none]) (st1 := [.int (Int32.ofNat s)]) rfl ?_
  refine Wp.inv (d2 := 0) (as := [.int (Int32.ofNat s)]) (r := []) rfl rfl rfl rfl rfl rfl (by omega) (s_b164 ?_)
  show Wp d 161 9 [some (.ref 0), some (.int (Int32.ofNat s)), some (.int (w)), some (.int (x)), none, none, none] [.int (b32 (inB (Int32.ofNat s) 0 3))] h Q
  refine Wp.ifz rfl (fun c1 => absurd (c1.symm.trans (qs)) (by decide)) (fun c1 => ?_)
  refine Wp.seg 1 (pc1 := 13) (ls1 := [some (.ref 0), some (.int (Int32.ofNat s)), some (.int (w)), some (.int (x)), none, none, none]) (st1 := [.int (w)]) rfl ?_
  refine Wp.if1 rfl (fun c2 => ?_) (fun c2 => absurd (m0) c2)
  refine Wp.seg 1 (pc1 := 22) (ls1 := [some (.ref 0), some (.int (Int32.ofNat s)), some (.int (w)), some (.int (x)), none, none, none]) (st1 := [.int (0)]) rfl ?_
  exact Wp.reti rfl rfl hQ
set_option maxHeartbeats 4000000 in
theorem t_ac2 {d : Nat} {Q : KO → Prop} {h : KH} (hw : WF h) {s : Nat} (hs : s < 4) (qs : inB (Int32.ofNat s) 0 3 = true) {w x : Int32} (m0 : ¬ w < 0) (m3 : ¬ w ≤ 3) (hd : 8 ≤ d) (hQ : Q (some (.int (0)), h)) : Wp d 161 5 [some (.ref 0), some (.int (Int32.ofNat s)), some (.int (w)), some (.int (x)), none, none, none] [] h Q := by
  refine Wp.seg 1 (pc1 := 6) (ls1 := [some (.ref 0), some (.int (Int32.ofNat s)), some (.int (w)), some (.int (x)), none, none, none]) (st1 := [.int (Int32.ofNat s)]) rfl ?_
  refine Wp.inv (d2 := 0) (as := [.int (Int32.ofNat s)]) (r := []) rfl rfl rfl rfl rfl rfl (by omega) (s_b164 ?_)
  show Wp d 161 9 [some (.ref 0), some (.int (Int32.ofNat s)), some (.int (w)), some (.int (x)), none, none, none] [.int (b32 (inB (Int32.ofNat s) 0 3))] h Q
  refine Wp.ifz rfl (fun c1 => absurd (c1.symm.trans (qs)) (by decide)) (fun c1 => ?_)
  refine Wp.seg 1 (pc1 := 13) (ls1 := [some (.ref 0), some (.int (Int32.ofNat s)), some (.int (w)), some (.int (x)), none, none, none]) (st1 := [.int (w)]) rfl ?_
  refine Wp.if1 rfl (fun c2 => absurd c2 (m0)) (fun c2 => ?_)
  refine Wp.seg 2 (pc1 := 18) (ls1 := [some (.ref 0), some (.int (Int32.ofNat s)), some (.int (w)), some (.int (x)), none, none, none]) (st1 := [.int (3), .int (w)]) rfl ?_
  refine Wp.if2 rfl (fun c3 => absurd c3 (m3)) (fun c3 => ?_)
  refine Wp.seg 1 (pc1 := 22) (ls1 := [some (.ref 0), some (.int (Int32.ofNat s)), some (.int (w)), some (.int (x)), none, none, none]) (st1 := [.int (0)]) rfl ?_
  exact Wp.reti rfl rfl hQ
set_option maxHeartbeats 4000000 in
theorem t_ac3 {d : Nat} {Q : KO → Prop} {h : KH} (hw : WF h) {s : Nat} (hs : s < 4) (qs : inB (Int32.ofNat s) 0 3 = true) {w x : Int32} (m0 : ¬ w < 0) (m3 : w ≤ 3) (h45 : h.2.2.1 45 s = 1) (hd : 8 ≤ d) (hQ : Q (some (.int (0)), h)) : Wp d 161 5 [some (.ref 0), some (.int (Int32.ofNat s)), some (.int (w)), some (.int (x)), none, none, none] [] h Q := by
  refine Wp.seg 1 (pc1 := 6) (ls1 := [some (.ref 0), some (.int (Int32.ofNat s)), some (.int (w)), some (.int (x)), none, none, none]) (st1 := [.int (Int32.ofNat s)]) rfl ?_
  refine Wp.inv (d2 := 0) (as := [.int (Int32.ofNat s)]) (r := []) rfl rfl rfl rfl rfl rfl (by omega) (s_b164 ?_)
  show Wp d 161 9 [some (.ref 0), some (.int (Int32.ofNat s)), some (.int (w)), some (.int (x)), none, none, none] [.int (b32 (inB (Int32.ofNat s) 0 3))] h Q
  refine Wp.ifz rfl (fun c1 => absurd (c1.symm.trans (qs)) (by decide)) (fun c1 => ?_)
  refine Wp.seg 1 (pc1 := 13) (ls1 := [some (.ref 0), some (.int (Int32.ofNat s)), some (.int (w)), some (.int (x)), none, none, none]) (st1 := [.int (w)]) rfl ?_
  refine Wp.if1 rfl (fun c2 => absurd c2 (m0)) (fun c2 => ?_)
  refine Wp.seg 2 (pc1 := 18) (ls1 := [some (.ref 0), some (.int (Int32.ofNat s)), some (.int (w)), some (.int (x)), none, none, none]) (st1 := [.int (3), .int (w)]) rfl ?_
  refine Wp.if2 rfl (fun c3 => ?_) (fun c3 => absurd (m3) c3)
  refine Wp.seg 2 (pc1 := 25) (ls1 := [some (.ref 0), some (.int (Int32.ofNat s)), some (.int (w)), some (.int (x)), none, none, none]) (st1 := [.int (Int32.ofNat s), .ref 0]) rfl ?_
  refine Wp.invV (d2 := 1) (as := [.ref 0, .int (Int32.ofNat s)]) (r := []) (t := (10, 0)) rfl rfl rfl rfl (WF.t hw 0 rfl) rfl rfl ⟨rfl, rfl⟩ (by omega) (t_hdo1 hw hs h45 (Nat.le_refl _) ?_)
  show Wp d 161 28 [some (.ref 0), some (.int (Int32.ofNat s)), some (.int (w)), some (.int (x)), none, none, none] [.int (-1)] h Q
  refine Wp.seg 2 (pc1 := 32) (ls1 := [some (.ref 0), some (.int (Int32.ofNat s)), some (.int (w)), some (.int (x)), some (.int (-1)), none, none]) (st1 := [.int (-1)]) rfl ?_
  refine Wp.if1 rfl (fun c4 => absurd c4 (show ¬ (0 ≤ (-1 : Int32)) by decide)) (fun c4 => ?_)
  refine Wp.seg 1 (pc1 := 36) (ls1 := [some (.ref 0), some (.int (Int32.ofNat s)), some (.int (w)), some (.int (x)), some (.int (-1)), none, none]) (st1 := [.int (0)]) rfl ?_
  exact Wp.reti rfl rfl hQ
set_option maxHeartbeats 4000000 in
theorem t_ac4 {d : Nat} {Q : KO → Prop} {h : KH} (hw : WF h) {s : Nat} (hs : s < 4) (qs : inB (Int32.ofNat s) 0 3 = true) {w x : Int32} (m0 : ¬ w < 0) (m3 : w ≤ 3) (h45 : h.2.2.1 45 s = 2) (hd : 8 ≤ d) (hQ : Q (some (.int (0)), h)) : Wp d 161 5 [some (.ref 0), some (.int (Int32.ofNat s)), some (.int (w)), some (.int (x)), none, none, none] [] h Q := by
  refine Wp.seg 1 (pc1 := 6) (ls1 := [some (.ref 0), some (.int (Int32.ofNat s)), some (.int (w)), some (.int (x)), none, none, none]) (st1 := [.int (Int32.ofNat s)]) rfl ?_
  refine Wp.inv (d2 := 0) (as := [.int (Int32.ofNat s)]) (r := []) rfl rfl rfl rfl rfl rfl (by omega) (s_b164 ?_)
  show Wp d 161 9 [some (.ref 0), some (.int (Int32.ofNat s)), some (.int (w)), some (.int (x)), none, none, none] [.int (b32 (inB (Int32.ofNat s) 0 3))] h Q
  refine Wp.ifz rfl (fun c1 => absurd (c1.symm.trans (qs)) (by decide)) (fun c1 => ?_)
  refine Wp.seg 1 (pc1 := 13) (ls1 := [some (.ref 0), some (.int (Int32.ofNat s)), some (.int (w)), some (.int (x)), none, none, none]) (st1 := [.int (w)]) rfl ?_
  refine Wp.if1 rfl (fun c2 => absurd c2 (m0)) (fun c2 => ?_)
  refine Wp.seg 2 (pc1 := 18) (ls1 := [some (.ref 0), some (.int (Int32.ofNat s)), some (.int (w)), some (.int (x)), none, none, none]) (st1 := [.int (3), .int (w)]) rfl ?_
  refine Wp.if2 rfl (fun c3 => ?_) (fun c3 => absurd (m3) c3)
  refine Wp.seg 2 (pc1 := 25) (ls1 := [some (.ref 0), some (.int (Int32.ofNat s)), some (.int (w)), some (.int (x)), none, none, none]) (st1 := [.int (Int32.ofNat s), .ref 0]) rfl ?_
  refine Wp.invV (d2 := 1) (as := [.ref 0, .int (Int32.ofNat s)]) (r := []) (t := (10, 0)) rfl rfl rfl rfl (WF.t hw 0 rfl) rfl rfl ⟨rfl, rfl⟩ (by omega) (t_hdo2 hw hs h45 (Nat.le_refl _) ?_)
  show Wp d 161 28 [some (.ref 0), some (.int (Int32.ofNat s)), some (.int (w)), some (.int (x)), none, none, none] [.int (-1)] h Q
  refine Wp.seg 2 (pc1 := 32) (ls1 := [some (.ref 0), some (.int (Int32.ofNat s)), some (.int (w)), some (.int (x)), some (.int (-1)), none, none]) (st1 := [.int (-1)]) rfl ?_
  refine Wp.if1 rfl (fun c4 => absurd c4 (show ¬ (0 ≤ (-1 : Int32)) by decide)) (fun c4 => ?_)
  refine Wp.seg 1 (pc1 := 36) (ls1 := [some (.ref 0), some (.int (Int32.ofNat s)), some (.int (w)), some (.int (x)), some (.int (-1)), none, none]) (st1 := [.int (0)]) rfl ?_
  exact Wp.reti rfl rfl hQ
set_option maxHeartbeats 4000000 in
theorem t_ac5 {d : Nat} {Q : KO → Prop} {h : KH} (hw : WF h) {s : Nat} (hs : s < 4) (qs : inB (Int32.ofNat s) 0 3 = true) {w x : Int32} (m0 : ¬ w < 0) (m3 : w ≤ 3) {A : Nat → Int32} {RL : List Rul} {n c dn en : Nat} (hk : cityOK h 1 A RL n c dn en) (h45 : h.2.2.1 45 s = 0) {sb : Int32} (h46 : h.2.2.1 46 s = sb) (qx : inB sb 0 ((n : Int) - 1) = false) (hd : 8 ≤ d) (hQ : Q (some (.int (0)), h)) : Wp d 161 5 [some (.ref 0), some (.int (Int32.ofNat s)), some (.int (w)), some (.int (x)), none, none, none] [] h Q := by
  refine Wp.seg 1 (pc1 := 6) (ls1 := [some (.ref 0), some (.int (Int32.ofNat s)), some (.int (w)), some (.int (x)), none, none, none]) (st1 := [.int (Int32.ofNat s)]) rfl ?_
  refine Wp.inv (d2 := 0) (as := [.int (Int32.ofNat s)]) (r := []) rfl rfl rfl rfl rfl rfl (by omega) (s_b164 ?_)
  show Wp d 161 9 [some (.ref 0), some (.int (Int32.ofNat s)), some (.int (w)), some (.int (x)), none, none, none] [.int (b32 (inB (Int32.ofNat s) 0 3))] h Q
  refine Wp.ifz rfl (fun c1 => absurd (c1.symm.trans (qs)) (by decide)) (fun c1 => ?_)
  refine Wp.seg 1 (pc1 := 13) (ls1 := [some (.ref 0), some (.int (Int32.ofNat s)), some (.int (w)), some (.int (x)), none, none, none]) (st1 := [.int (w)]) rfl ?_
  refine Wp.if1 rfl (fun c2 => absurd c2 (m0)) (fun c2 => ?_)
  refine Wp.seg 2 (pc1 := 18) (ls1 := [some (.ref 0), some (.int (Int32.ofNat s)), some (.int (w)), some (.int (x)), none, none, none]) (st1 := [.int (3), .int (w)]) rfl ?_
  refine Wp.if2 rfl (fun c3 => ?_) (fun c3 => absurd (m3) c3)
  refine Wp.seg 2 (pc1 := 25) (ls1 := [some (.ref 0), some (.int (Int32.ofNat s)), some (.int (w)), some (.int (x)), none, none, none]) (st1 := [.int (Int32.ofNat s), .ref 0]) rfl ?_
  refine Wp.invV (d2 := 1) (as := [.ref 0, .int (Int32.ofNat s)]) (r := []) (t := (10, 0)) rfl rfl rfl rfl (WF.t hw 0 rfl) rfl rfl ⟨rfl, rfl⟩ (by omega) (t_hdo0 hw hs hk h45 h46 qx (Nat.le_refl _) ?_)
  show Wp d 161 28 [some (.ref 0), some (.int (Int32.ofNat s)), some (.int (w)), some (.int (x)), none, none, none] [.int (-1)] h Q
  refine Wp.seg 2 (pc1 := 32) (ls1 := [some (.ref 0), some (.int (Int32.ofNat s)), some (.int (w)), some (.int (x)), some (.int (-1)), none, none]) (st1 := [.int (-1)]) rfl ?_
  refine Wp.if1 rfl (fun c4 => absurd c4 (show ¬ (0 ≤ (-1 : Int32)) by decide)) (fun c4 => ?_)
  refine Wp.seg 1 (pc1 := 36) (ls1 := [some (.ref 0), some (.int (Int32.ofNat s)), some (.int (w)), some (.int (x)), some (.int (-1)), none, none]) (st1 := [.int (0)]) rfl ?_
  exact Wp.reti rfl rfl hQ
set_option maxHeartbeats 4000000 in
theorem t_ac6_1 {d : Nat} {Q : KO → Prop} {h : KH} (hw : WF h) {s : Nat} (hs : s < 4) (qs : inB (Int32.ofNat s) 0 3 = true) {w x : Int32} (m0 : ¬ w < 0) (m3 : w ≤ 3) {A : Nat → Int32} {RL : List Rul} {n c dn en : Nat} (hk : cityOK h 1 A RL n c dn en) (h45 : h.2.2.1 45 s = 0) {i : Nat} (hi6 : i < 6) (h46 : h.2.2.1 46 s = Int32.ofNat i) (qx : inB (Int32.ofNat i) 0 ((n : Int) - 1) = true) (ni2 : 0 ≤ Int32.ofNat i) (hkk : h.2.2.1 2 (4 * i + 0) = 1) (hd : 8 ≤ d) (hQ : Wp d 161 79 ([some (.ref 0), some (.int (Int32.ofNat s)), some (.int (w)), some (.int (x)), some (.int (Int32.ofNat i)), some (.int (1)), none]) [] (kwr h 0 15 (some 49)) Q) : Wp d 161 5 [some (.ref 0), some (.int (Int32.ofNat s)), some (.int (w)), some (.int (x)), none, none, none] [] h Q := by
  refine Wp.seg 1 (pc1 := 6) (ls1 := [some (.ref 0), some (.int (Int32.ofNat s)), some (.int (w)), some (.int (x)), none, none, none]) (st1 := [.int (Int32.ofNat s)]) rfl ?_
  refine Wp.inv (d2 := 0) (as := [.int (Int32.ofNat s)]) (r := []) rfl rfl rfl rfl rfl rfl (by omega) (s_b164 ?_)
  show Wp d 161 9 [some (.ref 0), some (.int (Int32.ofNat s)), some (.int (w)), some (.int (x)), none, none, none] [.int (b32 (inB (Int32.ofNat s) 0 3))] h Q
  refine Wp.ifz rfl (fun c1 => absurd (c1.symm.trans (qs)) (by decide)) (fun c1 => ?_)
  refine Wp.seg 1 (pc1 := 13) (ls1 := [some (.ref 0), some (.int (Int32.ofNat s)), some (.int (w)), some (.int (x)), none, none, none]) (st1 := [.int (w)]) rfl ?_
  refine Wp.if1 rfl (fun c2 => absurd c2 (m0)) (fun c2 => ?_)
  refine Wp.seg 2 (pc1 := 18) (ls1 := [some (.ref 0), some (.int (Int32.ofNat s)), some (.int (w)), some (.int (x)), none, none, none]) (st1 := [.int (3), .int (w)]) rfl ?_
  refine Wp.if2 rfl (fun c3 => ?_) (fun c3 => absurd (m3) c3)
  refine Wp.seg 2 (pc1 := 25) (ls1 := [some (.ref 0), some (.int (Int32.ofNat s)), some (.int (w)), some (.int (x)), none, none, none]) (st1 := [.int (Int32.ofNat s), .ref 0]) rfl ?_
  refine Wp.invV (d2 := 1) (as := [.ref 0, .int (Int32.ofNat s)]) (r := []) (t := (10, 0)) rfl rfl rfl rfl (WF.t hw 0 rfl) rfl rfl ⟨rfl, rfl⟩ (by omega) (t_hdoy hw hs hk h45 h46 qx (Nat.le_refl _) ?_)
  show Wp d 161 28 [some (.ref 0), some (.int (Int32.ofNat s)), some (.int (w)), some (.int (x)), none, none, none] [.int (Int32.ofNat i)] h Q
  refine Wp.seg 2 (pc1 := 32) (ls1 := [some (.ref 0), some (.int (Int32.ofNat s)), some (.int (w)), some (.int (x)), some (.int (Int32.ofNat i)), none, none]) (st1 := [.int (Int32.ofNat i)]) rfl ?_
  refine Wp.if1 rfl (fun c4 => ?_) (fun c4 => absurd (ni2) c4)
  refine Wp.seg 1 (pc1 := 38) (ls1 := [some (.ref 0), some (.int (Int32.ofNat s)), some (.int (w)), some (.int (x)), some (.int (Int32.ofNat i)), none, none]) (st1 := [.ref 0]) rfl ?_
  refine Wp.gr (t := (10, 0)) (v := some (1)) rfl (WF.t hw 0 rfl) rfl (WF.r hw 0 0 0 rfl) ?_
  show Wp d 161 41 [some (.ref 0), some (.int (Int32.ofNat s)), some (.int (w)), some (.int (x)), some (.int (Int32.ofNat i)), none, none] [.ref 1] h Q
  refine Wp.seg 2 (pc1 := 44) (ls1 := [some (.ref 0), some (.int (Int32.ofNat s)), some (.int (w)), some (.int (x)), some (.int (Int32.ofNat i)), none, none]) (st1 := [.int (0), .int (Int32.ofNat i), .ref 1]) rfl ?_
  refine Wp.invV (d2 := 0) (as := [.ref 1, .int (Int32.ofNat i), .int (0)]) (r := []) (t := (1, 0)) rfl rfl rfl rfl (WF.t hw 1 rfl) rfl rfl ⟨rfl, rfl⟩ (by omega) (s_cget hw cA1 (w := 0) rfl (by omega) hkk ?_)
  show Wp d 161 47 [some (.ref 0), some (.int (Int32.ofNat s)), some (.int (w)), some (.int (x)), some (.int (Int32.ofNat i)), none, none] [.int (1)] h Q
  refine Wp.seg 3 (pc1 := 52) (ls1 := [some (.ref 0), some (.int (Int32.ofNat s)), some (.int (w)), some (.int (x)), some (.int (Int32.ofNat i)), some (.int (1)), none]) (st1 := [.int (1), .ref 0]) rfl ?_
  refine Wp.if1 rfl (fun c5 => absurd c5 (show ¬ ((1 : Int32) < 0) by decide)) (fun c5 => ?_)
  refine Wp.seg 2 (pc1 := 58) (ls1 := [some (.ref 0), some (.int (Int32.ofNat s)), some (.int (w)), some (.int (x)), some (.int (Int32.ofNat i)), some (.int (1)), none]) (st1 := [.ref 0, .int (1), .ref 0]) rfl ?_
  refine Wp.gr (t := (10, 0)) (v := some (48)) rfl (WF.t hw 0 rfl) rfl (WF.r hw 0 14 12 rfl) ?_
  show Wp d 161 61 [some (.ref 0), some (.int (Int32.ofNat s)), some (.int (w)), some (.int (x)), some (.int (Int32.ofNat i)), some (.int (1)), none] [.ref 48, .int (1), .ref 0] h Q
  refine Wp.alen (n := 6) (k := 25) rfl (WF.t hw 48 rfl) rfl ?_
  refine Wp.if2 rfl (fun c6 => absurd c6 (show ¬ (Int32.ofNat 6 ≤ (1 : Int32)) by decide)) (fun c6 => ?_)
  refine Wp.seg 1 (pc1 := 66) (ls1 := [some (.ref 0), some (.int (Int32.ofNat s)), some (.int (w)), some (.int (x)), some (.int (Int32.ofNat i)), some (.int (1)), none]) (st1 := [.ref 0, .ref 0]) rfl ?_
  refine Wp.gr (t := (10, 0)) (v := some (48)) rfl (WF.t hw 0 rfl) rfl (WF.r hw 0 14 12 rfl) ?_
  show Wp d 161 69 [some (.ref 0), some (.int (Int32.ofNat s)), some (.int (w)), some (.int (x)), some (.int (Int32.ofNat i)), some (.int (1)), none] [.ref 48, .ref 0] h Q
  refine Wp.seg 1 (pc1 := 71) (ls1 := [some (.ref 0), some (.int (Int32.ofNat s)), some (.int (w)), some (.int (x)), some (.int (Int32.ofNat i)), some (.int (1)), none]) (st1 := [.int (1), .ref 48, .ref 0]) rfl ?_
  refine Wp.aald (j := 1) (k := 25) (n := 6) (v := some (49)) rfl (WF.t hw 48 rfl) rfl rfl (by decide) (by decide) (WF.r hw 48 1 48 rfl) ?_
  show Wp d 161 72 [some (.ref 0), some (.int (Int32.ofNat s)), some (.int (w)), some (.int (x)), some (.int (Int32.ofNat i)), some (.int (1)), none] [.ref 49, .ref 0] h Q
  refine Wp.seg 1 (pc1 := 76) (ls1 := [some (.ref 0), some (.int (Int32.ofNat s)), some (.int (w)), some (.int (x)), some (.int (Int32.ofNat i)), some (.int (1)), none]) (st1 := [.ref 49, .ref 0]) rfl ?_
  refine Wp.pr (t := (10, 0)) rfl (WF.t hw 0 rfl) rfl ?_
  exact hQ
set_option maxHeartbeats 4000000 in
theorem t_ac6_2 {d : Nat} {Q : KO → Prop} {h : KH} (hw : WF h) {s : Nat} (hs : s < 4) (qs : inB (Int32.ofNat s) 0 3 = true) {w x : Int32} (m0 : ¬ w < 0) (m3 : w ≤ 3) {A : Nat → Int32} {RL : List Rul} {n c dn en : Nat} (hk : cityOK h 1 A RL n c dn en) (h45 : h.2.2.1 45 s = 0) {i : Nat} (hi6 : i < 6) (h46 : h.2.2.1 46 s = Int32.ofNat i) (qx : inB (Int32.ofNat i) 0 ((n : Int) - 1) = true) (ni2 : 0 ≤ Int32.ofNat i) (hkk : h.2.2.1 2 (4 * i + 0) = 2) (hd : 8 ≤ d) (hQ : Wp d 161 79 ([some (.ref 0), some (.int (Int32.ofNat s)), some (.int (w)), some (.int (x)), some (.int (Int32.ofNat i)), some (.int (2)), none]) [] (kwr h 0 15 (some 51)) Q) : Wp d 161 5 [some (.ref 0), some (.int (Int32.ofNat s)), some (.int (w)), some (.int (x)), none, none, none] [] h Q := by
  refine Wp.seg 1 (pc1 := 6) (ls1 := [some (.ref 0), some (.int (Int32.ofNat s)), some (.int (w)), some (.int (x)), none, none, none]) (st1 := [.int (Int32.ofNat s)]) rfl ?_
  refine Wp.inv (d2 := 0) (as := [.int (Int32.ofNat s)]) (r := []) rfl rfl rfl rfl rfl rfl (by omega) (s_b164 ?_)
  show Wp d 161 9 [some (.ref 0), some (.int (Int32.ofNat s)), some (.int (w)), some (.int (x)), none, none, none] [.int (b32 (inB (Int32.ofNat s) 0 3))] h Q
  refine Wp.ifz rfl (fun c1 => absurd (c1.symm.trans (qs)) (by decide)) (fun c1 => ?_)
  refine Wp.seg 1 (pc1 := 13) (ls1 := [some (.ref 0), some (.int (Int32.ofNat s)), some (.int (w)), some (.int (x)), none, none, none]) (st1 := [.int (w)]) rfl ?_
  refine Wp.if1 rfl (fun c2 => absurd c2 (m0)) (fun c2 => ?_)
  refine Wp.seg 2 (pc1 := 18) (ls1 := [some (.ref 0), some (.int (Int32.ofNat s)), some (.int (w)), some (.int (x)), none, none, none]) (st1 := [.int (3), .int (w)]) rfl ?_
  refine Wp.if2 rfl (fun c3 => ?_) (fun c3 => absurd (m3) c3)
  refine Wp.seg 2 (pc1 := 25) (ls1 := [some (.ref 0), some (.int (Int32.ofNat s)), some (.int (w)), some (.int (x)), none, none, none]) (st1 := [.int (Int32.ofNat s), .ref 0]) rfl ?_
  refine Wp.invV (d2 := 1) (as := [.ref 0, .int (Int32.ofNat s)]) (r := []) (t := (10, 0)) rfl rfl rfl rfl (WF.t hw 0 rfl) rfl rfl ⟨rfl, rfl⟩ (by omega) (t_hdoy hw hs hk h45 h46 qx (Nat.le_refl _) ?_)
  show Wp d 161 28 [some (.ref 0), some (.int (Int32.ofNat s)), some (.int (w)), some (.int (x)), none, none, none] [.int (Int32.ofNat i)] h Q
  refine Wp.seg 2 (pc1 := 32) (ls1 := [some (.ref 0), some (.int (Int32.ofNat s)), some (.int (w)), some (.int (x)), some (.int (Int32.ofNat i)), none, none]) (st1 := [.int (Int32.ofNat i)]) rfl ?_
  refine Wp.if1 rfl (fun c4 => ?_) (fun c4 => absurd (ni2) c4)
  refine Wp.seg 1 (pc1 := 38) (ls1 := [some (.ref 0), some (.int (Int32.ofNat s)), some (.int (w)), some (.int (x)), some (.int (Int32.ofNat i)), none, none]) (st1 := [.ref 0]) rfl ?_
  refine Wp.gr (t := (10, 0)) (v := some (1)) rfl (WF.t hw 0 rfl) rfl (WF.r hw 0 0 0 rfl) ?_
  show Wp d 161 41 [some (.ref 0), some (.int (Int32.ofNat s)), some (.int (w)), some (.int (x)), some (.int (Int32.ofNat i)), none, none] [.ref 1] h Q
  refine Wp.seg 2 (pc1 := 44) (ls1 := [some (.ref 0), some (.int (Int32.ofNat s)), some (.int (w)), some (.int (x)), some (.int (Int32.ofNat i)), none, none]) (st1 := [.int (0), .int (Int32.ofNat i), .ref 1]) rfl ?_
  refine Wp.invV (d2 := 0) (as := [.ref 1, .int (Int32.ofNat i), .int (0)]) (r := []) (t := (1, 0)) rfl rfl rfl rfl (WF.t hw 1 rfl) rfl rfl ⟨rfl, rfl⟩ (by omega) (s_cget hw cA1 (w := 0) rfl (by omega) hkk ?_)
  show Wp d 161 47 [some (.ref 0), some (.int (Int32.ofNat s)), some (.int (w)), some (.int (x)), some (.int (Int32.ofNat i)), none, none] [.int (2)] h Q
  refine Wp.seg 3 (pc1 := 52) (ls1 := [some (.ref 0), some (.int (Int32.ofNat s)), some (.int (w)), some (.int (x)), some (.int (Int32.ofNat i)), some (.int (2)), none]) (st1 := [.int (2), .ref 0]) rfl ?_
  refine Wp.if1 rfl (fun c5 => absurd c5 (show ¬ ((2 : Int32) < 0) by decide)) (fun c5 => ?_)
  refine Wp.seg 2 (pc1 := 58) (ls1 := [some (.ref 0), some (.int (Int32.ofNat s)), some (.int (w)), some (.int (x)), some (.int (Int32.ofNat i)), some (.int (2)), none]) (st1 := [.ref 0, .int (2), .ref 0]) rfl ?_
  refine Wp.gr (t := (10, 0)) (v := some (48)) rfl (WF.t hw 0 rfl) rfl (WF.r hw 0 14 12 rfl) ?_
  show Wp d 161 61 [some (.ref 0), some (.int (Int32.ofNat s)), some (.int (w)), some (.int (x)), some (.int (Int32.ofNat i)), some (.int (2)), none] [.ref 48, .int (2), .ref 0] h Q
  refine Wp.alen (n := 6) (k := 25) rfl (WF.t hw 48 rfl) rfl ?_
  refine Wp.if2 rfl (fun c6 => absurd c6 (show ¬ (Int32.ofNat 6 ≤ (2 : Int32)) by decide)) (fun c6 => ?_)
  refine Wp.seg 1 (pc1 := 66) (ls1 := [some (.ref 0), some (.int (Int32.ofNat s)), some (.int (w)), some (.int (x)), some (.int (Int32.ofNat i)), some (.int (2)), none]) (st1 := [.ref 0, .ref 0]) rfl ?_
  refine Wp.gr (t := (10, 0)) (v := some (48)) rfl (WF.t hw 0 rfl) rfl (WF.r hw 0 14 12 rfl) ?_
  show Wp d 161 69 [some (.ref 0), some (.int (Int32.ofNat s)), some (.int (w)), some (.int (x)), some (.int (Int32.ofNat i)), some (.int (2)), none] [.ref 48, .ref 0] h Q
  refine Wp.seg 1 (pc1 := 71) (ls1 := [some (.ref 0), some (.int (Int32.ofNat s)), some (.int (w)), some (.int (x)), some (.int (Int32.ofNat i)), some (.int (2)), none]) (st1 := [.int (2), .ref 48, .ref 0]) rfl ?_
  refine Wp.aald (j := 2) (k := 25) (n := 6) (v := some (51)) rfl (WF.t hw 48 rfl) rfl rfl (by decide) (by decide) (WF.r hw 48 2 49 rfl) ?_
  show Wp d 161 72 [some (.ref 0), some (.int (Int32.ofNat s)), some (.int (w)), some (.int (x)), some (.int (Int32.ofNat i)), some (.int (2)), none] [.ref 51, .ref 0] h Q
  refine Wp.seg 1 (pc1 := 76) (ls1 := [some (.ref 0), some (.int (Int32.ofNat s)), some (.int (w)), some (.int (x)), some (.int (Int32.ofNat i)), some (.int (2)), none]) (st1 := [.ref 51, .ref 0]) rfl ?_
  refine Wp.pr (t := (10, 0)) rfl (WF.t hw 0 rfl) rfl ?_
  exact hQ
set_option maxHeartbeats 4000000 in
theorem t_ac6_3 {d : Nat} {Q : KO → Prop} {h : KH} (hw : WF h) {s : Nat} (hs : s < 4) (qs : inB (Int32.ofNat s) 0 3 = true) {w x : Int32} (m0 : ¬ w < 0) (m3 : w ≤ 3) {A : Nat → Int32} {RL : List Rul} {n c dn en : Nat} (hk : cityOK h 1 A RL n c dn en) (h45 : h.2.2.1 45 s = 0) {i : Nat} (hi6 : i < 6) (h46 : h.2.2.1 46 s = Int32.ofNat i) (qx : inB (Int32.ofNat i) 0 ((n : Int) - 1) = true) (ni2 : 0 ≤ Int32.ofNat i) (hkk : h.2.2.1 2 (4 * i + 0) = 3) (hd : 8 ≤ d) (hQ : Wp d 161 79 ([some (.ref 0), some (.int (Int32.ofNat s)), some (.int (w)), some (.int (x)), some (.int (Int32.ofNat i)), some (.int (3)), none]) [] (kwr h 0 15 (some 53)) Q) : Wp d 161 5 [some (.ref 0), some (.int (Int32.ofNat s)), some (.int (w)), some (.int (x)), none, none, none] [] h Q := by
  refine Wp.seg 1 (pc1 := 6) (ls1 := [some (.ref 0), some (.int (Int32.ofNat s)), some (.int (w)), some (.int (x)), none, none, none]) (st1 := [.int (Int32.ofNat s)]) rfl ?_
  refine Wp.inv (d2 := 0) (as := [.int (Int32.ofNat s)]) (r := []) rfl rfl rfl rfl rfl rfl (by omega) (s_b164 ?_)
  show Wp d 161 9 [some (.ref 0), some (.int (Int32.ofNat s)), some (.int (w)), some (.int (x)), none, none, none] [.int (b32 (inB (Int32.ofNat s) 0 3))] h Q
  refine Wp.ifz rfl (fun c1 => absurd (c1.symm.trans (qs)) (by decide)) (fun c1 => ?_)
  refine Wp.seg 1 (pc1 := 13) (ls1 := [some (.ref 0), some (.int (Int32.ofNat s)), some (.int (w)), some (.int (x)), none, none, none]) (st1 := [.int (w)]) rfl ?_
  refine Wp.if1 rfl (fun c2 => absurd c2 (m0)) (fun c2 => ?_)
  refine Wp.seg 2 (pc1 := 18) (ls1 := [some (.ref 0), some (.int (Int32.ofNat s)), some (.int (w)), some (.int (x)), none, none, none]) (st1 := [.int (3), .int (w)]) rfl ?_
  refine Wp.if2 rfl (fun c3 => ?_) (fun c3 => absurd (m3) c3)
  refine Wp.seg 2 (pc1 := 25) (ls1 := [some (.ref 0), some (.int (Int32.ofNat s)), some (.int (w)), some (.int (x)), none, none, none]) (st1 := [.int (Int32.ofNat s), .ref 0]) rfl ?_
  refine Wp.invV (d2 := 1) (as := [.ref 0, .int (Int32.ofNat s)]) (r := []) (t := (10, 0)) rfl rfl rfl rfl (WF.t hw 0 rfl) rfl rfl ⟨rfl, rfl⟩ (by omega) (t_hdoy hw hs hk h45 h46 qx (Nat.le_refl _) ?_)
  show Wp d 161 28 [some (.ref 0), some (.int (Int32.ofNat s)), some (.int (w)), some (.int (x)), none, none, none] [.int (Int32.ofNat i)] h Q
  refine Wp.seg 2 (pc1 := 32) (ls1 := [some (.ref 0), some (.int (Int32.ofNat s)), some (.int (w)), some (.int (x)), some (.int (Int32.ofNat i)), none, none]) (st1 := [.int (Int32.ofNat i)]) rfl ?_
  refine Wp.if1 rfl (fun c4 => ?_) (fun c4 => absurd (ni2) c4)
  refine Wp.seg 1 (pc1 := 38) (ls1 := [some (.ref 0), some (.int (Int32.ofNat s)), some (.int (w)), some (.int (x)), some (.int (Int32.ofNat i)), none, none]) (st1 := [.ref 0]) rfl ?_
  refine Wp.gr (t := (10, 0)) (v := some (1)) rfl (WF.t hw 0 rfl) rfl (WF.r hw 0 0 0 rfl) ?_
  show Wp d 161 41 [some (.ref 0), some (.int (Int32.ofNat s)), some (.int (w)), some (.int (x)), some (.int (Int32.ofNat i)), none, none] [.ref 1] h Q
  refine Wp.seg 2 (pc1 := 44) (ls1 := [some (.ref 0), some (.int (Int32.ofNat s)), some (.int (w)), some (.int (x)), some (.int (Int32.ofNat i)), none, none]) (st1 := [.int (0), .int (Int32.ofNat i), .ref 1]) rfl ?_
  refine Wp.invV (d2 := 0) (as := [.ref 1, .int (Int32.ofNat i), .int (0)]) (r := []) (t := (1, 0)) rfl rfl rfl rfl (WF.t hw 1 rfl) rfl rfl ⟨rfl, rfl⟩ (by omega) (s_cget hw cA1 (w := 0) rfl (by omega) hkk ?_)
  show Wp d 161 47 [some (.ref 0), some (.int (Int32.ofNat s)), some (.int (w)), some (.int (x)), some (.int (Int32.ofNat i)), none, none] [.int (3)] h Q
  refine Wp.seg 3 (pc1 := 52) (ls1 := [some (.ref 0), some (.int (Int32.ofNat s)), some (.int (w)), some (.int (x)), some (.int (Int32.ofNat i)), some (.int (3)), none]) (st1 := [.int (3), .ref 0]) rfl ?_
  refine Wp.if1 rfl (fun c5 => absurd c5 (show ¬ ((3 : Int32) < 0) by decide)) (fun c5 => ?_)
  refine Wp.seg 2 (pc1 := 58) (ls1 := [some (.ref 0), some (.int (Int32.ofNat s)), some (.int (w)), some (.int (x)), some (.int (Int32.ofNat i)), some (.int (3)), none]) (st1 := [.ref 0, .int (3), .ref 0]) rfl ?_
  refine Wp.gr (t := (10, 0)) (v := some (48)) rfl (WF.t hw 0 rfl) rfl (WF.r hw 0 14 12 rfl) ?_
  show Wp d 161 61 [some (.ref 0), some (.int (Int32.ofNat s)), some (.int (w)), some (.int (x)), some (.int (Int32.ofNat i)), some (.int (3)), none] [.ref 48, .int (3), .ref 0] h Q
  refine Wp.alen (n := 6) (k := 25) rfl (WF.t hw 48 rfl) rfl ?_
  refine Wp.if2 rfl (fun c6 => absurd c6 (show ¬ (Int32.ofNat 6 ≤ (3 : Int32)) by decide)) (fun c6 => ?_)
  refine Wp.seg 1 (pc1 := 66) (ls1 := [some (.ref 0), some (.int (Int32.ofNat s)), some (.int (w)), some (.int (x)), some (.int (Int32.ofNat i)), some (.int (3)), none]) (st1 := [.ref 0, .ref 0]) rfl ?_
  refine Wp.gr (t := (10, 0)) (v := some (48)) rfl (WF.t hw 0 rfl) rfl (WF.r hw 0 14 12 rfl) ?_
  show Wp d 161 69 [some (.ref 0), some (.int (Int32.ofNat s)), some (.int (w)), some (.int (x)), some (.int (Int32.ofNat i)), some (.int (3)), none] [.ref 48, .ref 0] h Q
  refine Wp.seg 1 (pc1 := 71) (ls1 := [some (.ref 0), some (.int (Int32.ofNat s)), some (.int (w)), some (.int (x)), some (.int (Int32.ofNat i)), some (.int (3)), none]) (st1 := [.int (3), .ref 48, .ref 0]) rfl ?_
  refine Wp.aald (j := 3) (k := 25) (n := 6) (v := some (53)) rfl (WF.t hw 48 rfl) rfl rfl (by decide) (by decide) (WF.r hw 48 3 50 rfl) ?_
  show Wp d 161 72 [some (.ref 0), some (.int (Int32.ofNat s)), some (.int (w)), some (.int (x)), some (.int (Int32.ofNat i)), some (.int (3)), none] [.ref 53, .ref 0] h Q
  refine Wp.seg 1 (pc1 := 76) (ls1 := [some (.ref 0), some (.int (Int32.ofNat s)), some (.int (w)), some (.int (x)), some (.int (Int32.ofNat i)), some (.int (3)), none]) (st1 := [.ref 53, .ref 0]) rfl ?_
  refine Wp.pr (t := (10, 0)) rfl (WF.t hw 0 rfl) rfl ?_
  exact hQ
set_option maxHeartbeats 4000000 in
theorem t_ac6_4 {d : Nat} {Q : KO → Prop} {h : KH} (hw : WF h) {s : Nat} (hs : s < 4) (qs : inB (Int32.ofNat s) 0 3 = true) {w x : Int32} (m0 : ¬ w < 0) (m3 : w ≤ 3) {A : Nat → Int32} {RL : List Rul} {n c dn en : Nat} (hk : cityOK h 1 A RL n c dn en) (h45 : h.2.2.1 45 s = 0) {i : Nat} (hi6 : i < 6) (h46 : h.2.2.1 46 s = Int32.ofNat i) (qx : inB (Int32.ofNat i) 0 ((n : Int) - 1) = true) (ni2 : 0 ≤ Int32.ofNat i) (hkk : h.2.2.1 2 (4 * i + 0) = 4) (hd : 8 ≤ d) (hQ : Wp d 161 79 ([some (.ref 0), some (.int (Int32.ofNat s)), some (.int (w)), some (.int (x)), some (.int (Int32.ofNat i)), some (.int (4)), none]) [] (kwr h 0 15 (some 55)) Q) : Wp d 161 5 [some (.ref 0), some (.int (Int32.ofNat s)), some (.int (w)), some (.int (x)), none, none, none] [] h Q := by
  refine Wp.seg 1 (pc1 := 6) (ls1 := [some (.ref 0), some (.int (Int32.ofNat s)), some (.int (w)), some (.int (x)), none, none, none]) (st1 := [.int (Int32.ofNat s)]) rfl ?_
  refine Wp.inv (d2 := 0) (as := [.int (Int32.ofNat s)]) (r := []) rfl rfl rfl rfl rfl rfl (by omega) (s_b164 ?_)
  show Wp d 161 9 [some (.ref 0), some (.int (Int32.ofNat s)), some (.int (w)), some (.int (x)), none, none, none] [.int (b32 (inB (Int32.ofNat s) 0 3))] h Q
  refine Wp.ifz rfl (fun c1 => absurd (c1.symm.trans (qs)) (by decide)) (fun c1 => ?_)
  refine Wp.seg 1 (pc1 := 13) (ls1 := [some (.ref 0), some (.int (Int32.ofNat s)), some (.int (w)), some (.int (x)), none, none, none]) (st1 := [.int (w)]) rfl ?_
  refine Wp.if1 rfl (fun c2 => absurd c2 (m0)) (fun c2 => ?_)
  refine Wp.seg 2 (pc1 := 18) (ls1 := [some (.ref 0), some (.int (Int32.ofNat s)), some (.int (w)), some (.int (x)), none, none, none]) (st1 := [.int (3), .int (w)]) rfl ?_
  refine Wp.if2 rfl (fun c3 => ?_) (fun c3 => absurd (m3) c3)
  refine Wp.seg 2 (pc1 := 25) (ls1 := [some (.ref 0), some (.int (Int32.ofNat s)), some (.int (w)), some (.int (x)), none, none, none]) (st1 := [.int (Int32.ofNat s), .ref 0]) rfl ?_
  refine Wp.invV (d2 := 1) (as := [.ref 0, .int (Int32.ofNat s)]) (r := []) (t := (10, 0)) rfl rfl rfl rfl (WF.t hw 0 rfl) rfl rfl ⟨rfl, rfl⟩ (by omega) (t_hdoy hw hs hk h45 h46 qx (Nat.le_refl _) ?_)
  show Wp d 161 28 [some (.ref 0), some (.int (Int32.ofNat s)), some (.int (w)), some (.int (x)), none, none, none] [.int (Int32.ofNat i)] h Q
  refine Wp.seg 2 (pc1 := 32) (ls1 := [some (.ref 0), some (.int (Int32.ofNat s)), some (.int (w)), some (.int (x)), some (.int (Int32.ofNat i)), none, none]) (st1 := [.int (Int32.ofNat i)]) rfl ?_
  refine Wp.if1 rfl (fun c4 => ?_) (fun c4 => absurd (ni2) c4)
  refine Wp.seg 1 (pc1 := 38) (ls1 := [some (.ref 0), some (.int (Int32.ofNat s)), some (.int (w)), some (.int (x)), some (.int (Int32.ofNat i)), none, none]) (st1 := [.ref 0]) rfl ?_
  refine Wp.gr (t := (10, 0)) (v := some (1)) rfl (WF.t hw 0 rfl) rfl (WF.r hw 0 0 0 rfl) ?_
  show Wp d 161 41 [some (.ref 0), some (.int (Int32.ofNat s)), some (.int (w)), some (.int (x)), some (.int (Int32.ofNat i)), none, none] [.ref 1] h Q
  refine Wp.seg 2 (pc1 := 44) (ls1 := [some (.ref 0), some (.int (Int32.ofNat s)), some (.int (w)), some (.int (x)), some (.int (Int32.ofNat i)), none, none]) (st1 := [.int (0), .int (Int32.ofNat i), .ref 1]) rfl ?_
  refine Wp.invV (d2 := 0) (as := [.ref 1, .int (Int32.ofNat i), .int (0)]) (r := []) (t := (1, 0)) rfl rfl rfl rfl (WF.t hw 1 rfl) rfl rfl ⟨rfl, rfl⟩ (by omega) (s_cget hw cA1 (w := 0) rfl (by omega) hkk ?_)
  show Wp d 161 47 [some (.ref 0), some (.int (Int32.ofNat s)), some (.int (w)), some (.int (x)), some (.int (Int32.ofNat i)), none, none] [.int (4)] h Q
  refine Wp.seg 3 (pc1 := 52) (ls1 := [some (.ref 0), some (.int (Int32.ofNat s)), some (.int (w)), some (.int (x)), some (.int (Int32.ofNat i)), some (.int (4)), none]) (st1 := [.int (4), .ref 0]) rfl ?_
  refine Wp.if1 rfl (fun c5 => absurd c5 (show ¬ ((4 : Int32) < 0) by decide)) (fun c5 => ?_)
  refine Wp.seg 2 (pc1 := 58) (ls1 := [some (.ref 0), some (.int (Int32.ofNat s)), some (.int (w)), some (.int (x)), some (.int (Int32.ofNat i)), some (.int (4)), none]) (st1 := [.ref 0, .int (4), .ref 0]) rfl ?_
  refine Wp.gr (t := (10, 0)) (v := some (48)) rfl (WF.t hw 0 rfl) rfl (WF.r hw 0 14 12 rfl) ?_
  show Wp d 161 61 [some (.ref 0), some (.int (Int32.ofNat s)), some (.int (w)), some (.int (x)), some (.int (Int32.ofNat i)), some (.int (4)), none] [.ref 48, .int (4), .ref 0] h Q
  refine Wp.alen (n := 6) (k := 25) rfl (WF.t hw 48 rfl) rfl ?_
  refine Wp.if2 rfl (fun c6 => absurd c6 (show ¬ (Int32.ofNat 6 ≤ (4 : Int32)) by decide)) (fun c6 => ?_)
  refine Wp.seg 1 (pc1 := 66) (ls1 := [some (.ref 0), some (.int (Int32.ofNat s)), some (.int (w)), some (.int (x)), some (.int (Int32.ofNat i)), some (.int (4)), none]) (st1 := [.ref 0, .ref 0]) rfl ?_
  refine Wp.gr (t := (10, 0)) (v := some (48)) rfl (WF.t hw 0 rfl) rfl (WF.r hw 0 14 12 rfl) ?_
  show Wp d 161 69 [some (.ref 0), some (.int (Int32.ofNat s)), some (.int (w)), some (.int (x)), some (.int (Int32.ofNat i)), some (.int (4)), none] [.ref 48, .ref 0] h Q
  refine Wp.seg 1 (pc1 := 71) (ls1 := [some (.ref 0), some (.int (Int32.ofNat s)), some (.int (w)), some (.int (x)), some (.int (Int32.ofNat i)), some (.int (4)), none]) (st1 := [.int (4), .ref 48, .ref 0]) rfl ?_
  refine Wp.aald (j := 4) (k := 25) (n := 6) (v := some (55)) rfl (WF.t hw 48 rfl) rfl rfl (by decide) (by decide) (WF.r hw 48 4 51 rfl) ?_
  show Wp d 161 72 [some (.ref 0), some (.int (Int32.ofNat s)), some (.int (w)), some (.int (x)), some (.int (Int32.ofNat i)), some (.int (4)), none] [.ref 55, .ref 0] h Q
  refine Wp.seg 1 (pc1 := 76) (ls1 := [some (.ref 0), some (.int (Int32.ofNat s)), some (.int (w)), some (.int (x)), some (.int (Int32.ofNat i)), some (.int (4)), none]) (st1 := [.ref 55, .ref 0]) rfl ?_
  refine Wp.pr (t := (10, 0)) rfl (WF.t hw 0 rfl) rfl ?_
  exact hQ
set_option maxHeartbeats 4000000 in
theorem t_ac6_5 {d : Nat} {Q : KO → Prop} {h : KH} (hw : WF h) {s : Nat} (hs : s < 4) (qs : inB (Int32.ofNat s) 0 3 = true) {w x : Int32} (m0 : ¬ w < 0) (m3 : w ≤ 3) {A : Nat → Int32} {RL : List Rul} {n c dn en : Nat} (hk : cityOK h 1 A RL n c dn en) (h45 : h.2.2.1 45 s = 0) {i : Nat} (hi6 : i < 6) (h46 : h.2.2.1 46 s = Int32.ofNat i) (qx : inB (Int32.ofNat i) 0 ((n : Int) - 1) = true) (ni2 : 0 ≤ Int32.ofNat i) (hkk : h.2.2.1 2 (4 * i + 0) = 5) (hd : 8 ≤ d) (hQ : Wp d 161 79 ([some (.ref 0), some (.int (Int32.ofNat s)), some (.int (w)), some (.int (x)), some (.int (Int32.ofNat i)), some (.int (5)), none]) [] (kwr h 0 15 (some 57)) Q) : Wp d 161 5 [some (.ref 0), some (.int (Int32.ofNat s)), some (.int (w)), some (.int (x)), none, none, none] [] h Q := by
  refine Wp.seg 1 (pc1 := 6) (ls1 := [some (.ref 0), some (.int (Int32.ofNat s)), some (.int (w)), some (.int (x)), none, none, none]) (st1 := [.int (Int32.ofNat s)]) rfl ?_
  refine Wp.inv (d2 := 0) (as := [.int (Int32.ofNat s)]) (r := []) rfl rfl rfl rfl rfl rfl (by omega) (s_b164 ?_)
  show Wp d 161 9 [some (.ref 0), some (.int (Int32.ofNat s)), some (.int (w)), some (.int (x)), none, none, none] [.int (b32 (inB (Int32.ofNat s) 0 3))] h Q
  refine Wp.ifz rfl (fun c1 => absurd (c1.symm.trans (qs)) (by decide)) (fun c1 => ?_)
  refine Wp.seg 1 (pc1 := 13) (ls1 := [some (.ref 0), some (.int (Int32.ofNat s)), some (.int (w)), some (.int (x)), none, none, none]) (st1 := [.int (w)]) rfl ?_
  refine Wp.if1 rfl (fun c2 => absurd c2 (m0)) (fun c2 => ?_)
  refine Wp.seg 2 (pc1 := 18) (ls1 := [some (.ref 0), some (.int (Int32.ofNat s)), some (.int (w)), some (.int (x)), none, none, none]) (st1 := [.int (3), .int (w)]) rfl ?_
  refine Wp.if2 rfl (fun c3 => ?_) (fun c3 => absurd (m3) c3)
  refine Wp.seg 2 (pc1 := 25) (ls1 := [some (.ref 0), some (.int (Int32.ofNat s)), some (.int (w)), some (.int (x)), none, none, none]) (st1 := [.int (Int32.ofNat s), .ref 0]) rfl ?_
  refine Wp.invV (d2 := 1) (as := [.ref 0, .int (Int32.ofNat s)]) (r := []) (t := (10, 0)) rfl rfl rfl rfl (WF.t hw 0 rfl) rfl rfl ⟨rfl, rfl⟩ (by omega) (t_hdoy hw hs hk h45 h46 qx (Nat.le_refl _) ?_)
  show Wp d 161 28 [some (.ref 0), some (.int (Int32.ofNat s)), some (.int (w)), some (.int (x)), none, none, none] [.int (Int32.ofNat i)] h Q
  refine Wp.seg 2 (pc1 := 32) (ls1 := [some (.ref 0), some (.int (Int32.ofNat s)), some (.int (w)), some (.int (x)), some (.int (Int32.ofNat i)), none, none]) (st1 := [.int (Int32.ofNat i)]) rfl ?_
  refine Wp.if1 rfl (fun c4 => ?_) (fun c4 => absurd (ni2) c4)
  refine Wp.seg 1 (pc1 := 38) (ls1 := [some (.ref 0), some (.int (Int32.ofNat s)), some (.int (w)), some (.int (x)), some (.int (Int32.ofNat i)), none, none]) (st1 := [.ref 0]) rfl ?_
  refine Wp.gr (t := (10, 0)) (v := some (1)) rfl (WF.t hw 0 rfl) rfl (WF.r hw 0 0 0 rfl) ?_
  show Wp d 161 41 [some (.ref 0), some (.int (Int32.ofNat s)), some (.int (w)), some (.int (x)), some (.int (Int32.ofNat i)), none, none] [.ref 1] h Q
  refine Wp.seg 2 (pc1 := 44) (ls1 := [some (.ref 0), some (.int (Int32.ofNat s)), some (.int (w)), some (.int (x)), some (.int (Int32.ofNat i)), none, none]) (st1 := [.int (0), .int (Int32.ofNat i), .ref 1]) rfl ?_
  refine Wp.invV (d2 := 0) (as := [.ref 1, .int (Int32.ofNat i), .int (0)]) (r := []) (t := (1, 0)) rfl rfl rfl rfl (WF.t hw 1 rfl) rfl rfl ⟨rfl, rfl⟩ (by omega) (s_cget hw cA1 (w := 0) rfl (by omega) hkk ?_)
  show Wp d 161 47 [some (.ref 0), some (.int (Int32.ofNat s)), some (.int (w)), some (.int (x)), some (.int (Int32.ofNat i)), none, none] [.int (5)] h Q
  refine Wp.seg 3 (pc1 := 52) (ls1 := [some (.ref 0), some (.int (Int32.ofNat s)), some (.int (w)), some (.int (x)), some (.int (Int32.ofNat i)), some (.int (5)), none]) (st1 := [.int (5), .ref 0]) rfl ?_
  refine Wp.if1 rfl (fun c5 => absurd c5 (show ¬ ((5 : Int32) < 0) by decide)) (fun c5 => ?_)
  refine Wp.seg 2 (pc1 := 58) (ls1 := [some (.ref 0), some (.int (Int32.ofNat s)), some (.int (w)), some (.int (x)), some (.int (Int32.ofNat i)), some (.int (5)), none]) (st1 := [.ref 0, .int (5), .ref 0]) rfl ?_
  refine Wp.gr (t := (10, 0)) (v := some (48)) rfl (WF.t hw 0 rfl) rfl (WF.r hw 0 14 12 rfl) ?_
  show Wp d 161 61 [some (.ref 0), some (.int (Int32.ofNat s)), some (.int (w)), some (.int (x)), some (.int (Int32.ofNat i)), some (.int (5)), none] [.ref 48, .int (5), .ref 0] h Q
  refine Wp.alen (n := 6) (k := 25) rfl (WF.t hw 48 rfl) rfl ?_
  refine Wp.if2 rfl (fun c6 => absurd c6 (show ¬ (Int32.ofNat 6 ≤ (5 : Int32)) by decide)) (fun c6 => ?_)
  refine Wp.seg 1 (pc1 := 66) (ls1 := [some (.ref 0), some (.int (Int32.ofNat s)), some (.int (w)), some (.int (x)), some (.int (Int32.ofNat i)), some (.int (5)), none]) (st1 := [.ref 0, .ref 0]) rfl ?_
  refine Wp.gr (t := (10, 0)) (v := some (48)) rfl (WF.t hw 0 rfl) rfl (WF.r hw 0 14 12 rfl) ?_
  show Wp d 161 69 [some (.ref 0), some (.int (Int32.ofNat s)), some (.int (w)), some (.int (x)), some (.int (Int32.ofNat i)), some (.int (5)), none] [.ref 48, .ref 0] h Q
  refine Wp.seg 1 (pc1 := 71) (ls1 := [some (.ref 0), some (.int (Int32.ofNat s)), some (.int (w)), some (.int (x)), some (.int (Int32.ofNat i)), some (.int (5)), none]) (st1 := [.int (5), .ref 48, .ref 0]) rfl ?_
  refine Wp.aald (j := 5) (k := 25) (n := 6) (v := some (57)) rfl (WF.t hw 48 rfl) rfl rfl (by decide) (by decide) (WF.r hw 48 5 52 rfl) ?_
  show Wp d 161 72 [some (.ref 0), some (.int (Int32.ofNat s)), some (.int (w)), some (.int (x)), some (.int (Int32.ofNat i)), some (.int (5)), none] [.ref 57, .ref 0] h Q
  refine Wp.seg 1 (pc1 := 76) (ls1 := [some (.ref 0), some (.int (Int32.ofNat s)), some (.int (w)), some (.int (x)), some (.int (Int32.ofNat i)), some (.int (5)), none]) (st1 := [.ref 57, .ref 0]) rfl ?_
  refine Wp.pr (t := (10, 0)) rfl (WF.t hw 0 rfl) rfl ?_
  exact hQ
set_option maxHeartbeats 4000000 in
theorem t_ad10 {d : Nat} {Q : KO → Prop} {h : KH} (hw : WF h) {v x a : Int32} {i : Nat} (hi6 : i < 6) (r15 : h.2.1 0 15 = some 49) (ha : h.2.2.1 2 (4 * i + 3) = a) (hd : 8 ≤ d) (hQ : ∀ k1, Fr (pTh 49) noP h k1 → thO k1 49 [] false (Int32.ofNat i) a → (∀ k2, Fr (pTh 49) noP k1 k2 → thO k2 49 [20, 10] false (Int32.ofNat i) a → (Q (some (.int ((x ^^^ ((Int32.ofNat i) + (5 : Int32))) * (5 : Int32))), k2)))) : Wp d 161 79 [some (.ref 0), some (.int (v)), some (.int (0)), some (.int (x)), some (.int (Int32.ofNat i)), some (.int (1)), none] [] h Q := by
  refine Wp.seg 1 (pc1 := 80) (ls1 := [some (.ref 0), some (.int (v)), some (.int (0)), some (.int (x)), some (.int (Int32.ofNat i)), some (.int (1)), none]) (st1 := [.ref 0]) rfl ?_
  refine Wp.gr (t := (10, 0)) (v := some (49)) rfl (WF.t hw 0 rfl) rfl r15 ?_
  show Wp d 161 83 [some (.ref 0), some (.int (v)), some (.int (0)), some (.int (x)), some (.int (Int32.ofNat i)), some (.int (1)), none] [.ref 49] h Q
  refine Wp.br rfl rfl ?_
  show Wp d 161 88 [some (.ref 0), some (.int (v)), some (.int (0)), some (.int (x)), some (.int (Int32.ofNat i)), some (.int (1)), none] [] h Q
  refine Wp.seg 1 (pc1 := 89) (ls1 := [some (.ref 0), some (.int (v)), some (.int (0)), some (.int (x)), some (.int (Int32.ofNat i)), some (.int (1)), none]) (st1 := [.ref 0]) rfl ?_
  refine Wp.gr (t := (10, 0)) (v := some (49)) rfl (WF.t hw 0 rfl) rfl r15 ?_
  show Wp d 161 92 [some (.ref 0), some (.int (v)), some (.int (0)), some (.int (x)), some (.int (Int32.ofNat i)), some (.int (1)), none] [.ref 49] h Q
  refine Wp.seg 2 (pc1 := 95) (ls1 := [some (.ref 0), some (.int (v)), some (.int (0)), some (.int (x)), some (.int (Int32.ofNat i)), some (.int (1)), none]) (st1 := [.ref 0, .int (Int32.ofNat i), .ref 49]) rfl ?_
  refine Wp.gr (t := (10, 0)) (v := some (1)) rfl (WF.t hw 0 rfl) rfl (WF.r hw 0 0 0 rfl) ?_
  show Wp d 161 98 [some (.ref 0), some (.int (v)), some (.int (0)), some (.int (x)), some (.int (Int32.ofNat i)), some (.int (1)), none] [.ref 1, .int (Int32.ofNat i), .ref 49] h Q
  refine Wp.seg 2 (pc1 := 101) (ls1 := [some (.ref 0), some (.int (v)), some (.int (0)), some (.int (x)), some (.int (Int32.ofNat i)), some (.int (1)), none]) (st1 := [.int (3), .int (Int32.ofNat i), .ref 1, .int (Int32.ofNat i), .ref 49]) rfl ?_
  refine Wp.invV (d2 := 0) (as := [.ref 1, .int (Int32.ofNat i), .int (3)]) (r := [.int (Int32.ofNat i), .ref 49]) (t := (1, 0)) rfl rfl rfl rfl (WF.t hw 1 rfl) rfl rfl ⟨rfl, rfl⟩ (by omega) (s_cget hw cA1 (w := 3) rfl (by omega) ha ?_)
  show Wp d 161 104 [some (.ref 0), some (.int (v)), some (.int (0)), some (.int (x)), some (.int (Int32.ofNat i)), some (.int (1)), none] [.int (a), .int (Int32.ofNat i), .ref 49] h Q
  refine Wp.invV (d2 := 0) (as := [.ref 49, .int (Int32.ofNat i), .int (a)]) (r := []) (t := (0, 0)) rfl rfl rfl rfl (WF.t hw 49 rfl) rfl rfl ⟨rfl, rfl⟩ (by omega) (s_sf49 hw ?_)
  intro k1 f1 g1
  show Wp d 161 107 [some (.ref 0), some (.int (v)), some (.int (0)), some (.int (x)), some (.int (Int32.ofNat i)), some (.int (1)), none] [] k1 Q
  refine Wp.seg 1 (pc1 := 108) (ls1 := [some (.ref 0), some (.int (v)), some (.int (0)), some (.int (x)), some (.int (Int32.ofNat i)), some (.int (1)), none]) (st1 := [.int (0)]) rfl ?_
  refine Wp.br (pc1 := 136) (st1 := []) rfl rfl ?_
  refine Wp.seg 1 (pc1 := 137) (ls1 := [some (.ref 0), some (.int (v)), some (.int (0)), some (.int (x)), some (.int (Int32.ofNat i)), some (.int (1)), none]) (st1 := [.ref 0]) rfl ?_
  refine Wp.gr (t := (10, 0)) (v := some (49)) rfl (WF.t (f1.wf hw (fun z => z)) 0 rfl) rfl ((f1.2.2.2 0 15 (Or.inr ⟨by decide, by decide⟩)).trans r15) ?_
  show Wp d 161 140 [some (.ref 0), some (.int (v)), some (.int (0)), some (.int (x)), some (.int (Int32.ofNat i)), some (.int (1)), none] [.ref 49] k1 Q
  refine Wp.seg 1 (pc1 := 141) (ls1 := [some (.ref 0), some (.int (v)), some (.int (0)), some (.int (x)), some (.int (Int32.ofNat i)), some (.int (1)), none]) (st1 := [.int (x), .ref 49]) rfl ?_
  refine Wp.invV (d2 := 2) (as := [.ref 49, .int (x)]) (r := []) (t := (0, 0)) rfl rfl rfl rfl (WF.t (f1.wf hw (fun z => z)) 49 rfl) rfl rfl ⟨rfl, rfl⟩ (by omega) (c1_49 (f1.wf hw (fun z => z)) g1 (by decide) (Nat.le_refl _) ?_)
  intro k2 f2 g2
  show Wp d 161 144 [some (.ref 0), some (.int (v)), some (.int (0)), some (.int (x)), some (.int (Int32.ofNat i)), some (.int (1)), none] [.int ((x ^^^ ((Int32.ofNat i) + (5 : Int32))) * (5 : Int32))] k2 Q
  refine Wp.seg 3 (pc1 := 186) (ls1 := [some (.ref 0), some (.int (v)), some (.int (0)), some (.int (x)), some (.int (Int32.ofNat i)), some (.int (1)), some (.int ((x ^^^ ((Int32.ofNat i) + (5 : Int32))) * (5 : Int32)))]) (st1 := [.ref 0]) rfl ?_
  refine Wp.gr (t := (10, 0)) (v := some (49)) rfl (WF.t (f2.wf (f1.wf hw (fun z => z)) (fun z => z)) 0 rfl) rfl ((f2.2.2.2 0 15 (Or.inr ⟨by decide, by decide⟩)).trans ((f1.2.2.2 0 15 (Or.inr ⟨by decide, by decide⟩)).trans r15)) ?_
  show Wp d 161 189 [some (.ref 0), some (.int (v)), some (.int (0)), some (.int (x)), some (.int (Int32.ofNat i)), some (.int (1)), some (.int ((x ^^^ ((Int32.ofNat i) + (5 : Int32))) * (5 : Int32)))] [.ref 49] k2 Q
  refine Wp.gi (t := (0, 0)) rfl (WF.t (f2.wf (f1.wf hw (fun z => z)) (fun z => z)) 49 rfl) (Or.inr rfl) ?_
  rw [show k2.2.2.1 49 2 = 0 from g2.2.2.2.1]
  refine Wp.if1 rfl (fun c1 => ?_) (fun c1 => absurd (show (0 : Int32) = 0 by decide) c1)
  refine Wp.seg 1 (pc1 := 202) (ls1 := [some (.ref 0), some (.int (v)), some (.int (0)), some (.int (x)), some (.int (Int32.ofNat i)), some (.int (1)), some (.int ((x ^^^ ((Int32.ofNat i) + (5 : Int32))) * (5 : Int32)))]) (st1 := [.int ((x ^^^ ((Int32.ofNat i) + (5 : Int32))) * (5 : Int32))]) rfl ?_
  exact Wp.reti rfl rfl ((hQ k1 f1 g1) k2 f2 g2)
set_option maxHeartbeats 4000000 in
theorem t_ad11 {d : Nat} {Q : KO → Prop} {h : KH} (hw : WF h) {v x a : Int32} {i : Nat} (hi6 : i < 6) (r15 : h.2.1 0 15 = some 49) (ha : h.2.2.1 2 (4 * i + 3) = a) (hd : 8 ≤ d) (hQ : ∀ k1, Fr (pTh 49) noP h k1 → thO k1 49 [] false (Int32.ofNat i) a → (∀ k2, Fr (pTh 49) noP k1 k2 → thO k2 49 [11, 20, 10] false (Int32.ofNat i) a → (Q (some (.int (((x ^^^ ((Int32.ofNat i) + (5 : Int32))) * (5 : Int32)) - a)), k2)))) : Wp d 161 79 [some (.ref 0), some (.int (v)), some (.int (1)), some (.int (x)), some (.int (Int32.ofNat i)), some (.int (1)), none] [] h Q := by
  refine Wp.seg 1 (pc1 := 80) (ls1 := [some (.ref 0), some (.int (v)), some (.int (1)), some (.int (x)), some (.int (Int32.ofNat i)), some (.int (1)), none]) (st1 := [.ref 0]) rfl ?_
  refine Wp.gr (t := (10, 0)) (v := some (49)) rfl (WF.t hw 0 rfl) rfl r15 ?_
  show Wp d 161 83 [some (.ref 0), some (.int (v)), some (.int (1)), some (.int (x)), some (.int (Int32.ofNat i)), some (.int (1)), none] [.ref 49] h Q
  refine Wp.br rfl rfl ?_
  show Wp d 161 88 [some (.ref 0), some (.int (v)), some (.int (1)), some (.int (x)), some (.int (Int32.ofNat i)), some (.int (1)), none] [] h Q
  refine Wp.seg 1 (pc1 := 89) (ls1 := [some (.ref 0), some (.int (v)), some (.int (1)), some (.int (x)), some (.int (Int32.ofNat i)), some (.int (1)), none]) (st1 := [.ref 0]) rfl ?_
  refine Wp.gr (t := (10, 0)) (v := some (49)) rfl (WF.t hw 0 rfl) rfl r15 ?_
  show Wp d 161 92 [some (.ref 0), some (.int (v)), some (.int (1)), some (.int (x)), some (.int (Int32.ofNat i)), some (.int (1)), none] [.ref 49] h Q
  refine Wp.seg 2 (pc1 := 95) (ls1 := [some (.ref 0), some (.int (v)), some (.int (1)), some (.int (x)), some (.int (Int32.ofNat i)), some (.int (1)), none]) (st1 := [.ref 0, .int (Int32.ofNat i), .ref 49]) rfl ?_
  refine Wp.gr (t := (10, 0)) (v := some (1)) rfl (WF.t hw 0 rfl) rfl (WF.r hw 0 0 0 rfl) ?_
  show Wp d 161 98 [some (.ref 0), some (.int (v)), some (.int (1)), some (.int (x)), some (.int (Int32.ofNat i)), some (.int (1)), none] [.ref 1, .int (Int32.ofNat i), .ref 49] h Q
  refine Wp.seg 2 (pc1 := 101) (ls1 := [some (.ref 0), some (.int (v)), some (.int (1)), some (.int (x)), some (.int (Int32.ofNat i)), some (.int (1)), none]) (st1 := [.int (3), .int (Int32.ofNat i), .ref 1, .int (Int32.ofNat i), .ref 49]) rfl ?_
  refine Wp.invV (d2 := 0) (as := [.ref 1, .int (Int32.ofNat i), .int (3)]) (r := [.int (Int32.ofNat i), .ref 49]) (t := (1, 0)) rfl rfl rfl rfl (WF.t hw 1 rfl) rfl rfl ⟨rfl, rfl⟩ (by omega) (s_cget hw cA1 (w := 3) rfl (by omega) ha ?_)
  show Wp d 161 104 [some (.ref 0), some (.int (v)), some (.int (1)), some (.int (x)), some (.int (Int32.ofNat i)), some (.int (1)), none] [.int (a), .int (Int32.ofNat i), .ref 49] h Q
  refine Wp.invV (d2 := 0) (as := [.ref 49, .int (Int32.ofNat i), .int (a)]) (r := []) (t := (0, 0)) rfl rfl rfl rfl (WF.t hw 49 rfl) rfl rfl ⟨rfl, rfl⟩ (by omega) (s_sf49 hw ?_)
  intro k1 f1 g1
  show Wp d 161 107 [some (.ref 0), some (.int (v)), some (.int (1)), some (.int (x)), some (.int (Int32.ofNat i)), some (.int (1)), none] [] k1 Q
  refine Wp.seg 1 (pc1 := 108) (ls1 := [some (.ref 0), some (.int (v)), some (.int (1)), some (.int (x)), some (.int (Int32.ofNat i)), some (.int (1)), none]) (st1 := [.int (1)]) rfl ?_
  refine Wp.br (pc1 := 149) (st1 := []) rfl rfl ?_
  refine Wp.seg 1 (pc1 := 150) (ls1 := [some (.ref 0), some (.int (v)), some (.int (1)), some (.int (x)), some (.int (Int32.ofNat i)), some (.int (1)), none]) (st1 := [.ref 0]) rfl ?_
  refine Wp.gr (t := (10, 0)) (v := some (49)) rfl (WF.t (f1.wf hw (fun z => z)) 0 rfl) rfl ((f1.2.2.2 0 15 (Or.inr ⟨by decide, by decide⟩)).trans r15) ?_
  show Wp d 161 153 [some (.ref 0), some (.int (v)), some (.int (1)), some (.int (x)), some (.int (Int32.ofNat i)), some (.int (1)), none] [.ref 49] k1 Q
  refine Wp.seg 1 (pc1 := 154) (ls1 := [some (.ref 0), some (.int (v)), some (.int (1)), some (.int (x)), some (.int (Int32.ofNat i)), some (.int (1)), none]) (st1 := [.int (x), .ref 49]) rfl ?_
  refine Wp.invV (d2 := 3) (as := [.ref 49, .int (x)]) (r := []) (t := (0, 0)) rfl rfl rfl rfl (WF.t (f1.wf hw (fun z => z)) 49 rfl) rfl rfl ⟨rfl, rfl⟩ (by omega) (c84_49 (f1.wf hw (fun z => z)) g1 (by decide) (Nat.le_refl _) ?_)
  intro k2 f2 g2
  show Wp d 161 157 [some (.ref 0), some (.int (v)), some (.int (1)), some (.int (x)), some (.int (Int32.ofNat i)), some (.int (1)), none] [.int (((x ^^^ ((Int32.ofNat i) + (5 : Int32))) * (5 : Int32)) - a)] k2 Q
  refine Wp.seg 3 (pc1 := 186) (ls1 := [some (.ref 0), some (.int (v)), some (.int (1)), some (.int (x)), some (.int (Int32.ofNat i)), some (.int (1)), some (.int (((x ^^^ ((Int32.ofNat i) + (5 : Int32))) * (5 : Int32)) - a))]) (st1 := [.ref 0]) rfl ?_
  refine Wp.gr (t := (10, 0)) (v := some (49)) rfl (WF.t (f2.wf (f1.wf hw (fun z => z)) (fun z => z)) 0 rfl) rfl ((f2.2.2.2 0 15 (Or.inr ⟨by decide, by decide⟩)).trans ((f1.2.2.2 0 15 (Or.inr ⟨by decide, by decide⟩)).trans r15)) ?_
  show Wp d 161 189 [some (.ref 0), some (.int (v)), some (.int (1)), some (.int (x)), some (.int (Int32.ofNat i)), some (.int (1)), some (.int (((x ^^^ ((Int32.ofNat i) + (5 : Int32))) * (5 : Int32)) - a))] [.ref 49] k2 Q
  refine Wp.gi (t := (0, 0)) rfl (WF.t (f2.wf (f1.wf hw (fun z => z)) (fun z => z)) 49 rfl) (Or.inr rfl) ?_
  rw [show k2.2.2.1 49 2 = 0 from g2.2.2.2.1]
  refine Wp.if1 rfl (fun c1 => ?_) (fun c1 => absurd (show (0 : Int32) = 0 by decide) c1)
  refine Wp.seg 1 (pc1 := 202) (ls1 := [some (.ref 0), some (.int (v)), some (.int (1)), some (.int (x)), some (.int (Int32.ofNat i)), some (.int (1)), some (.int (((x ^^^ ((Int32.ofNat i) + (5 : Int32))) * (5 : Int32)) - a))]) (st1 := [.int (((x ^^^ ((Int32.ofNat i) + (5 : Int32))) * (5 : Int32)) - a)]) rfl ?_
  exact Wp.reti rfl rfl ((hQ k1 f1 g1) k2 f2 g2)
set_option maxHeartbeats 4000000 in
theorem t_ad120 {d : Nat} {Q : KO → Prop} {h : KH} (hw : WF h) {v x a : Int32} {i : Nat} (hi6 : i < 6) (r15 : h.2.1 0 15 = some 49) (ha : h.2.2.1 2 (4 * i + 3) = a) (e0 : a - Int32.ofNat i = 0) (hd : 8 ≤ d) (hQ : ∀ k1, Fr (pTh 49) noP h k1 → thO k1 49 [] false (Int32.ofNat i) a → (∀ k2, Fr (pTh 49) noP k1 k2 → thO k2 49 [12] true (Int32.ofNat i) a → (Q (some (.int (-15)), k2)))) : Wp d 161 79 [some (.ref 0), some (.int (v)), some (.int (2)), some (.int (x)), some (.int (Int32.ofNat i)), some (.int (1)), none] [] h Q := by
  refine Wp.seg 1 (pc1 := 80) (ls1 := [some (.ref 0), some (.int (v)), some (.int (2)), some (.int (x)), some (.int (Int32.ofNat i)), some (.int (1)), none]) (st1 := [.ref 0]) rfl ?_
  refine Wp.gr (t := (10, 0)) (v := some (49)) rfl (WF.t hw 0 rfl) rfl r15 ?_
  show Wp d 161 83 [some (.ref 0), some (.int (v)), some (.int (2)), some (.int (x)), some (.int (Int32.ofNat i)), some (.int (1)), none] [.ref 49] h Q
  refine Wp.br rfl rfl ?_
  show Wp d 161 88 [some (.ref 0), some (.int (v)), some (.int (2)), some (.int (x)), some (.int (Int32.ofNat i)), some (.int (1)), none] [] h Q
  refine Wp.seg 1 (pc1 := 89) (ls1 := [some (.ref 0), some (.int (v)), some (.int (2)), some (.int (x)), some (.int (Int32.ofNat i)), some (.int (1)), none]) (st1 := [.ref 0]) rfl ?_
  refine Wp.gr (t := (10, 0)) (v := some (49)) rfl (WF.t hw 0 rfl) rfl r15 ?_
  show Wp d 161 92 [some (.ref 0), some (.int (v)), some (.int (2)), some (.int (x)), some (.int (Int32.ofNat i)), some (.int (1)), none] [.ref 49] h Q
  refine Wp.seg 2 (pc1 := 95) (ls1 := [some (.ref 0), some (.int (v)), some (.int (2)), some (.int (x)), some (.int (Int32.ofNat i)), some (.int (1)), none]) (st1 := [.ref 0, .int (Int32.ofNat i), .ref 49]) rfl ?_
  refine Wp.gr (t := (10, 0)) (v := some (1)) rfl (WF.t hw 0 rfl) rfl (WF.r hw 0 0 0 rfl) ?_
  show Wp d 161 98 [some (.ref 0), some (.int (v)), some (.int (2)), some (.int (x)), some (.int (Int32.ofNat i)), some (.int (1)), none] [.ref 1, .int (Int32.ofNat i), .ref 49] h Q
  refine Wp.seg 2 (pc1 := 101) (ls1 := [some (.ref 0), some (.int (v)), some (.int (2)), some (.int (x)), some (.int (Int32.ofNat i)), some (.int (1)), none]) (st1 := [.int (3), .int (Int32.ofNat i), .ref 1, .int (Int32.ofNat i), .ref 49]) rfl ?_
  refine Wp.invV (d2 := 0) (as := [.ref 1, .int (Int32.ofNat i), .int (3)]) (r := [.int (Int32.ofNat i), .ref 49]) (t := (1, 0)) rfl rfl rfl rfl (WF.t hw 1 rfl) rfl rfl ⟨rfl, rfl⟩ (by omega) (s_cget hw cA1 (w := 3) rfl (by omega) ha ?_)
  show Wp d 161 104 [some (.ref 0), some (.int (v)), some (.int (2)), some (.int (x)), some (.int (Int32.ofNat i)), some (.int (1)), none] [.int (a), .int (Int32.ofNat i), .ref 49] h Q
  refine Wp.invV (d2 := 0) (as := [.ref 49, .int (Int32.ofNat i), .int (a)]) (r := []) (t := (0, 0)) rfl rfl rfl rfl (WF.t hw 49 rfl) rfl rfl ⟨rfl, rfl⟩ (by omega) (s_sf49 hw ?_)
  intro k1 f1 g1
  show Wp d 161 107 [some (.ref 0), some (.int (v)), some (.int (2)), some (.int (x)), some (.int (Int32.ofNat i)), some (.int (1)), none] [] k1 Q
  refine Wp.seg 1 (pc1 := 108) (ls1 := [some (.ref 0), some (.int (v)), some (.int (2)), some (.int (x)), some (.int (Int32.ofNat i)), some (.int (1)), none]) (st1 := [.int (2)]) rfl ?_
  refine Wp.br (pc1 := 162) (st1 := []) rfl rfl ?_
  refine Wp.seg 1 (pc1 := 163) (ls1 := [some (.ref 0), some (.int (v)), some (.int (2)), some (.int (x)), some (.int (Int32.ofNat i)), some (.int (1)), none]) (st1 := [.ref 0]) rfl ?_
  refine Wp.gr (t := (10, 0)) (v := some (49)) rfl (WF.t (f1.wf hw (fun z => z)) 0 rfl) rfl ((f1.2.2.2 0 15 (Or.inr ⟨by decide, by decide⟩)).trans r15) ?_
  show Wp d 161 166 [some (.ref 0), some (.int (v)), some (.int (2)), some (.int (x)), some (.int (Int32.ofNat i)), some (.int (1)), none] [.ref 49] k1 Q
  refine Wp.seg 1 (pc1 := 167) (ls1 := [some (.ref 0), some (.int (v)), some (.int (2)), some (.int (x)), some (.int (Int32.ofNat i)), some (.int (1)), none]) (st1 := [.int (x), .ref 49]) rfl ?_
  refine Wp.invV (d2 := 1) (as := [.ref 49, .int (x)]) (r := []) (t := (0, 0)) rfl rfl rfl rfl (WF.t (f1.wf hw (fun z => z)) 49 rfl) rfl rfl ⟨rfl, rfl⟩ (by omega) (c85_490 (f1.wf hw (fun z => z)) g1 (by decide) e0 (Nat.le_refl _) ?_)
  intro k2 f2 g2
  show Wp d 161 170 [some (.ref 0), some (.int (v)), some (.int (2)), some (.int (x)), some (.int (Int32.ofNat i)), some (.int (1)), none] [.int (0)] k2 Q
  refine Wp.seg 3 (pc1 := 186) (ls1 := [some (.ref 0), some (.int (v)), some (.int (2)), some (.int (x)), some (.int (Int32.ofNat i)), some (.int (1)), some (.int (0))]) (st1 := [.ref 0]) rfl ?_
  refine Wp.gr (t := (10, 0)) (v := some (49)) rfl (WF.t (f2.wf (f1.wf hw (fun z => z)) (fun z => z)) 0 rfl) rfl ((f2.2.2.2 0 15 (Or.inr ⟨by decide, by decide⟩)).trans ((f1.2.2.2 0 15 (Or.inr ⟨by decide, by decide⟩)).trans r15)) ?_
  show Wp d 161 189 [some (.ref 0), some (.int (v)), some (.int (2)), some (.int (x)), some (.int (Int32.ofNat i)), some (.int (1)), some (.int (0))] [.ref 49] k2 Q
  refine Wp.gi (t := (0, 0)) rfl (WF.t (f2.wf (f1.wf hw (fun z => z)) (fun z => z)) 49 rfl) (Or.inr rfl) ?_
  rw [show k2.2.2.1 49 2 = 1 from g2.2.2.2.1]
  refine Wp.if1 rfl (fun c1 => absurd c1 (show ¬ ((1 : Int32) = 0) by decide)) (fun c1 => ?_)
  refine Wp.seg 2 (pc1 := 202) (ls1 := [some (.ref 0), some (.int (v)), some (.int (2)), some (.int (x)), some (.int (Int32.ofNat i)), some (.int (1)), some (.int (0))]) (st1 := [.int (-15)]) rfl ?_
  exact Wp.reti rfl rfl ((hQ k1 f1 g1) k2 f2 g2)
set_option maxHeartbeats 4000000 in
theorem t_ad121 {d : Nat} {Q : KO → Prop} {h : KH} (hw : WF h) {v x a : Int32} {i : Nat} (hi6 : i < 6) (r15 : h.2.1 0 15 = some 49) (ha : h.2.2.1 2 (4 * i + 3) = a) (ne : ¬ a - Int32.ofNat i = 0) (hd : 8 ≤ d) (hQ : ∀ k1, Fr (pTh 49) noP h k1 → thO k1 49 [] false (Int32.ofNat i) a → (∀ k2, Fr (pTh 49) noP k1 k2 → thO k2 49 [12] false (Int32.ofNat i) a → (Q (some (.int (x - x / (a - (Int32.ofNat i)) * (a - (Int32.ofNat i)))), k2)))) : Wp d 161 79 [some (.ref 0), some (.int (v)), some (.int (2)), some (.int (x)), some (.int (Int32.ofNat i)), some (.int (1)), none] [] h Q := by
  refine Wp.seg 1 (pc1 := 80) (ls1 := [some (.ref 0), some (.int (v)), some (.int (2)), some (.int (x)), some (.int (Int32.ofNat i)), some (.int (1)), none]) (st1 := [.ref 0]) rfl ?_
  refine Wp.gr (t := (10, 0)) (v := some (49)) rfl (WF.t hw 0 rfl) rfl r15 ?_
  show Wp d 161 83 [some (.ref 0), some (.int (v)), some (.int (2)), some (.int (x)), some (.int (Int32.ofNat i)), some (.int (1)), none] [.ref 49] h Q
  refine Wp.br rfl rfl ?_
  show Wp d 161 88 [some (.ref 0), some (.int (v)), some (.int (2)), some (.int (x)), some (.int (Int32.ofNat i)), some (.int (1)), none] [] h Q
  refine Wp.seg 1 (pc1 := 89) (ls1 := [some (.ref 0), some (.int (v)), some (.int (2)), some (.int (x)), some (.int (Int32.ofNat i)), some (.int (1)), none]) (st1 := [.ref 0]) rfl ?_
  refine Wp.gr (t := (10, 0)) (v := some (49)) rfl (WF.t hw 0 rfl) rfl r15 ?_
  show Wp d 161 92 [some (.ref 0), some (.int (v)), some (.int (2)), some (.int (x)), some (.int (Int32.ofNat i)), some (.int (1)), none] [.ref 49] h Q
  refine Wp.seg 2 (pc1 := 95) (ls1 := [some (.ref 0), some (.int (v)), some (.int (2)), some (.int (x)), some (.int (Int32.ofNat i)), some (.int (1)), none]) (st1 := [.ref 0, .int (Int32.ofNat i), .ref 49]) rfl ?_
  refine Wp.gr (t := (10, 0)) (v := some (1)) rfl (WF.t hw 0 rfl) rfl (WF.r hw 0 0 0 rfl) ?_
  show Wp d 161 98 [some (.ref 0), some (.int (v)), some (.int (2)), some (.int (x)), some (.int (Int32.ofNat i)), some (.int (1)), none] [.ref 1, .int (Int32.ofNat i), .ref 49] h Q
  refine Wp.seg 2 (pc1 := 101) (ls1 := [some (.ref 0), some (.int (v)), some (.int (2)), some (.int (x)), some (.int (Int32.ofNat i)), some (.int (1)), none]) (st1 := [.int (3), .int (Int32.ofNat i), .ref 1, .int (Int32.ofNat i), .ref 49]) rfl ?_
  refine Wp.invV (d2 := 0) (as := [.ref 1, .int (Int32.ofNat i), .int (3)]) (r := [.int (Int32.ofNat i), .ref 49]) (t := (1, 0)) rfl rfl rfl rfl (WF.t hw 1 rfl) rfl rfl ⟨rfl, rfl⟩ (by omega) (s_cget hw cA1 (w := 3) rfl (by omega) ha ?_)
  show Wp d 161 104 [some (.ref 0), some (.int (v)), some (.int (2)), some (.int (x)), some (.int (Int32.ofNat i)), some (.int (1)), none] [.int (a), .int (Int32.ofNat i), .ref 49] h Q
  refine Wp.invV (d2 := 0) (as := [.ref 49, .int (Int32.ofNat i), .int (a)]) (r := []) (t := (0, 0)) rfl rfl rfl rfl (WF.t hw 49 rfl) rfl rfl ⟨rfl, rfl⟩ (by omega) (s_sf49 hw ?_)
  intro k1 f1 g1
  show Wp d 161 107 [some (.ref 0), some (.int (v)), some (.int (2)), some (.int (x)), some (.int (Int32.ofNat i)), some (.int (1)), none] [] k1 Q
  refine Wp.seg 1 (pc1 := 108) (ls1 := [some (.ref 0), some (.int (v)), some (.int (2)), some (.int (x)), some (.int (Int32.ofNat i)), some (.int (1)), none]) (st1 := [.int (2)]) rfl ?_
  refine Wp.br (pc1 := 162) (st1 := []) rfl rfl ?_
  refine Wp.seg 1 (pc1 := 163) (ls1 := [some (.ref 0), some (.int (v)), some (.int (2)), some (.int (x)), some (.int (Int32.ofNat i)), some (.int (1)), none]) (st1 := [.ref 0]) rfl ?_
  refine Wp.gr (t := (10, 0)) (v := some (49)) rfl (WF.t (f1.wf hw (fun z => z)) 0 rfl) rfl ((f1.2.2.2 0 15 (Or.inr ⟨by decide, by decide⟩)).trans r15) ?_
  show Wp d 161 166 [some (.ref 0), some (.int (v)), some (.int (2)), some (.int (x)), some (.int (Int32.ofNat i)), some (.int (1)), none] [.ref 49] k1 Q
  refine Wp.seg 1 (pc1 := 167) (ls1 := [some (.ref 0), some (.int (v)), some (.int (2)), some (.int (x)), some (.int (Int32.ofNat i)), some (.int (1)), none]) (st1 := [.int (x), .ref 49]) rfl ?_
  refine Wp.invV (d2 := 1) (as := [.ref 49, .int (x)]) (r := []) (t := (0, 0)) rfl rfl rfl rfl (WF.t (f1.wf hw (fun z => z)) 49 rfl) rfl rfl ⟨rfl, rfl⟩ (by omega) (c85_491 (f1.wf hw (fun z => z)) g1 (by decide) ne (Nat.le_refl _) ?_)
  intro k2 f2 g2
  show Wp d 161 170 [some (.ref 0), some (.int (v)), some (.int (2)), some (.int (x)), some (.int (Int32.ofNat i)), some (.int (1)), none] [.int (x - x / (a - (Int32.ofNat i)) * (a - (Int32.ofNat i)))] k2 Q
  refine Wp.seg 3 (pc1 := 186) (ls1 := [some (.ref 0), some (.int (v)), some (.int (2)), some (.int (x)), some (.int (Int32.ofNat i)), some (.int (1)), some (.int (x - x / (a - (Int32.ofNat i)) * (a - (Int32.ofNat i))))]) (st1 := [.ref 0]) rfl ?_
  refine Wp.gr (t := (10, 0)) (v := some (49)) rfl (WF.t (f2.wf (f1.wf hw (fun z => z)) (fun z => z)) 0 rfl) rfl ((f2.2.2.2 0 15 (Or.inr ⟨by decide, by decide⟩)).trans ((f1.2.2.2 0 15 (Or.inr ⟨by decide, by decide⟩)).trans r15)) ?_
  show Wp d 161 189 [some (.ref 0), some (.int (v)), some (.int (2)), some (.int (x)), some (.int (Int32.ofNat i)), some (.int (1)), some (.int (x - x / (a - (Int32.ofNat i)) * (a - (Int32.ofNat i))))] [.ref 49] k2 Q
  refine Wp.gi (t := (0, 0)) rfl (WF.t (f2.wf (f1.wf hw (fun z => z)) (fun z => z)) 49 rfl) (Or.inr rfl) ?_
  rw [show k2.2.2.1 49 2 = 0 from g2.2.2.2.1]
  refine Wp.if1 rfl (fun c1 => ?_) (fun c1 => absurd (show (0 : Int32) = 0 by decide) c1)
  refine Wp.seg 1 (pc1 := 202) (ls1 := [some (.ref 0), some (.int (v)), some (.int (2)), some (.int (x)), some (.int (Int32.ofNat i)), some (.int (1)), some (.int (x - x / (a - (Int32.ofNat i)) * (a - (Int32.ofNat i))))]) (st1 := [.int (x - x / (a - (Int32.ofNat i)) * (a - (Int32.ofNat i)))]) rfl ?_
  exact Wp.reti rfl rfl ((hQ k1 f1 g1) k2 f2 g2)
set_option maxHeartbeats 4000000 in
theorem t_ad130 {d : Nat} {Q : KO → Prop} {h : KH} (hw : WF h) {v x a : Int32} {i : Nat} (hi6 : i < 6) (r15 : h.2.1 0 15 = some 49) (ha : h.2.2.1 2 (4 * i + 3) = a) (e0 : a - Int32.ofNat i = 0) (hd : 8 ≤ d) (hQ : ∀ k1, Fr (pTh 49) noP h k1 → thO k1 49 [] false (Int32.ofNat i) a → (∀ k2, Fr (pTh 49) noP k1 k2 → thO k2 49 [13, 11, 20, 10, 12] true (Int32.ofNat i) a → (Q (some (.int (-15)), k2)))) : Wp d 161 79 [some (.ref 0), some (.int (v)), some (.int (3)), some (.int (x)), some (.int (Int32.ofNat i)), some (.int (1)), none] [] h Q := by
  refine Wp.seg 1 (pc1 := 80) (ls1 := [some (.ref 0), some (.int (v)), some (.int (3)), some (.int (x)), some (.int (Int32.ofNat i)), some (.int (1)), none]) (st1 := [.ref 0]) rfl ?_
  refine Wp.gr (t := (10, 0)) (v := some (49)) rfl (WF.t hw 0 rfl) rfl r15 ?_
  show Wp d 161 83 [some (.ref 0), some (.int (v)), some (.int (3)), some (.int (x)), some (.int (Int32.ofNat i)), some (.int (1)), none] [.ref 49] h Q
  refine Wp.br rfl rfl ?_
  show Wp d 161 88 [some (.ref 0), some (.int (v)), some (.int (3)), some (.int (x)), some (.int (Int32.ofNat i)), some (.int (1)), none] [] h Q
  refine Wp.seg 1 (pc1 := 89) (ls1 := [some (.ref 0), some (.int (v)), some (.int (3)), some (.int (x)), some (.int (Int32.ofNat i)), some (.int (1)), none]) (st1 := [.ref 0]) rfl ?_
  refine Wp.gr (t := (10, 0)) (v := some (49)) rfl (WF.t hw 0 rfl) rfl r15 ?_
  show Wp d 161 92 [some (.ref 0), some (.int (v)), some (.int (3)), some (.int (x)), some (.int (Int32.ofNat i)), some (.int (1)), none] [.ref 49] h Q
  refine Wp.seg 2 (pc1 := 95) (ls1 := [some (.ref 0), some (.int (v)), some (.int (3)), some (.int (x)), some (.int (Int32.ofNat i)), some (.int (1)), none]) (st1 := [.ref 0, .int (Int32.ofNat i), .ref 49]) rfl ?_
  refine Wp.gr (t := (10, 0)) (v := some (1)) rfl (WF.t hw 0 rfl) rfl (WF.r hw 0 0 0 rfl) ?_
  show Wp d 161 98 [some (.ref 0), some (.int (v)), some (.int (3)), some (.int (x)), some (.int (Int32.ofNat i)), some (.int (1)), none] [.ref 1, .int (Int32.ofNat i), .ref 49] h Q
  refine Wp.seg 2 (pc1 := 101) (ls1 := [some (.ref 0), some (.int (v)), some (.int (3)), some (.int (x)), some (.int (Int32.ofNat i)), some (.int (1)), none]) (st1 := [.int (3), .int (Int32.ofNat i), .ref 1, .int (Int32.ofNat i), .ref 49]) rfl ?_
  refine Wp.invV (d2 := 0) (as := [.ref 1, .int (Int32.ofNat i), .int (3)]) (r := [.int (Int32.ofNat i), .ref 49]) (t := (1, 0)) rfl rfl rfl rfl (WF.t hw 1 rfl) rfl rfl ⟨rfl, rfl⟩ (by omega) (s_cget hw cA1 (w := 3) rfl (by omega) ha ?_)
  show Wp d 161 104 [some (.ref 0), some (.int (v)), some (.int (3)), some (.int (x)), some (.int (Int32.ofNat i)), some (.int (1)), none] [.int (a), .int (Int32.ofNat i), .ref 49] h Q
  refine Wp.invV (d2 := 0) (as := [.ref 49, .int (Int32.ofNat i), .int (a)]) (r := []) (t := (0, 0)) rfl rfl rfl rfl (WF.t hw 49 rfl) rfl rfl ⟨rfl, rfl⟩ (by omega) (s_sf49 hw ?_)
  intro k1 f1 g1
  show Wp d 161 107 [some (.ref 0), some (.int (v)), some (.int (3)), some (.int (x)), some (.int (Int32.ofNat i)), some (.int (1)), none] [] k1 Q
  refine Wp.seg 1 (pc1 := 108) (ls1 := [some (.ref 0), some (.int (v)), some (.int (3)), some (.int (x)), some (.int (Int32.ofNat i)), some (.int (1)), none]) (st1 := [.int (3)]) rfl ?_
  refine Wp.br (pc1 := 175) (st1 := []) rfl rfl ?_
  refine Wp.seg 1 (pc1 := 176) (ls1 := [some (.ref 0), some (.int (v)), some (.int (3)), some (.int (x)), some (.int (Int32.ofNat i)), some (.int (1)), none]) (st1 := [.ref 0]) rfl ?_
  refine Wp.gr (t := (10, 0)) (v := some (49)) rfl (WF.t (f1.wf hw (fun z => z)) 0 rfl) rfl ((f1.2.2.2 0 15 (Or.inr ⟨by decide, by decide⟩)).trans r15) ?_
  show Wp d 161 179 [some (.ref 0), some (.int (v)), some (.int (3)), some (.int (x)), some (.int (Int32.ofNat i)), some (.int (1)), none] [.ref 49] k1 Q
  refine Wp.seg 1 (pc1 := 180) (ls1 := [some (.ref 0), some (.int (v)), some (.int (3)), some (.int (x)), some (.int (Int32.ofNat i)), some (.int (1)), none]) (st1 := [.int (x), .ref 49]) rfl ?_
  refine Wp.invV (d2 := 4) (as := [.ref 49, .int (x)]) (r := []) (t := (0, 0)) rfl rfl rfl rfl (WF.t (f1.wf hw (fun z => z)) 49 rfl) rfl rfl ⟨rfl, rfl⟩ (by omega) (c86_490 (f1.wf hw (fun z => z)) g1 (by decide) e0 (Nat.le_refl _) ?_)
  intro k2 f2 g2
  show Wp d 161 183 [some (.ref 0), some (.int (v)), some (.int (3)), some (.int (x)), some (.int (Int32.ofNat i)), some (.int (1)), none] [.int (((((x ^^^ ((Int32.ofNat i) + (5 : Int32))) * (5 : Int32)) - a) * (2 : Int32)) + (0 : Int32))] k2 Q
  refine Wp.seg 2 (pc1 := 186) (ls1 := [some (.ref 0), some (.int (v)), some (.int (3)), some (.int (x)), some (.int (Int32.ofNat i)), some (.int (1)), some (.int (((((x ^^^ ((Int32.ofNat i) + (5 : Int32))) * (5 : Int32)) - a) * (2 : Int32)) + (0 : Int32)))]) (st1 := [.ref 0]) rfl ?_
  refine Wp.gr (t := (10, 0)) (v := some (49)) rfl (WF.t (f2.wf (f1.wf hw (fun z => z)) (fun z => z)) 0 rfl) rfl ((f2.2.2.2 0 15 (Or.inr ⟨by decide, by decide⟩)).trans ((f1.2.2.2 0 15 (Or.inr ⟨by decide, by decide⟩)).trans r15)) ?_
  show Wp d 161 189 [some (.ref 0), some (.int (v)), some (.int (3)), some (.int (x)), some (.int (Int32.ofNat i)), some (.int (1)), some (.int (((((x ^^^ ((Int32.ofNat i) + (5 : Int32))) * (5 : Int32)) - a) * (2 : Int32)) + (0 : Int32)))] [.ref 49] k2 Q
  refine Wp.gi (t := (0, 0)) rfl (WF.t (f2.wf (f1.wf hw (fun z => z)) (fun z => z)) 49 rfl) (Or.inr rfl) ?_
  rw [show k2.2.2.1 49 2 = 1 from g2.2.2.2.1]
  refine Wp.if1 rfl (fun c1 => absurd c1 (show ¬ ((1 : Int32) = 0) by decide)) (fun c1 => ?_)
  refine Wp.seg 2 (pc1 := 202) (ls1 := [some (.ref 0), some (.int (v)), some (.int (3)), some (.int (x)), some (.int (Int32.ofNat i)), some (.int (1)), some (.int (((((x ^^^ ((Int32.ofNat i) + (5 : Int32))) * (5 : Int32)) - a) * (2 : Int32)) + (0 : Int32)))]) (st1 := [.int (-15)]) rfl ?_
  exact Wp.reti rfl rfl ((hQ k1 f1 g1) k2 f2 g2)
set_option maxHeartbeats 4000000 in
theorem t_ad131 {d : Nat} {Q : KO → Prop} {h : KH} (hw : WF h) {v x a : Int32} {i : Nat} (hi6 : i < 6) (r15 : h.2.1 0 15 = some 49) (ha : h.2.2.1 2 (4 * i + 3) = a) (ne : ¬ a - Int32.ofNat i = 0) (hd : 8 ≤ d) (hQ : ∀ k1, Fr (pTh 49) noP h k1 → thO k1 49 [] false (Int32.ofNat i) a → (∀ k2, Fr (pTh 49) noP k1 k2 → thO k2 49 [13, 11, 20, 10, 12] false (Int32.ofNat i) a → (Q (some (.int (((((x ^^^ ((Int32.ofNat i) + (5 : Int32))) * (5 : Int32)) - a) * (2 : Int32)) + (x - x / (a - (Int32.ofNat i)) * (a - (Int32.ofNat i))))), k2)))) : Wp d 161 79 [some (.ref 0), some (.int (v)), some (.int (3)), some (.int (x)), some (.int (Int32.ofNat i)), some (.int (1)), none] [] h Q := by
  refine Wp.seg 1 (pc1 := 80) (ls1 := [some (.ref 0), some (.int (v)), some (.int (3)), some (.int (x)), some (.int (Int32.ofNat i)), some (.int (1)), none]) (st1 := [.ref 0]) rfl ?_
  refine Wp.gr (t := (10, 0)) (v := some (49)) rfl (WF.t hw 0 rfl) rfl r15 ?_
  show Wp d 161 83 [some (.ref 0), some (.int (v)), some (.int (3)), some (.int (x)), some (.int (Int32.ofNat i)), some (.int (1)), none] [.ref 49] h Q
  refine Wp.br rfl rfl ?_
  show Wp d 161 88 [some (.ref 0), some (.int (v)), some (.int (3)), some (.int (x)), some (.int (Int32.ofNat i)), some (.int (1)), none] [] h Q
  refine Wp.seg 1 (pc1 := 89) (ls1 := [some (.ref 0), some (.int (v)), some (.int (3)), some (.int (x)), some (.int (Int32.ofNat i)), some (.int (1)), none]) (st1 := [.ref 0]) rfl ?_
  refine Wp.gr (t := (10, 0)) (v := some (49)) rfl (WF.t hw 0 rfl) rfl r15 ?_
  show Wp d 161 92 [some (.ref 0), some (.int (v)), some (.int (3)), some (.int (x)), some (.int (Int32.ofNat i)), some (.int (1)), none] [.ref 49] h Q
  refine Wp.seg 2 (pc1 := 95) (ls1 := [some (.ref 0), some (.int (v)), some (.int (3)), some (.int (x)), some (.int (Int32.ofNat i)), some (.int (1)), none]) (st1 := [.ref 0, .int (Int32.ofNat i), .ref 49]) rfl ?_
  refine Wp.gr (t := (10, 0)) (v := some (1)) rfl (WF.t hw 0 rfl) rfl (WF.r hw 0 0 0 rfl) ?_
  show Wp d 161 98 [some (.ref 0), some (.int (v)), some (.int (3)), some (.int (x)), some (.int (Int32.ofNat i)), some (.int (1)), none] [.ref 1, .int (Int32.ofNat i), .ref 49] h Q
  refine Wp.seg 2 (pc1 := 101) (ls1 := [some (.ref 0), some (.int (v)), some (.int (3)), some (.int (x)), some (.int (Int32.ofNat i)), some (.int (1)), none]) (st1 := [.int (3), .int (Int32.ofNat i), .ref 1, .int (Int32.ofNat i), .ref 49]) rfl ?_
  refine Wp.invV (d2 := 0) (as := [.ref 1, .int (Int32.ofNat i), .int (3)]) (r := [.int (Int32.ofNat i), .ref 49]) (t := (1, 0)) rfl rfl rfl rfl (WF.t hw 1 rfl) rfl rfl ⟨rfl, rfl⟩ (by omega) (s_cget hw cA1 (w := 3) rfl (by omega) ha ?_)
  show Wp d 161 104 [some (.ref 0), some (.int (v)), some (.int (3)), some (.int (x)), some (.int (Int32.ofNat i)), some (.int (1)), none] [.int (a), .int (Int32.ofNat i), .ref 49] h Q
  refine Wp.invV (d2 := 0) (as := [.ref 49, .int (Int32.ofNat i), .int (a)]) (r := []) (t := (0, 0)) rfl rfl rfl rfl (WF.t hw 49 rfl) rfl rfl ⟨rfl, rfl⟩ (by omega) (s_sf49 hw ?_)
  intro k1 f1 g1
  show Wp d 161 107 [some (.ref 0), some (.int (v)), some (.int (3)), some (.int (x)), some (.int (Int32.ofNat i)), some (.int (1)), none] [] k1 Q
  refine Wp.seg 1 (pc1 := 108) (ls1 := [some (.ref 0), some (.int (v)), some (.int (3)), some (.int (x)), some (.int (Int32.ofNat i)), some (.int (1)), none]) (st1 := [.int (3)]) rfl ?_
  refine Wp.br (pc1 := 175) (st1 := []) rfl rfl ?_
  refine Wp.seg 1 (pc1 := 176) (ls1 := [some (.ref 0), some (.int (v)), some (.int (3)), some (.int (x)), some (.int (Int32.ofNat i)), some (.int (1)), none]) (st1 := [.ref 0]) rfl ?_
  refine Wp.gr (t := (10, 0)) (v := some (49)) rfl (WF.t (f1.wf hw (fun z => z)) 0 rfl) rfl ((f1.2.2.2 0 15 (Or.inr ⟨by decide, by decide⟩)).trans r15) ?_
  show Wp d 161 179 [some (.ref 0), some (.int (v)), some (.int (3)), some (.int (x)), some (.int (Int32.ofNat i)), some (.int (1)), none] [.ref 49] k1 Q
  refine Wp.seg 1 (pc1 := 180) (ls1 := [some (.ref 0), some (.int (v)), some (.int (3)), some (.int (x)), some (.int (Int32.ofNat i)), some (.int (1)), none]) (st1 := [.int (x), .ref 49]) rfl ?_
  refine Wp.invV (d2 := 4) (as := [.ref 49, .int (x)]) (r := []) (t := (0, 0)) rfl rfl rfl rfl (WF.t (f1.wf hw (fun z => z)) 49 rfl) rfl rfl ⟨rfl, rfl⟩ (by omega) (c86_491 (f1.wf hw (fun z => z)) g1 (by decide) ne (Nat.le_refl _) ?_)
  intro k2 f2 g2
  show Wp d 161 183 [some (.ref 0), some (.int (v)), some (.int (3)), some (.int (x)), some (.int (Int32.ofNat i)), some (.int (1)), none] [.int (((((x ^^^ ((Int32.ofNat i) + (5 : Int32))) * (5 : Int32)) - a) * (2 : Int32)) + (x - x / (a - (Int32.ofNat i)) * (a - (Int32.ofNat i))))] k2 Q
  refine Wp.seg 2 (pc1 := 186) (ls1 := [some (.ref 0), some (.int (v)), some (.int (3)), some (.int (x)), some (.int (Int32.ofNat i)), some (.int (1)), some (.int (((((x ^^^ ((Int32.ofNat i) + (5 : Int32))) * (5 : Int32)) - a) * (2 : Int32)) + (x - x / (a - (Int32.ofNat i)) * (a - (Int32.ofNat i)))))]) (st1 := [.ref 0]) rfl ?_
  refine Wp.gr (t := (10, 0)) (v := some (49)) rfl (WF.t (f2.wf (f1.wf hw (fun z => z)) (fun z => z)) 0 rfl) rfl ((f2.2.2.2 0 15 (Or.inr ⟨by decide, by decide⟩)).trans ((f1.2.2.2 0 15 (Or.inr ⟨by decide, by decide⟩)).trans r15)) ?_
  show Wp d 161 189 [some (.ref 0), some (.int (v)), some (.int (3)), some (.int (x)), some (.int (Int32.ofNat i)), some (.int (1)), some (.int (((((x ^^^ ((Int32.ofNat i) + (5 : Int32))) * (5 : Int32)) - a) * (2 : Int32)) + (x - x / (a - (Int32.ofNat i)) * (a - (Int32.ofNat i)))))] [.ref 49] k2 Q
  refine Wp.gi (t := (0, 0)) rfl (WF.t (f2.wf (f1.wf hw (fun z => z)) (fun z => z)) 49 rfl) (Or.inr rfl) ?_
  rw [show k2.2.2.1 49 2 = 0 from g2.2.2.2.1]
  refine Wp.if1 rfl (fun c1 => ?_) (fun c1 => absurd (show (0 : Int32) = 0 by decide) c1)
  refine Wp.seg 1 (pc1 := 202) (ls1 := [some (.ref 0), some (.int (v)), some (.int (3)), some (.int (x)), some (.int (Int32.ofNat i)), some (.int (1)), some (.int (((((x ^^^ ((Int32.ofNat i) + (5 : Int32))) * (5 : Int32)) - a) * (2 : Int32)) + (x - x / (a - (Int32.ofNat i)) * (a - (Int32.ofNat i)))))]) (st1 := [.int (((((x ^^^ ((Int32.ofNat i) + (5 : Int32))) * (5 : Int32)) - a) * (2 : Int32)) + (x - x / (a - (Int32.ofNat i)) * (a - (Int32.ofNat i))))]) rfl ?_
  exact Wp.reti rfl rfl ((hQ k1 f1 g1) k2 f2 g2)
set_option maxHeartbeats 4000000 in
theorem t_ad20 {d : Nat} {Q : KO → Prop} {h : KH} (hw : WF h) {v x a : Int32} {i : Nat} (hi6 : i < 6) (r15 : h.2.1 0 15 = some 51) (ha : h.2.2.1 2 (4 * i + 3) = a) (hd : 8 ≤ d) (hQ : ∀ k1, Fr (pTh 51) noP h k1 → thO k1 51 [] false (Int32.ofNat i) a → (∀ k2, Fr (pTh 51) noP k1 k2 → thO k2 51 [10] false (Int32.ofNat i) a → (Q (some (.int (x ^^^ ((Int32.ofNat i) + (5 : Int32)))), k2)))) : Wp d 161 79 [some (.ref 0), some (.int (v)), some (.int (0)), some (.int (x)), some (.int (Int32.ofNat i)), some (.int (2)), none] [] h Q := by
  refine Wp.seg 1 (pc1 := 80) (ls1 := [some (.ref 0), some (.int (v)), some (.int (0)), some (.int (x)), some (.int (Int32.ofNat i)), some (.int (2)), none]) (st1 := [.ref 0]) rfl ?_
  refine Wp.gr (t := (10, 0)) (v := some (51)) rfl (WF.t hw 0 rfl) rfl r15 ?_
  show Wp d 161 83 [some (.ref 0), some (.int (v)), some (.int (0)), some (.int (x)), some (.int (Int32.ofNat i)), some (.int (2)), none] [.ref 51] h Q
  refine Wp.br rfl rfl ?_
  show Wp d 161 88 [some (.ref 0), some (.int (v)), some (.int (0)), some (.int (x)), some (.int (Int32.ofNat i)), some (.int (2)), none] [] h Q
  refine Wp.seg 1 (pc1 := 89) (ls1 := [some (.ref 0), some (.int (v)), some (.int (0)), some (.int (x)), some (.int (Int32.ofNat i)), some (.int (2)), none]) (st1 := [.ref 0]) rfl ?_
  refine Wp.gr (t := (10, 0)) (v := some (51)) rfl (WF.t hw 0 rfl) rfl r15 ?_
  show Wp d 161 92 [some (.ref 0), some (.int (v)), some (.int (0)), some (.int (x)), some (.int (Int32.ofNat i)), some (.int (2)), none] [.ref 51] h Q
  refine Wp.seg 2 (pc1 := 95) (ls1 := [some (.ref 0), some (.int (v)), some (.int (0)), some (.int (x)), some (.int (Int32.ofNat i)), some (.int (2)), none]) (st1 := [.ref 0, .int (Int32.ofNat i), .ref 51]) rfl ?_
  refine Wp.gr (t := (10, 0)) (v := some (1)) rfl (WF.t hw 0 rfl) rfl (WF.r hw 0 0 0 rfl) ?_
  show Wp d 161 98 [some (.ref 0), some (.int (v)), some (.int (0)), some (.int (x)), some (.int (Int32.ofNat i)), some (.int (2)), none] [.ref 1, .int (Int32.ofNat i), .ref 51] h Q
  refine Wp.seg 2 (pc1 := 101) (ls1 := [some (.ref 0), some (.int (v)), some (.int (0)), some (.int (x)), some (.int (Int32.ofNat i)), some (.int (2)), none]) (st1 := [.int (3), .int (Int32.ofNat i), .ref 1, .int (Int32.ofNat i), .ref 51]) rfl ?_
  refine Wp.invV (d2 := 0) (as := [.ref 1, .int (Int32.ofNat i), .int (3)]) (r := [.int (Int32.ofNat i), .ref 51]) (t := (1, 0)) rfl rfl rfl rfl (WF.t hw 1 rfl) rfl rfl ⟨rfl, rfl⟩ (by omega) (s_cget hw cA1 (w := 3) rfl (by omega) ha ?_)
  show Wp d 161 104 [some (.ref 0), some (.int (v)), some (.int (0)), some (.int (x)), some (.int (Int32.ofNat i)), some (.int (2)), none] [.int (a), .int (Int32.ofNat i), .ref 51] h Q
  refine Wp.invV (d2 := 0) (as := [.ref 51, .int (Int32.ofNat i), .int (a)]) (r := []) (t := (3, 0)) rfl rfl rfl rfl (WF.t hw 51 rfl) rfl rfl ⟨rfl, rfl⟩ (by omega) (s_sf51 hw ?_)
  intro k1 f1 g1
  show Wp d 161 107 [some (.ref 0), some (.int (v)), some (.int (0)), some (.int (x)), some (.int (Int32.ofNat i)), some (.int (2)), none] [] k1 Q
  refine Wp.seg 1 (pc1 := 108) (ls1 := [some (.ref 0), some (.int (v)), some (.int (0)), some (.int (x)), some (.int (Int32.ofNat i)), some (.int (2)), none]) (st1 := [.int (0)]) rfl ?_
  refine Wp.br (pc1 := 136) (st1 := []) rfl rfl ?_
  refine Wp.seg 1 (pc1 := 137) (ls1 := [some (.ref 0), some (.int (v)), some (.int (0)), some (.int (x)), some (.int (Int32.ofNat i)), some (.int (2)), none]) (st1 := [.ref 0]) rfl ?_
  refine Wp.gr (t := (10, 0)) (v := some (51)) rfl (WF.t (f1.wf hw (fun z => z)) 0 rfl) rfl ((f1.2.2.2 0 15 (Or.inr ⟨by decide, by decide⟩)).trans r15) ?_
  show Wp d 161 140 [some (.ref 0), some (.int (v)), some (.int (0)), some (.int (x)), some (.int (Int32.ofNat i)), some (.int (2)), none] [.ref 51] k1 Q
  refine Wp.seg 1 (pc1 := 141) (ls1 := [some (.ref 0), some (.int (v)), some (.int (0)), some (.int (x)), some (.int (Int32.ofNat i)), some (.int (2)), none]) (st1 := [.int (x), .ref 51]) rfl ?_
  refine Wp.invV (d2 := 1) (as := [.ref 51, .int (x)]) (r := []) (t := (3, 0)) rfl rfl rfl rfl (WF.t (f1.wf hw (fun z => z)) 51 rfl) rfl rfl ⟨rfl, rfl⟩ (by omega) (c83_51 (f1.wf hw (fun z => z)) g1 (by decide) (Nat.le_refl _) ?_)
  intro k2 f2 g2
  show Wp d 161 144 [some (.ref 0), some (.int (v)), some (.int (0)), some (.int (x)), some (.int (Int32.ofNat i)), some (.int (2)), none] [.int (x ^^^ ((Int32.ofNat i) + (5 : Int32)))] k2 Q
  refine Wp.seg 3 (pc1 := 186) (ls1 := [some (.ref 0), some (.int (v)), some (.int (0)), some (.int (x)), some (.int (Int32.ofNat i)), some (.int (2)), some (.int (x ^^^ ((Int32.ofNat i) + (5 : Int32))))]) (st1 := [.ref 0]) rfl ?_
  refine Wp.gr (t := (10, 0)) (v := some (51)) rfl (WF.t (f2.wf (f1.wf hw (fun z => z)) (fun z => z)) 0 rfl) rfl ((f2.2.2.2 0 15 (Or.inr ⟨by decide, by decide⟩)).trans ((f1.2.2.2 0 15 (Or.inr ⟨by decide, by decide⟩)).trans r15)) ?_
  show Wp d 161 189 [some (.ref 0), some (.int (v)), some (.int (0)), some (.int (x)), some (.int (Int32.ofNat i)), some (.int (2)), some (.int (x ^^^ ((Int32.ofNat i) + (5 : Int32))))] [.ref 51] k2 Q
  refine Wp.gi (t := (3, 0)) rfl (WF.t (f2.wf (f1.wf hw (fun z => z)) (fun z => z)) 51 rfl) (Or.inr rfl) ?_
  rw [show k2.2.2.1 51 2 = 0 from g2.2.2.2.1]
  refine Wp.if1 rfl (fun c1 => ?_) (fun c1 => absurd (show (0 : Int32) = 0 by decide) c1)
  refine Wp.seg 1 (pc1 := 202) (ls1 := [some (.ref 0), some (.int (v)), some (.int (0)), some (.int (x)), some (.int (Int32.ofNat i)), some (.int (2)), some (.int (x ^^^ ((Int32.ofNat i) + (5 : Int32))))]) (st1 := [.int (x ^^^ ((Int32.ofNat i) + (5 : Int32)))]) rfl ?_
  exact Wp.reti rfl rfl ((hQ k1 f1 g1) k2 f2 g2)
set_option maxHeartbeats 4000000 in
theorem t_ad21 {d : Nat} {Q : KO → Prop} {h : KH} (hw : WF h) {v x a : Int32} {i : Nat} (hi6 : i < 6) (r15 : h.2.1 0 15 = some 51) (ha : h.2.2.1 2 (4 * i + 3) = a) (hd : 8 ≤ d) (hQ : ∀ k1, Fr (pTh 51) noP h k1 → thO k1 51 [] false (Int32.ofNat i) a → (∀ k2, Fr (pTh 51) noP k1 k2 → thO k2 51 [30, 11, 10] false (Int32.ofNat i) a → (Q (some (.int (((x ^^^ ((Int32.ofNat i) + (5 : Int32))) - a) ^^^ x)), k2)))) : Wp d 161 79 [some (.ref 0), some (.int (v)), some (.int (1)), some (.int (x)), some (.int (Int32.ofNat i)), some (.int (2)), none] [] h Q := by
  refine Wp.seg 1 (pc1 := 80) (ls1 := [some (.ref 0), some (.int (v)), some (.int (1)), some (.int (x)), some (.int (Int32.ofNat i)), some (.int (2)), none]) (st1 := [.ref 0]) rfl ?_
  refine Wp.gr (t := (10, 0)) (v := some (51)) rfl (WF.t hw 0 rfl) rfl r15 ?_
  show Wp d 161 83 [some (.ref 0), some (.int (v)), some (.int (1)), some (.int (x)), some (.int (Int32.ofNat i)), some (.int (2)), none] [.ref 51] h Q
  refine Wp.br rfl rfl ?_
  show Wp d 161 88 [some (.ref 0), some (.int (v)), some (.int (1)), some (.int (x)), some (.int (Int32.ofNat i)), some (.int (2)), none] [] h Q
  refine Wp.seg 1 (pc1 := 89) (ls1 := [some (.ref 0), some (.int (v)), some (.int (1)), some (.int (x)), some (.int (Int32.ofNat i)), some (.int (2)), none]) (st1 := [.ref 0]) rfl ?_
  refine Wp.gr (t := (10, 0)) (v := some (51)) rfl (WF.t hw 0 rfl) rfl r15 ?_
  show Wp d 161 92 [some (.ref 0), some (.int (v)), some (.int (1)), some (.int (x)), some (.int (Int32.ofNat i)), some (.int (2)), none] [.ref 51] h Q
  refine Wp.seg 2 (pc1 := 95) (ls1 := [some (.ref 0), some (.int (v)), some (.int (1)), some (.int (x)), some (.int (Int32.ofNat i)), some (.int (2)), none]) (st1 := [.ref 0, .int (Int32.ofNat i), .ref 51]) rfl ?_
  refine Wp.gr (t := (10, 0)) (v := some (1)) rfl (WF.t hw 0 rfl) rfl (WF.r hw 0 0 0 rfl) ?_
  show Wp d 161 98 [some (.ref 0), some (.int (v)), some (.int (1)), some (.int (x)), some (.int (Int32.ofNat i)), some (.int (2)), none] [.ref 1, .int (Int32.ofNat i), .ref 51] h Q
  refine Wp.seg 2 (pc1 := 101) (ls1 := [some (.ref 0), some (.int (v)), some (.int (1)), some (.int (x)), some (.int (Int32.ofNat i)), some (.int (2)), none]) (st1 := [.int (3), .int (Int32.ofNat i), .ref 1, .int (Int32.ofNat i), .ref 51]) rfl ?_
  refine Wp.invV (d2 := 0) (as := [.ref 1, .int (Int32.ofNat i), .int (3)]) (r := [.int (Int32.ofNat i), .ref 51]) (t := (1, 0)) rfl rfl rfl rfl (WF.t hw 1 rfl) rfl rfl ⟨rfl, rfl⟩ (by omega) (s_cget hw cA1 (w := 3) rfl (by omega) ha ?_)
  show Wp d 161 104 [some (.ref 0), some (.int (v)), some (.int (1)), some (.int (x)), some (.int (Int32.ofNat i)), some (.int (2)), none] [.int (a), .int (Int32.ofNat i), .ref 51] h Q
  refine Wp.invV (d2 := 0) (as := [.ref 51, .int (Int32.ofNat i), .int (a)]) (r := []) (t := (3, 0)) rfl rfl rfl rfl (WF.t hw 51 rfl) rfl rfl ⟨rfl, rfl⟩ (by omega) (s_sf51 hw ?_)
  intro k1 f1 g1
  show Wp d 161 107 [some (.ref 0), some (.int (v)), some (.int (1)), some (.int (x)), some (.int (Int32.ofNat i)), some (.int (2)), none] [] k1 Q
  refine Wp.seg 1 (pc1 := 108) (ls1 := [some (.ref 0), some (.int (v)), some (.int (1)), some (.int (x)), some (.int (Int32.ofNat i)), some (.int (2)), none]) (st1 := [.int (1)]) rfl ?_
  refine Wp.br (pc1 := 149) (st1 := []) rfl rfl ?_
  refine Wp.seg 1 (pc1 := 150) (ls1 := [some (.ref 0), some (.int (v)), some (.int (1)), some (.int (x)), some (.int (Int32.ofNat i)), some (.int (2)), none]) (st1 := [.ref 0]) rfl ?_
  refine Wp.gr (t := (10, 0)) (v := some (51)) rfl (WF.t (f1.wf hw (fun z => z)) 0 rfl) rfl ((f1.2.2.2 0 15 (Or.inr ⟨by decide, by decide⟩)).trans r15) ?_
  show Wp d 161 153 [some (.ref 0), some (.int (v)), some (.int (1)), some (.int (x)), some (.int (Int32.ofNat i)), some (.int (2)), none] [.ref 51] k1 Q
  refine Wp.seg 1 (pc1 := 154) (ls1 := [some (.ref 0), some (.int (v)), some (.int (1)), some (.int (x)), some (.int (Int32.ofNat i)), some (.int (2)), none]) (st1 := [.int (x), .ref 51]) rfl ?_
  refine Wp.invV (d2 := 3) (as := [.ref 51, .int (x)]) (r := []) (t := (3, 0)) rfl rfl rfl rfl (WF.t (f1.wf hw (fun z => z)) 51 rfl) rfl rfl ⟨rfl, rfl⟩ (by omega) (c40_51 (f1.wf hw (fun z => z)) g1 (by decide) (Nat.le_refl _) ?_)
  intro k2 f2 g2
  show Wp d 161 157 [some (.ref 0), some (.int (v)), some (.int (1)), some (.int (x)), some (.int (Int32.ofNat i)), some (.int (2)), none] [.int (((x ^^^ ((Int32.ofNat i) + (5 : Int32))) - a) ^^^ x)] k2 Q
  refine Wp.seg 3 (pc1 := 186) (ls1 := [some (.ref 0), some (.int (v)), some (.int (1)), some (.int (x)), some (.int (Int32.ofNat i)), some (.int (2)), some (.int (((x ^^^ ((Int32.ofNat i) + (5 : Int32))) - a) ^^^ x))]) (st1 := [.ref 0]) rfl ?_
  refine Wp.gr (t := (10, 0)) (v := some (51)) rfl (WF.t (f2.wf (f1.wf hw (fun z => z)) (fun z => z)) 0 rfl) rfl ((f2.2.2.2 0 15 (Or.inr ⟨by decide, by decide⟩)).trans ((f1.2.2.2 0 15 (Or.inr ⟨by decide, by decide⟩)).trans r15)) ?_
  show Wp d 161 189 [some (.ref 0), some (.int (v)), some (.int (1)), some (.int (x)), some (.int (Int32.ofNat i)), some (.int (2)), some (.int (((x ^^^ ((Int32.ofNat i) + (5 : Int32))) - a) ^^^ x))] [.ref 51] k2 Q
  refine Wp.gi (t := (3, 0)) rfl (WF.t (f2.wf (f1.wf hw (fun z => z)) (fun z => z)) 51 rfl) (Or.inr rfl) ?_
  rw [show k2.2.2.1 51 2 = 0 from g2.2.2.2.1]
  refine Wp.if1 rfl (fun c1 => ?_) (fun c1 => absurd (show (0 : Int32) = 0 by decide) c1)
  refine Wp.seg 1 (pc1 := 202) (ls1 := [some (.ref 0), some (.int (v)), some (.int (1)), some (.int (x)), some (.int (Int32.ofNat i)), some (.int (2)), some (.int (((x ^^^ ((Int32.ofNat i) + (5 : Int32))) - a) ^^^ x))]) (st1 := [.int (((x ^^^ ((Int32.ofNat i) + (5 : Int32))) - a) ^^^ x)]) rfl ?_
  exact Wp.reti rfl rfl ((hQ k1 f1 g1) k2 f2 g2)
set_option maxHeartbeats 4000000 in
theorem t_ad220 {d : Nat} {Q : KO → Prop} {h : KH} (hw : WF h) {v x a : Int32} {i : Nat} (hi6 : i < 6) (r15 : h.2.1 0 15 = some 51) (ha : h.2.2.1 2 (4 * i + 3) = a) (e0 : a - Int32.ofNat i = 0) (hd : 8 ≤ d) (hQ : ∀ k1, Fr (pTh 51) noP h k1 → thO k1 51 [] false (Int32.ofNat i) a → (∀ k2, Fr (pTh 51) noP k1 k2 → thO k2 51 [12] true (Int32.ofNat i) a → (Q (some (.int (-15)), k2)))) : Wp d 161 79 [some (.ref 0), some (.int (v)), some (.int (2)), some (.int (x)), some (.int (Int32.ofNat i)), some (.int (2)), none] [] h Q := by
  refine Wp.seg 1 (pc1 := 80) (ls1 := [some (.ref 0), some (.int (v)), some (.int (2)), some (.int (x)), some (.int (Int32.ofNat i)), some (.int (2)), none]) (st1 := [.ref 0]) rfl ?_
  refine Wp.gr (t := (10, 0)) (v := some (51)) rfl (WF.t hw 0 rfl) rfl r15 ?_
  show Wp d 161 83 [some (.ref 0), some (.int (v)), some (.int (2)), some (.int (x)), some (.int (Int32.ofNat i)), some (.int (2)), none] [.ref 51] h Q
  refine Wp.br rfl rfl ?_
  show Wp d 161 88 [some (.ref 0), some (.int (v)), some (.int (2)), some (.int (x)), some (.int (Int32.ofNat i)), some (.int (2)), none] [] h Q
  refine Wp.seg 1 (pc1 := 89) (ls1 := [some (.ref 0), some (.int (v)), some (.int (2)), some (.int (x)), some (.int (Int32.ofNat i)), some (.int (2)), none]) (st1 := [.ref 0]) rfl ?_
  refine Wp.gr (t := (10, 0)) (v := some (51)) rfl (WF.t hw 0 rfl) rfl r15 ?_
  show Wp d 161 92 [some (.ref 0), some (.int (v)), some (.int (2)), some (.int (x)), some (.int (Int32.ofNat i)), some (.int (2)), none] [.ref 51] h Q
  refine Wp.seg 2 (pc1 := 95) (ls1 := [some (.ref 0), some (.int (v)), some (.int (2)), some (.int (x)), some (.int (Int32.ofNat i)), some (.int (2)), none]) (st1 := [.ref 0, .int (Int32.ofNat i), .ref 51]) rfl ?_
  refine Wp.gr (t := (10, 0)) (v := some (1)) rfl (WF.t hw 0 rfl) rfl (WF.r hw 0 0 0 rfl) ?_
  show Wp d 161 98 [some (.ref 0), some (.int (v)), some (.int (2)), some (.int (x)), some (.int (Int32.ofNat i)), some (.int (2)), none] [.ref 1, .int (Int32.ofNat i), .ref 51] h Q
  refine Wp.seg 2 (pc1 := 101) (ls1 := [some (.ref 0), some (.int (v)), some (.int (2)), some (.int (x)), some (.int (Int32.ofNat i)), some (.int (2)), none]) (st1 := [.int (3), .int (Int32.ofNat i), .ref 1, .int (Int32.ofNat i), .ref 51]) rfl ?_
  refine Wp.invV (d2 := 0) (as := [.ref 1, .int (Int32.ofNat i), .int (3)]) (r := [.int (Int32.ofNat i), .ref 51]) (t := (1, 0)) rfl rfl rfl rfl (WF.t hw 1 rfl) rfl rfl ⟨rfl, rfl⟩ (by omega) (s_cget hw cA1 (w := 3) rfl (by omega) ha ?_)
  show Wp d 161 104 [some (.ref 0), some (.int (v)), some (.int (2)), some (.int (x)), some (.int (Int32.ofNat i)), some (.int (2)), none] [.int (a), .int (Int32.ofNat i), .ref 51] h Q
  refine Wp.invV (d2 := 0) (as := [.ref 51, .int (Int32.ofNat i), .int (a)]) (r := []) (t := (3, 0)) rfl rfl rfl rfl (WF.t hw 51 rfl) rfl rfl ⟨rfl, rfl⟩ (by omega) (s_sf51 hw ?_)
  intro k1 f1 g1
  show Wp d 161 107 [some (.ref 0), some (.int (v)), some (.int (2)), some (.int (x)), some (.int (Int32.ofNat i)), some (.int (2)), none] [] k1 Q
  refine Wp.seg 1 (pc1 := 108) (ls1 := [some (.ref 0), some (.int (v)), some (.int (2)), some (.int (x)), some (.int (Int32.ofNat i)), some (.int (2)), none]) (st1 := [.int (2)]) rfl ?_
  refine Wp.br (pc1 := 162) (st1 := []) rfl rfl ?_
  refine Wp.seg 1 (pc1 := 163) (ls1 := [some (.ref 0), some (.int (v)), some (.int (2)), some (.int (x)), some (.int (Int32.ofNat i)), some (.int (2)), none]) (st1 := [.ref 0]) rfl ?_
  refine Wp.gr (t := (10, 0)) (v := some (51)) rfl (WF.t (f1.wf hw (fun z => z)) 0 rfl) rfl ((f1.2.2.2 0 15 (Or.inr ⟨by decide, by decide⟩)).trans r15) ?_
  show Wp d 161 166 [some (.ref 0), some (.int (v)), some (.int (2)), some (.int (x)), some (.int (Int32.ofNat i)), some (.int (2)), none] [.ref 51] k1 Q
  refine Wp.seg 1 (pc1 := 167) (ls1 := [some (.ref 0), some (.int (v)), some (.int (2)), some (.int (x)), some (.int (Int32.ofNat i)), some (.int (2)), none]) (st1 := [.int (x), .ref 51]) rfl ?_
  refine Wp.invV (d2 := 1) (as := [.ref 51, .int (x)]) (r := []) (t := (3, 0)) rfl rfl rfl rfl (WF.t (f1.wf hw (fun z => z)) 51 rfl) rfl rfl ⟨rfl, rfl⟩ (by omega) (c85_510 (f1.wf hw (fun z => z)) g1 (by decide) e0 (Nat.le_refl _) ?_)
  intro k2 f2 g2
  show Wp d 161 170 [some (.ref 0), some (.int (v)), some (.int (2)), some (.int (x)), some (.int (Int32.ofNat i)), some (.int (2)), none] [.int (0)] k2 Q
  refine Wp.seg 3 (pc1 := 186) (ls1 := [some (.ref 0), some (.int (v)), some (.int (2)), some (.int (x)), some (.int (Int32.ofNat i)), some (.int (2)), some (.int (0))]) (st1 := [.ref 0]) rfl ?_
  refine Wp.gr (t := (10, 0)) (v := some (51)) rfl (WF.t (f2.wf (f1.wf hw (fun z => z)) (fun z => z)) 0 rfl) rfl ((f2.2.2.2 0 15 (Or.inr ⟨by decide, by decide⟩)).trans ((f1.2.2.2 0 15 (Or.inr ⟨by decide, by decide⟩)).trans r15)) ?_
  show Wp d 161 189 [some (.ref 0), some (.int (v)), some (.int (2)), some (.int (x)), some (.int (Int32.ofNat i)), some (.int (2)), some (.int (0))] [.ref 51] k2 Q
  refine Wp.gi (t := (3, 0)) rfl (WF.t (f2.wf (f1.wf hw (fun z => z)) (fun z => z)) 51 rfl) (Or.inr rfl) ?_
  rw [show k2.2.2.1 51 2 = 1 from g2.2.2.2.1]
  refine Wp.if1 rfl (fun c1 => absurd c1 (show ¬ ((1 : Int32) = 0) by decide)) (fun c1 => ?_)
  refine Wp.seg 2 (pc1 := 202) (ls1 := [some (.ref 0), some (.int (v)), some (.int (2)), some (.int (x)), some (.int (Int32.ofNat i)), some (.int (2)), some (.int (0))]) (st1 := [.int (-15)]) rfl ?_
  exact Wp.reti rfl rfl ((hQ k1 f1 g1) k2 f2 g2)
set_option maxHeartbeats 4000000 in
theorem t_ad221 {d : Nat} {Q : KO → Prop} {h : KH} (hw : WF h) {v x a : Int32} {i : Nat} (hi6 : i < 6) (r15 : h.2.1 0 15 = some 51) (ha : h.2.2.1 2 (4 * i + 3) = a) (ne : ¬ a - Int32.ofNat i = 0) (hd : 8 ≤ d) (hQ : ∀ k1, Fr (pTh 51) noP h k1 → thO k1 51 [] false (Int32.ofNat i) a → (∀ k2, Fr (pTh 51) noP k1 k2 → thO k2 51 [12] false (Int32.ofNat i) a → (Q (some (.int (x - x / (a - (Int32.ofNat i)) * (a - (Int32.ofNat i)))), k2)))) : Wp d 161 79 [some (.ref 0), some (.int (v)), some (.int (2)), some (.int (x)), some (.int (Int32.ofNat i)), some (.int (2)), none] [] h Q := by
  refine Wp.seg 1 (pc1 := 80) (ls1 := [some (.ref 0), some (.int (v)), some (.int (2)), some (.int (x)), some (.int (Int32.ofNat i)), some (.int (2)), none]) (st1 := [.ref 0]) rfl ?_
  refine Wp.gr (t := (10, 0)) (v := some (51)) rfl (WF.t hw 0 rfl) rfl r15 ?_
  show Wp d 161 83 [some (.ref 0), some (.int (v)), some (.int (2)), some (.int (x)), some (.int (Int32.ofNat i)), some (.int (2)), none] [.ref 51] h Q
  refine Wp.br rfl rfl ?_
  show Wp d 161 88 [some (.ref 0), some (.int (v)), some (.int (2)), some (.int (x)), some (.int (Int32.ofNat i)), some (.int (2)), none] [] h Q
  refine Wp.seg 1 (pc1 := 89) (ls1 := [some (.ref 0), some (.int (v)), some (.int (2)), some (.int (x)), some (.int (Int32.ofNat i)), some (.int (2)), none]) (st1 := [.ref 0]) rfl ?_
  refine Wp.gr (t := (10, 0)) (v := some (51)) rfl (WF.t hw 0 rfl) rfl r15 ?_
  show Wp d 161 92 [some (.ref 0), some (.int (v)), some (.int (2)), some (.int (x)), some (.int (Int32.ofNat i)), some (.int (2)), none] [.ref 51] h Q
  refine Wp.seg 2 (pc1 := 95) (ls1 := [some (.ref 0), some (.int (v)), some (.int (2)), some (.int (x)), some (.int (Int32.ofNat i)), some (.int (2)), none]) (st1 := [.ref 0, .int (Int32.ofNat i), .ref 51]) rfl ?_
  refine Wp.gr (t := (10, 0)) (v := some (1)) rfl (WF.t hw 0 rfl) rfl (WF.r hw 0 0 0 rfl) ?_
  show Wp d 161 98 [some (.ref 0), some (.int (v)), some (.int (2)), some (.int (x)), some (.int (Int32.ofNat i)), some (.int (2)), none] [.ref 1, .int (Int32.ofNat i), .ref 51] h Q
  refine Wp.seg 2 (pc1 := 101) (ls1 := [some (.ref 0), some (.int (v)), some (.int (2)), some (.int (x)), some (.int (Int32.ofNat i)), some (.int (2)), none]) (st1 := [.int (3), .int (Int32.ofNat i), .ref 1, .int (Int32.ofNat i), .ref 51]) rfl ?_
  refine Wp.invV (d2 := 0) (as := [.ref 1, .int (Int32.ofNat i), .int (3)]) (r := [.int (Int32.ofNat i), .ref 51]) (t := (1, 0)) rfl rfl rfl rfl (WF.t hw 1 rfl) rfl rfl ⟨rfl, rfl⟩ (by omega) (s_cget hw cA1 (w := 3) rfl (by omega) ha ?_)
  show Wp d 161 104 [some (.ref 0), some (.int (v)), some (.int (2)), some (.int (x)), some (.int (Int32.ofNat i)), some (.int (2)), none] [.int (a), .int (Int32.ofNat i), .ref 51] h Q
  refine Wp.invV (d2 := 0) (as := [.ref 51, .int (Int32.ofNat i), .int (a)]) (r := []) (t := (3, 0)) rfl rfl rfl rfl (WF.t hw 51 rfl) rfl rfl ⟨rfl, rfl⟩ (by omega) (s_sf51 hw ?_)
  intro k1 f1 g1
  show Wp d 161 107 [some (.ref 0), some (.int (v)), some (.int (2)), some (.int (x)), some (.int (Int32.ofNat i)), some (.int (2)), none] [] k1 Q
  refine Wp.seg 1 (pc1 := 108) (ls1 := [some (.ref 0), some (.int (v)), some (.int (2)), some (.int (x)), some (.int (Int32.ofNat i)), some (.int (2)), none]) (st1 := [.int (2)]) rfl ?_
  refine Wp.br (pc1 := 162) (st1 := []) rfl rfl ?_
  refine Wp.seg 1 (pc1 := 163) (ls1 := [some (.ref 0), some (.int (v)), some (.int (2)), some (.int (x)), some (.int (Int32.ofNat i)), some (.int (2)), none]) (st1 := [.ref 0]) rfl ?_
  refine Wp.gr (t := (10, 0)) (v := some (51)) rfl (WF.t (f1.wf hw (fun z => z)) 0 rfl) rfl ((f1.2.2.2 0 15 (Or.inr ⟨by decide, by decide⟩)).trans r15) ?_
  show Wp d 161 166 [some (.ref 0), some (.int (v)), some (.int (2)), some (.int (x)), some (.int (Int32.ofNat i)), some (.int (2)), none] [.ref 51] k1 Q
  refine Wp.seg 1 (pc1 := 167) (ls1 := [some (.ref 0), some (.int (v)), some (.int (2)), some (.int (x)), some (.int (Int32.ofNat i)), some (.int (2)), none]) (st1 := [.int (x), .ref 51]) rfl ?_
  refine Wp.invV (d2 := 1) (as := [.ref 51, .int (x)]) (r := []) (t := (3, 0)) rfl rfl rfl rfl (WF.t (f1.wf hw (fun z => z)) 51 rfl) rfl rfl ⟨rfl, rfl⟩ (by omega) (c85_511 (f1.wf hw (fun z => z)) g1 (by decide) ne (Nat.le_refl _) ?_)
  intro k2 f2 g2
  show Wp d 161 170 [some (.ref 0), some (.int (v)), some (.int (2)), some (.int (x)), some (.int (Int32.ofNat i)), some (.int (2)), none] [.int (x - x / (a - (Int32.ofNat i)) * (a - (Int32.ofNat i)))] k2 Q
  refine Wp.seg 3 (pc1 := 186) (ls1 := [some (.ref 0), some (.int (v)), some (.int (2)), some (.int (x)), some (.int (Int32.ofNat i)), some (.int (2)), some (.int (x - x / (a - (Int32.ofNat i)) * (a - (Int32.ofNat i))))]) (st1 := [.ref 0]) rfl ?_
  refine Wp.gr (t := (10, 0)) (v := some (51)) rfl (WF.t (f2.wf (f1.wf hw (fun z => z)) (fun z => z)) 0 rfl) rfl ((f2.2.2.2 0 15 (Or.inr ⟨by decide, by decide⟩)).trans ((f1.2.2.2 0 15 (Or.inr ⟨by decide, by decide⟩)).trans r15)) ?_
  show Wp d 161 189 [some (.ref 0), some (.int (v)), some (.int (2)), some (.int (x)), some (.int (Int32.ofNat i)), some (.int (2)), some (.int (x - x / (a - (Int32.ofNat i)) * (a - (Int32.ofNat i))))] [.ref 51] k2 Q
  refine Wp.gi (t := (3, 0)) rfl (WF.t (f2.wf (f1.wf hw (fun z => z)) (fun z => z)) 51 rfl) (Or.inr rfl) ?_
  rw [show k2.2.2.1 51 2 = 0 from g2.2.2.2.1]
  refine Wp.if1 rfl (fun c1 => ?_) (fun c1 => absurd (show (0 : Int32) = 0 by decide) c1)
  refine Wp.seg 1 (pc1 := 202) (ls1 := [some (.ref 0), some (.int (v)), some (.int (2)), some (.int (x)), some (.int (Int32.ofNat i)), some (.int (2)), some (.int (x - x / (a - (Int32.ofNat i)) * (a - (Int32.ofNat i))))]) (st1 := [.int (x - x / (a - (Int32.ofNat i)) * (a - (Int32.ofNat i)))]) rfl ?_
  exact Wp.reti rfl rfl ((hQ k1 f1 g1) k2 f2 g2)
set_option maxHeartbeats 4000000 in
theorem t_ad230 {d : Nat} {Q : KO → Prop} {h : KH} (hw : WF h) {v x a : Int32} {i : Nat} (hi6 : i < 6) (r15 : h.2.1 0 15 = some 51) (ha : h.2.2.1 2 (4 * i + 3) = a) (e0 : a - Int32.ofNat i = 0) (hd : 8 ≤ d) (hQ : ∀ k1, Fr (pTh 51) noP h k1 → thO k1 51 [] false (Int32.ofNat i) a → (∀ k2, Fr (pTh 51) noP k1 k2 → thO k2 51 [13, 30, 11, 10, 12] true (Int32.ofNat i) a → (Q (some (.int (-15)), k2)))) : Wp d 161 79 [some (.ref 0), some (.int (v)), some (.int (3)), some (.int (x)), some (.int (Int32.ofNat i)), some (.int (2)), none] [] h Q := by
  refine Wp.seg 1 (pc1 := 80) (ls1 := [some (.ref 0), some (.int (v)), some (.int (3)), some (.int (x)), some (.int (Int32.ofNat i)), some (.int (2)), none]) (st1 := [.ref 0]) rfl ?_
  refine Wp.gr (t := (10, 0)) (v := some (51)) rfl (WF.t hw 0 rfl) rfl r15 ?_
  show Wp d 161 83 [some (.ref 0), some (.int (v)), some (.int (3)), some (.int (x)), some (.int (Int32.ofNat i)), some (.int (2)), none] [.ref 51] h Q
  refine Wp.br rfl rfl ?_
  show Wp d 161 88 [some (.ref 0), some (.int (v)), some (.int (3)), some (.int (x)), some (.int (Int32.ofNat i)), some (.int (2)), none] [] h Q
  refine Wp.seg 1 (pc1 := 89) (ls1 := [some (.ref 0), some (.int (v)), some (.int (3)), some (.int (x)), some (.int (Int32.ofNat i)), some (.int (2)), none]) (st1 := [.ref 0]) rfl ?_
  refine Wp.gr (t := (10, 0)) (v := some (51)) rfl (WF.t hw 0 rfl) rfl r15 ?_
  show Wp d 161 92 [some (.ref 0), some (.int (v)), some (.int (3)), some (.int (x)), some (.int (Int32.ofNat i)), some (.int (2)), none] [.ref 51] h Q
  refine Wp.seg 2 (pc1 := 95) (ls1 := [some (.ref 0), some (.int (v)), some (.int (3)), some (.int (x)), some (.int (Int32.ofNat i)), some (.int (2)), none]) (st1 := [.ref 0, .int (Int32.ofNat i), .ref 51]) rfl ?_
  refine Wp.gr (t := (10, 0)) (v := some (1)) rfl (WF.t hw 0 rfl) rfl (WF.r hw 0 0 0 rfl) ?_
  show Wp d 161 98 [some (.ref 0), some (.int (v)), some (.int (3)), some (.int (x)), some (.int (Int32.ofNat i)), some (.int (2)), none] [.ref 1, .int (Int32.ofNat i), .ref 51] h Q
  refine Wp.seg 2 (pc1 := 101) (ls1 := [some (.ref 0), some (.int (v)), some (.int (3)), some (.int (x)), some (.int (Int32.ofNat i)), some (.int (2)), none]) (st1 := [.int (3), .int (Int32.ofNat i), .ref 1, .int (Int32.ofNat i), .ref 51]) rfl ?_
  refine Wp.invV (d2 := 0) (as := [.ref 1, .int (Int32.ofNat i), .int (3)]) (r := [.int (Int32.ofNat i), .ref 51]) (t := (1, 0)) rfl rfl rfl rfl (WF.t hw 1 rfl) rfl rfl ⟨rfl, rfl⟩ (by omega) (s_cget hw cA1 (w := 3) rfl (by omega) ha ?_)
  show Wp d 161 104 [some (.ref 0), some (.int (v)), some (.int (3)), some (.int (x)), some (.int (Int32.ofNat i)), some (.int (2)), none] [.int (a), .int (Int32.ofNat i), .ref 51] h Q
  refine Wp.invV (d2 := 0) (as := [.ref 51, .int (Int32.ofNat i), .int (a)]) (r := []) (t := (3, 0)) rfl rfl rfl rfl (WF.t hw 51 rfl) rfl rfl ⟨rfl, rfl⟩ (by omega) (s_sf51 hw ?_)
  intro k1 f1 g1
  show Wp d 161 107 [some (.ref 0), some (.int (v)), some (.int (3)), some (.int (x)), some (.int (Int32.ofNat i)), some (.int (2)), none] [] k1 Q
  refine Wp.seg 1 (pc1 := 108) (ls1 := [some (.ref 0), some (.int (v)), some (.int (3)), some (.int (x)), some (.int (Int32.ofNat i)), some (.int (2)), none]) (st1 := [.int (3)]) rfl ?_
  refine Wp.br (pc1 := 175) (st1 := []) rfl rfl ?_
  refine Wp.seg 1 (pc1 := 176) (ls1 := [some (.ref 0), some (.int (v)), some (.int (3)), some (.int (x)), some (.int (Int32.ofNat i)), some (.int (2)), none]) (st1 := [.ref 0]) rfl ?_
  refine Wp.gr (t := (10, 0)) (v := some (51)) rfl (WF.t (f1.wf hw (fun z => z)) 0 rfl) rfl ((f1.2.2.2 0 15 (Or.inr ⟨by decide, by decide⟩)).trans r15) ?_
  show Wp d 161 179 [some (.ref 0), some (.int (v)), some (.int (3)), some (.int (x)), some (.int (Int32.ofNat i)), some (.int (2)), none] [.ref 51] k1 Q
  refine Wp.seg 1 (pc1 := 180) (ls1 := [some (.ref 0), some (.int (v)), some (.int (3)), some (.int (x)), some (.int (Int32.ofNat i)), some (.int (2)), none]) (st1 := [.int (x), .ref 51]) rfl ?_
  refine Wp.invV (d2 := 4) (as := [.ref 51, .int (x)]) (r := []) (t := (3, 0)) rfl rfl rfl rfl (WF.t (f1.wf hw (fun z => z)) 51 rfl) rfl rfl ⟨rfl, rfl⟩ (by omega) (c86_510 (f1.wf hw (fun z => z)) g1 (by decide) e0 (Nat.le_refl _) ?_)
  intro k2 f2 g2
  show Wp d 161 183 [some (.ref 0), some (.int (v)), some (.int (3)), some (.int (x)), some (.int (Int32.ofNat i)), some (.int (2)), none] [.int (((((x ^^^ ((Int32.ofNat i) + (5 : Int32))) - a) ^^^ x) * (2 : Int32)) + (0 : Int32))] k2 Q
  refine Wp.seg 2 (pc1 := 186) (ls1 := [some (.ref 0), some (.int (v)), some (.int (3)), some (.int (x)), some (.int (Int32.ofNat i)), some (.int (2)), some (.int (((((x ^^^ ((Int32.ofNat i) + (5 : Int32))) - a) ^^^ x) * (2 : Int32)) + (0 : Int32)))]) (st1 := [.ref 0]) rfl ?_
  refine Wp.gr (t := (10, 0)) (v := some (51)) rfl (WF.t (f2.wf (f1.wf hw (fun z => z)) (fun z => z)) 0 rfl) rfl ((f2.2.2.2 0 15 (Or.inr ⟨by decide, by decide⟩)).trans ((f1.2.2.2 0 15 (Or.inr ⟨by decide, by decide⟩)).trans r15)) ?_
  show Wp d 161 189 [some (.ref 0), some (.int (v)), some (.int (3)), some (.int (x)), some (.int (Int32.ofNat i)), some (.int (2)), some (.int (((((x ^^^ ((Int32.ofNat i) + (5 : Int32))) - a) ^^^ x) * (2 : Int32)) + (0 : Int32)))] [.ref 51] k2 Q
  refine Wp.gi (t := (3, 0)) rfl (WF.t (f2.wf (f1.wf hw (fun z => z)) (fun z => z)) 51 rfl) (Or.inr rfl) ?_
  rw [show k2.2.2.1 51 2 = 1 from g2.2.2.2.1]
  refine Wp.if1 rfl (fun c1 => absurd c1 (show ¬ ((1 : Int32) = 0) by decide)) (fun c1 => ?_)
  refine Wp.seg 2 (pc1 := 202) (ls1 := [some (.ref 0), some (.int (v)), some (.int (3)), some (.int (x)), some (.int (Int32.ofNat i)), some (.int (2)), some (.int (((((x ^^^ ((Int32.ofNat i) + (5 : Int32))) - a) ^^^ x) * (2 : Int32)) + (0 : Int32)))]) (st1 := [.int (-15)]) rfl ?_
  exact Wp.reti rfl rfl ((hQ k1 f1 g1) k2 f2 g2)
set_option maxHeartbeats 4000000 in
theorem t_ad231 {d : Nat} {Q : KO → Prop} {h : KH} (hw : WF h) {v x a : Int32} {i : Nat} (hi6 : i < 6) (r15 : h.2.1 0 15 = some 51) (ha : h.2.2.1 2 (4 * i + 3) = a) (ne : ¬ a - Int32.ofNat i = 0) (hd : 8 ≤ d) (hQ : ∀ k1, Fr (pTh 51) noP h k1 → thO k1 51 [] false (Int32.ofNat i) a → (∀ k2, Fr (pTh 51) noP k1 k2 → thO k2 51 [13, 30, 11, 10, 12] false (Int32.ofNat i) a → (Q (some (.int (((((x ^^^ ((Int32.ofNat i) + (5 : Int32))) - a) ^^^ x) * (2 : Int32)) + (x - x / (a - (Int32.ofNat i)) * (a - (Int32.ofNat i))))), k2)))) : Wp d 161 79 [some (.ref 0), some (.int (v)), some (.int (3)), some (.int (x)), some (.int (Int32.ofNat i)), some (.int (2)), none] [] h Q := by
  refine Wp.seg 1 (pc1 := 80) (ls1 := [some (.ref 0), some (.int (v)), some (.int (3)), some (.int (x)), some (.int (Int32.ofNat i)), some (.int (2)), none]) (st1 := [.ref 0]) rfl ?_
  refine Wp.gr (t := (10, 0)) (v := some (51)) rfl (WF.t hw 0 rfl) rfl r15 ?_
  show Wp d 161 83 [some (.ref 0), some (.int (v)), some (.int (3)), some (.int (x)), some (.int (Int32.ofNat i)), some (.int (2)), none] [.ref 51] h Q
  refine Wp.br rfl rfl ?_
  show Wp d 161 88 [some (.ref 0), some (.int (v)), some (.int (3)), some (.int (x)), some (.int (Int32.ofNat i)), some (.int (2)), none] [] h Q
  refine Wp.seg 1 (pc1 := 89) (ls1 := [some (.ref 0), some (.int (v)), some (.int (3)), some (.int (x)), some (.int (Int32.ofNat i)), some (.int (2)), none]) (st1 := [.ref 0]) rfl ?_
  refine Wp.gr (t := (10, 0)) (v := some (51)) rfl (WF.t hw 0 rfl) rfl r15 ?_
  show Wp d 161 92 [some (.ref 0), some (.int (v)), some (.int (3)), some (.int (x)), some (.int (Int32.ofNat i)), some (.int (2)), none] [.ref 51] h Q
  refine Wp.seg 2 (pc1 := 95) (ls1 := [some (.ref 0), some (.int (v)), some (.int (3)), some (.int (x)), some (.int (Int32.ofNat i)), some (.int (2)), none]) (st1 := [.ref 0, .int (Int32.ofNat i), .ref 51]) rfl ?_
  refine Wp.gr (t := (10, 0)) (v := some (1)) rfl (WF.t hw 0 rfl) rfl (WF.r hw 0 0 0 rfl) ?_
  show Wp d 161 98 [some (.ref 0), some (.int (v)), some (.int (3)), some (.int (x)), some (.int (Int32.ofNat i)), some (.int (2)), none] [.ref 1, .int (Int32.ofNat i), .ref 51] h Q
  refine Wp.seg 2 (pc1 := 101) (ls1 := [some (.ref 0), some (.int (v)), some (.int (3)), some (.int (x)), some (.int (Int32.ofNat i)), some (.int (2)), none]) (st1 := [.int (3), .int (Int32.ofNat i), .ref 1, .int (Int32.ofNat i), .ref 51]) rfl ?_
  refine Wp.invV (d2 := 0) (as := [.ref 1, .int (Int32.ofNat i), .int (3)]) (r := [.int (Int32.ofNat i), .ref 51]) (t := (1, 0)) rfl rfl rfl rfl (WF.t hw 1 rfl) rfl rfl ⟨rfl, rfl⟩ (by omega) (s_cget hw cA1 (w := 3) rfl (by omega) ha ?_)
  show Wp d 161 104 [some (.ref 0), some (.int (v)), some (.int (3)), some (.int (x)), some (.int (Int32.ofNat i)), some (.int (2)), none] [.int (a), .int (Int32.ofNat i), .ref 51] h Q
  refine Wp.invV (d2 := 0) (as := [.ref 51, .int (Int32.ofNat i), .int (a)]) (r := []) (t := (3, 0)) rfl rfl rfl rfl (WF.t hw 51 rfl) rfl rfl ⟨rfl, rfl⟩ (by omega) (s_sf51 hw ?_)
  intro k1 f1 g1
  show Wp d 161 107 [some (.ref 0), some (.int (v)), some (.int (3)), some (.int (x)), some (.int (Int32.ofNat i)), some (.int (2)), none] [] k1 Q
  refine Wp.seg 1 (pc1 := 108) (ls1 := [some (.ref 0), some (.int (v)), some (.int (3)), some (.int (x)), some (.int (Int32.ofNat i)), some (.int (2)), none]) (st1 := [.int (3)]) rfl ?_
  refine Wp.br (pc1 := 175) (st1 := []) rfl rfl ?_
  refine Wp.seg 1 (pc1 := 176) (ls1 := [some (.ref 0), some (.int (v)), some (.int (3)), some (.int (x)), some (.int (Int32.ofNat i)), some (.int (2)), none]) (st1 := [.ref 0]) rfl ?_
  refine Wp.gr (t := (10, 0)) (v := some (51)) rfl (WF.t (f1.wf hw (fun z => z)) 0 rfl) rfl ((f1.2.2.2 0 15 (Or.inr ⟨by decide, by decide⟩)).trans r15) ?_
  show Wp d 161 179 [some (.ref 0), some (.int (v)), some (.int (3)), some (.int (x)), some (.int (Int32.ofNat i)), some (.int (2)), none] [.ref 51] k1 Q
  refine Wp.seg 1 (pc1 := 180) (ls1 := [some (.ref 0), some (.int (v)), some (.int (3)), some (.int (x)), some (.int (Int32.ofNat i)), some (.int (2)), none]) (st1 := [.int (x), .ref 51]) rfl ?_
  refine Wp.invV (d2 := 4) (as := [.ref 51, .int (x)]) (r := []) (t := (3, 0)) rfl rfl rfl rfl (WF.t (f1.wf hw (fun z => z)) 51 rfl) rfl rfl ⟨rfl, rfl⟩ (by omega) (c86_511 (f1.wf hw (fun z => z)) g1 (by decide) ne (Nat.le_refl _) ?_)
  intro k2 f2 g2
  show Wp d 161 183 [some (.ref 0), some (.int (v)), some (.int (3)), some (.int (x)), some (.int (Int32.ofNat i)), some (.int (2)), none] [.int (((((x ^^^ ((Int32.ofNat i) + (5 : Int32))) - a) ^^^ x) * (2 : Int32)) + (x - x / (a - (Int32.ofNat i)) * (a - (Int32.ofNat i))))] k2 Q
  refine Wp.seg 2 (pc1 := 186) (ls1 := [some (.ref 0), some (.int (v)), some (.int (3)), some (.int (x)), some (.int (Int32.ofNat i)), some (.int (2)), some (.int (((((x ^^^ ((Int32.ofNat i) + (5 : Int32))) - a) ^^^ x) * (2 : Int32)) + (x - x / (a - (Int32.ofNat i)) * (a - (Int32.ofNat i)))))]) (st1 := [.ref 0]) rfl ?_
  refine Wp.gr (t := (10, 0)) (v := some (51)) rfl (WF.t (f2.wf (f1.wf hw (fun z => z)) (fun z => z)) 0 rfl) rfl ((f2.2.2.2 0 15 (Or.inr ⟨by decide, by decide⟩)).trans ((f1.2.2.2 0 15 (Or.inr ⟨by decide, by decide⟩)).trans r15)) ?_
  show Wp d 161 189 [some (.ref 0), some (.int (v)), some (.int (3)), some (.int (x)), some (.int (Int32.ofNat i)), some (.int (2)), some (.int (((((x ^^^ ((Int32.ofNat i) + (5 : Int32))) - a) ^^^ x) * (2 : Int32)) + (x - x / (a - (Int32.ofNat i)) * (a - (Int32.ofNat i)))))] [.ref 51] k2 Q
  refine Wp.gi (t := (3, 0)) rfl (WF.t (f2.wf (f1.wf hw (fun z => z)) (fun z => z)) 51 rfl) (Or.inr rfl) ?_
  rw [show k2.2.2.1 51 2 = 0 from g2.2.2.2.1]
  refine Wp.if1 rfl (fun c1 => ?_) (fun c1 => absurd (show (0 : Int32) = 0 by decide) c1)
  refine Wp.seg 1 (pc1 := 202) (ls1 := [some (.ref 0), some (.int (v)), some (.int (3)), some (.int (x)), some (.int (Int32.ofNat i)), some (.int (2)), some (.int (((((x ^^^ ((Int32.ofNat i) + (5 : Int32))) - a) ^^^ x) * (2 : Int32)) + (x - x / (a - (Int32.ofNat i)) * (a - (Int32.ofNat i)))))]) (st1 := [.int (((((x ^^^ ((Int32.ofNat i) + (5 : Int32))) - a) ^^^ x) * (2 : Int32)) + (x - x / (a - (Int32.ofNat i)) * (a - (Int32.ofNat i))))]) rfl ?_
  exact Wp.reti rfl rfl ((hQ k1 f1 g1) k2 f2 g2)
set_option maxHeartbeats 4000000 in
theorem t_ad30 {d : Nat} {Q : KO → Prop} {h : KH} (hw : WF h) {v x a : Int32} {i : Nat} (hi6 : i < 6) (r15 : h.2.1 0 15 = some 53) (ha : h.2.2.1 2 (4 * i + 3) = a) (hd : 8 ≤ d) (hQ : ∀ k1, Fr (pTh 53) noP h k1 → thO k1 53 [] false (Int32.ofNat i) a → (∀ k2, Fr (pTh 53) noP k1 k2 → thO k2 53 [50, 10] false (Int32.ofNat i) a → (Q (some (.int ((x + (Int32.ofNat i)) ^^^ ((Int32.ofNat i) + (5 : Int32)))), k2)))) : Wp d 161 79 [some (.ref 0), some (.int (v)), some (.int (0)), some (.int (x)), some (.int (Int32.ofNat i)), some (.int (3)), none] [] h Q := by
  refine Wp.seg 1 (pc1 := 80) (ls1 := [some (.ref 0), some (.int (v)), some (.int (0)), some (.int (x)), some (.int (Int32.ofNat i)), some (.int (3)), none]) (st1 := [.ref 0]) rfl ?_
  refine Wp.gr (t := (10, 0)) (v := some (53)) rfl (WF.t hw 0 rfl) rfl r15 ?_
  show Wp d 161 83 [some (.ref 0), some (.int (v)), some (.int (0)), some (.int (x)), some (.int (Int32.ofNat i)), some (.int (3)), none] [.ref 53] h Q
  refine Wp.br rfl rfl ?_
  show Wp d 161 88 [some (.ref 0), some (.int (v)), some (.int (0)), some (.int (x)), some (.int (Int32.ofNat i)), some (.int (3)), none] [] h Q
  refine Wp.seg 1 (pc1 := 89) (ls1 := [some (.ref 0), some (.int (v)), some (.int (0)), some (.int (x)), some (.int (Int32.ofNat i)), some (.int (3)), none]) (st1 := [.ref 0]) rfl ?_
  refine Wp.gr (t := (10, 0)) (v := some (53)) rfl (WF.t hw 0 rfl) rfl r15 ?_
  show Wp d 161 92 [some (.ref 0), some (.int (v)), some (.int (0)), some (.int (x)), some (.int (Int32.ofNat i)), some (.int (3)), none] [.ref 53] h Q
  refine Wp.seg 2 (pc1 := 95) (ls1 := [some (.ref 0), some (.int (v)), some (.int (0)), some (.int (x)), some (.int (Int32.ofNat i)), some (.int (3)), none]) (st1 := [.ref 0, .int (Int32.ofNat i), .ref 53]) rfl ?_
  refine Wp.gr (t := (10, 0)) (v := some (1)) rfl (WF.t hw 0 rfl) rfl (WF.r hw 0 0 0 rfl) ?_
  show Wp d 161 98 [some (.ref 0), some (.int (v)), some (.int (0)), some (.int (x)), some (.int (Int32.ofNat i)), some (.int (3)), none] [.ref 1, .int (Int32.ofNat i), .ref 53] h Q
  refine Wp.seg 2 (pc1 := 101) (ls1 := [some (.ref 0), some (.int (v)), some (.int (0)), some (.int (x)), some (.int (Int32.ofNat i)), some (.int (3)), none]) (st1 := [.int (3), .int (Int32.ofNat i), .ref 1, .int (Int32.ofNat i), .ref 53]) rfl ?_
  refine Wp.invV (d2 := 0) (as := [.ref 1, .int (Int32.ofNat i), .int (3)]) (r := [.int (Int32.ofNat i), .ref 53]) (t := (1, 0)) rfl rfl rfl rfl (WF.t hw 1 rfl) rfl rfl ⟨rfl, rfl⟩ (by omega) (s_cget hw cA1 (w := 3) rfl (by omega) ha ?_)
  show Wp d 161 104 [some (.ref 0), some (.int (v)), some (.int (0)), some (.int (x)), some (.int (Int32.ofNat i)), some (.int (3)), none] [.int (a), .int (Int32.ofNat i), .ref 53] h Q
  refine Wp.invV (d2 := 0) (as := [.ref 53, .int (Int32.ofNat i), .int (a)]) (r := []) (t := (4, 0)) rfl rfl rfl rfl (WF.t hw 53 rfl) rfl rfl ⟨rfl, rfl⟩ (by omega) (s_sf53 hw ?_)
  intro k1 f1 g1
  show Wp d 161 107 [some (.ref 0), some (.int (v)), some (.int (0)), some (.int (x)), some (.int (Int32.ofNat i)), some (.int (3)), none] [] k1 Q
  refine Wp.seg 1 (pc1 := 108) (ls1 := [some (.ref 0), some (.int (v)), some (.int (0)), some (.int (x)), some (.int (Int32.ofNat i)), some (.int (3)), none]) (st1 := [.int (0)]) rfl ?_
  refine Wp.br (pc1 := 136) (st1 := []) rfl rfl ?_
  refine Wp.seg 1 (pc1 := 137) (ls1 := [some (.ref 0), some (.int (v)), some (.int (0)), some (.int (x)), some (.int (Int32.ofNat i)), some (.int (3)), none]) (st1 := [.ref 0]) rfl ?_
  refine Wp.gr (t := (10, 0)) (v := some (53)) rfl (WF.t (f1.wf hw (fun z => z)) 0 rfl) rfl ((f1.2.2.2 0 15 (Or.inr ⟨by decide, by decide⟩)).trans r15) ?_
  show Wp d 161 140 [some (.ref 0), some (.int (v)), some (.int (0)), some (.int (x)), some (.int (Int32.ofNat i)), some (.int (3)), none] [.ref 53] k1 Q
  refine Wp.seg 1 (pc1 := 141) (ls1 := [some (.ref 0), some (.int (v)), some (.int (0)), some (.int (x)), some (.int (Int32.ofNat i)), some (.int (3)), none]) (st1 := [.int (x), .ref 53]) rfl ?_
  refine Wp.invV (d2 := 2) (as := [.ref 53, .int (x)]) (r := []) (t := (4, 0)) rfl rfl rfl rfl (WF.t (f1.wf hw (fun z => z)) 53 rfl) rfl rfl ⟨rfl, rfl⟩ (by omega) (c42_53 (f1.wf hw (fun z => z)) g1 (by decide) (Nat.le_refl _) ?_)
  intro k2 f2 g2
  show Wp d 161 144 [some (.ref 0), some (.int (v)), some (.int (0)), some (.int (x)), some (.int (Int32.ofNat i)), some (.int (3)), none] [.int ((x + (Int32.ofNat i)) ^^^ ((Int32.ofNat i) + (5 : Int32)))] k2 Q
  refine Wp.seg 3 (pc1 := 186) (ls1 := [some (.ref 0), some (.int (v)), some (.int (0)), some (.int (x)), some (.int (Int32.ofNat i)), some (.int (3)), some (.int ((x + (Int32.ofNat i)) ^^^ ((Int32.ofNat i) + (5 : Int32))))]) (st1 := [.ref 0]) rfl ?_
  refine Wp.gr (t := (10, 0)) (v := some (53)) rfl (WF.t (f2.wf (f1.wf hw (fun z => z)) (fun z => z)) 0 rfl) rfl ((f2.2.2.2 0 15 (Or.inr ⟨by decide, by decide⟩)).trans ((f1.2.2.2 0 15 (Or.inr ⟨by decide, by decide⟩)).trans r15)) ?_
  show Wp d 161 189 [some (.ref 0), some (.int (v)), some (.int (0)), some (.int (x)), some (.int (Int32.ofNat i)), some (.int (3)), some (.int ((x + (Int32.ofNat i)) ^^^ ((Int32.ofNat i) + (5 : Int32))))] [.ref 53] k2 Q
  refine Wp.gi (t := (4, 0)) rfl (WF.t (f2.wf (f1.wf hw (fun z => z)) (fun z => z)) 53 rfl) (Or.inr rfl) ?_
  rw [show k2.2.2.1 53 2 = 0 from g2.2.2.2.1]
  refine Wp.if1 rfl (fun c1 => ?_) (fun c1 => absurd (show (0 : Int32) = 0 by decide) c1)
  refine Wp.seg 1 (pc1 := 202) (ls1 := [some (.ref 0), some (.int (v)), some (.int (0)), some (.int (x)), some (.int (Int32.ofNat i)), some (.int (3)), some (.int ((x + (Int32.ofNat i)) ^^^ ((Int32.ofNat i) + (5 : Int32))))]) (st1 := [.int ((x + (Int32.ofNat i)) ^^^ ((Int32.ofNat i) + (5 : Int32)))]) rfl ?_
  exact Wp.reti rfl rfl ((hQ k1 f1 g1) k2 f2 g2)
set_option maxHeartbeats 4000000 in
theorem t_ad31 {d : Nat} {Q : KO → Prop} {h : KH} (hw : WF h) {v x a : Int32} {i : Nat} (hi6 : i < 6) (r15 : h.2.1 0 15 = some 53) (ha : h.2.2.1 2 (4 * i + 3) = a) (hd : 8 ≤ d) (hQ : ∀ k1, Fr (pTh 53) noP h k1 → thO k1 53 [] false (Int32.ofNat i) a → (∀ k2, Fr (pTh 53) noP k1 k2 → thO k2 53 [30, 11, 50, 10] false (Int32.ofNat i) a → (Q (some (.int ((((x + (Int32.ofNat i)) ^^^ ((Int32.ofNat i) + (5 : Int32))) - a) ^^^ x)), k2)))) : Wp d 161 79 [some (.ref 0), some (.int (v)), some (.int (1)), some (.int (x)), some (.int (Int32.ofNat i)), some (.int (3)), none] [] h Q := by
  refine Wp.seg 1 (pc1 := 80) (ls1 := [some (.ref 0), some (.int (v)), some (.int (1)), some (.int (x)), some (.int (Int32.ofNat i)), some (.int (3)), none]) (st1 := [.ref 0]) rfl ?_
  refine Wp.gr (t := (10, 0)) (v := some (53)) rfl (WF.t hw 0 rfl) rfl r15 ?_
  show Wp d 161 83 [some (.ref 0), some (.int (v)), some (.int (1)), some (.int (x)), some (.int (Int32.ofNat i)), some (.int (3)), none] [.ref 53] h Q
  refine Wp.br rfl rfl ?_
  show Wp d 161 88 [some (.ref 0), some (.int (v)), some (.int (1)), some (.int (x)), some (.int (Int32.ofNat i)), some (.int (3)), none] [] h Q
  refine Wp.seg 1 (pc1 := 89) (ls1 := [some (.ref 0), some (.int (v)), some (.int (1)), some (.int (x)), some (.int (Int32.ofNat i)), some (.int (3)), none]) (st1 := [.ref 0]) rfl ?_
  refine Wp.gr (t := (10, 0)) (v := some (53)) rfl (WF.t hw 0 rfl) rfl r15 ?_
  show Wp d 161 92 [some (.ref 0), some (.int (v)), some (.int (1)), some (.int (x)), some (.int (Int32.ofNat i)), some (.int (3)), none] [.ref 53] h Q
  refine Wp.seg 2 (pc1 := 95) (ls1 := [some (.ref 0), some (.int (v)), some (.int (1)), some (.int (x)), some (.int (Int32.ofNat i)), some (.int (3)), none]) (st1 := [.ref 0, .int (Int32.ofNat i), .ref 53]) rfl ?_
  refine Wp.gr (t := (10, 0)) (v := some (1)) rfl (WF.t hw 0 rfl) rfl (WF.r hw 0 0 0 rfl) ?_
  show Wp d 161 98 [some (.ref 0), some (.int (v)), some (.int (1)), some (.int (x)), some (.int (Int32.ofNat i)), some (.int (3)), none] [.ref 1, .int (Int32.ofNat i), .ref 53] h Q
  refine Wp.seg 2 (pc1 := 101) (ls1 := [some (.ref 0), some (.int (v)), some (.int (1)), some (.int (x)), some (.int (Int32.ofNat i)), some (.int (3)), none]) (st1 := [.int (3), .int (Int32.ofNat i), .ref 1, .int (Int32.ofNat i), .ref 53]) rfl ?_
  refine Wp.invV (d2 := 0) (as := [.ref 1, .int (Int32.ofNat i), .int (3)]) (r := [.int (Int32.ofNat i), .ref 53]) (t := (1, 0)) rfl rfl rfl rfl (WF.t hw 1 rfl) rfl rfl ⟨rfl, rfl⟩ (by omega) (s_cget hw cA1 (w := 3) rfl (by omega) ha ?_)
  show Wp d 161 104 [some (.ref 0), some (.int (v)), some (.int (1)), some (.int (x)), some (.int (Int32.ofNat i)), some (.int (3)), none] [.int (a), .int (Int32.ofNat i), .ref 53] h Q
  refine Wp.invV (d2 := 0) (as := [.ref 53, .int (Int32.ofNat i), .int (a)]) (r := []) (t := (4, 0)) rfl rfl rfl rfl (WF.t hw 53 rfl) rfl rfl ⟨rfl, rfl⟩ (by omega) (s_sf53 hw ?_)
  intro k1 f1 g1
  show Wp d 161 107 [some (.ref 0), some (.int (v)), some (.int (1)), some (.int (x)), some (.int (Int32.ofNat i)), some (.int (3)), none] [] k1 Q
  refine Wp.seg 1 (pc1 := 108) (ls1 := [some (.ref 0), some (.int (v)), some (.int (1)), some (.int (x)), some (.int (Int32.ofNat i)), some (.int (3)), none]) (st1 := [.int (1)]) rfl ?_
  refine Wp.br (pc1 := 149) (st1 := []) rfl rfl ?_
  refine Wp.seg 1 (pc1 := 150) (ls1 := [some (.ref 0), some (.int (v)), some (.int (1)), some (.int (x)), some (.int (Int32.ofNat i)), some (.int (3)), none]) (st1 := [.ref 0]) rfl ?_
  refine Wp.gr (t := (10, 0)) (v := some (53)) rfl (WF.t (f1.wf hw (fun z => z)) 0 rfl) rfl ((f1.2.2.2 0 15 (Or.inr ⟨by decide, by decide⟩)).trans r15) ?_
  show Wp d 161 153 [some (.ref 0), some (.int (v)), some (.int (1)), some (.int (x)), some (.int (Int32.ofNat i)), some (.int (3)), none] [.ref 53] k1 Q
  refine Wp.seg 1 (pc1 := 154) (ls1 := [some (.ref 0), some (.int (v)), some (.int (1)), some (.int (x)), some (.int (Int32.ofNat i)), some (.int (3)), none]) (st1 := [.int (x), .ref 53]) rfl ?_
  refine Wp.invV (d2 := 4) (as := [.ref 53, .int (x)]) (r := []) (t := (4, 0)) rfl rfl rfl rfl (WF.t (f1.wf hw (fun z => z)) 53 rfl) rfl rfl ⟨rfl, rfl⟩ (by omega) (c40_53 (f1.wf hw (fun z => z)) g1 (by decide) (Nat.le_refl _) ?_)
  intro k2 f2 g2
  show Wp d 161 157 [some (.ref 0), some (.int (v)), some (.int (1)), some (.int (x)), some (.int (Int32.ofNat i)), some (.int (3)), none] [.int ((((x + (Int32.ofNat i)) ^^^ ((Int32.ofNat i) + (5 : Int32))) - a) ^^^ x)] k2 Q
  refine Wp.seg 3 (pc1 := 186) (ls1 := [some (.ref 0), some (.int (v)), some (.int (1)), some (.int (x)), some (.int (Int32.ofNat i)), some (.int (3)), some (.int ((((x + (Int32.ofNat i)) ^^^ ((Int32.ofNat i) + (5 : Int32))) - a) ^^^ x))]) (st1 := [.ref 0]) rfl ?_
  refine Wp.gr (t := (10, 0)) (v := some (53)) rfl (WF.t (f2.wf (f1.wf hw (fun z => z)) (fun z => z)) 0 rfl) rfl ((f2.2.2.2 0 15 (Or.inr ⟨by decide, by decide⟩)).trans ((f1.2.2.2 0 15 (Or.inr ⟨by decide, by decide⟩)).trans r15)) ?_
  show Wp d 161 189 [some (.ref 0), some (.int (v)), some (.int (1)), some (.int (x)), some (.int (Int32.ofNat i)), some (.int (3)), some (.int ((((x + (Int32.ofNat i)) ^^^ ((Int32.ofNat i) + (5 : Int32))) - a) ^^^ x))] [.ref 53] k2 Q
  refine Wp.gi (t := (4, 0)) rfl (WF.t (f2.wf (f1.wf hw (fun z => z)) (fun z => z)) 53 rfl) (Or.inr rfl) ?_
  rw [show k2.2.2.1 53 2 = 0 from g2.2.2.2.1]
  refine Wp.if1 rfl (fun c1 => ?_) (fun c1 => absurd (show (0 : Int32) = 0 by decide) c1)
  refine Wp.seg 1 (pc1 := 202) (ls1 := [some (.ref 0), some (.int (v)), some (.int (1)), some (.int (x)), some (.int (Int32.ofNat i)), some (.int (3)), some (.int ((((x + (Int32.ofNat i)) ^^^ ((Int32.ofNat i) + (5 : Int32))) - a) ^^^ x))]) (st1 := [.int ((((x + (Int32.ofNat i)) ^^^ ((Int32.ofNat i) + (5 : Int32))) - a) ^^^ x)]) rfl ?_
  exact Wp.reti rfl rfl ((hQ k1 f1 g1) k2 f2 g2)
set_option maxHeartbeats 4000000 in
theorem t_ad320 {d : Nat} {Q : KO → Prop} {h : KH} (hw : WF h) {v x a : Int32} {i : Nat} (hi6 : i < 6) (r15 : h.2.1 0 15 = some 53) (ha : h.2.2.1 2 (4 * i + 3) = a) (e0 : a - Int32.ofNat i = 0) (hd : 8 ≤ d) (hQ : ∀ k1, Fr (pTh 53) noP h k1 → thO k1 53 [] false (Int32.ofNat i) a → (∀ k2, Fr (pTh 53) noP k1 k2 → thO k2 53 [12] true (Int32.ofNat i) a → (Q (some (.int (-15)), k2)))) : Wp d 161 79 [some (.ref 0), some (.int (v)), some (.int (2)), some (.int (x)), some (.int (Int32.ofNat i)), some (.int (3)), none] [] h Q := by
  refine Wp.seg 1 (pc1 := 80) (ls1 := [some (.ref 0), some (.int (v)), some (.int (2)), some (.int (x)), some (.int (Int32.ofNat i)), some (.int (3)), none]) (st1 := [.ref 0]) rfl ?_
  refine Wp.gr (t := (10, 0)) (v := some (53)) rfl (WF.t hw 0 rfl) rfl r15 ?_
  show Wp d 161 83 [some (.ref 0), some (.int (v)), some (.int (2)), some (.int (x)), some (.int (Int32.ofNat i)), some (.int (3)), none] [.ref 53] h Q
  refine Wp.br rfl rfl ?_
  show Wp d 161 88 [some (.ref 0), some (.int (v)), some (.int (2)), some (.int (x)), some (.int (Int32.ofNat i)), some (.int (3)), none] [] h Q
  refine Wp.seg 1 (pc1 := 89) (ls1 := [some (.ref 0), some (.int (v)), some (.int (2)), some (.int (x)), some (.int (Int32.ofNat i)), some (.int (3)), none]) (st1 := [.ref 0]) rfl ?_
  refine Wp.gr (t := (10, 0)) (v := some (53)) rfl (WF.t hw 0 rfl) rfl r15 ?_
  show Wp d 161 92 [some (.ref 0), some (.int (v)), some (.int (2)), some (.int (x)), some (.int (Int32.ofNat i)), some (.int (3)), none] [.ref 53] h Q
  refine Wp.seg 2 (pc1 := 95) (ls1 := [some (.ref 0), some (.int (v)), some (.int (2)), some (.int (x)), some (.int (Int32.ofNat i)), some (.int (3)), none]) (st1 := [.ref 0, .int (Int32.ofNat i), .ref 53]) rfl ?_
  refine Wp.gr (t := (10, 0)) (v := some (1)) rfl (WF.t hw 0 rfl) rfl (WF.r hw 0 0 0 rfl) ?_
  show Wp d 161 98 [some (.ref 0), some (.int (v)), some (.int (2)), some (.int (x)), some (.int (Int32.ofNat i)), some (.int (3)), none] [.ref 1, .int (Int32.ofNat i), .ref 53] h Q
  refine Wp.seg 2 (pc1 := 101) (ls1 := [some (.ref 0), some (.int (v)), some (.int (2)), some (.int (x)), some (.int (Int32.ofNat i)), some (.int (3)), none]) (st1 := [.int (3), .int (Int32.ofNat i), .ref 1, .int (Int32.ofNat i), .ref 53]) rfl ?_
  refine Wp.invV (d2 := 0) (as := [.ref 1, .int (Int32.ofNat i), .int (3)]) (r := [.int (Int32.ofNat i), .ref 53]) (t := (1, 0)) rfl rfl rfl rfl (WF.t hw 1 rfl) rfl rfl ⟨rfl, rfl⟩ (by omega) (s_cget hw cA1 (w := 3) rfl (by omega) ha ?_)
  show Wp d 161 104 [some (.ref 0), some (.int (v)), some (.int (2)), some (.int (x)), some (.int (Int32.ofNat i)), some (.int (3)), none] [.int (a), .int (Int32.ofNat i), .ref 53] h Q
  refine Wp.invV (d2 := 0) (as := [.ref 53, .int (Int32.ofNat i), .int (a)]) (r := []) (t := (4, 0)) rfl rfl rfl rfl (WF.t hw 53 rfl) rfl rfl ⟨rfl, rfl⟩ (by omega) (s_sf53 hw ?_)
  intro k1 f1 g1
  show Wp d 161 107 [some (.ref 0), some (.int (v)), some (.int (2)), some (.int (x)), some (.int (Int32.ofNat i)), some (.int (3)), none] [] k1 Q
  refine Wp.seg 1 (pc1 := 108) (ls1 := [some (.ref 0), some (.int (v)), some (.int (2)), some (.int (x)), some (.int (Int32.ofNat i)), some (.int (3)), none]) (st1 := [.int (2)]) rfl ?_
  refine Wp.br (pc1 := 162) (st1 := []) rfl rfl ?_
  refine Wp.seg 1 (pc1 := 163) (ls1 := [some (.ref 0), some (.int (v)), some (.int (2)), some (.int (x)), some (.int (Int32.ofNat i)), some (.int (3)), none]) (st1 := [.ref 0]) rfl ?_
  refine Wp.gr (t := (10, 0)) (v := some (53)) rfl (WF.t (f1.wf hw (fun z => z)) 0 rfl) rfl ((f1.2.2.2 0 15 (Or.inr ⟨by decide, by decide⟩)).trans r15) ?_
  show Wp d 161 166 [some (.ref 0), some (.int (v)), some (.int (2)), some (.int (x)), some (.int (Int32.ofNat i)), some (.int (3)), none] [.ref 53] k1 Q
  refine Wp.seg 1 (pc1 := 167) (ls1 := [some (.ref 0), some (.int (v)), some (.int (2)), some (.int (x)), some (.int (Int32.ofNat i)), some (.int (3)), none]) (st1 := [.int (x), .ref 53]) rfl ?_
  refine Wp.invV (d2 := 1) (as := [.ref 53, .int (x)]) (r := []) (t := (4, 0)) rfl rfl rfl rfl (WF.t (f1.wf hw (fun z => z)) 53 rfl) rfl rfl ⟨rfl, rfl⟩ (by omega) (c85_530 (f1.wf hw (fun z => z)) g1 (by decide) e0 (Nat.le_refl _) ?_)
  intro k2 f2 g2
  show Wp d 161 170 [some (.ref 0), some (.int (v)), some (.int (2)), some (.int (x)), some (.int (Int32.ofNat i)), some (.int (3)), none] [.int (0)] k2 Q
  refine Wp.seg 3 (pc1 := 186) (ls1 := [some (.ref 0), some (.int (v)), some (.int (2)), some (.int (x)), some (.int (Int32.ofNat i)), some (.int (3)), some (.int (0))]) (st1 := [.ref 0]) rfl ?_
  refine Wp.gr (t := (10, 0)) (v := some (53)) rfl (WF.t (f2.wf (f1.wf hw (fun z => z)) (fun z => z)) 0 rfl) rfl ((f2.2.2.2 0 15 (Or.inr ⟨by decide, by decide⟩)).trans ((f1.2.2.2 0 15 (Or.inr ⟨by decide, by decide⟩)).trans r15)) ?_
  show Wp d 161 189 [some (.ref 0), some (.int (v)), some (.int (2)), some (.int (x)), some (.int (Int32.ofNat i)), some (.int (3)), some (.int (0))] [.ref 53] k2 Q
  refine Wp.gi (t := (4, 0)) rfl (WF.t (f2.wf (f1.wf hw (fun z => z)) (fun z => z)) 53 rfl) (Or.inr rfl) ?_
  rw [show k2.2.2.1 53 2 = 1 from g2.2.2.2.1]
  refine Wp.if1 rfl (fun c1 => absurd c1 (show ¬ ((1 : Int32) = 0) by decide)) (fun c1 => ?_)
  refine Wp.seg 2 (pc1 := 202) (ls1 := [some (.ref 0), some (.int (v)), some (.int (2)), some (.int (x)), some (.int (Int32.ofNat i)), some (.int (3)), some (.int (0))]) (st1 := [.int (-15)]) rfl ?_
  exact Wp.reti rfl rfl ((hQ k1 f1 g1) k2 f2 g2)
set_option maxHeartbeats 4000000 in
theorem t_ad321 {d : Nat} {Q : KO → Prop} {h : KH} (hw : WF h) {v x a : Int32} {i : Nat} (hi6 : i < 6) (r15 : h.2.1 0 15 = some 53) (ha : h.2.2.1 2 (4 * i + 3) = a) (ne : ¬ a - Int32.ofNat i = 0) (hd : 8 ≤ d) (hQ : ∀ k1, Fr (pTh 53) noP h k1 → thO k1 53 [] false (Int32.ofNat i) a → (∀ k2, Fr (pTh 53) noP k1 k2 → thO k2 53 [12] false (Int32.ofNat i) a → (Q (some (.int (x - x / (a - (Int32.ofNat i)) * (a - (Int32.ofNat i)))), k2)))) : Wp d 161 79 [some (.ref 0), some (.int (v)), some (.int (2)), some (.int (x)), some (.int (Int32.ofNat i)), some (.int (3)), none] [] h Q := by
  refine Wp.seg 1 (pc1 := 80) (ls1 := [some (.ref 0), some (.int (v)), some (.int (2)), some (.int (x)), some (.int (Int32.ofNat i)), some (.int (3)), none]) (st1 := [.ref 0]) rfl ?_
  refine Wp.gr (t := (10, 0)) (v := some (53)) rfl (WF.t hw 0 rfl) rfl r15 ?_
  show Wp d 161 83 [some (.ref 0), some (.int (v)), some (.int (2)), some (.int (x)), some (.int (Int32.ofNat i)), some (.int (3)), none] [.ref 53] h Q
  refine Wp.br rfl rfl ?_
  show Wp d 161 88 [some (.ref 0), some (.int (v)), some (.int (2)), some (.int (x)), some (.int (Int32.ofNat i)), some (.int (3)), none] [] h Q
  refine Wp.seg 1 (pc1 := 89) (ls1 := [some (.ref 0), some (.int (v)), some (.int (2)), some (.int (x)), some (.int (Int32.ofNat i)), some (.int (3)), none]) (st1 := [.ref 0]) rfl ?_
  refine Wp.gr (t := (10, 0)) (v := some (53)) rfl (WF.t hw 0 rfl) rfl r15 ?_
  show Wp d 161 92 [some (.ref 0), some (.int (v)), some (.int (2)), some (.int (x)), some (.int (Int32.ofNat i)), some (.int (3)), none] [.ref 53] h Q
  refine Wp.seg 2 (pc1 := 95) (ls1 := [some (.ref 0), some (.int (v)), some (.int (2)), some (.int (x)), some (.int (Int32.ofNat i)), some (.int (3)), none]) (st1 := [.ref 0, .int (Int32.ofNat i), .ref 53]) rfl ?_
  refine Wp.gr (t := (10, 0)) (v := some (1)) rfl (WF.t hw 0 rfl) rfl (WF.r hw 0 0 0 rfl) ?_
  show Wp d 161 98 [some (.ref 0), some (.int (v)), some (.int (2)), some (.int (x)), some (.int (Int32.ofNat i)), some (.int (3)), none] [.ref 1, .int (Int32.ofNat i), .ref 53] h Q
  refine Wp.seg 2 (pc1 := 101) (ls1 := [some (.ref 0), some (.int (v)), some (.int (2)), some (.int (x)), some (.int (Int32.ofNat i)), some (.int (3)), none]) (st1 := [.int (3), .int (Int32.ofNat i), .ref 1, .int (Int32.ofNat i), .ref 53]) rfl ?_
  refine Wp.invV (d2 := 0) (as := [.ref 1, .int (Int32.ofNat i), .int (3)]) (r := [.int (Int32.ofNat i), .ref 53]) (t := (1, 0)) rfl rfl rfl rfl (WF.t hw 1 rfl) rfl rfl ⟨rfl, rfl⟩ (by omega) (s_cget hw cA1 (w := 3) rfl (by omega) ha ?_)
  show Wp d 161 104 [some (.ref 0), some (.int (v)), some (.int (2)), some (.int (x)), some (.int (Int32.ofNat i)), some (.int (3)), none] [.int (a), .int (Int32.ofNat i), .ref 53] h Q
  refine Wp.invV (d2 := 0) (as := [.ref 53, .int (Int32.ofNat i), .int (a)]) (r := []) (t := (4, 0)) rfl rfl rfl rfl (WF.t hw 53 rfl) rfl rfl ⟨rfl, rfl⟩ (by omega) (s_sf53 hw ?_)
  intro k1 f1 g1
  show Wp d 161 107 [some (.ref 0), some (.int (v)), some (.int (2)), some (.int (x)), some (.int (Int32.ofNat i)), some (.int (3)), none] [] k1 Q
  refine Wp.seg 1 (pc1 := 108) (ls1 := [some (.ref 0), some (.int (v)), some (.int (2)), some (.int (x)), some (.int (Int32.ofNat i)), some (.int (3)), none]) (st1 := [.int (2)]) rfl ?_
  refine Wp.br (pc1 := 162) (st1 := []) rfl rfl ?_
  refine Wp.seg 1 (pc1 := 163) (ls1 := [some (.ref 0), some (.int (v)), some (.int (2)), some (.int (x)), some (.int (Int32.ofNat i)), some (.int (3)), none]) (st1 := [.ref 0]) rfl ?_
  refine Wp.gr (t := (10, 0)) (v := some (53)) rfl (WF.t (f1.wf hw (fun z => z)) 0 rfl) rfl ((f1.2.2.2 0 15 (Or.inr ⟨by decide, by decide⟩)).trans r15) ?_
  show Wp d 161 166 [some (.ref 0), some (.int (v)), some (.int (2)), some (.int (x)), some (.int (Int32.ofNat i)), some (.int (3)), none] [.ref 53] k1 Q
  refine Wp.seg 1 (pc1 := 167) (ls1 := [some (.ref 0), some (.int (v)), some (.int (2)), some (.int (x)), some (.int (Int32.ofNat i)), some (.int (3)), none]) (st1 := [.int (x), .ref 53]) rfl ?_
  refine Wp.invV (d2 := 1) (as := [.ref 53, .int (x)]) (r := []) (t := (4, 0)) rfl rfl rfl rfl (WF.t (f1.wf hw (fun z => z)) 53 rfl) rfl rfl ⟨rfl, rfl⟩ (by omega) (c85_531 (f1.wf hw (fun z => z)) g1 (by decide) ne (Nat.le_refl _) ?_)
  intro k2 f2 g2
  show Wp d 161 170 [some (.ref 0), some (.int (v)), some (.int (2)), some (.int (x)), some (.int (Int32.ofNat i)), some (.int (3)), none] [.int (x - x / (a - (Int32.ofNat i)) * (a - (Int32.ofNat i)))] k2 Q
  refine Wp.seg 3 (pc1 := 186) (ls1 := [some (.ref 0), some (.int (v)), some (.int (2)), some (.int (x)), some (.int (Int32.ofNat i)), some (.int (3)), some (.int (x - x / (a - (Int32.ofNat i)) * (a - (Int32.ofNat i))))]) (st1 := [.ref 0]) rfl ?_
  refine Wp.gr (t := (10, 0)) (v := some (53)) rfl (WF.t (f2.wf (f1.wf hw (fun z => z)) (fun z => z)) 0 rfl) rfl ((f2.2.2.2 0 15 (Or.inr ⟨by decide, by decide⟩)).trans ((f1.2.2.2 0 15 (Or.inr ⟨by decide, by decide⟩)).trans r15)) ?_
  show Wp d 161 189 [some (.ref 0), some (.int (v)), some (.int (2)), some (.int (x)), some (.int (Int32.ofNat i)), some (.int (3)), some (.int (x - x / (a - (Int32.ofNat i)) * (a - (Int32.ofNat i))))] [.ref 53] k2 Q
  refine Wp.gi (t := (4, 0)) rfl (WF.t (f2.wf (f1.wf hw (fun z => z)) (fun z => z)) 53 rfl) (Or.inr rfl) ?_
  rw [show k2.2.2.1 53 2 = 0 from g2.2.2.2.1]
  refine Wp.if1 rfl (fun c1 => ?_) (fun c1 => absurd (show (0 : Int32) = 0 by decide) c1)
  refine Wp.seg 1 (pc1 := 202) (ls1 := [some (.ref 0), some (.int (v)), some (.int (2)), some (.int (x)), some (.int (Int32.ofNat i)), some (.int (3)), some (.int (x - x / (a - (Int32.ofNat i)) * (a - (Int32.ofNat i))))]) (st1 := [.int (x - x / (a - (Int32.ofNat i)) * (a - (Int32.ofNat i)))]) rfl ?_
  exact Wp.reti rfl rfl ((hQ k1 f1 g1) k2 f2 g2)
set_option maxHeartbeats 4000000 in
theorem t_ad330 {d : Nat} {Q : KO → Prop} {h : KH} (hw : WF h) {v x a : Int32} {i : Nat} (hi6 : i < 6) (r15 : h.2.1 0 15 = some 53) (ha : h.2.2.1 2 (4 * i + 3) = a) (e0 : a - Int32.ofNat i = 0) (hd : 8 ≤ d) (hQ : ∀ k1, Fr (pTh 53) noP h k1 → thO k1 53 [] false (Int32.ofNat i) a → (∀ k2, Fr (pTh 53) noP k1 k2 → thO k2 53 [51, 13, 30, 11, 50, 10, 12] true (Int32.ofNat i) a → (Q (some (.int (-15)), k2)))) : Wp d 161 79 [some (.ref 0), some (.int (v)), some (.int (3)), some (.int (x)), some (.int (Int32.ofNat i)), some (.int (3)), none] [] h Q := by
  refine Wp.seg 1 (pc1 := 80) (ls1 := [some (.ref 0), some (.int (v)), some (.int (3)), some (.int (x)), some (.int (Int32.ofNat i)), some (.int (3)), none]) (st1 := [.ref 0]) rfl ?_
  refine Wp.gr (t := (10, 0)) (v := some (53)) rfl (WF.t hw 0 rfl) rfl r15 ?_
  show Wp d 161 83 [some (.ref 0), some (.int (v)), some (.int (3)), some (.int (x)), some (.int (Int32.ofNat i)), some (.int (3)), none] [.ref 53] h Q
  refine Wp.br rfl rfl ?_
  show Wp d 161 88 [some (.ref 0), some (.int (v)), some (.int (3)), some (.int (x)), some (.int (Int32.ofNat i)), some (.int (3)), none] [] h Q
  refine Wp.seg 1 (pc1 := 89) (ls1 := [some (.ref 0), some (.int (v)), some (.int (3)), some (.int (x)), some (.int (Int32.ofNat i)), some (.int (3)), none]) (st1 := [.ref 0]) rfl ?_
  refine Wp.gr (t := (10, 0)) (v := some (53)) rfl (WF.t hw 0 rfl) rfl r15 ?_
  show Wp d 161 92 [some (.ref 0), some (.int (v)), some (.int (3)), some (.int (x)), some (.int (Int32.ofNat i)), some (.int (3)), none] [.ref 53] h Q
  refine Wp.seg 2 (pc1 := 95) (ls1 := [some (.ref 0), some (.int (v)), some (.int (3)), some (.int (x)), some (.int (Int32.ofNat i)), some (.int (3)), none]) (st1 := [.ref 0, .int (Int32.ofNat i), .ref 53]) rfl ?_
  refine Wp.gr (t := (10, 0)) (v := some (1)) rfl (WF.t hw 0 rfl) rfl (WF.r hw 0 0 0 rfl) ?_
  show Wp d 161 98 [some (.ref 0), some (.int (v)), some (.int (3)), some (.int (x)), some (.int (Int32.ofNat i)), some (.int (3)), none] [.ref 1, .int (Int32.ofNat i), .ref 53] h Q
  refine Wp.seg 2 (pc1 := 101) (ls1 := [some (.ref 0), some (.int (v)), some (.int (3)), some (.int (x)), some (.int (Int32.ofNat i)), some (.int (3)), none]) (st1 := [.int (3), .int (Int32.ofNat i), .ref 1, .int (Int32.ofNat i), .ref 53]) rfl ?_
  refine Wp.invV (d2 := 0) (as := [.ref 1, .int (Int32.ofNat i), .int (3)]) (r := [.int (Int32.ofNat i), .ref 53]) (t := (1, 0)) rfl rfl rfl rfl (WF.t hw 1 rfl) rfl rfl ⟨rfl, rfl⟩ (by omega) (s_cget hw cA1 (w := 3) rfl (by omega) ha ?_)
  show Wp d 161 104 [some (.ref 0), some (.int (v)), some (.int (3)), some (.int (x)), some (.int (Int32.ofNat i)), some (.int (3)), none] [.int (a), .int (Int32.ofNat i), .ref 53] h Q
  refine Wp.invV (d2 := 0) (as := [.ref 53, .int (Int32.ofNat i), .int (a)]) (r := []) (t := (4, 0)) rfl rfl rfl rfl (WF.t hw 53 rfl) rfl rfl ⟨rfl, rfl⟩ (by omega) (s_sf53 hw ?_)
  intro k1 f1 g1
  show Wp d 161 107 [some (.ref 0), some (.int (v)), some (.int (3)), some (.int (x)), some (.int (Int32.ofNat i)), some (.int (3)), none] [] k1 Q
  refine Wp.seg 1 (pc1 := 108) (ls1 := [some (.ref 0), some (.int (v)), some (.int (3)), some (.int (x)), some (.int (Int32.ofNat i)), some (.int (3)), none]) (st1 := [.int (3)]) rfl ?_
  refine Wp.br (pc1 := 175) (st1 := []) rfl rfl ?_
  refine Wp.seg 1 (pc1 := 176) (ls1 := [some (.ref 0), some (.int (v)), some (.int (3)), some (.int (x)), some (.int (Int32.ofNat i)), some (.int (3)), none]) (st1 := [.ref 0]) rfl ?_
  refine Wp.gr (t := (10, 0)) (v := some (53)) rfl (WF.t (f1.wf hw (fun z => z)) 0 rfl) rfl ((f1.2.2.2 0 15 (Or.inr ⟨by decide, by decide⟩)).trans r15) ?_
  show Wp d 161 179 [some (.ref 0), some (.int (v)), some (.int (3)), some (.int (x)), some (.int (Int32.ofNat i)), some (.int (3)), none] [.ref 53] k1 Q
  refine Wp.seg 1 (pc1 := 180) (ls1 := [some (.ref 0), some (.int (v)), some (.int (3)), some (.int (x)), some (.int (Int32.ofNat i)), some (.int (3)), none]) (st1 := [.int (x), .ref 53]) rfl ?_
  refine Wp.invV (d2 := 6) (as := [.ref 53, .int (x)]) (r := []) (t := (4, 0)) rfl rfl rfl rfl (WF.t (f1.wf hw (fun z => z)) 53 rfl) rfl rfl ⟨rfl, rfl⟩ (by omega) (c43_530 (f1.wf hw (fun z => z)) g1 (by decide) e0 (Nat.le_refl _) ?_)
  intro k2 f2 g2
  show Wp d 161 183 [some (.ref 0), some (.int (v)), some (.int (3)), some (.int (x)), some (.int (Int32.ofNat i)), some (.int (3)), none] [.int (((((((x + (Int32.ofNat i)) ^^^ ((Int32.ofNat i) + (5 : Int32))) - a) ^^^ x) * (2 : Int32)) + (0 : Int32)) - (0 : Int32))] k2 Q
  refine Wp.seg 2 (pc1 := 186) (ls1 := [some (.ref 0), some (.int (v)), some (.int (3)), some (.int (x)), some (.int (Int32.ofNat i)), some (.int (3)), some (.int (((((((x + (Int32.ofNat i)) ^^^ ((Int32.ofNat i) + (5 : Int32))) - a) ^^^ x) * (2 : Int32)) + (0 : Int32)) - (0 : Int32)))]) (st1 := [.ref 0]) rfl ?_
  refine Wp.gr (t := (10, 0)) (v := some (53)) rfl (WF.t (f2.wf (f1.wf hw (fun z => z)) (fun z => z)) 0 rfl) rfl ((f2.2.2.2 0 15 (Or.inr ⟨by decide, by decide⟩)).trans ((f1.2.2.2 0 15 (Or.inr ⟨by decide, by decide⟩)).trans r15)) ?_
  show Wp d 161 189 [some (.ref 0), some (.int (v)), some (.int (3)), some (.int (x)), some (.int (Int32.ofNat i)), some (.int (3)), some (.int (((((((x + (Int32.ofNat i)) ^^^ ((Int32.ofNat i) + (5 : Int32))) - a) ^^^ x) * (2 : Int32)) + (0 : Int32)) - (0 : Int32)))] [.ref 53] k2 Q
  refine Wp.gi (t := (4, 0)) rfl (WF.t (f2.wf (f1.wf hw (fun z => z)) (fun z => z)) 53 rfl) (Or.inr rfl) ?_
  rw [show k2.2.2.1 53 2 = 1 from g2.2.2.2.1]
  refine Wp.if1 rfl (fun c1 => absurd c1 (show ¬ ((1 : Int32) = 0) by decide)) (fun c1 => ?_)
  refine Wp.seg 2 (pc1 := 202) (ls1 := [some (.ref 0), some (.int (v)), some (.int (3)), some (.int (x)), some (.int (Int32.ofNat i)), some (.int (3)), some (.int (((((((x + (Int32.ofNat i)) ^^^ ((Int32.ofNat i) + (5 : Int32))) - a) ^^^ x) * (2 : Int32)) + (0 : Int32)) - (0 : Int32)))]) (st1 := [.int (-15)]) rfl ?_
  exact Wp.reti rfl rfl ((hQ k1 f1 g1) k2 f2 g2)
set_option maxHeartbeats 4000000 in
theorem t_ad331 {d : Nat} {Q : KO → Prop} {h : KH} (hw : WF h) {v x a : Int32} {i : Nat} (hi6 : i < 6) (r15 : h.2.1 0 15 = some 53) (ha : h.2.2.1 2 (4 * i + 3) = a) (ne : ¬ a - Int32.ofNat i = 0) (hd : 8 ≤ d) (hQ : ∀ k1, Fr (pTh 53) noP h k1 → thO k1 53 [] false (Int32.ofNat i) a → (∀ k2, Fr (pTh 53) noP k1 k2 → thO k2 53 [51, 13, 30, 11, 50, 10, 12, 30, 11, 50, 10] false (Int32.ofNat i) a → (Q (some (.int (((((((x + (Int32.ofNat i)) ^^^ ((Int32.ofNat i) + (5 : Int32))) - a) ^^^ x) * (2 : Int32)) + (x - x / (a - (Int32.ofNat i)) * (a - (Int32.ofNat i)))) - ((((a + (Int32.ofNat i)) ^^^ ((Int32.ofNat i) + (5 : Int32))) - a) ^^^ a))), k2)))) : Wp d 161 79 [some (.ref 0), some (.int (v)), some (.int (3)), some (.int (x)), some (.int (Int32.ofNat i)), some (.int (3)), none] [] h Q := by
  refine Wp.seg 1 (pc1 := 80) (ls1 := [some (.ref 0), some (.int (v)), some (.int (3)), some (.int (x)), some (.int (Int32.ofNat i)), some (.int (3)), none]) (st1 := [.ref 0]) rfl ?_
  refine Wp.gr (t := (10, 0)) (v := some (53)) rfl (WF.t hw 0 rfl) rfl r15 ?_
  show Wp d 161 83 [some (.ref 0), some (.int (v)), some (.int (3)), some (.int (x)), some (.int (Int32.ofNat i)), some (.int (3)), none] [.ref 53] h Q
  refine Wp.br rfl rfl ?_
  show Wp d 161 88 [some (.ref 0), some (.int (v)), some (.int (3)), some (.int (x)), some (.int (Int32.ofNat i)), some (.int (3)), none] [] h Q
  refine Wp.seg 1 (pc1 := 89) (ls1 := [some (.ref 0), some (.int (v)), some (.int (3)), some (.int (x)), some (.int (Int32.ofNat i)), some (.int (3)), none]) (st1 := [.ref 0]) rfl ?_
  refine Wp.gr (t := (10, 0)) (v := some (53)) rfl (WF.t hw 0 rfl) rfl r15 ?_
  show Wp d 161 92 [some (.ref 0), some (.int (v)), some (.int (3)), some (.int (x)), some (.int (Int32.ofNat i)), some (.int (3)), none] [.ref 53] h Q
  refine Wp.seg 2 (pc1 := 95) (ls1 := [some (.ref 0), some (.int (v)), some (.int (3)), some (.int (x)), some (.int (Int32.ofNat i)), some (.int (3)), none]) (st1 := [.ref 0, .int (Int32.ofNat i), .ref 53]) rfl ?_
  refine Wp.gr (t := (10, 0)) (v := some (1)) rfl (WF.t hw 0 rfl) rfl (WF.r hw 0 0 0 rfl) ?_
  show Wp d 161 98 [some (.ref 0), some (.int (v)), some (.int (3)), some (.int (x)), some (.int (Int32.ofNat i)), some (.int (3)), none] [.ref 1, .int (Int32.ofNat i), .ref 53] h Q
  refine Wp.seg 2 (pc1 := 101) (ls1 := [some (.ref 0), some (.int (v)), some (.int (3)), some (.int (x)), some (.int (Int32.ofNat i)), some (.int (3)), none]) (st1 := [.int (3), .int (Int32.ofNat i), .ref 1, .int (Int32.ofNat i), .ref 53]) rfl ?_
  refine Wp.invV (d2 := 0) (as := [.ref 1, .int (Int32.ofNat i), .int (3)]) (r := [.int (Int32.ofNat i), .ref 53]) (t := (1, 0)) rfl rfl rfl rfl (WF.t hw 1 rfl) rfl rfl ⟨rfl, rfl⟩ (by omega) (s_cget hw cA1 (w := 3) rfl (by omega) ha ?_)
  show Wp d 161 104 [some (.ref 0), some (.int (v)), some (.int (3)), some (.int (x)), some (.int (Int32.ofNat i)), some (.int (3)), none] [.int (a), .int (Int32.ofNat i), .ref 53] h Q
  refine Wp.invV (d2 := 0) (as := [.ref 53, .int (Int32.ofNat i), .int (a)]) (r := []) (t := (4, 0)) rfl rfl rfl rfl (WF.t hw 53 rfl) rfl rfl ⟨rfl, rfl⟩ (by omega) (s_sf53 hw ?_)
  intro k1 f1 g1
  show Wp d 161 107 [some (.ref 0), some (.int (v)), some (.int (3)), some (.int (x)), some (.int (Int32.ofNat i)), some (.int (3)), none] [] k1 Q
  refine Wp.seg 1 (pc1 := 108) (ls1 := [some (.ref 0), some (.int (v)), some (.int (3)), some (.int (x)), some (.int (Int32.ofNat i)), some (.int (3)), none]) (st1 := [.int (3)]) rfl ?_
  refine Wp.br (pc1 := 175) (st1 := []) rfl rfl ?_
  refine Wp.seg 1 (pc1 := 176) (ls1 := [some (.ref 0), some (.int (v)), some (.int (3)), some (.int (x)), some (.int (Int32.ofNat i)), some (.int (3)), none]) (st1 := [.ref 0]) rfl ?_
  refine Wp.gr (t := (10, 0)) (v := some (53)) rfl (WF.t (f1.wf hw (fun z => z)) 0 rfl) rfl ((f1.2.2.2 0 15 (Or.inr ⟨by decide, by decide⟩)).trans r15) ?_
  show Wp d 161 179 [some (.ref 0), some (.int (v)), some (.int (3)), some (.int (x)), some (.int (Int32.ofNat i)), some (.int (3)), none] [.ref 53] k1 Q
  refine Wp.seg 1 (pc1 := 180) (ls1 := [some (.ref 0), some (.int (v)), some (.int (3)), some (.int (x)), some (.int (Int32.ofNat i)), some (.int (3)), none]) (st1 := [.int (x), .ref 53]) rfl ?_
  refine Wp.invV (d2 := 6) (as := [.ref 53, .int (x)]) (r := []) (t := (4, 0)) rfl rfl rfl rfl (WF.t (f1.wf hw (fun z => z)) 53 rfl) rfl rfl ⟨rfl, rfl⟩ (by omega) (c43_531 (f1.wf hw (fun z => z)) g1 (by decide) ne (Nat.le_refl _) ?_)
  intro k2 f2 g2
  show Wp d 161 183 [some (.ref 0), some (.int (v)), some (.int (3)), some (.int (x)), some (.int (Int32.ofNat i)), some (.int (3)), none] [.int (((((((x + (Int32.ofNat i)) ^^^ ((Int32.ofNat i) + (5 : Int32))) - a) ^^^ x) * (2 : Int32)) + (x - x / (a - (Int32.ofNat i)) * (a - (Int32.ofNat i)))) - ((((a + (Int32.ofNat i)) ^^^ ((Int32.ofNat i) + (5 : Int32))) - a) ^^^ a))] k2 Q
  refine Wp.seg 2 (pc1 := 186) (ls1 := [some (.ref 0), some (.int (v)), some (.int (3)), some (.int (x)), some (.int (Int32.ofNat i)), some (.int (3)), some (.int (((((((x + (Int32.ofNat i)) ^^^ ((Int32.ofNat i) + (5 : Int32))) - a) ^^^ x) * (2 : Int32)) + (x - x / (a - (Int32.ofNat i)) * (a - (Int32.ofNat i)))) - ((((a + (Int32.ofNat i)) ^^^ ((Int32.ofNat i) + (5 : Int32))) - a) ^^^ a)))]) (st1 := [.ref 0]) rfl ?_
  refine Wp.gr (t := (10, 0)) (v := some (53)) rfl (WF.t (f2.wf (f1.wf hw (fun z => z)) (fun z => z)) 0 rfl) rfl ((f2.2.2.2 0 15 (Or.inr ⟨by decide, by decide⟩)).trans ((f1.2.2.2 0 15 (Or.inr ⟨by decide, by decide⟩)).trans r15)) ?_
  show Wp d 161 189 [some (.ref 0), some (.int (v)), some (.int (3)), some (.int (x)), some (.int (Int32.ofNat i)), some (.int (3)), some (.int (((((((x + (Int32.ofNat i)) ^^^ ((Int32.ofNat i) + (5 : Int32))) - a) ^^^ x) * (2 : Int32)) + (x - x / (a - (Int32.ofNat i)) * (a - (Int32.ofNat i)))) - ((((a + (Int32.ofNat i)) ^^^ ((Int32.ofNat i) + (5 : Int32))) - a) ^^^ a)))] [.ref 53] k2 Q
  refine Wp.gi (t := (4, 0)) rfl (WF.t (f2.wf (f1.wf hw (fun z => z)) (fun z => z)) 53 rfl) (Or.inr rfl) ?_
  rw [show k2.2.2.1 53 2 = 0 from g2.2.2.2.1]
  refine Wp.if1 rfl (fun c1 => ?_) (fun c1 => absurd (show (0 : Int32) = 0 by decide) c1)
  refine Wp.seg 1 (pc1 := 202) (ls1 := [some (.ref 0), some (.int (v)), some (.int (3)), some (.int (x)), some (.int (Int32.ofNat i)), some (.int (3)), some (.int (((((((x + (Int32.ofNat i)) ^^^ ((Int32.ofNat i) + (5 : Int32))) - a) ^^^ x) * (2 : Int32)) + (x - x / (a - (Int32.ofNat i)) * (a - (Int32.ofNat i)))) - ((((a + (Int32.ofNat i)) ^^^ ((Int32.ofNat i) + (5 : Int32))) - a) ^^^ a)))]) (st1 := [.int (((((((x + (Int32.ofNat i)) ^^^ ((Int32.ofNat i) + (5 : Int32))) - a) ^^^ x) * (2 : Int32)) + (x - x / (a - (Int32.ofNat i)) * (a - (Int32.ofNat i)))) - ((((a + (Int32.ofNat i)) ^^^ ((Int32.ofNat i) + (5 : Int32))) - a) ^^^ a))]) rfl ?_
  exact Wp.reti rfl rfl ((hQ k1 f1 g1) k2 f2 g2)
set_option maxHeartbeats 4000000 in
theorem t_ad40 {d : Nat} {Q : KO → Prop} {h : KH} (hw : WF h) {v x a : Int32} {i : Nat} (hi6 : i < 6) (r15 : h.2.1 0 15 = some 55) (ha : h.2.2.1 2 (4 * i + 3) = a) (hd : 8 ≤ d) (hQ : ∀ k1, Fr (pTh 55) noP h k1 → thO k1 55 [] false (Int32.ofNat i) a → (∀ k2, Fr (pTh 55) noP k1 k2 → thO k2 55 [10] false (Int32.ofNat i) a → (Q (some (.int (x ^^^ ((Int32.ofNat i) + (5 : Int32)))), k2)))) : Wp d 161 79 [some (.ref 0), some (.int (v)), some (.int (0)), some (.int (x)), some (.int (Int32.ofNat i)), some (.int (4)), none] [] h Q := by
  refine Wp.seg 1 (pc1 := 80) (ls1 := [some (.ref 0), some (.int (v)), some (.int (0)), some (.int (x)), some (.int (Int32.ofNat i)), some (.int (4)), none]) (st1 := [.ref 0]) rfl ?_
  refine Wp.gr (t := (10, 0)) (v := some (55)) rfl (WF.t hw 0 rfl) rfl r15 ?_
  show Wp d 161 83 [some (.ref 0), some (.int (v)), some (.int (0)), some (.int (x)), some (.int (Int32.ofNat i)), some (.int (4)), none] [.ref 55] h Q
  refine Wp.br rfl rfl ?_
  show Wp d 161 88 [some (.ref 0), some (.int (v)), some (.int (0)), some (.int (x)), some (.int (Int32.ofNat i)), some (.int (4)), none] [] h Q
  refine Wp.seg 1 (pc1 := 89) (ls1 := [some (.ref 0), some (.int (v)), some (.int (0)), some (.int (x)), some (.int (Int32.ofNat i)), some (.int (4)), none]) (st1 := [.ref 0]) rfl ?_
  refine Wp.gr (t := (10, 0)) (v := some (55)) rfl (WF.t hw 0 rfl) rfl r15 ?_
  show Wp d 161 92 [some (.ref 0), some (.int (v)), some (.int (0)), some (.int (x)), some (.int (Int32.ofNat i)), some (.int (4)), none] [.ref 55] h Q
  refine Wp.seg 2 (pc1 := 95) (ls1 := [some (.ref 0), some (.int (v)), some (.int (0)), some (.int (x)), some (.int (Int32.ofNat i)), some (.int (4)), none]) (st1 := [.ref 0, .int (Int32.ofNat i), .ref 55]) rfl ?_
  refine Wp.gr (t := (10, 0)) (v := some (1)) rfl (WF.t hw 0 rfl) rfl (WF.r hw 0 0 0 rfl) ?_
  show Wp d 161 98 [some (.ref 0), some (.int (v)), some (.int (0)), some (.int (x)), some (.int (Int32.ofNat i)), some (.int (4)), none] [.ref 1, .int (Int32.ofNat i), .ref 55] h Q
  refine Wp.seg 2 (pc1 := 101) (ls1 := [some (.ref 0), some (.int (v)), some (.int (0)), some (.int (x)), some (.int (Int32.ofNat i)), some (.int (4)), none]) (st1 := [.int (3), .int (Int32.ofNat i), .ref 1, .int (Int32.ofNat i), .ref 55]) rfl ?_
  refine Wp.invV (d2 := 0) (as := [.ref 1, .int (Int32.ofNat i), .int (3)]) (r := [.int (Int32.ofNat i), .ref 55]) (t := (1, 0)) rfl rfl rfl rfl (WF.t hw 1 rfl) rfl rfl ⟨rfl, rfl⟩ (by omega) (s_cget hw cA1 (w := 3) rfl (by omega) ha ?_)
  show Wp d 161 104 [some (.ref 0), some (.int (v)), some (.int (0)), some (.int (x)), some (.int (Int32.ofNat i)), some (.int (4)), none] [.int (a), .int (Int32.ofNat i), .ref 55] h Q
  refine Wp.invV (d2 := 0) (as := [.ref 55, .int (Int32.ofNat i), .int (a)]) (r := []) (t := (8, 0)) rfl rfl rfl rfl (WF.t hw 55 rfl) rfl rfl ⟨rfl, rfl⟩ (by omega) (s_sf55 hw ?_)
  intro k1 f1 g1
  show Wp d 161 107 [some (.ref 0), some (.int (v)), some (.int (0)), some (.int (x)), some (.int (Int32.ofNat i)), some (.int (4)), none] [] k1 Q
  refine Wp.seg 1 (pc1 := 108) (ls1 := [some (.ref 0), some (.int (v)), some (.int (0)), some (.int (x)), some (.int (Int32.ofNat i)), some (.int (4)), none]) (st1 := [.int (0)]) rfl ?_
  refine Wp.br (pc1 := 136) (st1 := []) rfl rfl ?_
  refine Wp.seg 1 (pc1 := 137) (ls1 := [some (.ref 0), some (.int (v)), some (.int (0)), some (.int (x)), some (.int (Int32.ofNat i)), some (.int (4)), none]) (st1 := [.ref 0]) rfl ?_
  refine Wp.gr (t := (10, 0)) (v := some (55)) rfl (WF.t (f1.wf hw (fun z => z)) 0 rfl) rfl ((f1.2.2.2 0 15 (Or.inr ⟨by decide, by decide⟩)).trans r15) ?_
  show Wp d 161 140 [some (.ref 0), some (.int (v)), some (.int (0)), some (.int (x)), some (.int (Int32.ofNat i)), some (.int (4)), none] [.ref 55] k1 Q
  refine Wp.seg 1 (pc1 := 141) (ls1 := [some (.ref 0), some (.int (v)), some (.int (0)), some (.int (x)), some (.int (Int32.ofNat i)), some (.int (4)), none]) (st1 := [.int (x), .ref 55]) rfl ?_
  refine Wp.invV (d2 := 1) (as := [.ref 55, .int (x)]) (r := []) (t := (8, 0)) rfl rfl rfl rfl (WF.t (f1.wf hw (fun z => z)) 55 rfl) rfl rfl ⟨rfl, rfl⟩ (by omega) (c83_55 (f1.wf hw (fun z => z)) g1 (by decide) (Nat.le_refl _) ?_)
  intro k2 f2 g2
  show Wp d 161 144 [some (.ref 0), some (.int (v)), some (.int (0)), some (.int (x)), some (.int (Int32.ofNat i)), some (.int (4)), none] [.int (x ^^^ ((Int32.ofNat i) + (5 : Int32)))] k2 Q
  refine Wp.seg 3 (pc1 := 186) (ls1 := [some (.ref 0), some (.int (v)), some (.int (0)), some (.int (x)), some (.int (Int32.ofNat i)), some (.int (4)), some (.int (x ^^^ ((Int32.ofNat i) + (5 : Int32))))]) (st1 := [.ref 0]) rfl ?_
  refine Wp.gr (t := (10, 0)) (v := some (55)) rfl (WF.t (f2.wf (f1.wf hw (fun z => z)) (fun z => z)) 0 rfl) rfl ((f2.2.2.2 0 15 (Or.inr ⟨by decide, by decide⟩)).trans ((f1.2.2.2 0 15 (Or.inr ⟨by decide, by decide⟩)).trans r15)) ?_
  show Wp d 161 189 [some (.ref 0), some (.int (v)), some (.int (0)), some (.int (x)), some (.int (Int32.ofNat i)), some (.int (4)), some (.int (x ^^^ ((Int32.ofNat i) + (5 : Int32))))] [.ref 55] k2 Q
  refine Wp.gi (t := (8, 0)) rfl (WF.t (f2.wf (f1.wf hw (fun z => z)) (fun z => z)) 55 rfl) (Or.inr rfl) ?_
  rw [show k2.2.2.1 55 2 = 0 from g2.2.2.2.1]
  refine Wp.if1 rfl (fun c1 => ?_) (fun c1 => absurd (show (0 : Int32) = 0 by decide) c1)
  refine Wp.seg 1 (pc1 := 202) (ls1 := [some (.ref 0), some (.int (v)), some (.int (0)), some (.int (x)), some (.int (Int32.ofNat i)), some (.int (4)), some (.int (x ^^^ ((Int32.ofNat i) + (5 : Int32))))]) (st1 := [.int (x ^^^ ((Int32.ofNat i) + (5 : Int32)))]) rfl ?_
  exact Wp.reti rfl rfl ((hQ k1 f1 g1) k2 f2 g2)
set_option maxHeartbeats 4000000 in
theorem t_ad41 {d : Nat} {Q : KO → Prop} {h : KH} (hw : WF h) {v x a : Int32} {i : Nat} (hi6 : i < 6) (r15 : h.2.1 0 15 = some 55) (ha : h.2.2.1 2 (4 * i + 3) = a) (hd : 8 ≤ d) (hQ : ∀ k1, Fr (pTh 55) noP h k1 → thO k1 55 [] false (Int32.ofNat i) a → (∀ k2, Fr (pTh 55) noP k1 k2 → thO k2 55 [11, 10] false (Int32.ofNat i) a → (Q (some (.int ((x ^^^ ((Int32.ofNat i) + (5 : Int32))) - a)), k2)))) : Wp d 161 79 [some (.ref 0), some (.int (v)), some (.int (1)), some (.int (x)), some (.int (Int32.ofNat i)), some (.int (4)), none] [] h Q := by
  refine Wp.seg 1 (pc1 := 80) (ls1 := [some (.ref 0), some (.int (v)), some (.int (1)), some (.int (x)), some (.int (Int32.ofNat i)), some (.int (4)), none]) (st1 := [.ref 0]) rfl ?_
  refine Wp.gr (t := (10, 0)) (v := some (55)) rfl (WF.t hw 0 rfl) rfl r15 ?_
  show Wp d 161 83 [some (.ref 0), some (.int (v)), some (.int (1)), some (.int (x)), some (.int (Int32.ofNat i)), some (.int (4)), none] [.ref 55] h Q
  refine Wp.br rfl rfl ?_
  show Wp d 161 88 [some (.ref 0), some (.int (v)), some (.int (1)), some (.int (x)), some (.int (Int32.ofNat i)), some (.int (4)), none] [] h Q
  refine Wp.seg 1 (pc1 := 89) (ls1 := [some (.ref 0), some (.int (v)), some (.int (1)), some (.int (x)), some (.int (Int32.ofNat i)), some (.int (4)), none]) (st1 := [.ref 0]) rfl ?_
  refine Wp.gr (t := (10, 0)) (v := some (55)) rfl (WF.t hw 0 rfl) rfl r15 ?_
  show Wp d 161 92 [some (.ref 0), some (.int (v)), some (.int (1)), some (.int (x)), some (.int (Int32.ofNat i)), some (.int (4)), none] [.ref 55] h Q
  refine Wp.seg 2 (pc1 := 95) (ls1 := [some (.ref 0), some (.int (v)), some (.int (1)), some (.int (x)), some (.int (Int32.ofNat i)), some (.int (4)), none]) (st1 := [.ref 0, .int (Int32.ofNat i), .ref 55]) rfl ?_
  refine Wp.gr (t := (10, 0)) (v := some (1)) rfl (WF.t hw 0 rfl) rfl (WF.r hw 0 0 0 rfl) ?_
  show Wp d 161 98 [some (.ref 0), some (.int (v)), some (.int (1)), some (.int (x)), some (.int (Int32.ofNat i)), some (.int (4)), none] [.ref 1, .int (Int32.ofNat i), .ref 55] h Q
  refine Wp.seg 2 (pc1 := 101) (ls1 := [some (.ref 0), some (.int (v)), some (.int (1)), some (.int (x)), some (.int (Int32.ofNat i)), some (.int (4)), none]) (st1 := [.int (3), .int (Int32.ofNat i), .ref 1, .int (Int32.ofNat i), .ref 55]) rfl ?_
  refine Wp.invV (d2 := 0) (as := [.ref 1, .int (Int32.ofNat i), .int (3)]) (r := [.int (Int32.ofNat i), .ref 55]) (t := (1, 0)) rfl rfl rfl rfl (WF.t hw 1 rfl) rfl rfl ⟨rfl, rfl⟩ (by omega) (s_cget hw cA1 (w := 3) rfl (by omega) ha ?_)
  show Wp d 161 104 [some (.ref 0), some (.int (v)), some (.int (1)), some (.int (x)), some (.int (Int32.ofNat i)), some (.int (4)), none] [.int (a), .int (Int32.ofNat i), .ref 55] h Q
  refine Wp.invV (d2 := 0) (as := [.ref 55, .int (Int32.ofNat i), .int (a)]) (r := []) (t := (8, 0)) rfl rfl rfl rfl (WF.t hw 55 rfl) rfl rfl ⟨rfl, rfl⟩ (by omega) (s_sf55 hw ?_)
  intro k1 f1 g1
  show Wp d 161 107 [some (.ref 0), some (.int (v)), some (.int (1)), some (.int (x)), some (.int (Int32.ofNat i)), some (.int (4)), none] [] k1 Q
  refine Wp.seg 1 (pc1 := 108) (ls1 := [some (.ref 0), some (.int (v)), some (.int (1)), some (.int (x)), some (.int (Int32.ofNat i)), some (.int (4)), none]) (st1 := [.int (1)]) rfl ?_
  refine Wp.br (pc1 := 149) (st1 := []) rfl rfl ?_
  refine Wp.seg 1 (pc1 := 150) (ls1 := [some (.ref 0), some (.int (v)), some (.int (1)), some (.int (x)), some (.int (Int32.ofNat i)), some (.int (4)), none]) (st1 := [.ref 0]) rfl ?_
  refine Wp.gr (t := (10, 0)) (v := some (55)) rfl (WF.t (f1.wf hw (fun z => z)) 0 rfl) rfl ((f1.2.2.2 0 15 (Or.inr ⟨by decide, by decide⟩)).trans r15) ?_
  show Wp d 161 153 [some (.ref 0), some (.int (v)), some (.int (1)), some (.int (x)), some (.int (Int32.ofNat i)), some (.int (4)), none] [.ref 55] k1 Q
  refine Wp.seg 1 (pc1 := 154) (ls1 := [some (.ref 0), some (.int (v)), some (.int (1)), some (.int (x)), some (.int (Int32.ofNat i)), some (.int (4)), none]) (st1 := [.int (x), .ref 55]) rfl ?_
  refine Wp.invV (d2 := 2) (as := [.ref 55, .int (x)]) (r := []) (t := (8, 0)) rfl rfl rfl rfl (WF.t (f1.wf hw (fun z => z)) 55 rfl) rfl rfl ⟨rfl, rfl⟩ (by omega) (c84_55 (f1.wf hw (fun z => z)) g1 (by decide) (Nat.le_refl _) ?_)
  intro k2 f2 g2
  show Wp d 161 157 [some (.ref 0), some (.int (v)), some (.int (1)), some (.int (x)), some (.int (Int32.ofNat i)), some (.int (4)), none] [.int ((x ^^^ ((Int32.ofNat i) + (5 : Int32))) - a)] k2 Q
  refine Wp.seg 3 (pc1 := 186) (ls1 := [some (.ref 0), some (.int (v)), some (.int (1)), some (.int (x)), some (.int (Int32.ofNat i)), some (.int (4)), some (.int ((x ^^^ ((Int32.ofNat i) + (5 : Int32))) - a))]) (st1 := [.ref 0]) rfl ?_
  refine Wp.gr (t := (10, 0)) (v := some (55)) rfl (WF.t (f2.wf (f1.wf hw (fun z => z)) (fun z => z)) 0 rfl) rfl ((f2.2.2.2 0 15 (Or.inr ⟨by decide, by decide⟩)).trans ((f1.2.2.2 0 15 (Or.inr ⟨by decide, by decide⟩)).trans r15)) ?_
  show Wp d 161 189 [some (.ref 0), some (.int (v)), some (.int (1)), some (.int (x)), some (.int (Int32.ofNat i)), some (.int (4)), some (.int ((x ^^^ ((Int32.ofNat i) + (5 : Int32))) - a))] [.ref 55] k2 Q
  refine Wp.gi (t := (8, 0)) rfl (WF.t (f2.wf (f1.wf hw (fun z => z)) (fun z => z)) 55 rfl) (Or.inr rfl) ?_
  rw [show k2.2.2.1 55 2 = 0 from g2.2.2.2.1]
  refine Wp.if1 rfl (fun c1 => ?_) (fun c1 => absurd (show (0 : Int32) = 0 by decide) c1)
  refine Wp.seg 1 (pc1 := 202) (ls1 := [some (.ref 0), some (.int (v)), some (.int (1)), some (.int (x)), some (.int (Int32.ofNat i)), some (.int (4)), some (.int ((x ^^^ ((Int32.ofNat i) + (5 : Int32))) - a))]) (st1 := [.int ((x ^^^ ((Int32.ofNat i) + (5 : Int32))) - a)]) rfl ?_
  exact Wp.reti rfl rfl ((hQ k1 f1 g1) k2 f2 g2)
set_option maxHeartbeats 4000000 in
theorem t_ad420 {d : Nat} {Q : KO → Prop} {h : KH} (hw : WF h) {v x a : Int32} {i : Nat} (hi6 : i < 6) (r15 : h.2.1 0 15 = some 55) (ha : h.2.2.1 2 (4 * i + 3) = a) (e0 : a - Int32.ofNat i = 0) (hd : 8 ≤ d) (hQ : ∀ k1, Fr (pTh 55) noP h k1 → thO k1 55 [] false (Int32.ofNat i) a → (∀ k2, Fr (pTh 55) noP k1 k2 → thO k2 55 [40, 12] true (Int32.ofNat i) a → (Q (some (.int (-15)), k2)))) : Wp d 161 79 [some (.ref 0), some (.int (v)), some (.int (2)), some (.int (x)), some (.int (Int32.ofNat i)), some (.int (4)), none] [] h Q := by
  refine Wp.seg 1 (pc1 := 80) (ls1 := [some (.ref 0), some (.int (v)), some (.int (2)), some (.int (x)), some (.int (Int32.ofNat i)), some (.int (4)), none]) (st1 := [.ref 0]) rfl ?_
  refine Wp.gr (t := (10, 0)) (v := some (55)) rfl (WF.t hw 0 rfl) rfl r15 ?_
  show Wp d 161 83 [some (.ref 0), some (.int (v)), some (.int (2)), some (.int (x)), some (.int (Int32.ofNat i)), some (.int (4)), none] [.ref 55] h Q
  refine Wp.br rfl rfl ?_
  show Wp d 161 88 [some (.ref 0), some (.int (v)), some (.int (2)), some (.int (x)), some (.int (Int32.ofNat i)), some (.int (4)), none] [] h Q
  refine Wp.seg 1 (pc1 := 89) (ls1 := [some (.ref 0), some (.int (v)), some (.int (2)), some (.int (x)), some (.int (Int32.ofNat i)), some (.int (4)), none]) (st1 := [.ref 0]) rfl ?_
  refine Wp.gr (t := (10, 0)) (v := some (55)) rfl (WF.t hw 0 rfl) rfl r15 ?_
  show Wp d 161 92 [some (.ref 0), some (.int (v)), some (.int (2)), some (.int (x)), some (.int (Int32.ofNat i)), some (.int (4)), none] [.ref 55] h Q
  refine Wp.seg 2 (pc1 := 95) (ls1 := [some (.ref 0), some (.int (v)), some (.int (2)), some (.int (x)), some (.int (Int32.ofNat i)), some (.int (4)), none]) (st1 := [.ref 0, .int (Int32.ofNat i), .ref 55]) rfl ?_
  refine Wp.gr (t := (10, 0)) (v := some (1)) rfl (WF.t hw 0 rfl) rfl (WF.r hw 0 0 0 rfl) ?_
  show Wp d 161 98 [some (.ref 0), some (.int (v)), some (.int (2)), some (.int (x)), some (.int (Int32.ofNat i)), some (.int (4)), none] [.ref 1, .int (Int32.ofNat i), .ref 55] h Q
  refine Wp.seg 2 (pc1 := 101) (ls1 := [some (.ref 0), some (.int (v)), some (.int (2)), some (.int (x)), some (.int (Int32.ofNat i)), some (.int (4)), none]) (st1 := [.int (3), .int (Int32.ofNat i), .ref 1, .int (Int32.ofNat i), .ref 55]) rfl ?_
  refine Wp.invV (d2 := 0) (as := [.ref 1, .int (Int32.ofNat i), .int (3)]) (r := [.int (Int32.ofNat i), .ref 55]) (t := (1, 0)) rfl rfl rfl rfl (WF.t hw 1 rfl) rfl rfl ⟨rfl, rfl⟩ (by omega) (s_cget hw cA1 (w := 3) rfl (by omega) ha ?_)
  show Wp d 161 104 [some (.ref 0), some (.int (v)), some (.int (2)), some (.int (x)), some (.int (Int32.ofNat i)), some (.int (4)), none] [.int (a), .int (Int32.ofNat i), .ref 55] h Q
  refine Wp.invV (d2 := 0) (as := [.ref 55, .int (Int32.ofNat i), .int (a)]) (r := []) (t := (8, 0)) rfl rfl rfl rfl (WF.t hw 55 rfl) rfl rfl ⟨rfl, rfl⟩ (by omega) (s_sf55 hw ?_)
  intro k1 f1 g1
  show Wp d 161 107 [some (.ref 0), some (.int (v)), some (.int (2)), some (.int (x)), some (.int (Int32.ofNat i)), some (.int (4)), none] [] k1 Q
  refine Wp.seg 1 (pc1 := 108) (ls1 := [some (.ref 0), some (.int (v)), some (.int (2)), some (.int (x)), some (.int (Int32.ofNat i)), some (.int (4)), none]) (st1 := [.int (2)]) rfl ?_
  refine Wp.br (pc1 := 162) (st1 := []) rfl rfl ?_
  refine Wp.seg 1 (pc1 := 163) (ls1 := [some (.ref 0), some (.int (v)), some (.int (2)), some (.int (x)), some (.int (Int32.ofNat i)), some (.int (4)), none]) (st1 := [.ref 0]) rfl ?_
  refine Wp.gr (t := (10, 0)) (v := some (55)) rfl (WF.t (f1.wf hw (fun z => z)) 0 rfl) rfl ((f1.2.2.2 0 15 (Or.inr ⟨by decide, by decide⟩)).trans r15) ?_
  show Wp d 161 166 [some (.ref 0), some (.int (v)), some (.int (2)), some (.int (x)), some (.int (Int32.ofNat i)), some (.int (4)), none] [.ref 55] k1 Q
  refine Wp.seg 1 (pc1 := 167) (ls1 := [some (.ref 0), some (.int (v)), some (.int (2)), some (.int (x)), some (.int (Int32.ofNat i)), some (.int (4)), none]) (st1 := [.int (x), .ref 55]) rfl ?_
  refine Wp.invV (d2 := 2) (as := [.ref 55, .int (x)]) (r := []) (t := (8, 0)) rfl rfl rfl rfl (WF.t (f1.wf hw (fun z => z)) 55 rfl) rfl rfl ⟨rfl, rfl⟩ (by omega) (c73_550 (f1.wf hw (fun z => z)) g1 (by decide) e0 (Nat.le_refl _) ?_)
  intro k2 f2 g2
  show Wp d 161 170 [some (.ref 0), some (.int (v)), some (.int (2)), some (.int (x)), some (.int (Int32.ofNat i)), some (.int (4)), none] [.int ((0 : Int32) - (Int32.ofNat i))] k2 Q
  refine Wp.seg 3 (pc1 := 186) (ls1 := [some (.ref 0), some (.int (v)), some (.int (2)), some (.int (x)), some (.int (Int32.ofNat i)), some (.int (4)), some (.int ((0 : Int32) - (Int32.ofNat i)))]) (st1 := [.ref 0]) rfl ?_
  refine Wp.gr (t := (10, 0)) (v := some (55)) rfl (WF.t (f2.wf (f1.wf hw (fun z => z)) (fun z => z)) 0 rfl) rfl ((f2.2.2.2 0 15 (Or.inr ⟨by decide, by decide⟩)).trans ((f1.2.2.2 0 15 (Or.inr ⟨by decide, by decide⟩)).trans r15)) ?_
  show Wp d 161 189 [some (.ref 0), some (.int (v)), some (.int (2)), some (.int (x)), some (.int (Int32.ofNat i)), some (.int (4)), some (.int ((0 : Int32) - (Int32.ofNat i)))] [.ref 55] k2 Q
  refine Wp.gi (t := (8, 0)) rfl (WF.t (f2.wf (f1.wf hw (fun z => z)) (fun z => z)) 55 rfl) (Or.inr rfl) ?_
  rw [show k2.2.2.1 55 2 = 1 from g2.2.2.2.1]
  refine Wp.if1 rfl (fun c1 => absurd c1 (show ¬ ((1 : Int32) = 0) by decide)) (fun c1 => ?_)
  refine Wp.seg 2 (pc1 := 202) (ls1 := [some (.ref 0), some (.int (v)), some (.int (2)), some (.int (x)), some (.int (Int32.ofNat i)), some (.int (4)), some (.int ((0 : Int32) - (Int32.ofNat i)))]) (st1 := [.int (-15)]) rfl ?_
  exact Wp.reti rfl rfl ((hQ k1 f1 g1) k2 f2 g2)
set_option maxHeartbeats 4000000 in
theorem t_ad421 {d : Nat} {Q : KO → Prop} {h : KH} (hw : WF h) {v x a : Int32} {i : Nat} (hi6 : i < 6) (r15 : h.2.1 0 15 = some 55) (ha : h.2.2.1 2 (4 * i + 3) = a) (ne : ¬ a - Int32.ofNat i = 0) (hd : 8 ≤ d) (hQ : ∀ k1, Fr (pTh 55) noP h k1 → thO k1 55 [] false (Int32.ofNat i) a → (∀ k2, Fr (pTh 55) noP k1 k2 → thO k2 55 [40, 12] false (Int32.ofNat i) a → (Q (some (.int ((x - x / (a - (Int32.ofNat i)) * (a - (Int32.ofNat i))) - (Int32.ofNat i))), k2)))) : Wp d 161 79 [some (.ref 0), some (.int (v)), some (.int (2)), some (.int (x)), some (.int (Int32.ofNat i)), some (.int (4)), none] [] h Q := by
  refine Wp.seg 1 (pc1 := 80) (ls1 := [some (.ref 0), some (.int (v)), some (.int (2)), some (.int (x)), some (.int (Int32.ofNat i)), some (.int (4)), none]) (st1 := [.ref 0]) rfl ?_
  refine Wp.gr (t := (10, 0)) (v := some (55)) rfl (WF.t hw 0 rfl) rfl r15 ?_
  show Wp d 161 83 [some (.ref 0), some (.int (v)), some (.int (2)), some (.int (x)), some (.int (Int32.ofNat i)), some (.int (4)), none] [.ref 55] h Q
  refine Wp.br rfl rfl ?_
  show Wp d 161 88 [some (.ref 0), some (.int (v)), some (.int (2)), some (.int (x)), some (.int (Int32.ofNat i)), some (.int (4)), none] [] h Q
  refine Wp.seg 1 (pc1 := 89) (ls1 := [some (.ref 0), some (.int (v)), some (.int (2)), some (.int (x)), some (.int (Int32.ofNat i)), some (.int (4)), none]) (st1 := [.ref 0]) rfl ?_
  refine Wp.gr (t := (10, 0)) (v := some (55)) rfl (WF.t hw 0 rfl) rfl r15 ?_
  show Wp d 161 92 [some (.ref 0), some (.int (v)), some (.int (2)), some (.int (x)), some (.int (Int32.ofNat i)), some (.int (4)), none] [.ref 55] h Q
  refine Wp.seg 2 (pc1 := 95) (ls1 := [some (.ref 0), some (.int (v)), some (.int (2)), some (.int (x)), some (.int (Int32.ofNat i)), some (.int (4)), none]) (st1 := [.ref 0, .int (Int32.ofNat i), .ref 55]) rfl ?_
  refine Wp.gr (t := (10, 0)) (v := some (1)) rfl (WF.t hw 0 rfl) rfl (WF.r hw 0 0 0 rfl) ?_
  show Wp d 161 98 [some (.ref 0), some (.int (v)), some (.int (2)), some (.int (x)), some (.int (Int32.ofNat i)), some (.int (4)), none] [.ref 1, .int (Int32.ofNat i), .ref 55] h Q
  refine Wp.seg 2 (pc1 := 101) (ls1 := [some (.ref 0), some (.int (v)), some (.int (2)), some (.int (x)), some (.int (Int32.ofNat i)), some (.int (4)), none]) (st1 := [.int (3), .int (Int32.ofNat i), .ref 1, .int (Int32.ofNat i), .ref 55]) rfl ?_
  refine Wp.invV (d2 := 0) (as := [.ref 1, .int (Int32.ofNat i), .int (3)]) (r := [.int (Int32.ofNat i), .ref 55]) (t := (1, 0)) rfl rfl rfl rfl (WF.t hw 1 rfl) rfl rfl ⟨rfl, rfl⟩ (by omega) (s_cget hw cA1 (w := 3) rfl (by omega) ha ?_)
  show Wp d 161 104 [some (.ref 0), some (.int (v)), some (.int (2)), some (.int (x)), some (.int (Int32.ofNat i)), some (.int (4)), none] [.int (a), .int (Int32.ofNat i), .ref 55] h Q
  refine Wp.invV (d2 := 0) (as := [.ref 55, .int (Int32.ofNat i), .int (a)]) (r := []) (t := (8, 0)) rfl rfl rfl rfl (WF.t hw 55 rfl) rfl rfl ⟨rfl, rfl⟩ (by omega) (s_sf55 hw ?_)
  intro k1 f1 g1
  show Wp d 161 107 [some (.ref 0), some (.int (v)), some (.int (2)), some (.int (x)), some (.int (Int32.ofNat i)), some (.int (4)), none] [] k1 Q
  refine Wp.seg 1 (pc1 := 108) (ls1 := [some (.ref 0), some (.int (v)), some (.int (2)), some (.int (x)), some (.int (Int32.ofNat i)), some (.int (4)), none]) (st1 := [.int (2)]) rfl ?_
  refine Wp.br (pc1 := 162) (st1 := []) rfl rfl ?_
  refine Wp.seg 1 (pc1 := 163) (ls1 := [some (.ref 0), some (.int (v)), some (.int (2)), some (.int (x)), some (.int (Int32.ofNat i)), some (.int (4)), none]) (st1 := [.ref 0]) rfl ?_
  refine Wp.gr (t := (10, 0)) (v := some (55)) rfl (WF.t (f1.wf hw (fun z => z)) 0 rfl) rfl ((f1.2.2.2 0 15 (Or.inr ⟨by decide, by decide⟩)).trans r15) ?_
  show Wp d 161 166 [some (.ref 0), some (.int (v)), some (.int (2)), some (.int (x)), some (.int (Int32.ofNat i)), some (.int (4)), none] [.ref 55] k1 Q
  refine Wp.seg 1 (pc1 := 167) (ls1 := [some (.ref 0), some (.int (v)), some (.int (2)), some (.int (x)), some (.int (Int32.ofNat i)), some (.int (4)), none]) (st1 := [.int (x), .ref 55]) rfl ?_
  refine Wp.invV (d2 := 2) (as := [.ref 55, .int (x)]) (r := []) (t := (8, 0)) rfl rfl rfl rfl (WF.t (f1.wf hw (fun z => z)) 55 rfl) rfl rfl ⟨rfl, rfl⟩ (by omega) (c73_551 (f1.wf hw (fun z => z)) g1 (by decide) ne (Nat.le_refl _) ?_)
  intro k2 f2 g2
  show Wp d 161 170 [some (.ref 0), some (.int (v)), some (.int (2)), some (.int (x)), some (.int (Int32.ofNat i)), some (.int (4)), none] [.int ((x - x / (a - (Int32.ofNat i)) * (a - (Int32.ofNat i))) - (Int32.ofNat i))] k2 Q
  refine Wp.seg 3 (pc1 := 186) (ls1 := [some (.ref 0), some (.int (v)), some (.int (2)), some (.int (x)), some (.int (Int32.ofNat i)), some (.int (4)), some (.int ((x - x / (a - (Int32.ofNat i)) * (a - (Int32.ofNat i))) - (Int32.ofNat i)))]) (st1 := [.ref 0]) rfl ?_
  refine Wp.gr (t := (10, 0)) (v := some (55)) rfl (WF.t (f2.wf (f1.wf hw (fun z => z)) (fun z => z)) 0 rfl) rfl ((f2.2.2.2 0 15 (Or.inr ⟨by decide, by decide⟩)).trans ((f1.2.2.2 0 15 (Or.inr ⟨by decide, by decide⟩)).trans r15)) ?_
  show Wp d 161 189 [some (.ref 0), some (.int (v)), some (.int (2)), some (.int (x)), some (.int (Int32.ofNat i)), some (.int (4)), some (.int ((x - x / (a - (Int32.ofNat i)) * (a - (Int32.ofNat i))) - (Int32.ofNat i)))] [.ref 55] k2 Q
  refine Wp.gi (t := (8, 0)) rfl (WF.t (f2.wf (f1.wf hw (fun z => z)) (fun z => z)) 55 rfl) (Or.inr rfl) ?_
  rw [show k2.2.2.1 55 2 = 0 from g2.2.2.2.1]
  refine Wp.if1 rfl (fun c1 => ?_) (fun c1 => absurd (show (0 : Int32) = 0 by decide) c1)
  refine Wp.seg 1 (pc1 := 202) (ls1 := [some (.ref 0), some (.int (v)), some (.int (2)), some (.int (x)), some (.int (Int32.ofNat i)), some (.int (4)), some (.int ((x - x / (a - (Int32.ofNat i)) * (a - (Int32.ofNat i))) - (Int32.ofNat i)))]) (st1 := [.int ((x - x / (a - (Int32.ofNat i)) * (a - (Int32.ofNat i))) - (Int32.ofNat i))]) rfl ?_
  exact Wp.reti rfl rfl ((hQ k1 f1 g1) k2 f2 g2)
set_option maxHeartbeats 4000000 in
theorem t_ad430 {d : Nat} {Q : KO → Prop} {h : KH} (hw : WF h) {v x a : Int32} {i : Nat} (hi6 : i < 6) (r15 : h.2.1 0 15 = some 55) (ha : h.2.2.1 2 (4 * i + 3) = a) (e0 : a - Int32.ofNat i = 0) (hd : 8 ≤ d) (hQ : ∀ k1, Fr (pTh 55) noP h k1 → thO k1 55 [] false (Int32.ofNat i) a → (∀ k2, Fr (pTh 55) noP k1 k2 → thO k2 55 [13, 11, 10, 40, 12] true (Int32.ofNat i) a → (Q (some (.int (-15)), k2)))) : Wp d 161 79 [some (.ref 0), some (.int (v)), some (.int (3)), some (.int (x)), some (.int (Int32.ofNat i)), some (.int (4)), none] [] h Q := by
  refine Wp.seg 1 (pc1 := 80) (ls1 := [some (.ref 0), some (.int (v)), some (.int (3)), some (.int (x)), some (.int (Int32.ofNat i)), some (.int (4)), none]) (st1 := [.ref 0]) rfl ?_
  refine Wp.gr (t := (10, 0)) (v := some (55)) rfl (WF.t hw 0 rfl) rfl r15 ?_
  show Wp d 161 83 [some (.ref 0), some (.int (v)), some (.int (3)), some (.int (x)), some (.int (Int32.ofNat i)), some (.int (4)), none] [.ref 55] h Q
  refine Wp.br rfl rfl ?_
  show Wp d 161 88 [some (.ref 0), some (.int (v)), some (.int (3)), some (.int (x)), some (.int (Int32.ofNat i)), some (.int (4)), none] [] h Q
  refine Wp.seg 1 (pc1 := 89) (ls1 := [some (.ref 0), some (.int (v)), some (.int (3)), some (.int (x)), some (.int (Int32.ofNat i)), some (.int (4)), none]) (st1 := [.ref 0]) rfl ?_
  refine Wp.gr (t := (10, 0)) (v := some (55)) rfl (WF.t hw 0 rfl) rfl r15 ?_
  show Wp d 161 92 [some (.ref 0), some (.int (v)), some (.int (3)), some (.int (x)), some (.int (Int32.ofNat i)), some (.int (4)), none] [.ref 55] h Q
  refine Wp.seg 2 (pc1 := 95) (ls1 := [some (.ref 0), some (.int (v)), some (.int (3)), some (.int (x)), some (.int (Int32.ofNat i)), some (.int (4)), none]) (st1 := [.ref 0, .int (Int32.ofNat i), .ref 55]) rfl ?_
  refine Wp.gr (t := (10, 0)) (v := some (1)) rfl (WF.t hw 0 rfl) rfl (WF.r hw 0 0 0 rfl) ?_
  show Wp d 161 98 [some (.ref 0), some (.int (v)), some (.int (3)), some (.int (x)), some (.int (Int32.ofNat i)), some (.int (4)), none] [.ref 1, .int (Int32.ofNat i), .ref 55] h Q
  refine Wp.seg 2 (pc1 := 101) (ls1 := [some (.ref 0), some (.int (v)), some (.int (3)), some (.int (x)), some (.int (Int32.ofNat i)), some (.int (4)), none]) (st1 := [.int (3), .int (Int32.ofNat i), .ref 1, .int (Int32.ofNat i), .ref 55]) rfl ?_
  refine Wp.invV (d2 := 0) (as := [.ref 1, .int (Int32.ofNat i), .int (3)]) (r := [.int (Int32.ofNat i), .ref 55]) (t := (1, 0)) rfl rfl rfl rfl (WF.t hw 1 rfl) rfl rfl ⟨rfl, rfl⟩ (by omega) (s_cget hw cA1 (w := 3) rfl (by omega) ha ?_)
  show Wp d 161 104 [some (.ref 0), some (.int (v)), some (.int (3)), some (.int (x)), some (.int (Int32.ofNat i)), some (.int (4)), none] [.int (a), .int (Int32.ofNat i), .ref 55] h Q
  refine Wp.invV (d2 := 0) (as := [.ref 55, .int (Int32.ofNat i), .int (a)]) (r := []) (t := (8, 0)) rfl rfl rfl rfl (WF.t hw 55 rfl) rfl rfl ⟨rfl, rfl⟩ (by omega) (s_sf55 hw ?_)
  intro k1 f1 g1
  show Wp d 161 107 [some (.ref 0), some (.int (v)), some (.int (3)), some (.int (x)), some (.int (Int32.ofNat i)), some (.int (4)), none] [] k1 Q
  refine Wp.seg 1 (pc1 := 108) (ls1 := [some (.ref 0), some (.int (v)), some (.int (3)), some (.int (x)), some (.int (Int32.ofNat i)), some (.int (4)), none]) (st1 := [.int (3)]) rfl ?_
  refine Wp.br (pc1 := 175) (st1 := []) rfl rfl ?_
  refine Wp.seg 1 (pc1 := 176) (ls1 := [some (.ref 0), some (.int (v)), some (.int (3)), some (.int (x)), some (.int (Int32.ofNat i)), some (.int (4)), none]) (st1 := [.ref 0]) rfl ?_
  refine Wp.gr (t := (10, 0)) (v := some (55)) rfl (WF.t (f1.wf hw (fun z => z)) 0 rfl) rfl ((f1.2.2.2 0 15 (Or.inr ⟨by decide, by decide⟩)).trans r15) ?_
  show Wp d 161 179 [some (.ref 0), some (.int (v)), some (.int (3)), some (.int (x)), some (.int (Int32.ofNat i)), some (.int (4)), none] [.ref 55] k1 Q
  refine Wp.seg 1 (pc1 := 180) (ls1 := [some (.ref 0), some (.int (v)), some (.int (3)), some (.int (x)), some (.int (Int32.ofNat i)), some (.int (4)), none]) (st1 := [.int (x), .ref 55]) rfl ?_
  refine Wp.invV (d2 := 3) (as := [.ref 55, .int (x)]) (r := []) (t := (8, 0)) rfl rfl rfl rfl (WF.t (f1.wf hw (fun z => z)) 55 rfl) rfl rfl ⟨rfl, rfl⟩ (by omega) (c86_550 (f1.wf hw (fun z => z)) g1 (by decide) e0 (Nat.le_refl _) ?_)
  intro k2 f2 g2
  show Wp d 161 183 [some (.ref 0), some (.int (v)), some (.int (3)), some (.int (x)), some (.int (Int32.ofNat i)), some (.int (4)), none] [.int ((((x ^^^ ((Int32.ofNat i) + (5 : Int32))) - a) * (2 : Int32)) + ((0 : Int32) - (Int32.ofNat i)))] k2 Q
  refine Wp.seg 2 (pc1 := 186) (ls1 := [some (.ref 0), some (.int (v)), some (.int (3)), some (.int (x)), some (.int (Int32.ofNat i)), some (.int (4)), some (.int ((((x ^^^ ((Int32.ofNat i) + (5 : Int32))) - a) * (2 : Int32)) + ((0 : Int32) - (Int32.ofNat i))))]) (st1 := [.ref 0]) rfl ?_
  refine Wp.gr (t := (10, 0)) (v := some (55)) rfl (WF.t (f2.wf (f1.wf hw (fun z => z)) (fun z => z)) 0 rfl) rfl ((f2.2.2.2 0 15 (Or.inr ⟨by decide, by decide⟩)).trans ((f1.2.2.2 0 15 (Or.inr ⟨by decide, by decide⟩)).trans r15)) ?_
  show Wp d 161 189 [some (.ref 0), some (.int (v)), some (.int (3)), some (.int (x)), some (.int (Int32.ofNat i)), some (.int (4)), some (.int ((((x ^^^ ((Int32.ofNat i) + (5 : Int32))) - a) * (2 : Int32)) + ((0 : Int32) - (Int32.ofNat i))))] [.ref 55] k2 Q
  refine Wp.gi (t := (8, 0)) rfl (WF.t (f2.wf (f1.wf hw (fun z => z)) (fun z => z)) 55 rfl) (Or.inr rfl) ?_
  rw [show k2.2.2.1 55 2 = 1 from g2.2.2.2.1]
  refine Wp.if1 rfl (fun c1 => absurd c1 (show ¬ ((1 : Int32) = 0) by decide)) (fun c1 => ?_)
  refine Wp.seg 2 (pc1 := 202) (ls1 := [some (.ref 0), some (.int (v)), some (.int (3)), some (.int (x)), some (.int (Int32.ofNat i)), some (.int (4)), some (.int ((((x ^^^ ((Int32.ofNat i) + (5 : Int32))) - a) * (2 : Int32)) + ((0 : Int32) - (Int32.ofNat i))))]) (st1 := [.int (-15)]) rfl ?_
  exact Wp.reti rfl rfl ((hQ k1 f1 g1) k2 f2 g2)
set_option maxHeartbeats 4000000 in
theorem t_ad431 {d : Nat} {Q : KO → Prop} {h : KH} (hw : WF h) {v x a : Int32} {i : Nat} (hi6 : i < 6) (r15 : h.2.1 0 15 = some 55) (ha : h.2.2.1 2 (4 * i + 3) = a) (ne : ¬ a - Int32.ofNat i = 0) (hd : 8 ≤ d) (hQ : ∀ k1, Fr (pTh 55) noP h k1 → thO k1 55 [] false (Int32.ofNat i) a → (∀ k2, Fr (pTh 55) noP k1 k2 → thO k2 55 [13, 11, 10, 40, 12] false (Int32.ofNat i) a → (Q (some (.int ((((x ^^^ ((Int32.ofNat i) + (5 : Int32))) - a) * (2 : Int32)) + ((x - x / (a - (Int32.ofNat i)) * (a - (Int32.ofNat i))) - (Int32.ofNat i)))), k2)))) : Wp d 161 79 [some (.ref 0), some (.int (v)), some (.int (3)), some (.int (x)), some (.int (Int32.ofNat i)), some (.int (4)), none] [] h Q := by
  refine Wp.seg 1 (pc1 := 80) (ls1 := [some (.ref 0), some (.int (v)), some (.int (3)), some (.int (x)), some (.int (Int32.ofNat i)), some (.int (4)), none]) (st1 := [.ref 0]) rfl ?_
  refine Wp.gr (t := (10, 0)) (v := some (55)) rfl (WF.t hw 0 rfl) rfl r15 ?_
  show Wp d 161 83 [some (.ref 0), some (.int (v)), some (.int (3)), some (.int (x)), some (.int (Int32.ofNat i)), some (.int (4)), none] [.ref 55] h Q
  refine Wp.br rfl rfl ?_
  show Wp d 161 88 [some (.ref 0), some (.int (v)), some (.int (3)), some (.int (x)), some (.int (Int32.ofNat i)), some (.int (4)), none] [] h Q
  refine Wp.seg 1 (pc1 := 89) (ls1 := [some (.ref 0), some (.int (v)), some (.int (3)), some (.int (x)), some (.int (Int32.ofNat i)), some (.int (4)), none]) (st1 := [.ref 0]) rfl ?_
  refine Wp.gr (t := (10, 0)) (v := some (55)) rfl (WF.t hw 0 rfl) rfl r15 ?_
  show Wp d 161 92 [some (.ref 0), some (.int (v)), some (.int (3)), some (.int (x)), some (.int (Int32.ofNat i)), some (.int (4)), none] [.ref 55] h Q
  refine Wp.seg 2 (pc1 := 95) (ls1 := [some (.ref 0), some (.int (v)), some (.int (3)), some (.int (x)), some (.int (Int32.ofNat i)), some (.int (4)), none]) (st1 := [.ref 0, .int (Int32.ofNat i), .ref 55]) rfl ?_
  refine Wp.gr (t := (10, 0)) (v := some (1)) rfl (WF.t hw 0 rfl) rfl (WF.r hw 0 0 0 rfl) ?_
  show Wp d 161 98 [some (.ref 0), some (.int (v)), some (.int (3)), some (.int (x)), some (.int (Int32.ofNat i)), some (.int (4)), none] [.ref 1, .int (Int32.ofNat i), .ref 55] h Q
  refine Wp.seg 2 (pc1 := 101) (ls1 := [some (.ref 0), some (.int (v)), some (.int (3)), some (.int (x)), some (.int (Int32.ofNat i)), some (.int (4)), none]) (st1 := [.int (3), .int (Int32.ofNat i), .ref 1, .int (Int32.ofNat i), .ref 55]) rfl ?_
  refine Wp.invV (d2 := 0) (as := [.ref 1, .int (Int32.ofNat i), .int (3)]) (r := [.int (Int32.ofNat i), .ref 55]) (t := (1, 0)) rfl rfl rfl rfl (WF.t hw 1 rfl) rfl rfl ⟨rfl, rfl⟩ (by omega) (s_cget hw cA1 (w := 3) rfl (by omega) ha ?_)
  show Wp d 161 104 [some (.ref 0), some (.int (v)), some (.int (3)), some (.int (x)), some (.int (Int32.ofNat i)), some (.int (4)), none] [.int (a), .int (Int32.ofNat i), .ref 55] h Q
  refine Wp.invV (d2 := 0) (as := [.ref 55, .int (Int32.ofNat i), .int (a)]) (r := []) (t := (8, 0)) rfl rfl rfl rfl (WF.t hw 55 rfl) rfl rfl ⟨rfl, rfl⟩ (by omega) (s_sf55 hw ?_)
  intro k1 f1 g1
  show Wp d 161 107 [some (.ref 0), some (.int (v)), some (.int (3)), some (.int (x)), some (.int (Int32.ofNat i)), some (.int (4)), none] [] k1 Q
  refine Wp.seg 1 (pc1 := 108) (ls1 := [some (.ref 0), some (.int (v)), some (.int (3)), some (.int (x)), some (.int (Int32.ofNat i)), some (.int (4)), none]) (st1 := [.int (3)]) rfl ?_
  refine Wp.br (pc1 := 175) (st1 := []) rfl rfl ?_
  refine Wp.seg 1 (pc1 := 176) (ls1 := [some (.ref 0), some (.int (v)), some (.int (3)), some (.int (x)), some (.int (Int32.ofNat i)), some (.int (4)), none]) (st1 := [.ref 0]) rfl ?_
  refine Wp.gr (t := (10, 0)) (v := some (55)) rfl (WF.t (f1.wf hw (fun z => z)) 0 rfl) rfl ((f1.2.2.2 0 15 (Or.inr ⟨by decide, by decide⟩)).trans r15) ?_
  show Wp d 161 179 [some (.ref 0), some (.int (v)), some (.int (3)), some (.int (x)), some (.int (Int32.ofNat i)), some (.int (4)), none] [.ref 55] k1 Q
  refine Wp.seg 1 (pc1 := 180) (ls1 := [some (.ref 0), some (.int (v)), some (.int (3)), some (.int (x)), some (.int (Int32.ofNat i)), some (.int (4)), none]) (st1 := [.int (x), .ref 55]) rfl ?_
  refine Wp.invV (d2 := 3) (as := [.ref 55, .int (x)]) (r := []) (t := (8, 0)) rfl rfl rfl rfl (WF.t (f1.wf hw (fun z => z)) 55 rfl) rfl rfl ⟨rfl, rfl⟩ (by omega) (c86_551 (f1.wf hw (fun z => z)) g1 (by decide) ne (Nat.le_refl _) ?_)
  intro k2 f2 g2
  show Wp d 161 183 [some (.ref 0), some (.int (v)), some (.int (3)), some (.int (x)), some (.int (Int32.ofNat i)), some (.int (4)), none] [.int ((((x ^^^ ((Int32.ofNat i) + (5 : Int32))) - a) * (2 : Int32)) + ((x - x / (a - (Int32.ofNat i)) * (a - (Int32.ofNat i))) - (Int32.ofNat i)))] k2 Q
  refine Wp.seg 2 (pc1 := 186) (ls1 := [some (.ref 0), some (.int (v)), some (.int (3)), some (.int (x)), some (.int (Int32.ofNat i)), some (.int (4)), some (.int ((((x ^^^ ((Int32.ofNat i) + (5 : Int32))) - a) * (2 : Int32)) + ((x - x / (a - (Int32.ofNat i)) * (a - (Int32.ofNat i))) - (Int32.ofNat i))))]) (st1 := [.ref 0]) rfl ?_
  refine Wp.gr (t := (10, 0)) (v := some (55)) rfl (WF.t (f2.wf (f1.wf hw (fun z => z)) (fun z => z)) 0 rfl) rfl ((f2.2.2.2 0 15 (Or.inr ⟨by decide, by decide⟩)).trans ((f1.2.2.2 0 15 (Or.inr ⟨by decide, by decide⟩)).trans r15)) ?_
  show Wp d 161 189 [some (.ref 0), some (.int (v)), some (.int (3)), some (.int (x)), some (.int (Int32.ofNat i)), some (.int (4)), some (.int ((((x ^^^ ((Int32.ofNat i) + (5 : Int32))) - a) * (2 : Int32)) + ((x - x / (a - (Int32.ofNat i)) * (a - (Int32.ofNat i))) - (Int32.ofNat i))))] [.ref 55] k2 Q
  refine Wp.gi (t := (8, 0)) rfl (WF.t (f2.wf (f1.wf hw (fun z => z)) (fun z => z)) 55 rfl) (Or.inr rfl) ?_
  rw [show k2.2.2.1 55 2 = 0 from g2.2.2.2.1]
  refine Wp.if1 rfl (fun c1 => ?_) (fun c1 => absurd (show (0 : Int32) = 0 by decide) c1)
  refine Wp.seg 1 (pc1 := 202) (ls1 := [some (.ref 0), some (.int (v)), some (.int (3)), some (.int (x)), some (.int (Int32.ofNat i)), some (.int (4)), some (.int ((((x ^^^ ((Int32.ofNat i) + (5 : Int32))) - a) * (2 : Int32)) + ((x - x / (a - (Int32.ofNat i)) * (a - (Int32.ofNat i))) - (Int32.ofNat i))))]) (st1 := [.int ((((x ^^^ ((Int32.ofNat i) + (5 : Int32))) - a) * (2 : Int32)) + ((x - x / (a - (Int32.ofNat i)) * (a - (Int32.ofNat i))) - (Int32.ofNat i)))]) rfl ?_
  exact Wp.reti rfl rfl ((hQ k1 f1 g1) k2 f2 g2)
set_option maxHeartbeats 4000000 in
theorem t_ad50 {d : Nat} {Q : KO → Prop} {h : KH} (hw : WF h) {v x a : Int32} {i : Nat} (hi6 : i < 6) (r15 : h.2.1 0 15 = some 57) (ha : h.2.2.1 2 (4 * i + 3) = a) (hd : 8 ≤ d) (hQ : ∀ k1, Fr (pTh 57) noP h k1 → thO k1 57 [] false (Int32.ofNat i) a → (∀ k2, Fr (pTh 57) noP k1 k2 → thO k2 57 [10] false (Int32.ofNat i) a → (Q (some (.int (x ^^^ ((Int32.ofNat i) + (5 : Int32)))), k2)))) : Wp d 161 79 [some (.ref 0), some (.int (v)), some (.int (0)), some (.int (x)), some (.int (Int32.ofNat i)), some (.int (5)), none] [] h Q := by
  refine Wp.seg 1 (pc1 := 80) (ls1 := [some (.ref 0), some (.int (v)), some (.int (0)), some (.int (x)), some (.int (Int32.ofNat i)), some (.int (5)), none]) (st1 := [.ref 0]) rfl ?_
  refine Wp.gr (t := (10, 0)) (v := some (57)) rfl (WF.t hw 0 rfl) rfl r15 ?_
  show Wp d 161 83 [some (.ref 0), some (.int (v)), some (.int (0)), some (.int (x)), some (.int (Int32.ofNat i)), some (.int (5)), none] [.ref 57] h Q
  refine Wp.br rfl rfl ?_
  show Wp d 161 88 [some (.ref 0), some (.int (v)), some (.int (0)), some (.int (x)), some (.int (Int32.ofNat i)), some (.int (5)), none] [] h Q
  refine Wp.seg 1 (pc1 := 89) (ls1 := [some (.ref 0), some (.int (v)), some (.int (0)), some (.int (x)), some (.int (Int32.ofNat i)), some (.int (5)), none]) (st1 := [.ref 0]) rfl ?_
  refine Wp.gr (t := (10, 0)) (v := some (57)) rfl (WF.t hw 0 rfl) rfl r15 ?_
  show Wp d 161 92 [some (.ref 0), some (.int (v)), some (.int (0)), some (.int (x)), some (.int (Int32.ofNat i)), some (.int (5)), none] [.ref 57] h Q
  refine Wp.seg 2 (pc1 := 95) (ls1 := [some (.ref 0), some (.int (v)), some (.int (0)), some (.int (x)), some (.int (Int32.ofNat i)), some (.int (5)), none]) (st1 := [.ref 0, .int (Int32.ofNat i), .ref 57]) rfl ?_
  refine Wp.gr (t := (10, 0)) (v := some (1)) rfl (WF.t hw 0 rfl) rfl (WF.r hw 0 0 0 rfl) ?_
  show Wp d 161 98 [some (.ref 0), some (.int (v)), some (.int (0)), some (.int (x)), some (.int (Int32.ofNat i)), some (.int (5)), none] [.ref 1, .int (Int32.ofNat i), .ref 57] h Q
  refine Wp.seg 2 (pc1 := 101) (ls1 := [some (.ref 0), some (.int (v)), some (.int (0)), some (.int (x)), some (.int (Int32.ofNat i)), some (.int (5)), none]) (st1 := [.int (3), .int (Int32.ofNat i), .ref 1, .int (Int32.ofNat i), .ref 57]) rfl ?_
  refine Wp.invV (d2 := 0) (as := [.ref 1, .int (Int32.ofNat i), .int (3)]) (r := [.int (Int32.ofNat i), .ref 57]) (t := (1, 0)) rfl rfl rfl rfl (WF.t hw 1 rfl) rfl rfl ⟨rfl, rfl⟩ (by omega) (s_cget hw cA1 (w := 3) rfl (by omega) ha ?_)
  show Wp d 161 104 [some (.ref 0), some (.int (v)), some (.int (0)), some (.int (x)), some (.int (Int32.ofNat i)), some (.int (5)), none] [.int (a), .int (Int32.ofNat i), .ref 57] h Q
  refine Wp.invV (d2 := 0) (as := [.ref 57, .int (Int32.ofNat i), .int (a)]) (r := []) (t := (2, 0)) rfl rfl rfl rfl (WF.t hw 57 rfl) rfl rfl ⟨rfl, rfl⟩ (by omega) (s_sf57 hw ?_)
  intro k1 f1 g1
  show Wp d 161 107 [some (.ref 0), some (.int (v)), some (.int (0)), some (.int (x)), some (.int (Int32.ofNat i)), some (.int (5)), none] [] k1 Q
  refine Wp.seg 1 (pc1 := 108) (ls1 := [some (.ref 0), some (.int (v)), some (.int (0)), some (.int (x)), some (.int (Int32.ofNat i)), some (.int (5)), none]) (st1 := [.int (0)]) rfl ?_
  refine Wp.br (pc1 := 136) (st1 := []) rfl rfl ?_
  refine Wp.seg 1 (pc1 := 137) (ls1 := [some (.ref 0), some (.int (v)), some (.int (0)), some (.int (x)), some (.int (Int32.ofNat i)), some (.int (5)), none]) (st1 := [.ref 0]) rfl ?_
  refine Wp.gr (t := (10, 0)) (v := some (57)) rfl (WF.t (f1.wf hw (fun z => z)) 0 rfl) rfl ((f1.2.2.2 0 15 (Or.inr ⟨by decide, by decide⟩)).trans r15) ?_
  show Wp d 161 140 [some (.ref 0), some (.int (v)), some (.int (0)), some (.int (x)), some (.int (Int32.ofNat i)), some (.int (5)), none] [.ref 57] k1 Q
  refine Wp.seg 1 (pc1 := 141) (ls1 := [some (.ref 0), some (.int (v)), some (.int (0)), some (.int (x)), some (.int (Int32.ofNat i)), some (.int (5)), none]) (st1 := [.int (x), .ref 57]) rfl ?_
  refine Wp.invV (d2 := 1) (as := [.ref 57, .int (x)]) (r := []) (t := (2, 0)) rfl rfl rfl rfl (WF.t (f1.wf hw (fun z => z)) 57 rfl) rfl rfl ⟨rfl, rfl⟩ (by omega) (c83_57 (f1.wf hw (fun z => z)) g1 (by decide) (Nat.le_refl _) ?_)
  intro k2 f2 g2
  show Wp d 161 144 [some (.ref 0), some (.int (v)), some (.int (0)), some (.int (x)), some (.int (Int32.ofNat i)), some (.int (5)), none] [.int (x ^^^ ((Int32.ofNat i) + (5 : Int32)))] k2 Q
  refine Wp.seg 3 (pc1 := 186) (ls1 := [some (.ref 0), some (.int (v)), some (.int (0)), some (.int (x)), some (.int (Int32.ofNat i)), some (.int (5)), some (.int (x ^^^ ((Int32.ofNat i) + (5 : Int32))))]) (st1 := [.ref 0]) rfl ?_
  refine Wp.gr (t := (10, 0)) (v := some (57)) rfl (WF.t (f2.wf (f1.wf hw (fun z => z)) (fun z => z)) 0 rfl) rfl ((f2.2.2.2 0 15 (Or.inr ⟨by decide, by decide⟩)).trans ((f1.2.2.2 0 15 (Or.inr ⟨by decide, by decide⟩)).trans r15)) ?_
  show Wp d 161 189 [some (.ref 0), some (.int (v)), some (.int (0)), some (.int (x)), some (.int (Int32.ofNat i)), some (.int (5)), some (.int (x ^^^ ((Int32.ofNat i) + (5 : Int32))))] [.ref 57] k2 Q
  refine Wp.gi (t := (2, 0)) rfl (WF.t (f2.wf (f1.wf hw (fun z => z)) (fun z => z)) 57 rfl) (Or.inr rfl) ?_
  rw [show k2.2.2.1 57 2 = 0 from g2.2.2.2.1]
  refine Wp.if1 rfl (fun c1 => ?_) (fun c1 => absurd (show (0 : Int32) = 0 by decide) c1)
  refine Wp.seg 1 (pc1 := 202) (ls1 := [some (.ref 0), some (.int (v)), some (.int (0)), some (.int (x)), some (.int (Int32.ofNat i)), some (.int (5)), some (.int (x ^^^ ((Int32.ofNat i) + (5 : Int32))))]) (st1 := [.int (x ^^^ ((Int32.ofNat i) + (5 : Int32)))]) rfl ?_
  exact Wp.reti rfl rfl ((hQ k1 f1 g1) k2 f2 g2)
set_option maxHeartbeats 4000000 in
theorem t_ad51 {d : Nat} {Q : KO → Prop} {h : KH} (hw : WF h) {v x a : Int32} {i : Nat} (hi6 : i < 6) (r15 : h.2.1 0 15 = some 57) (ha : h.2.2.1 2 (4 * i + 3) = a) (hd : 8 ≤ d) (hQ : ∀ k1, Fr (pTh 57) noP h k1 → thO k1 57 [] false (Int32.ofNat i) a → (∀ k2, Fr (pTh 57) noP k1 k2 → thO k2 57 [60, 11, 10] false (Int32.ofNat i) a → (Q (some (.int (((x ^^^ ((Int32.ofNat i) + (5 : Int32))) - a) * (3 : Int32))), k2)))) : Wp d 161 79 [some (.ref 0), some (.int (v)), some (.int (1)), some (.int (x)), some (.int (Int32.ofNat i)), some (.int (5)), none] [] h Q := by
  refine Wp.seg 1 (pc1 := 80) (ls1 := [some (.ref 0), some (.int (v)), some (.int (1)), some (.int (x)), some (.int (Int32.ofNat i)), some (.int (5)), none]) (st1 := [.ref 0]) rfl ?_
  refine Wp.gr (t := (10, 0)) (v := some (57)) rfl (WF.t hw 0 rfl) rfl r15 ?_
  show Wp d 161 83 [some (.ref 0), some (.int (v)), some (.int (1)), some (.int (x)), some (.int (Int32.ofNat i)), some (.int (5)), none] [.ref 57] h Q
  refine Wp.br rfl rfl ?_
  show Wp d 161 88 [some (.ref 0), some (.int (v)), some (.int (1)), some (.int (x)), some (.int (Int32.ofNat i)), some (.int (5)), none] [] h Q
  refine Wp.seg 1 (pc1 := 89) (ls1 := [some (.ref 0), some (.int (v)), some (.int (1)), some (.int (x)), some (.int (Int32.ofNat i)), some (.int (5)), none]) (st1 := [.ref 0]) rfl ?_
  refine Wp.gr (t := (10, 0)) (v := some (57)) rfl (WF.t hw 0 rfl) rfl r15 ?_
  show Wp d 161 92 [some (.ref 0), some (.int (v)), some (.int (1)), some (.int (x)), some (.int (Int32.ofNat i)), some (.int (5)), none] [.ref 57] h Q
  refine Wp.seg 2 (pc1 := 95) (ls1 := [some (.ref 0), some (.int (v)), some (.int (1)), some (.int (x)), some (.int (Int32.ofNat i)), some (.int (5)), none]) (st1 := [.ref 0, .int (Int32.ofNat i), .ref 57]) rfl ?_
  refine Wp.gr (t := (10, 0)) (v := some (1)) rfl (WF.t hw 0 rfl) rfl (WF.r hw 0 0 0 rfl) ?_
  show Wp d 161 98 [some (.ref 0), some (.int (v)), some (.int (1)), some (.int (x)), some (.int (Int32.ofNat i)), some (.int (5)), none] [.ref 1, .int (Int32.ofNat i), .ref 57] h Q
  refine Wp.seg 2 (pc1 := 101) (ls1 := [some (.ref 0), some (.int (v)), some (.int (1)), some (.int (x)), some (.int (Int32.ofNat i)), some (.int (5)), none]) (st1 := [.int (3), .int (Int32.ofNat i), .ref 1, .int (Int32.ofNat i), .ref 57]) rfl ?_
  refine Wp.invV (d2 := 0) (as := [.ref 1, .int (Int32.ofNat i), .int (3)]) (r := [.int (Int32.ofNat i), .ref 57]) (t := (1, 0)) rfl rfl rfl rfl (WF.t hw 1 rfl) rfl rfl ⟨rfl, rfl⟩ (by omega) (s_cget hw cA1 (w := 3) rfl (by omega) ha ?_)
  show Wp d 161 104 [some (.ref 0), some (.int (v)), some (.int (1)), some (.int (x)), some (.int (Int32.ofNat i)), some (.int (5)), none] [.int (a), .int (Int32.ofNat i), .ref 57] h Q
  refine Wp.invV (d2 := 0) (as := [.ref 57, .int (Int32.ofNat i), .int (a)]) (r := []) (t := (2, 0)) rfl rfl rfl rfl (WF.t hw 57 rfl) rfl rfl ⟨rfl, rfl⟩ (by omega) (s_sf57 hw ?_)
  intro k1 f1 g1
  show Wp d 161 107 [some (.ref 0), some (.int (v)), some (.int (1)), some (.int (x)), some (.int (Int32.ofNat i)), some (.int (5)), none] [] k1 Q
  refine Wp.seg 1 (pc1 := 108) (ls1 := [some (.ref 0), some (.int (v)), some (.int (1)), some (.int (x)), some (.int (Int32.ofNat i)), some (.int (5)), none]) (st1 := [.int (1)]) rfl ?_
  refine Wp.br (pc1 := 149) (st1 := []) rfl rfl ?_
  refine Wp.seg 1 (pc1 := 150) (ls1 := [some (.ref 0), some (.int (v)), some (.int (1)), some (.int (x)), some (.int (Int32.ofNat i)), some (.int (5)), none]) (st1 := [.ref 0]) rfl ?_
  refine Wp.gr (t := (10, 0)) (v := some (57)) rfl (WF.t (f1.wf hw (fun z => z)) 0 rfl) rfl ((f1.2.2.2 0 15 (Or.inr ⟨by decide, by decide⟩)).trans r15) ?_
  show Wp d 161 153 [some (.ref 0), some (.int (v)), some (.int (1)), some (.int (x)), some (.int (Int32.ofNat i)), some (.int (5)), none] [.ref 57] k1 Q
  refine Wp.seg 1 (pc1 := 154) (ls1 := [some (.ref 0), some (.int (v)), some (.int (1)), some (.int (x)), some (.int (Int32.ofNat i)), some (.int (5)), none]) (st1 := [.int (x), .ref 57]) rfl ?_
  refine Wp.invV (d2 := 3) (as := [.ref 57, .int (x)]) (r := []) (t := (2, 0)) rfl rfl rfl rfl (WF.t (f1.wf hw (fun z => z)) 57 rfl) rfl rfl ⟨rfl, rfl⟩ (by omega) (c37_57 (f1.wf hw (fun z => z)) g1 (by decide) (Nat.le_refl _) ?_)
  intro k2 f2 g2
  show Wp d 161 157 [some (.ref 0), some (.int (v)), some (.int (1)), some (.int (x)), some (.int (Int32.ofNat i)), some (.int (5)), none] [.int (((x ^^^ ((Int32.ofNat i) + (5 : Int32))) - a) * (3 : Int32))] k2 Q
  refine Wp.seg 3 (pc1 := 186) (ls1 := [some (.ref 0), some (.int (v)), some (.int (1)), some (.int (x)), some (.int (Int32.ofNat i)), some (.int (5)), some (.int (((x ^^^ ((Int32.ofNat i) + (5 : Int32))) - a) * (3 : Int32)))]) (st1 := [.ref 0]) rfl ?_
  refine Wp.gr (t := (10, 0)) (v := some (57)) rfl (WF.t (f2.wf (f1.wf hw (fun z => z)) (fun z => z)) 0 rfl) rfl ((f2.2.2.2 0 15 (Or.inr ⟨by decide, by decide⟩)).trans ((f1.2.2.2 0 15 (Or.inr ⟨by decide, by decide⟩)).trans r15)) ?_
  show Wp d 161 189 [some (.ref 0), some (.int (v)), some (.int (1)), some (.int (x)), some (.int (Int32.ofNat i)), some (.int (5)), some (.int (((x ^^^ ((Int32.ofNat i) + (5 : Int32))) - a) * (3 : Int32)))] [.ref 57] k2 Q
  refine Wp.gi (t := (2, 0)) rfl (WF.t (f2.wf (f1.wf hw (fun z => z)) (fun z => z)) 57 rfl) (Or.inr rfl) ?_
  rw [show k2.2.2.1 57 2 = 0 from g2.2.2.2.1]
  refine Wp.if1 rfl (fun c1 => ?_) (fun c1 => absurd (show (0 : Int32) = 0 by decide) c1)
  refine Wp.seg 1 (pc1 := 202) (ls1 := [some (.ref 0), some (.int (v)), some (.int (1)), some (.int (x)), some (.int (Int32.ofNat i)), some (.int (5)), some (.int (((x ^^^ ((Int32.ofNat i) + (5 : Int32))) - a) * (3 : Int32)))]) (st1 := [.int (((x ^^^ ((Int32.ofNat i) + (5 : Int32))) - a) * (3 : Int32))]) rfl ?_
  exact Wp.reti rfl rfl ((hQ k1 f1 g1) k2 f2 g2)
set_option maxHeartbeats 4000000 in
theorem t_ad520 {d : Nat} {Q : KO → Prop} {h : KH} (hw : WF h) {v x a : Int32} {i : Nat} (hi6 : i < 6) (r15 : h.2.1 0 15 = some 57) (ha : h.2.2.1 2 (4 * i + 3) = a) (e0 : a - Int32.ofNat i = 0) (hd : 8 ≤ d) (hQ : ∀ k1, Fr (pTh 57) noP h k1 → thO k1 57 [] false (Int32.ofNat i) a → (∀ k2, Fr (pTh 57) noP k1 k2 → thO k2 57 [61, 40, 12] true (Int32.ofNat i) a → (Q (some (.int (-15)), k2)))) : Wp d 161 79 [some (.ref 0), some (.int (v)), some (.int (2)), some (.int (x)), some (.int (Int32.ofNat i)), some (.int (5)), none] [] h Q := by
  refine Wp.seg 1 (pc1 := 80) (ls1 := [some (.ref 0), some (.int (v)), some (.int (2)), some (.int (x)), some (.int (Int32.ofNat i)), some (.int (5)), none]) (st1 := [.ref 0]) rfl ?_
  refine Wp.gr (t := (10, 0)) (v := some (57)) rfl (WF.t hw 0 rfl) rfl r15 ?_
  show Wp d 161 83 [some (.ref 0), some (.int (v)), some (.int (2)), some (.int (x)), some (.int (Int32.ofNat i)), some (.int (5)), none] [.ref 57] h Q
  refine Wp.br rfl rfl ?_
  show Wp d 161 88 [some (.ref 0), some (.int (v)), some (.int (2)), some (.int (x)), some (.int (Int32.ofNat i)), some (.int (5)), none] [] h Q
  refine Wp.seg 1 (pc1 := 89) (ls1 := [some (.ref 0), some (.int (v)), some (.int (2)), some (.int (x)), some (.int (Int32.ofNat i)), some (.int (5)), none]) (st1 := [.ref 0]) rfl ?_
  refine Wp.gr (t := (10, 0)) (v := some (57)) rfl (WF.t hw 0 rfl) rfl r15 ?_
  show Wp d 161 92 [some (.ref 0), some (.int (v)), some (.int (2)), some (.int (x)), some (.int (Int32.ofNat i)), some (.int (5)), none] [.ref 57] h Q
  refine Wp.seg 2 (pc1 := 95) (ls1 := [some (.ref 0), some (.int (v)), some (.int (2)), some (.int (x)), some (.int (Int32.ofNat i)), some (.int (5)), none]) (st1 := [.ref 0, .int (Int32.ofNat i), .ref 57]) rfl ?_
  refine Wp.gr (t := (10, 0)) (v := some (1)) rfl (WF.t hw 0 rfl) rfl (WF.r hw 0 0 0 rfl) ?_
  show Wp d 161 98 [some (.ref 0), some (.int (v)), some (.int (2)), some (.int (x)), some (.int (Int32.ofNat i)), some (.int (5)), none] [.ref 1, .int (Int32.ofNat i), .ref 57] h Q
  refine Wp.seg 2 (pc1 := 101) (ls1 := [some (.ref 0), some (.int (v)), some (.int (2)), some (.int (x)), some (.int (Int32.ofNat i)), some (.int (5)), none]) (st1 := [.int (3), .int (Int32.ofNat i), .ref 1, .int (Int32.ofNat i), .ref 57]) rfl ?_
  refine Wp.invV (d2 := 0) (as := [.ref 1, .int (Int32.ofNat i), .int (3)]) (r := [.int (Int32.ofNat i), .ref 57]) (t := (1, 0)) rfl rfl rfl rfl (WF.t hw 1 rfl) rfl rfl ⟨rfl, rfl⟩ (by omega) (s_cget hw cA1 (w := 3) rfl (by omega) ha ?_)
  show Wp d 161 104 [some (.ref 0), some (.int (v)), some (.int (2)), some (.int (x)), some (.int (Int32.ofNat i)), some (.int (5)), none] [.int (a), .int (Int32.ofNat i), .ref 57] h Q
  refine Wp.invV (d2 := 0) (as := [.ref 57, .int (Int32.ofNat i), .int (a)]) (r := []) (t := (2, 0)) rfl rfl rfl rfl (WF.t hw 57 rfl) rfl rfl ⟨rfl, rfl⟩ (by omega) (s_sf57 hw ?_)
  intro k1 f1 g1
  show Wp d 161 107 [some (.ref 0), some (.int (v)), some (.int (2)), some (.int (x)), some (.int (Int32.ofNat i)), some (.int (5)), none] [] k1 Q
  refine Wp.seg 1 (pc1 := 108) (ls1 := [some (.ref 0), some (.int (v)), some (.int (2)), some (.int (x)), some (.int (Int32.ofNat i)), some (.int (5)), none]) (st1 := [.int (2)]) rfl ?_
  refine Wp.br (pc1 := 162) (st1 := []) rfl rfl ?_
  refine Wp.seg 1 (pc1 := 163) (ls1 := [some (.ref 0), some (.int (v)), some (.int (2)), some (.int (x)), some (.int (Int32.ofNat i)), some (.int (5)), none]) (st1 := [.ref 0]) rfl ?_
  refine Wp.gr (t := (10, 0)) (v := some (57)) rfl (WF.t (f1.wf hw (fun z => z)) 0 rfl) rfl ((f1.2.2.2 0 15 (Or.inr ⟨by decide, by decide⟩)).trans r15) ?_
  show Wp d 161 166 [some (.ref 0), some (.int (v)), some (.int (2)), some (.int (x)), some (.int (Int32.ofNat i)), some (.int (5)), none] [.ref 57] k1 Q
  refine Wp.seg 1 (pc1 := 167) (ls1 := [some (.ref 0), some (.int (v)), some (.int (2)), some (.int (x)), some (.int (Int32.ofNat i)), some (.int (5)), none]) (st1 := [.int (x), .ref 57]) rfl ?_
  refine Wp.invV (d2 := 3) (as := [.ref 57, .int (x)]) (r := []) (t := (2, 0)) rfl rfl rfl rfl (WF.t (f1.wf hw (fun z => z)) 57 rfl) rfl rfl ⟨rfl, rfl⟩ (by omega) (c38_570 (f1.wf hw (fun z => z)) g1 (by decide) e0 (Nat.le_refl _) ?_)
  intro k2 f2 g2
  show Wp d 161 170 [some (.ref 0), some (.int (v)), some (.int (2)), some (.int (x)), some (.int (Int32.ofNat i)), some (.int (5)), none] [.int (((0 : Int32) - (Int32.ofNat i)) ^^^ (0 : Int32))] k2 Q
  refine Wp.seg 3 (pc1 := 186) (ls1 := [some (.ref 0), some (.int (v)), some (.int (2)), some (.int (x)), some (.int (Int32.ofNat i)), some (.int (5)), some (.int (((0 : Int32) - (Int32.ofNat i)) ^^^ (0 : Int32)))]) (st1 := [.ref 0]) rfl ?_
  refine Wp.gr (t := (10, 0)) (v := some (57)) rfl (WF.t (f2.wf (f1.wf hw (fun z => z)) (fun z => z)) 0 rfl) rfl ((f2.2.2.2 0 15 (Or.inr ⟨by decide, by decide⟩)).trans ((f1.2.2.2 0 15 (Or.inr ⟨by decide, by decide⟩)).trans r15)) ?_
  show Wp d 161 189 [some (.ref 0), some (.int (v)), some (.int (2)), some (.int (x)), some (.int (Int32.ofNat i)), some (.int (5)), some (.int (((0 : Int32) - (Int32.ofNat i)) ^^^ (0 : Int32)))] [.ref 57] k2 Q
  refine Wp.gi (t := (2, 0)) rfl (WF.t (f2.wf (f1.wf hw (fun z => z)) (fun z => z)) 57 rfl) (Or.inr rfl) ?_
  rw [show k2.2.2.1 57 2 = 1 from g2.2.2.2.1]
  refine Wp.if1 rfl (fun c1 => absurd c1 (show ¬ ((1 : Int32) = 0) by decide)) (fun c1 => ?_)
  refine Wp.seg 2 (pc1 := 202) (ls1 := [some (.ref 0), some (.int (v)), some (.int (2)), some (.int (x)), some (.int (Int32.ofNat i)), some (.int (5)), some (.int (((0 : Int32) - (Int32.ofNat i)) ^^^ (0 : Int32)))]) (st1 := [.int (-15)]) rfl ?_
  exact Wp.reti rfl rfl ((hQ k1 f1 g1) k2 f2 g2)
set_option maxHeartbeats 4000000 in
theorem t_ad521 {d : Nat} {Q : KO → Prop} {h : KH} (hw : WF h) {v x a : Int32} {i : Nat} (hi6 : i < 6) (r15 : h.2.1 0 15 = some 57) (ha : h.2.2.1 2 (4 * i + 3) = a) (ne : ¬ a - Int32.ofNat i = 0) (hd : 8 ≤ d) (hQ : ∀ k1, Fr (pTh 57) noP h k1 → thO k1 57 [] false (Int32.ofNat i) a → (∀ k2, Fr (pTh 57) noP k1 k2 → thO k2 57 [61, 40, 12, 10] false (Int32.ofNat i) a → (Q (some (.int (((x - x / (a - (Int32.ofNat i)) * (a - (Int32.ofNat i))) - (Int32.ofNat i)) ^^^ ((Int32.ofNat i) ^^^ ((Int32.ofNat i) + (5 : Int32))))), k2)))) : Wp d 161 79 [some (.ref 0), some (.int (v)), some (.int (2)), some (.int (x)), some (.int (Int32.ofNat i)), some (.int (5)), none] [] h Q := by
  refine Wp.seg 1 (pc1 := 80) (ls1 := [some (.ref 0), some (.int (v)), some (.int (2)), some (.int (x)), some (.int (Int32.ofNat i)), some (.int (5)), none]) (st1 := [.ref 0]) rfl ?_
  refine Wp.gr (t := (10, 0)) (v := some (57)) rfl (WF.t hw 0 rfl) rfl r15 ?_
  show Wp d 161 83 [some (.ref 0), some (.int (v)), some (.int (2)), some (.int (x)), some (.int (Int32.ofNat i)), some (.int (5)), none] [.ref 57] h Q
  refine Wp.br rfl rfl ?_
  show Wp d 161 88 [some (.ref 0), some (.int (v)), some (.int (2)), some (.int (x)), some (.int (Int32.ofNat i)), some (.int (5)), none] [] h Q
  refine Wp.seg 1 (pc1 := 89) (ls1 := [some (.ref 0), some (.int (v)), some (.int (2)), some (.int (x)), some (.int (Int32.ofNat i)), some (.int (5)), none]) (st1 := [.ref 0]) rfl ?_
  refine Wp.gr (t := (10, 0)) (v := some (57)) rfl (WF.t hw 0 rfl) rfl r15 ?_
  show Wp d 161 92 [some (.ref 0), some (.int (v)), some (.int (2)), some (.int (x)), some (.int (Int32.ofNat i)), some (.int (5)), none] [.ref 57] h Q
  refine Wp.seg 2 (pc1 := 95) (ls1 := [some (.ref 0), some (.int (v)), some (.int (2)), some (.int (x)), some (.int (Int32.ofNat i)), some (.int (5)), none]) (st1 := [.ref 0, .int (Int32.ofNat i), .ref 57]) rfl ?_
  refine Wp.gr (t := (10, 0)) (v := some (1)) rfl (WF.t hw 0 rfl) rfl (WF.r hw 0 0 0 rfl) ?_
  show Wp d 161 98 [some (.ref 0), some (.int (v)), some (.int (2)), some (.int (x)), some (.int (Int32.ofNat i)), some (.int (5)), none] [.ref 1, .int (Int32.ofNat i), .ref 57] h Q
  refine Wp.seg 2 (pc1 := 101) (ls1 := [some (.ref 0), some (.int (v)), some (.int (2)), some (.int (x)), some (.int (Int32.ofNat i)), some (.int (5)), none]) (st1 := [.int (3), .int (Int32.ofNat i), .ref 1, .int (Int32.ofNat i), .ref 57]) rfl ?_
  refine Wp.invV (d2 := 0) (as := [.ref 1, .int (Int32.ofNat i), .int (3)]) (r := [.int (Int32.ofNat i), .ref 57]) (t := (1, 0)) rfl rfl rfl rfl (WF.t hw 1 rfl) rfl rfl ⟨rfl, rfl⟩ (by omega) (s_cget hw cA1 (w := 3) rfl (by omega) ha ?_)
  show Wp d 161 104 [some (.ref 0), some (.int (v)), some (.int (2)), some (.int (x)), some (.int (Int32.ofNat i)), some (.int (5)), none] [.int (a), .int (Int32.ofNat i), .ref 57] h Q
  refine Wp.invV (d2 := 0) (as := [.ref 57, .int (Int32.ofNat i), .int (a)]) (r := []) (t := (2, 0)) rfl rfl rfl rfl (WF.t hw 57 rfl) rfl rfl ⟨rfl, rfl⟩ (by omega) (s_sf57 hw ?_)
  intro k1 f1 g1
  show Wp d 161 107 [some (.ref 0), some (.int (v)), some (.int (2)), some (.int (x)), some (.int (Int32.ofNat i)), some (.int (5)), none] [] k1 Q
  refine Wp.seg 1 (pc1 := 108) (ls1 := [some (.ref 0), some (.int (v)), some (.int (2)), some (.int (x)), some (.int (Int32.ofNat i)), some (.int (5)), none]) (st1 := [.int (2)]) rfl ?_
  refine Wp.br (pc1 := 162) (st1 := []) rfl rfl ?_
  refine Wp.seg 1 (pc1 := 163) (ls1 := [some (.ref 0), some (.int (v)), some (.int (2)), some (.int (x)), some (.int (Int32.ofNat i)), some (.int (5)), none]) (st1 := [.ref 0]) rfl ?_
  refine Wp.gr (t := (10, 0)) (v := some (57)) rfl (WF.t (f1.wf hw (fun z => z)) 0 rfl) rfl ((f1.2.2.2 0 15 (Or.inr ⟨by decide, by decide⟩)).trans r15) ?_
  show Wp d 161 166 [some (.ref 0), some (.int (v)), some (.int (2)), some (.int (x)), some (.int (Int32.ofNat i)), some (.int (5)), none] [.ref 57] k1 Q
  refine Wp.seg 1 (pc1 := 167) (ls1 := [some (.ref 0), some (.int (v)), some (.int (2)), some (.int (x)), some (.int (Int32.ofNat i)), some (.int (5)), none]) (st1 := [.int (x), .ref 57]) rfl ?_
  refine Wp.invV (d2 := 3) (as := [.ref 57, .int (x)]) (r := []) (t := (2, 0)) rfl rfl rfl rfl (WF.t (f1.wf hw (fun z => z)) 57 rfl) rfl rfl ⟨rfl, rfl⟩ (by omega) (c38_571 (f1.wf hw (fun z => z)) g1 (by decide) ne (Nat.le_refl _) ?_)
  intro k2 f2 g2
  show Wp d 161 170 [some (.ref 0), some (.int (v)), some (.int (2)), some (.int (x)), some (.int (Int32.ofNat i)), some (.int (5)), none] [.int (((x - x / (a - (Int32.ofNat i)) * (a - (Int32.ofNat i))) - (Int32.ofNat i)) ^^^ ((Int32.ofNat i) ^^^ ((Int32.ofNat i) + (5 : Int32))))] k2 Q
  refine Wp.seg 3 (pc1 := 186) (ls1 := [some (.ref 0), some (.int (v)), some (.int (2)), some (.int (x)), some (.int (Int32.ofNat i)), some (.int (5)), some (.int (((x - x / (a - (Int32.ofNat i)) * (a - (Int32.ofNat i))) - (Int32.ofNat i)) ^^^ ((Int32.ofNat i) ^^^ ((Int32.ofNat i) + (5 : Int32)))))]) (st1 := [.ref 0]) rfl ?_
  refine Wp.gr (t := (10, 0)) (v := some (57)) rfl (WF.t (f2.wf (f1.wf hw (fun z => z)) (fun z => z)) 0 rfl) rfl ((f2.2.2.2 0 15 (Or.inr ⟨by decide, by decide⟩)).trans ((f1.2.2.2 0 15 (Or.inr ⟨by decide, by decide⟩)).trans r15)) ?_
  show Wp d 161 189 [some (.ref 0), some (.int (v)), some (.int (2)), some (.int (x)), some (.int (Int32.ofNat i)), some (.int (5)), some (.int (((x - x / (a - (Int32.ofNat i)) * (a - (Int32.ofNat i))) - (Int32.ofNat i)) ^^^ ((Int32.ofNat i) ^^^ ((Int32.ofNat i) + (5 : Int32)))))] [.ref 57] k2 Q
  refine Wp.gi (t := (2, 0)) rfl (WF.t (f2.wf (f1.wf hw (fun z => z)) (fun z => z)) 57 rfl) (Or.inr rfl) ?_
  rw [show k2.2.2.1 57 2 = 0 from g2.2.2.2.1]
  refine Wp.if1 rfl (fun c1 => ?_) (fun c1 => absurd (show (0 : Int32) = 0 by decide) c1)
  refine Wp.seg 1 (pc1 := 202) (ls1 := [some (.ref 0), some (.int (v)), some (.int (2)), some (.int (x)), some (.int (Int32.ofNat i)), some (.int (5)), some (.int (((x - x / (a - (Int32.ofNat i)) * (a - (Int32.ofNat i))) - (Int32.ofNat i)) ^^^ ((Int32.ofNat i) ^^^ ((Int32.ofNat i) + (5 : Int32)))))]) (st1 := [.int (((x - x / (a - (Int32.ofNat i)) * (a - (Int32.ofNat i))) - (Int32.ofNat i)) ^^^ ((Int32.ofNat i) ^^^ ((Int32.ofNat i) + (5 : Int32))))]) rfl ?_
  exact Wp.reti rfl rfl ((hQ k1 f1 g1) k2 f2 g2)
set_option maxHeartbeats 4000000 in
theorem t_ad530 {d : Nat} {Q : KO → Prop} {h : KH} (hw : WF h) {v x a : Int32} {i : Nat} (hi6 : i < 6) (r15 : h.2.1 0 15 = some 57) (ha : h.2.2.1 2 (4 * i + 3) = a) (e0 : a - Int32.ofNat i = 0) (hd : 8 ≤ d) (hQ : ∀ k1, Fr (pTh 57) noP h k1 → thO k1 57 [] false (Int32.ofNat i) a → (∀ k2, Fr (pTh 57) noP k1 k2 → thO k2 57 [13, 60, 11, 10, 61, 40, 12] true (Int32.ofNat i) a → (Q (some (.int (-15)), k2)))) : Wp d 161 79 [some (.ref 0), some (.int (v)), some (.int (3)), some (.int (x)), some (.int (Int32.ofNat i)), some (.int (5)), none] [] h Q := by
  refine Wp.seg 1 (pc1 := 80) (ls1 := [some (.ref 0), some (.int (v)), some (.int (3)), some (.int (x)), some (.int (Int32.ofNat i)), some (.int (5)), none]) (st1 := [.ref 0]) rfl ?_
  refine Wp.gr (t := (10, 0)) (v := some (57)) rfl (WF.t hw 0 rfl) rfl r15 ?_
  show Wp d 161 83 [some (.ref 0), some (.int (v)), some (.int (3)), some (.int (x)), some (.int (Int32.ofNat i)), some (.int (5)), none] [.ref 57] h Q
  refine Wp.br rfl rfl ?_
  show Wp d 161 88 [some (.ref 0), some (.int (v)), some (.int (3)), some (.int (x)), some (.int (Int32.ofNat i)), some (.int (5)), none] [] h Q
  refine Wp.seg 1 (pc1 := 89) (ls1 := [some (.ref 0), some (.int (v)), some (.int (3)), some (.int (x)), some (.int (Int32.ofNat i)), some (.int (5)), none]) (st1 := [.ref 0]) rfl ?_
  refine Wp.gr (t := (10, 0)) (v := some (57)) rfl (WF.t hw 0 rfl) rfl r15 ?_
  show Wp d 161 92 [some (.ref 0), some (.int (v)), some (.int (3)), some (.int (x)), some (.int (Int32.ofNat i)), some (.int (5)), none] [.ref 57] h Q
  refine Wp.seg 2 (pc1 := 95) (ls1 := [some (.ref 0), some (.int (v)), some (.int (3)), some (.int (x)), some (.int (Int32.ofNat i)), some (.int (5)), none]) (st1 := [.ref 0, .int (Int32.ofNat i), .ref 57]) rfl ?_
  refine Wp.gr (t := (10, 0)) (v := some (1)) rfl (WF.t hw 0 rfl) rfl (WF.r hw 0 0 0 rfl) ?_
  show Wp d 161 98 [some (.ref 0), some (.int (v)), some (.int (3)), some (.int (x)), some (.int (Int32.ofNat i)), some (.int (5)), none] [.ref 1, .int (Int32.ofNat i), .ref 57] h Q
  refine Wp.seg 2 (pc1 := 101) (ls1 := [some (.ref 0), some (.int (v)), some (.int (3)), some (.int (x)), some (.int (Int32.ofNat i)), some (.int (5)), none]) (st1 := [.int (3), .int (Int32.ofNat i), .ref 1, .int (Int32.ofNat i), .ref 57]) rfl ?_
  refine Wp.invV (d2 := 0) (as := [.ref 1, .int (Int32.ofNat i), .int (3)]) (r := [.int (Int32.ofNat i), .ref 57]) (t := (1, 0)) rfl rfl rfl rfl (WF.t hw 1 rfl) rfl rfl ⟨rfl, rfl⟩ (by omega) (s_cget hw cA1 (w := 3) rfl (by omega) ha ?_)
  show Wp d 161 104 [some (.ref 0), some (.int (v)), some (.int (3)), some (.int (x)), some (.int (Int32.ofNat i)), some (.int (5)), none] [.int (a), .int (Int32.ofNat i), .ref 57] h Q
  refine Wp.invV (d2 := 0) (as := [.ref 57, .int (Int32.ofNat i), .int (a)]) (r := []) (t := (2, 0)) rfl rfl rfl rfl (WF.t hw 57 rfl) rfl rfl ⟨rfl, rfl⟩ (by omega) (s_sf57 hw ?_)
  intro k1 f1 g1
  show Wp d 161 107 [some (.ref 0), some (.int (v)), some (.int (3)), some (.int (x)), some (.int (Int32.ofNat i)), some (.int (5)), none] [] k1 Q
  refine Wp.seg 1 (pc1 := 108) (ls1 := [some (.ref 0), some (.int (v)), some (.int (3)), some (.int (x)), some (.int (Int32.ofNat i)), some (.int (5)), none]) (st1 := [.int (3)]) rfl ?_
  refine Wp.br (pc1 := 175) (st1 := []) rfl rfl ?_
  refine Wp.seg 1 (pc1 := 176) (ls1 := [some (.ref 0), some (.int (v)), some (.int (3)), some (.int (x)), some (.int (Int32.ofNat i)), some (.int (5)), none]) (st1 := [.ref 0]) rfl ?_
  refine Wp.gr (t := (10, 0)) (v := some (57)) rfl (WF.t (f1.wf hw (fun z => z)) 0 rfl) rfl ((f1.2.2.2 0 15 (Or.inr ⟨by decide, by decide⟩)).trans r15) ?_
  show Wp d 161 179 [some (.ref 0), some (.int (v)), some (.int (3)), some (.int (x)), some (.int (Int32.ofNat i)), some (.int (5)), none] [.ref 57] k1 Q
  refine Wp.seg 1 (pc1 := 180) (ls1 := [some (.ref 0), some (.int (v)), some (.int (3)), some (.int (x)), some (.int (Int32.ofNat i)), some (.int (5)), none]) (st1 := [.int (x), .ref 57]) rfl ?_
  refine Wp.invV (d2 := 4) (as := [.ref 57, .int (x)]) (r := []) (t := (2, 0)) rfl rfl rfl rfl (WF.t (f1.wf hw (fun z => z)) 57 rfl) rfl rfl ⟨rfl, rfl⟩ (by omega) (c86_570 (f1.wf hw (fun z => z)) g1 (by decide) e0 (Nat.le_refl _) ?_)
  intro k2 f2 g2
  show Wp d 161 183 [some (.ref 0), some (.int (v)), some (.int (3)), some (.int (x)), some (.int (Int32.ofNat i)), some (.int (5)), none] [.int (((((x ^^^ ((Int32.ofNat i) + (5 : Int32))) - a) * (3 : Int32)) * (2 : Int32)) + (((0 : Int32) - (Int32.ofNat i)) ^^^ (0 : Int32)))] k2 Q
  refine Wp.seg 2 (pc1 := 186) (ls1 := [some (.ref 0), some (.int (v)), some (.int (3)), some (.int (x)), some (.int (Int32.ofNat i)), some (.int (5)), some (.int (((((x ^^^ ((Int32.ofNat i) + (5 : Int32))) - a) * (3 : Int32)) * (2 : Int32)) + (((0 : Int32) - (Int32.ofNat i)) ^^^ (0 : Int32))))]) (st1 := [.ref 0]) rfl ?_
  refine Wp.gr (t := (10, 0)) (v := some (57)) rfl (WF.t (f2.wf (f1.wf hw (fun z => z)) (fun z => z)) 0 rfl) rfl ((f2.2.2.2 0 15 (Or.inr ⟨by decide, by decide⟩)).trans ((f1.2.2.2 0 15 (Or.inr ⟨by decide, by decide⟩)).trans r15)) ?_
  show Wp d 161 189 [some (.ref 0), some (.int (v)), some (.int (3)), some (.int (x)), some (.int (Int32.ofNat i)), some (.int (5)), some (.int (((((x ^^^ ((Int32.ofNat i) + (5 : Int32))) - a) * (3 : Int32)) * (2 : Int32)) + (((0 : Int32) - (Int32.ofNat i)) ^^^ (0 : Int32))))] [.ref 57] k2 Q
  refine Wp.gi (t := (2, 0)) rfl (WF.t (f2.wf (f1.wf hw (fun z => z)) (fun z => z)) 57 rfl) (Or.inr rfl) ?_
  rw [show k2.2.2.1 57 2 = 1 from g2.2.2.2.1]
  refine Wp.if1 rfl (fun c1 => absurd c1 (show ¬ ((1 : Int32) = 0) by decide)) (fun c1 => ?_)
  refine Wp.seg 2 (pc1 := 202) (ls1 := [some (.ref 0), some (.int (v)), some (.int (3)), some (.int (x)), some (.int (Int32.ofNat i)), some (.int (5)), some (.int (((((x ^^^ ((Int32.ofNat i) + (5 : Int32))) - a) * (3 : Int32)) * (2 : Int32)) + (((0 : Int32) - (Int32.ofNat i)) ^^^ (0 : Int32))))]) (st1 := [.int (-15)]) rfl ?_
  exact Wp.reti rfl rfl ((hQ k1 f1 g1) k2 f2 g2)
set_option maxHeartbeats 4000000 in
theorem t_ad531 {d : Nat} {Q : KO → Prop} {h : KH} (hw : WF h) {v x a : Int32} {i : Nat} (hi6 : i < 6) (r15 : h.2.1 0 15 = some 57) (ha : h.2.2.1 2 (4 * i + 3) = a) (ne : ¬ a - Int32.ofNat i = 0) (hd : 8 ≤ d) (hQ : ∀ k1, Fr (pTh 57) noP h k1 → thO k1 57 [] false (Int32.ofNat i) a → (∀ k2, Fr (pTh 57) noP k1 k2 → thO k2 57 [13, 60, 11, 10, 61, 40, 12, 10] false (Int32.ofNat i) a → (Q (some (.int (((((x ^^^ ((Int32.ofNat i) + (5 : Int32))) - a) * (3 : Int32)) * (2 : Int32)) + (((x - x / (a - (Int32.ofNat i)) * (a - (Int32.ofNat i))) - (Int32.ofNat i)) ^^^ ((Int32.ofNat i) ^^^ ((Int32.ofNat i) + (5 : Int32)))))), k2)))) : Wp d 161 79 [some (.ref 0), some (.int (v)), some (.int (3)), some (.int (x)), some (.int (Int32.ofNat i)), some (.int (5)), none] [] h Q := by
  refine Wp.seg 1 (pc1 := 80) (ls1 := [some (.ref 0), some (.int (v)), some (.int (3)), some (.int (x)), some (.int (Int32.ofNat i)), some (.int (5)), none]) (st1 := [.ref 0]) rfl ?_
  refine Wp.gr (t := (10, 0)) (v := some (57)) rfl (WF.t hw 0 rfl) rfl r15 ?_
  show Wp d 161 83 [some (.ref 0), some (.int (v)), some (.int (3)), some (.int (x)), some (.int (Int32.ofNat i)), some (.int (5)), none] [.ref 57] h Q
  refine Wp.br rfl rfl ?_
  show Wp d 161 88 [some (.ref 0), some (.int (v)), some (.int (3)), some (.int (x)), some (.int (Int32.ofNat i)), some (.int (5)), none] [] h Q
  refine Wp.seg 1 (pc1 := 89) (ls1 := [some (.ref 0), some (.int (v)), some (.int (3)), some (.int (x)), some (.int (Int32.ofNat i)), some (.int (5)), none]) (st1 := [.ref 0]) rfl ?_
  refine Wp.gr (t := (10, 0)) (v := some (57)) rfl (WF.t hw 0 rfl) rfl r15 ?_
  show Wp d 161 92 [some (.ref 0), some (.int (v)), some (.int (3)), some (.int (x)), some (.int (Int32.ofNat i)), some (.int (5)), none] [.ref 57] h Q
  refine Wp.seg 2 (pc1 := 95) (ls1 := [some (.ref 0), some (.int (v)), some (.int (3)), some (.int (x)), some (.int (Int32.ofNat i)), some (.int (5)), none]) (st1 := [.ref 0, .int (Int32.ofNat i), .ref 57]) rfl ?_
  refine Wp.gr (t := (10, 0)) (v := some (1)) rfl (WF.t hw 0 rfl) rfl (WF.r hw 0 0 0 rfl) ?_
  show Wp d 161 98 [some (.ref 0), some (.int (v)), some (.int (3)), some (.int (x)), some (.int (Int32.ofNat i)), some (.int (5)), none] [.ref 1, .int (Int32.ofNat i), .ref 57] h Q
  refine Wp.seg 2 (pc1 := 101) (ls1 := [some (.ref 0), some (.int (v)), some (.int (3)), some (.int (x)), some (.int (Int32.ofNat i)), some (.int (5)), none]) (st1 := [.int (3), .int (Int32.ofNat i), .ref 1, .int (Int32.ofNat i), .ref 57]) rfl ?_
  refine Wp.invV (d2 := 0) (as := [.ref 1, .int (Int32.ofNat i), .int (3)]) (r := [.int (Int32.ofNat i), .ref 57]) (t := (1, 0)) rfl rfl rfl rfl (WF.t hw 1 rfl) rfl rfl ⟨rfl, rfl⟩ (by omega) (s_cget hw cA1 (w := 3) rfl (by omega) ha ?_)
  show Wp d 161 104 [some (.ref 0), some (.int (v)), some (.int (3)), some (.int (x)), some (.int (Int32.ofNat i)), some (.int (5)), none] [.int (a), .int (Int32.ofNat i), .ref 57] h Q
  refine Wp.invV (d2 := 0) (as := [.ref 57, .int (Int32.ofNat i), .int (a)]) (r := []) (t := (2, 0)) rfl rfl rfl rfl (WF.t hw 57 rfl) rfl rfl ⟨rfl, rfl⟩ (by omega) (s_sf57 hw ?_)
  intro k1 f1 g1
  show Wp d 161 107 [some (.ref 0), some (.int (v)), some (.int (3)), some (.int (x)), some (.int (Int32.ofNat i)), some (.int (5)), none] [] k1 Q
  refine Wp.seg 1 (pc1 := 108) (ls1 := [some (.ref 0), some (.int (v)), some (.int (3)), some (.int (x)), some (.int (Int32.ofNat i)), some (.int (5)), none]) (st1 := [.int (3)]) rfl ?_
  refine Wp.br (pc1 := 175) (st1 := []) rfl rfl ?_
  refine Wp.seg 1 (pc1 := 176) (ls1 := [some (.ref 0), some (.int (v)), some (.int (3)), some (.int (x)), some (.int (Int32.ofNat i)), some (.int (5)), none]) (st1 := [.ref 0]) rfl ?_
  refine Wp.gr (t := (10, 0)) (v := some (57)) rfl (WF.t (f1.wf hw (fun z => z)) 0 rfl) rfl ((f1.2.2.2 0 15 (Or.inr ⟨by decide, by decide⟩)).trans r15) ?_
  show Wp d 161 179 [some (.ref 0), some (.int (v)), some (.int (3)), some (.int (x)), some (.int (Int32.ofNat i)), some (.int (5)), none] [.ref 57] k1 Q
  refine Wp.seg 1 (pc1 := 180) (ls1 := [some (.ref 0), some (.int (v)), some (.int (3)), some (.int (x)), some (.int (Int32.ofNat i)), some (.int (5)), none]) (st1 := [.int (x), .ref 57]) rfl ?_
  refine Wp.invV (d2 := 4) (as := [.ref 57, .int (x)]) (r := []) (t := (2, 0)) rfl rfl rfl rfl (WF.t (f1.wf hw (fun z => z)) 57 rfl) rfl rfl ⟨rfl, rfl⟩ (by omega) (c86_571 (f1.wf hw (fun z => z)) g1 (by decide) ne (Nat.le_refl _) ?_)
  intro k2 f2 g2
  show Wp d 161 183 [some (.ref 0), some (.int (v)), some (.int (3)), some (.int (x)), some (.int (Int32.ofNat i)), some (.int (5)), none] [.int (((((x ^^^ ((Int32.ofNat i) + (5 : Int32))) - a) * (3 : Int32)) * (2 : Int32)) + (((x - x / (a - (Int32.ofNat i)) * (a - (Int32.ofNat i))) - (Int32.ofNat i)) ^^^ ((Int32.ofNat i) ^^^ ((Int32.ofNat i) + (5 : Int32)))))] k2 Q
  refine Wp.seg 2 (pc1 := 186) (ls1 := [some (.ref 0), some (.int (v)), some (.int (3)), some (.int (x)), some (.int (Int32.ofNat i)), some (.int (5)), some (.int (((((x ^^^ ((Int32.ofNat i) + (5 : Int32))) - a) * (3 : Int32)) * (2 : Int32)) + (((x - x / (a - (Int32.ofNat i)) * (a - (Int32.ofNat i))) - (Int32.ofNat i)) ^^^ ((Int32.ofNat i) ^^^ ((Int32.ofNat i) + (5 : Int32))))))]) (st1 := [.ref 0]) rfl ?_
  refine Wp.gr (t := (10, 0)) (v := some (57)) rfl (WF.t (f2.wf (f1.wf hw (fun z => z)) (fun z => z)) 0 rfl) rfl ((f2.2.2.2 0 15 (Or.inr ⟨by decide, by decide⟩)).trans ((f1.2.2.2 0 15 (Or.inr ⟨by decide, by decide⟩)).trans r15)) ?_
  show Wp d 161 189 [some (.ref 0), some (.int (v)), some (.int (3)), some (.int (x)), some (.int (Int32.ofNat i)), some (.int (5)), some (.int (((((x ^^^ ((Int32.ofNat i) + (5 : Int32))) - a) * (3 : Int32)) * (2 : Int32)) + (((x - x / (a - (Int32.ofNat i)) * (a - (Int32.ofNat i))) - (Int32.ofNat i)) ^^^ ((Int32.ofNat i) ^^^ ((Int32.ofNat i) + (5 : Int32))))))] [.ref 57] k2 Q
  refine Wp.gi (t := (2, 0)) rfl (WF.t (f2.wf (f1.wf hw (fun z => z)) (fun z => z)) 57 rfl) (Or.inr rfl) ?_
  rw [show k2.2.2.1 57 2 = 0 from g2.2.2.2.1]
  refine Wp.if1 rfl (fun c1 => ?_) (fun c1 => absurd (show (0 : Int32) = 0 by decide) c1)
  refine Wp.seg 1 (pc1 := 202) (ls1 := [some (.ref 0), some (.int (v)), some (.int (3)), some (.int (x)), some (.int (Int32.ofNat i)), some (.int (5)), some (.int (((((x ^^^ ((Int32.ofNat i) + (5 : Int32))) - a) * (3 : Int32)) * (2 : Int32)) + (((x - x / (a - (Int32.ofNat i)) * (a - (Int32.ofNat i))) - (Int32.ofNat i)) ^^^ ((Int32.ofNat i) ^^^ ((Int32.ofNat i) + (5 : Int32))))))]) (st1 := [.int (((((x ^^^ ((Int32.ofNat i) + (5 : Int32))) - a) * (3 : Int32)) * (2 : Int32)) + (((x - x / (a - (Int32.ofNat i)) * (a - (Int32.ofNat i))) - (Int32.ofNat i)) ^^^ ((Int32.ofNat i) ^^^ ((Int32.ofNat i) + (5 : Int32)))))]) rfl ?_
  exact Wp.reti rfl rfl ((hQ k1 f1 g1) k2 f2 g2)
/-! the reference -/
set_option maxHeartbeats 4000000 in
theorem t_am {d : Nat} {Q : KO → Prop} {h : KH} (hw : WF h) {v w x : Int32} (hd : 8 ≤ d) (hQ : Wp d 284 5 ([some (.ref 59), some (.int (v)), some (.int (w)), some (.int (x)), none, none]) [] (kwi h 59 29 (0 : Int32)) Q) : Cl d 284 [.ref 59, .int (v), .int (w), .int (x)] h Q := by
  refine Cl.of (ls := [some (.ref 59), some (.int (v)), some (.int (w)), some (.int (x)), none, none]) rfl rfl ?_
  refine Wp.seg 2 (pc1 := 2) (ls1 := [some (.ref 59), some (.int (v)), some (.int (w)), some (.int (x)), none, none]) (st1 := [.int (0), .ref 59]) rfl ?_
  refine Wp.pi (t := (11, 0)) rfl (WF.t hw 59 rfl) (Or.inl rfl) ?_
  exact hQ
set_option maxHeartbeats 4000000 in
theorem t_am0 {d : Nat} {Q : KO → Prop} {h : KH} (hw : WF h) {v w x : Int32} (q : inB v 0 3 = false) (hd : 8 ≤ d) (hQ : Q (some (.int (0)), h)) : Wp d 284 5 [some (.ref 59), some (.int (v)), some (.int (w)), some (.int (x)), none, none] [] h Q := by
  refine Wp.seg 1 (pc1 := 6) (ls1 := [some (.ref 59), some (.int (v)), some (.int (w)), some (.int (x)), none, none]) (st1 := [.int (v)]) rfl ?_
  refine Wp.inv (d2 := 1) (as := [.int (v)]) (r := []) rfl rfl rfl rfl rfl rfl (by omega) (s_b177 (Nat.le_refl _) ?_)
  show Wp d 284 9 [some (.ref 59), some (.int (v)), some (.int (w)), some (.int (x)), none, none] [.int (b32 (inB v 0 3))] h Q
  refine Wp.ifz rfl (fun c1 => ?_) (fun c1 => absurd (c1.symm.trans (q)) (by decide))
  refine Wp.seg 1 (pc1 := 30) (ls1 := [some (.ref 59), some (.int (v)), some (.int (w)), some (.int (x)), none, none]) (st1 := [.int (0)]) rfl ?_
  exact Wp.reti rfl rfl hQ
set_option maxHeartbeats 4000000 in
theorem t_am1 {d : Nat} {Q : KO → Prop} {h : KH} (hw : WF h) {s : Nat} (hs : s < 4) (qs : inB (Int32.ofNat s) 0 3 = true) {w x : Int32} (q3 : inB w 0 3 = false) (hd : 8 ≤ d) (hQ : Q (some (.int (0)), h)) : Wp d 284 5 [some (.ref 59), some (.int (Int32.ofNat s)), some (.int (w)), some (.int (x)), none, none] [] h Q := by
  refine Wp.seg 1 (pc1 := 6) (ls1 := [some (.ref 59), some (.int (Int32.ofNat s)), some (.int (w)), some (.int (x)), none, none]) (st1 := [.int (Int32.ofNat s)]) rfl ?_
  refine Wp.inv (d2 := 1) (as := [.int (Int32.ofNat s)]) (r := []) rfl rfl rfl rfl rfl rfl (by omega) (s_b177 (Nat.le_refl _) ?_)
  show Wp d 284 9 [some (.ref 59), some (.int (Int32.ofNat s)), some (.int (w)), some (.int (x)), none, none] [.int (b32 (inB (Int32.ofNat s) 0 3))] h Q
  refine Wp.ifz rfl (fun c1 => absurd (c1.symm.trans (qs)) (by decide)) (fun c1 => ?_)
  refine Wp.seg 3 (pc1 := 15) (ls1 := [some (.ref 59), some (.int (Int32.ofNat s)), some (.int (w)), some (.int (x)), none, none]) (st1 := [.int (3), .int (0), .int (w)]) rfl ?_
  refine Wp.inv (d2 := 0) (as := [.int (w), .int (0), .int (3)]) (r := []) rfl rfl rfl rfl rfl rfl (by omega) (s_inB (x := 0) (y := 3) rfl rfl ?_)
  show Wp d 284 18 [some (.ref 59), some (.int (Int32.ofNat s)), some (.int (w)), some (.int (x)), none, none] [.int (b32 (inB w 0 3))] h Q
  refine Wp.ifz rfl (fun c2 => ?_) (fun c2 => absurd (c2.symm.trans (q3)) (by decide))
  refine Wp.seg 1 (pc1 := 30) (ls1 := [some (.ref 59), some (.int (Int32.ofNat s)), some (.int (w)), some (.int (x)), none, none]) (st1 := [.int (0)]) rfl ?_
  exact Wp.reti rfl rfl hQ
set_option maxHeartbeats 4000000 in
theorem t_am3 {d : Nat} {Q : KO → Prop} {h : KH} (hw : WF h) {s : Nat} (hs : s < 4) (qs : inB (Int32.ofNat s) 0 3 = true) {w x : Int32} (q3 : inB w 0 3 = true) (h71 : h.2.2.1 71 s = 1) (hd : 8 ≤ d) (hQ : Q (some (.int (0)), h)) : Wp d 284 5 [some (.ref 59), some (.int (Int32.ofNat s)), some (.int (w)), some (.int (x)), none, none] [] h Q := by
  refine Wp.seg 1 (pc1 := 6) (ls1 := [some (.ref 59), some (.int (Int32.ofNat s)), some (.int (w)), some (.int (x)), none, none]) (st1 := [.int (Int32.ofNat s)]) rfl ?_
  refine Wp.inv (d2 := 1) (as := [.int (Int32.ofNat s)]) (r := []) rfl rfl rfl rfl rfl rfl (by omega) (s_b177 (Nat.le_refl _) ?_)
  show Wp d 284 9 [some (.ref 59), some (.int (Int32.ofNat s)), some (.int (w)), some (.int (x)), none, none] [.int (b32 (inB (Int32.ofNat s) 0 3))] h Q
  refine Wp.ifz rfl (fun c1 => absurd (c1.symm.trans (qs)) (by decide)) (fun c1 => ?_)
  refine Wp.seg 3 (pc1 := 15) (ls1 := [some (.ref 59), some (.int (Int32.ofNat s)), some (.int (w)), some (.int (x)), none, none]) (st1 := [.int (3), .int (0), .int (w)]) rfl ?_
  refine Wp.inv (d2 := 0) (as := [.int (w), .int (0), .int (3)]) (r := []) rfl rfl rfl rfl rfl rfl (by omega) (s_inB (x := 0) (y := 3) rfl rfl ?_)
  show Wp d 284 18 [some (.ref 59), some (.int (Int32.ofNat s)), some (.int (w)), some (.int (x)), none, none] [.int (b32 (inB w 0 3))] h Q
  refine Wp.ifz rfl (fun c2 => absurd (c2.symm.trans (q3)) (by decide)) (fun c2 => ?_)
  refine Wp.seg 2 (pc1 := 23) (ls1 := [some (.ref 59), some (.int (Int32.ofNat s)), some (.int (w)), some (.int (x)), none, none]) (st1 := [.int (Int32.ofNat s), .ref 59]) rfl ?_
  refine Wp.invV (d2 := 2) (as := [.ref 59, .int (Int32.ofNat s)]) (r := []) (t := (11, 0)) rfl rfl rfl rfl (WF.t hw 59 rfl) rfl rfl ⟨rfl, rfl⟩ (by omega) (t_hsh1 hw hs h71 (Nat.le_refl _) ?_)
  show Wp d 284 26 [some (.ref 59), some (.int (Int32.ofNat s)), some (.int (w)), some (.int (x)), none, none] [.int (0)] h Q
  refine Wp.if1 rfl (fun c3 => absurd c3 (show ¬ (¬ (0 : Int32) = 0) by decide)) (fun c3 => ?_)
  refine Wp.seg 1 (pc1 := 30) (ls1 := [some (.ref 59), some (.int (Int32.ofNat s)), some (.int (w)), some (.int (x)), none, none]) (st1 := [.int (0)]) rfl ?_
  exact Wp.reti rfl rfl hQ
set_option maxHeartbeats 4000000 in
theorem t_am4 {d : Nat} {Q : KO → Prop} {h : KH} (hw : WF h) {s : Nat} (hs : s < 4) (qs : inB (Int32.ofNat s) 0 3 = true) {w x : Int32} (q3 : inB w 0 3 = true) (h71 : h.2.2.1 71 s = 2) (hd : 8 ≤ d) (hQ : Q (some (.int (0)), h)) : Wp d 284 5 [some (.ref 59), some (.int (Int32.ofNat s)), some (.int (w)), some (.int (x)), none, none] [] h Q := by
  refine Wp.seg 1 (pc1 := 6) (ls1 := [some (.ref 59), some (.int (Int32.ofNat s)), some (.int (w)), some (.int (x)), none, none]) (st1 := [.int (Int32.ofNat s)]) rfl ?_
  refine Wp.inv (d2 := 1) (as := [.int (Int32.ofNat s)]) (r := []) rfl rfl rfl rfl rfl rfl (by omega) (s_b177 (Nat.le_refl _) ?_)
  show Wp d 284 9 [some (.ref 59), some (.int (Int32.ofNat s)), some (.int (w)), some (.int (x)), none, none] [.int (b32 (inB (Int32.ofNat s) 0 3))] h Q
  refine Wp.ifz rfl (fun c1 => absurd (c1.symm.trans (qs)) (by decide)) (fun c1 => ?_)
  refine Wp.seg 3 (pc1 := 15) (ls1 := [some (.ref 59), some (.int (Int32.ofNat s)), some (.int (w)), some (.int (x)), none, none]) (st1 := [.int (3), .int (0), .int (w)]) rfl ?_
  refine Wp.inv (d2 := 0) (as := [.int (w), .int (0), .int (3)]) (r := []) rfl rfl rfl rfl rfl rfl (by omega) (s_inB (x := 0) (y := 3) rfl rfl ?_)
  show Wp d 284 18 [some (.ref 59), some (.int (Int32.ofNat s)), some (.int (w)), some (.int (x)), none, none] [.int (b32 (inB w 0 3))] h Q
  refine Wp.ifz rfl (fun c2 => absurd (c2.symm.trans (q3)) (by decide)) (fun c2 => ?_)
  refine Wp.seg 2 (pc1 := 23) (ls1 := [some (.ref 59), some (.int (Int32.ofNat s)), some (.int (w)), some (.int (x)), none, none]) (st1 := [.int (Int32.ofNat s), .ref 59]) rfl ?_
  refine Wp.invV (d2 := 2) (as := [.ref 59, .int (Int32.ofNat s)]) (r := []) (t := (11, 0)) rfl rfl rfl rfl (WF.t hw 59 rfl) rfl rfl ⟨rfl, rfl⟩ (by omega) (t_hsh2 hw hs h71 (Nat.le_refl _) ?_)
  show Wp d 284 26 [some (.ref 59), some (.int (Int32.ofNat s)), some (.int (w)), some (.int (x)), none, none] [.int (0)] h Q
  refine Wp.if1 rfl (fun c3 => absurd c3 (show ¬ (¬ (0 : Int32) = 0) by decide)) (fun c3 => ?_)
  refine Wp.seg 1 (pc1 := 30) (ls1 := [some (.ref 59), some (.int (Int32.ofNat s)), some (.int (w)), some (.int (x)), none, none]) (st1 := [.int (0)]) rfl ?_
  exact Wp.reti rfl rfl hQ
set_option maxHeartbeats 4000000 in
theorem t_am5 {d : Nat} {Q : KO → Prop} {h : KH} (hw : WF h) {s : Nat} (hs : s < 4) (qs : inB (Int32.ofNat s) 0 3 = true) {w x : Int32} (q3 : inB w 0 3 = true) {A : Nat → Int32} {RL : List Rul} {n c dn en : Nat} (hk : refOK h A RL n c dn en) (h71 : h.2.2.1 71 s = 0) {sb : Int32} (h72 : h.2.2.1 72 s = sb) (qx : inB sb 0 ((n : Int) - 1) = false) (hd : 8 ≤ d) (hQ : Q (some (.int (0)), h)) : Wp d 284 5 [some (.ref 59), some (.int (Int32.ofNat s)), some (.int (w)), some (.int (x)), none, none] [] h Q := by
  refine Wp.seg 1 (pc1 := 6) (ls1 := [some (.ref 59), some (.int (Int32.ofNat s)), some (.int (w)), some (.int (x)), none, none]) (st1 := [.int (Int32.ofNat s)]) rfl ?_
  refine Wp.inv (d2 := 1) (as := [.int (Int32.ofNat s)]) (r := []) rfl rfl rfl rfl rfl rfl (by omega) (s_b177 (Nat.le_refl _) ?_)
  show Wp d 284 9 [some (.ref 59), some (.int (Int32.ofNat s)), some (.int (w)), some (.int (x)), none, none] [.int (b32 (inB (Int32.ofNat s) 0 3))] h Q
  refine Wp.ifz rfl (fun c1 => absurd (c1.symm.trans (qs)) (by decide)) (fun c1 => ?_)
  refine Wp.seg 3 (pc1 := 15) (ls1 := [some (.ref 59), some (.int (Int32.ofNat s)), some (.int (w)), some (.int (x)), none, none]) (st1 := [.int (3), .int (0), .int (w)]) rfl ?_
  refine Wp.inv (d2 := 0) (as := [.int (w), .int (0), .int (3)]) (r := []) rfl rfl rfl rfl rfl rfl (by omega) (s_inB (x := 0) (y := 3) rfl rfl ?_)
  show Wp d 284 18 [some (.ref 59), some (.int (Int32.ofNat s)), some (.int (w)), some (.int (x)), none, none] [.int (b32 (inB w 0 3))] h Q
  refine Wp.ifz rfl (fun c2 => absurd (c2.symm.trans (q3)) (by decide)) (fun c2 => ?_)
  refine Wp.seg 2 (pc1 := 23) (ls1 := [some (.ref 59), some (.int (Int32.ofNat s)), some (.int (w)), some (.int (x)), none, none]) (st1 := [.int (Int32.ofNat s), .ref 59]) rfl ?_
  refine Wp.invV (d2 := 2) (as := [.ref 59, .int (Int32.ofNat s)]) (r := []) (t := (11, 0)) rfl rfl rfl rfl (WF.t hw 59 rfl) rfl rfl ⟨rfl, rfl⟩ (by omega) (t_hsh0 hw hs hk h71 h72 qx (Nat.le_refl _) ?_)
  show Wp d 284 26 [some (.ref 59), some (.int (Int32.ofNat s)), some (.int (w)), some (.int (x)), none, none] [.int (0)] h Q
  refine Wp.if1 rfl (fun c3 => absurd c3 (show ¬ (¬ (0 : Int32) = 0) by decide)) (fun c3 => ?_)
  refine Wp.seg 1 (pc1 := 30) (ls1 := [some (.ref 59), some (.int (Int32.ofNat s)), some (.int (w)), some (.int (x)), none, none]) (st1 := [.int (0)]) rfl ?_
  exact Wp.reti rfl rfl hQ
set_option maxHeartbeats 4000000 in
theorem t_am6 {d : Nat} {Q : KO → Prop} {h : KH} (hw : WF h) {s : Nat} (hs : s < 4) (qs : inB (Int32.ofNat s) 0 3 = true) {w x : Int32} (q3 : inB w 0 3 = true) {A : Nat → Int32} {RL : List Rul} {n c dn en : Nat} (hk : refOK h A RL n c dn en) (h71 : h.2.2.1 71 s = 0) {i : Nat} (h72 : h.2.2.1 72 s = Int32.ofNat i) (qx : inB (Int32.ofNat i) 0 ((n : Int) - 1) = true) (hd : 8 ≤ d) (hQ : Wp d 284 44 ([some (.ref 59), some (.int (Int32.ofNat s)), some (.int (w)), some (.int (x)), some (.int (Int32.ofNat i)), none]) [] (kwi h 59 30 (0 : Int32)) Q) : Wp d 284 5 [some (.ref 59), some (.int (Int32.ofNat s)), some (.int (w)), some (.int (x)), none, none] [] h Q := by
  refine Wp.seg 1 (pc1 := 6) (ls1 := [some (.ref 59), some (.int (Int32.ofNat s)), some (.int (w)), some (.int (x)), none, none]) (st1 := [.int (Int32.ofNat s)]) rfl ?_
  refine Wp.inv (d2 := 1) (as := [.int (Int32.ofNat s)]) (r := []) rfl rfl rfl rfl rfl rfl (by omega) (s_b177 (Nat.le_refl _) ?_)
  show Wp d 284 9 [some (.ref 59), some (.int (Int32.ofNat s)), some (.int (w)), some (.int (x)), none, none] [.int (b32 (inB (Int32.ofNat s) 0 3))] h Q
  refine Wp.ifz rfl (fun c1 => absurd (c1.symm.trans (qs)) (by decide)) (fun c1 => ?_)
  refine Wp.seg 3 (pc1 := 15) (ls1 := [some (.ref 59), some (.int (Int32.ofNat s)), some (.int (w)), some (.int (x)), none, none]) (st1 := [.int (3), .int (0), .int (w)]) rfl ?_
  refine Wp.inv (d2 := 0) (as := [.int (w), .int (0), .int (3)]) (r := []) rfl rfl rfl rfl rfl rfl (by omega) (s_inB (x := 0) (y := 3) rfl rfl ?_)
  show Wp d 284 18 [some (.ref 59), some (.int (Int32.ofNat s)), some (.int (w)), some (.int (x)), none, none] [.int (b32 (inB w 0 3))] h Q
  refine Wp.ifz rfl (fun c2 => absurd (c2.symm.trans (q3)) (by decide)) (fun c2 => ?_)
  refine Wp.seg 2 (pc1 := 23) (ls1 := [some (.ref 59), some (.int (Int32.ofNat s)), some (.int (w)), some (.int (x)), none, none]) (st1 := [.int (Int32.ofNat s), .ref 59]) rfl ?_
  refine Wp.invV (d2 := 2) (as := [.ref 59, .int (Int32.ofNat s)]) (r := []) (t := (11, 0)) rfl rfl rfl rfl (WF.t hw 59 rfl) rfl rfl ⟨rfl, rfl⟩ (by omega) (t_hshy hw hs hk h71 h72 qx (Nat.le_refl _) ?_)
  show Wp d 284 26 [some (.ref 59), some (.int (Int32.ofNat s)), some (.int (w)), some (.int (x)), none, none] [.int (1)] h Q
  refine Wp.if1 rfl (fun c3 => ?_) (fun c3 => absurd (show ¬ (1 : Int32) = 0 by decide) c3)
  refine Wp.seg 1 (pc1 := 32) (ls1 := [some (.ref 59), some (.int (Int32.ofNat s)), some (.int (w)), some (.int (x)), none, none]) (st1 := [.ref 59]) rfl ?_
  refine Wp.gr (t := (11, 0)) (v := some (72)) rfl (WF.t hw 59 rfl) rfl (WF.r hw 59 26 70 rfl) ?_
  show Wp d 284 35 [some (.ref 59), some (.int (Int32.ofNat s)), some (.int (w)), some (.int (x)), none, none] [.ref 72] h Q
  refine Wp.seg 1 (pc1 := 36) (ls1 := [some (.ref 59), some (.int (Int32.ofNat s)), some (.int (w)), some (.int (x)), none, none]) (st1 := [.int (Int32.ofNat s), .ref 72]) rfl ?_
  refine Wp.iald (j := s) (k := 20) (n := 4) rfl (WF.t hw 72 rfl) rfl rfl hs (by decide) ?_
  rw [show h.2.2.1 72 s = Int32.ofNat i from h72]
  refine Wp.seg 3 (pc1 := 41) (ls1 := [some (.ref 59), some (.int (Int32.ofNat s)), some (.int (w)), some (.int (x)), some (.int (Int32.ofNat i)), none]) (st1 := [.int (0), .ref 59]) rfl ?_
  refine Wp.pi (t := (11, 0)) rfl (WF.t hw 59 rfl) (Or.inr ⟨rfl, Or.inl rfl⟩) ?_
  exact hQ
set_option maxHeartbeats 4000000 in
theorem t_ae10 {d : Nat} {Q : KO → Prop} {h : KH} (hw : WF h) {v x a : Int32} {i : Nat} (s0 : rsO h [] false i 1 a) (hd : 8 ≤ d) (hQ : ∀ k1, FA h k1 → rsO k1 [20, 10] false i 1 a → (Q (some (.int ((x ^^^ ((Int32.ofNat i) + (5 : Int32))) * (5 : Int32))), k1))) : Wp d 284 44 [some (.ref 59), some (.int (v)), some (.int (0)), some (.int (x)), some (.int (Int32.ofNat i)), none] [] h Q := by
  refine Wp.seg 1 (pc1 := 45) (ls1 := [some (.ref 59), some (.int (v)), some (.int (0)), some (.int (x)), some (.int (Int32.ofNat i)), none]) (st1 := [.int (0)]) rfl ?_
  refine Wp.if1 rfl (fun c1 => absurd c1 (show ¬ (¬ (0 : Int32) = 0) by decide)) (fun c1 => ?_)
  refine Wp.seg 3 (pc1 := 52) (ls1 := [some (.ref 59), some (.int (v)), some (.int (0)), some (.int (x)), some (.int (Int32.ofNat i)), none]) (st1 := [.int (x), .int (Int32.ofNat i), .ref 59]) rfl ?_
  refine Wp.invV (d2 := 2) (as := [.ref 59, .int (Int32.ofNat i), .int (x)]) (r := []) (t := (11, 0)) rfl rfl rfl rfl (WF.t hw 59 rfl) rfl rfl ⟨rfl, rfl⟩ (by omega) (r276_1 hw s0 (by decide) (Nat.le_refl _) ?_)
  intro k1 f1 g1
  show Wp d 284 55 [some (.ref 59), some (.int (v)), some (.int (0)), some (.int (x)), some (.int (Int32.ofNat i)), none] [.int ((x ^^^ ((Int32.ofNat i) + (5 : Int32))) * (5 : Int32))] k1 Q
  refine Wp.seg 3 (pc1 := 98) (ls1 := [some (.ref 59), some (.int (v)), some (.int (0)), some (.int (x)), some (.int (Int32.ofNat i)), some (.int ((x ^^^ ((Int32.ofNat i) + (5 : Int32))) * (5 : Int32)))]) (st1 := [.ref 59]) rfl ?_
  refine Wp.gi (t := (11, 0)) rfl (WF.t (f1.wf hw) 59 rfl) (Or.inr rfl) ?_
  rw [show k1.2.2.1 59 30 = 0 from g1.2.2.2.1]
  refine Wp.if1 rfl (fun c2 => ?_) (fun c2 => absurd (show (0 : Int32) = 0 by decide) c2)
  refine Wp.seg 1 (pc1 := 111) (ls1 := [some (.ref 59), some (.int (v)), some (.int (0)), some (.int (x)), some (.int (Int32.ofNat i)), some (.int ((x ^^^ ((Int32.ofNat i) + (5 : Int32))) * (5 : Int32)))]) (st1 := [.int ((x ^^^ ((Int32.ofNat i) + (5 : Int32))) * (5 : Int32))]) rfl ?_
  exact Wp.reti rfl rfl (hQ k1 f1 g1)
set_option maxHeartbeats 4000000 in
theorem t_ae11 {d : Nat} {Q : KO → Prop} {h : KH} (hw : WF h) {v x a : Int32} {i : Nat} (s0 : rsO h [] false i 1 a) (hd : 8 ≤ d) (hQ : ∀ k1, FA h k1 → rsO k1 [11, 20, 10] false i 1 a → (Q (some (.int (((x ^^^ ((Int32.ofNat i) + (5 : Int32))) * (5 : Int32)) - a)), k1))) : Wp d 284 44 [some (.ref 59), some (.int (v)), some (.int (1)), some (.int (x)), some (.int (Int32.ofNat i)), none] [] h Q := by
  refine Wp.seg 1 (pc1 := 45) (ls1 := [some (.ref 59), some (.int (v)), some (.int (1)), some (.int (x)), some (.int (Int32.ofNat i)), none]) (st1 := [.int (1)]) rfl ?_
  refine Wp.if1 rfl (fun c1 => ?_) (fun c1 => absurd (show ¬ (1 : Int32) = 0 by decide) c1)
  refine Wp.seg 2 (pc1 := 60) (ls1 := [some (.ref 59), some (.int (v)), some (.int (1)), some (.int (x)), some (.int (Int32.ofNat i)), none]) (st1 := [.int (1), .int (1)]) rfl ?_
  refine Wp.if2 rfl (fun c2 => absurd c2 (show ¬ (¬ (1 : Int32) = (1 : Int32)) by decide)) (fun c2 => ?_)
  refine Wp.seg 3 (pc1 := 67) (ls1 := [some (.ref 59), some (.int (v)), some (.int (1)), some (.int (x)), some (.int (Int32.ofNat i)), none]) (st1 := [.int (x), .int (Int32.ofNat i), .ref 59]) rfl ?_
  refine Wp.invV (d2 := 4) (as := [.ref 59, .int (Int32.ofNat i), .int (x)]) (r := []) (t := (11, 0)) rfl rfl rfl rfl (WF.t hw 59 rfl) rfl rfl ⟨rfl, rfl⟩ (by omega) (r278_1 hw s0 (by decide) (Nat.le_refl _) ?_)
  intro k1 f1 g1
  show Wp d 284 70 [some (.ref 59), some (.int (v)), some (.int (1)), some (.int (x)), some (.int (Int32.ofNat i)), none] [.int (((x ^^^ ((Int32.ofNat i) + (5 : Int32))) * (5 : Int32)) - a)] k1 Q
  refine Wp.seg 3 (pc1 := 98) (ls1 := [some (.ref 59), some (.int (v)), some (.int (1)), some (.int (x)), some (.int (Int32.ofNat i)), some (.int (((x ^^^ ((Int32.ofNat i) + (5 : Int32))) * (5 : Int32)) - a))]) (st1 := [.ref 59]) rfl ?_
  refine Wp.gi (t := (11, 0)) rfl (WF.t (f1.wf hw) 59 rfl) (Or.inr rfl) ?_
  rw [show k1.2.2.1 59 30 = 0 from g1.2.2.2.1]
  refine Wp.if1 rfl (fun c3 => ?_) (fun c3 => absurd (show (0 : Int32) = 0 by decide) c3)
  refine Wp.seg 1 (pc1 := 111) (ls1 := [some (.ref 59), some (.int (v)), some (.int (1)), some (.int (x)), some (.int (Int32.ofNat i)), some (.int (((x ^^^ ((Int32.ofNat i) + (5 : Int32))) * (5 : Int32)) - a))]) (st1 := [.int (((x ^^^ ((Int32.ofNat i) + (5 : Int32))) * (5 : Int32)) - a)]) rfl ?_
  exact Wp.reti rfl rfl (hQ k1 f1 g1)
set_option maxHeartbeats 4000000 in
theorem t_ae120 {d : Nat} {Q : KO → Prop} {h : KH} (hw : WF h) {v x a : Int32} {i : Nat} (s0 : rsO h [] false i 1 a) (e0 : a - Int32.ofNat i = 0) (hd : 8 ≤ d) (hQ : ∀ k1, FA h k1 → rsO k1 [12] true i 1 a → (Q (some (.int (-15)), k1))) : Wp d 284 44 [some (.ref 59), some (.int (v)), some (.int (2)), some (.int (x)), some (.int (Int32.ofNat i)), none] [] h Q := by
  refine Wp.seg 1 (pc1 := 45) (ls1 := [some (.ref 59), some (.int (v)), some (.int (2)), some (.int (x)), some (.int (Int32.ofNat i)), none]) (st1 := [.int (2)]) rfl ?_
  refine Wp.if1 rfl (fun c1 => ?_) (fun c1 => absurd (show ¬ (2 : Int32) = 0 by decide) c1)
  refine Wp.seg 2 (pc1 := 60) (ls1 := [some (.ref 59), some (.int (v)), some (.int (2)), some (.int (x)), some (.int (Int32.ofNat i)), none]) (st1 := [.int (1), .int (2)]) rfl ?_
  refine Wp.if2 rfl (fun c2 => ?_) (fun c2 => absurd (show ¬ (2 : Int32) = (1 : Int32) by decide) c2)
  refine Wp.seg 2 (pc1 := 75) (ls1 := [some (.ref 59), some (.int (v)), some (.int (2)), some (.int (x)), some (.int (Int32.ofNat i)), none]) (st1 := [.int (2), .int (2)]) rfl ?_
  refine Wp.if2 rfl (fun c3 => absurd c3 (show ¬ (¬ (2 : Int32) = (2 : Int32)) by decide)) (fun c3 => ?_)
  refine Wp.seg 3 (pc1 := 82) (ls1 := [some (.ref 59), some (.int (v)), some (.int (2)), some (.int (x)), some (.int (Int32.ofNat i)), none]) (st1 := [.int (x), .int (Int32.ofNat i), .ref 59]) rfl ?_
  refine Wp.invV (d2 := 2) (as := [.ref 59, .int (Int32.ofNat i), .int (x)]) (r := []) (t := (11, 0)) rfl rfl rfl rfl (WF.t hw 59 rfl) rfl rfl ⟨rfl, rfl⟩ (by omega) (r281_10 hw s0 (by decide) e0 (Nat.le_refl _) ?_)
  intro k1 f1 g1
  show Wp d 284 85 [some (.ref 59), some (.int (v)), some (.int (2)), some (.int (x)), some (.int (Int32.ofNat i)), none] [.int (0)] k1 Q
  refine Wp.seg 3 (pc1 := 98) (ls1 := [some (.ref 59), some (.int (v)), some (.int (2)), some (.int (x)), some (.int (Int32.ofNat i)), some (.int (0))]) (st1 := [.ref 59]) rfl ?_
  refine Wp.gi (t := (11, 0)) rfl (WF.t (f1.wf hw) 59 rfl) (Or.inr rfl) ?_
  rw [show k1.2.2.1 59 30 = 1 from g1.2.2.2.1]
  refine Wp.if1 rfl (fun c4 => absurd c4 (show ¬ ((1 : Int32) = 0) by decide)) (fun c4 => ?_)
  refine Wp.seg 2 (pc1 := 111) (ls1 := [some (.ref 59), some (.int (v)), some (.int (2)), some (.int (x)), some (.int (Int32.ofNat i)), some (.int (0))]) (st1 := [.int (-15)]) rfl ?_
  exact Wp.reti rfl rfl (hQ k1 f1 g1)
set_option maxHeartbeats 4000000 in
theorem t_ae121 {d : Nat} {Q : KO → Prop} {h : KH} (hw : WF h) {v x a : Int32} {i : Nat} (s0 : rsO h [] false i 1 a) (ne : ¬ a - Int32.ofNat i = 0) (hd : 8 ≤ d) (hQ : ∀ k1, FA h k1 → rsO k1 [12] false i 1 a → (Q (some (.int (x - x / (a - (Int32.ofNat i)) * (a - (Int32.ofNat i)))), k1))) : Wp d 284 44 [some (.ref 59), some (.int (v)), some (.int (2)), some (.int (x)), some (.int (Int32.ofNat i)), none] [] h Q := by
  refine Wp.seg 1 (pc1 := 45) (ls1 := [some (.ref 59), some (.int (v)), some (.int (2)), some (.int (x)), some (.int (Int32.ofNat i)), none]) (st1 := [.int (2)]) rfl ?_
  refine Wp.if1 rfl (fun c1 => ?_) (fun c1 => absurd (show ¬ (2 : Int32) = 0 by decide) c1)
  refine Wp.seg 2 (pc1 := 60) (ls1 := [some (.ref 59), some (.int (v)), some (.int (2)), some (.int (x)), some (.int (Int32.ofNat i)), none]) (st1 := [.int (1), .int (2)]) rfl ?_
  refine Wp.if2 rfl (fun c2 => ?_) (fun c2 => absurd (show ¬ (2 : Int32) = (1 : Int32) by decide) c2)
  refine Wp.seg 2 (pc1 := 75) (ls1 := [some (.ref 59), some (.int (v)), some (.int (2)), some (.int (x)), some (.int (Int32.ofNat i)), none]) (st1 := [.int (2), .int (2)]) rfl ?_
  refine Wp.if2 rfl (fun c3 => absurd c3 (show ¬ (¬ (2 : Int32) = (2 : Int32)) by decide)) (fun c3 => ?_)
  refine Wp.seg 3 (pc1 := 82) (ls1 := [some (.ref 59), some (.int (v)), some (.int (2)), some (.int (x)), some (.int (Int32.ofNat i)), none]) (st1 := [.int (x), .int (Int32.ofNat i), .ref 59]) rfl ?_
  refine Wp.invV (d2 := 2) (as := [.ref 59, .int (Int32.ofNat i), .int (x)]) (r := []) (t := (11, 0)) rfl rfl rfl rfl (WF.t hw 59 rfl) rfl rfl ⟨rfl, rfl⟩ (by omega) (r281_11 hw s0 (by decide) ne (Nat.le_refl _) ?_)
  intro k1 f1 g1
  show Wp d 284 85 [some (.ref 59), some (.int (v)), some (.int (2)), some (.int (x)), some (.int (Int32.ofNat i)), none] [.int (x - x / (a - (Int32.ofNat i)) * (a - (Int32.ofNat i)))] k1 Q
  refine Wp.seg 3 (pc1 := 98) (ls1 := [some (.ref 59), some (.int (v)), some (.int (2)), some (.int (x)), some (.int (Int32.ofNat i)), some (.int (x - x / (a - (Int32.ofNat i)) * (a - (Int32.ofNat i))))]) (st1 := [.ref 59]) rfl ?_
  refine Wp.gi (t := (11, 0)) rfl (WF.t (f1.wf hw) 59 rfl) (Or.inr rfl) ?_
  rw [show k1.2.2.1 59 30 = 0 from g1.2.2.2.1]
  refine Wp.if1 rfl (fun c4 => ?_) (fun c4 => absurd (show (0 : Int32) = 0 by decide) c4)
  refine Wp.seg 1 (pc1 := 111) (ls1 := [some (.ref 59), some (.int (v)), some (.int (2)), some (.int (x)), some (.int (Int32.ofNat i)), some (.int (x - x / (a - (Int32.ofNat i)) * (a - (Int32.ofNat i))))]) (st1 := [.int (x - x / (a - (Int32.ofNat i)) * (a - (Int32.ofNat i)))]) rfl ?_
  exact Wp.reti rfl rfl (hQ k1 f1 g1)
set_option maxHeartbeats 4000000 in
theorem t_ae130 {d : Nat} {Q : KO → Prop} {h : KH} (hw : WF h) {v x a : Int32} {i : Nat} (s0 : rsO h [] false i 1 a) (e0 : a - Int32.ofNat i = 0) (hd : 8 ≤ d) (hQ : ∀ k1, FA h k1 → rsO k1 [13, 11, 20, 10, 12] true i 1 a → (Q (some (.int (-15)), k1))) : Wp d 284 44 [some (.ref 59), some (.int (v)), some (.int (3)), some (.int (x)), some (.int (Int32.ofNat i)), none] [] h Q := by
  refine Wp.seg 1 (pc1 := 45) (ls1 := [some (.ref 59), some (.int (v)), some (.int (3)), some (.int (x)), some (.int (Int32.ofNat i)), none]) (st1 := [.int (3)]) rfl ?_
  refine Wp.if1 rfl (fun c1 => ?_) (fun c1 => absurd (show ¬ (3 : Int32) = 0 by decide) c1)
  refine Wp.seg 2 (pc1 := 60) (ls1 := [some (.ref 59), some (.int (v)), some (.int (3)), some (.int (x)), some (.int (Int32.ofNat i)), none]) (st1 := [.int (1), .int (3)]) rfl ?_
  refine Wp.if2 rfl (fun c2 => ?_) (fun c2 => absurd (show ¬ (3 : Int32) = (1 : Int32) by decide) c2)
  refine Wp.seg 2 (pc1 := 75) (ls1 := [some (.ref 59), some (.int (v)), some (.int (3)), some (.int (x)), some (.int (Int32.ofNat i)), none]) (st1 := [.int (2), .int (3)]) rfl ?_
  refine Wp.if2 rfl (fun c3 => ?_) (fun c3 => absurd (show ¬ (3 : Int32) = (2 : Int32) by decide) c3)
  refine Wp.seg 3 (pc1 := 92) (ls1 := [some (.ref 59), some (.int (v)), some (.int (3)), some (.int (x)), some (.int (Int32.ofNat i)), none]) (st1 := [.int (x), .int (Int32.ofNat i), .ref 59]) rfl ?_
  refine Wp.invV (d2 := 6) (as := [.ref 59, .int (Int32.ofNat i), .int (x)]) (r := []) (t := (11, 0)) rfl rfl rfl rfl (WF.t hw 59 rfl) rfl rfl ⟨rfl, rfl⟩ (by omega) (r283_10 hw s0 (by decide) e0 (Nat.le_refl _) ?_)
  intro k1 f1 g1
  show Wp d 284 95 [some (.ref 59), some (.int (v)), some (.int (3)), some (.int (x)), some (.int (Int32.ofNat i)), none] [.int (((((x ^^^ ((Int32.ofNat i) + (5 : Int32))) * (5 : Int32)) - a) * (2 : Int32)) + (0 : Int32))] k1 Q
  refine Wp.seg 2 (pc1 := 98) (ls1 := [some (.ref 59), some (.int (v)), some (.int (3)), some (.int (x)), some (.int (Int32.ofNat i)), some (.int (((((x ^^^ ((Int32.ofNat i) + (5 : Int32))) * (5 : Int32)) - a) * (2 : Int32)) + (0 : Int32)))]) (st1 := [.ref 59]) rfl ?_
  refine Wp.gi (t := (11, 0)) rfl (WF.t (f1.wf hw) 59 rfl) (Or.inr rfl) ?_
  rw [show k1.2.2.1 59 30 = 1 from g1.2.2.2.1]
  refine Wp.if1 rfl (fun c4 => absurd c4 (show ¬ ((1 : Int32) = 0) by decide)) (fun c4 => ?_)
  refine Wp.seg 2 (pc1 := 111) (ls1 := [some (.ref 59), some (.int (v)), some (.int (3)), some (.int (x)), some (.int (Int32.ofNat i)), some (.int (((((x ^^^ ((Int32.ofNat i) + (5 : Int32))) * (5 : Int32)) - a) * (2 : Int32)) + (0 : Int32)))]) (st1 := [.int (-15)]) rfl ?_
  exact Wp.reti rfl rfl (hQ k1 f1 g1)
set_option maxHeartbeats 4000000 in
theorem t_ae131 {d : Nat} {Q : KO → Prop} {h : KH} (hw : WF h) {v x a : Int32} {i : Nat} (s0 : rsO h [] false i 1 a) (ne : ¬ a - Int32.ofNat i = 0) (hd : 8 ≤ d) (hQ : ∀ k1, FA h k1 → rsO k1 [13, 11, 20, 10, 12] false i 1 a → (Q (some (.int (((((x ^^^ ((Int32.ofNat i) + (5 : Int32))) * (5 : Int32)) - a) * (2 : Int32)) + (x - x / (a - (Int32.ofNat i)) * (a - (Int32.ofNat i))))), k1))) : Wp d 284 44 [some (.ref 59), some (.int (v)), some (.int (3)), some (.int (x)), some (.int (Int32.ofNat i)), none] [] h Q := by
  refine Wp.seg 1 (pc1 := 45) (ls1 := [some (.ref 59), some (.int (v)), some (.int (3)), some (.int (x)), some (.int (Int32.ofNat i)), none]) (st1 := [.int (3)]) rfl ?_
  refine Wp.if1 rfl (fun c1 => ?_) (fun c1 => absurd (show ¬ (3 : Int32) = 0 by decide) c1)
  refine Wp.seg 2 (pc1 := 60) (ls1 := [some (.ref 59), some (.int (v)), some (.int (3)), some (.int (x)), some (.int (Int32.ofNat i)), none]) (st1 := [.int (1), .int (3)]) rfl ?_
  refine Wp.if2 rfl (fun c2 => ?_) (fun c2 => absurd (show ¬ (3 : Int32) = (1 : Int32) by decide) c2)
  refine Wp.seg 2 (pc1 := 75) (ls1 := [some (.ref 59), some (.int (v)), some (.int (3)), some (.int (x)), some (.int (Int32.ofNat i)), none]) (st1 := [.int (2), .int (3)]) rfl ?_
  refine Wp.if2 rfl (fun c3 => ?_) (fun c3 => absurd (show ¬ (3 : Int32) = (2 : Int32) by decide) c3)
  refine Wp.seg 3 (pc1 := 92) (ls1 := [some (.ref 59), some (.int (v)), some (.int (3)), some (.int (x)), some (.int (Int32.ofNat i)), none]) (st1 := [.int (x), .int (Int32.ofNat i), .ref 59]) rfl ?_
  refine Wp.invV (d2 := 6) (as := [.ref 59, .int (Int32.ofNat i), .int (x)]) (r := []) (t := (11, 0)) rfl rfl rfl rfl (WF.t hw 59 rfl) rfl rfl ⟨rfl, rfl⟩ (by omega) (r283_11 hw s0 (by decide) ne (Nat.le_refl _) ?_)
  intro k1 f1 g1
  show Wp d 284 95 [some (.ref 59), some (.int (v)), some (.int (3)), some (.int (x)), some (.int (Int32.ofNat i)), none] [.int (((((x ^^^ ((Int32.ofNat i) + (5 : Int32))) * (5 : Int32)) - a) * (2 : Int32)) + (x - x / (a - (Int32.ofNat i)) * (a - (Int32.ofNat i))))] k1 Q
  refine Wp.seg 2 (pc1 := 98) (ls1 := [some (.ref 59), some (.int (v)), some (.int (3)), some (.int (x)), some (.int (Int32.ofNat i)), some (.int (((((x ^^^ ((Int32.ofNat i) + (5 : Int32))) * (5 : Int32)) - a) * (2 : Int32)) + (x - x / (a - (Int32.ofNat i)) * (a - (Int32.ofNat i)))))]) (st1 := [.ref 59]) rfl ?_
  refine Wp.gi (t := (11, 0)) rfl (WF.t (f1.wf hw) 59 rfl) (Or.inr rfl) ?_
  rw [show k1.2.2.1 59 30 = 0 from g1.2.2.2.1]
  refine Wp.if1 rfl (fun c4 => ?_) (fun c4 => absurd (show (0 : Int32) = 0 by decide) c4)
  refine Wp.seg 1 (pc1 := 111) (ls1 := [some (.ref 59), some (.int (v)), some (.int (3)), some (.int (x)), some (.int (Int32.ofNat i)), some (.int (((((x ^^^ ((Int32.ofNat i) + (5 : Int32))) * (5 : Int32)) - a) * (2 : Int32)) + (x - x / (a - (Int32.ofNat i)) * (a - (Int32.ofNat i)))))]) (st1 := [.int (((((x ^^^ ((Int32.ofNat i) + (5 : Int32))) * (5 : Int32)) - a) * (2 : Int32)) + (x - x / (a - (Int32.ofNat i)) * (a - (Int32.ofNat i))))]) rfl ?_
  exact Wp.reti rfl rfl (hQ k1 f1 g1)
set_option maxHeartbeats 4000000 in
theorem t_ae20 {d : Nat} {Q : KO → Prop} {h : KH} (hw : WF h) {v x a : Int32} {i : Nat} (s0 : rsO h [] false i 2 a) (hd : 8 ≤ d) (hQ : ∀ k1, FA h k1 → rsO k1 [10] false i 2 a → (Q (some (.int (x ^^^ ((Int32.ofNat i) + (5 : Int32)))), k1))) : Wp d 284 44 [some (.ref 59), some (.int (v)), some (.int (0)), some (.int (x)), some (.int (Int32.ofNat i)), none] [] h Q := by
  refine Wp.seg 1 (pc1 := 45) (ls1 := [some (.ref 59), some (.int (v)), some (.int (0)), some (.int (x)), some (.int (Int32.ofNat i)), none]) (st1 := [.int (0)]) rfl ?_
  refine Wp.if1 rfl (fun c1 => absurd c1 (show ¬ (¬ (0 : Int32) = 0) by decide)) (fun c1 => ?_)
  refine Wp.seg 3 (pc1 := 52) (ls1 := [some (.ref 59), some (.int (v)), some (.int (0)), some (.int (x)), some (.int (Int32.ofNat i)), none]) (st1 := [.int (x), .int (Int32.ofNat i), .ref 59]) rfl ?_
  refine Wp.invV (d2 := 2) (as := [.ref 59, .int (Int32.ofNat i), .int (x)]) (r := []) (t := (11, 0)) rfl rfl rfl rfl (WF.t hw 59 rfl) rfl rfl ⟨rfl, rfl⟩ (by omega) (r276_2 hw s0 (by decide) (Nat.le_refl _) ?_)
  intro k1 f1 g1
  show Wp d 284 55 [some (.ref 59), some (.int (v)), some (.int (0)), some (.int (x)), some (.int (Int32.ofNat i)), none] [.int (x ^^^ ((Int32.ofNat i) + (5 : Int32)))] k1 Q
  refine Wp.seg 3 (pc1 := 98) (ls1 := [some (.ref 59), some (.int (v)), some (.int (0)), some (.int (x)), some (.int (Int32.ofNat i)), some (.int (x ^^^ ((Int32.ofNat i) + (5 : Int32))))]) (st1 := [.ref 59]) rfl ?_
  refine Wp.gi (t := (11, 0)) rfl (WF.t (f1.wf hw) 59 rfl) (Or.inr rfl) ?_
  rw [show k1.2.2.1 59 30 = 0 from g1.2.2.2.1]
  refine Wp.if1 rfl (fun c2 => ?_) (fun c2 => absurd (show (0 : Int32) = 0 by decide) c2)
  refine Wp.seg 1 (pc1 := 111) (ls1 := [some (.ref 59), some (.int (v)), some (.int (0)), some (.int (x)), some (.int (Int32.ofNat i)), some (.int (x ^^^ ((Int32.ofNat i) + (5 : Int32))))]) (st1 := [.int (x ^^^ ((Int32.ofNat i) + (5 : Int32)))]) rfl ?_
  exact Wp.reti rfl rfl (hQ k1 f1 g1)
set_option maxHeartbeats 4000000 in
theorem t_ae21 {d : Nat} {Q : KO → Prop} {h : KH} (hw : WF h) {v x a : Int32} {i : Nat} (s0 : rsO h [] false i 2 a) (hd : 8 ≤ d) (hQ : ∀ k1, FA h k1 → rsO k1 [30, 11, 10] false i 2 a → (Q (some (.int (((x ^^^ ((Int32.ofNat i) + (5 : Int32))) - a) ^^^ x)), k1))) : Wp d 284 44 [some (.ref 59), some (.int (v)), some (.int (1)), some (.int (x)), some (.int (Int32.ofNat i)), none] [] h Q := by
  refine Wp.seg 1 (pc1 := 45) (ls1 := [some (.ref 59), some (.int (v)), some (.int (1)), some (.int (x)), some (.int (Int32.ofNat i)), none]) (st1 := [.int (1)]) rfl ?_
  refine Wp.if1 rfl (fun c1 => ?_) (fun c1 => absurd (show ¬ (1 : Int32) = 0 by decide) c1)
  refine Wp.seg 2 (pc1 := 60) (ls1 := [some (.ref 59), some (.int (v)), some (.int (1)), some (.int (x)), some (.int (Int32.ofNat i)), none]) (st1 := [.int (1), .int (1)]) rfl ?_
  refine Wp.if2 rfl (fun c2 => absurd c2 (show ¬ (¬ (1 : Int32) = (1 : Int32)) by decide)) (fun c2 => ?_)
  refine Wp.seg 3 (pc1 := 67) (ls1 := [some (.ref 59), some (.int (v)), some (.int (1)), some (.int (x)), some (.int (Int32.ofNat i)), none]) (st1 := [.int (x), .int (Int32.ofNat i), .ref 59]) rfl ?_
  refine Wp.invV (d2 := 4) (as := [.ref 59, .int (Int32.ofNat i), .int (x)]) (r := []) (t := (11, 0)) rfl rfl rfl rfl (WF.t hw 59 rfl) rfl rfl ⟨rfl, rfl⟩ (by omega) (r278_2 hw s0 (by decide) (Nat.le_refl _) ?_)
  intro k1 f1 g1
  show Wp d 284 70 [some (.ref 59), some (.int (v)), some (.int (1)), some (.int (x)), some (.int (Int32.ofNat i)), none] [.int (((x ^^^ ((Int32.ofNat i) + (5 : Int32))) - a) ^^^ x)] k1 Q
  refine Wp.seg 3 (pc1 := 98) (ls1 := [some (.ref 59), some (.int (v)), some (.int (1)), some (.int (x)), some (.int (Int32.ofNat i)), some (.int (((x ^^^ ((Int32.ofNat i) + (5 : Int32))) - a) ^^^ x))]) (st1 := [.ref 59]) rfl ?_
  refine Wp.gi (t := (11, 0)) rfl (WF.t (f1.wf hw) 59 rfl) (Or.inr rfl) ?_
  rw [show k1.2.2.1 59 30 = 0 from g1.2.2.2.1]
  refine Wp.if1 rfl (fun c3 => ?_) (fun c3 => absurd (show (0 : Int32) = 0 by decide) c3)
  refine Wp.seg 1 (pc1 := 111) (ls1 := [some (.ref 59), some (.int (v)), some (.int (1)), some (.int (x)), some (.int (Int32.ofNat i)), some (.int (((x ^^^ ((Int32.ofNat i) + (5 : Int32))) - a) ^^^ x))]) (st1 := [.int (((x ^^^ ((Int32.ofNat i) + (5 : Int32))) - a) ^^^ x)]) rfl ?_
  exact Wp.reti rfl rfl (hQ k1 f1 g1)
set_option maxHeartbeats 4000000 in
theorem t_ae220 {d : Nat} {Q : KO → Prop} {h : KH} (hw : WF h) {v x a : Int32} {i : Nat} (s0 : rsO h [] false i 2 a) (e0 : a - Int32.ofNat i = 0) (hd : 8 ≤ d) (hQ : ∀ k1, FA h k1 → rsO k1 [12] true i 2 a → (Q (some (.int (-15)), k1))) : Wp d 284 44 [some (.ref 59), some (.int (v)), some (.int (2)), some (.int (x)), some (.int (Int32.ofNat i)), none] [] h Q := by
  refine Wp.seg 1 (pc1 := 45) (ls1 := [some (.ref 59), some (.int (v)), some (.int (2)), some (.int (x)), some (.int (Int32.ofNat i)), none]) (st1 := [.int (2)]) rfl ?_
  refine Wp.if1 rfl (fun c1 => ?_) (fun c1 => absurd (show ¬ (2 : Int32) = 0 by decide) c1)
  refine Wp.seg 2 (pc1 := 60) (ls1 := [some (.ref 59), some (.int (v)), some (.int (2)), some (.int (x)), some (.int (Int32.ofNat i)), none]) (st1 := [.int (1), .int (2)]) rfl ?_
  refine Wp.if2 rfl (fun c2 => ?_) (fun c2 => absurd (show ¬ (2 : Int32) = (1 : Int32) by decide) c2)
  refine Wp.seg 2 (pc1 := 75) (ls1 := [some (.ref 59), some (.int (v)), some (.int (2)), some (.int (x)), some (.int (Int32.ofNat i)), none]) (st1 := [.int (2), .int (2)]) rfl ?_
  refine Wp.if2 rfl (fun c3 => absurd c3 (show ¬ (¬ (2 : Int32) = (2 : Int32)) by decide)) (fun c3 => ?_)
  refine Wp.seg 3 (pc1 := 82) (ls1 := [some (.ref 59), some (.int (v)), some (.int (2)), some (.int (x)), some (.int (Int32.ofNat i)), none]) (st1 := [.int (x), .int (Int32.ofNat i), .ref 59]) rfl ?_
  refine Wp.invV (d2 := 2) (as := [.ref 59, .int (Int32.ofNat i), .int (x)]) (r := []) (t := (11, 0)) rfl rfl rfl rfl (WF.t hw 59 rfl) rfl rfl ⟨rfl, rfl⟩ (by omega) (r281_20 hw s0 (by decide) e0 (Nat.le_refl _) ?_)
  intro k1 f1 g1
  show Wp d 284 85 [some (.ref 59), some (.int (v)), some (.int (2)), some (.int (x)), some (.int (Int32.ofNat i)), none] [.int (0)] k1 Q
  refine Wp.seg 3 (pc1 := 98) (ls1 := [some (.ref 59), some (.int (v)), some (.int (2)), some (.int (x)), some (.int (Int32.ofNat i)), some (.int (0))]) (st1 := [.ref 59]) rfl ?_
  refine Wp.gi (t := (11, 0)) rfl (WF.t (f1.wf hw) 59 rfl) (Or.inr rfl) ?_
  rw [show k1.2.2.1 59 30 = 1 from g1.2.2.2.1]
  refine Wp.if1 rfl (fun c4 => absurd c4 (show ¬ ((1 : Int32) = 0) by decide)) (fun c4 => ?_)
  refine Wp.seg 2 (pc1 := 111) (ls1 := [some (.ref 59), some (.int (v)), some (.int (2)), some (.int (x)), some (.int (Int32.ofNat i)), some (.int (0))]) (st1 := [.int (-15)]) rfl ?_
  exact Wp.reti rfl rfl (hQ k1 f1 g1)
set_option maxHeartbeats 4000000 in
theorem t_ae221 {d : Nat} {Q : KO → Prop} {h : KH} (hw : WF h) {v x a : Int32} {i : Nat} (s0 : rsO h [] false i 2 a) (ne : ¬ a - Int32.ofNat i = 0) (hd : 8 ≤ d) (hQ : ∀ k1, FA h k1 → rsO k1 [12] false i 2 a → (Q (some (.int (x - x / (a - (Int32.ofNat i)) * (a - (Int32.ofNat i)))), k1))) : Wp d 284 44 [some (.ref 59), some (.int (v)), some (.int (2)), some (.int (x)), some (.int (Int32.ofNat i)), none] [] h Q := by
  refine Wp.seg 1 (pc1 := 45) (ls1 := [some (.ref 59), some (.int (v)), some (.int (2)), some (.int (x)), some (.int (Int32.ofNat i)), none]) (st1 := [.int (2)]) rfl ?_
  refine Wp.if1 rfl (fun c1 => ?_) (fun c1 => absurd (show ¬ (2 : Int32) = 0 by decide) c1)
  refine Wp.seg 2 (pc1 := 60) (ls1 := [some (.ref 59), some (.int (v)), some (.int (2)), some (.int (x)), some (.int (Int32.ofNat i)), none]) (st1 := [.int (1), .int (2)]) rfl ?_
  refine Wp.if2 rfl (fun c2 => ?_) (fun c2 => absurd (show ¬ (2 : Int32) = (1 : Int32) by decide) c2)
  refine Wp.seg 2 (pc1 := 75) (ls1 := [some (.ref 59), some (.int (v)), some (.int (2)), some (.int (x)), some (.int (Int32.ofNat i)), none]) (st1 := [.int (2), .int (2)]) rfl ?_
  refine Wp.if2 rfl (fun c3 => absurd c3 (show ¬ (¬ (2 : Int32) = (2 : Int32)) by decide)) (fun c3 => ?_)
  refine Wp.seg 3 (pc1 := 82) (ls1 := [some (.ref 59), some (.int (v)), some (.int (2)), some (.int (x)), some (.int (Int32.ofNat i)), none]) (st1 := [.int (x), .int (Int32.ofNat i), .ref 59]) rfl ?_
  refine Wp.invV (d2 := 2) (as := [.ref 59, .int (Int32.ofNat i), .int (x)]) (r := []) (t := (11, 0)) rfl rfl rfl rfl (WF.t hw 59 rfl) rfl rfl ⟨rfl, rfl⟩ (by omega) (r281_21 hw s0 (by decide) ne (Nat.le_refl _) ?_)
  intro k1 f1 g1
  show Wp d 284 85 [some (.ref 59), some (.int (v)), some (.int (2)), some (.int (x)), some (.int (Int32.ofNat i)), none] [.int (x - x / (a - (Int32.ofNat i)) * (a - (Int32.ofNat i)))] k1 Q
  refine Wp.seg 3 (pc1 := 98) (ls1 := [some (.ref 59), some (.int (v)), some (.int (2)), some (.int (x)), some (.int (Int32.ofNat i)), some (.int (x - x / (a - (Int32.ofNat i)) * (a - (Int32.ofNat i))))]) (st1 := [.ref 59]) rfl ?_
  refine Wp.gi (t := (11, 0)) rfl (WF.t (f1.wf hw) 59 rfl) (Or.inr rfl) ?_
  rw [show k1.2.2.1 59 30 = 0 from g1.2.2.2.1]
  refine Wp.if1 rfl (fun c4 => ?_) (fun c4 => absurd (show (0 : Int32) = 0 by decide) c4)
  refine Wp.seg 1 (pc1 := 111) (ls1 := [some (.ref 59), some (.int (v)), some (.int (2)), some (.int (x)), some (.int (Int32.ofNat i)), some (.int (x - x / (a - (Int32.ofNat i)) * (a - (Int32.ofNat i))))]) (st1 := [.int (x - x / (a - (Int32.ofNat i)) * (a - (Int32.ofNat i)))]) rfl ?_
  exact Wp.reti rfl rfl (hQ k1 f1 g1)
set_option maxHeartbeats 4000000 in
theorem t_ae230 {d : Nat} {Q : KO → Prop} {h : KH} (hw : WF h) {v x a : Int32} {i : Nat} (s0 : rsO h [] false i 2 a) (e0 : a - Int32.ofNat i = 0) (hd : 8 ≤ d) (hQ : ∀ k1, FA h k1 → rsO k1 [13, 30, 11, 10, 12] true i 2 a → (Q (some (.int (-15)), k1))) : Wp d 284 44 [some (.ref 59), some (.int (v)), some (.int (3)), some (.int (x)), some (.int (Int32.ofNat i)), none] [] h Q := by
  refine Wp.seg 1 (pc1 := 45) (ls1 := [some (.ref 59), some (.int (v)), some (.int (3)), some (.int (x)), some (.int (Int32.ofNat i)), none]) (st1 := [.int (3)]) rfl ?_
  refine Wp.if1 rfl (fun c1 => ?_) (fun c1 => absurd (show ¬ (3 : Int32) = 0 by decide) c1)
  refine Wp.seg 2 (pc1 := 60) (ls1 := [some (.ref 59), some (.int (v)), some (.int (3)), some (.int (x)), some (.int (Int32.ofNat i)), none]) (st1 := [.int (1), .int (3)]) rfl ?_
  refine Wp.if2 rfl (fun c2 => ?_) (fun c2 => absurd (show ¬ (3 : Int32) = (1 : Int32) by decide) c2)
  refine Wp.seg 2 (pc1 := 75) (ls1 := [some (.ref 59), some (.int (v)), some (.int (3)), some (.int (x)), some (.int (Int32.ofNat i)), none]) (st1 := [.int (2), .int (3)]) rfl ?_
  refine Wp.if2 rfl (fun c3 => ?_) (fun c3 => absurd (show ¬ (3 : Int32) = (2 : Int32) by decide) c3)
  refine Wp.seg 3 (pc1 := 92) (ls1 := [some (.ref 59), some (.int (v)), some (.int (3)), some (.int (x)), some (.int (Int32.ofNat i)), none]) (st1 := [.int (x), .int (Int32.ofNat i), .ref 59]) rfl ?_
  refine Wp.invV (d2 := 6) (as := [.ref 59, .int (Int32.ofNat i), .int (x)]) (r := []) (t := (11, 0)) rfl rfl rfl rfl (WF.t hw 59 rfl) rfl rfl ⟨rfl, rfl⟩ (by omega) (r283_20 hw s0 (by decide) e0 (Nat.le_refl _) ?_)
  intro k1 f1 g1
  show Wp d 284 95 [some (.ref 59), some (.int (v)), some (.int (3)), some (.int (x)), some (.int (Int32.ofNat i)), none] [.int (((((x ^^^ ((Int32.ofNat i) + (5 : Int32))) - a) ^^^ x) * (2 : Int32)) + (0 : Int32))] k1 Q
  refine Wp.seg 2 (pc1 := 98) (ls1 := [some (.ref 59), some (.int (v)), some (.int (3)), some (.int (x)), some (.int (Int32.ofNat i)), some (.int (((((x ^^^ ((Int32.ofNat i) + (5 : Int32))) - a) ^^^ x) * (2 : Int32)) + (0 : Int32)))]) (st1 := [.ref 59]) rfl ?_
  refine Wp.gi (t := (11, 0)) rfl (WF.t (f1.wf hw) 59 rfl) (Or.inr rfl) ?_
  rw [show k1.2.2.1 59 30 = 1 from g1.2.2.2.1]
  refine Wp.if1 rfl (fun c4 => absurd c4 (show ¬ ((1 : Int32) = 0) by decide)) (fun c4 => ?_)
  refine Wp.seg 2 (pc1 := 111) (ls1 := [some (.ref 59), some (.int (v)), some (.int (3)), some (.int (x)), some (.int (Int32.ofNat i)), some (.int (((((x ^^^ ((Int32.ofNat i) + (5 : Int32))) - a) ^^^ x) * (2 : Int32)) + (0 : Int32)))]) (st1 := [.int (-15)]) rfl ?_
  exact Wp.reti rfl rfl (hQ k1 f1 g1)
set_option maxHeartbeats 4000000 in
theorem t_ae231 {d : Nat} {Q : KO → Prop} {h : KH} (hw : WF h) {v x a : Int32} {i : Nat} (s0 : rsO h [] false i 2 a) (ne : ¬ a - Int32.ofNat i = 0) (hd : 8 ≤ d) (hQ : ∀ k1, FA h k1 → rsO k1 [13, 30, 11, 10, 12] false i 2 a → (Q (some (.int (((((x ^^^ ((Int32.ofNat i) + (5 : Int32))) - a) ^^^ x) * (2 : Int32)) + (x - x / (a - (Int32.ofNat i)) * (a - (Int32.ofNat i))))), k1))) : Wp d 284 44 [some (.ref 59), some (.int (v)), some (.int (3)), some (.int (x)), some (.int (Int32.ofNat i)), none] [] h Q := by
  refine Wp.seg 1 (pc1 := 45) (ls1 := [some (.ref 59), some (.int (v)), some (.int (3)), some (.int (x)), some (.int (Int32.ofNat i)), none]) (st1 := [.int (3)]) rfl ?_
  refine Wp.if1 rfl (fun c1 => ?_) (fun c1 => absurd (show ¬ (3 : Int32) = 0 by decide) c1)
  refine Wp.seg 2 (pc1 := 60) (ls1 := [some (.ref 59), some (.int (v)), some (.int (3)), some (.int (x)), some (.int (Int32.ofNat i)), none]) (st1 := [.int (1), .int (3)]) rfl ?_
  refine Wp.if2 rfl (fun c2 => ?_) (fun c2 => absurd (show ¬ (3 : Int32) = (1 : Int32) by decide) c2)
  refine Wp.seg 2 (pc1 := 75) (ls1 := [some (.ref 59), some (.int (v)), some (.int (3)), some (.int (x)), some (.int (Int32.ofNat i)), none]) (st1 := [.int (2), .int (3)]) rfl ?_
  refine Wp.if2 rfl (fun c3 => ?_) (fun c3 => absurd (show ¬ (3 : Int32) = (2 : Int32) by decide) c3)
  refine Wp.seg 3 (pc1 := 92) (ls1 := [some (.ref 59), some (.int (v)), some (.int (3)), some (.int (x)), some (.int (Int32.ofNat i)), none]) (st1 := [.int (x), .int (Int32.ofNat i), .ref 59]) rfl ?_
  refine Wp.invV (d2 := 6) (as := [.ref 59, .int (Int32.ofNat i), .int (x)]) (r := []) (t := (11, 0)) rfl rfl rfl rfl (WF.t hw 59 rfl) rfl rfl ⟨rfl, rfl⟩ (by omega) (r283_21 hw s0 (by decide) ne (Nat.le_refl _) ?_)
  intro k1 f1 g1
  show Wp d 284 95 [some (.ref 59), some (.int (v)), some (.int (3)), some (.int (x)), some (.int (Int32.ofNat i)), none] [.int (((((x ^^^ ((Int32.ofNat i) + (5 : Int32))) - a) ^^^ x) * (2 : Int32)) + (x - x / (a - (Int32.ofNat i)) * (a - (Int32.ofNat i))))] k1 Q
  refine Wp.seg 2 (pc1 := 98) (ls1 := [some (.ref 59), some (.int (v)), some (.int (3)), some (.int (x)), some (.int (Int32.ofNat i)), some (.int (((((x ^^^ ((Int32.ofNat i) + (5 : Int32))) - a) ^^^ x) * (2 : Int32)) + (x - x / (a - (Int32.ofNat i)) * (a - (Int32.ofNat i)))))]) (st1 := [.ref 59]) rfl ?_
  refine Wp.gi (t := (11, 0)) rfl (WF.t (f1.wf hw) 59 rfl) (Or.inr rfl) ?_
  rw [show k1.2.2.1 59 30 = 0 from g1.2.2.2.1]
  refine Wp.if1 rfl (fun c4 => ?_) (fun c4 => absurd (show (0 : Int32) = 0 by decide) c4)
  refine Wp.seg 1 (pc1 := 111) (ls1 := [some (.ref 59), some (.int (v)), some (.int (3)), some (.int (x)), some (.int (Int32.ofNat i)), some (.int (((((x ^^^ ((Int32.ofNat i) + (5 : Int32))) - a) ^^^ x) * (2 : Int32)) + (x - x / (a - (Int32.ofNat i)) * (a - (Int32.ofNat i)))))]) (st1 := [.int (((((x ^^^ ((Int32.ofNat i) + (5 : Int32))) - a) ^^^ x) * (2 : Int32)) + (x - x / (a - (Int32.ofNat i)) * (a - (Int32.ofNat i))))]) rfl ?_
  exact Wp.reti rfl rfl (hQ k1 f1 g1)
set_option maxHeartbeats 4000000 in
theorem t_ae30 {d : Nat} {Q : KO → Prop} {h : KH} (hw : WF h) {v x a : Int32} {i : Nat} (s0 : rsO h [] false i 3 a) (hd : 8 ≤ d) (hQ : ∀ k1, FA h k1 → rsO k1 [50, 10] false i 3 a → (Q (some (.int ((x + (Int32.ofNat i)) ^^^ ((Int32.ofNat i) + (5 : Int32)))), k1))) : Wp d 284 44 [some (.ref 59), some (.int (v)), some (.int (0)), some (.int (x)), some (.int (Int32.ofNat i)), none] [] h Q := by
  refine Wp.seg 1 (pc1 := 45) (ls1 := [some (.ref 59), some (.int (v)), some (.int (0)), some (.int (x)), some (.int (Int32.ofNat i)), none]) (st1 := [.int (0)]) rfl ?_
  refine Wp.if1 rfl (fun c1 => absurd c1 (show ¬ (¬ (0 : Int32) = 0) by decide)) (fun c1 => ?_)
  refine Wp.seg 3 (pc1 := 52) (ls1 := [some (.ref 59), some (.int (v)), some (.int (0)), some (.int (x)), some (.int (Int32.ofNat i)), none]) (st1 := [.int (x), .int (Int32.ofNat i), .ref 59]) rfl ?_
  refine Wp.invV (d2 := 2) (as := [.ref 59, .int (Int32.ofNat i), .int (x)]) (r := []) (t := (11, 0)) rfl rfl rfl rfl (WF.t hw 59 rfl) rfl rfl ⟨rfl, rfl⟩ (by omega) (r276_3 hw s0 (by decide) (Nat.le_refl _) ?_)
  intro k1 f1 g1
  show Wp d 284 55 [some (.ref 59), some (.int (v)), some (.int (0)), some (.int (x)), some (.int (Int32.ofNat i)), none] [.int ((x + (Int32.ofNat i)) ^^^ ((Int32.ofNat i) + (5 : Int32)))] k1 Q
  refine Wp.seg 3 (pc1 := 98) (ls1 := [some (.ref 59), some (.int (v)), some (.int (0)), some (.int (x)), some (.int (Int32.ofNat i)), some (.int ((x + (Int32.ofNat i)) ^^^ ((Int32.ofNat i) + (5 : Int32))))]) (st1 := [.ref 59]) rfl ?_
  refine Wp.gi (t := (11, 0)) rfl (WF.t (f1.wf hw) 59 rfl) (Or.inr rfl) ?_
  rw [show k1.2.2.1 59 30 = 0 from g1.2.2.2.1]
  refine Wp.if1 rfl (fun c2 => ?_) (fun c2 => absurd (show (0 : Int32) = 0 by decide) c2)
  refine Wp.seg 1 (pc1 := 111) (ls1 := [some (.ref 59), some (.int (v)), some (.int (0)), some (.int (x)), some (.int (Int32.ofNat i)), some (.int ((x + (Int32.ofNat i)) ^^^ ((Int32.ofNat i) + (5 : Int32))))]) (st1 := [.int ((x + (Int32.ofNat i)) ^^^ ((Int32.ofNat i) + (5 : Int32)))]) rfl ?_
  exact Wp.reti rfl rfl (hQ k1 f1 g1)
set_option maxHeartbeats 4000000 in
theorem t_ae31 {d : Nat} {Q : KO → Prop} {h : KH} (hw : WF h) {v x a : Int32} {i : Nat} (s0 : rsO h [] false i 3 a) (hd : 8 ≤ d) (hQ : ∀ k1, FA h k1 → rsO k1 [30, 11, 50, 10] false i 3 a → (Q (some (.int ((((x + (Int32.ofNat i)) ^^^ ((Int32.ofNat i) + (5 : Int32))) - a) ^^^ x)), k1))) : Wp d 284 44 [some (.ref 59), some (.int (v)), some (.int (1)), some (.int (x)), some (.int (Int32.ofNat i)), none] [] h Q := by
  refine Wp.seg 1 (pc1 := 45) (ls1 := [some (.ref 59), some (.int (v)), some (.int (1)), some (.int (x)), some (.int (Int32.ofNat i)), none]) (st1 := [.int (1)]) rfl ?_
  refine Wp.if1 rfl (fun c1 => ?_) (fun c1 => absurd (show ¬ (1 : Int32) = 0 by decide) c1)
  refine Wp.seg 2 (pc1 := 60) (ls1 := [some (.ref 59), some (.int (v)), some (.int (1)), some (.int (x)), some (.int (Int32.ofNat i)), none]) (st1 := [.int (1), .int (1)]) rfl ?_
  refine Wp.if2 rfl (fun c2 => absurd c2 (show ¬ (¬ (1 : Int32) = (1 : Int32)) by decide)) (fun c2 => ?_)
  refine Wp.seg 3 (pc1 := 67) (ls1 := [some (.ref 59), some (.int (v)), some (.int (1)), some (.int (x)), some (.int (Int32.ofNat i)), none]) (st1 := [.int (x), .int (Int32.ofNat i), .ref 59]) rfl ?_
  refine Wp.invV (d2 := 4) (as := [.ref 59, .int (Int32.ofNat i), .int (x)]) (r := []) (t := (11, 0)) rfl rfl rfl rfl (WF.t hw 59 rfl) rfl rfl ⟨rfl, rfl⟩ (by omega) (r278_3 hw s0 (by decide) (Nat.le_refl _) ?_)
  intro k1 f1 g1
  show Wp d 284 70 [some (.ref 59), some (.int (v)), some (.int (1)), some (.int (x)), some (.int (Int32.ofNat i)), none] [.int ((((x + (Int32.ofNat i)) ^^^ ((Int32.ofNat i) + (5 : Int32))) - a) ^^^ x)] k1 Q
  refine Wp.seg 3 (pc1 := 98) (ls1 := [some (.ref 59), some (.int (v)), some (.int (1)), some (.int (x)), some (.int (Int32.ofNat i)), some (.int ((((x + (Int32.ofNat i)) ^^^ ((Int32.ofNat i) + (5 : Int32))) - a) ^^^ x))]) (st1 := [.ref 59]) rfl ?_
  refine Wp.gi (t := (11, 0)) rfl (WF.t (f1.wf hw) 59 rfl) (Or.inr rfl) ?_
  rw [show k1.2.2.1 59 30 = 0 from g1.2.2.2.1]
  refine Wp.if1 rfl (fun c3 => ?_) (fun c3 => absurd (show (0 : Int32) = 0 by decide) c3)
  refine Wp.seg 1 (pc1 := 111) (ls1 := [some (.ref 59), some (.int (v)), some (.int (1)), some (.int (x)), some (.int (Int32.ofNat i)), some (.int ((((x + (Int32.ofNat i)) ^^^ ((Int32.ofNat i) + (5 : Int32))) - a) ^^^ x))]) (st1 := [.int ((((x + (Int32.ofNat i)) ^^^ ((Int32.ofNat i) + (5 : Int32))) - a) ^^^ x)]) rfl ?_
  exact Wp.reti rfl rfl (hQ k1 f1 g1)
set_option maxHeartbeats 4000000 in
theorem t_ae320 {d : Nat} {Q : KO → Prop} {h : KH} (hw : WF h) {v x a : Int32} {i : Nat} (s0 : rsO h [] false i 3 a) (e0 : a - Int32.ofNat i = 0) (hd : 8 ≤ d) (hQ : ∀ k1, FA h k1 → rsO k1 [12] true i 3 a → (Q (some (.int (-15)), k1))) : Wp d 284 44 [some (.ref 59), some (.int (v)), some (.int (2)), some (.int (x)), some (.int (Int32.ofNat i)), none] [] h Q := by
  refine Wp.seg 1 (pc1 := 45) (ls1 := [some (.ref 59), some (.int (v)), some (.int (2)), some (.int (x)), some (.int (Int32.ofNat i)), none]) (st1 := [.int (2)]) rfl ?_
  refine Wp.if1 rfl (fun c1 => ?_) (fun c1 => absurd (show ¬ (2 : Int32) = 0 by decide) c1)
  refine Wp.seg 2 (pc1 := 60) (ls1 := [some (.ref 59), some (.int (v)), some (.int (2)), some (.int (x)), some (.int (Int32.ofNat i)), none]) (st1 := [.int (1), .int (2)]) rfl ?_
  refine Wp.if2 rfl (fun c2 => ?_) (fun c2 => absurd (show ¬ (2 : Int32) = (1 : Int32) by decide) c2)
  refine Wp.seg 2 (pc1 := 75) (ls1 := [some (.ref 59), some (.int (v)), some (.int (2)), some (.int (x)), some (.int (Int32.ofNat i)), none]) (st1 := [.int (2), .int (2)]) rfl ?_
  refine Wp.if2 rfl (fun c3 => absurd c3 (show ¬ (¬ (2 : Int32) = (2 : Int32)) by decide)) (fun c3 => ?_)
  refine Wp.seg 3 (pc1 := 82) (ls1 := [some (.ref 59), some (.int (v)), some (.int (2)), some (.int (x)), some (.int (Int32.ofNat i)), none]) (st1 := [.int (x), .int (Int32.ofNat i), .ref 59]) rfl ?_
  refine Wp.invV (d2 := 2) (as := [.ref 59, .int (Int32.ofNat i), .int (x)]) (r := []) (t := (11, 0)) rfl rfl rfl rfl (WF.t hw 59 rfl) rfl rfl ⟨rfl, rfl⟩ (by omega) (r281_30 hw s0 (by decide) e0 (Nat.le_refl _) ?_)
  intro k1 f1 g1
  show Wp d 284 85 [some (.ref 59), some (.int (v)), some (.int (2)), some (.int (x)), some (.int (Int32.ofNat i)), none] [.int (0)] k1 Q
  refine Wp.seg 3 (pc1 := 98) (ls1 := [some (.ref 59), some (.int (v)), some (.int (2)), some (.int (x)), some (.int (Int32.ofNat i)), some (.int (0))]) (st1 := [.ref 59]) rfl ?_
  refine Wp.gi (t := (11, 0)) rfl (WF.t (f1.wf hw) 59 rfl) (Or.inr rfl) ?_
  rw [show k1.2.2.1 59 30 = 1 from g1.2.2.2.1]
  refine Wp.if1 rfl (fun c4 => absurd c4 (show ¬ ((1 : Int32) = 0) by decide)) (fun c4 => ?_)
  refine Wp.seg 2 (pc1 := 111) (ls1 := [some (.ref 59), some (.int (v)), some (.int (2)), some (.int (x)), some (.int (Int32.ofNat i)), some (.int (0))]) (st1 := [.int (-15)]) rfl ?_
  exact Wp.reti rfl rfl (hQ k1 f1 g1)
set_option maxHeartbeats 4000000 in
theorem t_ae321 {d : Nat} {Q : KO → Prop} {h : KH} (hw : WF h) {v x a : Int32} {i : Nat} (s0 : rsO h [] false i 3 a) (ne : ¬ a - Int32.ofNat i = 0) (hd : 8 ≤ d) (hQ : ∀ k1, FA h k1 → rsO k1 [12] false i 3 a → (Q (some (.int (x - x / (a - (Int32.ofNat i)) * (a - (Int32.ofNat i)))), k1))) : Wp d 284 44 [some (.ref 59), some (.int (v)), some (.int (2)), some (.int (x)), some (.int (Int32.ofNat i)), none] [] h Q := by
  refine Wp.seg 1 (pc1 := 45) (ls1 := [some (.ref 59), some (.int (v)), some (.int (2)), some (.int (x)), some (.int (Int32.ofNat i)), none]) (st1 := [.int (2)]) rfl ?_
  refine Wp.if1 rfl (fun c1 => ?_) (fun c1 => absurd (show ¬ (2 : Int32) = 0 by decide) c1)
  refine Wp.seg 2 (pc1 := 60) (ls1 := [some (.ref 59), some (.int (v)), some (.int (2)), some (.int (x)), some (.int (Int32.ofNat i)), none]) (st1 := [.int (1), .int (2)]) rfl ?_
  refine Wp.if2 rfl (fun c2 => ?_) (fun c2 => absurd (show ¬ (2 : Int32) = (1 : Int32) by decide) c2)
  refine Wp.seg 2 (pc1 := 75) (ls1 := [some (.ref 59), some (.int (v)), some (.int (2)), some (.int (x)), some (.int (Int32.ofNat i)), none]) (st1 := [.int (2), .int (2)]) rfl ?_
  refine Wp.if2 rfl (fun c3 => absurd c3 (show ¬ (¬ (2 : Int32) = (2 : Int32)) by decide)) (fun c3 => ?_)
  refine Wp.seg 3 (pc1 := 82) (ls1 := [some (.ref 59), some (.int (v)), some (.int (2)), some (.int (x)), some (.int (Int32.ofNat i)), none]) (st1 := [.int (x), .int (Int32.ofNat i), .ref 59]) rfl ?_
  refine Wp.invV (d2 := 2) (as := [.ref 59, .int (Int32.ofNat i), .int (x)]) (r := []) (t := (11, 0)) rfl rfl rfl rfl (WF.t hw 59 rfl) rfl rfl ⟨rfl, rfl⟩ (by omega) (r281_31 hw s0 (by decide) ne (Nat.le_refl _) ?_)
  intro k1 f1 g1
  show Wp d 284 85 [some (.ref 59), some (.int (v)), some (.int (2)), some (.int (x)), some (.int (Int32.ofNat i)), none] [.int (x - x / (a - (Int32.ofNat i)) * (a - (Int32.ofNat i)))] k1 Q
  refine Wp.seg 3 (pc1 := 98) (ls1 := [some (.ref 59), some (.int (v)), some (.int (2)), some (.int (x)), some (.int (Int32.ofNat i)), some (.int (x - x / (a - (Int32.ofNat i)) * (a - (Int32.ofNat i))))]) (st1 := [.ref 59]) rfl ?_
  refine Wp.gi (t := (11, 0)) rfl (WF.t (f1.wf hw) 59 rfl) (Or.inr rfl) ?_
  rw [show k1.2.2.1 59 30 = 0 from g1.2.2.2.1]
  refine Wp.if1 rfl (fun c4 => ?_) (fun c4 => absurd (show (0 : Int32) = 0 by decide) c4)
  refine Wp.seg 1 (pc1 := 111) (ls1 := [some (.ref 59), some (.int (v)), some (.int (2)), some (.int (x)), some (.int (Int32.ofNat i)), some (.int (x - x / (a - (Int32.ofNat i)) * (a - (Int32.ofNat i))))]) (st1 := [.int (x - x / (a - (Int32.ofNat i)) * (a - (Int32.ofNat i)))]) rfl ?_
  exact Wp.reti rfl rfl (hQ k1 f1 g1)
set_option maxHeartbeats 4000000 in
theorem t_ae330 {d : Nat} {Q : KO → Prop} {h : KH} (hw : WF h) {v x a : Int32} {i : Nat} (s0 : rsO h [] false i 3 a) (e0 : a - Int32.ofNat i = 0) (hd : 8 ≤ d) (hQ : ∀ k1, FA h k1 → rsO k1 [51, 13, 30, 11, 50, 10, 12] true i 3 a → (Q (some (.int (-15)), k1))) : Wp d 284 44 [some (.ref 59), some (.int (v)), some (.int (3)), some (.int (x)), some (.int (Int32.ofNat i)), none] [] h Q := by
  refine Wp.seg 1 (pc1 := 45) (ls1 := [some (.ref 59), some (.int (v)), some (.int (3)), some (.int (x)), some (.int (Int32.ofNat i)), none]) (st1 := [.int (3)]) rfl ?_
  refine Wp.if1 rfl (fun c1 => ?_) (fun c1 => absurd (show ¬ (3 : Int32) = 0 by decide) c1)
  refine Wp.seg 2 (pc1 := 60) (ls1 := [some (.ref 59), some (.int (v)), some (.int (3)), some (.int (x)), some (.int (Int32.ofNat i)), none]) (st1 := [.int (1), .int (3)]) rfl ?_
  refine Wp.if2 rfl (fun c2 => ?_) (fun c2 => absurd (show ¬ (3 : Int32) = (1 : Int32) by decide) c2)
  refine Wp.seg 2 (pc1 := 75) (ls1 := [some (.ref 59), some (.int (v)), some (.int (3)), some (.int (x)), some (.int (Int32.ofNat i)), none]) (st1 := [.int (2), .int (3)]) rfl ?_
  refine Wp.if2 rfl (fun c3 => ?_) (fun c3 => absurd (show ¬ (3 : Int32) = (2 : Int32) by decide) c3)
  refine Wp.seg 3 (pc1 := 92) (ls1 := [some (.ref 59), some (.int (v)), some (.int (3)), some (.int (x)), some (.int (Int32.ofNat i)), none]) (st1 := [.int (x), .int (Int32.ofNat i), .ref 59]) rfl ?_
  refine Wp.invV (d2 := 6) (as := [.ref 59, .int (Int32.ofNat i), .int (x)]) (r := []) (t := (11, 0)) rfl rfl rfl rfl (WF.t hw 59 rfl) rfl rfl ⟨rfl, rfl⟩ (by omega) (r283_30 hw s0 (by decide) e0 (Nat.le_refl _) ?_)
  intro k1 f1 g1
  show Wp d 284 95 [some (.ref 59), some (.int (v)), some (.int (3)), some (.int (x)), some (.int (Int32.ofNat i)), none] [.int (0)] k1 Q
  refine Wp.seg 2 (pc1 := 98) (ls1 := [some (.ref 59), some (.int (v)), some (.int (3)), some (.int (x)), some (.int (Int32.ofNat i)), some (.int (0))]) (st1 := [.ref 59]) rfl ?_
  refine Wp.gi (t := (11, 0)) rfl (WF.t (f1.wf hw) 59 rfl) (Or.inr rfl) ?_
  rw [show k1.2.2.1 59 30 = 1 from g1.2.2.2.1]
  refine Wp.if1 rfl (fun c4 => absurd c4 (show ¬ ((1 : Int32) = 0) by decide)) (fun c4 => ?_)
  refine Wp.seg 2 (pc1 := 111) (ls1 := [some (.ref 59), some (.int (v)), some (.int (3)), some (.int (x)), some (.int (Int32.ofNat i)), some (.int (0))]) (st1 := [.int (-15)]) rfl ?_
  exact Wp.reti rfl rfl (hQ k1 f1 g1)
set_option maxHeartbeats 4000000 in
theorem t_ae331 {d : Nat} {Q : KO → Prop} {h : KH} (hw : WF h) {v x a : Int32} {i : Nat} (s0 : rsO h [] false i 3 a) (ne : ¬ a - Int32.ofNat i = 0) (hd : 8 ≤ d) (hQ : ∀ k1, FA h k1 → rsO k1 [51, 13, 30, 11, 50, 10, 12, 30, 11, 50, 10] false i 3 a → (Q (some (.int (((((((x + (Int32.ofNat i)) ^^^ ((Int32.ofNat i) + (5 : Int32))) - a) ^^^ x) * (2 : Int32)) + (x - x / (a - (Int32.ofNat i)) * (a - (Int32.ofNat i)))) - ((((a + (Int32.ofNat i)) ^^^ ((Int32.ofNat i) + (5 : Int32))) - a) ^^^ a))), k1))) : Wp d 284 44 [some (.ref 59), some (.int (v)), some (.int (3)), some (.int (x)), some (.int (Int32.ofNat i)), none] [] h Q := by
  refine Wp.seg 1 (pc1 := 45) (ls1 := [some (.ref 59), some (.int (v)), some (.int (3)), some (.int (x)), some (.int (Int32.ofNat i)), none]) (st1 := [.int (3)]) rfl ?_
  refine Wp.if1 rfl (fun c1 => ?_) (fun c1 => absurd (show ¬ (3 : Int32) = 0 by decide) c1)
  refine Wp.seg 2 (pc1 := 60) (ls1 := [some (.ref 59), some (.int (v)), some (.int (3)), some (.int (x)), some (.int (Int32.ofNat i)), none]) (st1 := [.int (1), .int (3)]) rfl ?_
  refine Wp.if2 rfl (fun c2 => ?_) (fun c2 => absurd (show ¬ (3 : Int32) = (1 : Int32) by decide) c2)
  refine Wp.seg 2 (pc1 := 75) (ls1 := [some (.ref 59), some (.int (v)), some (.int (3)), some (.int (x)), some (.int (Int32.ofNat i)), none]) (st1 := [.int (2), .int (3)]) rfl ?_
  refine Wp.if2 rfl (fun c3 => ?_) (fun c3 => absurd (show ¬ (3 : Int32) = (2 : Int32) by decide) c3)
  refine Wp.seg 3 (pc1 := 92) (ls1 := [some (.ref 59), some (.int (v)), some (.int (3)), some (.int (x)), some (.int (Int32.ofNat i)), none]) (st1 := [.int (x), .int (Int32.ofNat i), .ref 59]) rfl ?_
  refine Wp.invV (d2 := 6) (as := [.ref 59, .int (Int32.ofNat i), .int (x)]) (r := []) (t := (11, 0)) rfl rfl rfl rfl (WF.t hw 59 rfl) rfl rfl ⟨rfl, rfl⟩ (by omega) (r283_31 hw s0 (by decide) ne (Nat.le_refl _) ?_)
  intro k1 f1 g1
  show Wp d 284 95 [some (.ref 59), some (.int (v)), some (.int (3)), some (.int (x)), some (.int (Int32.ofNat i)), none] [.int (((((((x + (Int32.ofNat i)) ^^^ ((Int32.ofNat i) + (5 : Int32))) - a) ^^^ x) * (2 : Int32)) + (x - x / (a - (Int32.ofNat i)) * (a - (Int32.ofNat i)))) - ((((a + (Int32.ofNat i)) ^^^ ((Int32.ofNat i) + (5 : Int32))) - a) ^^^ a))] k1 Q
  refine Wp.seg 2 (pc1 := 98) (ls1 := [some (.ref 59), some (.int (v)), some (.int (3)), some (.int (x)), some (.int (Int32.ofNat i)), some (.int (((((((x + (Int32.ofNat i)) ^^^ ((Int32.ofNat i) + (5 : Int32))) - a) ^^^ x) * (2 : Int32)) + (x - x / (a - (Int32.ofNat i)) * (a - (Int32.ofNat i)))) - ((((a + (Int32.ofNat i)) ^^^ ((Int32.ofNat i) + (5 : Int32))) - a) ^^^ a)))]) (st1 := [.ref 59]) rfl ?_
  refine Wp.gi (t := (11, 0)) rfl (WF.t (f1.wf hw) 59 rfl) (Or.inr rfl) ?_
  rw [show k1.2.2.1 59 30 = 0 from g1.2.2.2.1]
  refine Wp.if1 rfl (fun c4 => ?_) (fun c4 => absurd (show (0 : Int32) = 0 by decide) c4)
  refine Wp.seg 1 (pc1 := 111) (ls1 := [some (.ref 59), some (.int (v)), some (.int (3)), some (.int (x)), some (.int (Int32.ofNat i)), some (.int (((((((x + (Int32.ofNat i)) ^^^ ((Int32.ofNat i) + (5 : Int32))) - a) ^^^ x) * (2 : Int32)) + (x - x / (a - (Int32.ofNat i)) * (a - (Int32.ofNat i)))) - ((((a + (Int32.ofNat i)) ^^^ ((Int32.ofNat i) + (5 : Int32))) - a) ^^^ a)))]) (st1 := [.int (((((((x + (Int32.ofNat i)) ^^^ ((Int32.ofNat i) + (5 : Int32))) - a) ^^^ x) * (2 : Int32)) + (x - x / (a - (Int32.ofNat i)) * (a - (Int32.ofNat i)))) - ((((a + (Int32.ofNat i)) ^^^ ((Int32.ofNat i) + (5 : Int32))) - a) ^^^ a))]) rfl ?_
  exact Wp.reti rfl rfl (hQ k1 f1 g1)
set_option maxHeartbeats 4000000 in
theorem t_ae40 {d : Nat} {Q : KO → Prop} {h : KH} (hw : WF h) {v x a : Int32} {i : Nat} (s0 : rsO h [] false i 4 a) (hd : 8 ≤ d) (hQ : ∀ k1, FA h k1 → rsO k1 [10] false i 4 a → (Q (some (.int (x ^^^ ((Int32.ofNat i) + (5 : Int32)))), k1))) : Wp d 284 44 [some (.ref 59), some (.int (v)), some (.int (0)), some (.int (x)), some (.int (Int32.ofNat i)), none] [] h Q := by
  refine Wp.seg 1 (pc1 := 45) (ls1 := [some (.ref 59), some (.int (v)), some (.int (0)), some (.int (x)), some (.int (Int32.ofNat i)), none]) (st1 := [.int (0)]) rfl ?_
  refine Wp.if1 rfl (fun c1 => absurd c1 (show ¬ (¬ (0 : Int32) = 0) by decide)) (fun c1 => ?_)
  refine Wp.seg 3 (pc1 := 52) (ls1 := [some (.ref 59), some (.int (v)), some (.int (0)), some (.int (x)), some (.int (Int32.ofNat i)), none]) (st1 := [.int (x), .int (Int32.ofNat i), .ref 59]) rfl ?_
  refine Wp.invV (d2 := 2) (as := [.ref 59, .int (Int32.ofNat i), .int (x)]) (r := []) (t := (11, 0)) rfl rfl rfl rfl (WF.t hw 59 rfl) rfl rfl ⟨rfl, rfl⟩ (by omega) (r276_4 hw s0 (by decide) (Nat.le_refl _) ?_)
  intro k1 f1 g1
  show Wp d 284 55 [some (.ref 59), some (.int (v)), some (.int (0)), some (.int (x)), some (.int (Int32.ofNat i)), none] [.int (x ^^^ ((Int32.ofNat i) + (5 : Int32)))] k1 Q
  refine Wp.seg 3 (pc1 := 98) (ls1 := [some (.ref 59), some (.int (v)), some (.int (0)), some (.int (x)), some (.int (Int32.ofNat i)), some (.int (x ^^^ ((Int32.ofNat i) + (5 : Int32))))]) (st1 := [.ref 59]) rfl ?_
  refine Wp.gi (t := (11, 0)) rfl (WF.t (f1.wf hw) 59 rfl) (Or.inr rfl) ?_
  rw [show k1.2.2.1 59 30 = 0 from g1.2.2.2.1]
  refine Wp.if1 rfl (fun c2 => ?_) (fun c2 => absurd (show (0 : Int32) = 0 by decide) c2)
  refine Wp.seg 1 (pc1 := 111) (ls1 := [some (.ref 59), some (.int (v)), some (.int (0)), some (.int (x)), some (.int (Int32.ofNat i)), some (.int (x ^^^ ((Int32.ofNat i) + (5 : Int32))))]) (st1 := [.int (x ^^^ ((Int32.ofNat i) + (5 : Int32)))]) rfl ?_
  exact Wp.reti rfl rfl (hQ k1 f1 g1)
set_option maxHeartbeats 4000000 in
theorem t_ae41 {d : Nat} {Q : KO → Prop} {h : KH} (hw : WF h) {v x a : Int32} {i : Nat} (s0 : rsO h [] false i 4 a) (hd : 8 ≤ d) (hQ : ∀ k1, FA h k1 → rsO k1 [11, 10] false i 4 a → (Q (some (.int ((x ^^^ ((Int32.ofNat i) + (5 : Int32))) - a)), k1))) : Wp d 284 44 [some (.ref 59), some (.int (v)), some (.int (1)), some (.int (x)), some (.int (Int32.ofNat i)), none] [] h Q := by
  refine Wp.seg 1 (pc1 := 45) (ls1 := [some (.ref 59), some (.int (v)), some (.int (1)), some (.int (x)), some (.int (Int32.ofNat i)), none]) (st1 := [.int (1)]) rfl ?_
  refine Wp.if1 rfl (fun c1 => ?_) (fun c1 => absurd (show ¬ (1 : Int32) = 0 by decide) c1)
  refine Wp.seg 2 (pc1 := 60) (ls1 := [some (.ref 59), some (.int (v)), some (.int (1)), some (.int (x)), some (.int (Int32.ofNat i)), none]) (st1 := [.int (1), .int (1)]) rfl ?_
  refine Wp.if2 rfl (fun c2 => absurd c2 (show ¬ (¬ (1 : Int32) = (1 : Int32)) by decide)) (fun c2 => ?_)
  refine Wp.seg 3 (pc1 := 67) (ls1 := [some (.ref 59), some (.int (v)), some (.int (1)), some (.int (x)), some (.int (Int32.ofNat i)), none]) (st1 := [.int (x), .int (Int32.ofNat i), .ref 59]) rfl ?_
  refine Wp.invV (d2 := 4) (as := [.ref 59, .int (Int32.ofNat i), .int (x)]) (r := []) (t := (11, 0)) rfl rfl rfl rfl (WF.t hw 59 rfl) rfl rfl ⟨rfl, rfl⟩ (by omega) (r278_4 hw s0 (by decide) (Nat.le_refl _) ?_)
  intro k1 f1 g1
  show Wp d 284 70 [some (.ref 59), some (.int (v)), some (.int (1)), some (.int (x)), some (.int (Int32.ofNat i)), none] [.int ((x ^^^ ((Int32.ofNat i) + (5 : Int32))) - a)] k1 Q
  refine Wp.seg 3 (pc1 := 98) (ls1 := [some (.ref 59), some (.int (v)), some (.int (1)), some (.int (x)), some (.int (Int32.ofNat i)), some (.int ((x ^^^ ((Int32.ofNat i) + (5 : Int32))) - a))]) (st1 := [.ref 59]) rfl ?_
  refine Wp.gi (t := (11, 0)) rfl (WF.t (f1.wf hw) 59 rfl) (Or.inr rfl) ?_
  rw [show k1.2.2.1 59 30 = 0 from g1.2.2.2.1]
  refine Wp.if1 rfl (fun c3 => ?_) (fun c3 => absurd (show (0 : Int32) = 0 by decide) c3)
  refine Wp.seg 1 (pc1 := 111) (ls1 := [some (.ref 59), some (.int (v)), some (.int (1)), some (.int (x)), some (.int (Int32.ofNat i)), some (.int ((x ^^^ ((Int32.ofNat i) + (5 : Int32))) - a))]) (st1 := [.int ((x ^^^ ((Int32.ofNat i) + (5 : Int32))) - a)]) rfl ?_
  exact Wp.reti rfl rfl (hQ k1 f1 g1)
set_option maxHeartbeats 4000000 in
theorem t_ae420 {d : Nat} {Q : KO → Prop} {h : KH} (hw : WF h) {v x a : Int32} {i : Nat} (s0 : rsO h [] false i 4 a) (e0 : a - Int32.ofNat i = 0) (hd : 8 ≤ d) (hQ : ∀ k1, FA h k1 → rsO k1 [40, 12] true i 4 a → (Q (some (.int (-15)), k1))) : Wp d 284 44 [some (.ref 59), some (.int (v)), some (.int (2)), some (.int (x)), some (.int (Int32.ofNat i)), none] [] h Q := by
  refine Wp.seg 1 (pc1 := 45) (ls1 := [some (.ref 59), some (.int (v)), some (.int (2)), some (.int (x)), some (.int (Int32.ofNat i)), none]) (st1 := [.int (2)]) rfl ?_
  refine Wp.if1 rfl (fun c1 => ?_) (fun c1 => absurd (show ¬ (2 : Int32) = 0 by decide) c1)
  refine Wp.seg 2 (pc1 := 60) (ls1 := [some (.ref 59), some (.int (v)), some (.int (2)), some (.int (x)), some (.int (Int32.ofNat i)), none]) (st1 := [.int (1), .int (2)]) rfl ?_
  refine Wp.if2 rfl (fun c2 => ?_) (fun c2 => absurd (show ¬ (2 : Int32) = (1 : Int32) by decide) c2)
  refine Wp.seg 2 (pc1 := 75) (ls1 := [some (.ref 59), some (.int (v)), some (.int (2)), some (.int (x)), some (.int (Int32.ofNat i)), none]) (st1 := [.int (2), .int (2)]) rfl ?_
  refine Wp.if2 rfl (fun c3 => absurd c3 (show ¬ (¬ (2 : Int32) = (2 : Int32)) by decide)) (fun c3 => ?_)
  refine Wp.seg 3 (pc1 := 82) (ls1 := [some (.ref 59), some (.int (v)), some (.int (2)), some (.int (x)), some (.int (Int32.ofNat i)), none]) (st1 := [.int (x), .int (Int32.ofNat i), .ref 59]) rfl ?_
  refine Wp.invV (d2 := 3) (as := [.ref 59, .int (Int32.ofNat i), .int (x)]) (r := []) (t := (11, 0)) rfl rfl rfl rfl (WF.t hw 59 rfl) rfl rfl ⟨rfl, rfl⟩ (by omega) (r281_40 hw s0 (by decide) e0 (Nat.le_refl _) ?_)
  intro k1 f1 g1
  show Wp d 284 85 [some (.ref 59), some (.int (v)), some (.int (2)), some (.int (x)), some (.int (Int32.ofNat i)), none] [.int ((0 : Int32) - (Int32.ofNat i))] k1 Q
  refine Wp.seg 3 (pc1 := 98) (ls1 := [some (.ref 59), some (.int (v)), some (.int (2)), some (.int (x)), some (.int (Int32.ofNat i)), some (.int ((0 : Int32) - (Int32.ofNat i)))]) (st1 := [.ref 59]) rfl ?_
  refine Wp.gi (t := (11, 0)) rfl (WF.t (f1.wf hw) 59 rfl) (Or.inr rfl) ?_
  rw [show k1.2.2.1 59 30 = 1 from g1.2.2.2.1]
  refine Wp.if1 rfl (fun c4 => absurd c4 (show ¬ ((1 : Int32) = 0) by decide)) (fun c4 => ?_)
  refine Wp.seg 2 (pc1 := 111) (ls1 := [some (.ref 59), some (.int (v)), some (.int (2)), some (.int (x)), some (.int (Int32.ofNat i)), some (.int ((0 : Int32) - (Int32.ofNat i)))]) (st1 := [.int (-15)]) rfl ?_
  exact Wp.reti rfl rfl (hQ k1 f1 g1)
set_option maxHeartbeats 4000000 in
theorem t_ae421 {d : Nat} {Q : KO → Prop} {h : KH} (hw : WF h) {v x a : Int32} {i : Nat} (s0 : rsO h [] false i 4 a) (ne : ¬ a - Int32.ofNat i = 0) (hd : 8 ≤ d) (hQ : ∀ k1, FA h k1 → rsO k1 [40, 12] false i 4 a → (Q (some (.int ((x - x / (a - (Int32.ofNat i)) * (a - (Int32.ofNat i))) - (Int32.ofNat i))), k1))) : Wp d 284 44 [some (.ref 59), some (.int (v)), some (.int (2)), some (.int (x)), some (.int (Int32.ofNat i)), none] [] h Q := by
  refine Wp.seg 1 (pc1 := 45) (ls1 := [some (.ref 59), some (.int (v)), some (.int (2)), some (.int (x)), some (.int (Int32.ofNat i)), none]) (st1 := [.int (2)]) rfl ?_
  refine Wp.if1 rfl (fun c1 => ?_) (fun c1 => absurd (show ¬ (2 : Int32) = 0 by decide) c1)
  refine Wp.seg 2 (pc1 := 60) (ls1 := [some (.ref 59), some (.int (v)), some (.int (2)), some (.int (x)), some (.int (Int32.ofNat i)), none]) (st1 := [.int (1), .int (2)]) rfl ?_
  refine Wp.if2 rfl (fun c2 => ?_) (fun c2 => absurd (show ¬ (2 : Int32) = (1 : Int32) by decide) c2)
  refine Wp.seg 2 (pc1 := 75) (ls1 := [some (.ref 59), some (.int (v)), some (.int (2)), some (.int (x)), some (.int (Int32.ofNat i)), none]) (st1 := [.int (2), .int (2)]) rfl ?_
  refine Wp.if2 rfl (fun c3 => absurd c3 (show ¬ (¬ (2 : Int32) = (2 : Int32)) by decide)) (fun c3 => ?_)
  refine Wp.seg 3 (pc1 := 82) (ls1 := [some (.ref 59), some (.int (v)), some (.int (2)), some (.int (x)), some (.int (Int32.ofNat i)), none]) (st1 := [.int (x), .int (Int32.ofNat i), .ref 59]) rfl ?_
  refine Wp.invV (d2 := 3) (as := [.ref 59, .int (Int32.ofNat i), .int (x)]) (r := []) (t := (11, 0)) rfl rfl rfl rfl (WF.t hw 59 rfl) rfl rfl ⟨rfl, rfl⟩ (by omega) (r281_41 hw s0 (by decide) ne (Nat.le_refl _) ?_)
  intro k1 f1 g1
  show Wp d 284 85 [some (.ref 59), some (.int (v)), some (.int (2)), some (.int (x)), some (.int (Int32.ofNat i)), none] [.int ((x - x / (a - (Int32.ofNat i)) * (a - (Int32.ofNat i))) - (Int32.ofNat i))] k1 Q
  refine Wp.seg 3 (pc1 := 98) (ls1 := [some (.ref 59), some (.int (v)), some (.int (2)), some (.int (x)), some (.int (Int32.ofNat i)), some (.int ((x - x / (a - (Int32.ofNat i)) * (a - (Int32.ofNat i))) - (Int32.ofNat i)))]) (st1 := [.ref 59]) rfl ?_
  refine Wp.gi (t := (11, 0)) rfl (WF.t (f1.wf hw) 59 rfl) (Or.inr rfl) ?_
  rw [show k1.2.2.1 59 30 = 0 from g1.2.2.2.1]
  refine Wp.if1 rfl (fun c4 => ?_) (fun c4 => absurd (show (0 : Int32) = 0 by decide) c4)
  refine Wp.seg 1 (pc1 := 111) (ls1 := [some (.ref 59), some (.int (v)), some (.int (2)), some (.int (x)), some (.int (Int32.ofNat i)), some (.int ((x - x / (a - (Int32.ofNat i)) * (a - (Int32.ofNat i))) - (Int32.ofNat i)))]) (st1 := [.int ((x - x / (a - (Int32.ofNat i)) * (a - (Int32.ofNat i))) - (Int32.ofNat i))]) rfl ?_
  exact Wp.reti rfl rfl (hQ k1 f1 g1)
set_option maxHeartbeats 4000000 in
theorem t_ae430 {d : Nat} {Q : KO → Prop} {h : KH} (hw : WF h) {v x a : Int32} {i : Nat} (s0 : rsO h [] false i 4 a) (e0 : a - Int32.ofNat i = 0) (hd : 8 ≤ d) (hQ : ∀ k1, FA h k1 → rsO k1 [13, 11, 10, 40, 12] true i 4 a → (Q (some (.int (-15)), k1))) : Wp d 284 44 [some (.ref 59), some (.int (v)), some (.int (3)), some (.int (x)), some (.int (Int32.ofNat i)), none] [] h Q := by
  refine Wp.seg 1 (pc1 := 45) (ls1 := [some (.ref 59), some (.int (v)), some (.int (3)), some (.int (x)), some (.int (Int32.ofNat i)), none]) (st1 := [.int (3)]) rfl ?_
  refine Wp.if1 rfl (fun c1 => ?_) (fun c1 => absurd (show ¬ (3 : Int32) = 0 by decide) c1)
  refine Wp.seg 2 (pc1 := 60) (ls1 := [some (.ref 59), some (.int (v)), some (.int (3)), some (.int (x)), some (.int (Int32.ofNat i)), none]) (st1 := [.int (1), .int (3)]) rfl ?_
  refine Wp.if2 rfl (fun c2 => ?_) (fun c2 => absurd (show ¬ (3 : Int32) = (1 : Int32) by decide) c2)
  refine Wp.seg 2 (pc1 := 75) (ls1 := [some (.ref 59), some (.int (v)), some (.int (3)), some (.int (x)), some (.int (Int32.ofNat i)), none]) (st1 := [.int (2), .int (3)]) rfl ?_
  refine Wp.if2 rfl (fun c3 => ?_) (fun c3 => absurd (show ¬ (3 : Int32) = (2 : Int32) by decide) c3)
  refine Wp.seg 3 (pc1 := 92) (ls1 := [some (.ref 59), some (.int (v)), some (.int (3)), some (.int (x)), some (.int (Int32.ofNat i)), none]) (st1 := [.int (x), .int (Int32.ofNat i), .ref 59]) rfl ?_
  refine Wp.invV (d2 := 6) (as := [.ref 59, .int (Int32.ofNat i), .int (x)]) (r := []) (t := (11, 0)) rfl rfl rfl rfl (WF.t hw 59 rfl) rfl rfl ⟨rfl, rfl⟩ (by omega) (r283_40 hw s0 (by decide) e0 (Nat.le_refl _) ?_)
  intro k1 f1 g1
  show Wp d 284 95 [some (.ref 59), some (.int (v)), some (.int (3)), some (.int (x)), some (.int (Int32.ofNat i)), none] [.int ((((x ^^^ ((Int32.ofNat i) + (5 : Int32))) - a) * (2 : Int32)) + ((0 : Int32) - (Int32.ofNat i)))] k1 Q
  refine Wp.seg 2 (pc1 := 98) (ls1 := [some (.ref 59), some (.int (v)), some (.int (3)), some (.int (x)), some (.int (Int32.ofNat i)), some (.int ((((x ^^^ ((Int32.ofNat i) + (5 : Int32))) - a) * (2 : Int32)) + ((0 : Int32) - (Int32.ofNat i))))]) (st1 := [.ref 59]) rfl ?_
  refine Wp.gi (t := (11, 0)) rfl (WF.t (f1.wf hw) 59 rfl) (Or.inr rfl) ?_
  rw [show k1.2.2.1 59 30 = 1 from g1.2.2.2.1]
  refine Wp.if1 rfl (fun c4 => absurd c4 (show ¬ ((1 : Int32) = 0) by decide)) (fun c4 => ?_)
  refine Wp.seg 2 (pc1 := 111) (ls1 := [some (.ref 59), some (.int (v)), some (.int (3)), some (.int (x)), some (.int (Int32.ofNat i)), some (.int ((((x ^^^ ((Int32.ofNat i) + (5 : Int32))) - a) * (2 : Int32)) + ((0 : Int32) - (Int32.ofNat i))))]) (st1 := [.int (-15)]) rfl ?_
  exact Wp.reti rfl rfl (hQ k1 f1 g1)
set_option maxHeartbeats 4000000 in
theorem t_ae431 {d : Nat} {Q : KO → Prop} {h : KH} (hw : WF h) {v x a : Int32} {i : Nat} (s0 : rsO h [] false i 4 a) (ne : ¬ a - Int32.ofNat i = 0) (hd : 8 ≤ d) (hQ : ∀ k1, FA h k1 → rsO k1 [13, 11, 10, 40, 12] false i 4 a → (Q (some (.int ((((x ^^^ ((Int32.ofNat i) + (5 : Int32))) - a) * (2 : Int32)) + ((x - x / (a - (Int32.ofNat i)) * (a - (Int32.ofNat i))) - (Int32.ofNat i)))), k1))) : Wp d 284 44 [some (.ref 59), some (.int (v)), some (.int (3)), some (.int (x)), some (.int (Int32.ofNat i)), none] [] h Q := by
  refine Wp.seg 1 (pc1 := 45) (ls1 := [some (.ref 59), some (.int (v)), some (.int (3)), some (.int (x)), some (.int (Int32.ofNat i)), none]) (st1 := [.int (3)]) rfl ?_
  refine Wp.if1 rfl (fun c1 => ?_) (fun c1 => absurd (show ¬ (3 : Int32) = 0 by decide) c1)
  refine Wp.seg 2 (pc1 := 60) (ls1 := [some (.ref 59), some (.int (v)), some (.int (3)), some (.int (x)), some (.int (Int32.ofNat i)), none]) (st1 := [.int (1), .int (3)]) rfl ?_
  refine Wp.if2 rfl (fun c2 => ?_) (fun c2 => absurd (show ¬ (3 : Int32) = (1 : Int32) by decide) c2)
  refine Wp.seg 2 (pc1 := 75) (ls1 := [some (.ref 59), some (.int (v)), some (.int (3)), some (.int (x)), some (.int (Int32.ofNat i)), none]) (st1 := [.int (2), .int (3)]) rfl ?_
  refine Wp.if2 rfl (fun c3 => ?_) (fun c3 => absurd (show ¬ (3 : Int32) = (2 : Int32) by decide) c3)
  refine Wp.seg 3 (pc1 := 92) (ls1 := [some (.ref 59), some (.int (v)), some (.int (3)), some (.int (x)), some (.int (Int32.ofNat i)), none]) (st1 := [.int (x), .int (Int32.ofNat i), .ref 59]) rfl ?_
  refine Wp.invV (d2 := 6) (as := [.ref 59, .int (Int32.ofNat i), .int (x)]) (r := []) (t := (11, 0)) rfl rfl rfl rfl (WF.t hw 59 rfl) rfl rfl ⟨rfl, rfl⟩ (by omega) (r283_41 hw s0 (by decide) ne (Nat.le_refl _) ?_)
  intro k1 f1 g1
  show Wp d 284 95 [some (.ref 59), some (.int (v)), some (.int (3)), some (.int (x)), some (.int (Int32.ofNat i)), none] [.int ((((x ^^^ ((Int32.ofNat i) + (5 : Int32))) - a) * (2 : Int32)) + ((x - x / (a - (Int32.ofNat i)) * (a - (Int32.ofNat i))) - (Int32.ofNat i)))] k1 Q
  refine Wp.seg 2 (pc1 := 98) (ls1 := [some (.ref 59), some (.int (v)), some (.int (3)), some (.int (x)), some (.int (Int32.ofNat i)), some (.int ((((x ^^^ ((Int32.ofNat i) + (5 : Int32))) - a) * (2 : Int32)) + ((x - x / (a - (Int32.ofNat i)) * (a - (Int32.ofNat i))) - (Int32.ofNat i))))]) (st1 := [.ref 59]) rfl ?_
  refine Wp.gi (t := (11, 0)) rfl (WF.t (f1.wf hw) 59 rfl) (Or.inr rfl) ?_
  rw [show k1.2.2.1 59 30 = 0 from g1.2.2.2.1]
  refine Wp.if1 rfl (fun c4 => ?_) (fun c4 => absurd (show (0 : Int32) = 0 by decide) c4)
  refine Wp.seg 1 (pc1 := 111) (ls1 := [some (.ref 59), some (.int (v)), some (.int (3)), some (.int (x)), some (.int (Int32.ofNat i)), some (.int ((((x ^^^ ((Int32.ofNat i) + (5 : Int32))) - a) * (2 : Int32)) + ((x - x / (a - (Int32.ofNat i)) * (a - (Int32.ofNat i))) - (Int32.ofNat i))))]) (st1 := [.int ((((x ^^^ ((Int32.ofNat i) + (5 : Int32))) - a) * (2 : Int32)) + ((x - x / (a - (Int32.ofNat i)) * (a - (Int32.ofNat i))) - (Int32.ofNat i)))]) rfl ?_
  exact Wp.reti rfl rfl (hQ k1 f1 g1)
set_option maxHeartbeats 4000000 in
theorem t_ae50 {d : Nat} {Q : KO → Prop} {h : KH} (hw : WF h) {v x a : Int32} {i : Nat} (s0 : rsO h [] false i 5 a) (hd : 8 ≤ d) (hQ : ∀ k1, FA h k1 → rsO k1 [10] false i 5 a → (Q (some (.int (x ^^^ ((Int32.ofNat i) + (5 : Int32)))), k1))) : Wp d 284 44 [some (.ref 59), some (.int (v)), some (.int (0)), some (.int (x)), some (.int (Int32.ofNat i)), none] [] h Q := by
  refine Wp.seg 1 (pc1 := 45) (ls1 := [some (.ref 59), some (.int (v)), some (.int (0)), some (.int (x)), some (.int (Int32.ofNat i)), none]) (st1 := [.int (0)]) rfl ?_
  refine Wp.if1 rfl (fun c1 => absurd c1 (show ¬ (¬ (0 : Int32) = 0) by decide)) (fun c1 => ?_)
  refine Wp.seg 3 (pc1 := 52) (ls1 := [some (.ref 59), some (.int (v)), some (.int (0)), some (.int (x)), some (.int (Int32.ofNat i)), none]) (st1 := [.int (x), .int (Int32.ofNat i), .ref 59]) rfl ?_
  refine Wp.invV (d2 := 2) (as := [.ref 59, .int (Int32.ofNat i), .int (x)]) (r := []) (t := (11, 0)) rfl rfl rfl rfl (WF.t hw 59 rfl) rfl rfl ⟨rfl, rfl⟩ (by omega) (r276_5 hw s0 (by decide) (Nat.le_refl _) ?_)
  intro k1 f1 g1
  show Wp d 284 55 [some (.ref 59), some (.int (v)), some (.int (0)), some (.int (x)), some (.int (Int32.ofNat i)), none] [.int (x ^^^ ((Int32.ofNat i) + (5 : Int32)))] k1 Q
  refine Wp.seg 3 (pc1 := 98) (ls1 := [some (.ref 59), some (.int (v)), some (.int (0)), some (.int (x)), some (.int (Int32.ofNat i)), some (.int (x ^^^ ((Int32.ofNat i) + (5 : Int32))))]) (st1 := [.ref 59]) rfl ?_
  refine Wp.gi (t := (11, 0)) rfl (WF.t (f1.wf hw) 59 rfl) (Or.inr rfl) ?_
  rw [show k1.2.2.1 59 30 = 0 from g1.2.2.2.1]
  refine Wp.if1 rfl (fun c2 => ?_) (fun c2 => absurd (show (0 : Int32) = 0 by decide) c2)
  refine Wp.seg 1 (pc1 := 111) (ls1 := [some (.ref 59), some (.int (v)), some (.int (0)), some (.int (x)), some (.int (Int32.ofNat i)), some (.int (x ^^^ ((Int32.ofNat i) + (5 : Int32))))]) (st1 := [.int (x ^^^ ((Int32.ofNat i) + (5 : Int32)))]) rfl ?_
  exact Wp.reti rfl rfl (hQ k1 f1 g1)
set_option maxHeartbeats 4000000 in
theorem t_ae51 {d : Nat} {Q : KO → Prop} {h : KH} (hw : WF h) {v x a : Int32} {i : Nat} (s0 : rsO h [] false i 5 a) (hd : 8 ≤ d) (hQ : ∀ k1, FA h k1 → rsO k1 [60, 11, 10] false i 5 a → (Q (some (.int (((x ^^^ ((Int32.ofNat i) + (5 : Int32))) - a) * (3 : Int32))), k1))) : Wp d 284 44 [some (.ref 59), some (.int (v)), some (.int (1)), some (.int (x)), some (.int (Int32.ofNat i)), none] [] h Q := by
  refine Wp.seg 1 (pc1 := 45) (ls1 := [some (.ref 59), some (.int (v)), some (.int (1)), some (.int (x)), some (.int (Int32.ofNat i)), none]) (st1 := [.int (1)]) rfl ?_
  refine Wp.if1 rfl (fun c1 => ?_) (fun c1 => absurd (show ¬ (1 : Int32) = 0 by decide) c1)
  refine Wp.seg 2 (pc1 := 60) (ls1 := [some (.ref 59), some (.int (v)), some (.int (1)), some (.int (x)), some (.int (Int32.ofNat i)), none]) (st1 := [.int (1), .int (1)]) rfl ?_
  refine Wp.if2 rfl (fun c2 => absurd c2 (show ¬ (¬ (1 : Int32) = (1 : Int32)) by decide)) (fun c2 => ?_)
  refine Wp.seg 3 (pc1 := 67) (ls1 := [some (.ref 59), some (.int (v)), some (.int (1)), some (.int (x)), some (.int (Int32.ofNat i)), none]) (st1 := [.int (x), .int (Int32.ofNat i), .ref 59]) rfl ?_
  refine Wp.invV (d2 := 4) (as := [.ref 59, .int (Int32.ofNat i), .int (x)]) (r := []) (t := (11, 0)) rfl rfl rfl rfl (WF.t hw 59 rfl) rfl rfl ⟨rfl, rfl⟩ (by omega) (r278_5 hw s0 (by decide) (Nat.le_refl _) ?_)
  intro k1 f1 g1
  show Wp d 284 70 [some (.ref 59), some (.int (v)), some (.int (1)), some (.int (x)), some (.int (Int32.ofNat i)), none] [.int (((x ^^^ ((Int32.ofNat i) + (5 : Int32))) - a) * (3 : Int32))] k1 Q
  refine Wp.seg 3 (pc1 := 98) (ls1 := [some (.ref 59), some (.int (v)), some (.int (1)), some (.int (x)), some (.int (Int32.ofNat i)), some (.int (((x ^^^ ((Int32.ofNat i) + (5 : Int32))) - a) * (3 : Int32)))]) (st1 := [.ref 59]) rfl ?_
  refine Wp.gi (t := (11, 0)) rfl (WF.t (f1.wf hw) 59 rfl) (Or.inr rfl) ?_
  rw [show k1.2.2.1 59 30 = 0 from g1.2.2.2.1]
  refine Wp.if1 rfl (fun c3 => ?_) (fun c3 => absurd (show (0 : Int32) = 0 by decide) c3)
  refine Wp.seg 1 (pc1 := 111) (ls1 := [some (.ref 59), some (.int (v)), some (.int (1)), some (.int (x)), some (.int (Int32.ofNat i)), some (.int (((x ^^^ ((Int32.ofNat i) + (5 : Int32))) - a) * (3 : Int32)))]) (st1 := [.int (((x ^^^ ((Int32.ofNat i) + (5 : Int32))) - a) * (3 : Int32))]) rfl ?_
  exact Wp.reti rfl rfl (hQ k1 f1 g1)
set_option maxHeartbeats 4000000 in
theorem t_ae520 {d : Nat} {Q : KO → Prop} {h : KH} (hw : WF h) {v x a : Int32} {i : Nat} (s0 : rsO h [] false i 5 a) (e0 : a - Int32.ofNat i = 0) (hd : 8 ≤ d) (hQ : ∀ k1, FA h k1 → rsO k1 [61, 40, 12] true i 5 a → (Q (some (.int (-15)), k1))) : Wp d 284 44 [some (.ref 59), some (.int (v)), some (.int (2)), some (.int (x)), some (.int (Int32.ofNat i)), none] [] h Q := by
  refine Wp.seg 1 (pc1 := 45) (ls1 := [some (.ref 59), some (.int (v)), some (.int (2)), some (.int (x)), some (.int (Int32.ofNat i)), none]) (st1 := [.int (2)]) rfl ?_
  refine Wp.if1 rfl (fun c1 => ?_) (fun c1 => absurd (show ¬ (2 : Int32) = 0 by decide) c1)
  refine Wp.seg 2 (pc1 := 60) (ls1 := [some (.ref 59), some (.int (v)), some (.int (2)), some (.int (x)), some (.int (Int32.ofNat i)), none]) (st1 := [.int (1), .int (2)]) rfl ?_
  refine Wp.if2 rfl (fun c2 => ?_) (fun c2 => absurd (show ¬ (2 : Int32) = (1 : Int32) by decide) c2)
  refine Wp.seg 2 (pc1 := 75) (ls1 := [some (.ref 59), some (.int (v)), some (.int (2)), some (.int (x)), some (.int (Int32.ofNat i)), none]) (st1 := [.int (2), .int (2)]) rfl ?_
  refine Wp.if2 rfl (fun c3 => absurd c3 (show ¬ (¬ (2 : Int32) = (2 : Int32)) by decide)) (fun c3 => ?_)
  refine Wp.seg 3 (pc1 := 82) (ls1 := [some (.ref 59), some (.int (v)), some (.int (2)), some (.int (x)), some (.int (Int32.ofNat i)), none]) (st1 := [.int (x), .int (Int32.ofNat i), .ref 59]) rfl ?_
  refine Wp.invV (d2 := 3) (as := [.ref 59, .int (Int32.ofNat i), .int (x)]) (r := []) (t := (11, 0)) rfl rfl rfl rfl (WF.t hw 59 rfl) rfl rfl ⟨rfl, rfl⟩ (by omega) (r281_50 hw s0 (by decide) e0 (Nat.le_refl _) ?_)
  intro k1 f1 g1
  show Wp d 284 85 [some (.ref 59), some (.int (v)), some (.int (2)), some (.int (x)), some (.int (Int32.ofNat i)), none] [.int (0)] k1 Q
  refine Wp.seg 3 (pc1 := 98) (ls1 := [some (.ref 59), some (.int (v)), some (.int (2)), some (.int (x)), some (.int (Int32.ofNat i)), some (.int (0))]) (st1 := [.ref 59]) rfl ?_
  refine Wp.gi (t := (11, 0)) rfl (WF.t (f1.wf hw) 59 rfl) (Or.inr rfl) ?_
  rw [show k1.2.2.1 59 30 = 1 from g1.2.2.2.1]
  refine Wp.if1 rfl (fun c4 => absurd c4 (show ¬ ((1 : Int32) = 0) by decide)) (fun c4 => ?_)
  refine Wp.seg 2 (pc1 := 111) (ls1 := [some (.ref 59), some (.int (v)), some (.int (2)), some (.int (x)), some (.int (Int32.ofNat i)), some (.int (0))]) (st1 := [.int (-15)]) rfl ?_
  exact Wp.reti rfl rfl (hQ k1 f1 g1)
set_option maxHeartbeats 4000000 in
theorem t_ae521 {d : Nat} {Q : KO → Prop} {h : KH} (hw : WF h) {v x a : Int32} {i : Nat} (s0 : rsO h [] false i 5 a) (ne : ¬ a - Int32.ofNat i = 0) (hd : 8 ≤ d) (hQ : ∀ k1, FA h k1 → rsO k1 [61, 40, 12, 10] false i 5 a → (Q (some (.int (((x - x / (a - (Int32.ofNat i)) * (a - (Int32.ofNat i))) - (Int32.ofNat i)) ^^^ ((Int32.ofNat i) ^^^ ((Int32.ofNat i) + (5 : Int32))))), k1))) : Wp d 284 44 [some (.ref 59), some (.int (v)), some (.int (2)), some (.int (x)), some (.int (Int32.ofNat i)), none] [] h Q := by
  refine Wp.seg 1 (pc1 := 45) (ls1 := [some (.ref 59), some (.int (v)), some (.int (2)), some (.int (x)), some (.int (Int32.ofNat i)), none]) (st1 := [.int (2)]) rfl ?_
  refine Wp.if1 rfl (fun c1 => ?_) (fun c1 => absurd (show ¬ (2 : Int32) = 0 by decide) c1)
  refine Wp.seg 2 (pc1 := 60) (ls1 := [some (.ref 59), some (.int (v)), some (.int (2)), some (.int (x)), some (.int (Int32.ofNat i)), none]) (st1 := [.int (1), .int (2)]) rfl ?_
  refine Wp.if2 rfl (fun c2 => ?_) (fun c2 => absurd (show ¬ (2 : Int32) = (1 : Int32) by decide) c2)
  refine Wp.seg 2 (pc1 := 75) (ls1 := [some (.ref 59), some (.int (v)), some (.int (2)), some (.int (x)), some (.int (Int32.ofNat i)), none]) (st1 := [.int (2), .int (2)]) rfl ?_
  refine Wp.if2 rfl (fun c3 => absurd c3 (show ¬ (¬ (2 : Int32) = (2 : Int32)) by decide)) (fun c3 => ?_)
  refine Wp.seg 3 (pc1 := 82) (ls1 := [some (.ref 59), some (.int (v)), some (.int (2)), some (.int (x)), some (.int (Int32.ofNat i)), none]) (st1 := [.int (x), .int (Int32.ofNat i), .ref 59]) rfl ?_
  refine Wp.invV (d2 := 3) (as := [.ref 59, .int (Int32.ofNat i), .int (x)]) (r := []) (t := (11, 0)) rfl rfl rfl rfl (WF.t hw 59 rfl) rfl rfl ⟨rfl, rfl⟩ (by omega) (r281_51 hw s0 (by decide) ne (Nat.le_refl _) ?_)
  intro k1 f1 g1
  show Wp d 284 85 [some (.ref 59), some (.int (v)), some (.int (2)), some (.int (x)), some (.int (Int32.ofNat i)), none] [.int (((x - x / (a - (Int32.ofNat i)) * (a - (Int32.ofNat i))) - (Int32.ofNat i)) ^^^ ((Int32.ofNat i) ^^^ ((Int32.ofNat i) + (5 : Int32))))] k1 Q
  refine Wp.seg 3 (pc1 := 98) (ls1 := [some (.ref 59), some (.int (v)), some (.int (2)), some (.int (x)), some (.int (Int32.ofNat i)), some (.int (((x - x / (a - (Int32.ofNat i)) * (a - (Int32.ofNat i))) - (Int32.ofNat i)) ^^^ ((Int32.ofNat i) ^^^ ((Int32.ofNat i) + (5 : Int32)))))]) (st1 := [.ref 59]) rfl ?_
  refine Wp.gi (t := (11, 0)) rfl (WF.t (f1.wf hw) 59 rfl) (Or.inr rfl) ?_
  rw [show k1.2.2.1 59 30 = 0 from g1.2.2.2.1]
  refine Wp.if1 rfl (fun c4 => ?_) (fun c4 => absurd (show (0 : Int32) = 0 by decide) c4)
  refine Wp.seg 1 (pc1 := 111) (ls1 := [some (.ref 59), some (.int (v)), some (.int (2)), some (.int (x)), some (.int (Int32.ofNat i)), some (.int (((x - x / (a - (Int32.ofNat i)) * (a - (Int32.ofNat i))) - (Int32.ofNat i)) ^^^ ((Int32.ofNat i) ^^^ ((Int32.ofNat i) + (5 : Int32)))))]) (st1 := [.int (((x - x / (a - (Int32.ofNat i)) * (a - (Int32.ofNat i))) - (Int32.ofNat i)) ^^^ ((Int32.ofNat i) ^^^ ((Int32.ofNat i) + (5 : Int32))))]) rfl ?_
  exact Wp.reti rfl rfl (hQ k1 f1 g1)
set_option maxHeartbeats 4000000 in
theorem t_ae530 {d : Nat} {Q : KO → Prop} {h : KH} (hw : WF h) {v x a : Int32} {i : Nat} (s0 : rsO h [] false i 5 a) (e0 : a - Int32.ofNat i = 0) (hd : 8 ≤ d) (hQ : ∀ k1, FA h k1 → rsO k1 [13, 60, 11, 10, 61, 40, 12] true i 5 a → (Q (some (.int (-15)), k1))) : Wp d 284 44 [some (.ref 59), some (.int (v)), some (.int (3)), some (.int (x)), some (.int (Int32.ofNat i)), none] [] h Q := by
  refine Wp.seg 1 (pc1 := 45) (ls1 := [some (.ref 59), some (.int (v)), some (.int (3)), some (.int (x)), some (.int (Int32.ofNat i)), none]) (st1 := [.int (3)]) rfl ?_
  refine Wp.if1 rfl (fun c1 => ?_) (fun c1 => absurd (show ¬ (3 : Int32) = 0 by decide) c1)
  refine Wp.seg 2 (pc1 := 60) (ls1 := [some (.ref 59), some (.int (v)), some (.int (3)), some (.int (x)), some (.int (Int32.ofNat i)), none]) (st1 := [.int (1), .int (3)]) rfl ?_
  refine Wp.if2 rfl (fun c2 => ?_) (fun c2 => absurd (show ¬ (3 : Int32) = (1 : Int32) by decide) c2)
  refine Wp.seg 2 (pc1 := 75) (ls1 := [some (.ref 59), some (.int (v)), some (.int (3)), some (.int (x)), some (.int (Int32.ofNat i)), none]) (st1 := [.int (2), .int (3)]) rfl ?_
  refine Wp.if2 rfl (fun c3 => ?_) (fun c3 => absurd (show ¬ (3 : Int32) = (2 : Int32) by decide) c3)
  refine Wp.seg 3 (pc1 := 92) (ls1 := [some (.ref 59), some (.int (v)), some (.int (3)), some (.int (x)), some (.int (Int32.ofNat i)), none]) (st1 := [.int (x), .int (Int32.ofNat i), .ref 59]) rfl ?_
  refine Wp.invV (d2 := 6) (as := [.ref 59, .int (Int32.ofNat i), .int (x)]) (r := []) (t := (11, 0)) rfl rfl rfl rfl (WF.t hw 59 rfl) rfl rfl ⟨rfl, rfl⟩ (by omega) (r283_50 hw s0 (by decide) e0 (Nat.le_refl _) ?_)
  intro k1 f1 g1
  show Wp d 284 95 [some (.ref 59), some (.int (v)), some (.int (3)), some (.int (x)), some (.int (Int32.ofNat i)), none] [.int (((((x ^^^ ((Int32.ofNat i) + (5 : Int32))) - a) * (3 : Int32)) * (2 : Int32)) + (0 : Int32))] k1 Q
  refine Wp.seg 2 (pc1 := 98) (ls1 := [some (.ref 59), some (.int (v)), some (.int (3)), some (.int (x)), some (.int (Int32.ofNat i)), some (.int (((((x ^^^ ((Int32.ofNat i) + (5 : Int32))) - a) * (3 : Int32)) * (2 : Int32)) + (0 : Int32)))]) (st1 := [.ref 59]) rfl ?_
  refine Wp.gi (t := (11, 0)) rfl (WF.t (f1.wf hw) 59 rfl) (Or.inr rfl) ?_
  rw [show k1.2.2.1 59 30 = 1 from g1.2.2.2.1]
  refine Wp.if1 rfl (fun c4 => absurd c4 (show ¬ ((1 : Int32) = 0) by decide)) (fun c4 => ?_)
  refine Wp.seg 2 (pc1 := 111) (ls1 := [some (.ref 59), some (.int (v)), some (.int (3)), some (.int (x)), some (.int (Int32.ofNat i)), some (.int (((((x ^^^ ((Int32.ofNat i) + (5 : Int32))) - a) * (3 : Int32)) * (2 : Int32)) + (0 : Int32)))]) (st1 := [.int (-15)]) rfl ?_
  exact Wp.reti rfl rfl (hQ k1 f1 g1)
set_option maxHeartbeats 4000000 in
theorem t_ae531 {d : Nat} {Q : KO → Prop} {h : KH} (hw : WF h) {v x a : Int32} {i : Nat} (s0 : rsO h [] false i 5 a) (ne : ¬ a - Int32.ofNat i = 0) (hd : 8 ≤ d) (hQ : ∀ k1, FA h k1 → rsO k1 [13, 60, 11, 10, 61, 40, 12, 10] false i 5 a → (Q (some (.int (((((x ^^^ ((Int32.ofNat i) + (5 : Int32))) - a) * (3 : Int32)) * (2 : Int32)) + (((x - x / (a - (Int32.ofNat i)) * (a - (Int32.ofNat i))) - (Int32.ofNat i)) ^^^ ((Int32.ofNat i) ^^^ ((Int32.ofNat i) + (5 : Int32)))))), k1))) : Wp d 284 44 [some (.ref 59), some (.int (v)), some (.int (3)), some (.int (x)), some (.int (Int32.ofNat i)), none] [] h Q := by
  refine Wp.seg 1 (pc1 := 45) (ls1 := [some (.ref 59), some (.int (v)), some (.int (3)), some (.int (x)), some (.int (Int32.ofNat i)), none]) (st1 := [.int (3)]) rfl ?_
  refine Wp.if1 rfl (fun c1 => ?_) (fun c1 => absurd (show ¬ (3 : Int32) = 0 by decide) c1)
  refine Wp.seg 2 (pc1 := 60) (ls1 := [some (.ref 59), some (.int (v)), some (.int (3)), some (.int (x)), some (.int (Int32.ofNat i)), none]) (st1 := [.int (1), .int (3)]) rfl ?_
  refine Wp.if2 rfl (fun c2 => ?_) (fun c2 => absurd (show ¬ (3 : Int32) = (1 : Int32) by decide) c2)
  refine Wp.seg 2 (pc1 := 75) (ls1 := [some (.ref 59), some (.int (v)), some (.int (3)), some (.int (x)), some (.int (Int32.ofNat i)), none]) (st1 := [.int (2), .int (3)]) rfl ?_
  refine Wp.if2 rfl (fun c3 => ?_) (fun c3 => absurd (show ¬ (3 : Int32) = (2 : Int32) by decide) c3)
  refine Wp.seg 3 (pc1 := 92) (ls1 := [some (.ref 59), some (.int (v)), some (.int (3)), some (.int (x)), some (.int (Int32.ofNat i)), none]) (st1 := [.int (x), .int (Int32.ofNat i), .ref 59]) rfl ?_
  refine Wp.invV (d2 := 6) (as := [.ref 59, .int (Int32.ofNat i), .int (x)]) (r := []) (t := (11, 0)) rfl rfl rfl rfl (WF.t hw 59 rfl) rfl rfl ⟨rfl, rfl⟩ (by omega) (r283_51 hw s0 (by decide) ne (Nat.le_refl _) ?_)
  intro k1 f1 g1
  show Wp d 284 95 [some (.ref 59), some (.int (v)), some (.int (3)), some (.int (x)), some (.int (Int32.ofNat i)), none] [.int (((((x ^^^ ((Int32.ofNat i) + (5 : Int32))) - a) * (3 : Int32)) * (2 : Int32)) + (((x - x / (a - (Int32.ofNat i)) * (a - (Int32.ofNat i))) - (Int32.ofNat i)) ^^^ ((Int32.ofNat i) ^^^ ((Int32.ofNat i) + (5 : Int32)))))] k1 Q
  refine Wp.seg 2 (pc1 := 98) (ls1 := [some (.ref 59), some (.int (v)), some (.int (3)), some (.int (x)), some (.int (Int32.ofNat i)), some (.int (((((x ^^^ ((Int32.ofNat i) + (5 : Int32))) - a) * (3 : Int32)) * (2 : Int32)) + (((x - x / (a - (Int32.ofNat i)) * (a - (Int32.ofNat i))) - (Int32.ofNat i)) ^^^ ((Int32.ofNat i) ^^^ ((Int32.ofNat i) + (5 : Int32))))))]) (st1 := [.ref 59]) rfl ?_
  refine Wp.gi (t := (11, 0)) rfl (WF.t (f1.wf hw) 59 rfl) (Or.inr rfl) ?_
  rw [show k1.2.2.1 59 30 = 0 from g1.2.2.2.1]
  refine Wp.if1 rfl (fun c4 => ?_) (fun c4 => absurd (show (0 : Int32) = 0 by decide) c4)
  refine Wp.seg 1 (pc1 := 111) (ls1 := [some (.ref 59), some (.int (v)), some (.int (3)), some (.int (x)), some (.int (Int32.ofNat i)), some (.int (((((x ^^^ ((Int32.ofNat i) + (5 : Int32))) - a) * (3 : Int32)) * (2 : Int32)) + (((x - x / (a - (Int32.ofNat i)) * (a - (Int32.ofNat i))) - (Int32.ofNat i)) ^^^ ((Int32.ofNat i) ^^^ ((Int32.ofNat i) + (5 : Int32))))))]) (st1 := [.int (((((x ^^^ ((Int32.ofNat i) + (5 : Int32))) - a) * (3 : Int32)) * (2 : Int32)) + (((x - x / (a - (Int32.ofNat i)) * (a - (Int32.ofNat i))) - (Int32.ofNat i)) ^^^ ((Int32.ofNat i) ^^^ ((Int32.ofNat i) + (5 : Int32)))))]) rfl ?_
  exact Wp.reti rfl rfl (hQ k1 f1 g1)
