/-! KM: the reference: the tokens, its walks -/
set_option maxHeartbeats 4000000 in
theorem t_ib1 {d : Nat} {Q : KO → Prop} {h : KH} (hw : WF h) {T : List Nat} (hT : T.length ≤ 200) (hf : h.2.2.1 59 5 = Int32.ofNat T.length) (ht : ∀ i, i < T.length → h.2.2.1 63 i = Int32.ofNat (T.getD i 0)) {p : Nat} {a b : Int32} (ge : Int32.ofNat T.length ≤ Int32.ofNat p) (hd : 1 ≤ d) (hQ : Q (some (.int (0)), h)) : Cl d 203 [.ref 59, .int (Int32.ofNat p), .int (a), .int (b)] h Q := by
  refine Cl.of (ls := [some (.ref 59), some (.int (Int32.ofNat p)), some (.int (a)), some (.int (b))]) rfl rfl ?_
  refine Wp.seg 2 (pc1 := 2) (ls1 := [some (.ref 59), some (.int (Int32.ofNat p)), some (.int (a)), some (.int (b))]) (st1 := [.ref 59, .int (Int32.ofNat p)]) rfl ?_
  refine Wp.gi (t := (11, 0)) rfl (WF.t hw 59 rfl) (Or.inl rfl) ?_
  rw [show h.2.2.1 59 5 = Int32.ofNat T.length from hf]
  refine Wp.if2 rfl (fun c1 => ?_) (fun c1 => absurd (ge) c1)
  refine Wp.seg 1 (pc1 := 27) (ls1 := [some (.ref 59), some (.int (Int32.ofNat p)), some (.int (a)), some (.int (b))]) (st1 := [.int (0)]) rfl ?_
  exact Wp.reti rfl rfl hQ
set_option maxHeartbeats 4000000 in
theorem t_ib20 {d : Nat} {Q : KO → Prop} {h : KH} (hw : WF h) {T : List Nat} (hT : T.length ≤ 200) (hf : h.2.2.1 59 5 = Int32.ofNat T.length) (ht : ∀ i, i < T.length → h.2.2.1 63 i = Int32.ofNat (T.getD i 0)) {p : Nat} {a b : Int32} (ge : ¬ Int32.ofNat T.length ≤ Int32.ofNat p) (pl : p < T.length) (hin : ∀ Q : KO → Prop, Q (some (.int 0), h) → Cl 0 170 [.int (Int32.ofNat (T.getD p 0)), .int a, .int b] h Q) (hd : 1 ≤ d) (hQ : Q (some (.int (0)), h)) : Cl d 203 [.ref 59, .int (Int32.ofNat p), .int (a), .int (b)] h Q := by
  refine Cl.of (ls := [some (.ref 59), some (.int (Int32.ofNat p)), some (.int (a)), some (.int (b))]) rfl rfl ?_
  refine Wp.seg 2 (pc1 := 2) (ls1 := [some (.ref 59), some (.int (Int32.ofNat p)), some (.int (a)), some (.int (b))]) (st1 := [.ref 59, .int (Int32.ofNat p)]) rfl ?_
  refine Wp.gi (t := (11, 0)) rfl (WF.t hw 59 rfl) (Or.inl rfl) ?_
  rw [show h.2.2.1 59 5 = Int32.ofNat T.length from hf]
  refine Wp.if2 rfl (fun c1 => absurd c1 (ge)) (fun c1 => ?_)
  refine Wp.seg 1 (pc1 := 9) (ls1 := [some (.ref 59), some (.int (Int32.ofNat p)), some (.int (a)), some (.int (b))]) (st1 := [.ref 59]) rfl ?_
  refine Wp.gr (t := (11, 0)) (v := some (63)) rfl (WF.t hw 59 rfl) rfl (WF.r hw 59 4 61 rfl) ?_
  show Wp d 203 12 [some (.ref 59), some (.int (Int32.ofNat p)), some (.int (a)), some (.int (b))] [.ref 63] h Q
  refine Wp.seg 1 (pc1 := 13) (ls1 := [some (.ref 59), some (.int (Int32.ofNat p)), some (.int (a)), some (.int (b))]) (st1 := [.int (Int32.ofNat p), .ref 63]) rfl ?_
  refine Wp.iald (j := p) (k := 20) (n := 200) rfl (WF.t hw 63 rfl) rfl rfl (by omega) (by decide) ?_
  rw [show h.2.2.1 63 p = Int32.ofNat (T.getD p 0) from ht p pl]
  refine Wp.seg 2 (pc1 := 16) (ls1 := [some (.ref 59), some (.int (Int32.ofNat p)), some (.int (a)), some (.int (b))]) (st1 := [.int (b), .int (a), .int (Int32.ofNat (T.getD p 0))]) rfl ?_
  refine Wp.inv (d2 := 0) (as := [.int (Int32.ofNat (T.getD p 0)), .int (a), .int (b)]) (r := []) rfl rfl rfl rfl rfl rfl (by omega) (hin _ ?_)
  show Wp d 203 19 [some (.ref 59), some (.int (Int32.ofNat p)), some (.int (a)), some (.int (b))] [.int (0)] h Q
  refine Wp.if1 rfl (fun c2 => ?_) (fun c2 => absurd (show (0 : Int32) = 0 by decide) c2)
  refine Wp.seg 1 (pc1 := 27) (ls1 := [some (.ref 59), some (.int (Int32.ofNat p)), some (.int (a)), some (.int (b))]) (st1 := [.int (0)]) rfl ?_
  exact Wp.reti rfl rfl hQ
set_option maxHeartbeats 4000000 in
theorem t_ib21 {d : Nat} {Q : KO → Prop} {h : KH} (hw : WF h) {T : List Nat} (hT : T.length ≤ 200) (hf : h.2.2.1 59 5 = Int32.ofNat T.length) (ht : ∀ i, i < T.length → h.2.2.1 63 i = Int32.ofNat (T.getD i 0)) {p : Nat} {a b : Int32} (ge : ¬ Int32.ofNat T.length ≤ Int32.ofNat p) (pl : p < T.length) (hin : ∀ Q : KO → Prop, Q (some (.int 1), h) → Cl 0 170 [.int (Int32.ofNat (T.getD p 0)), .int a, .int b] h Q) (hd : 1 ≤ d) (hQ : Q (some (.int (1)), h)) : Cl d 203 [.ref 59, .int (Int32.ofNat p), .int (a), .int (b)] h Q := by
  refine Cl.of (ls := [some (.ref 59), some (.int (Int32.ofNat p)), some (.int (a)), some (.int (b))]) rfl rfl ?_
  refine Wp.seg 2 (pc1 := 2) (ls1 := [some (.ref 59), some (.int (Int32.ofNat p)), some (.int (a)), some (.int (b))]) (st1 := [.ref 59, .int (Int32.ofNat p)]) rfl ?_
  refine Wp.gi (t := (11, 0)) rfl (WF.t hw 59 rfl) (Or.inl rfl) ?_
  rw [show h.2.2.1 59 5 = Int32.ofNat T.length from hf]
  refine Wp.if2 rfl (fun c1 => absurd c1 (ge)) (fun c1 => ?_)
  refine Wp.seg 1 (pc1 := 9) (ls1 := [some (.ref 59), some (.int (Int32.ofNat p)), some (.int (a)), some (.int (b))]) (st1 := [.ref 59]) rfl ?_
  refine Wp.gr (t := (11, 0)) (v := some (63)) rfl (WF.t hw 59 rfl) rfl (WF.r hw 59 4 61 rfl) ?_
  show Wp d 203 12 [some (.ref 59), some (.int (Int32.ofNat p)), some (.int (a)), some (.int (b))] [.ref 63] h Q
  refine Wp.seg 1 (pc1 := 13) (ls1 := [some (.ref 59), some (.int (Int32.ofNat p)), some (.int (a)), some (.int (b))]) (st1 := [.int (Int32.ofNat p), .ref 63]) rfl ?_
  refine Wp.iald (j := p) (k := 20) (n := 200) rfl (WF.t hw 63 rfl) rfl rfl (by omega) (by decide) ?_
  rw [show h.2.2.1 63 p = Int32.ofNat (T.getD p 0) from ht p pl]
  refine Wp.seg 2 (pc1 := 16) (ls1 := [some (.ref 59), some (.int (Int32.ofNat p)), some (.int (a)), some (.int (b))]) (st1 := [.int (b), .int (a), .int (Int32.ofNat (T.getD p 0))]) rfl ?_
  refine Wp.inv (d2 := 0) (as := [.int (Int32.ofNat (T.getD p 0)), .int (a), .int (b)]) (r := []) rfl rfl rfl rfl rfl rfl (by omega) (hin _ ?_)
  show Wp d 203 19 [some (.ref 59), some (.int (Int32.ofNat p)), some (.int (a)), some (.int (b))] [.int (1)] h Q
  refine Wp.if1 rfl (fun c2 => absurd c2 (show ¬ ((1 : Int32) = 0) by decide)) (fun c2 => ?_)
  refine Wp.seg 2 (pc1 := 27) (ls1 := [some (.ref 59), some (.int (Int32.ofNat p)), some (.int (a)), some (.int (b))]) (st1 := [.int (1)]) rfl ?_
  exact Wp.reti rfl rfl hQ
set_option maxHeartbeats 4000000 in
theorem t_in1 {d : Nat} {Q : KO → Prop} {h : KH} (hw : WF h) (nm : NM h) {w s : Nat} (s7 : (7 : Int32) < Int32.ofNat s) (hd : 0 ≤ d) (hQ : Wp d 204 34 ([some (.ref 59), some (.int (Int32.ofNat w)), some (.int (Int32.ofNat s)), some (.int (0)), some (.int (0))]) [] h Q) : Cl d 204 [.ref 59, .int (Int32.ofNat w), .int (Int32.ofNat s)] h Q := by
  refine Cl.of (ls := [some (.ref 59), some (.int (Int32.ofNat w)), some (.int (Int32.ofNat s)), none, none]) rfl rfl ?_
  refine Wp.seg 2 (pc1 := 3) (ls1 := [some (.ref 59), some (.int (Int32.ofNat w)), some (.int (Int32.ofNat s)), none, none]) (st1 := [.int (7), .int (Int32.ofNat s)]) rfl ?_
  refine Wp.if2 rfl (fun c1 => ?_) (fun c1 => absurd (s7) c1)
  refine Wp.seg 4 (pc1 := 34) (ls1 := [some (.ref 59), some (.int (Int32.ofNat w)), some (.int (Int32.ofNat s)), some (.int (0)), some (.int (0))]) (st1 := []) rfl ?_
  exact hQ
set_option maxHeartbeats 4000000 in
theorem t_in2 {d : Nat} {Q : KO → Prop} {h : KH} (hw : WF h) (nm : NM h) {w s : Nat} (s7 : ¬ (7 : Int32) < Int32.ofNat s) (e7 : Int32.ofNat s = 7) (hd : 0 ≤ d) (hQ : Wp d 204 34 ([some (.ref 59), some (.int (Int32.ofNat w)), some (.int (Int32.ofNat s)), some (.int (1)), some (.int (0))]) [] h Q) : Cl d 204 [.ref 59, .int (Int32.ofNat w), .int (Int32.ofNat s)] h Q := by
  refine Cl.of (ls := [some (.ref 59), some (.int (Int32.ofNat w)), some (.int (Int32.ofNat s)), none, none]) rfl rfl ?_
  refine Wp.seg 2 (pc1 := 3) (ls1 := [some (.ref 59), some (.int (Int32.ofNat w)), some (.int (Int32.ofNat s)), none, none]) (st1 := [.int (7), .int (Int32.ofNat s)]) rfl ?_
  refine Wp.if2 rfl (fun c1 => absurd c1 (s7)) (fun c1 => ?_)
  refine Wp.seg 2 (pc1 := 9) (ls1 := [some (.ref 59), some (.int (Int32.ofNat w)), some (.int (Int32.ofNat s)), none, none]) (st1 := [.int (7), .int (Int32.ofNat s)]) rfl ?_
  refine Wp.if2 rfl (fun c2 => ?_) (fun c2 => absurd (e7) c2)
  refine Wp.seg 5 (pc1 := 34) (ls1 := [some (.ref 59), some (.int (Int32.ofNat w)), some (.int (Int32.ofNat s)), some (.int (1)), some (.int (0))]) (st1 := []) rfl ?_
  exact hQ
theorem sev (w s : Nat) : (7 : Int32) * Int32.ofNat w + Int32.ofNat s = Int32.ofNat (7 * w + s) := by
  rw [show (7 : Int32) = Int32.ofNat 7 from rfl, ← Int32.ofNat_mul, ← Int32.ofNat_add]
set_option maxHeartbeats 4000000 in
theorem t_in3 {d : Nat} {Q : KO → Prop} {h : KH} (hw : WF h) (nm : NM h) {w s : Nat} (s7 : ¬ (7 : Int32) < Int32.ofNat s) (e7 : ¬ Int32.ofNat s = 7) (w18 : w < 18) (sl : s < 7) (nv : ¬ kNM.getD (7 * w + s) 0 = 0) (hd : 0 ≤ d) (hQ : Wp d 204 34 ([some (.ref 59), some (.int (Int32.ofNat w)), some (.int (Int32.ofNat s)), some (.int (0)), some (.int (0))]) [] h Q) : Cl d 204 [.ref 59, .int (Int32.ofNat w), .int (Int32.ofNat s)] h Q := by
  refine Cl.of (ls := [some (.ref 59), some (.int (Int32.ofNat w)), some (.int (Int32.ofNat s)), none, none]) rfl rfl ?_
  refine Wp.seg 2 (pc1 := 3) (ls1 := [some (.ref 59), some (.int (Int32.ofNat w)), some (.int (Int32.ofNat s)), none, none]) (st1 := [.int (7), .int (Int32.ofNat s)]) rfl ?_
  refine Wp.if2 rfl (fun c1 => absurd c1 (s7)) (fun c1 => ?_)
  refine Wp.seg 2 (pc1 := 9) (ls1 := [some (.ref 59), some (.int (Int32.ofNat w)), some (.int (Int32.ofNat s)), none, none]) (st1 := [.int (7), .int (Int32.ofNat s)]) rfl ?_
  refine Wp.if2 rfl (fun c2 => absurd c2 (e7)) (fun c2 => ?_)
  refine Wp.gst rfl ?_
  refine Wp.seg 5 (pc1 := 21) (ls1 := [some (.ref 59), some (.int (Int32.ofNat w)), some (.int (Int32.ofNat s)), none, none]) (st1 := [.int (((7 : Int32) * (Int32.ofNat w)) + (Int32.ofNat s)), .ref 1000000000]) rfl ?_
  refine Wp.iald (j := (7 * w + s)) (k := 30) (n := 126) rfl hw.2.2.2.1 rfl (sev w s) (by omega) (by decide) ?_
  rw [show h.2.2.1 1000000000 ((7 * w + s)) = kNM.getD (7 * w + s) 0 from nm.1 _ (by omega)]
  refine Wp.if1 rfl (fun c3 => ?_) (fun c3 => absurd (nv) c3)
  refine Wp.seg 4 (pc1 := 34) (ls1 := [some (.ref 59), some (.int (Int32.ofNat w)), some (.int (Int32.ofNat s)), some (.int (0)), some (.int (0))]) (st1 := []) rfl ?_
  exact hQ
set_option maxHeartbeats 4000000 in
theorem t_in4 {d : Nat} {Q : KO → Prop} {h : KH} (hw : WF h) (nm : NM h) {w s : Nat} (s7 : ¬ (7 : Int32) < Int32.ofNat s) (e7 : ¬ Int32.ofNat s = 7) (w18 : w < 18) (sl : s < 7) (nv : kNM.getD (7 * w + s) 0 = 0) (hd : 0 ≤ d) (hQ : Wp d 204 34 ([some (.ref 59), some (.int (Int32.ofNat w)), some (.int (Int32.ofNat s)), some (.int (1)), some (.int (0))]) [] h Q) : Cl d 204 [.ref 59, .int (Int32.ofNat w), .int (Int32.ofNat s)] h Q := by
  refine Cl.of (ls := [some (.ref 59), some (.int (Int32.ofNat w)), some (.int (Int32.ofNat s)), none, none]) rfl rfl ?_
  refine Wp.seg 2 (pc1 := 3) (ls1 := [some (.ref 59), some (.int (Int32.ofNat w)), some (.int (Int32.ofNat s)), none, none]) (st1 := [.int (7), .int (Int32.ofNat s)]) rfl ?_
  refine Wp.if2 rfl (fun c1 => absurd c1 (s7)) (fun c1 => ?_)
  refine Wp.seg 2 (pc1 := 9) (ls1 := [some (.ref 59), some (.int (Int32.ofNat w)), some (.int (Int32.ofNat s)), none, none]) (st1 := [.int (7), .int (Int32.ofNat s)]) rfl ?_
  refine Wp.if2 rfl (fun c2 => absurd c2 (e7)) (fun c2 => ?_)
  refine Wp.gst rfl ?_
  refine Wp.seg 5 (pc1 := 21) (ls1 := [some (.ref 59), some (.int (Int32.ofNat w)), some (.int (Int32.ofNat s)), none, none]) (st1 := [.int (((7 : Int32) * (Int32.ofNat w)) + (Int32.ofNat s)), .ref 1000000000]) rfl ?_
  refine Wp.iald (j := (7 * w + s)) (k := 30) (n := 126) rfl hw.2.2.2.1 rfl (sev w s) (by omega) (by decide) ?_
  rw [show h.2.2.1 1000000000 ((7 * w + s)) = kNM.getD (7 * w + s) 0 from nm.1 _ (by omega)]
  refine Wp.if1 rfl (fun c3 => absurd c3 (fun z => z nv)) (fun c3 => ?_)
  refine Wp.seg 5 (pc1 := 34) (ls1 := [some (.ref 59), some (.int (Int32.ofNat w)), some (.int (Int32.ofNat s)), some (.int (1)), some (.int (0))]) (st1 := []) rfl ?_
  exact hQ
set_option maxHeartbeats 4000000 in
theorem t_in5 {d : Nat} {Q : KO → Prop} {h : KH} (hw : WF h) (nm : NM h) {w s : Nat} {k : Nat} (hd : 0 ≤ d) (hQ : ((Int32.ofNat s) ≤ (Int32.ofNat k) → Q (some (.int (0)), h)) ∧ (¬ ((Int32.ofNat s) ≤ (Int32.ofNat k)) → Q (some (.int (0)), h))) : Wp d 204 34 [some (.ref 59), some (.int (Int32.ofNat w)), some (.int (Int32.ofNat s)), some (.int (0)), some (.int (Int32.ofNat k))] [] h Q := by
  refine Wp.seg 2 (pc1 := 37) (ls1 := [some (.ref 59), some (.int (Int32.ofNat w)), some (.int (Int32.ofNat s)), some (.int (0)), some (.int (Int32.ofNat k))]) (st1 := [.int (Int32.ofNat s), .int (Int32.ofNat k)]) rfl ?_
  refine Wp.if2 rfl (fun (c1 : (Int32.ofNat s) ≤ (Int32.ofNat k)) => ?_) (fun (c1 : ¬ ((Int32.ofNat s) ≤ (Int32.ofNat k))) => ?_)
  · refine Wp.seg 1 (pc1 := 83) (ls1 := [some (.ref 59), some (.int (Int32.ofNat w)), some (.int (Int32.ofNat s)), some (.int (0)), some (.int (Int32.ofNat k))]) (st1 := [.int (0)]) rfl ?_
    exact Wp.reti rfl rfl (hQ.1 c1)
  · refine Wp.seg 1 (pc1 := 41) (ls1 := [some (.ref 59), some (.int (Int32.ofNat w)), some (.int (Int32.ofNat s)), some (.int (0)), some (.int (Int32.ofNat k))]) (st1 := [.int (0)]) rfl ?_
    refine Wp.if1 rfl (fun c2 => ?_) (fun c2 => absurd (show (0 : Int32) = 0 by decide) c2)
    refine Wp.seg 1 (pc1 := 83) (ls1 := [some (.ref 59), some (.int (Int32.ofNat w)), some (.int (Int32.ofNat s)), some (.int (0)), some (.int (Int32.ofNat k))]) (st1 := [.int (0)]) rfl ?_
    exact Wp.reti rfl rfl (hQ.2 c1)
set_option maxHeartbeats 4000000 in
theorem t_in6 {d : Nat} {Q : KO → Prop} {h : KH} (hw : WF h) (nm : NM h) {w s : Nat} {k : Nat} (ks : Int32.ofNat s ≤ Int32.ofNat k) (hd : 0 ≤ d) (hQ : Q (some (.int (1)), h)) : Wp d 204 34 [some (.ref 59), some (.int (Int32.ofNat w)), some (.int (Int32.ofNat s)), some (.int (1)), some (.int (Int32.ofNat k))] [] h Q := by
  refine Wp.seg 2 (pc1 := 37) (ls1 := [some (.ref 59), some (.int (Int32.ofNat w)), some (.int (Int32.ofNat s)), some (.int (1)), some (.int (Int32.ofNat k))]) (st1 := [.int (Int32.ofNat s), .int (Int32.ofNat k)]) rfl ?_
  refine Wp.if2 rfl (fun c1 => ?_) (fun c1 => absurd (ks) c1)
  refine Wp.seg 1 (pc1 := 83) (ls1 := [some (.ref 59), some (.int (Int32.ofNat w)), some (.int (Int32.ofNat s)), some (.int (1)), some (.int (Int32.ofNat k))]) (st1 := [.int (1)]) rfl ?_
  exact Wp.reti rfl rfl hQ
set_option maxHeartbeats 4000000 in
theorem t_in7 {d : Nat} {Q : KO → Prop} {h : KH} (hw : WF h) {T : List Nat} (hT : T.length ≤ 200) (hf : h.2.2.1 59 5 = Int32.ofNat T.length) (ht : ∀ i, i < T.length → h.2.2.1 63 i = Int32.ofNat (T.getD i 0)) (nm : NM h) {w s : Nat} {k : Nat} {i : Nat} (ks : ¬ Int32.ofNat s ≤ Int32.ofNat k) (k7 : k < 7) (w18 : w < 18) (h7 : h.2.2.1 59 7 = Int32.ofNat i) (il : i + k < T.length) (ne : ¬ kNM.getD (7 * w + k) 0 = Int32.ofNat (T.getD (i + k) 0)) (hd : 0 ≤ d) (hQ : Wp d 204 34 ([some (.ref 59), some (.int (Int32.ofNat w)), some (.int (Int32.ofNat s)), some (.int (0)), some (.int ((Int32.ofNat k) + 1))]) [] h Q) : Wp d 204 34 [some (.ref 59), some (.int (Int32.ofNat w)), some (.int (Int32.ofNat s)), some (.int (1)), some (.int (Int32.ofNat k))] [] h Q := by
  refine Wp.seg 2 (pc1 := 37) (ls1 := [some (.ref 59), some (.int (Int32.ofNat w)), some (.int (Int32.ofNat s)), some (.int (1)), some (.int (Int32.ofNat k))]) (st1 := [.int (Int32.ofNat s), .int (Int32.ofNat k)]) rfl ?_
  refine Wp.if2 rfl (fun c1 => absurd c1 (ks)) (fun c1 => ?_)
  refine Wp.seg 1 (pc1 := 41) (ls1 := [some (.ref 59), some (.int (Int32.ofNat w)), some (.int (Int32.ofNat s)), some (.int (1)), some (.int (Int32.ofNat k))]) (st1 := [.int (1)]) rfl ?_
  refine Wp.if1 rfl (fun c2 => absurd c2 (show ¬ ((1 : Int32) = 0) by decide)) (fun c2 => ?_)
  refine Wp.gst rfl ?_
  refine Wp.seg 5 (pc1 := 54) (ls1 := [some (.ref 59), some (.int (Int32.ofNat w)), some (.int (Int32.ofNat s)), some (.int (1)), some (.int (Int32.ofNat k))]) (st1 := [.int (((7 : Int32) * (Int32.ofNat w)) + (Int32.ofNat k)), .ref 1000000000]) rfl ?_
  refine Wp.iald (j := (7 * w + k)) (k := 30) (n := 126) rfl hw.2.2.2.1 rfl (sev w k) (by omega) (by decide) ?_
  rw [show h.2.2.1 1000000000 ((7 * w + k)) = kNM.getD (7 * w + k) 0 from nm.1 _ (by omega)]
  refine Wp.seg 1 (pc1 := 56) (ls1 := [some (.ref 59), some (.int (Int32.ofNat w)), some (.int (Int32.ofNat s)), some (.int (1)), some (.int (Int32.ofNat k))]) (st1 := [.ref 59, .int (kNM.getD (7 * w + k) 0)]) rfl ?_
  refine Wp.gr (t := (11, 0)) (v := some (63)) rfl (WF.t hw 59 rfl) rfl (WF.r hw 59 4 61 rfl) ?_
  show Wp d 204 59 [some (.ref 59), some (.int (Int32.ofNat w)), some (.int (Int32.ofNat s)), some (.int (1)), some (.int (Int32.ofNat k))] [.ref 63, .int (kNM.getD (7 * w + k) 0)] h Q
  refine Wp.seg 1 (pc1 := 60) (ls1 := [some (.ref 59), some (.int (Int32.ofNat w)), some (.int (Int32.ofNat s)), some (.int (1)), some (.int (Int32.ofNat k))]) (st1 := [.ref 59, .ref 63, .int (kNM.getD (7 * w + k) 0)]) rfl ?_
  refine Wp.gi (t := (11, 0)) rfl (WF.t hw 59 rfl) (Or.inl rfl) ?_
  rw [show h.2.2.1 59 7 = Int32.ofNat i from h7]
  refine Wp.seg 2 (pc1 := 66) (ls1 := [some (.ref 59), some (.int (Int32.ofNat w)), some (.int (Int32.ofNat s)), some (.int (1)), some (.int (Int32.ofNat k))]) (st1 := [.int ((Int32.ofNat i) + (Int32.ofNat k)), .ref 63, .int (kNM.getD (7 * w + k) 0)]) rfl ?_
  refine Wp.iald (j := (i + k)) (k := 20) (n := 200) rfl (WF.t hw 63 rfl) rfl ((Int32.ofNat_add i k).symm) (by omega) (by decide) ?_
  rw [show h.2.2.1 63 ((i + k)) = Int32.ofNat (T.getD (i + k) 0) from ht (i + k) il]
  refine Wp.if2 rfl (fun c3 => ?_) (fun c3 => absurd (ne) c3)
  refine Wp.seg 4 (pc1 := 34) (ls1 := [some (.ref 59), some (.int (Int32.ofNat w)), some (.int (Int32.ofNat s)), some (.int (0)), some (.int ((Int32.ofNat k) + 1))]) (st1 := []) rfl ?_
  exact hQ
set_option maxHeartbeats 4000000 in
theorem t_in8 {d : Nat} {Q : KO → Prop} {h : KH} (hw : WF h) {T : List Nat} (hT : T.length ≤ 200) (hf : h.2.2.1 59 5 = Int32.ofNat T.length) (ht : ∀ i, i < T.length → h.2.2.1 63 i = Int32.ofNat (T.getD i 0)) (nm : NM h) {w s : Nat} {k : Nat} {i : Nat} (ks : ¬ Int32.ofNat s ≤ Int32.ofNat k) (k7 : k < 7) (w18 : w < 18) (h7 : h.2.2.1 59 7 = Int32.ofNat i) (il : i + k < T.length) (ne : kNM.getD (7 * w + k) 0 = Int32.ofNat (T.getD (i + k) 0)) (hd : 0 ≤ d) (hQ : Wp d 204 34 ([some (.ref 59), some (.int (Int32.ofNat w)), some (.int (Int32.ofNat s)), some (.int (1)), some (.int ((Int32.ofNat k) + 1))]) [] h Q) : Wp d 204 34 [some (.ref 59), some (.int (Int32.ofNat w)), some (.int (Int32.ofNat s)), some (.int (1)), some (.int (Int32.ofNat k))] [] h Q := by
  refine Wp.seg 2 (pc1 := 37) (ls1 := [some (.ref 59), some (.int (Int32.ofNat w)), some (.int (Int32.ofNat s)), some (.int (1)), some (.int (Int32.ofNat k))]) (st1 := [.int (Int32.ofNat s), .int (Int32.ofNat k)]) rfl ?_
  refine Wp.if2 rfl (fun c1 => absurd c1 (ks)) (fun c1 => ?_)
  refine Wp.seg 1 (pc1 := 41) (ls1 := [some (.ref 59), some (.int (Int32.ofNat w)), some (.int (Int32.ofNat s)), some (.int (1)), some (.int (Int32.ofNat k))]) (st1 := [.int (1)]) rfl ?_
  refine Wp.if1 rfl (fun c2 => absurd c2 (show ¬ ((1 : Int32) = 0) by decide)) (fun c2 => ?_)
  refine Wp.gst rfl ?_
  refine Wp.seg 5 (pc1 := 54) (ls1 := [some (.ref 59), some (.int (Int32.ofNat w)), some (.int (Int32.ofNat s)), some (.int (1)), some (.int (Int32.ofNat k))]) (st1 := [.int (((7 : Int32) * (Int32.ofNat w)) + (Int32.ofNat k)), .ref 1000000000]) rfl ?_
  refine Wp.iald (j := (7 * w + k)) (k := 30) (n := 126) rfl hw.2.2.2.1 rfl (sev w k) (by omega) (by decide) ?_
  rw [show h.2.2.1 1000000000 ((7 * w + k)) = kNM.getD (7 * w + k) 0 from nm.1 _ (by omega)]
  refine Wp.seg 1 (pc1 := 56) (ls1 := [some (.ref 59), some (.int (Int32.ofNat w)), some (.int (Int32.ofNat s)), some (.int (1)), some (.int (Int32.ofNat k))]) (st1 := [.ref 59, .int (kNM.getD (7 * w + k) 0)]) rfl ?_
  refine Wp.gr (t := (11, 0)) (v := some (63)) rfl (WF.t hw 59 rfl) rfl (WF.r hw 59 4 61 rfl) ?_
  show Wp d 204 59 [some (.ref 59), some (.int (Int32.ofNat w)), some (.int (Int32.ofNat s)), some (.int (1)), some (.int (Int32.ofNat k))] [.ref 63, .int (kNM.getD (7 * w + k) 0)] h Q
  refine Wp.seg 1 (pc1 := 60) (ls1 := [some (.ref 59), some (.int (Int32.ofNat w)), some (.int (Int32.ofNat s)), some (.int (1)), some (.int (Int32.ofNat k))]) (st1 := [.ref 59, .ref 63, .int (kNM.getD (7 * w + k) 0)]) rfl ?_
  refine Wp.gi (t := (11, 0)) rfl (WF.t hw 59 rfl) (Or.inl rfl) ?_
  rw [show h.2.2.1 59 7 = Int32.ofNat i from h7]
  refine Wp.seg 2 (pc1 := 66) (ls1 := [some (.ref 59), some (.int (Int32.ofNat w)), some (.int (Int32.ofNat s)), some (.int (1)), some (.int (Int32.ofNat k))]) (st1 := [.int ((Int32.ofNat i) + (Int32.ofNat k)), .ref 63, .int (kNM.getD (7 * w + k) 0)]) rfl ?_
  refine Wp.iald (j := (i + k)) (k := 20) (n := 200) rfl (WF.t hw 63 rfl) rfl ((Int32.ofNat_add i k).symm) (by omega) (by decide) ?_
  rw [show h.2.2.1 63 ((i + k)) = Int32.ofNat (T.getD (i + k) 0) from ht (i + k) il]
  refine Wp.if2 rfl (fun c3 => absurd c3 (fun z => z ne)) (fun c3 => ?_)
  refine Wp.seg 5 (pc1 := 34) (ls1 := [some (.ref 59), some (.int (Int32.ofNat w)), some (.int (Int32.ofNat s)), some (.int (1)), some (.int ((Int32.ofNat k) + 1))]) (st1 := []) rfl ?_
  exact hQ
set_option maxHeartbeats 4000000 in
theorem t_wh0 {d : Nat} {Q : KO → Prop} {h : KH} (hw : WF h) (hd : 1 ≤ d) (hQ : Wp d 205 2 ([some (.ref 59), some (.int (0))]) [] h Q) : Cl d 205 [.ref 59] h Q := by
  refine Cl.of (ls := [some (.ref 59), none]) rfl rfl ?_
  refine Wp.seg 2 (pc1 := 2) (ls1 := [some (.ref 59), some (.int (0))]) (st1 := []) rfl ?_
  exact hQ
set_option maxHeartbeats 4000000 in
theorem t_wh1 {d : Nat} {Q : KO → Prop} {h : KH} (hw : WF h) {w : Nat} (ge : (18 : Int32) ≤ Int32.ofNat w) (hd : 1 ≤ d) (hQ : Q (some (.int (26)), h)) : Wp d 205 2 [some (.ref 59), some (.int (Int32.ofNat w))] [] h Q := by
  refine Wp.seg 2 (pc1 := 5) (ls1 := [some (.ref 59), some (.int (Int32.ofNat w))]) (st1 := [.int (18), .int (Int32.ofNat w)]) rfl ?_
  refine Wp.if2 rfl (fun c1 => ?_) (fun c1 => absurd (ge) c1)
  refine Wp.seg 2 (pc1 := 34) (ls1 := [some (.ref 59), some (.int (Int32.ofNat w))]) (st1 := [.int (18), .int (Int32.ofNat w)]) rfl ?_
  refine Wp.if2 rfl (fun c2 => ?_) (fun c2 => absurd (ge) c2)
  refine Wp.seg 1 (pc1 := 43) (ls1 := [some (.ref 59), some (.int (Int32.ofNat w))]) (st1 := [.int (26)]) rfl ?_
  exact Wp.reti rfl rfl hQ
set_option maxHeartbeats 4000000 in
theorem t_wh20 {d : Nat} {Q : KO → Prop} {h : KH} (hw : WF h) {w i j : Nat} (ge : ¬ (18 : Int32) ≤ Int32.ofNat w) (h7 : h.2.2.1 59 7 = Int32.ofNat i) (h8 : h.2.2.1 59 8 = Int32.ofNat j) (hn : ∀ Q : KO → Prop, Q (some (.int 0), h) → Cl 0 204 [.ref 59, .int (Int32.ofNat w), .int (Int32.ofNat j - Int32.ofNat i)] h Q) (hd : 1 ≤ d) (hQ : Wp d 205 2 ([some (.ref 59), some (.int ((Int32.ofNat w) + 1))]) [] h Q) : Wp d 205 2 [some (.ref 59), some (.int (Int32.ofNat w))] [] h Q := by
  refine Wp.seg 2 (pc1 := 5) (ls1 := [some (.ref 59), some (.int (Int32.ofNat w))]) (st1 := [.int (18), .int (Int32.ofNat w)]) rfl ?_
  refine Wp.if2 rfl (fun c1 => absurd c1 (ge)) (fun c1 => ?_)
  refine Wp.seg 3 (pc1 := 11) (ls1 := [some (.ref 59), some (.int (Int32.ofNat w))]) (st1 := [.ref 59, .int (Int32.ofNat w), .ref 59]) rfl ?_
  refine Wp.gi (t := (11, 0)) rfl (WF.t hw 59 rfl) (Or.inl rfl) ?_
  rw [show h.2.2.1 59 8 = Int32.ofNat j from h8]
  refine Wp.seg 1 (pc1 := 15) (ls1 := [some (.ref 59), some (.int (Int32.ofNat w))]) (st1 := [.ref 59, .int (Int32.ofNat j), .int (Int32.ofNat w), .ref 59]) rfl ?_
  refine Wp.gi (t := (11, 0)) rfl (WF.t hw 59 rfl) (Or.inl rfl) ?_
  rw [show h.2.2.1 59 7 = Int32.ofNat i from h7]
  refine Wp.seg 1 (pc1 := 19) (ls1 := [some (.ref 59), some (.int (Int32.ofNat w))]) (st1 := [.int ((Int32.ofNat j) - (Int32.ofNat i)), .int (Int32.ofNat w), .ref 59]) rfl ?_
  refine Wp.invV (d2 := 0) (as := [.ref 59, .int (Int32.ofNat w), .int ((Int32.ofNat j) - (Int32.ofNat i))]) (r := []) (t := (11, 0)) rfl rfl rfl rfl (WF.t hw 59 rfl) rfl rfl ⟨rfl, rfl⟩ (by omega) (hn _ ?_)
  show Wp d 205 22 [some (.ref 59), some (.int (Int32.ofNat w))] [.int (0)] h Q
  refine Wp.if1 rfl (fun c2 => absurd c2 (show ¬ (¬ (0 : Int32) = 0) by decide)) (fun c2 => ?_)
  refine Wp.seg 2 (pc1 := 2) (ls1 := [some (.ref 59), some (.int ((Int32.ofNat w) + 1))]) (st1 := []) rfl ?_
  exact hQ
set_option maxHeartbeats 4000000 in
theorem t_wh21 {d : Nat} {Q : KO → Prop} {h : KH} (hw : WF h) {w i j : Nat} (ge : ¬ (18 : Int32) ≤ Int32.ofNat w) (h7 : h.2.2.1 59 7 = Int32.ofNat i) (h8 : h.2.2.1 59 8 = Int32.ofNat j) (hn : ∀ Q : KO → Prop, Q (some (.int 1), h) → Cl 0 204 [.ref 59, .int (Int32.ofNat w), .int (Int32.ofNat j - Int32.ofNat i)] h Q) (hd : 1 ≤ d) (hQ : Q (some (.int (Int32.ofNat w)), h)) : Wp d 205 2 [some (.ref 59), some (.int (Int32.ofNat w))] [] h Q := by
  refine Wp.seg 2 (pc1 := 5) (ls1 := [some (.ref 59), some (.int (Int32.ofNat w))]) (st1 := [.int (18), .int (Int32.ofNat w)]) rfl ?_
  refine Wp.if2 rfl (fun c1 => absurd c1 (ge)) (fun c1 => ?_)
  refine Wp.seg 3 (pc1 := 11) (ls1 := [some (.ref 59), some (.int (Int32.ofNat w))]) (st1 := [.ref 59, .int (Int32.ofNat w), .ref 59]) rfl ?_
  refine Wp.gi (t := (11, 0)) rfl (WF.t hw 59 rfl) (Or.inl rfl) ?_
  rw [show h.2.2.1 59 8 = Int32.ofNat j from h8]
  refine Wp.seg 1 (pc1 := 15) (ls1 := [some (.ref 59), some (.int (Int32.ofNat w))]) (st1 := [.ref 59, .int (Int32.ofNat j), .int (Int32.ofNat w), .ref 59]) rfl ?_
  refine Wp.gi (t := (11, 0)) rfl (WF.t hw 59 rfl) (Or.inl rfl) ?_
  rw [show h.2.2.1 59 7 = Int32.ofNat i from h7]
  refine Wp.seg 1 (pc1 := 19) (ls1 := [some (.ref 59), some (.int (Int32.ofNat w))]) (st1 := [.int ((Int32.ofNat j) - (Int32.ofNat i)), .int (Int32.ofNat w), .ref 59]) rfl ?_
  refine Wp.invV (d2 := 0) (as := [.ref 59, .int (Int32.ofNat w), .int ((Int32.ofNat j) - (Int32.ofNat i))]) (r := []) (t := (11, 0)) rfl rfl rfl rfl (WF.t hw 59 rfl) rfl rfl ⟨rfl, rfl⟩ (by omega) (hn _ ?_)
  show Wp d 205 22 [some (.ref 59), some (.int (Int32.ofNat w))] [.int (1)] h Q
  refine Wp.if1 rfl (fun c2 => ?_) (fun c2 => absurd (show ¬ (1 : Int32) = 0 by decide) c2)
  refine Wp.seg 2 (pc1 := 34) (ls1 := [some (.ref 59), some (.int (Int32.ofNat w))]) (st1 := [.int (18), .int (Int32.ofNat w)]) rfl ?_
  refine Wp.if2 rfl (fun c3 => absurd c3 (ge)) (fun c3 => ?_)
  refine Wp.seg 2 (pc1 := 43) (ls1 := [some (.ref 59), some (.int (Int32.ofNat w))]) (st1 := [.int (Int32.ofNat w)]) rfl ?_
  exact Wp.reti rfl rfl hQ
def f_sgnR (v : Int32) : Int32 := if v = 40 then (22 : Int32) else if v = 41 then (23 : Int32) else if v = 59 then (24 : Int32) else if v = 60 then (21 : Int32) else if v = 61 then (21 : Int32) else if v = 62 then (21 : Int32) else (26 : Int32)
set_option maxHeartbeats 4000000 in
theorem s_sgnR {d : Nat} {Q : KO → Prop} {h : KH} {v : Int32} (hd : 0 ≤ d) (hQ : Q (some (.int (f_sgnR v)), h)) : Cl d 206 [.int (v)] h Q := by
  refine Cl.of (ls := [some (.int (v))]) rfl rfl ?_
  refine Wp.seg 1 (pc1 := 1) (ls1 := [some (.int (v))]) (st1 := [.int (v)]) rfl ?_
  refine Wp.lsw rfl ?_
  refine ⟨fun c1 => ?_, fun c1 => ?_⟩
  · have c1 : v = 40 := c1
    show Wp d 206 63 [some (.int (v))] [] h Q
    refine Wp.seg 1 (pc1 := 65) (ls1 := [some (.int (v))]) (st1 := [.int (22)]) rfl ?_
    exact Wp.reti rfl rfl (by unfold f_sgnR at hQ; rw [if_pos c1] at hQ; exact hQ)
  have c1 : ¬ v = 40 := c1
  refine ⟨fun c2 => ?_, fun c2 => ?_⟩
  · have c2 : v = 41 := c2
    show Wp d 206 66 [some (.int (v))] [] h Q
    refine Wp.seg 1 (pc1 := 68) (ls1 := [some (.int (v))]) (st1 := [.int (23)]) rfl ?_
    exact Wp.reti rfl rfl (by unfold f_sgnR at hQ; rw [if_neg c1] at hQ; rw [if_pos c2] at hQ; exact hQ)
  have c2 : ¬ v = 41 := c2
  refine ⟨fun c3 => ?_, fun c3 => ?_⟩
  · have c3 : v = 59 := c3
    show Wp d 206 69 [some (.int (v))] [] h Q
    refine Wp.seg 1 (pc1 := 71) (ls1 := [some (.int (v))]) (st1 := [.int (24)]) rfl ?_
    exact Wp.reti rfl rfl (by unfold f_sgnR at hQ; rw [if_neg c1] at hQ; rw [if_neg c2] at hQ; rw [if_pos c3] at hQ; exact hQ)
  have c3 : ¬ v = 59 := c3
  refine ⟨fun c4 => ?_, fun c4 => ?_⟩
  · have c4 : v = 60 := c4
    show Wp d 206 60 [some (.int (v))] [] h Q
    refine Wp.seg 1 (pc1 := 62) (ls1 := [some (.int (v))]) (st1 := [.int (21)]) rfl ?_
    exact Wp.reti rfl rfl (by unfold f_sgnR at hQ; rw [if_neg c1] at hQ; rw [if_neg c2] at hQ; rw [if_neg c3] at hQ; rw [if_pos c4] at hQ; exact hQ)
  have c4 : ¬ v = 60 := c4
  refine ⟨fun c5 => ?_, fun c5 => ?_⟩
  · have c5 : v = 61 := c5
    show Wp d 206 60 [some (.int (v))] [] h Q
    refine Wp.seg 1 (pc1 := 62) (ls1 := [some (.int (v))]) (st1 := [.int (21)]) rfl ?_
    exact Wp.reti rfl rfl (by unfold f_sgnR at hQ; rw [if_neg c1] at hQ; rw [if_neg c2] at hQ; rw [if_neg c3] at hQ; rw [if_neg c4] at hQ; rw [if_pos c5] at hQ; exact hQ)
  have c5 : ¬ v = 61 := c5
  refine ⟨fun c6 => ?_, fun c6 => ?_⟩
  · have c6 : v = 62 := c6
    show Wp d 206 60 [some (.int (v))] [] h Q
    refine Wp.seg 1 (pc1 := 62) (ls1 := [some (.int (v))]) (st1 := [.int (21)]) rfl ?_
    exact Wp.reti rfl rfl (by unfold f_sgnR at hQ; rw [if_neg c1] at hQ; rw [if_neg c2] at hQ; rw [if_neg c3] at hQ; rw [if_neg c4] at hQ; rw [if_neg c5] at hQ; rw [if_pos c6] at hQ; exact hQ)
  have c6 : ¬ v = 62 := c6
  show Wp d 206 72 [some (.int (v))] [] h Q
  refine Wp.seg 1 (pc1 := 74) (ls1 := [some (.int (v))]) (st1 := [.int (26)]) rfl ?_
  exact Wp.reti rfl rfl (by unfold f_sgnR at hQ; rw [if_neg c1] at hQ; rw [if_neg c2] at hQ; rw [if_neg c3] at hQ; rw [if_neg c4] at hQ; rw [if_neg c5] at hQ; rw [if_neg c6] at hQ; exact hQ)
set_option maxHeartbeats 4000000 in
theorem t_rz10 {d : Nat} {Q : KO → Prop} {h : KH} (hw : WF h) {T : List Nat} (hT : T.length ≤ 200) (hf : h.2.2.1 59 5 = Int32.ofNat T.length) (ht : ∀ i, i < T.length → h.2.2.1 63 i = Int32.ofNat (T.getD i 0)) {p : Nat} (hp : h.2.2.1 59 8 = Int32.ofNat p) (hb32 : ∀ Q : KO → Prop, Q (some (.int 0), h) → Cl 1 203 [.ref 59, .int (Int32.ofNat p), .int 32, .int 32] h Q) (hd : 3 ≤ d) (hQ : Wp d 207 28 ([some (.ref 59)]) [] h Q) : Wp d 207 0 [some (.ref 59)] [] h Q := by
  refine Wp.seg 2 (pc1 := 2) (ls1 := [some (.ref 59)]) (st1 := [.ref 59, .ref 59]) rfl ?_
  refine Wp.gi (t := (11, 0)) rfl (WF.t hw 59 rfl) (Or.inl rfl) ?_
  rw [show h.2.2.1 59 8 = Int32.ofNat p from hp]
  refine Wp.seg 2 (pc1 := 9) (ls1 := [some (.ref 59)]) (st1 := [.int (32), .int (32), .int (Int32.ofNat p), .ref 59]) rfl ?_
  refine Wp.invV (d2 := 1) (as := [.ref 59, .int (Int32.ofNat p), .int (32), .int (32)]) (r := []) (t := (11, 0)) rfl rfl rfl rfl (WF.t hw 59 rfl) rfl rfl ⟨rfl, rfl⟩ (by omega) (hb32 _ ?_)
  show Wp d 207 12 [some (.ref 59)] [.int (0)] h Q
  refine Wp.if1 rfl (fun c1 => ?_) (fun c1 => absurd (show (0 : Int32) = 0 by decide) c1)
  exact hQ
set_option maxHeartbeats 4000000 in
theorem t_rz11 {d : Nat} {Q : KO → Prop} {h : KH} (hw : WF h) {T : List Nat} (hT : T.length ≤ 200) (hf : h.2.2.1 59 5 = Int32.ofNat T.length) (ht : ∀ i, i < T.length → h.2.2.1 63 i = Int32.ofNat (T.getD i 0)) {p : Nat} (hp : h.2.2.1 59 8 = Int32.ofNat p) (hb32 : ∀ Q : KO → Prop, Q (some (.int 1), h) → Cl 1 203 [.ref 59, .int (Int32.ofNat p), .int 32, .int 32] h Q) (hd : 3 ≤ d) (hQ : Wp d 207 0 ([some (.ref 59)]) [] (kwi h 59 8 ((Int32.ofNat p) + (1 : Int32))) Q) : Wp d 207 0 [some (.ref 59)] [] h Q := by
  refine Wp.seg 2 (pc1 := 2) (ls1 := [some (.ref 59)]) (st1 := [.ref 59, .ref 59]) rfl ?_
  refine Wp.gi (t := (11, 0)) rfl (WF.t hw 59 rfl) (Or.inl rfl) ?_
  rw [show h.2.2.1 59 8 = Int32.ofNat p from hp]
  refine Wp.seg 2 (pc1 := 9) (ls1 := [some (.ref 59)]) (st1 := [.int (32), .int (32), .int (Int32.ofNat p), .ref 59]) rfl ?_
  refine Wp.invV (d2 := 1) (as := [.ref 59, .int (Int32.ofNat p), .int (32), .int (32)]) (r := []) (t := (11, 0)) rfl rfl rfl rfl (WF.t hw 59 rfl) rfl rfl ⟨rfl, rfl⟩ (by omega) (hb32 _ ?_)
  show Wp d 207 12 [some (.ref 59)] [.int (1)] h Q
  refine Wp.if1 rfl (fun c1 => absurd c1 (show ¬ ((1 : Int32) = 0) by decide)) (fun c1 => ?_)
  refine Wp.seg 2 (pc1 := 17) (ls1 := [some (.ref 59)]) (st1 := [.ref 59, .ref 59]) rfl ?_
  refine Wp.gi (t := (11, 0)) rfl (WF.t hw 59 rfl) (Or.inl rfl) ?_
  rw [show h.2.2.1 59 8 = Int32.ofNat p from hp]
  refine Wp.seg 2 (pc1 := 22) (ls1 := [some (.ref 59)]) (st1 := [.int ((Int32.ofNat p) + (1 : Int32)), .ref 59]) rfl ?_
  refine Wp.pi (t := (11, 0)) rfl (WF.t hw 59 rfl) (Or.inl rfl) ?_
  refine Wp.seg 1 (pc1 := 0) (ls1 := [some (.ref 59)]) (st1 := []) rfl ?_
  exact hQ
theorem t_rz0 {d : Nat} {Q : KO → Prop} {h : KH} (hQ : Wp d 207 0 [some (.ref 59)] [] h Q) : Cl d 207 [.ref 59] h Q := Cl.of (ls := [some (.ref 59)]) rfl rfl hQ
set_option maxHeartbeats 4000000 in
theorem t_rz2 {d : Nat} {Q : KO → Prop} {h : KH} (hw : WF h) {T : List Nat} (hT : T.length ≤ 200) (hf : h.2.2.1 59 5 = Int32.ofNat T.length) (ht : ∀ i, i < T.length → h.2.2.1 63 i = Int32.ofNat (T.getD i 0)) {p : Nat} (hp : h.2.2.1 59 8 = Int32.ofNat p) (hd : 3 ≤ d) (hQ : Wp d 207 41 ([some (.ref 59)]) [] (kwi (kwi h 59 7 (Int32.ofNat p)) 59 9 (0 : Int32)) Q) : Wp d 207 28 [some (.ref 59)] [] h Q := by
  refine Wp.seg 2 (pc1 := 30) (ls1 := [some (.ref 59)]) (st1 := [.ref 59, .ref 59]) rfl ?_
  refine Wp.gi (t := (11, 0)) rfl (WF.t hw 59 rfl) (Or.inl rfl) ?_
  rw [show h.2.2.1 59 8 = Int32.ofNat p from hp]
  refine Wp.pi (t := (11, 0)) rfl (WF.t hw 59 rfl) (Or.inl rfl) ?_
  refine Wp.seg 2 (pc1 := 38) (ls1 := [some (.ref 59)]) (st1 := [.int (0), .ref 59]) rfl ?_
  refine Wp.pi (t := (11, 0)) rfl (WF.t hw 59 rfl) (Or.inl rfl) ?_
  exact hQ
set_option maxHeartbeats 4000000 in
theorem t_rz3 {d : Nat} {Q : KO → Prop} {h : KH} (hw : WF h) {T : List Nat} (hT : T.length ≤ 200) (hf : h.2.2.1 59 5 = Int32.ofNat T.length) (ht : ∀ i, i < T.length → h.2.2.1 63 i = Int32.ofNat (T.getD i 0)) {p : Nat} (hp : h.2.2.1 59 8 = Int32.ofNat p) (pe : Int32.ofNat p = Int32.ofNat T.length) (hd : 3 ≤ d) (hQ : Q (none, kwi h 59 6 (25 : Int32))) : Wp d 207 41 [some (.ref 59)] [] h Q := by
  refine Wp.seg 1 (pc1 := 42) (ls1 := [some (.ref 59)]) (st1 := [.ref 59]) rfl ?_
  refine Wp.gi (t := (11, 0)) rfl (WF.t hw 59 rfl) (Or.inl rfl) ?_
  rw [show h.2.2.1 59 8 = Int32.ofNat p from hp]
  refine Wp.seg 1 (pc1 := 46) (ls1 := [some (.ref 59)]) (st1 := [.ref 59, .int (Int32.ofNat p)]) rfl ?_
  refine Wp.gi (t := (11, 0)) rfl (WF.t hw 59 rfl) (Or.inl rfl) ?_
  rw [show h.2.2.1 59 5 = Int32.ofNat T.length from hf]
  refine Wp.if2 rfl (fun c1 => absurd c1 (fun z => z pe)) (fun c1 => ?_)
  refine Wp.seg 2 (pc1 := 55) (ls1 := [some (.ref 59)]) (st1 := [.int (25), .ref 59]) rfl ?_
  refine Wp.pi (t := (11, 0)) rfl (WF.t hw 59 rfl) (Or.inl rfl) ?_
  refine Wp.seg 1 (pc1 := 268) (ls1 := [some (.ref 59)]) (st1 := []) rfl ?_
  exact Wp.retv rfl rfl hQ
set_option maxHeartbeats 4000000 in
theorem t_rz4 {d : Nat} {Q : KO → Prop} {h : KH} (hw : WF h) {T : List Nat} (hT : T.length ≤ 200) (hf : h.2.2.1 59 5 = Int32.ofNat T.length) (ht : ∀ i, i < T.length → h.2.2.1 63 i = Int32.ofNat (T.getD i 0)) {p : Nat} (hp : h.2.2.1 59 8 = Int32.ofNat p) (pe : ¬ Int32.ofNat p = Int32.ofNat T.length) (hd : 3 ≤ d) (hQ : Wp d 207 61 ([some (.ref 59)]) [] h Q) : Wp d 207 41 [some (.ref 59)] [] h Q := by
  refine Wp.seg 1 (pc1 := 42) (ls1 := [some (.ref 59)]) (st1 := [.ref 59]) rfl ?_
  refine Wp.gi (t := (11, 0)) rfl (WF.t hw 59 rfl) (Or.inl rfl) ?_
  rw [show h.2.2.1 59 8 = Int32.ofNat p from hp]
  refine Wp.seg 1 (pc1 := 46) (ls1 := [some (.ref 59)]) (st1 := [.ref 59, .int (Int32.ofNat p)]) rfl ?_
  refine Wp.gi (t := (11, 0)) rfl (WF.t hw 59 rfl) (Or.inl rfl) ?_
  rw [show h.2.2.1 59 5 = Int32.ofNat T.length from hf]
  refine Wp.if2 rfl (fun c1 => ?_) (fun c1 => absurd (pe) c1)
  exact hQ
set_option maxHeartbeats 4000000 in
theorem t_rz50 {d : Nat} {Q : KO → Prop} {h : KH} (hw : WF h) {T : List Nat} (hT : T.length ≤ 200) (hf : h.2.2.1 59 5 = Int32.ofNat T.length) (ht : ∀ i, i < T.length → h.2.2.1 63 i = Int32.ofNat (T.getD i 0)) {p : Nat} (hp : h.2.2.1 59 8 = Int32.ofNat p) (hb97 : ∀ Q : KO → Prop, Q (some (.int 0), h) → Cl 1 203 [.ref 59, .int (Int32.ofNat p), .int 97, .int 122] h Q) (hd : 3 ≤ d) (hQ : Wp d 207 115 ([some (.ref 59)]) [] h Q) : Wp d 207 61 [some (.ref 59)] [] h Q := by
  refine Wp.seg 2 (pc1 := 63) (ls1 := [some (.ref 59)]) (st1 := [.ref 59, .ref 59]) rfl ?_
  refine Wp.gi (t := (11, 0)) rfl (WF.t hw 59 rfl) (Or.inl rfl) ?_
  rw [show h.2.2.1 59 8 = Int32.ofNat p from hp]
  refine Wp.seg 2 (pc1 := 70) (ls1 := [some (.ref 59)]) (st1 := [.int (122), .int (97), .int (Int32.ofNat p), .ref 59]) rfl ?_
  refine Wp.invV (d2 := 1) (as := [.ref 59, .int (Int32.ofNat p), .int (97), .int (122)]) (r := []) (t := (11, 0)) rfl rfl rfl rfl (WF.t hw 59 rfl) rfl rfl ⟨rfl, rfl⟩ (by omega) (hb97 _ ?_)
  show Wp d 207 73 [some (.ref 59)] [.int (0)] h Q
  refine Wp.if1 rfl (fun c1 => ?_) (fun c1 => absurd (show (0 : Int32) = 0 by decide) c1)
  exact hQ
set_option maxHeartbeats 4000000 in
theorem t_rz51 {d : Nat} {Q : KO → Prop} {h : KH} (hw : WF h) {T : List Nat} (hT : T.length ≤ 200) (hf : h.2.2.1 59 5 = Int32.ofNat T.length) (ht : ∀ i, i < T.length → h.2.2.1 63 i = Int32.ofNat (T.getD i 0)) {p : Nat} (hp : h.2.2.1 59 8 = Int32.ofNat p) (hb97 : ∀ Q : KO → Prop, Q (some (.int 1), h) → Cl 1 203 [.ref 59, .int (Int32.ofNat p), .int 97, .int 122] h Q) (hd : 3 ≤ d) (hQ : Wp d 207 76 ([some (.ref 59)]) [] h Q) : Wp d 207 61 [some (.ref 59)] [] h Q := by
  refine Wp.seg 2 (pc1 := 63) (ls1 := [some (.ref 59)]) (st1 := [.ref 59, .ref 59]) rfl ?_
  refine Wp.gi (t := (11, 0)) rfl (WF.t hw 59 rfl) (Or.inl rfl) ?_
  rw [show h.2.2.1 59 8 = Int32.ofNat p from hp]
  refine Wp.seg 2 (pc1 := 70) (ls1 := [some (.ref 59)]) (st1 := [.int (122), .int (97), .int (Int32.ofNat p), .ref 59]) rfl ?_
  refine Wp.invV (d2 := 1) (as := [.ref 59, .int (Int32.ofNat p), .int (97), .int (122)]) (r := []) (t := (11, 0)) rfl rfl rfl rfl (WF.t hw 59 rfl) rfl rfl ⟨rfl, rfl⟩ (by omega) (hb97 _ ?_)
  show Wp d 207 73 [some (.ref 59)] [.int (1)] h Q
  refine Wp.if1 rfl (fun c1 => absurd c1 (show ¬ ((1 : Int32) = 0) by decide)) (fun c1 => ?_)
  exact hQ
set_option maxHeartbeats 4000000 in
theorem t_rz60 {d : Nat} {Q : KO → Prop} {h : KH} (hw : WF h) {T : List Nat} (hT : T.length ≤ 200) (hf : h.2.2.1 59 5 = Int32.ofNat T.length) (ht : ∀ i, i < T.length → h.2.2.1 63 i = Int32.ofNat (T.getD i 0)) {p : Nat} (hp : h.2.2.1 59 8 = Int32.ofNat p) (hb97 : ∀ Q : KO → Prop, Q (some (.int 0), h) → Cl 1 203 [.ref 59, .int (Int32.ofNat p), .int 97, .int 122] h Q) (hd : 3 ≤ d) (hQ : Wp d 207 104 ([some (.ref 59)]) [] h Q) : Wp d 207 76 [some (.ref 59)] [] h Q := by
  refine Wp.seg 2 (pc1 := 78) (ls1 := [some (.ref 59)]) (st1 := [.ref 59, .ref 59]) rfl ?_
  refine Wp.gi (t := (11, 0)) rfl (WF.t hw 59 rfl) (Or.inl rfl) ?_
  rw [show h.2.2.1 59 8 = Int32.ofNat p from hp]
  refine Wp.seg 2 (pc1 := 85) (ls1 := [some (.ref 59)]) (st1 := [.int (122), .int (97), .int (Int32.ofNat p), .ref 59]) rfl ?_
  refine Wp.invV (d2 := 1) (as := [.ref 59, .int (Int32.ofNat p), .int (97), .int (122)]) (r := []) (t := (11, 0)) rfl rfl rfl rfl (WF.t hw 59 rfl) rfl rfl ⟨rfl, rfl⟩ (by omega) (hb97 _ ?_)
  show Wp d 207 88 [some (.ref 59)] [.int (0)] h Q
  refine Wp.if1 rfl (fun c1 => ?_) (fun c1 => absurd (show (0 : Int32) = 0 by decide) c1)
  exact hQ
set_option maxHeartbeats 4000000 in
theorem t_rz61 {d : Nat} {Q : KO → Prop} {h : KH} (hw : WF h) {T : List Nat} (hT : T.length ≤ 200) (hf : h.2.2.1 59 5 = Int32.ofNat T.length) (ht : ∀ i, i < T.length → h.2.2.1 63 i = Int32.ofNat (T.getD i 0)) {p : Nat} (hp : h.2.2.1 59 8 = Int32.ofNat p) (hb97 : ∀ Q : KO → Prop, Q (some (.int 1), h) → Cl 1 203 [.ref 59, .int (Int32.ofNat p), .int 97, .int 122] h Q) (hd : 3 ≤ d) (hQ : Wp d 207 76 ([some (.ref 59)]) [] (kwi h 59 8 ((Int32.ofNat p) + (1 : Int32))) Q) : Wp d 207 76 [some (.ref 59)] [] h Q := by
  refine Wp.seg 2 (pc1 := 78) (ls1 := [some (.ref 59)]) (st1 := [.ref 59, .ref 59]) rfl ?_
  refine Wp.gi (t := (11, 0)) rfl (WF.t hw 59 rfl) (Or.inl rfl) ?_
  rw [show h.2.2.1 59 8 = Int32.ofNat p from hp]
  refine Wp.seg 2 (pc1 := 85) (ls1 := [some (.ref 59)]) (st1 := [.int (122), .int (97), .int (Int32.ofNat p), .ref 59]) rfl ?_
  refine Wp.invV (d2 := 1) (as := [.ref 59, .int (Int32.ofNat p), .int (97), .int (122)]) (r := []) (t := (11, 0)) rfl rfl rfl rfl (WF.t hw 59 rfl) rfl rfl ⟨rfl, rfl⟩ (by omega) (hb97 _ ?_)
  show Wp d 207 88 [some (.ref 59)] [.int (1)] h Q
  refine Wp.if1 rfl (fun c1 => absurd c1 (show ¬ ((1 : Int32) = 0) by decide)) (fun c1 => ?_)
  refine Wp.seg 2 (pc1 := 93) (ls1 := [some (.ref 59)]) (st1 := [.ref 59, .ref 59]) rfl ?_
  refine Wp.gi (t := (11, 0)) rfl (WF.t hw 59 rfl) (Or.inl rfl) ?_
  rw [show h.2.2.1 59 8 = Int32.ofNat p from hp]
  refine Wp.seg 2 (pc1 := 98) (ls1 := [some (.ref 59)]) (st1 := [.int ((Int32.ofNat p) + (1 : Int32)), .ref 59]) rfl ?_
  refine Wp.pi (t := (11, 0)) rfl (WF.t hw 59 rfl) (Or.inl rfl) ?_
  refine Wp.seg 1 (pc1 := 76) (ls1 := [some (.ref 59)]) (st1 := []) rfl ?_
  exact hQ
set_option maxHeartbeats 4000000 in
theorem t_rz7 {d : Nat} {Q : KO → Prop} {h : KH} (hw : WF h) {x : Int32} (hx : ∀ Q : KO → Prop, Q (some (.int x), h) → Cl 1 205 [.ref 59] h Q) (hd : 3 ≤ d) (hQ : Q (none, kwi h 59 6 x)) : Wp d 207 104 [some (.ref 59)] [] h Q := by
  refine Wp.seg 2 (pc1 := 106) (ls1 := [some (.ref 59)]) (st1 := [.ref 59, .ref 59]) rfl ?_
  refine Wp.invV (d2 := 1) (as := [.ref 59]) (r := [.ref 59]) (t := (11, 0)) rfl rfl rfl rfl (WF.t hw 59 rfl) rfl rfl ⟨rfl, rfl⟩ (by omega) (hx _ ?_)
  show Wp d 207 109 [some (.ref 59)] [.int (x), .ref 59] h Q
  refine Wp.pi (t := (11, 0)) rfl (WF.t hw 59 rfl) (Or.inl rfl) ?_
  refine Wp.seg 1 (pc1 := 268) (ls1 := [some (.ref 59)]) (st1 := []) rfl ?_
  exact Wp.retv rfl rfl hQ
set_option maxHeartbeats 4000000 in
theorem t_rz80 {d : Nat} {Q : KO → Prop} {h : KH} (hw : WF h) {T : List Nat} (hT : T.length ≤ 200) (hf : h.2.2.1 59 5 = Int32.ofNat T.length) (ht : ∀ i, i < T.length → h.2.2.1 63 i = Int32.ofNat (T.getD i 0)) {p : Nat} (hp : h.2.2.1 59 8 = Int32.ofNat p) (hb48 : ∀ Q : KO → Prop, Q (some (.int 0), h) → Cl 1 203 [.ref 59, .int (Int32.ofNat p), .int 48, .int 57] h Q) (hd : 3 ≤ d) (hQ : Wp d 207 229 ([some (.ref 59)]) [] h Q) : Wp d 207 115 [some (.ref 59)] [] h Q := by
  refine Wp.seg 2 (pc1 := 117) (ls1 := [some (.ref 59)]) (st1 := [.ref 59, .ref 59]) rfl ?_
  refine Wp.gi (t := (11, 0)) rfl (WF.t hw 59 rfl) (Or.inl rfl) ?_
  rw [show h.2.2.1 59 8 = Int32.ofNat p from hp]
  refine Wp.seg 2 (pc1 := 124) (ls1 := [some (.ref 59)]) (st1 := [.int (57), .int (48), .int (Int32.ofNat p), .ref 59]) rfl ?_
  refine Wp.invV (d2 := 1) (as := [.ref 59, .int (Int32.ofNat p), .int (48), .int (57)]) (r := []) (t := (11, 0)) rfl rfl rfl rfl (WF.t hw 59 rfl) rfl rfl ⟨rfl, rfl⟩ (by omega) (hb48 _ ?_)
  show Wp d 207 127 [some (.ref 59)] [.int (0)] h Q
  refine Wp.if1 rfl (fun c1 => ?_) (fun c1 => absurd (show (0 : Int32) = 0 by decide) c1)
  exact hQ
set_option maxHeartbeats 4000000 in
theorem t_rz81 {d : Nat} {Q : KO → Prop} {h : KH} (hw : WF h) {T : List Nat} (hT : T.length ≤ 200) (hf : h.2.2.1 59 5 = Int32.ofNat T.length) (ht : ∀ i, i < T.length → h.2.2.1 63 i = Int32.ofNat (T.getD i 0)) {p : Nat} (hp : h.2.2.1 59 8 = Int32.ofNat p) (hb48 : ∀ Q : KO → Prop, Q (some (.int 1), h) → Cl 1 203 [.ref 59, .int (Int32.ofNat p), .int 48, .int 57] h Q) (hd : 3 ≤ d) (hQ : Wp d 207 130 ([some (.ref 59)]) [] h Q) : Wp d 207 115 [some (.ref 59)] [] h Q := by
  refine Wp.seg 2 (pc1 := 117) (ls1 := [some (.ref 59)]) (st1 := [.ref 59, .ref 59]) rfl ?_
  refine Wp.gi (t := (11, 0)) rfl (WF.t hw 59 rfl) (Or.inl rfl) ?_
  rw [show h.2.2.1 59 8 = Int32.ofNat p from hp]
  refine Wp.seg 2 (pc1 := 124) (ls1 := [some (.ref 59)]) (st1 := [.int (57), .int (48), .int (Int32.ofNat p), .ref 59]) rfl ?_
  refine Wp.invV (d2 := 1) (as := [.ref 59, .int (Int32.ofNat p), .int (48), .int (57)]) (r := []) (t := (11, 0)) rfl rfl rfl rfl (WF.t hw 59 rfl) rfl rfl ⟨rfl, rfl⟩ (by omega) (hb48 _ ?_)
  show Wp d 207 127 [some (.ref 59)] [.int (1)] h Q
  refine Wp.if1 rfl (fun c1 => absurd c1 (show ¬ ((1 : Int32) = 0) by decide)) (fun c1 => ?_)
  exact hQ
set_option maxHeartbeats 4000000 in
theorem t_rz90 {d : Nat} {Q : KO → Prop} {h : KH} (hw : WF h) {T : List Nat} (hT : T.length ≤ 200) (hf : h.2.2.1 59 5 = Int32.ofNat T.length) (ht : ∀ i, i < T.length → h.2.2.1 63 i = Int32.ofNat (T.getD i 0)) {p : Nat} (hp : h.2.2.1 59 8 = Int32.ofNat p) (hb48 : ∀ Q : KO → Prop, Q (some (.int 0), h) → Cl 1 203 [.ref 59, .int (Int32.ofNat p), .int 48, .int 57] h Q) (hd : 3 ≤ d) (hQ : Wp d 207 202 ([some (.ref 59)]) [] h Q) : Wp d 207 130 [some (.ref 59)] [] h Q := by
  refine Wp.seg 2 (pc1 := 132) (ls1 := [some (.ref 59)]) (st1 := [.ref 59, .ref 59]) rfl ?_
  refine Wp.gi (t := (11, 0)) rfl (WF.t hw 59 rfl) (Or.inl rfl) ?_
  rw [show h.2.2.1 59 8 = Int32.ofNat p from hp]
  refine Wp.seg 2 (pc1 := 139) (ls1 := [some (.ref 59)]) (st1 := [.int (57), .int (48), .int (Int32.ofNat p), .ref 59]) rfl ?_
  refine Wp.invV (d2 := 1) (as := [.ref 59, .int (Int32.ofNat p), .int (48), .int (57)]) (r := []) (t := (11, 0)) rfl rfl rfl rfl (WF.t hw 59 rfl) rfl rfl ⟨rfl, rfl⟩ (by omega) (hb48 _ ?_)
  show Wp d 207 142 [some (.ref 59)] [.int (0)] h Q
  refine Wp.if1 rfl (fun c1 => ?_) (fun c1 => absurd (show (0 : Int32) = 0 by decide) c1)
  exact hQ
set_option maxHeartbeats 4000000 in
theorem t_rz91 {d : Nat} {Q : KO → Prop} {h : KH} (hw : WF h) {T : List Nat} (hT : T.length ≤ 200) (hf : h.2.2.1 59 5 = Int32.ofNat T.length) (ht : ∀ i, i < T.length → h.2.2.1 63 i = Int32.ofNat (T.getD i 0)) {p : Nat} (hp : h.2.2.1 59 8 = Int32.ofNat p) {i : Nat} {x : Int32} (h7 : h.2.2.1 59 7 = Int32.ofNat i) (h9 : h.2.2.1 59 9 = x) (pl : p < T.length) (d3 : Int32.ofNat p - Int32.ofNat i ≤ 3) (hb48 : ∀ Q : KO → Prop, Q (some (.int 1), h) → Cl 1 203 [.ref 59, .int (Int32.ofNat p), .int 48, .int 57] h Q) (hd : 3 ≤ d) (hQ : Wp d 207 130 ([some (.ref 59)]) [] (kwi (kwi h 59 9 ((((10 : Int32) * x) + (Int32.ofNat (T.getD p 0))) - (48 : Int32))) 59 8 ((Int32.ofNat p) + (1 : Int32))) Q) : Wp d 207 130 [some (.ref 59)] [] h Q := by
  refine Wp.seg 2 (pc1 := 132) (ls1 := [some (.ref 59)]) (st1 := [.ref 59, .ref 59]) rfl ?_
  refine Wp.gi (t := (11, 0)) rfl (WF.t hw 59 rfl) (Or.inl rfl) ?_
  rw [show h.2.2.1 59 8 = Int32.ofNat p from hp]
  refine Wp.seg 2 (pc1 := 139) (ls1 := [some (.ref 59)]) (st1 := [.int (57), .int (48), .int (Int32.ofNat p), .ref 59]) rfl ?_
  refine Wp.invV (d2 := 1) (as := [.ref 59, .int (Int32.ofNat p), .int (48), .int (57)]) (r := []) (t := (11, 0)) rfl rfl rfl rfl (WF.t hw 59 rfl) rfl rfl ⟨rfl, rfl⟩ (by omega) (hb48 _ ?_)
  show Wp d 207 142 [some (.ref 59)] [.int (1)] h Q
  refine Wp.if1 rfl (fun c1 => absurd c1 (show ¬ ((1 : Int32) = 0) by decide)) (fun c1 => ?_)
  refine Wp.seg 2 (pc1 := 147) (ls1 := [some (.ref 59)]) (st1 := [.ref 59, .ref 59]) rfl ?_
  refine Wp.gi (t := (11, 0)) rfl (WF.t hw 59 rfl) (Or.inl rfl) ?_
  rw [show h.2.2.1 59 8 = Int32.ofNat p from hp]
  refine Wp.seg 1 (pc1 := 151) (ls1 := [some (.ref 59)]) (st1 := [.ref 59, .int (Int32.ofNat p), .ref 59]) rfl ?_
  refine Wp.gi (t := (11, 0)) rfl (WF.t hw 59 rfl) (Or.inl rfl) ?_
  rw [show h.2.2.1 59 7 = Int32.ofNat i from h7]
  refine Wp.seg 2 (pc1 := 156) (ls1 := [some (.ref 59)]) (st1 := [.int (3), .int ((Int32.ofNat p) - (Int32.ofNat i)), .ref 59]) rfl ?_
  refine Wp.if2 rfl (fun c2 => ?_) (fun c2 => absurd (d3) c2)
  refine Wp.seg 2 (pc1 := 169) (ls1 := [some (.ref 59)]) (st1 := [.ref 59, .int (10), .ref 59]) rfl ?_
  refine Wp.gi (t := (11, 0)) rfl (WF.t hw 59 rfl) (Or.inl rfl) ?_
  rw [show h.2.2.1 59 9 = x from h9]
  refine Wp.seg 2 (pc1 := 174) (ls1 := [some (.ref 59)]) (st1 := [.ref 59, .int ((10 : Int32) * x), .ref 59]) rfl ?_
  refine Wp.gr (t := (11, 0)) (v := some (63)) rfl (WF.t hw 59 rfl) rfl (WF.r hw 59 4 61 rfl) ?_
  show Wp d 207 177 [some (.ref 59)] [.ref 63, .int ((10 : Int32) * x), .ref 59] h Q
  refine Wp.seg 1 (pc1 := 178) (ls1 := [some (.ref 59)]) (st1 := [.ref 59, .ref 63, .int ((10 : Int32) * x), .ref 59]) rfl ?_
  refine Wp.gi (t := (11, 0)) rfl (WF.t hw 59 rfl) (Or.inl rfl) ?_
  rw [show h.2.2.1 59 8 = Int32.ofNat p from hp]
  refine Wp.iald (j := p) (k := 20) (n := 200) rfl (WF.t hw 63 rfl) rfl rfl (by omega) (by decide) ?_
  rw [show h.2.2.1 63 p = Int32.ofNat (T.getD p 0) from ht p pl]
  refine Wp.seg 3 (pc1 := 186) (ls1 := [some (.ref 59)]) (st1 := [.int ((((10 : Int32) * x) + (Int32.ofNat (T.getD p 0))) - (48 : Int32)), .ref 59]) rfl ?_
  refine Wp.pi (t := (11, 0)) rfl (WF.t hw 59 rfl) (Or.inl rfl) ?_
  refine Wp.seg 2 (pc1 := 191) (ls1 := [some (.ref 59)]) (st1 := [.ref 59, .ref 59]) rfl ?_
  refine Wp.gi (t := (11, 0)) rfl (WF.t hw 59 rfl) (Or.inl rfl) ?_
  rw [show (kwi h 59 9 ((((10 : Int32) * x) + (Int32.ofNat (T.getD p 0))) - (48 : Int32))).2.2.1 59 8 = Int32.ofNat p from ((kwi_o (by decide)).trans (rfl)).trans (hp)]
  refine Wp.seg 2 (pc1 := 196) (ls1 := [some (.ref 59)]) (st1 := [.int ((Int32.ofNat p) + (1 : Int32)), .ref 59]) rfl ?_
  refine Wp.pi (t := (11, 0)) rfl (WF.t hw 59 rfl) (Or.inl rfl) ?_
  refine Wp.seg 1 (pc1 := 130) (ls1 := [some (.ref 59)]) (st1 := []) rfl ?_
  exact hQ
set_option maxHeartbeats 4000000 in
theorem t_rz92 {d : Nat} {Q : KO → Prop} {h : KH} (hw : WF h) {T : List Nat} (hT : T.length ≤ 200) (hf : h.2.2.1 59 5 = Int32.ofNat T.length) (ht : ∀ i, i < T.length → h.2.2.1 63 i = Int32.ofNat (T.getD i 0)) {p : Nat} (hp : h.2.2.1 59 8 = Int32.ofNat p) {i : Nat} {x : Int32} (h7 : h.2.2.1 59 7 = Int32.ofNat i) (h9 : h.2.2.1 59 9 = x) (pl : p < T.length) (d3 : ¬ Int32.ofNat p - Int32.ofNat i ≤ 3) (hb48 : ∀ Q : KO → Prop, Q (some (.int 1), h) → Cl 1 203 [.ref 59, .int (Int32.ofNat p), .int 48, .int 57] h Q) (hd : 3 ≤ d) (hQ : Wp d 207 130 ([some (.ref 59)]) [] (kwi (kwi h 59 9 x) 59 8 ((Int32.ofNat p) + (1 : Int32))) Q) : Wp d 207 130 [some (.ref 59)] [] h Q := by
  refine Wp.seg 2 (pc1 := 132) (ls1 := [some (.ref 59)]) (st1 := [.ref 59, .ref 59]) rfl ?_
  refine Wp.gi (t := (11, 0)) rfl (WF.t hw 59 rfl) (Or.inl rfl) ?_
  rw [show h.2.2.1 59 8 = Int32.ofNat p from hp]
  refine Wp.seg 2 (pc1 := 139) (ls1 := [some (.ref 59)]) (st1 := [.int (57), .int (48), .int (Int32.ofNat p), .ref 59]) rfl ?_
  refine Wp.invV (d2 := 1) (as := [.ref 59, .int (Int32.ofNat p), .int (48), .int (57)]) (r := []) (t := (11, 0)) rfl rfl rfl rfl (WF.t hw 59 rfl) rfl rfl ⟨rfl, rfl⟩ (by omega) (hb48 _ ?_)
  show Wp d 207 142 [some (.ref 59)] [.int (1)] h Q
  refine Wp.if1 rfl (fun c1 => absurd c1 (show ¬ ((1 : Int32) = 0) by decide)) (fun c1 => ?_)
  refine Wp.seg 2 (pc1 := 147) (ls1 := [some (.ref 59)]) (st1 := [.ref 59, .ref 59]) rfl ?_
  refine Wp.gi (t := (11, 0)) rfl (WF.t hw 59 rfl) (Or.inl rfl) ?_
  rw [show h.2.2.1 59 8 = Int32.ofNat p from hp]
  refine Wp.seg 1 (pc1 := 151) (ls1 := [some (.ref 59)]) (st1 := [.ref 59, .int (Int32.ofNat p), .ref 59]) rfl ?_
  refine Wp.gi (t := (11, 0)) rfl (WF.t hw 59 rfl) (Or.inl rfl) ?_
  rw [show h.2.2.1 59 7 = Int32.ofNat i from h7]
  refine Wp.seg 2 (pc1 := 156) (ls1 := [some (.ref 59)]) (st1 := [.int (3), .int ((Int32.ofNat p) - (Int32.ofNat i)), .ref 59]) rfl ?_
  refine Wp.if2 rfl (fun c2 => absurd c2 (d3)) (fun c2 => ?_)
  refine Wp.seg 1 (pc1 := 160) (ls1 := [some (.ref 59)]) (st1 := [.ref 59, .ref 59]) rfl ?_
  refine Wp.gi (t := (11, 0)) rfl (WF.t hw 59 rfl) (Or.inl rfl) ?_
  rw [show h.2.2.1 59 9 = x from h9]
  refine Wp.seg 1 (pc1 := 186) (ls1 := [some (.ref 59)]) (st1 := [.int (x), .ref 59]) rfl ?_
  refine Wp.pi (t := (11, 0)) rfl (WF.t hw 59 rfl) (Or.inl rfl) ?_
  refine Wp.seg 2 (pc1 := 191) (ls1 := [some (.ref 59)]) (st1 := [.ref 59, .ref 59]) rfl ?_
  refine Wp.gi (t := (11, 0)) rfl (WF.t hw 59 rfl) (Or.inl rfl) ?_
  rw [show (kwi h 59 9 x).2.2.1 59 8 = Int32.ofNat p from ((kwi_o (by decide)).trans (rfl)).trans (hp)]
  refine Wp.seg 2 (pc1 := 196) (ls1 := [some (.ref 59)]) (st1 := [.int ((Int32.ofNat p) + (1 : Int32)), .ref 59]) rfl ?_
  refine Wp.pi (t := (11, 0)) rfl (WF.t hw 59 rfl) (Or.inl rfl) ?_
  refine Wp.seg 1 (pc1 := 130) (ls1 := [some (.ref 59)]) (st1 := []) rfl ?_
  exact hQ
set_option maxHeartbeats 4000000 in
theorem t_rzA {d : Nat} {Q : KO → Prop} {h : KH} (hw : WF h) {T : List Nat} (hT : T.length ≤ 200) (hf : h.2.2.1 59 5 = Int32.ofNat T.length) (ht : ∀ i, i < T.length → h.2.2.1 63 i = Int32.ofNat (T.getD i 0)) {p : Nat} (hp : h.2.2.1 59 8 = Int32.ofNat p) {i : Nat} (h7 : h.2.2.1 59 7 = Int32.ofNat i) (d4 : Int32.ofNat p - Int32.ofNat i ≤ 4) (hd : 3 ≤ d) (hQ : Q (none, kwi h 59 6 (20 : Int32))) : Wp d 207 202 [some (.ref 59)] [] h Q := by
  refine Wp.seg 2 (pc1 := 204) (ls1 := [some (.ref 59)]) (st1 := [.ref 59, .ref 59]) rfl ?_
  refine Wp.gi (t := (11, 0)) rfl (WF.t hw 59 rfl) (Or.inl rfl) ?_
  rw [show h.2.2.1 59 8 = Int32.ofNat p from hp]
  refine Wp.seg 1 (pc1 := 208) (ls1 := [some (.ref 59)]) (st1 := [.ref 59, .int (Int32.ofNat p), .ref 59]) rfl ?_
  refine Wp.gi (t := (11, 0)) rfl (WF.t hw 59 rfl) (Or.inl rfl) ?_
  rw [show h.2.2.1 59 7 = Int32.ofNat i from h7]
  refine Wp.seg 2 (pc1 := 213) (ls1 := [some (.ref 59)]) (st1 := [.int (4), .int ((Int32.ofNat p) - (Int32.ofNat i)), .ref 59]) rfl ?_
  refine Wp.if2 rfl (fun c1 => ?_) (fun c1 => absurd (d4) c1)
  refine Wp.seg 1 (pc1 := 223) (ls1 := [some (.ref 59)]) (st1 := [.int (20), .ref 59]) rfl ?_
  refine Wp.pi (t := (11, 0)) rfl (WF.t hw 59 rfl) (Or.inl rfl) ?_
  refine Wp.seg 1 (pc1 := 268) (ls1 := [some (.ref 59)]) (st1 := []) rfl ?_
  exact Wp.retv rfl rfl hQ
set_option maxHeartbeats 4000000 in
theorem t_rzB {d : Nat} {Q : KO → Prop} {h : KH} (hw : WF h) {T : List Nat} (hT : T.length ≤ 200) (hf : h.2.2.1 59 5 = Int32.ofNat T.length) (ht : ∀ i, i < T.length → h.2.2.1 63 i = Int32.ofNat (T.getD i 0)) {p : Nat} (hp : h.2.2.1 59 8 = Int32.ofNat p) {i : Nat} (h7 : h.2.2.1 59 7 = Int32.ofNat i) (d4 : ¬ Int32.ofNat p - Int32.ofNat i ≤ 4) (hd : 3 ≤ d) (hQ : Q (none, kwi h 59 6 (26 : Int32))) : Wp d 207 202 [some (.ref 59)] [] h Q := by
  refine Wp.seg 2 (pc1 := 204) (ls1 := [some (.ref 59)]) (st1 := [.ref 59, .ref 59]) rfl ?_
  refine Wp.gi (t := (11, 0)) rfl (WF.t hw 59 rfl) (Or.inl rfl) ?_
  rw [show h.2.2.1 59 8 = Int32.ofNat p from hp]
  refine Wp.seg 1 (pc1 := 208) (ls1 := [some (.ref 59)]) (st1 := [.ref 59, .int (Int32.ofNat p), .ref 59]) rfl ?_
  refine Wp.gi (t := (11, 0)) rfl (WF.t hw 59 rfl) (Or.inl rfl) ?_
  rw [show h.2.2.1 59 7 = Int32.ofNat i from h7]
  refine Wp.seg 2 (pc1 := 213) (ls1 := [some (.ref 59)]) (st1 := [.int (4), .int ((Int32.ofNat p) - (Int32.ofNat i)), .ref 59]) rfl ?_
  refine Wp.if2 rfl (fun c1 => absurd c1 (d4)) (fun c1 => ?_)
  refine Wp.seg 2 (pc1 := 223) (ls1 := [some (.ref 59)]) (st1 := [.int (26), .ref 59]) rfl ?_
  refine Wp.pi (t := (11, 0)) rfl (WF.t hw 59 rfl) (Or.inl rfl) ?_
  refine Wp.seg 1 (pc1 := 268) (ls1 := [some (.ref 59)]) (st1 := []) rfl ?_
  exact Wp.retv rfl rfl hQ
set_option maxHeartbeats 4000000 in
theorem t_rzC {d : Nat} {Q : KO → Prop} {h : KH} (hw : WF h) {T : List Nat} (hT : T.length ≤ 200) (hf : h.2.2.1 59 5 = Int32.ofNat T.length) (ht : ∀ i, i < T.length → h.2.2.1 63 i = Int32.ofNat (T.getD i 0)) {p : Nat} (hp : h.2.2.1 59 8 = Int32.ofNat p) (pl : p < T.length) (hd : 3 ≤ d) (hQ : Q (none, kwi (kwi (kwi h 59 6 (f_sgnR (Int32.ofNat (T.getD p 0)))) 59 9 (Int32.ofNat (T.getD p 0))) 59 8 ((Int32.ofNat p) + (1 : Int32)))) : Wp d 207 229 [some (.ref 59)] [] h Q := by
  refine Wp.seg 2 (pc1 := 231) (ls1 := [some (.ref 59)]) (st1 := [.ref 59, .ref 59]) rfl ?_
  refine Wp.gr (t := (11, 0)) (v := some (63)) rfl (WF.t hw 59 rfl) rfl (WF.r hw 59 4 61 rfl) ?_
  show Wp d 207 234 [some (.ref 59)] [.ref 63, .ref 59] h Q
  refine Wp.seg 1 (pc1 := 235) (ls1 := [some (.ref 59)]) (st1 := [.ref 59, .ref 63, .ref 59]) rfl ?_
  refine Wp.gi (t := (11, 0)) rfl (WF.t hw 59 rfl) (Or.inl rfl) ?_
  rw [show h.2.2.1 59 8 = Int32.ofNat p from hp]
  refine Wp.iald (j := p) (k := 20) (n := 200) rfl (WF.t hw 63 rfl) rfl rfl (by omega) (by decide) ?_
  rw [show h.2.2.1 63 p = Int32.ofNat (T.getD p 0) from ht p pl]
  refine Wp.inv (d2 := 0) (as := [.int (Int32.ofNat (T.getD p 0))]) (r := [.ref 59]) rfl rfl rfl rfl rfl rfl (by omega) (s_sgnR (Nat.le_refl _) ?_)
  show Wp d 207 242 [some (.ref 59)] [.int (f_sgnR (Int32.ofNat (T.getD p 0))), .ref 59] h Q
  refine Wp.pi (t := (11, 0)) rfl (WF.t hw 59 rfl) (Or.inl rfl) ?_
  refine Wp.seg 2 (pc1 := 247) (ls1 := [some (.ref 59)]) (st1 := [.ref 59, .ref 59]) rfl ?_
  refine Wp.gr (t := (11, 0)) (v := some (63)) rfl (WF.t hw 59 rfl) rfl (WF.r hw 59 4 61 rfl) ?_
  show Wp d 207 250 [some (.ref 59)] [.ref 63, .ref 59] (kwi h 59 6 (f_sgnR (Int32.ofNat (T.getD p 0)))) Q
  refine Wp.seg 1 (pc1 := 251) (ls1 := [some (.ref 59)]) (st1 := [.ref 59, .ref 63, .ref 59]) rfl ?_
  refine Wp.gi (t := (11, 0)) rfl (WF.t hw 59 rfl) (Or.inl rfl) ?_
  rw [show (kwi h 59 6 (f_sgnR (Int32.ofNat (T.getD p 0)))).2.2.1 59 8 = Int32.ofNat p from ((kwi_o (by decide)).trans (rfl)).trans (hp)]
  refine Wp.iald (j := p) (k := 20) (n := 200) rfl (WF.t hw 63 rfl) rfl rfl (by omega) (by decide) ?_
  rw [show (kwi h 59 6 (f_sgnR (Int32.ofNat (T.getD p 0)))).2.2.1 63 p = Int32.ofNat (T.getD p 0) from ((kwi_b (by decide)).trans (rfl)).trans (ht p pl)]
  refine Wp.pi (t := (11, 0)) rfl (WF.t hw 59 rfl) (Or.inl rfl) ?_
  refine Wp.seg 2 (pc1 := 260) (ls1 := [some (.ref 59)]) (st1 := [.ref 59, .ref 59]) rfl ?_
  refine Wp.gi (t := (11, 0)) rfl (WF.t hw 59 rfl) (Or.inl rfl) ?_
  rw [show (kwi (kwi h 59 6 (f_sgnR (Int32.ofNat (T.getD p 0)))) 59 9 (Int32.ofNat (T.getD p 0))).2.2.1 59 8 = Int32.ofNat p from ((kwi_o (by decide)).trans ((kwi_o (by decide)).trans (rfl))).trans (hp)]
  refine Wp.seg 2 (pc1 := 265) (ls1 := [some (.ref 59)]) (st1 := [.int ((Int32.ofNat p) + (1 : Int32)), .ref 59]) rfl ?_
  refine Wp.pi (t := (11, 0)) rfl (WF.t hw 59 rfl) (Or.inl rfl) ?_
  exact Wp.retv rfl rfl hQ
set_option maxHeartbeats 4000000 in
theorem t_ps1 {d : Nat} {Q : KO → Prop} {h : KH} (hw : WF h) {D : Nat} {x : Int32} (h10 : h.2.2.1 59 10 = 1) (hd : D + 1 ≤ d) (hQ : Q (some (.int (0)), h)) : Cl d 208 [.ref 59, .int (x)] h Q := by
  refine Cl.of (ls := [some (.ref 59), some (.int (x))]) rfl rfl ?_
  refine Wp.seg 1 (pc1 := 1) (ls1 := [some (.ref 59), some (.int (x))]) (st1 := [.ref 59]) rfl ?_
  refine Wp.gi (t := (11, 0)) rfl (WF.t hw 59 rfl) (Or.inr rfl) ?_
  rw [show h.2.2.1 59 10 = 1 from h10]
  refine Wp.if1 rfl (fun c1 => ?_) (fun c1 => absurd (show ¬ (1 : Int32) = 0 by decide) c1)
  refine Wp.seg 1 (pc1 := 16) (ls1 := [some (.ref 59), some (.int (x))]) (st1 := [.int (0)]) rfl ?_
  exact Wp.reti rfl rfl hQ
set_option maxHeartbeats 4000000 in
theorem t_ps2 {d : Nat} {Q : KO → Prop} {h : KH} (hw : WF h) {D : Nat} {x t : Int32} (h10 : h.2.2.1 59 10 = 0) (h6 : h.2.2.1 59 6 = t) (n : ¬ t = x) (hd : D + 1 ≤ d) (hQ : Q (some (.int (0)), h)) : Cl d 208 [.ref 59, .int (x)] h Q := by
  refine Cl.of (ls := [some (.ref 59), some (.int (x))]) rfl rfl ?_
  refine Wp.seg 1 (pc1 := 1) (ls1 := [some (.ref 59), some (.int (x))]) (st1 := [.ref 59]) rfl ?_
  refine Wp.gi (t := (11, 0)) rfl (WF.t hw 59 rfl) (Or.inr rfl) ?_
  rw [show h.2.2.1 59 10 = 0 from h10]
  refine Wp.if1 rfl (fun c1 => absurd c1 (show ¬ (¬ (0 : Int32) = 0) by decide)) (fun c1 => ?_)
  refine Wp.seg 1 (pc1 := 8) (ls1 := [some (.ref 59), some (.int (x))]) (st1 := [.ref 59]) rfl ?_
  refine Wp.gi (t := (11, 0)) rfl (WF.t hw 59 rfl) (Or.inl rfl) ?_
  rw [show h.2.2.1 59 6 = t from h6]
  refine Wp.seg 1 (pc1 := 12) (ls1 := [some (.ref 59), some (.int (x))]) (st1 := [.int (x), .int (t)]) rfl ?_
  refine Wp.if2 rfl (fun c2 => absurd c2 (n)) (fun c2 => ?_)
  refine Wp.seg 1 (pc1 := 16) (ls1 := [some (.ref 59), some (.int (x))]) (st1 := [.int (0)]) rfl ?_
  exact Wp.reti rfl rfl hQ
set_option maxHeartbeats 4000000 in
theorem t_ps3 {d : Nat} {Q : KO → Prop} {h : KH} (hw : WF h) {k1 : KH} (hwk1 : WF k1) {D : Nat} {x t : Int32} (h10 : h.2.2.1 59 10 = 0) (h6 : h.2.2.1 59 6 = t) (n : t = x) (g1 : ∀ Q : KO → Prop, Q (none, k1) → Cl D 207 [.ref 59] h Q) (hd : D + 1 ≤ d) (hQ : Q (some (.int (1)), k1)) : Cl d 208 [.ref 59, .int (x)] h Q := by
  refine Cl.of (ls := [some (.ref 59), some (.int (x))]) rfl rfl ?_
  refine Wp.seg 1 (pc1 := 1) (ls1 := [some (.ref 59), some (.int (x))]) (st1 := [.ref 59]) rfl ?_
  refine Wp.gi (t := (11, 0)) rfl (WF.t hw 59 rfl) (Or.inr rfl) ?_
  rw [show h.2.2.1 59 10 = 0 from h10]
  refine Wp.if1 rfl (fun c1 => absurd c1 (show ¬ (¬ (0 : Int32) = 0) by decide)) (fun c1 => ?_)
  refine Wp.seg 1 (pc1 := 8) (ls1 := [some (.ref 59), some (.int (x))]) (st1 := [.ref 59]) rfl ?_
  refine Wp.gi (t := (11, 0)) rfl (WF.t hw 59 rfl) (Or.inl rfl) ?_
  rw [show h.2.2.1 59 6 = t from h6]
  refine Wp.seg 1 (pc1 := 12) (ls1 := [some (.ref 59), some (.int (x))]) (st1 := [.int (x), .int (t)]) rfl ?_
  refine Wp.if2 rfl (fun c2 => ?_) (fun c2 => absurd (n) c2)
  refine Wp.seg 1 (pc1 := 18) (ls1 := [some (.ref 59), some (.int (x))]) (st1 := [.ref 59]) rfl ?_
  refine Wp.invV (d2 := D) (as := [.ref 59]) (r := []) (t := (11, 0)) rfl rfl rfl rfl (WF.t hw 59 rfl) rfl rfl ⟨rfl, rfl⟩ (by omega) (g1 _ ?_)
  show Wp d 208 21 [some (.ref 59), some (.int (x))] [] k1 Q
  refine Wp.seg 1 (pc1 := 22) (ls1 := [some (.ref 59), some (.int (x))]) (st1 := [.int (1)]) rfl ?_
  exact Wp.reti rfl rfl hQ
set_option maxHeartbeats 4000000 in
theorem t_stp {d : Nat} {Q : KO → Prop} {h : KH} (hw : WF h) {z : Nat} {x : Int32} (zl : z < 500) (h12 : h.2.2.1 59 12 = Int32.ofNat z) (hd : 0 ≤ d) (hQ : Q (none, kwi (kwi h 60 ((85 + z)) x) 59 12 ((Int32.ofNat z) + (1 : Int32)))) : Cl d 209 [.ref 59, .int (x)] h Q := by
  refine Cl.of (ls := [some (.ref 59), some (.int (x))]) rfl rfl ?_
  refine Wp.seg 1 (pc1 := 1) (ls1 := [some (.ref 59), some (.int (x))]) (st1 := [.ref 59]) rfl ?_
  refine Wp.gr (t := (11, 0)) (v := some (60)) rfl (WF.t hw 59 rfl) rfl (WF.r hw 59 0 58 rfl) ?_
  show Wp d 209 4 [some (.ref 59), some (.int (x))] [.ref 60] h Q
  refine Wp.seg 2 (pc1 := 7) (ls1 := [some (.ref 59), some (.int (x))]) (st1 := [.ref 59, .int (85), .ref 60]) rfl ?_
  refine Wp.gi (t := (11, 0)) rfl (WF.t hw 59 rfl) (Or.inl rfl) ?_
  rw [show h.2.2.1 59 12 = Int32.ofNat z from h12]
  refine Wp.seg 2 (pc1 := 12) (ls1 := [some (.ref 59), some (.int (x))]) (st1 := [.int (x), .int ((85 : Int32) + (Int32.ofNat z)), .ref 60]) rfl ?_
  refine Wp.iast (j := (85 + z)) (n := 585) rfl (WF.t hw 60 rfl) ((Int32.ofNat_add 85 z).symm) (by omega) (by decide) ?_
  refine Wp.seg 2 (pc1 := 15) (ls1 := [some (.ref 59), some (.int (x))]) (st1 := [.ref 59, .ref 59]) rfl ?_
  refine Wp.gi (t := (11, 0)) rfl (WF.t hw 59 rfl) (Or.inl rfl) ?_
  rw [show (kwi h 60 ((85 + z)) x).2.2.1 59 12 = Int32.ofNat z from ((kwi_b (by decide)).trans (rfl)).trans (h12)]
  refine Wp.seg 2 (pc1 := 20) (ls1 := [some (.ref 59), some (.int (x))]) (st1 := [.int ((Int32.ofNat z) + (1 : Int32)), .ref 59]) rfl ?_
  refine Wp.pi (t := (11, 0)) rfl (WF.t hw 59 rfl) (Or.inl rfl) ?_
  exact Wp.retv rfl rfl hQ
set_option maxHeartbeats 4000000 in
theorem t_sd1 {d : Nat} {Q : KO → Prop} {h : KH} (hw : WF h) {k1 : KH} (hwk1 : WF k1) {D : Nat} {t : Int32} (h6 : h.2.2.1 59 6 = t) (h10 : h.2.2.1 59 10 = 0) {v : Int32} (h9 : h.2.2.1 59 9 = v) (e : t = 20) (g1 : ∀ Q : KO → Prop, Q (none, k1) → Cl D 207 [.ref 59] (kwi h 59 10 (0 : Int32)) Q) (hd : D + 1 ≤ d) (hQ : Q (some (.int (v)), k1)) : Cl d 210 [.ref 59] h Q := by
  refine Cl.of (ls := [some (.ref 59), none]) rfl rfl ?_
  refine Wp.seg 1 (pc1 := 1) (ls1 := [some (.ref 59), none]) (st1 := [.ref 59]) rfl ?_
  refine Wp.gi (t := (11, 0)) rfl (WF.t hw 59 rfl) (Or.inl rfl) ?_
  rw [show h.2.2.1 59 6 = t from h6]
  refine Wp.seg 1 (pc1 := 6) (ls1 := [some (.ref 59), none]) (st1 := [.int (20), .int (t)]) rfl ?_
  refine Wp.if2 rfl (fun c1 => absurd c1 (fun z => z e)) (fun c1 => ?_)
  refine Wp.seg 1 (pc1 := 10) (ls1 := [some (.ref 59), none]) (st1 := [.ref 59]) rfl ?_
  refine Wp.gi (t := (11, 0)) rfl (WF.t hw 59 rfl) (Or.inl rfl) ?_
  rw [show h.2.2.1 59 9 = v from h9]
  refine Wp.seg 4 (pc1 := 26) (ls1 := [some (.ref 59), some (.int (v))]) (st1 := [.ref 59, .ref 59]) rfl ?_
  refine Wp.gi (t := (11, 0)) rfl (WF.t hw 59 rfl) (Or.inr rfl) ?_
  rw [show h.2.2.1 59 10 = 0 from h10]
  refine Wp.if1 rfl (fun c2 => absurd c2 (show ¬ (¬ (0 : Int32) = 0) by decide)) (fun c2 => ?_)
  refine Wp.seg 1 (pc1 := 33) (ls1 := [some (.ref 59), some (.int (v))]) (st1 := [.ref 59, .ref 59]) rfl ?_
  refine Wp.gi (t := (11, 0)) rfl (WF.t hw 59 rfl) (Or.inl rfl) ?_
  rw [show h.2.2.1 59 6 = t from h6]
  refine Wp.seg 1 (pc1 := 38) (ls1 := [some (.ref 59), some (.int (v))]) (st1 := [.int (20), .int (t), .ref 59]) rfl ?_
  refine Wp.if2 rfl (fun c3 => ?_) (fun c3 => absurd (e) c3)
  refine Wp.seg 1 (pc1 := 60) (ls1 := [some (.ref 59), some (.int (v))]) (st1 := [.int (0), .ref 59]) rfl ?_
  refine Wp.pi (t := (11, 0)) rfl (WF.t hw 59 rfl) (Or.inr ⟨rfl, Or.inl rfl⟩) ?_
  refine Wp.seg 1 (pc1 := 64) (ls1 := [some (.ref 59), some (.int (v))]) (st1 := [.ref 59]) rfl ?_
  refine Wp.gi (t := (11, 0)) rfl (WF.t hw 59 rfl) (Or.inr rfl) ?_
  rw [show (kwi h 59 10 (0 : Int32)).2.2.1 59 10 = 0 from kwi_s]
  refine Wp.if1 rfl (fun c4 => absurd c4 (show ¬ (¬ (0 : Int32) = 0) by decide)) (fun c4 => ?_)
  refine Wp.seg 1 (pc1 := 71) (ls1 := [some (.ref 59), some (.int (v))]) (st1 := [.ref 59]) rfl ?_
  refine Wp.invV (d2 := D) (as := [.ref 59]) (r := []) (t := (11, 0)) rfl rfl rfl rfl (WF.t hw 59 rfl) rfl rfl ⟨rfl, rfl⟩ (by omega) (g1 _ ?_)
  show Wp d 210 74 [some (.ref 59), some (.int (v))] [] k1 Q
  refine Wp.seg 1 (pc1 := 75) (ls1 := [some (.ref 59), some (.int (v))]) (st1 := [.int (v)]) rfl ?_
  exact Wp.reti rfl rfl hQ
set_option maxHeartbeats 4000000 in
theorem t_sd2 {d : Nat} {Q : KO → Prop} {h : KH} (hw : WF h) {k1 : KH} (hwk1 : WF k1) {D : Nat} {t : Int32} (h6 : h.2.2.1 59 6 = t) (h10 : h.2.2.1 59 10 = 0) (e : ¬ t = 20) (hin : ∀ Q : KO → Prop, Q (some (.int 1), h) → Cl D 170 [.int t, .int 9, .int 13] h Q) (g1 : ∀ Q : KO → Prop, Q (none, k1) → Cl D 207 [.ref 59] (kwi h 59 10 (0 : Int32)) Q) (hd : D + 1 ≤ d) (hQ : Q (some (.int ((8 : Int32) - t)), k1)) : Cl d 210 [.ref 59] h Q := by
  refine Cl.of (ls := [some (.ref 59), none]) rfl rfl ?_
  refine Wp.seg 1 (pc1 := 1) (ls1 := [some (.ref 59), none]) (st1 := [.ref 59]) rfl ?_
  refine Wp.gi (t := (11, 0)) rfl (WF.t hw 59 rfl) (Or.inl rfl) ?_
  rw [show h.2.2.1 59 6 = t from h6]
  refine Wp.seg 1 (pc1 := 6) (ls1 := [some (.ref 59), none]) (st1 := [.int (20), .int (t)]) rfl ?_
  refine Wp.if2 rfl (fun c1 => ?_) (fun c1 => absurd (e) c1)
  refine Wp.seg 2 (pc1 := 19) (ls1 := [some (.ref 59), none]) (st1 := [.ref 59, .int (8)]) rfl ?_
  refine Wp.gi (t := (11, 0)) rfl (WF.t hw 59 rfl) (Or.inl rfl) ?_
  rw [show h.2.2.1 59 6 = t from h6]
  refine Wp.seg 4 (pc1 := 26) (ls1 := [some (.ref 59), some (.int ((8 : Int32) - t))]) (st1 := [.ref 59, .ref 59]) rfl ?_
  refine Wp.gi (t := (11, 0)) rfl (WF.t hw 59 rfl) (Or.inr rfl) ?_
  rw [show h.2.2.1 59 10 = 0 from h10]
  refine Wp.if1 rfl (fun c2 => absurd c2 (show ¬ (¬ (0 : Int32) = 0) by decide)) (fun c2 => ?_)
  refine Wp.seg 1 (pc1 := 33) (ls1 := [some (.ref 59), some (.int ((8 : Int32) - t))]) (st1 := [.ref 59, .ref 59]) rfl ?_
  refine Wp.gi (t := (11, 0)) rfl (WF.t hw 59 rfl) (Or.inl rfl) ?_
  rw [show h.2.2.1 59 6 = t from h6]
  refine Wp.seg 1 (pc1 := 38) (ls1 := [some (.ref 59), some (.int ((8 : Int32) - t))]) (st1 := [.int (20), .int (t), .ref 59]) rfl ?_
  refine Wp.if2 rfl (fun c3 => absurd c3 (e)) (fun c3 => ?_)
  refine Wp.seg 1 (pc1 := 42) (ls1 := [some (.ref 59), some (.int ((8 : Int32) - t))]) (st1 := [.ref 59, .ref 59]) rfl ?_
  refine Wp.gi (t := (11, 0)) rfl (WF.t hw 59 rfl) (Or.inl rfl) ?_
  rw [show h.2.2.1 59 6 = t from h6]
  refine Wp.seg 2 (pc1 := 49) (ls1 := [some (.ref 59), some (.int ((8 : Int32) - t))]) (st1 := [.int (13), .int (9), .int (t), .ref 59]) rfl ?_
  refine Wp.inv (d2 := D) (as := [.int (t), .int (9), .int (13)]) (r := [.ref 59]) rfl rfl rfl rfl rfl rfl (by omega) (hin _ ?_)
  show Wp d 210 52 [some (.ref 59), some (.int ((8 : Int32) - t))] [.int (1), .ref 59] h Q
  refine Wp.if1 rfl (fun c4 => ?_) (fun c4 => absurd (show ¬ (1 : Int32) = 0 by decide) c4)
  refine Wp.seg 1 (pc1 := 60) (ls1 := [some (.ref 59), some (.int ((8 : Int32) - t))]) (st1 := [.int (0), .ref 59]) rfl ?_
  refine Wp.pi (t := (11, 0)) rfl (WF.t hw 59 rfl) (Or.inr ⟨rfl, Or.inl rfl⟩) ?_
  refine Wp.seg 1 (pc1 := 64) (ls1 := [some (.ref 59), some (.int ((8 : Int32) - t))]) (st1 := [.ref 59]) rfl ?_
  refine Wp.gi (t := (11, 0)) rfl (WF.t hw 59 rfl) (Or.inr rfl) ?_
  rw [show (kwi h 59 10 (0 : Int32)).2.2.1 59 10 = 0 from kwi_s]
  refine Wp.if1 rfl (fun c5 => absurd c5 (show ¬ (¬ (0 : Int32) = 0) by decide)) (fun c5 => ?_)
  refine Wp.seg 1 (pc1 := 71) (ls1 := [some (.ref 59), some (.int ((8 : Int32) - t))]) (st1 := [.ref 59]) rfl ?_
  refine Wp.invV (d2 := D) (as := [.ref 59]) (r := []) (t := (11, 0)) rfl rfl rfl rfl (WF.t hw 59 rfl) rfl rfl ⟨rfl, rfl⟩ (by omega) (g1 _ ?_)
  show Wp d 210 74 [some (.ref 59), some (.int ((8 : Int32) - t))] [] k1 Q
  refine Wp.seg 1 (pc1 := 75) (ls1 := [some (.ref 59), some (.int ((8 : Int32) - t))]) (st1 := [.int ((8 : Int32) - t)]) rfl ?_
  exact Wp.reti rfl rfl hQ
set_option maxHeartbeats 4000000 in
theorem t_sd3 {d : Nat} {Q : KO → Prop} {h : KH} (hw : WF h) {D : Nat} {t : Int32} (h6 : h.2.2.1 59 6 = t) (h10 : h.2.2.1 59 10 = 0) (e : ¬ t = 20) (hin : ∀ Q : KO → Prop, Q (some (.int 0), h) → Cl D 170 [.int t, .int 9, .int 13] h Q) (hd : D + 1 ≤ d) (hQ : Q (some (.int ((8 : Int32) - t)), kwi h 59 10 (1 : Int32))) : Cl d 210 [.ref 59] h Q := by
  refine Cl.of (ls := [some (.ref 59), none]) rfl rfl ?_
  refine Wp.seg 1 (pc1 := 1) (ls1 := [some (.ref 59), none]) (st1 := [.ref 59]) rfl ?_
  refine Wp.gi (t := (11, 0)) rfl (WF.t hw 59 rfl) (Or.inl rfl) ?_
  rw [show h.2.2.1 59 6 = t from h6]
  refine Wp.seg 1 (pc1 := 6) (ls1 := [some (.ref 59), none]) (st1 := [.int (20), .int (t)]) rfl ?_
  refine Wp.if2 rfl (fun c1 => ?_) (fun c1 => absurd (e) c1)
  refine Wp.seg 2 (pc1 := 19) (ls1 := [some (.ref 59), none]) (st1 := [.ref 59, .int (8)]) rfl ?_
  refine Wp.gi (t := (11, 0)) rfl (WF.t hw 59 rfl) (Or.inl rfl) ?_
  rw [show h.2.2.1 59 6 = t from h6]
  refine Wp.seg 4 (pc1 := 26) (ls1 := [some (.ref 59), some (.int ((8 : Int32) - t))]) (st1 := [.ref 59, .ref 59]) rfl ?_
  refine Wp.gi (t := (11, 0)) rfl (WF.t hw 59 rfl) (Or.inr rfl) ?_
  rw [show h.2.2.1 59 10 = 0 from h10]
  refine Wp.if1 rfl (fun c2 => absurd c2 (show ¬ (¬ (0 : Int32) = 0) by decide)) (fun c2 => ?_)
  refine Wp.seg 1 (pc1 := 33) (ls1 := [some (.ref 59), some (.int ((8 : Int32) - t))]) (st1 := [.ref 59, .ref 59]) rfl ?_
  refine Wp.gi (t := (11, 0)) rfl (WF.t hw 59 rfl) (Or.inl rfl) ?_
  rw [show h.2.2.1 59 6 = t from h6]
  refine Wp.seg 1 (pc1 := 38) (ls1 := [some (.ref 59), some (.int ((8 : Int32) - t))]) (st1 := [.int (20), .int (t), .ref 59]) rfl ?_
  refine Wp.if2 rfl (fun c3 => absurd c3 (e)) (fun c3 => ?_)
  refine Wp.seg 1 (pc1 := 42) (ls1 := [some (.ref 59), some (.int ((8 : Int32) - t))]) (st1 := [.ref 59, .ref 59]) rfl ?_
  refine Wp.gi (t := (11, 0)) rfl (WF.t hw 59 rfl) (Or.inl rfl) ?_
  rw [show h.2.2.1 59 6 = t from h6]
  refine Wp.seg 2 (pc1 := 49) (ls1 := [some (.ref 59), some (.int ((8 : Int32) - t))]) (st1 := [.int (13), .int (9), .int (t), .ref 59]) rfl ?_
  refine Wp.inv (d2 := D) (as := [.int (t), .int (9), .int (13)]) (r := [.ref 59]) rfl rfl rfl rfl rfl rfl (by omega) (hin _ ?_)
  show Wp d 210 52 [some (.ref 59), some (.int ((8 : Int32) - t))] [.int (0), .ref 59] h Q
  refine Wp.if1 rfl (fun c4 => absurd c4 (show ¬ (¬ (0 : Int32) = 0) by decide)) (fun c4 => ?_)
  refine Wp.seg 2 (pc1 := 60) (ls1 := [some (.ref 59), some (.int ((8 : Int32) - t))]) (st1 := [.int (1), .ref 59]) rfl ?_
  refine Wp.pi (t := (11, 0)) rfl (WF.t hw 59 rfl) (Or.inr ⟨rfl, Or.inr rfl⟩) ?_
  refine Wp.seg 1 (pc1 := 64) (ls1 := [some (.ref 59), some (.int ((8 : Int32) - t))]) (st1 := [.ref 59]) rfl ?_
  refine Wp.gi (t := (11, 0)) rfl (WF.t hw 59 rfl) (Or.inr rfl) ?_
  rw [show (kwi h 59 10 (1 : Int32)).2.2.1 59 10 = 1 from kwi_s]
  refine Wp.if1 rfl (fun c5 => ?_) (fun c5 => absurd (show ¬ (1 : Int32) = 0 by decide) c5)
  refine Wp.seg 1 (pc1 := 75) (ls1 := [some (.ref 59), some (.int ((8 : Int32) - t))]) (st1 := [.int ((8 : Int32) - t)]) rfl ?_
  exact Wp.reti rfl rfl hQ
set_option maxHeartbeats 4000000 in
theorem t_sd4 {d : Nat} {Q : KO → Prop} {h : KH} (hw : WF h) {D : Nat} {t : Int32} (h6 : h.2.2.1 59 6 = t) (h10 : h.2.2.1 59 10 = 1) (e : ¬ t = 20) (hd : D + 1 ≤ d) (hQ : Q (some (.int ((8 : Int32) - t)), kwi h 59 10 (1 : Int32))) : Cl d 210 [.ref 59] h Q := by
  refine Cl.of (ls := [some (.ref 59), none]) rfl rfl ?_
  refine Wp.seg 1 (pc1 := 1) (ls1 := [some (.ref 59), none]) (st1 := [.ref 59]) rfl ?_
  refine Wp.gi (t := (11, 0)) rfl (WF.t hw 59 rfl) (Or.inl rfl) ?_
  rw [show h.2.2.1 59 6 = t from h6]
  refine Wp.seg 1 (pc1 := 6) (ls1 := [some (.ref 59), none]) (st1 := [.int (20), .int (t)]) rfl ?_
  refine Wp.if2 rfl (fun c1 => ?_) (fun c1 => absurd (e) c1)
  refine Wp.seg 2 (pc1 := 19) (ls1 := [some (.ref 59), none]) (st1 := [.ref 59, .int (8)]) rfl ?_
  refine Wp.gi (t := (11, 0)) rfl (WF.t hw 59 rfl) (Or.inl rfl) ?_
  rw [show h.2.2.1 59 6 = t from h6]
  refine Wp.seg 4 (pc1 := 26) (ls1 := [some (.ref 59), some (.int ((8 : Int32) - t))]) (st1 := [.ref 59, .ref 59]) rfl ?_
  refine Wp.gi (t := (11, 0)) rfl (WF.t hw 59 rfl) (Or.inr rfl) ?_
  rw [show h.2.2.1 59 10 = 1 from h10]
  refine Wp.if1 rfl (fun c2 => ?_) (fun c2 => absurd (show ¬ (1 : Int32) = 0 by decide) c2)
  refine Wp.seg 2 (pc1 := 60) (ls1 := [some (.ref 59), some (.int ((8 : Int32) - t))]) (st1 := [.int (1), .ref 59]) rfl ?_
  refine Wp.pi (t := (11, 0)) rfl (WF.t hw 59 rfl) (Or.inr ⟨rfl, Or.inr rfl⟩) ?_
  refine Wp.seg 1 (pc1 := 64) (ls1 := [some (.ref 59), some (.int ((8 : Int32) - t))]) (st1 := [.ref 59]) rfl ?_
  refine Wp.gi (t := (11, 0)) rfl (WF.t hw 59 rfl) (Or.inr rfl) ?_
  rw [show (kwi h 59 10 (1 : Int32)).2.2.1 59 10 = 1 from kwi_s]
  refine Wp.if1 rfl (fun c3 => ?_) (fun c3 => absurd (show ¬ (1 : Int32) = 0 by decide) c3)
  refine Wp.seg 1 (pc1 := 75) (ls1 := [some (.ref 59), some (.int ((8 : Int32) - t))]) (st1 := [.int ((8 : Int32) - t)]) rfl ?_
  exact Wp.reti rfl rfl hQ
set_option maxHeartbeats 4000000 in
theorem t_sd5 {d : Nat} {Q : KO → Prop} {h : KH} (hw : WF h) {D : Nat} {t : Int32} (h6 : h.2.2.1 59 6 = t) (h10 : h.2.2.1 59 10 = 1) {v : Int32} (h9 : h.2.2.1 59 9 = v) (e : t = 20) (hd : D + 1 ≤ d) (hQ : Q (some (.int (v)), kwi h 59 10 (1 : Int32))) : Cl d 210 [.ref 59] h Q := by
  refine Cl.of (ls := [some (.ref 59), none]) rfl rfl ?_
  refine Wp.seg 1 (pc1 := 1) (ls1 := [some (.ref 59), none]) (st1 := [.ref 59]) rfl ?_
  refine Wp.gi (t := (11, 0)) rfl (WF.t hw 59 rfl) (Or.inl rfl) ?_
  rw [show h.2.2.1 59 6 = t from h6]
  refine Wp.seg 1 (pc1 := 6) (ls1 := [some (.ref 59), none]) (st1 := [.int (20), .int (t)]) rfl ?_
  refine Wp.if2 rfl (fun c1 => absurd c1 (fun z => z e)) (fun c1 => ?_)
  refine Wp.seg 1 (pc1 := 10) (ls1 := [some (.ref 59), none]) (st1 := [.ref 59]) rfl ?_
  refine Wp.gi (t := (11, 0)) rfl (WF.t hw 59 rfl) (Or.inl rfl) ?_
  rw [show h.2.2.1 59 9 = v from h9]
  refine Wp.seg 4 (pc1 := 26) (ls1 := [some (.ref 59), some (.int (v))]) (st1 := [.ref 59, .ref 59]) rfl ?_
  refine Wp.gi (t := (11, 0)) rfl (WF.t hw 59 rfl) (Or.inr rfl) ?_
  rw [show h.2.2.1 59 10 = 1 from h10]
  refine Wp.if1 rfl (fun c2 => ?_) (fun c2 => absurd (show ¬ (1 : Int32) = 0 by decide) c2)
  refine Wp.seg 2 (pc1 := 60) (ls1 := [some (.ref 59), some (.int (v))]) (st1 := [.int (1), .ref 59]) rfl ?_
  refine Wp.pi (t := (11, 0)) rfl (WF.t hw 59 rfl) (Or.inr ⟨rfl, Or.inr rfl⟩) ?_
  refine Wp.seg 1 (pc1 := 64) (ls1 := [some (.ref 59), some (.int (v))]) (st1 := [.ref 59]) rfl ?_
  refine Wp.gi (t := (11, 0)) rfl (WF.t hw 59 rfl) (Or.inr rfl) ?_
  rw [show (kwi h 59 10 (1 : Int32)).2.2.1 59 10 = 1 from kwi_s]
  refine Wp.if1 rfl (fun c3 => ?_) (fun c3 => absurd (show ¬ (1 : Int32) = 0 by decide) c3)
  refine Wp.seg 1 (pc1 := 75) (ls1 := [some (.ref 59), some (.int (v))]) (st1 := [.int (v)]) rfl ?_
  exact Wp.reti rfl rfl hQ
