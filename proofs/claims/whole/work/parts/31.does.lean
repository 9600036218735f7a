/-! KM: the reference, what a hand would do, where it draws, what it does -/
/-- THE RULES as the array has them, from rule r on -/
abbrev Rul : Type := Int32 × Int32 × List Op
def rulS (S : Nat → Int32) : Nat → List Rul → Prop
  | _, [] => True
  | r, (kd, wl, P) :: rest => S (53 + 4 * r) = kd ∧ S (53 + 4 * r + 1) = wl ∧ (∃ b e, S (53 + 4 * r + 2) = Int32.ofNat b ∧ S (53 + 4 * r + 3) = Int32.ofNat e ∧ 85 + e < 583 ∧ laidS S (85 + b) P (85 + e)) ∧ okC P ∧ rulS S (r + 1) rest
def rulesS (S : Nat → Int32) (RL : List Rul) : Prop := S 10 = Int32.ofNat RL.length ∧ RL.length ≤ 8 ∧ rulS S 0 RL
/-- what the first rule says that is for this kind and holds -/
def willR (K : Int32) (f : Int32 → Int32) : List Rul → Int32
  | [] => 0
  | (kd, wl, P) :: rest => if f_isUnder K kd = 0 then willR K f rest else if holdP f P = true then wl else willR K f rest
def willS (S : Nat → Int32) (RL : List Rul) (n : Nat) : Int32 := willR (S (11 + 4 * n + 0)) (f_factOf S n) RL
theorem s_isHoldingV {d : Nat} {Q : KO → Prop} {h : KH} {g r b e : Nat} {rv : Int32} {P : List Op} (hv : rv = Int32.ofNat r) (hw : WF h) (hg : g < 6) (hd : 2 ≤ d) (hr : r + 3 < 585) (h1 : h.2.2.1 60 (r + 2) = Int32.ofNat b) (h2 : h.2.2.1 60 (r + 3) = Int32.ofNat e) (he : 85 + e < 583) (hl : laidS (h.2.2.1 60) (85 + b) P (85 + e)) (hok : okC P)
    (hQ : ∀ p, Q (some (.int (b32 (holdP (f_factOf (h.2.2.1 60) g) P))), hPl h p)) : Cl d 218 [.ref 59, .int (Int32.ofNat g), .int rv] h Q := by
  subst hv
  exact s_isHolding hw hg hd hr h1 h2 he hl hok hQ
theorem r53 (r : Nat) : (53 : Int32) + 4 * Int32.ofNat r = Int32.ofNat (53 + 4 * r) := by
  rw [show (53 : Int32) = Int32.ofNat 53 from rfl, show (4 : Int32) = Int32.ofNat 4 from rfl, ← Int32.ofNat_mul, ← Int32.ofNat_add]
theorem r531 (r : Nat) : (53 : Int32) + 4 * Int32.ofNat r + 1 = Int32.ofNat (53 + 4 * r + 1) := by
  rw [r53]
  exact ofadd _ 1
set_option maxHeartbeats 4000000 in
theorem t_doesB {d : Nat} {Q : KO → Prop} {h : KH} (hw : WF h) {g r q b e : Nat} {kd wl : Int32} {P : List Op} {z : Option Value} (hg : g < 6) (hr : r < q) (hq : q ≤ 8) (h1 : h.2.2.1 60 10 = Int32.ofNat q) (h2 : h.2.2.1 60 (53 + 4 * r) = kd) (h3 : h.2.2.1 60 (53 + 4 * r + 1) = wl) (h4 : h.2.2.1 60 (53 + 4 * r + 2) = Int32.ofNat b) (h5 : h.2.2.1 60 (53 + 4 * r + 3) = Int32.ofNat e) (he : 85 + e < 583) (hl : laidS (h.2.2.1 60) (85 + b) P (85 + e)) (hok : okC P) (hd : 3 ≤ d) (hQ : ((f_isUnder (h.2.2.1 60 (11 + 4 * g + 0)) kd) = 0 → Wp d 219 2 ([some (.ref 59), some (.int (Int32.ofNat g)), some (.int ((Int32.ofNat r) + 1)), some (.int ((53 : Int32) + ((4 : Int32) * (Int32.ofNat r))))]) [] h Q) ∧ (¬ ((f_isUnder (h.2.2.1 60 (11 + 4 * g + 0)) kd) = 0) → ∀ p : Nat → Int32, (((holdP (f_factOf (h.2.2.1 60) g) P) = false → Wp d 219 2 ([some (.ref 59), some (.int (Int32.ofNat g)), some (.int ((Int32.ofNat r) + 1)), some (.int ((53 : Int32) + ((4 : Int32) * (Int32.ofNat r))))]) [] (hPl h p) Q) ∧ ((holdP (f_factOf (h.2.2.1 60) g) P) = true → Q (some (.int (wl)), hPl h p))))) : Wp d 219 2 [some (.ref 59), some (.int (Int32.ofNat g)), some (.int (Int32.ofNat r)), z] [] h Q := by
  refine Wp.seg 2 (pc1 := 4) (ls1 := [some (.ref 59), some (.int (Int32.ofNat g)), some (.int (Int32.ofNat r)), z]) (st1 := [.ref 59, .int (Int32.ofNat r)]) rfl ?_
  refine Wp.gr (t := (11, 0)) (v := some (60)) rfl (WF.t hw 59 rfl) rfl (WF.r hw 59 0 58 rfl) ?_
  show Wp d 219 7 [some (.ref 59), some (.int (Int32.ofNat g)), some (.int (Int32.ofNat r)), z] [.ref 60, .int (Int32.ofNat r)] h Q
  refine Wp.seg 1 (pc1 := 9) (ls1 := [some (.ref 59), some (.int (Int32.ofNat g)), some (.int (Int32.ofNat r)), z]) (st1 := [.int (10), .ref 60, .int (Int32.ofNat r)]) rfl ?_
  refine Wp.iald (j := 10) (k := 20) (n := 585) rfl (WF.t hw 60 rfl) rfl rfl (by decide) (by decide) ?_
  rw [show h.2.2.1 60 10 = Int32.ofNat q from h1]
  refine Wp.if2 rfl (fun c1 => absurd c1 (fun c => by have := (ole (by omega) (by omega)).mp c; omega)) (fun c1 => ?_)
  refine Wp.seg 9 (pc1 := 23) (ls1 := [some (.ref 59), some (.int (Int32.ofNat g)), some (.int (Int32.ofNat r)), some (.int ((53 : Int32) + ((4 : Int32) * (Int32.ofNat r))))]) (st1 := [.int (0), .int (Int32.ofNat g), .ref 59]) rfl ?_
  refine Wp.invV (d2 := 0) (as := [.ref 59, .int (Int32.ofNat g), .int (0)]) (r := []) (t := (11, 0)) rfl rfl rfl rfl (WF.t hw 59 rfl) rfl rfl ⟨rfl, rfl⟩ (by omega) (s_of hw (n := g) (w := 0) rfl (by omega) ?_)
  show Wp d 219 26 [some (.ref 59), some (.int (Int32.ofNat g)), some (.int (Int32.ofNat r)), some (.int ((53 : Int32) + ((4 : Int32) * (Int32.ofNat r))))] [.int (h.2.2.1 60 (11 + 4 * g + 0))] h Q
  refine Wp.seg 1 (pc1 := 27) (ls1 := [some (.ref 59), some (.int (Int32.ofNat g)), some (.int (Int32.ofNat r)), some (.int ((53 : Int32) + ((4 : Int32) * (Int32.ofNat r))))]) (st1 := [.ref 59, .int (h.2.2.1 60 (11 + 4 * g + 0))]) rfl ?_
  refine Wp.gr (t := (11, 0)) (v := some (60)) rfl (WF.t hw 59 rfl) rfl (WF.r hw 59 0 58 rfl) ?_
  show Wp d 219 30 [some (.ref 59), some (.int (Int32.ofNat g)), some (.int (Int32.ofNat r)), some (.int ((53 : Int32) + ((4 : Int32) * (Int32.ofNat r))))] [.ref 60, .int (h.2.2.1 60 (11 + 4 * g + 0))] h Q
  refine Wp.seg 1 (pc1 := 31) (ls1 := [some (.ref 59), some (.int (Int32.ofNat g)), some (.int (Int32.ofNat r)), some (.int ((53 : Int32) + ((4 : Int32) * (Int32.ofNat r))))]) (st1 := [.int ((53 : Int32) + ((4 : Int32) * (Int32.ofNat r))), .ref 60, .int (h.2.2.1 60 (11 + 4 * g + 0))]) rfl ?_
  refine Wp.iald (j := (53 + 4 * r)) (k := 20) (n := 585) rfl (WF.t hw 60 rfl) rfl (r53 r) ((by omega)) (by decide) ?_
  rw [show h.2.2.1 60 ((53 + 4 * r)) = kd from h2]
  refine Wp.inv (d2 := 0) (as := [.int (h.2.2.1 60 (11 + 4 * g + 0)), .int (kd)]) (r := []) rfl rfl rfl rfl rfl rfl (by omega) (s_isUnder (Nat.le_refl _) ?_)
  show Wp d 219 35 [some (.ref 59), some (.int (Int32.ofNat g)), some (.int (Int32.ofNat r)), some (.int ((53 : Int32) + ((4 : Int32) * (Int32.ofNat r))))] [.int (f_isUnder (h.2.2.1 60 (11 + 4 * g + 0)) kd)] h Q
  refine Wp.if1 rfl (fun (c2 : (f_isUnder (h.2.2.1 60 (11 + 4 * g + 0)) kd) = 0) => ?_) (fun (c2 : ¬ ((f_isUnder (h.2.2.1 60 (11 + 4 * g + 0)) kd) = 0)) => ?_)
  · refine Wp.seg 2 (pc1 := 2) (ls1 := [some (.ref 59), some (.int (Int32.ofNat g)), some (.int ((Int32.ofNat r) + 1)), some (.int ((53 : Int32) + ((4 : Int32) * (Int32.ofNat r))))]) (st1 := []) rfl ?_
    exact (hQ.1 c2)
  · refine Wp.seg 3 (pc1 := 41) (ls1 := [some (.ref 59), some (.int (Int32.ofNat g)), some (.int (Int32.ofNat r)), some (.int ((53 : Int32) + ((4 : Int32) * (Int32.ofNat r))))]) (st1 := [.int ((53 : Int32) + ((4 : Int32) * (Int32.ofNat r))), .int (Int32.ofNat g), .ref 59]) rfl ?_
    refine Wp.invV (d2 := 2) (as := [.ref 59, .int (Int32.ofNat g), .int ((53 : Int32) + ((4 : Int32) * (Int32.ofNat r)))]) (r := []) (t := (11, 0)) rfl rfl rfl rfl (WF.t hw 59 rfl) rfl rfl ⟨rfl, rfl⟩ (by omega) (s_isHoldingV (r53 r) hw hg (Nat.le_refl _) (by omega) h4 h5 he hl hok ?_)
    intro p
    show Wp d 219 44 [some (.ref 59), some (.int (Int32.ofNat g)), some (.int (Int32.ofNat r)), some (.int ((53 : Int32) + ((4 : Int32) * (Int32.ofNat r))))] [.int (b32 (holdP (f_factOf (h.2.2.1 60) g) P))] (hPl h p) Q
    refine Wp.ifz rfl (fun (c3 : (holdP (f_factOf (h.2.2.1 60) g) P) = false) => ?_) (fun (c3 : (holdP (f_factOf (h.2.2.1 60) g) P) = true) => ?_)
    · refine Wp.seg 2 (pc1 := 2) (ls1 := [some (.ref 59), some (.int (Int32.ofNat g)), some (.int ((Int32.ofNat r) + 1)), some (.int ((53 : Int32) + ((4 : Int32) * (Int32.ofNat r))))]) (st1 := []) rfl ?_
      exact (((hQ.2 c2) p).1 c3)
    · refine Wp.seg 1 (pc1 := 48) (ls1 := [some (.ref 59), some (.int (Int32.ofNat g)), some (.int (Int32.ofNat r)), some (.int ((53 : Int32) + ((4 : Int32) * (Int32.ofNat r))))]) (st1 := [.ref 59]) rfl ?_
      refine Wp.gr (t := (11, 0)) (v := some (60)) rfl (WF.t hw 59 rfl) rfl (WF.r hw 59 0 58 rfl) ?_
      show Wp d 219 51 [some (.ref 59), some (.int (Int32.ofNat g)), some (.int (Int32.ofNat r)), some (.int ((53 : Int32) + ((4 : Int32) * (Int32.ofNat r))))] [.ref 60] (hPl h p) Q
      refine Wp.seg 3 (pc1 := 54) (ls1 := [some (.ref 59), some (.int (Int32.ofNat g)), some (.int (Int32.ofNat r)), some (.int ((53 : Int32) + ((4 : Int32) * (Int32.ofNat r))))]) (st1 := [.int (((53 : Int32) + ((4 : Int32) * (Int32.ofNat r))) + (1 : Int32)), .ref 60]) rfl ?_
      refine Wp.iald (j := (53 + 4 * r + 1)) (k := 20) (n := 585) rfl (WF.t hw 60 rfl) rfl (r531 r) ((by omega)) (by decide) ?_
      rw [show (hPl h p).2.2.1 60 ((53 + 4 * r + 1)) = wl from (congrFun (hPl_S _ _) _).trans h3]
      exact Wp.reti rfl rfl (((hQ.2 c2) p).2 c3)
set_option maxHeartbeats 4000000 in
theorem t_doesE {d : Nat} {Q : KO → Prop} {h : KH} (hw : WF h) {g q : Nat} {z : Option Value} (h1 : h.2.2.1 60 10 = Int32.ofNat q) (hd : 0 ≤ d) (hQ : Q (some (.int (0)), h)) : Wp d 219 2 [some (.ref 59), some (.int (Int32.ofNat g)), some (.int (Int32.ofNat q)), z] [] h Q := by
  refine Wp.seg 2 (pc1 := 4) (ls1 := [some (.ref 59), some (.int (Int32.ofNat g)), some (.int (Int32.ofNat q)), z]) (st1 := [.ref 59, .int (Int32.ofNat q)]) rfl ?_
  refine Wp.gr (t := (11, 0)) (v := some (60)) rfl (WF.t hw 59 rfl) rfl (WF.r hw 59 0 58 rfl) ?_
  show Wp d 219 7 [some (.ref 59), some (.int (Int32.ofNat g)), some (.int (Int32.ofNat q)), z] [.ref 60, .int (Int32.ofNat q)] h Q
  refine Wp.seg 1 (pc1 := 9) (ls1 := [some (.ref 59), some (.int (Int32.ofNat g)), some (.int (Int32.ofNat q)), z]) (st1 := [.int (10), .ref 60, .int (Int32.ofNat q)]) rfl ?_
  refine Wp.iald (j := 10) (k := 20) (n := 585) rfl (WF.t hw 60 rfl) rfl rfl (by decide) (by decide) ?_
  rw [show h.2.2.1 60 10 = Int32.ofNat q from h1]
  refine Wp.if2 rfl (fun c1 => ?_) (fun c1 => absurd (Int32.le_refl _) c1)
  refine Wp.seg 1 (pc1 := 63) (ls1 := [some (.ref 59), some (.int (Int32.ofNat g)), some (.int (Int32.ofNat q)), z]) (st1 := [.int (0)]) rfl ?_
  exact Wp.reti rfl rfl hQ
set_option maxHeartbeats 4000000 in
theorem t_does {d : Nat} {Q : KO → Prop} {h : KH} {g : Nat} (hd : 3 ≤ d) (hQ : Wp d 219 2 ([some (.ref 59), some (.int (Int32.ofNat g)), some (.int (0)), none]) [] h Q) : Cl d 219 [.ref 59, .int (Int32.ofNat g)] h Q := by
  refine Cl.of (ls := [some (.ref 59), some (.int (Int32.ofNat g)), none, none]) rfl rfl ?_
  refine Wp.seg 2 (pc1 := 2) (ls1 := [some (.ref 59), some (.int (Int32.ofNat g)), some (.int (0)), none]) (st1 := []) rfl ?_
  exact hQ
theorem s_doesL {d : Nat} {Q : KO → Prop} {g q : Nat} {S : Nat → Int32} (hd : 3 ≤ d) (hg : g < 6) (hq : q ≤ 8) (h1 : S 10 = Int32.ofNat q) : ∀ (RL : List Rul) (r : Nat) (h : KH) (z : Option Value), WF h → h.2.2.1 60 = S → r + RL.length = q → rulS S r RL →
    (∀ p, Q (some (.int (willR (S (11 + 4 * g + 0)) (f_factOf S g) RL)), hPl h p)) → Wp d 219 2 [some (.ref 59), some (.int (Int32.ofNat g)), some (.int (Int32.ofNat r)), z] [] h Q
  | [], r, h, z, hw, hS, hr, hl, hQ => by
    subst hS
    obtain rfl : r = q := hr
    have := hQ (h.2.2.1 64)
    rw [hPl_self] at this
    exact t_doesE hw h1 (Nat.zero_le _) this
  | (kd, wl, P) :: rest, r, h, z, hw, hS, hr, hl, hQ => by
    subst hS
    obtain ⟨l1, l2, ⟨b, e, l3, l4, l5, l6⟩, l7, l8⟩ := hl
    have hr2 : r + 1 + rest.length = q := by rw [← hr, List.length_cons]; omega
    have e1 : Int32.ofNat r + 1 = Int32.ofNat (r + 1) := ofadd r 1
    refine t_doesB hw hg (by omega) hq h1 l1 l2 l3 l4 l5 l6 l7 hd ?_
    unfold willR at hQ
    refine ⟨fun c => ?_, fun c p => ⟨fun c2 => ?_, fun c2 => ?_⟩⟩
    · simp only [if_pos c] at hQ
      rw [e1]
      exact s_doesL hd hg hq h1 rest (r + 1) h _ hw rfl hr2 l8 hQ
    · simp only [if_neg c, if_neg (bfT c2)] at hQ
      rw [e1]
      exact s_doesL hd hg hq h1 rest (r + 1) (hPl h p) _ hw (hPl_S _ _) hr2 l8 (fun p2 => by rw [hPl_hPl]; exact hQ p2)
    · simp only [if_neg c, if_pos c2] at hQ
      exact hQ p
theorem s_does {d : Nat} {Q : KO → Prop} {h : KH} {g : Nat} {RL : List Rul} (hw : WF h) (hg : g < 6) (hR : rulesS (h.2.2.1 60) RL) (hd : 3 ≤ d) (hQ : ∀ p, Q (some (.int (willS (h.2.2.1 60) RL g)), hPl h p)) : Cl d 219 [.ref 59, .int (Int32.ofNat g)] h Q :=
  t_does hd (s_doesL hd hg hR.2.1 hR.1 RL 0 h none hw rfl (Nat.zero_add _) hR.2.2 hQ)
def stS (s : Int32) (c : Nat) (x : Int32) (j : Nat) : Int32 := x ||| (if (s >>> (Int32.ofNat j &&& 31)) &&& 1 = 1 ∧ 0 ≤ kE.getD (4 * c + j) 0 then (1 : Int32) <<< (kE.getD (4 * c + j) 0 &&& 31) else 0)
def stR (s : Int32) (c : Nat) : Nat → Int32 → Int32
  | 0, x => x
  | k + 1, x => stR s c k (stS s c x (3 - k))
/-- the edges of a cell that strokes tell -/
def stE (s : Int32) (c : Nat) : Int32 := stR s c 4 0
set_option maxHeartbeats 4000000 in
theorem t_stB {d : Nat} {Q : KO → Prop} {h : KH} (hw : WF h) {n c j : Nat} {x : Int32} {z : Option Value} (hn : n < 6) (hj : j < 4) (hc2 : c < 12) (hc : h.2.2.1 60 (11 + 4 * n + 1) = Int32.ofNat c) (hd : 2 ≤ d) (hQ : (¬ (((f_strokesOf (h.2.2.1 60) n) >>> ((Int32.ofNat j) &&& 31)) &&& (1 : Int32)) = (1 : Int32) → Wp d 192 4 ([some (.ref 59), some (.int (Int32.ofNat n)), some (.int (x ||| (0 : Int32))), some (.int ((Int32.ofNat j) + 1)), some (.int (-1))]) [] h Q) ∧ (¬ (¬ (((f_strokesOf (h.2.2.1 60) n) >>> ((Int32.ofNat j) &&& 31)) &&& (1 : Int32)) = (1 : Int32)) → ((kE.getD (4 * c + j) 0) < 0 → Wp d 192 4 ([some (.ref 59), some (.int (Int32.ofNat n)), some (.int (x ||| (0 : Int32))), some (.int ((Int32.ofNat j) + 1)), some (.int (kE.getD (4 * c + j) 0))]) [] h Q) ∧ (¬ ((kE.getD (4 * c + j) 0) < 0) → Wp d 192 4 ([some (.ref 59), some (.int (Int32.ofNat n)), some (.int (x ||| ((1 : Int32) <<< ((kE.getD (4 * c + j) 0) &&& 31)))), some (.int ((Int32.ofNat j) + 1)), some (.int (kE.getD (4 * c + j) 0))]) [] h Q))) : Wp d 192 4 [some (.ref 59), some (.int (Int32.ofNat n)), some (.int (x)), some (.int (Int32.ofNat j)), z] [] h Q := by
  refine Wp.seg 2 (pc1 := 6) (ls1 := [some (.ref 59), some (.int (Int32.ofNat n)), some (.int (x)), some (.int (Int32.ofNat j)), z]) (st1 := [.int (4), .int (Int32.ofNat j)]) rfl ?_
  refine Wp.if2 rfl (fun c1 => absurd c1 (fun c => by have := (ole (a := 4) (by omega) (by omega)).mp c; omega)) (fun c1 => ?_)
  refine Wp.seg 2 (pc1 := 11) (ls1 := [some (.ref 59), some (.int (Int32.ofNat n)), some (.int (x)), some (.int (Int32.ofNat j)), z]) (st1 := [.int (Int32.ofNat n), .ref 59]) rfl ?_
  refine Wp.invV (d2 := 1) (as := [.ref 59, .int (Int32.ofNat n)]) (r := []) (t := (11, 0)) rfl rfl rfl rfl (WF.t hw 59 rfl) rfl rfl ⟨rfl, rfl⟩ (by omega) (s_strokesOf hw hn (Nat.le_refl _) ?_)
  show Wp d 192 14 [some (.ref 59), some (.int (Int32.ofNat n)), some (.int (x)), some (.int (Int32.ofNat j)), z] [.int (f_strokesOf (h.2.2.1 60) n)] h Q
  refine Wp.seg 5 (pc1 := 19) (ls1 := [some (.ref 59), some (.int (Int32.ofNat n)), some (.int (x)), some (.int (Int32.ofNat j)), z]) (st1 := [.int (1), .int (((f_strokesOf (h.2.2.1 60) n) >>> ((Int32.ofNat j) &&& 31)) &&& (1 : Int32))]) rfl ?_
  refine Wp.if2 rfl (fun (c2 : ¬ (((f_strokesOf (h.2.2.1 60) n) >>> ((Int32.ofNat j) &&& 31)) &&& (1 : Int32)) = (1 : Int32)) => ?_) (fun (c2 : ¬ (¬ (((f_strokesOf (h.2.2.1 60) n) >>> ((Int32.ofNat j) &&& 31)) &&& (1 : Int32)) = (1 : Int32))) => ?_)
  · refine Wp.seg 4 (pc1 := 41) (ls1 := [some (.ref 59), some (.int (Int32.ofNat n)), some (.int (x)), some (.int (Int32.ofNat j)), some (.int (-1))]) (st1 := [.int (-1), .int (x)]) rfl ?_
    refine Wp.if1 rfl (fun c3 => ?_) (fun c3 => absurd (show (-1 : Int32) < 0 by decide) c3)
    refine Wp.seg 5 (pc1 := 4) (ls1 := [some (.ref 59), some (.int (Int32.ofNat n)), some (.int (x ||| (0 : Int32))), some (.int ((Int32.ofNat j) + 1)), some (.int (-1))]) (st1 := []) rfl ?_
    exact (hQ.1 c2)
  · refine Wp.seg 3 (pc1 := 25) (ls1 := [some (.ref 59), some (.int (Int32.ofNat n)), some (.int (x)), some (.int (Int32.ofNat j)), z]) (st1 := [.int (1), .int (Int32.ofNat n), .ref 59]) rfl ?_
    refine Wp.invV (d2 := 0) (as := [.ref 59, .int (Int32.ofNat n), .int (1)]) (r := []) (t := (11, 0)) rfl rfl rfl rfl (WF.t hw 59 rfl) rfl rfl ⟨rfl, rfl⟩ (by omega) (s_ofv hw (n := n) (w := 1) rfl (by omega) hc ?_)
    show Wp d 192 28 [some (.ref 59), some (.int (Int32.ofNat n)), some (.int (x)), some (.int (Int32.ofNat j)), z] [.int (Int32.ofNat c)] h Q
    refine Wp.seg 1 (pc1 := 29) (ls1 := [some (.ref 59), some (.int (Int32.ofNat n)), some (.int (x)), some (.int (Int32.ofNat j)), z]) (st1 := [.int (Int32.ofNat j), .int (Int32.ofNat c)]) rfl ?_
    refine Wp.inv (d2 := 0) (as := [.int (Int32.ofNat c), .int (Int32.ofNat j)]) (r := []) rfl rfl rfl rfl rfl rfl (by omega) (s_edge hc2 hj ?_)
    show Wp d 192 32 [some (.ref 59), some (.int (Int32.ofNat n)), some (.int (x)), some (.int (Int32.ofNat j)), z] [.int (kE.getD (4 * c + j) 0)] h Q
    refine Wp.seg 4 (pc1 := 41) (ls1 := [some (.ref 59), some (.int (Int32.ofNat n)), some (.int (x)), some (.int (Int32.ofNat j)), some (.int (kE.getD (4 * c + j) 0))]) (st1 := [.int (kE.getD (4 * c + j) 0), .int (x)]) rfl ?_
    refine Wp.if1 rfl (fun (c4 : (kE.getD (4 * c + j) 0) < 0) => ?_) (fun (c4 : ¬ ((kE.getD (4 * c + j) 0) < 0)) => ?_)
    · refine Wp.seg 5 (pc1 := 4) (ls1 := [some (.ref 59), some (.int (Int32.ofNat n)), some (.int (x ||| (0 : Int32))), some (.int ((Int32.ofNat j) + 1)), some (.int (kE.getD (4 * c + j) 0))]) (st1 := []) rfl ?_
      exact ((hQ.2 c2).1 c4)
    · refine Wp.seg 8 (pc1 := 4) (ls1 := [some (.ref 59), some (.int (Int32.ofNat n)), some (.int (x ||| ((1 : Int32) <<< ((kE.getD (4 * c + j) 0) &&& 31)))), some (.int ((Int32.ofNat j) + 1)), some (.int (kE.getD (4 * c + j) 0))]) (st1 := []) rfl ?_
      exact ((hQ.2 c2).2 c4)
set_option maxHeartbeats 4000000 in
theorem t_stX {d : Nat} {Q : KO → Prop} {h : KH} {n : Nat} {x : Int32} {z : Option Value} (hd : 0 ≤ d) (hQ : Q (some (.int (x)), h)) : Wp d 192 4 [some (.ref 59), some (.int (Int32.ofNat n)), some (.int (x)), some (.int (4)), z] [] h Q := by
  refine Wp.seg 2 (pc1 := 6) (ls1 := [some (.ref 59), some (.int (Int32.ofNat n)), some (.int (x)), some (.int (4)), z]) (st1 := [.int (4), .int (4)]) rfl ?_
  refine Wp.if2 rfl (fun c1 => ?_) (fun c1 => absurd (Int32.le_refl _) c1)
  refine Wp.seg 1 (pc1 := 61) (ls1 := [some (.ref 59), some (.int (Int32.ofNat n)), some (.int (x)), some (.int (4)), z]) (st1 := [.int (x)]) rfl ?_
  exact Wp.reti rfl rfl hQ
set_option maxHeartbeats 4000000 in
theorem t_st {d : Nat} {Q : KO → Prop} {h : KH} {n : Nat} (hd : 2 ≤ d) (hQ : Wp d 192 4 ([some (.ref 59), some (.int (Int32.ofNat n)), some (.int (0)), some (.int (0)), none]) [] h Q) : Cl d 192 [.ref 59, .int (Int32.ofNat n)] h Q := by
  refine Cl.of (ls := [some (.ref 59), some (.int (Int32.ofNat n)), none, none, none]) rfl rfl ?_
  refine Wp.seg 4 (pc1 := 4) (ls1 := [some (.ref 59), some (.int (Int32.ofNat n)), some (.int (0)), some (.int (0)), none]) (st1 := []) rfl ?_
  exact hQ
theorem s_stL {d : Nat} {Q : KO → Prop} {h : KH} (hw : WF h) (hd : 2 ≤ d) {n c : Nat} (hn : n < 6) (hc2 : c < 12) (hc : h.2.2.1 60 (11 + 4 * n + 1) = Int32.ofNat c) : ∀ (k : Nat) (x : Int32) (z : Option Value), k ≤ 4 → Q (some (.int (stR (f_strokesOf (h.2.2.1 60) n) c k x)), h) → Wp d 192 4 [some (.ref 59), some (.int (Int32.ofNat n)), some (.int x), some (.int (Int32.ofNat (4 - k))), z] [] h Q
  | 0, x, z, _, hQ => t_stX (Nat.zero_le _) hQ
  | k + 1, x, z, hk, hQ => by
    have ej : 4 - (k + 1) = 3 - k := by omega
    have step : ∀ (y : Int32) (z2 : Option Value), stS (f_strokesOf (h.2.2.1 60) n) c x (3 - k) = y → Wp d 192 4 [some (.ref 59), some (.int (Int32.ofNat n)), some (.int y), some (.int (Int32.ofNat (3 - k) + 1)), z2] [] h Q := by
      intro y z2 hy
      have e1 : Int32.ofNat (3 - k) + 1 = Int32.ofNat (4 - k) := by
        have := ofadd (3 - k) 1
        rw [show 3 - k + 1 = 4 - k by omega] at this
        exact this
      rw [e1]
      refine s_stL hw hd hn hc2 hc k y z2 (by omega) ?_
      rw [← hy]
      exact hQ
    rw [ej]
    refine t_stB hw hn (by omega) hc2 hc hd ⟨fun c1 => step _ _ ?_, fun c1 => ⟨fun c2 => step _ _ ?_, fun c2 => step _ _ ?_⟩⟩
    · unfold stS
      rw [if_neg (fun q => c1 q.1)]
    · unfold stS
      rw [if_neg (fun q => (Int32.not_le.mpr c2) q.2)]
    · unfold stS
      rw [if_pos ⟨Decidable.not_not.mp c1, Int32.not_lt.mp c2⟩]
theorem s_st {d : Nat} {Q : KO → Prop} {h : KH} (hw : WF h) (hd : 2 ≤ d) {n c : Nat} (hn : n < 6) (hc2 : c < 12) (hc : h.2.2.1 60 (11 + 4 * n + 1) = Int32.ofNat c) (hQ : Q (some (.int (stE (f_strokesOf (h.2.2.1 60) n) c)), h)) : Cl d 192 [.ref 59, .int (Int32.ofNat n)] h Q := t_st hd (s_stL hw hd hn hc2 hc 4 0 none (Nat.le_refl _) hQ)
