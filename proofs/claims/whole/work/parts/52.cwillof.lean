/-! KM: the class, what a hand will: the rules by turns -/
theorem cA_le {a : Nat} (ha : cityA a) : a ≤ 26 ∧ 1 ≤ a := by
  simp only [cityA, List.mem_cons, List.not_mem_nil, or_false] at ha
  omega
theorem rulCR_congr {I I2 : Nat → Nat → Int32} {o L : Nat} (h : ∀ j, j ≤ 4 → I2 (o + j) = I (o + j)) : ∀ (RL : List Rul) (r b : Nat), rulCR I o L r b RL → rulCR I2 o L r b RL
  | [], _, _, _ => trivial
  | (kd, wl, P) :: rest, r, b, hl => by
    obtain ⟨l1, l2, ⟨e, l3, l4, l5, l6⟩, l7⟩ := hl
    exact ⟨by rw [h 1 (by decide)]; exact l1, by rw [h 2 (by decide)]; exact l2, ⟨e, by rw [h 3 (by decide)]; exact l3, l4, by rw [h 4 (by decide)]; exact l5, rulCR_congr h rest (r + 1) e l6⟩, l7⟩
set_option maxHeartbeats 4000000 in
theorem t_willN {d : Nat} {Q : KO → Prop} {h : KH} (hw : WF h) {a : Nat} (ha : cityA a) {n : Int32} (hr : h.2.1 a 10 = none) (hd : 0 ≤ d) (hQ : Q (some (.int (0)), h)) : Cl d 17 [.ref a, .int (n)] h Q := by
  refine Cl.of (ls := [some (.ref a), some (.int (n)), none, none]) rfl rfl ?_
  refine Wp.seg 1 (pc1 := 1) (ls1 := [some (.ref a), some (.int (n)), none, none]) (st1 := [.ref a]) rfl ?_
  refine Wp.gr (t := (1, 0)) (v := none) rfl (cA_t hw ha) rfl hr ?_
  show Wp d 17 4 [some (.ref a), some (.int (n)), none, none] [.null] h Q
  refine Wp.br rfl rfl ?_
  show Wp d 17 7 [some (.ref a), some (.int (n)), none, none] [] h Q
  refine Wp.seg 1 (pc1 := 8) (ls1 := [some (.ref a), some (.int (n)), none, none]) (st1 := [.int (0)]) rfl ?_
  exact Wp.reti rfl rfl hQ
set_option maxHeartbeats 4000000 in
theorem t_will {d : Nat} {Q : KO → Prop} {h : KH} (hw : WF h) {a : Nat} (ha : cityA a) {n k o : Nat} (hn : n < 6) (hr : h.2.1 a 10 = some o) (hk : h.2.2.1 (a + 1) (4 * n + 0) = Int32.ofNat k) (hd : 2 ≤ d) (hQ : ∀ I : Nat → Nat → Int32, (∀ b, b ≠ a + 2 → I b = h.2.2.1 b) → knowF (I (a + 2)) (cS h.2.2.1 a) n → (Wp d 17 23 ([some (.ref a), some (.int (Int32.ofNat n)), some (.int (Int32.ofNat k)), some (.int (0))]) [] (hI h I) Q)) : Cl d 17 [.ref a, .int (Int32.ofNat n)] h Q := by
  refine Cl.of (ls := [some (.ref a), some (.int (Int32.ofNat n)), none, none]) rfl rfl ?_
  refine Wp.seg 1 (pc1 := 1) (ls1 := [some (.ref a), some (.int (Int32.ofNat n)), none, none]) (st1 := [.ref a]) rfl ?_
  refine Wp.gr (t := (1, 0)) (v := some (o)) rfl (cA_t hw ha) rfl hr ?_
  show Wp d 17 4 [some (.ref a), some (.int (Int32.ofNat n)), none, none] [.ref o] h Q
  refine Wp.br rfl rfl ?_
  show Wp d 17 9 [some (.ref a), some (.int (Int32.ofNat n)), none, none] [] h Q
  refine Wp.seg 2 (pc1 := 11) (ls1 := [some (.ref a), some (.int (Int32.ofNat n)), none, none]) (st1 := [.int (Int32.ofNat n), .ref a]) rfl ?_
  refine Wp.invV (d2 := 1) (as := [.ref a, .int (Int32.ofNat n)]) (r := []) (t := (1, 0)) rfl rfl rfl rfl (cA_t hw ha) rfl rfl ⟨rfl, rfl⟩ (by omega) (s_learn hw ha hn (Nat.le_refl _) ?_)
  intro I i1 i2
  show Wp d 17 14 [some (.ref a), some (.int (Int32.ofNat n)), none, none] [] (hI h I) Q
  refine Wp.seg 3 (pc1 := 17) (ls1 := [some (.ref a), some (.int (Int32.ofNat n)), none, none]) (st1 := [.int (0), .int (Int32.ofNat n), .ref a]) rfl ?_
  refine Wp.invV (d2 := 0) (as := [.ref a, .int (Int32.ofNat n), .int (0)]) (r := []) (t := (1, 0)) rfl rfl rfl rfl (cA_t hw ha) rfl rfl ⟨rfl, rfl⟩ (by omega) (s_cget (h := hI h I) hw ha (n := n) (w := 0) rfl (by omega) ((congrFun (i1 (a + 1) (by omega)) _).trans hk) ?_)
  show Wp d 17 20 [some (.ref a), some (.int (Int32.ofNat n)), none, none] [.int (Int32.ofNat k)] (hI h I) Q
  refine Wp.seg 3 (pc1 := 23) (ls1 := [some (.ref a), some (.int (Int32.ofNat n)), some (.int (Int32.ofNat k)), some (.int (0))]) (st1 := []) rfl ?_
  exact (hQ I i1 i2)
set_option maxHeartbeats 4000000 in
theorem t_willB {d : Nat} {Q : KO → Prop} {h : KH} (hw : WF h) {a : Nat} (ha : cityA a) {o L : Nat} (hr : h.2.1 a 10 = some o) (hO : rulO h o L) {n k r q : Nat} (hq : h.2.2.1 o 4 = Int32.ofNat q) (hq8 : q ≤ 8) {kd wl : Int32} {X : Bool} (hrq : r < q) (h1 : h.2.2.1 (o + 1) r = kd) (h2 : h.2.2.1 (o + 2) r = wl) (hh : ∀ Q : KO → Prop, Q (some (.int (b32 X)), h) → Cl 1 19 [.ref a, .int (Int32.ofNat r)] h Q) (hd : 2 ≤ d) (hQ : ((f_cUnder (Int32.ofNat k) kd) = 0 → Wp d 17 23 ([some (.ref a), some (.int (Int32.ofNat n)), some (.int (Int32.ofNat k)), some (.int ((Int32.ofNat r) + 1))]) [] h Q) ∧ (¬ ((f_cUnder (Int32.ofNat k) kd) = 0) → (X = false → Wp d 17 23 ([some (.ref a), some (.int (Int32.ofNat n)), some (.int (Int32.ofNat k)), some (.int ((Int32.ofNat r) + 1))]) [] h Q) ∧ (X = true → Q (some (.int (wl)), h)))) : Wp d 17 23 [some (.ref a), some (.int (Int32.ofNat n)), some (.int (Int32.ofNat k)), some (.int (Int32.ofNat r))] [] h Q := by
  refine Wp.seg 2 (pc1 := 25) (ls1 := [some (.ref a), some (.int (Int32.ofNat n)), some (.int (Int32.ofNat k)), some (.int (Int32.ofNat r))]) (st1 := [.ref a, .int (Int32.ofNat r)]) rfl ?_
  refine Wp.gr (t := (1, 0)) (v := some (o)) rfl (cA_t hw ha) rfl hr ?_
  show Wp d 17 28 [some (.ref a), some (.int (Int32.ofNat n)), some (.int (Int32.ofNat k)), some (.int (Int32.ofNat r))] [.ref o, .int (Int32.ofNat r)] h Q
  refine Wp.gi (t := (9, 0)) rfl hO.1 (Or.inl rfl) ?_
  rw [show h.2.2.1 o 4 = Int32.ofNat q from hq]
  refine Wp.if2 rfl (fun c1 => absurd c1 (fun c => by have := (ole (by omega) (by omega)).mp c; omega)) (fun c1 => ?_)
  refine Wp.seg 2 (pc1 := 37) (ls1 := [some (.ref a), some (.int (Int32.ofNat n)), some (.int (Int32.ofNat k)), some (.int (Int32.ofNat r))]) (st1 := [.int (8), .int (Int32.ofNat r)]) rfl ?_
  refine Wp.if2 rfl (fun c2 => absurd c2 (fun c => by have := (zle (m := 8) rfl (znat (n := r) (by omega))).mp c; omega)) (fun c2 => ?_)
  refine Wp.seg 2 (pc1 := 42) (ls1 := [some (.ref a), some (.int (Int32.ofNat n)), some (.int (Int32.ofNat k)), some (.int (Int32.ofNat r))]) (st1 := [.ref a, .int (Int32.ofNat k)]) rfl ?_
  refine Wp.gr (t := (1, 0)) (v := some (o)) rfl (cA_t hw ha) rfl hr ?_
  show Wp d 17 45 [some (.ref a), some (.int (Int32.ofNat n)), some (.int (Int32.ofNat k)), some (.int (Int32.ofNat r))] [.ref o, .int (Int32.ofNat k)] h Q
  refine Wp.gr (t := (9, 0)) (v := some (o + 1)) rfl hO.1 rfl hO.2.2.2.2.2.1 ?_
  show Wp d 17 48 [some (.ref a), some (.int (Int32.ofNat n)), some (.int (Int32.ofNat k)), some (.int (Int32.ofNat r))] [.ref (o + 1), .int (Int32.ofNat k)] h Q
  refine Wp.seg 1 (pc1 := 49) (ls1 := [some (.ref a), some (.int (Int32.ofNat n)), some (.int (Int32.ofNat k)), some (.int (Int32.ofNat r))]) (st1 := [.int (Int32.ofNat r), .ref (o + 1), .int (Int32.ofNat k)]) rfl ?_
  refine Wp.iald (j := r) (k := 20) (n := 8) rfl hO.2.1 rfl rfl (by omega) (by decide) ?_
  rw [show h.2.2.1 (o + 1) r = kd from h1]
  refine Wp.inv (d2 := 0) (as := [.int (Int32.ofNat k), .int (kd)]) (r := []) rfl rfl rfl rfl rfl rfl (by omega) (s_cUnder (Nat.le_refl _) ?_)
  show Wp d 17 53 [some (.ref a), some (.int (Int32.ofNat n)), some (.int (Int32.ofNat k)), some (.int (Int32.ofNat r))] [.int (f_cUnder (Int32.ofNat k) kd)] h Q
  refine Wp.if1 rfl (fun (c3 : (f_cUnder (Int32.ofNat k) kd) = 0) => ?_) (fun (c3 : ¬ ((f_cUnder (Int32.ofNat k) kd) = 0)) => ?_)
  · refine Wp.seg 2 (pc1 := 23) (ls1 := [some (.ref a), some (.int (Int32.ofNat n)), some (.int (Int32.ofNat k)), some (.int ((Int32.ofNat r) + 1))]) (st1 := []) rfl ?_
    exact (hQ.1 c3)
  · refine Wp.seg 2 (pc1 := 58) (ls1 := [some (.ref a), some (.int (Int32.ofNat n)), some (.int (Int32.ofNat k)), some (.int (Int32.ofNat r))]) (st1 := [.int (Int32.ofNat r), .ref a]) rfl ?_
    refine Wp.invV (d2 := 1) (as := [.ref a, .int (Int32.ofNat r)]) (r := []) (t := (1, 0)) rfl rfl rfl rfl (cA_t hw ha) rfl rfl ⟨rfl, rfl⟩ (by omega) (hh _ ?_)
    show Wp d 17 61 [some (.ref a), some (.int (Int32.ofNat n)), some (.int (Int32.ofNat k)), some (.int (Int32.ofNat r))] [.int (b32 X)] h Q
    refine Wp.ifz rfl (fun (c4 : X = false) => ?_) (fun (c4 : X = true) => ?_)
    · refine Wp.seg 2 (pc1 := 23) (ls1 := [some (.ref a), some (.int (Int32.ofNat n)), some (.int (Int32.ofNat k)), some (.int ((Int32.ofNat r) + 1))]) (st1 := []) rfl ?_
      exact ((hQ.2 c3).1 c4)
    · refine Wp.seg 1 (pc1 := 65) (ls1 := [some (.ref a), some (.int (Int32.ofNat n)), some (.int (Int32.ofNat k)), some (.int (Int32.ofNat r))]) (st1 := [.ref a]) rfl ?_
      refine Wp.gr (t := (1, 0)) (v := some (o)) rfl (cA_t hw ha) rfl hr ?_
      show Wp d 17 68 [some (.ref a), some (.int (Int32.ofNat n)), some (.int (Int32.ofNat k)), some (.int (Int32.ofNat r))] [.ref o] h Q
      refine Wp.gr (t := (9, 0)) (v := some (o + 2)) rfl hO.1 rfl hO.2.2.2.2.2.2.1 ?_
      show Wp d 17 71 [some (.ref a), some (.int (Int32.ofNat n)), some (.int (Int32.ofNat k)), some (.int (Int32.ofNat r))] [.ref (o + 2)] h Q
      refine Wp.seg 1 (pc1 := 72) (ls1 := [some (.ref a), some (.int (Int32.ofNat n)), some (.int (Int32.ofNat k)), some (.int (Int32.ofNat r))]) (st1 := [.int (Int32.ofNat r), .ref (o + 2)]) rfl ?_
      refine Wp.iald (j := r) (k := 20) (n := 8) rfl hO.2.2.1 rfl rfl (by omega) (by decide) ?_
      rw [show h.2.2.1 (o + 2) r = wl from h2]
      exact Wp.reti rfl rfl ((hQ.2 c3).2 c4)
set_option maxHeartbeats 4000000 in
theorem t_willE {d : Nat} {Q : KO → Prop} {h : KH} (hw : WF h) {a : Nat} (ha : cityA a) {o L : Nat} (hr : h.2.1 a 10 = some o) (hO : rulO h o L) {n k q : Nat} (hq : h.2.2.1 o 4 = Int32.ofNat q) (hq8 : q ≤ 8) (hd : 0 ≤ d) (hQ : Q (some (.int (0)), h)) : Wp d 17 23 [some (.ref a), some (.int (Int32.ofNat n)), some (.int (Int32.ofNat k)), some (.int (Int32.ofNat q))] [] h Q := by
  refine Wp.seg 2 (pc1 := 25) (ls1 := [some (.ref a), some (.int (Int32.ofNat n)), some (.int (Int32.ofNat k)), some (.int (Int32.ofNat q))]) (st1 := [.ref a, .int (Int32.ofNat q)]) rfl ?_
  refine Wp.gr (t := (1, 0)) (v := some (o)) rfl (cA_t hw ha) rfl hr ?_
  show Wp d 17 28 [some (.ref a), some (.int (Int32.ofNat n)), some (.int (Int32.ofNat k)), some (.int (Int32.ofNat q))] [.ref o, .int (Int32.ofNat q)] h Q
  refine Wp.gi (t := (9, 0)) rfl hO.1 (Or.inl rfl) ?_
  rw [show h.2.2.1 o 4 = Int32.ofNat q from hq]
  refine Wp.if2 rfl (fun c1 => ?_) (fun c1 => absurd (Int32.le_refl _) c1)
  refine Wp.seg 1 (pc1 := 81) (ls1 := [some (.ref a), some (.int (Int32.ofNat n)), some (.int (Int32.ofNat k)), some (.int (Int32.ofNat q))]) (st1 := [.int (0)]) rfl ?_
  exact Wp.reti rfl rfl hQ
set_option maxHeartbeats 4000000 in
theorem s_willL {d : Nat} {Q : KO → Prop} {h : KH} (hw : WF h) {a : Nat} (ha : cityA a) {o L : Nat} (hr : h.2.1 a 10 = some o) (hO : rulO h o L) {n k q : Nat} (hq : h.2.2.1 o 4 = Int32.ofNat q) (hq8 : q ≤ 8) (hk1 : 1 ≤ k) (hk5 : k ≤ 5) {S : Nat → Int32} (hF : knowF (h.2.2.1 (a + 2)) S n) (hd : 2 ≤ d) :
    ∀ (RL : List Rul) (r b : Nat), r + RL.length = q → rulCR h.2.2.1 o L r b RL → (∀ Q : KO → Prop, Q (some (.int (Int32.ofNat b)), h) → Cl 0 79 [.ref o, .int (Int32.ofNat r)] h Q) → Q (some (.int (willR (Int32.ofNat k) (f_factOf S n) RL)), h) →
      Wp d 17 23 [some (.ref a), some (.int (Int32.ofNat n)), some (.int (Int32.ofNat k)), some (.int (Int32.ofNat r))] [] h Q
  | [], r, b, hrl, hl, hb, hQ => by
    obtain rfl : r = q := hrl
    exact t_willE hw ha hr hO hq hq8 (Nat.zero_le _) hQ
  | (kd, wl, P) :: rest, r, b, hrl, hl, hb, hQ => by
    have hlen : r + (rest.length + 1) = q := hrl
    obtain ⟨l1, l2, ⟨e, l3, l4, l5, l6⟩, l7, ⟨kk, hkk, rfl⟩, l9⟩ := hl
    have er : Int32.ofNat r + 1 = Int32.ofNat (r + 1) := ofadd r 1
    have eu := kall1_ok (kall1_ok under_ok (i := k) (by omega)) (i := kk) hkk
    simp only [Bool.or_eq_true, decide_eq_true_eq] at eu
    have eu2 := eu.resolve_left (by omega)
    have next : Q (some (.int (willR (Int32.ofNat k) (f_factOf S n) rest)), h) → Wp d 17 23 [some (.ref a), some (.int (Int32.ofNat n)), some (.int (Int32.ofNat k)), some (.int (Int32.ofNat r + 1))] [] h Q := by
      intro hQ2
      rw [er]
      by_cases hz : rest = []
      · subst hz
        have e1 : r + 1 = q := hlen
        rw [e1]
        exact t_willE hw ha hr hO hq hq8 (Nat.zero_le _) hQ2
      · have hpos : 1 ≤ rest.length := by
          cases rest with
          | nil => exact absurd rfl hz
          | cons x y => exact Nat.succ_le_succ (Nat.zero_le _)
        exact s_willL hw ha hr hO hq hq8 hk1 hk5 hF hd rest (r + 1) e (by omega) l6 (fun Q2 q2 => t_begS hO (by omega) l3 (Nat.le_refl _) q2) hQ2
    unfold willR at hQ
    rw [eu2] at hQ
    refine t_willB hw ha hr hO hq hq8 (by omega) l1 l2 (X := holdP (f_factOf S n) P) (fun Q2 q2 => s_holds hw ha hr hO l4 (by omega) l3 hb (Nat.le_refl _) (fun v hv => cval_fact hF hv) l5 l7 q2) hd ⟨fun c => ?_, fun c => ⟨fun c2 => ?_, fun c2 => ?_⟩⟩
    · rw [if_pos c] at hQ
      exact next hQ
    · rw [if_neg c, if_neg (by rw [c2]; decide)] at hQ
      exact next hQ
    · rw [if_neg c, if_pos c2] at hQ
      exact hQ
/-- what a hand of the class will is what the rules say -/
theorem s_will {d : Nat} {Q : KO → Prop} {h : KH} (hw : WF h) {a n : Nat} (ha : cityA a) (hn : n < 6) (hh : handOK (cS h.2.2.1 a) n) {RL : List Rul} (hR : crul h a RL) (hd : 2 ≤ d)
    (hQ : ∀ I : Nat → Nat → Int32, (∀ b, b ≠ a + 2 → I b = h.2.2.1 b) → Q (some (.int (willS (cS h.2.2.1 a) RL n)), hI h I)) : Cl d 17 [.ref a, .int (Int32.ofNat n)] h Q := by
  rcases hR with ⟨hr, rfl⟩ | ⟨o, hr, L, hO, hq, hq8, hl⟩
  · exact t_willN hw ha hr (Nat.zero_le _) (hQ h.2.2.1 (fun _ _ => rfl))
  · obtain ⟨kk, c, f, ch, g1, g2, g3, g4, g5, g6, g7, g8, g9⟩ := hh
    have k6 := g6
    rw [show 11 + 4 * n + 0 = 11 + (4 * n + 0) by omega, cS_hand] at k6
    have ha26 := cA_le ha
    have ho : 75 ≤ o := hO.2.2.2.2.2.2.2.2.2.1
    refine t_will hw ha hn hr k6 hd (fun I i1 i2 => ?_)
    have ei : ∀ b, b ≠ a + 2 → (hI h I).2.2.1 b = h.2.2.1 b := i1
    have hl2 : rulCR (hI h I).2.2.1 o L 0 0 RL := rulCR_congr (fun j hj => (ei (o + j) (by omega))) RL 0 0 hl
    refine s_willL (h := hI h I) hw ha hr hO (q := RL.length) (by rw [ei o (by omega)]; exact hq) hq8 g1 g2 (S := cS h.2.2.1 a) i2 hd RL 0 0 (by omega) hl2 (fun Q2 q2 => t_beg0 (Nat.le_refl _) q2) ?_
    have := hQ I i1
    unfold willS at this
    rw [g6] at this
    exact this
