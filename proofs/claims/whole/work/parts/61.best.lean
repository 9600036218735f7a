/-! KM: both sides: chalkFor(), facingFor() -/
def putOK (w v : Nat) : Prop := (w = 0 ∧ 1 ≤ v ∧ v ≤ 5) ∨ (w = 1 ∧ v < 12) ∨ (w = 2 ∧ v < 4) ∨ (w = 3 ∧ v ≤ 9)
theorem putOK.w4 {w v : Nat} (h : putOK w v) : w < 4 ∧ v < 12 := by unfold putOK at h; omega
theorem handOK_put {S : Nat → Int32} {j w v : Nat} (h : handOK S j) (hp : putOK w v) : handOK (ku S (11 + 4 * j + w) (Int32.ofNat v)) j := by
  obtain ⟨kk, c, f, ch, g1, g2, g3, g4, g5, g6, g7, g8, g9⟩ := h
  rcases hp with ⟨rfl, h1, h2⟩ | ⟨rfl, h1⟩ | ⟨rfl, h1⟩ | ⟨rfl, h1⟩
  · exact ⟨v, c, f, ch, h1, h2, g3, g4, g5, ku_s _ _ _, by rw [ku_n _ _ (by omega)]; exact g7, by rw [ku_n _ _ (by omega)]; exact g8, by rw [ku_n _ _ (by omega)]; exact g9⟩
  · exact ⟨kk, v, f, ch, g1, g2, h1, g4, g5, by rw [ku_n _ _ (by omega)]; exact g6, ku_s _ _ _, by rw [ku_n _ _ (by omega)]; exact g8, by rw [ku_n _ _ (by omega)]; exact g9⟩
  · exact ⟨kk, c, v, ch, g1, g2, g3, h1, g5, by rw [ku_n _ _ (by omega)]; exact g6, by rw [ku_n _ _ (by omega)]; exact g7, ku_s _ _ _, by rw [ku_n _ _ (by omega)]; exact g9⟩
  · exact ⟨kk, c, f, v, g1, g2, g3, g4, h1, by rw [ku_n _ _ (by omega)]; exact g6, by rw [ku_n _ _ (by omega)]; exact g7, by rw [ku_n _ _ (by omega)]; exact g8, ku_s _ _ _⟩
theorem okS_put {S : Nat → Int32} {j w v n c dn en : Nat} (h : okS S n c dn en) (hj : j < n) (hp : putOK w v) : okS (ku S (11 + 4 * j + w) (Int32.ofNat v)) n c dn en := by
  obtain ⟨o1, o2, o3, o4, o5, o6, o7, o8, o9, o10⟩ := h
  refine ⟨o1, by rw [ku_n _ _ (by omega)]; exact o2, o3, by rw [ku_n _ _ (by omega)]; exact o4, by rw [ku_n _ _ (by omega)]; exact o5, by rw [ku_n _ _ (by omega)]; exact o6, o7, o8, o9, fun i hi => ?_⟩
  by_cases e : i = j
  · subst e
    exact handOK_put (o10 i hi) hp
  · exact handOK_other (j := 0) (by have := hp.w4; omega) (o10 i hi)
theorem city_put {h : KH} {a n c dn en j w v : Nat} {A : Nat → Int32} {RL : List Rul} (ha : cityA a) (hk : cityOK h a A RL n c dn en) (hj : j < n) (hp : putOK w v) : cityOK (kwi h (a + 1) (4 * j + w) (Int32.ofNat v)) a (ku A (11 + 4 * j + w) (Int32.ofNat v)) RL n c dn en := by
  obtain ⟨k1, k2, RLc, k3, k4⟩ := hk
  have ha26 := cA_le ha
  have h4 := hp.w4
  have hn := k2.1
  have e : cS (kwi h (a + 1) (4 * j + w) (Int32.ofNat v)).2.2.1 a = ku (cS h.2.2.1 a) (11 + 4 * j + w) (Int32.ofNat v) := by
    rw [cS_putk, show 11 + (4 * j + w) = 11 + 4 * j + w by omega]
  refine ⟨?_, ?_, RLc, ?_, k4⟩
  · rw [e, nrm_ku (by omega), k1]
  · rw [e]
    exact okS_put k2 hj hp
  · exact crul_hI (h := h) (I := (kwi h (a + 1) (4 * j + w) (Int32.ofNat v)).2.2.1) (fun b hb => kwi_r (by omega)) k3
theorem ref_put {h : KH} {n c dn en j w v : Nat} {A : Nat → Int32} {RL : List Rul} (hk : refOK h A RL n c dn en) (hj : j < n) (hp : putOK w v) : refOK (kwi h 60 (11 + 4 * j + w) (Int32.ofNat v)) (ku A (11 + 4 * j + w) (Int32.ofNat v)) RL n c dn en := by
  obtain ⟨k1, k2, k3⟩ := hk
  have h4 := hp.w4
  have hn := k2.1
  have e : (kwi h 60 (11 + 4 * j + w) (Int32.ofNat v)).2.2.1 60 = ku (h.2.2.1 60) (11 + 4 * j + w) (Int32.ofNat v) := ku_s h.2.2.1 60 (ku (h.2.2.1 60) (11 + 4 * j + w) (Int32.ofNat v))
  unfold refOK
  rw [e]
  exact ⟨by rw [nrm_ku (by omega), k1], okS_put k2 hj hp, rules_keep (fun i hi => ku_n _ _ (by omega)) k3⟩
theorem refTh_put {h : KH} {n c dn en j w v : Nat} {S A : Nat → Int32} {RL : List Rul} (hk : refTh h S A RL n c dn en) (hj : j < n) (hp : putOK w v) : refTh (kwi h 60 (11 + 4 * j + w) (Int32.ofNat v)) S (ku A (11 + 4 * j + w) (Int32.ofNat v)) RL n c dn en := by
  have h4 := hp.w4
  have hn := hk.1.2.1.1
  exact ⟨ref_put hk.1 hj hp, fun i hi => by rw [show (kwi h 60 (11 + 4 * j + w) (Int32.ofNat v)).2.2.1 62 = h.2.2.1 62 from kwi_r (by decide)]; exact hk.2.1 i hi, fun m hm => (kwi_o (by omega)).trans (hk.2.2 m hm)⟩
/-- what something of a hand makes of the rest -/
def bfW (RL : List Rul) (n dn en : Nat) (A : Nat → Int32) (i v : Nat) : Int32 := (restA RL n en 16 dn (ku A i (Int32.ofNat v)) 0).1
def bfL (RL : List Rul) (n dn en : Nat) (A : Nat → Int32) (i : Nat) : Nat → Nat → Int32 → Int32 → Int32
  | 0, _, best, _ => best
  | k + 1, v, best, most => if bfW RL n dn en A i v ≤ most then bfL RL n dn en A i k (v + 1) best most else bfL RL n dn en A i k (v + 1) (Int32.ofNat v) (bfW RL n dn en A i v)
set_option maxHeartbeats 4000000 in
theorem t_cbfB {d : Nat} {Q : KO → Prop} {h : KH} (hw : WF h) {A : Nat → Int32} {RL : List Rul} {n c dn en : Nat} (hk : cityOK h 1 A RL n c dn en) {j w v N : Nat} {best most : Int32} {z : Option Value} (hj : j < n) (hn6 : n ≤ 6) (hp : putOK w v) (h4 : w < 4) (hv : v < N) (hN : N ≤ 16) (hd : 6 ≤ d) (hQ : ∀ k, Fr (pC 7) (fun c => c = 7) h k → nrm (cS k.2.2.1 7) = nrm (cS h.2.2.1 1) → k.2.1 7 10 = h.2.1 1 10 → k.2.1 7 11 = h.2.1 1 11 → (∀ k2, Fr (pC 7) noP (kwi k (7 + 1) (4 * j + w) (Int32.ofNat v)) k2 → cityOK k2 7 (restA RL n en 16 dn (ku A (11 + 4 * j + w) (Int32.ofNat v)) 0).2.1 RL n c (restA RL n en 16 dn (ku A (11 + 4 * j + w) (Int32.ofNat v)) 0).2.2 en → (((bfW RL n dn en A (11 + 4 * j + w) v) ≤ most → Wp d 116 9 ([some (.ref 0), some (.int (Int32.ofNat j)), some (.int (Int32.ofNat w)), some (.int (Int32.ofNat N)), some (.int (best)), some (.int (most)), some (.int ((Int32.ofNat v) + 1)), some (.int (bfW RL n dn en A (11 + 4 * j + w) v))]) [] k2 Q) ∧ (¬ ((bfW RL n dn en A (11 + 4 * j + w) v) ≤ most) → Wp d 116 9 ([some (.ref 0), some (.int (Int32.ofNat j)), some (.int (Int32.ofNat w)), some (.int (Int32.ofNat N)), some (.int (Int32.ofNat v)), some (.int (bfW RL n dn en A (11 + 4 * j + w) v)), some (.int ((Int32.ofNat v) + 1)), some (.int (bfW RL n dn en A (11 + 4 * j + w) v))]) [] k2 Q)))) : Wp d 116 9 [some (.ref 0), some (.int (Int32.ofNat j)), some (.int (Int32.ofNat w)), some (.int (Int32.ofNat N)), some (.int (best)), some (.int (most)), some (.int (Int32.ofNat v)), z] [] h Q := by
  refine Wp.seg 2 (pc1 := 12) (ls1 := [some (.ref 0), some (.int (Int32.ofNat j)), some (.int (Int32.ofNat w)), some (.int (Int32.ofNat N)), some (.int (best)), some (.int (most)), some (.int (Int32.ofNat v)), z]) (st1 := [.int (Int32.ofNat N), .int (Int32.ofNat v)]) rfl ?_
  refine Wp.if2 rfl (fun c1 => absurd c1 (fun c => by have := (ole (by omega) (by omega)).mp c; omega)) (fun c1 => ?_)
  refine Wp.seg 1 (pc1 := 16) (ls1 := [some (.ref 0), some (.int (Int32.ofNat j)), some (.int (Int32.ofNat w)), some (.int (Int32.ofNat N)), some (.int (best)), some (.int (most)), some (.int (Int32.ofNat v)), z]) (st1 := [.ref 0]) rfl ?_
  refine Wp.gr (t := (10, 0)) (v := some (7)) rfl (WF.t hw 0 rfl) rfl (WF.r hw 0 2 2 rfl) ?_
  show Wp d 116 19 [some (.ref 0), some (.int (Int32.ofNat j)), some (.int (Int32.ofNat w)), some (.int (Int32.ofNat N)), some (.int (best)), some (.int (most)), some (.int (Int32.ofNat v)), z] [.ref 7] h Q
  refine Wp.seg 1 (pc1 := 20) (ls1 := [some (.ref 0), some (.int (Int32.ofNat j)), some (.int (Int32.ofNat w)), some (.int (Int32.ofNat N)), some (.int (best)), some (.int (most)), some (.int (Int32.ofNat v)), z]) (st1 := [.ref 0, .ref 7]) rfl ?_
  refine Wp.gr (t := (10, 0)) (v := some (1)) rfl (WF.t hw 0 rfl) rfl (WF.r hw 0 0 0 rfl) ?_
  show Wp d 116 23 [some (.ref 0), some (.int (Int32.ofNat j)), some (.int (Int32.ofNat w)), some (.int (Int32.ofNat N)), some (.int (best)), some (.int (most)), some (.int (Int32.ofNat v)), z] [.ref 1, .ref 7] h Q
  refine Wp.invV (d2 := 1) (as := [.ref 7, .ref 1]) (r := []) (t := (1, 0)) rfl rfl rfl rfl (WF.t hw 7 rfl) rfl rfl ⟨rfl, rfl⟩ (by omega) (s_copy (h := h) hw cA7 cA1 (by decide) (Nat.le_refl _) ?_)
  intro k f e1 e2 e3
  show Wp d 116 26 [some (.ref 0), some (.int (Int32.ofNat j)), some (.int (Int32.ofNat w)), some (.int (Int32.ofNat N)), some (.int (best)), some (.int (most)), some (.int (Int32.ofNat v)), z] [] k Q
  refine Wp.seg 1 (pc1 := 27) (ls1 := [some (.ref 0), some (.int (Int32.ofNat j)), some (.int (Int32.ofNat w)), some (.int (Int32.ofNat N)), some (.int (best)), some (.int (most)), some (.int (Int32.ofNat v)), z]) (st1 := [.ref 0]) rfl ?_
  refine Wp.gr (t := (10, 0)) (v := some (7)) rfl (WF.t (f.wf hw (fun z => absurd z (by decide))) 0 rfl) rfl (WF.r (f.wf hw (fun z => absurd z (by decide))) 0 2 2 rfl) ?_
  show Wp d 116 30 [some (.ref 0), some (.int (Int32.ofNat j)), some (.int (Int32.ofNat w)), some (.int (Int32.ofNat N)), some (.int (best)), some (.int (most)), some (.int (Int32.ofNat v)), z] [.ref 7] k Q
  refine Wp.seg 3 (pc1 := 34) (ls1 := [some (.ref 0), some (.int (Int32.ofNat j)), some (.int (Int32.ofNat w)), some (.int (Int32.ofNat N)), some (.int (best)), some (.int (most)), some (.int (Int32.ofNat v)), z]) (st1 := [.int (Int32.ofNat v), .int (Int32.ofNat w), .int (Int32.ofNat j), .ref 7]) rfl ?_
  refine Wp.invV (d2 := 0) (as := [.ref 7, .int (Int32.ofNat j), .int (Int32.ofNat w), .int (Int32.ofNat v)]) (r := []) (t := (1, 0)) rfl rfl rfl rfl (WF.t (f.wf hw (fun z => absurd z (by decide))) 7 rfl) rfl rfl ⟨rfl, rfl⟩ (by omega) (s_cput (h := k) (f.wf hw (fun z => absurd z (by decide))) cA7 (n := j) (w := w) rfl (by omega) ?_)
  show Wp d 116 37 [some (.ref 0), some (.int (Int32.ofNat j)), some (.int (Int32.ofNat w)), some (.int (Int32.ofNat N)), some (.int (best)), some (.int (most)), some (.int (Int32.ofNat v)), z] [.int (k.2.2.1 (7 + 1) (4 * j + w))] (kwi k (7 + 1) (4 * j + w) (Int32.ofNat v)) Q
  refine Wp.seg 2 (pc1 := 39) (ls1 := [some (.ref 0), some (.int (Int32.ofNat j)), some (.int (Int32.ofNat w)), some (.int (Int32.ofNat N)), some (.int (best)), some (.int (most)), some (.int (Int32.ofNat v)), z]) (st1 := [.ref 0]) rfl ?_
  refine Wp.gr (t := (10, 0)) (v := some (7)) rfl (WF.t (f.wf hw (fun z => absurd z (by decide))) 0 rfl) rfl (WF.r (f.wf hw (fun z => absurd z (by decide))) 0 2 2 rfl) ?_
  show Wp d 116 42 [some (.ref 0), some (.int (Int32.ofNat j)), some (.int (Int32.ofNat w)), some (.int (Int32.ofNat N)), some (.int (best)), some (.int (most)), some (.int (Int32.ofNat v)), z] [.ref 7] (kwi k (7 + 1) (4 * j + w) (Int32.ofNat v)) Q
  refine Wp.seg 1 (pc1 := 44) (ls1 := [some (.ref 0), some (.int (Int32.ofNat j)), some (.int (Int32.ofNat w)), some (.int (Int32.ofNat N)), some (.int (best)), some (.int (most)), some (.int (Int32.ofNat v)), z]) (st1 := [.int (16), .ref 7]) rfl ?_
  refine Wp.invV (d2 := 5) (as := [.ref 7, .int (16)]) (r := []) (t := (1, 0)) rfl rfl rfl rfl (WF.t (f.wf hw (fun z => absurd z (by decide))) 7 rfl) rfl rfl ⟨rfl, rfl⟩ (by omega) (s_passOn (h := kwi k (7 + 1) (4 * j + w) (Int32.ofNat v)) (m := 16) (f.wf hw (fun z => absurd z (by decide))) cA7 (city_put cA7 (copy_ok hk f e1 e2) hj hp) (by decide) (Nat.le_refl _) ?_)
  intro k2 f2 g2
  show Wp d 116 47 [some (.ref 0), some (.int (Int32.ofNat j)), some (.int (Int32.ofNat w)), some (.int (Int32.ofNat N)), some (.int (best)), some (.int (most)), some (.int (Int32.ofNat v)), z] [.int (bfW RL n dn en A (11 + 4 * j + w) v)] k2 Q
  refine Wp.seg 3 (pc1 := 53) (ls1 := [some (.ref 0), some (.int (Int32.ofNat j)), some (.int (Int32.ofNat w)), some (.int (Int32.ofNat N)), some (.int (best)), some (.int (most)), some (.int (Int32.ofNat v)), some (.int (bfW RL n dn en A (11 + 4 * j + w) v))]) (st1 := [.int (most), .int (bfW RL n dn en A (11 + 4 * j + w) v)]) rfl ?_
  refine Wp.if2 rfl (fun (c2 : (bfW RL n dn en A (11 + 4 * j + w) v) ≤ most) => ?_) (fun (c2 : ¬ ((bfW RL n dn en A (11 + 4 * j + w) v) ≤ most)) => ?_)
  · refine Wp.seg 2 (pc1 := 9) (ls1 := [some (.ref 0), some (.int (Int32.ofNat j)), some (.int (Int32.ofNat w)), some (.int (Int32.ofNat N)), some (.int (best)), some (.int (most)), some (.int ((Int32.ofNat v) + 1)), some (.int (bfW RL n dn en A (11 + 4 * j + w) v))]) (st1 := []) rfl ?_
    exact (((hQ k f e1 e2 e3) k2 f2 g2).1 c2)
  · refine Wp.seg 6 (pc1 := 9) (ls1 := [some (.ref 0), some (.int (Int32.ofNat j)), some (.int (Int32.ofNat w)), some (.int (Int32.ofNat N)), some (.int (Int32.ofNat v)), some (.int (bfW RL n dn en A (11 + 4 * j + w) v)), some (.int ((Int32.ofNat v) + 1)), some (.int (bfW RL n dn en A (11 + 4 * j + w) v))]) (st1 := []) rfl ?_
    exact (((hQ k f e1 e2 e3) k2 f2 g2).2 c2)
set_option maxHeartbeats 4000000 in
theorem t_cbfE {d : Nat} {Q : KO → Prop} {h : KH} {j w best most : Int32} {N : Nat} {z : Option Value} (hd : 0 ≤ d) (hQ : Q (some (.int (best)), h)) : Wp d 116 9 [some (.ref 0), some (.int (j)), some (.int (w)), some (.int (Int32.ofNat N)), some (.int (best)), some (.int (most)), some (.int (Int32.ofNat N)), z] [] h Q := by
  refine Wp.seg 2 (pc1 := 12) (ls1 := [some (.ref 0), some (.int (j)), some (.int (w)), some (.int (Int32.ofNat N)), some (.int (best)), some (.int (most)), some (.int (Int32.ofNat N)), z]) (st1 := [.int (Int32.ofNat N), .int (Int32.ofNat N)]) rfl ?_
  refine Wp.if2 rfl (fun c1 => ?_) (fun c1 => absurd (Int32.le_refl _) c1)
  refine Wp.seg 1 (pc1 := 72) (ls1 := [some (.ref 0), some (.int (j)), some (.int (w)), some (.int (Int32.ofNat N)), some (.int (best)), some (.int (most)), some (.int (Int32.ofNat N)), z]) (st1 := [.int (best)]) rfl ?_
  exact Wp.reti rfl rfl hQ
set_option maxHeartbeats 4000000 in
theorem t_cbf {d : Nat} {Q : KO → Prop} {h : KH} {j w N : Int32} (hd : 6 ≤ d) (hQ : Wp d 116 9 ([some (.ref 0), some (.int (j)), some (.int (w)), some (.int (N)), some (.int (0)), some (.int (-1)), some (.int (0)), none]) [] h Q) : Cl d 116 [.ref 0, .int (j), .int (w), .int (N)] h Q := by
  refine Cl.of (ls := [some (.ref 0), some (.int (j)), some (.int (w)), some (.int (N)), none, none, none, none]) rfl rfl ?_
  refine Wp.seg 6 (pc1 := 9) (ls1 := [some (.ref 0), some (.int (j)), some (.int (w)), some (.int (N)), some (.int (0)), some (.int (-1)), some (.int (0)), none]) (st1 := []) rfl ?_
  exact hQ
theorem c_bfL {d : Nat} {Q : KO → Prop} {A : Nat → Int32} {RL : List Rul} {n c dn en j w N : Nat} (hj : j < n) (hN : N ≤ 16) (hp : ∀ v, v < N → putOK w v) (hd : 6 ≤ d) : ∀ (i v : Nat) (best most : Int32) (h : KH) (z : Option Value), v + i = N → WF h → cityOK h 1 A RL n c dn en →
    (∀ k, Quiet h k → Q (some (.int (bfL RL n dn en A (11 + 4 * j + w) i v best most)), k)) → Wp d 116 9 [some (.ref 0), some (.int (Int32.ofNat j)), some (.int (Int32.ofNat w)), some (.int (Int32.ofNat N)), some (.int best), some (.int most), some (.int (Int32.ofNat v)), z] [] h Q
  | 0, v, best, most, h, z, hv, hw, hk, hQ => by
    obtain rfl : v = N := hv
    exact t_cbfE (Nat.zero_le _) (hQ h (Quiet.refl h))
  | i + 1, v, best, most, h, z, hv, hw, hk, hQ => by
    have ev : Int32.ofNat v + 1 = Int32.ofNat (v + 1) := ofadd v 1
    have hn6 := hk.2.1.1
    unfold bfL at hQ
    refine t_cbfB hw hk hj hn6 (hp v (by omega)) (hp v (by omega)).w4.1 (by omega) hN hd (fun k f e1 e2 e3 k2 f2 g2 => ?_)
    have h4 := (hp v (by omega)).w4
    have q2 : Quiet h k2 := (Q7r f).trans (Q7 (Fr.trans (fr_kwi (by unfold pC; omega) (by decide)) f2))
    rw [ev]
    refine ⟨fun c1 => ?_, fun c1 => ?_⟩
    · rw [if_pos c1] at hQ
      exact c_bfL hj hN hp hd i (v + 1) best most k2 _ (by omega) (q2.wf hw) (q2.c1 hk) (fun k3 q3 => hQ k3 (q2.trans q3))
    · rw [if_neg c1] at hQ
      exact c_bfL hj hN hp hd i (v + 1) _ _ k2 _ (by omega) (q2.wf hw) (q2.c1 hk) (fun k3 q3 => hQ k3 (q2.trans q3))
theorem c_bf {d : Nat} {h : KH} (hw : WF h) {A : Nat → Int32} {RL : List Rul} {n c dn en : Nat} (hk : cityOK h 1 A RL n c dn en) {j w N : Nat} (hj : j < n) (hN : N ≤ 16) (hp : ∀ v, v < N → putOK w v) (hd : 6 ≤ d) : Cl d 116 [.ref 0, .int (Int32.ofNat j), .int (Int32.ofNat w), .int (Int32.ofNat N)] h (qu (bfL RL n dn en A (11 + 4 * j + w) N 0 0 (-1)) h) :=
  t_cbf hd (c_bfL hj hN hp hd N 0 0 (-1) h _ (by omega) hw hk (fun k q => qu_i q))
set_option maxHeartbeats 4000000 in
theorem t_mbfB {d : Nat} {Q : KO → Prop} {h : KH} (hw : WF h) {S A : Nat → Int32} {RL : List Rul} {n c dn en : Nat} (hk : refTh h S A RL n c dn en) {j w v N : Nat} {best most : Int32} {z : Option Value} (hj : j < n) (hn6 : n ≤ 6) (hp : putOK w v) (h4 : w < 4) (hv : v < N) (hN : N ≤ 16) (hd : 8 ≤ d) (hQ : ∀ k, Fr pM noP (kwi h 60 (11 + 4 * j + w) (Int32.ofNat v)) k → k.2.2.1 60 = S → (((bfW RL n dn en A (11 + 4 * j + w) v) ≤ most → ((bfW RL n dn en A (11 + 4 * j + w) v) ≤ most → Wp d 228 13 ([some (.ref 59), some (.int (Int32.ofNat j)), some (.int (Int32.ofNat w)), some (.int (Int32.ofNat N)), some (.int (best)), some (.int (most)), some (.int ((Int32.ofNat v) + 1)), some (.int (bfW RL n dn en A (11 + 4 * j + w) v))]) [] k Q) ∧ (¬ ((bfW RL n dn en A (11 + 4 * j + w) v) ≤ most) → Wp d 228 13 ([some (.ref 59), some (.int (Int32.ofNat j)), some (.int (Int32.ofNat w)), some (.int (Int32.ofNat N)), some (.int (best)), some (.int (bfW RL n dn en A (11 + 4 * j + w) v)), some (.int ((Int32.ofNat v) + 1)), some (.int (bfW RL n dn en A (11 + 4 * j + w) v))]) [] k Q)) ∧ (¬ ((bfW RL n dn en A (11 + 4 * j + w) v) ≤ most) → ((bfW RL n dn en A (11 + 4 * j + w) v) ≤ most → Wp d 228 13 ([some (.ref 59), some (.int (Int32.ofNat j)), some (.int (Int32.ofNat w)), some (.int (Int32.ofNat N)), some (.int (Int32.ofNat v)), some (.int (most)), some (.int ((Int32.ofNat v) + 1)), some (.int (bfW RL n dn en A (11 + 4 * j + w) v))]) [] k Q) ∧ (¬ ((bfW RL n dn en A (11 + 4 * j + w) v) ≤ most) → Wp d 228 13 ([some (.ref 59), some (.int (Int32.ofNat j)), some (.int (Int32.ofNat w)), some (.int (Int32.ofNat N)), some (.int (Int32.ofNat v)), some (.int (bfW RL n dn en A (11 + 4 * j + w) v)), some (.int ((Int32.ofNat v) + 1)), some (.int (bfW RL n dn en A (11 + 4 * j + w) v))]) [] k Q)))) : Wp d 228 13 [some (.ref 59), some (.int (Int32.ofNat j)), some (.int (Int32.ofNat w)), some (.int (Int32.ofNat N)), some (.int (best)), some (.int (most)), some (.int (Int32.ofNat v)), z] [] h Q := by
  refine Wp.seg 2 (pc1 := 16) (ls1 := [some (.ref 59), some (.int (Int32.ofNat j)), some (.int (Int32.ofNat w)), some (.int (Int32.ofNat N)), some (.int (best)), some (.int (most)), some (.int (Int32.ofNat v)), z]) (st1 := [.int (Int32.ofNat N), .int (Int32.ofNat v)]) rfl ?_
  refine Wp.if2 rfl (fun c1 => absurd c1 (fun c => by have := (ole (by omega) (by omega)).mp c; omega)) (fun c1 => ?_)
  refine Wp.seg 4 (pc1 := 24) (ls1 := [some (.ref 59), some (.int (Int32.ofNat j)), some (.int (Int32.ofNat w)), some (.int (Int32.ofNat N)), some (.int (best)), some (.int (most)), some (.int (Int32.ofNat v)), z]) (st1 := [.int (Int32.ofNat v), .int (Int32.ofNat w), .int (Int32.ofNat j), .ref 59]) rfl ?_
  refine Wp.invV (d2 := 0) (as := [.ref 59, .int (Int32.ofNat j), .int (Int32.ofNat w), .int (Int32.ofNat v)]) (r := []) (t := (11, 0)) rfl rfl rfl rfl (WF.t hw 59 rfl) rfl rfl ⟨rfl, rfl⟩ (by omega) (s_put hw (n := j) (w := w) rfl (by omega) ?_)
  show Wp d 228 27 [some (.ref 59), some (.int (Int32.ofNat j)), some (.int (Int32.ofNat w)), some (.int (Int32.ofNat N)), some (.int (best)), some (.int (most)), some (.int (Int32.ofNat v)), z] [] (kwi h 60 (11 + 4 * j + w) (Int32.ofNat v)) Q
  refine Wp.seg 2 (pc1 := 30) (ls1 := [some (.ref 59), some (.int (Int32.ofNat j)), some (.int (Int32.ofNat w)), some (.int (Int32.ofNat N)), some (.int (best)), some (.int (most)), some (.int (Int32.ofNat v)), z]) (st1 := [.int (16), .ref 59]) rfl ?_
  refine Wp.invV (d2 := 7) (as := [.ref 59, .int (16)]) (r := []) (t := (11, 0)) rfl rfl rfl rfl (WF.t hw 59 rfl) rfl rfl ⟨rfl, rfl⟩ (by omega) (r_rest (h := kwi h 60 (11 + 4 * j + w) (Int32.ofNat v)) (m := 16) hw (refTh_put hk hj hp) (by decide) (Nat.le_refl _) ?_)
  intro k f e
  show Wp d 228 33 [some (.ref 59), some (.int (Int32.ofNat j)), some (.int (Int32.ofNat w)), some (.int (Int32.ofNat N)), some (.int (best)), some (.int (most)), some (.int (Int32.ofNat v)), z] [.int (bfW RL n dn en A (11 + 4 * j + w) v)] k Q
  refine Wp.seg 3 (pc1 := 39) (ls1 := [some (.ref 59), some (.int (Int32.ofNat j)), some (.int (Int32.ofNat w)), some (.int (Int32.ofNat N)), some (.int (best)), some (.int (most)), some (.int (Int32.ofNat v)), some (.int (bfW RL n dn en A (11 + 4 * j + w) v))]) (st1 := [.int (most), .int (bfW RL n dn en A (11 + 4 * j + w) v)]) rfl ?_
  refine Wp.if2 rfl (fun (c2 : (bfW RL n dn en A (11 + 4 * j + w) v) ≤ most) => ?_) (fun (c2 : ¬ ((bfW RL n dn en A (11 + 4 * j + w) v) ≤ most)) => ?_)
  · refine Wp.seg 4 (pc1 := 55) (ls1 := [some (.ref 59), some (.int (Int32.ofNat j)), some (.int (Int32.ofNat w)), some (.int (Int32.ofNat N)), some (.int (best)), some (.int (most)), some (.int (Int32.ofNat v)), some (.int (bfW RL n dn en A (11 + 4 * j + w) v))]) (st1 := [.int (most), .int (bfW RL n dn en A (11 + 4 * j + w) v)]) rfl ?_
    refine Wp.if2 rfl (fun (c3 : (bfW RL n dn en A (11 + 4 * j + w) v) ≤ most) => ?_) (fun (c3 : ¬ ((bfW RL n dn en A (11 + 4 * j + w) v) ≤ most)) => ?_)
    · refine Wp.seg 4 (pc1 := 13) (ls1 := [some (.ref 59), some (.int (Int32.ofNat j)), some (.int (Int32.ofNat w)), some (.int (Int32.ofNat N)), some (.int (best)), some (.int (most)), some (.int ((Int32.ofNat v) + 1)), some (.int (bfW RL n dn en A (11 + 4 * j + w) v))]) (st1 := []) rfl ?_
      exact (((hQ k f e).1 c2).1 c3)
    · refine Wp.seg 5 (pc1 := 13) (ls1 := [some (.ref 59), some (.int (Int32.ofNat j)), some (.int (Int32.ofNat w)), some (.int (Int32.ofNat N)), some (.int (best)), some (.int (bfW RL n dn en A (11 + 4 * j + w) v)), some (.int ((Int32.ofNat v) + 1)), some (.int (bfW RL n dn en A (11 + 4 * j + w) v))]) (st1 := []) rfl ?_
      exact (((hQ k f e).1 c2).2 c3)
  · refine Wp.seg 5 (pc1 := 55) (ls1 := [some (.ref 59), some (.int (Int32.ofNat j)), some (.int (Int32.ofNat w)), some (.int (Int32.ofNat N)), some (.int (Int32.ofNat v)), some (.int (most)), some (.int (Int32.ofNat v)), some (.int (bfW RL n dn en A (11 + 4 * j + w) v))]) (st1 := [.int (most), .int (bfW RL n dn en A (11 + 4 * j + w) v)]) rfl ?_
    refine Wp.if2 rfl (fun (c4 : (bfW RL n dn en A (11 + 4 * j + w) v) ≤ most) => ?_) (fun (c4 : ¬ ((bfW RL n dn en A (11 + 4 * j + w) v) ≤ most)) => ?_)
    · refine Wp.seg 4 (pc1 := 13) (ls1 := [some (.ref 59), some (.int (Int32.ofNat j)), some (.int (Int32.ofNat w)), some (.int (Int32.ofNat N)), some (.int (Int32.ofNat v)), some (.int (most)), some (.int ((Int32.ofNat v) + 1)), some (.int (bfW RL n dn en A (11 + 4 * j + w) v))]) (st1 := []) rfl ?_
      exact (((hQ k f e).2 c2).1 c4)
    · refine Wp.seg 5 (pc1 := 13) (ls1 := [some (.ref 59), some (.int (Int32.ofNat j)), some (.int (Int32.ofNat w)), some (.int (Int32.ofNat N)), some (.int (Int32.ofNat v)), some (.int (bfW RL n dn en A (11 + 4 * j + w) v)), some (.int ((Int32.ofNat v) + 1)), some (.int (bfW RL n dn en A (11 + 4 * j + w) v))]) (st1 := []) rfl ?_
      exact (((hQ k f e).2 c2).2 c4)
set_option maxHeartbeats 4000000 in
theorem t_mbfE {d : Nat} {Q : KO → Prop} {h : KH} {j w best most : Int32} {N : Nat} {z : Option Value} (hd : 0 ≤ d) (hQ : Q (some (.int (best)), h)) : Wp d 228 13 [some (.ref 59), some (.int (j)), some (.int (w)), some (.int (Int32.ofNat N)), some (.int (best)), some (.int (most)), some (.int (Int32.ofNat N)), z] [] h Q := by
  refine Wp.seg 2 (pc1 := 16) (ls1 := [some (.ref 59), some (.int (j)), some (.int (w)), some (.int (Int32.ofNat N)), some (.int (best)), some (.int (most)), some (.int (Int32.ofNat N)), z]) (st1 := [.int (Int32.ofNat N), .int (Int32.ofNat N)]) rfl ?_
  refine Wp.if2 rfl (fun c1 => ?_) (fun c1 => absurd (Int32.le_refl _) c1)
  refine Wp.seg 1 (pc1 := 75) (ls1 := [some (.ref 59), some (.int (j)), some (.int (w)), some (.int (Int32.ofNat N)), some (.int (best)), some (.int (most)), some (.int (Int32.ofNat N)), z]) (st1 := [.int (best)]) rfl ?_
  exact Wp.reti rfl rfl hQ
set_option maxHeartbeats 4000000 in
theorem t_mbf {d : Nat} {Q : KO → Prop} {h : KH} (hw : WF h) {A : Nat → Int32} {RL : List Rul} {n c dn en : Nat} (hk : refOK h A RL n c dn en) {j w N : Int32} (hd : 8 ≤ d) (hQ : ∀ k, Fr (fun c => c = 62) noP h k → refTh k (h.2.2.1 60) A RL n c dn en → (Wp d 228 13 ([some (.ref 59), some (.int (j)), some (.int (w)), some (.int (N)), some (.int (0)), some (.int (-1)), some (.int (0)), none]) [] k Q)) : Cl d 228 [.ref 59, .int (j), .int (w), .int (N)] h Q := by
  refine Cl.of (ls := [some (.ref 59), some (.int (j)), some (.int (w)), some (.int (N)), none, none, none, none]) rfl rfl ?_
  refine Wp.seg 1 (pc1 := 1) (ls1 := [some (.ref 59), some (.int (j)), some (.int (w)), some (.int (N)), none, none, none, none]) (st1 := [.ref 59]) rfl ?_
  refine Wp.invV (d2 := 1) (as := [.ref 59]) (r := []) (t := (11, 0)) rfl rfl rfl rfl (WF.t hw 59 rfl) rfl rfl ⟨rfl, rfl⟩ (by omega) (r_thinks hw hk (Nat.le_refl _) ?_)
  intro k f g
  show Wp d 228 4 [some (.ref 59), some (.int (j)), some (.int (w)), some (.int (N)), none, none, none, none] [] k Q
  refine Wp.seg 6 (pc1 := 13) (ls1 := [some (.ref 59), some (.int (j)), some (.int (w)), some (.int (N)), some (.int (0)), some (.int (-1)), some (.int (0)), none]) (st1 := []) rfl ?_
  exact (hQ k f g)
theorem refTh_back {h k : KH} {S A B : Nat → Int32} {RL : List Rul} {n c dn dm en : Nat} {P : Nat → Prop} (t : refTh h S A RL n c dn en) (hS : refOK k B RL n c dm en) (f : Fr P noP h k) (h62 : ¬ P 62) (e : k.2.2.1 60 = S) : refTh k S B RL n c dm en :=
  ⟨hS, fun j hj => by rw [f.2.2.1 62 (Or.inl h62)]; exact t.2.1 j hj, fun m _ => by rw [e]⟩
theorem m_bfL {d : Nat} {Q : KO → Prop} {S A : Nat → Int32} {RL : List Rul} {n c dn en j w N : Nat} (hj : j < n) (hN : N ≤ 16) (hp : ∀ v, v < N → putOK w v) (hd : 8 ≤ d) : ∀ (i v : Nat) (best most : Int32) (h : KH) (z : Option Value), v + i = N → WF h → refTh h S A RL n c dn en → h.2.2.1 60 = S →
    (∀ k, Fr pM noP h k → k.2.2.1 60 = S → Q (some (.int (bfL RL n dn en A (11 + 4 * j + w) i v best most)), k)) → Wp d 228 13 [some (.ref 59), some (.int (Int32.ofNat j)), some (.int (Int32.ofNat w)), some (.int (Int32.ofNat N)), some (.int best), some (.int most), some (.int (Int32.ofNat v)), z] [] h Q
  | 0, v, best, most, h, z, hv, hw, hk, e0, hQ => by
    obtain rfl : v = N := hv
    exact t_mbfE (Nat.zero_le _) (hQ h (Fr.refl h) e0)
  | i + 1, v, best, most, h, z, hv, hw, hk, e0, hQ => by
    have ev : Int32.ofNat v + 1 = Int32.ofNat (v + 1) := ofadd v 1
    have hn6 := hk.1.2.1.1
    have hpv := hp v (by omega)
    unfold bfL at hQ
    refine t_mbfB hw hk hj hn6 hpv hpv.w4.1 (by omega) hN hd (fun k f e => ?_)
    have f1 : Fr pM noP h k := Fr.trans (fr_kwi (Or.inl rfl) (by decide)) f
    have g : refTh k S A RL n c dn en := refTh_back hk (refOK_eq hk.1 (e.trans e0.symm)) f1 pM62 e
    rw [ev]
    have yes : bfW RL n dn en A (11 + 4 * j + w) v ≤ most → ∀ z, Wp d 228 13 [some (.ref 59), some (.int (Int32.ofNat j)), some (.int (Int32.ofNat w)), some (.int (Int32.ofNat N)), some (.int best), some (.int most), some (.int (Int32.ofNat (v + 1))), z] [] k Q := by
      intro c1 z
      rw [if_pos c1] at hQ
      exact m_bfL hj hN hp hd i (v + 1) best most k _ (by omega) (f1.wf hw (fun z => z)) g e (fun k3 f3 e3 => hQ k3 (f1.trans f3) e3)
    have no : ¬ bfW RL n dn en A (11 + 4 * j + w) v ≤ most → ∀ z, Wp d 228 13 [some (.ref 59), some (.int (Int32.ofNat j)), some (.int (Int32.ofNat w)), some (.int (Int32.ofNat N)), some (.int (Int32.ofNat v)), some (.int (bfW RL n dn en A (11 + 4 * j + w) v)), some (.int (Int32.ofNat (v + 1))), z] [] k Q := by
      intro c1 z
      rw [if_neg c1] at hQ
      exact m_bfL hj hN hp hd i (v + 1) _ _ k _ (by omega) (f1.wf hw (fun z => z)) g e (fun k3 f3 e3 => hQ k3 (f1.trans f3) e3)
    exact ⟨fun c1 => ⟨fun c2 => yes c1 _, fun c2 => absurd c1 c2⟩, fun c1 => ⟨fun c2 => absurd c2 c1, fun c2 => no c1 _⟩⟩
theorem m_bf {d : Nat} {h : KH} (hw : WF h) {A : Nat → Int32} {RL : List Rul} {n c dn en : Nat} (hk : refOK h A RL n c dn en) {j w N : Nat} (hj : j < n) (hN : N ≤ 16) (hp : ∀ v, v < N → putOK w v) (hd : 8 ≤ d) : Cl d 228 [.ref 59, .int (Int32.ofNat j), .int (Int32.ofNat w), .int (Int32.ofNat N)] h (qu (bfL RL n dn en A (11 + 4 * j + w) N 0 0 (-1)) h) :=
  t_mbf hw hk hd (fun k f g => m_bfL hj hN hp hd N 0 0 (-1) k _ (by omega) (f.wf hw (fun z => z)) g (f.2.2.1 60 (Or.inl (by decide))) (fun k2 f2 e2 => qu_i (quiet_m ((Fr62 f).trans (FrM f2)) e2)))
set_option maxHeartbeats 4000000 in
theorem t_cchalk {d : Nat} {Q : KO → Prop} {h : KH} (hw : WF h) {A : Nat → Int32} {RL : List Rul} {n c dn en : Nat} (hk : cityOK h 1 A RL n c dn en) {v : Int32} (hd : 7 ≤ d) (hQ : ((inB v 0 ((n : Int) - 1)) = false → Q (some (.int (-1)), h)) ∧ ((inB v 0 ((n : Int) - 1)) = true → Wp d 114 8 ([some (.ref 0), some (.int (v))]) [] h Q)) : Cl d 114 [.ref 0, .int (v)] h Q := by
  refine Cl.of (ls := [some (.ref 0), some (.int (v))]) rfl rfl ?_
  refine Wp.seg 2 (pc1 := 2) (ls1 := [some (.ref 0), some (.int (v))]) (st1 := [.int (v), .ref 0]) rfl ?_
  refine Wp.invV (d2 := 0) (as := [.ref 0, .int (v)]) (r := []) (t := (10, 0)) rfl rfl rfl rfl (WF.t hw 0 rfl) rfl rfl ⟨rfl, rfl⟩ (by omega) (s_hand hw hk ?_)
  show Wp d 114 5 [some (.ref 0), some (.int (v))] [.int (b32 (inB v 0 ((n : Int) - 1)))] h Q
  refine Wp.ifz rfl (fun (c1 : (inB v 0 ((n : Int) - 1)) = false) => ?_) (fun (c1 : (inB v 0 ((n : Int) - 1)) = true) => ?_)
  · refine Wp.seg 1 (pc1 := 20) (ls1 := [some (.ref 0), some (.int (v))]) (st1 := [.int (-1)]) rfl ?_
    exact Wp.reti rfl rfl (hQ.1 c1)
  · exact (hQ.2 c1)
def chalkS (RL : List Rul) (n dn en : Nat) (A : Nat → Int32) (v : Int32) : Int32 := if inB v 0 ((n : Int) - 1) = true then bfL RL n dn en A (11 + 4 * v.toNatClampNeg + 3) 10 0 0 (-1) else -1
theorem t_cchalkB {d : Nat} {Q : KO → Prop} {h : KH} {hv b : Int32} (hd : 7 ≤ d) (hw : WF h) (hc : Cl 6 116 [.ref 0, .int hv, .int 3, .int 10] h (qu b h)) (hQ : ∀ k, Quiet h k → Q (some (.int b), k)) : Wp d 114 8 [some (.ref 0), some (.int hv)] [] h Q := by
  refine Wp.seg 4 (pc1 := 13) (ls1 := [some (.ref 0), some (.int hv)]) (st1 := [.int 10, .int 3, .int hv, .ref 0]) rfl ?_
  refine Wp.invV (d2 := 6) (as := [.ref 0, .int hv, .int 3, .int 10]) (r := []) (t := (10, 0)) rfl rfl rfl rfl (WF.t hw 0 rfl) rfl rfl ⟨rfl, rfl⟩ (by omega) (hc.post ?_)
  rintro o ⟨k, rfl, q⟩
  show Wp d 114 16 [some (.ref 0), some (.int hv)] [.int b] k Q
  refine Wp.seg 1 (pc1 := 20) (ls1 := [some (.ref 0), some (.int hv)]) (st1 := [.int b]) rfl ?_
  exact Wp.reti rfl rfl (hQ k q)
theorem c_chalk {d : Nat} {h : KH} (hw : WF h) {A : Nat → Int32} {RL : List Rul} {n c dn en : Nat} (hk : cityOK h 1 A RL n c dn en) (hd : 7 ≤ d) {v : Int32} : Cl d 114 [.ref 0, .int v] h (qu (chalkS RL n dn en A v) h) := by
  unfold chalkS
  refine t_cchalk hw hk hd ⟨fun q => ?_, fun q => ?_⟩
  · rw [if_neg (by rw [q]; decide)]
    exact qu_i (Quiet.refl h)
  · rw [if_pos q]
    obtain ⟨j, hj, rfl⟩ := inB_lt q
    have hn6 := hk.2.1.1
    rw [clamp_ofNat (by omega)]
    exact t_cchalkB (by omega) hw (c_bf hw hk (w := 3) (N := 10) hj (by decide) (fun v hv => by unfold putOK; omega) (Nat.le_refl _)) (fun k f => qu_i f)
set_option maxHeartbeats 4000000 in
theorem t_mchalk {d : Nat} {Q : KO → Prop} {h : KH} (hw : WF h) {A : Nat → Int32} {RL : List Rul} {n c dn en : Nat} (hk : refOK h A RL n c dn en) {v : Int32} (hd : 9 ≤ d) (hQ : ((inB v 0 ((n : Int) - 1)) = false → Q (some (.int (-1)), h)) ∧ ((inB v 0 ((n : Int) - 1)) = true → Wp d 229 8 ([some (.ref 59), some (.int (v))]) [] h Q)) : Cl d 229 [.ref 59, .int (v)] h Q := by
  refine Cl.of (ls := [some (.ref 59), some (.int (v))]) rfl rfl ?_
  refine Wp.seg 2 (pc1 := 2) (ls1 := [some (.ref 59), some (.int (v))]) (st1 := [.int (v), .ref 59]) rfl ?_
  refine Wp.invV (d2 := 1) (as := [.ref 59, .int (v)]) (r := []) (t := (11, 0)) rfl rfl rfl rfl (WF.t hw 59 rfl) rfl rfl ⟨rfl, rfl⟩ (by omega) (m_hand hw hk (Nat.le_refl _) ?_)
  show Wp d 229 5 [some (.ref 59), some (.int (v))] [.int (b32 (inB v 0 ((n : Int) - 1)))] h Q
  refine Wp.ifz rfl (fun (c1 : (inB v 0 ((n : Int) - 1)) = false) => ?_) (fun (c1 : (inB v 0 ((n : Int) - 1)) = true) => ?_)
  · refine Wp.seg 1 (pc1 := 20) (ls1 := [some (.ref 59), some (.int (v))]) (st1 := [.int (-1)]) rfl ?_
    exact Wp.reti rfl rfl (hQ.1 c1)
  · exact (hQ.2 c1)
theorem t_mchalkB {d : Nat} {Q : KO → Prop} {h : KH} {hv b : Int32} (hd : 9 ≤ d) (hw : WF h) (hc : Cl 8 228 [.ref 59, .int hv, .int 3, .int 10] h (qu b h)) (hQ : ∀ k, Quiet h k → Q (some (.int b), k)) : Wp d 229 8 [some (.ref 59), some (.int hv)] [] h Q := by
  refine Wp.seg 4 (pc1 := 13) (ls1 := [some (.ref 59), some (.int hv)]) (st1 := [.int 10, .int 3, .int hv, .ref 59]) rfl ?_
  refine Wp.invV (d2 := 8) (as := [.ref 59, .int hv, .int 3, .int 10]) (r := []) (t := (11, 0)) rfl rfl rfl rfl (WF.t hw 59 rfl) rfl rfl ⟨rfl, rfl⟩ (by omega) (hc.post ?_)
  rintro o ⟨k, rfl, q⟩
  show Wp d 229 16 [some (.ref 59), some (.int hv)] [.int b] k Q
  refine Wp.seg 1 (pc1 := 20) (ls1 := [some (.ref 59), some (.int hv)]) (st1 := [.int b]) rfl ?_
  exact Wp.reti rfl rfl (hQ k q)
theorem m_chalk {d : Nat} {h : KH} (hw : WF h) {A : Nat → Int32} {RL : List Rul} {n c dn en : Nat} (hk : refOK h A RL n c dn en) (hd : 9 ≤ d) {v : Int32} : Cl d 229 [.ref 59, .int v] h (qu (chalkS RL n dn en A v) h) := by
  unfold chalkS
  refine t_mchalk hw hk hd ⟨fun q => ?_, fun q => ?_⟩
  · rw [if_neg (by rw [q]; decide)]
    exact qu_i (Quiet.refl h)
  · rw [if_pos q]
    obtain ⟨j, hj, rfl⟩ := inB_lt q
    have hn6 := hk.2.1.1
    rw [clamp_ofNat (by omega)]
    exact t_mchalkB (by omega) hw (m_bf hw hk (w := 3) (N := 10) hj (by decide) (fun v hv => by unfold putOK; omega) (Nat.le_refl _)) (fun k f => qu_i f)
set_option maxHeartbeats 4000000 in
theorem t_cfacing {d : Nat} {Q : KO → Prop} {h : KH} (hw : WF h) {A : Nat → Int32} {RL : List Rul} {n c dn en : Nat} (hk : cityOK h 1 A RL n c dn en) {v : Int32} (hd : 7 ≤ d) (hQ : ((inB v 0 ((n : Int) - 1)) = false → Q (some (.int (-1)), h)) ∧ ((inB v 0 ((n : Int) - 1)) = true → Wp d 115 8 ([some (.ref 0), some (.int (v))]) [] h Q)) : Cl d 115 [.ref 0, .int (v)] h Q := by
  refine Cl.of (ls := [some (.ref 0), some (.int (v))]) rfl rfl ?_
  refine Wp.seg 2 (pc1 := 2) (ls1 := [some (.ref 0), some (.int (v))]) (st1 := [.int (v), .ref 0]) rfl ?_
  refine Wp.invV (d2 := 0) (as := [.ref 0, .int (v)]) (r := []) (t := (10, 0)) rfl rfl rfl rfl (WF.t hw 0 rfl) rfl rfl ⟨rfl, rfl⟩ (by omega) (s_hand hw hk ?_)
  show Wp d 115 5 [some (.ref 0), some (.int (v))] [.int (b32 (inB v 0 ((n : Int) - 1)))] h Q
  refine Wp.ifz rfl (fun (c1 : (inB v 0 ((n : Int) - 1)) = false) => ?_) (fun (c1 : (inB v 0 ((n : Int) - 1)) = true) => ?_)
  · refine Wp.seg 1 (pc1 := 19) (ls1 := [some (.ref 0), some (.int (v))]) (st1 := [.int (-1)]) rfl ?_
    exact Wp.reti rfl rfl (hQ.1 c1)
  · exact (hQ.2 c1)
def facingS (RL : List Rul) (n dn en : Nat) (A : Nat → Int32) (v : Int32) : Int32 := if inB v 0 ((n : Int) - 1) = true then bfL RL n dn en A (11 + 4 * v.toNatClampNeg + 2) 4 0 0 (-1) else -1
theorem t_cfacingB {d : Nat} {Q : KO → Prop} {h : KH} {hv b : Int32} (hd : 7 ≤ d) (hw : WF h) (hc : Cl 6 116 [.ref 0, .int hv, .int 2, .int 4] h (qu b h)) (hQ : ∀ k, Quiet h k → Q (some (.int b), k)) : Wp d 115 8 [some (.ref 0), some (.int hv)] [] h Q := by
  refine Wp.seg 4 (pc1 := 12) (ls1 := [some (.ref 0), some (.int hv)]) (st1 := [.int 4, .int 2, .int hv, .ref 0]) rfl ?_
  refine Wp.invV (d2 := 6) (as := [.ref 0, .int hv, .int 2, .int 4]) (r := []) (t := (10, 0)) rfl rfl rfl rfl (WF.t hw 0 rfl) rfl rfl ⟨rfl, rfl⟩ (by omega) (hc.post ?_)
  rintro o ⟨k, rfl, q⟩
  show Wp d 115 15 [some (.ref 0), some (.int hv)] [.int b] k Q
  refine Wp.seg 1 (pc1 := 19) (ls1 := [some (.ref 0), some (.int hv)]) (st1 := [.int b]) rfl ?_
  exact Wp.reti rfl rfl (hQ k q)
theorem c_facing {d : Nat} {h : KH} (hw : WF h) {A : Nat → Int32} {RL : List Rul} {n c dn en : Nat} (hk : cityOK h 1 A RL n c dn en) (hd : 7 ≤ d) {v : Int32} : Cl d 115 [.ref 0, .int v] h (qu (facingS RL n dn en A v) h) := by
  unfold facingS
  refine t_cfacing hw hk hd ⟨fun q => ?_, fun q => ?_⟩
  · rw [if_neg (by rw [q]; decide)]
    exact qu_i (Quiet.refl h)
  · rw [if_pos q]
    obtain ⟨j, hj, rfl⟩ := inB_lt q
    have hn6 := hk.2.1.1
    rw [clamp_ofNat (by omega)]
    exact t_cfacingB (by omega) hw (c_bf hw hk (w := 2) (N := 4) hj (by decide) (fun v hv => by unfold putOK; omega) (Nat.le_refl _)) (fun k f => qu_i f)
set_option maxHeartbeats 4000000 in
theorem t_mfacing {d : Nat} {Q : KO → Prop} {h : KH} (hw : WF h) {A : Nat → Int32} {RL : List Rul} {n c dn en : Nat} (hk : refOK h A RL n c dn en) {v : Int32} (hd : 9 ≤ d) (hQ : ((inB v 0 ((n : Int) - 1)) = false → Q (some (.int (-1)), h)) ∧ ((inB v 0 ((n : Int) - 1)) = true → Wp d 230 8 ([some (.ref 59), some (.int (v))]) [] h Q)) : Cl d 230 [.ref 59, .int (v)] h Q := by
  refine Cl.of (ls := [some (.ref 59), some (.int (v))]) rfl rfl ?_
  refine Wp.seg 2 (pc1 := 2) (ls1 := [some (.ref 59), some (.int (v))]) (st1 := [.int (v), .ref 59]) rfl ?_
  refine Wp.invV (d2 := 1) (as := [.ref 59, .int (v)]) (r := []) (t := (11, 0)) rfl rfl rfl rfl (WF.t hw 59 rfl) rfl rfl ⟨rfl, rfl⟩ (by omega) (m_hand hw hk (Nat.le_refl _) ?_)
  show Wp d 230 5 [some (.ref 59), some (.int (v))] [.int (b32 (inB v 0 ((n : Int) - 1)))] h Q
  refine Wp.ifz rfl (fun (c1 : (inB v 0 ((n : Int) - 1)) = false) => ?_) (fun (c1 : (inB v 0 ((n : Int) - 1)) = true) => ?_)
  · refine Wp.seg 1 (pc1 := 19) (ls1 := [some (.ref 59), some (.int (v))]) (st1 := [.int (-1)]) rfl ?_
    exact Wp.reti rfl rfl (hQ.1 c1)
  · exact (hQ.2 c1)
theorem t_mfacingB {d : Nat} {Q : KO → Prop} {h : KH} {hv b : Int32} (hd : 9 ≤ d) (hw : WF h) (hc : Cl 8 228 [.ref 59, .int hv, .int 2, .int 4] h (qu b h)) (hQ : ∀ k, Quiet h k → Q (some (.int b), k)) : Wp d 230 8 [some (.ref 59), some (.int hv)] [] h Q := by
  refine Wp.seg 4 (pc1 := 12) (ls1 := [some (.ref 59), some (.int hv)]) (st1 := [.int 4, .int 2, .int hv, .ref 59]) rfl ?_
  refine Wp.invV (d2 := 8) (as := [.ref 59, .int hv, .int 2, .int 4]) (r := []) (t := (11, 0)) rfl rfl rfl rfl (WF.t hw 59 rfl) rfl rfl ⟨rfl, rfl⟩ (by omega) (hc.post ?_)
  rintro o ⟨k, rfl, q⟩
  show Wp d 230 15 [some (.ref 59), some (.int hv)] [.int b] k Q
  refine Wp.seg 1 (pc1 := 19) (ls1 := [some (.ref 59), some (.int hv)]) (st1 := [.int b]) rfl ?_
  exact Wp.reti rfl rfl (hQ k q)
theorem m_facing {d : Nat} {h : KH} (hw : WF h) {A : Nat → Int32} {RL : List Rul} {n c dn en : Nat} (hk : refOK h A RL n c dn en) (hd : 9 ≤ d) {v : Int32} : Cl d 230 [.ref 59, .int v] h (qu (facingS RL n dn en A v) h) := by
  unfold facingS
  refine t_mfacing hw hk hd ⟨fun q => ?_, fun q => ?_⟩
  · rw [if_neg (by rw [q]; decide)]
    exact qu_i (Quiet.refl h)
  · rw [if_pos q]
    obtain ⟨j, hj, rfl⟩ := inB_lt q
    have hn6 := hk.2.1.1
    rw [clamp_ofNat (by omega)]
    exact t_mfacingB (by omega) hw (m_bf hw hk (w := 2) (N := 4) hj (by decide) (fun v hv => by unfold putOK; omega) (Nat.le_refl _)) (fun k f => qu_i f)
