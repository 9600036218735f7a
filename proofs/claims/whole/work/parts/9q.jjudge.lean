/-! KM: both sides: judge -/
def jdR (RL : List Rul) (n c en : Nat) (T : Nat → Nat → Int32) : Nat → Nat → (Nat → Int32) → Nat → Int32
  | 0, _, _, _ => 0
  | k + 1, i, A, dn => if rgB RL n c en A dn (T i 0) (T i 1) (T i 2) then jdR RL n c en T k (i + 1) (goA RL A (T i 0 - 1)) (dn + 1) else Int32.ofNat (i + 1)
theorem s_cjL {d : Nat} {Q : KO → Prop} {T : Nat → Nat → Int32} {L : Nat} {RL RL1 : List Rul} {A1 : Nat → Int32} {n c en dn1 : Nat} (hL : L ≤ 4) (hd : 6 ≤ d) : ∀ (k i : Nat) (A : Nat → Int32) (dn : Nat) (h : KH), i + k = L → WF h → cityOK h 1 A1 RL1 n c dn1 en → cityOK h 7 A RL n c dn en → h.2.2.1 0 7 = Int32.ofNat L → (∀ j w, j < 4 → w < 3 → h.2.2.1 (34 + j) w = T j w) → (∀ H, Fr (pC 7) noP h H → Q (some (.int (jdR RL n c en T k i A dn)), H)) → Wp d 146 13 [some (.ref 0), some (.int (Int32.ofNat i))] [] h Q := by
  intro k
  induction k with
  | zero =>
    intro i A dn h e hw hk1 hk h7 hT hQ
    exact t_cj0 hw h7 ((nle (by omega) (by omega)).mpr (by omega)) hd (hQ h (Fr.refl h))
  | succ k ih =>
    intro i A dn h e hw hk1 hk h7 hT hQ
    have ge : ¬ (Int32.ofNat L ≤ Int32.ofNat i) := fun c => absurd ((nle (by omega) (by omega)).mp c) (by omega)
    have g4 : ¬ (Int32.ofNat 4 ≤ Int32.ofNat i) := fun c => absurd ((nle (by omega) (by omega)).mp c) (by omega)
    have ii : Int32.ofNat i + (1 : Int32) = Int32.ofNat (i + 1) := (Int32.ofNat_add i 1).symm
    have hi4 : i < 4 := by omega
    unfold jdR at hQ
    by_cases q : rgB RL n c en A dn (T i 0) (T i 1) (T i 2)
    · rw [if_pos q] at hQ
      refine t_cj2 hw hi4 (hT i 0 hi4 (by decide)) (hT i 1 hi4 (by decide)) (hT i 2 hi4 (by decide)) hk1 hk h7 ge g4 q hd (fun k1 f g => ?_)
      rw [ii]
      exact ih (i + 1) _ _ k1 (by omega) (f.wf hw (fun z => z)) (city_fr hk1 f (by unfold pC; omega) (by unfold pC; omega) (fun z => z)) g (by rw [f.2.2.1 0 (Or.inl (by unfold pC; omega))]; exact h7) (fun j w hj hw3 => by rw [f.2.2.1 (34 + j) (Or.inl (by unfold pC; omega))]; exact hT j w hj hw3) (fun H fH => hQ H (f.trans fH))
    · rw [if_neg q] at hQ
      refine t_cj1 hw hi4 (hT i 0 hi4 (by decide)) (hT i 1 hi4 (by decide)) (hT i 2 hi4 (by decide)) hk1 hk h7 ge g4 q hd (fun k1 f => ?_)
      rw [ii]
      exact hQ k1 f
theorem s_mjL {d : Nat} {Q : KO → Prop} {T : Nat → Nat → Int32} {L : Nat} {RL : List Rul} {S : Nat → Int32} {n c en : Nat} (hL : L ≤ 4) (hd : 6 ≤ d) : ∀ (k i : Nat) (A : Nat → Int32) (dn : Nat) (z3 z4 : Option Value) (h : KH), i + k = L → WF h → refTh h S A RL n c dn en → h.2.2.1 59 20 = Int32.ofNat L → (∀ j w, j < 4 → w < 3 → h.2.2.1 67 (3 * j + w) = T j w) → (∀ H, Fr pM noP h H → H.2.2.1 60 = S → Q (some (.int (jdR RL n c en T k i A dn)), H)) → Wp d 263 8 [some (.ref 59), some (.int 0), some (.int (Int32.ofNat i)), z3, z4] [] h Q := by
  intro k
  have toM : ∀ {h k : KH}, Fr (fun c => c = 60) noP h k → Fr pM noP h k := fun {h k} f => f.mono (fun c z => Or.inl z) (fun _ z => z)
  induction k with
  | zero =>
    intro i A dn z3 z4 h e hw hk h20 hT hQ
    exact t_mj0 hw h20 ((nle (by omega) (by omega)).mpr (by omega)) hd (t_mje hw hk hd (fun k1 f e1 => hQ k1 (toM f) e1))
  | succ k ih =>
    intro i A dn z3 z4 h e hw hk h20 hT hQ
    have ge : ¬ (Int32.ofNat L ≤ Int32.ofNat i) := fun c => absurd ((nle (by omega) (by omega)).mp c) (by omega)
    have ii : Int32.ofNat i + (1 : Int32) = Int32.ofNat (i + 1) := (Int32.ofNat_add i 1).symm
    have i1 : (1 : Int32) + Int32.ofNat i = Int32.ofNat (i + 1) := by rw [Int32.add_comm]; exact ii
    have hi4 : i < 4 := by omega
    have r0 : ¬ Int32.ofNat (i + 1) = 0 := fun z => by
      have := (zeq (y := 0) (n := 0) (znat (n := i + 1) (by omega)) rfl).mp z
      omega
    unfold jdR at hQ
    have bad : ∀ {B : Nat → Int32} {dm : Nat} (k1 : KH) (z3 z4 : Option Value), WF k1 → Fr pM noP h k1 → refTh k1 S B RL n c dm en → ¬ rgB RL n c en A dn (T i 0) (T i 1) (T i 2) → Wp d 263 8 [some (.ref 59), some (.int ((1 : Int32) + Int32.ofNat i)), some (.int (Int32.ofNat i + 1)), z3, z4] [] k1 Q := fun {B dm} k1 z3 z4 kw f1 g1 q => by
      rw [if_neg q] at hQ
      rw [i1, ii]
      have fin := t_mje (Q := Q) (r := Int32.ofNat (i + 1)) (i := i + 1) (z3 := z3) (z4 := z4) kw g1 hd (fun k2 f2 e2 => hQ k2 (f1.trans (toM f2)) e2)
      exact t_mjx kw (by rw [f1.2.2.1 59 (Or.inl (by unfold pM; decide))]; exact h20) r0 hd ⟨fun _ => fin, fun _ => fin⟩
    have t0 := hT i 0 hi4 (by decide)
    have t1 := hT i 1 hi4 (by decide)
    have t2 := hT i 2 hi4 (by decide)
    rcases qx : inB (T i 0) 0 (n : Int) with _ | _
    · exact t_mj1 hw hk h20 hi4 t0 t1 t2 ge qx hd (bad h _ _ hw (Fr.refl h) hk (fun z => by have z1 := z.1; rw [qx] at z1; exact absurd z1 (by decide)))
    by_cases hlt : dn < en
    · have ht := ok_x hk.1.2.1.1 qx
      by_cases e1 : T i 1 = wA RL A (T i 0 - 1)
      · by_cases e2 : T i 2 = shA c (goA RL A (T i 0 - 1))
        · rw [if_pos ⟨qx, hlt, e1, e2⟩] at hQ
          refine t_mj5 hw hk h20 hi4 t0 t1 t2 ge hlt qx ht e1.symm e2.symm hd (fun k1 f g e3 => ?_)
          rw [ii]
          exact ih (i + 1) _ _ _ _ k1 (by omega) (f.wf hw (fun z => z)) (hk.next f (by unfold pM; decide) g e3) (by rw [f.2.2.1 59 (Or.inl (by unfold pM; decide))]; exact h20) (fun j w hj hw3 => by rw [f.2.2.1 67 (Or.inl (by unfold pM; decide))]; exact hT j w hj hw3) (fun H fH eH => hQ H (f.trans fH) eH)
        · exact t_mj4 hw hk h20 hi4 t0 t1 t2 ge hlt qx ht e1.symm (fun z => e2 z.symm) hd (fun k1 f g e3 => bad k1 _ _ (f.wf hw (fun z => z)) f (hk.next f (by unfold pM; decide) g e3) (fun z => e2 z.2.2.2))
      · exact t_mj3 hw hk h20 hi4 t0 t1 t2 ge hlt qx ht (fun z => e1 z.symm) hd (fun k1 f g e3 => bad k1 _ _ (f.wf hw (fun z => z)) f (hk.next f (by unfold pM; decide) g e3) (fun z => e1 z.2.2.1))
    · exact t_mj2 hw hk h20 hi4 t0 t1 t2 ge qx hlt hd (bad h _ _ hw (Fr.refl h) hk (fun z => hlt z.2.1))
theorem J_judge {h : KH} (hi : Inv h) : JI h 146 [.ref 0] 263 [.ref 59] := by
  have hw := hi.1
  obtain ⟨_, ⟨A, RL, n, c, dn, en, RP, hb, hr⟩, ho, hf⟩ := id hi
  obtain ⟨R, hR, h7, h20, hrw⟩ := ho.2.2.1
  refine JI_quiet (dc := 7) (dm := 7) (v := jdR RL n c en (fun j w => h.2.2.1 (34 + j) w) R 0 A dn) hi ?_ (fun k hik q => ?_)
  · refine t_cjd hw (by decide) (fun k f a1 a2 a3 => ?_)
    have kw : WF k := f.wf hw (by decide)
    exact s_cjL hR (by decide) R 0 A dn k (Nat.zero_add R) kw (city_fr hb.1 f (by unfold pC; decide) (by unfold pC; decide) (by decide)) (copy_ok hb.1 f a1 a2) (by rw [f.2.2.1 0 (Or.inl (by unfold pC; decide))]; exact h7) (fun j w hj hw3 => by rw [f.2.2.1 (34 + j) (Or.inl (by unfold pC; omega))]) (fun H fH => qu_i ((Q7r f).trans (Q7 fH)))
  · have kw := hik.1
    have fk := q.mild
    have hk := q.m hb.2
    refine t_mjd kw hk (by decide) (fun k1 f1 g1 => ?_)
    exact s_mjL hR (by decide) R 0 A dn none none k1 (Nat.zero_add R) (f1.wf kw (fun z => z)) g1 (by rw [f1.2.2.1 59 (Or.inl (by decide)), q.2.2 20 (by omega)]; exact h20) (fun j w hj hw3 => by rw [f1.2.2.1 67 (Or.inl (by decide)), fk.c (c := 67) (by omega)]; exact (hrw j w hj hw3).symm) (fun H fH eH => qu_i (quiet_m ((Fr62 f1).trans (FrM fH)) eH))
