/-! KM: the reference: the grammar, conditions -/
/-- nothing but the parser's fields and steps from z on is other -/
def FMr (z : Nat) (h k : KH) : Prop := k.1 = h.1 ∧ k.2.1 = h.2.1 ∧ k.2.2.2 = h.2.2.2 ∧ (∀ a, a ≠ 59 → a ≠ 60 → k.2.2.1 a = h.2.2.1 a) ∧ (∀ q, (q < 6 ∨ 12 < q) → k.2.2.1 59 q = h.2.2.1 59 q) ∧ ∀ j, j < 85 + z → k.2.2.1 60 j = h.2.2.1 60 j
theorem FMr.refl (z : Nat) (h : KH) : FMr z h h := ⟨rfl, rfl, rfl, fun _ _ _ => rfl, fun _ _ => rfl, fun _ _ => rfl⟩
theorem FMr.trans {z : Nat} {h k l : KH} (f : FMr z h k) (g : FMr z k l) : FMr z h l := ⟨g.1.trans f.1, g.2.1.trans f.2.1, g.2.2.1.trans f.2.2.1, fun a h1 h2 => (g.2.2.2.1 a h1 h2).trans (f.2.2.2.1 a h1 h2), fun q h1 => (g.2.2.2.2.1 q h1).trans (f.2.2.2.2.1 q h1), fun j h1 => (g.2.2.2.2.2 j h1).trans (f.2.2.2.2.2 j h1)⟩
theorem FMr.mono {z y : Nat} {h k : KH} (f : FMr z h k) (l : y ≤ z) : FMr y h k := ⟨f.1, f.2.1, f.2.2.1, f.2.2.2.1, f.2.2.2.2.1, fun j hj => f.2.2.2.2.2 j (by omega)⟩
theorem FQ.fm {S : Nat → Prop} {h k : KH} (z : Nat) (f : FQ S h k) (hs : ∀ q, S q → 6 ≤ q ∧ q ≤ 12) : FMr z h k := ⟨f.1, f.2.1, f.2.2.1, fun a h1 _ => f.2.2.2.1 a h1, fun q hq => f.2.2.2.2 q (fun y => by have := hs q y; omega), fun j _ => by rw [f.2.2.2.1 60 (by decide)]⟩
theorem rdF_fm (q : Nat) (h : rdF q) : 6 ≤ q ∧ q ≤ 12 := by unfold rdF at h; omega
theorem FMr.i {z : Nat} {h k : KH} {j : Nat} {x : Int32} (f : FMr z h k) (h1 : 6 ≤ j) (h2 : j ≤ 12) : FMr z h (kwi k 59 j x) := ⟨f.1, f.2.1, f.2.2.1, fun a h1 h2 => (kwi_r h1).trans (f.2.2.2.1 a h1 h2), fun q hq => (kwi_o (by omega)).trans (f.2.2.2.2.1 q hq), fun j hj => by rw [kwi_r (by decide)]; exact f.2.2.2.2.2 j hj⟩
theorem FMr.m {z : Nat} {h k : KH} {j : Nat} {x : Int32} (f : FMr z h k) (h1 : 85 + z ≤ j) : FMr z h (kwi k 60 j x) := ⟨f.1, f.2.1, f.2.2.1, fun a h1 h2 => (kwi_r h2).trans (f.2.2.2.1 a h1 h2), fun q hq => by rw [kwi_r (by decide)]; exact f.2.2.2.2.1 q hq, fun i hi => (kwi_o (by omega)).trans (f.2.2.2.2.2 i hi)⟩
theorem FMr.wf {z : Nat} {h k : KH} (f : FMr z h k) (hw : WF h) : WF k := wf_same hw f.1 f.2.1 f.2.2.1
theorem FMr.nm {z : Nat} {h k : KH} (f : FMr z h k) (n : NM h) : NM k := ⟨fun i hi => by rw [f.2.2.2.1 _ (by decide) (by decide)]; exact n.1 i hi, fun i hi => by rw [f.2.2.2.1 _ (by decide) (by decide)]; exact n.2.1 i hi, by rw [f.2.2.2.1 _ (by decide) (by decide)]; exact n.2.2⟩
theorem FMr.tp {z : Nat} {h k : KH} {T : List Nat} (f : FMr z h k) (t : tpM h T) : tpM k T := ⟨t.1, t.2.1, (f.2.2.2.2.1 5 (by decide)).trans t.2.2.1, fun i hi => by rw [f.2.2.2.1 63 (by decide) (by decide)]; exact t.2.2.2 i hi⟩
/-- all is well so far -/
def msO (h : KH) (T : List Nat) (q z op : Nat) : Prop := WF h ∧ NM h ∧ tpM h T ∧ rdS h (tokT T (posT T q)) ∧ h.2.2.1 59 10 = 0 ∧ h.2.2.1 59 11 = Int32.ofNat op ∧ h.2.2.1 59 12 = Int32.ofNat z ∧ lvT (tkC T) q ∧ z ≤ q
/-- it is bad -/
def mbO (h : KH) (T : List Nat) (q z : Nat) : Prop := WF h ∧ NM h ∧ tpM h T ∧ h.2.2.1 59 10 = 1 ∧ h.2.2.1 59 7 = Int32.ofNat (tkB T q) ∧ h.2.2.1 59 12 = Int32.ofNat z ∧ lvT (tkC T) q
theorem msO.r {h k : KH} {T : List Nat} {q z op : Nat} (s : msO h T q z op) (f : FQ rdF h k) (n26 : tkC T q ≠ 26) (r : rdS k (tokT T (posT T (q + 1)))) : msO k T (q + 1) z op := by
  obtain ⟨s1, s2, s3, s4, s5, s6, s7, s8, s9⟩ := s
  have o : ∀ j, (j < 6 ∨ 9 < j) → k.2.2.1 59 j = h.2.2.1 59 j := fun j hj => f.2.2.2.2 j (fun y => by unfold rdF at y; omega)
  exact ⟨f.wf s1, f.nm s2, f.tp (by unfold rdF; omega) s3, r, (o 10 (by decide)).trans s5, (o 11 (by decide)).trans s6, (o 12 (by decide)).trans s7, s8.s n26, by omega⟩
theorem s_adv {h : KH} {T : List Nat} {q z op : Nat} (s : msO h T q z op) (n26 : tkC T q ≠ 26) : ∃ k, FQ rdF h k ∧ msO k T (q + 1) z op ∧ ∀ Q : KO → Prop, Q (none, k) → Cl 3 207 [.ref 59] h Q := by
  obtain ⟨k, f, r, run⟩ := s_reads s.1 s.2.1 s.2.2.1 (p := posT T (q + 1)) s.2.2.2.1.2.2.1 (posT_le T (q + 1))
  exact ⟨k, f, s.r f n26 r, run⟩
theorem rkT_lt (c : Nat) : rkT c < 100 := by
  unfold rkT
  repeat' split
  all_goals omega
theorem s_pasN {Q : KO → Prop} {h : KH} {T : List Nat} {q z op x : Nat} (s : msO h T q z op) (hx : x < 1000) (n : rkT (tkC T q) ≠ x) (hQ : Q (some (.int 0), h)) : Cl 4 208 [.ref 59, .int (Int32.ofNat x)] h Q :=
  t_ps2 (D := 3) s.1 s.2.2.2.2.1 s.2.2.2.1.1 (fun y => n ((neq2 (by have := rkT_lt (tkC T q); exact Nat.lt_trans this (by decide)) (by omega)).mp y)) (Nat.le_refl _) hQ
theorem s_pasY {h : KH} {T : List Nat} {q z op x : Nat} (s : msO h T q z op) (n : rkT (tkC T q) = x) (n26 : tkC T q ≠ 26) : ∃ k, FQ rdF h k ∧ msO k T (q + 1) z op ∧ ∀ Q : KO → Prop, Q (some (.int 1), k) → Cl 4 208 [.ref 59, .int (Int32.ofNat x)] h Q := by
  obtain ⟨k, f, r, run⟩ := s_adv s n26
  exact ⟨k, f, r, fun Q hQ => t_ps3 (D := 3) s.1 r.1 s.2.2.2.2.1 s.2.2.2.1.1 (congrArg Int32.ofNat n) run (Nat.le_refl _) hQ⟩
theorem s_pasB {Q : KO → Prop} {h : KH} {T : List Nat} {q z : Nat} {x : Int32} (s : mbO h T q z) (hQ : Q (some (.int 0), h)) : Cl 4 208 [.ref 59, .int x] h Q :=
  t_ps1 (D := 3) s.1 s.2.2.2.1 (Nat.le_refl _) hQ
/-- a step of the reference is laid -/
def stM (h : KH) (z : Nat) (x : Int32) : KH := kwi (kwi h 60 (85 + z) x) 59 12 (Int32.ofNat (z + 1))
theorem stM_f {h : KH} {z : Nat} {x : Int32} : FMr z h (stM h z x) := ((FMr.refl z h).m (Nat.le_refl _)).i (by decide) (by decide)
theorem stM_z {h : KH} {z : Nat} {x : Int32} : (stM h z x).2.2.1 60 (85 + z) = x := by
  unfold stM
  rw [kwi_r (by decide), kwi_s]
theorem stM_q {h : KH} {z j : Nat} {x : Int32} (hj : j ≠ 12) : (stM h z x).2.2.1 59 j = h.2.2.1 59 j := by
  unfold stM
  rw [kwi_o hj, kwi_r (by decide)]
theorem s_stp {Q : KO → Prop} {h : KH} {z : Nat} {x : Int32} (hw : WF h) (h12 : h.2.2.1 59 12 = Int32.ofNat z) (zl : z < 500) (hQ : Q (none, stM h z x)) : Cl 0 209 [.ref 59, .int x] h Q := by
  refine t_stp hw zl h12 (Nat.le_refl _) ?_
  rw [show Int32.ofNat z + (1 : Int32) = Int32.ofNat (z + 1) from (Int32.ofNat_add z 1).symm]
  exact hQ
theorem rdS_o {h k : KH} {t : Nat × Nat × Nat} (r : rdS h t) (e : ∀ j, 6 ≤ j → j ≤ 9 → k.2.2.1 59 j = h.2.2.1 59 j) : rdS k t := by
  obtain ⟨r1, r2, r3, r4, r5⟩ := r
  exact ⟨(e 6 (by decide) (by decide)).trans r1, (e 7 (by decide) (by decide)).trans r2, (e 8 (by decide) (by decide)).trans r3, fun y => (e 9 (by decide) (by decide)).trans (r4 y), fun y => (e 9 (by decide) (by decide)).trans (r5 y)⟩
theorem msO.st {h : KH} {T : List Nat} {q z op : Nat} {x : Int32} (s : msO h T q z op) (l : z + 1 ≤ q) : msO (stM h z x) T q (z + 1) op := by
  obtain ⟨s1, s2, s3, s4, s5, s6, s7, s8, s9⟩ := s
  have f := stM_f (h := h) (z := z) (x := x)
  exact ⟨f.wf s1, f.nm s2, f.tp s3, rdS_o s4 (fun j h1 h2 => stM_q (by omega)), (stM_q (by decide)).trans s5, (stM_q (by decide)).trans s6, kwi_s, s8, l⟩
theorem mbO.st {h : KH} {T : List Nat} {q z : Nat} {x : Int32} (s : mbO h T q z) : mbO (stM h z x) T q (z + 1) := by
  obtain ⟨s1, s2, s3, s4, s5, s6, s7⟩ := s
  have f := stM_f (h := h) (z := z) (x := x)
  exact ⟨f.wf s1, f.nm s2, f.tp s3, (stM_q (by decide)).trans s4, (stM_q (by decide)).trans s5, kwi_s, s7⟩
theorem mbO.o11 {h : KH} {T : List Nat} {q z : Nat} {x : Int32} (s : mbO h T q z) : mbO (kwi h 59 11 x) T q z := by
  obtain ⟨s1, s2, s3, s4, s5, s6, s7⟩ := s
  have f := (FMr.refl z h).i (j := 11) (x := x) (by decide) (by decide)
  exact ⟨f.wf s1, f.nm s2, f.tp s3, (kwi_o (by decide)).trans s4, (kwi_o (by decide)).trans s5, (kwi_o (by decide)).trans s6, s7⟩
theorem msO.o11 {h : KH} {T : List Nat} {q z op p : Nat} (s : msO h T q z op) : msO (kwi h 59 11 (Int32.ofNat p)) T q z p := by
  obtain ⟨s1, s2, s3, s4, s5, s6, s7, s8, s9⟩ := s
  have f := (FMr.refl z h).i (j := 11) (x := Int32.ofNat p) (by decide) (by decide)
  exact ⟨f.wf s1, f.nm s2, f.tp s3, rdS_o s4 (fun j h1 h2 => kwi_o (by omega)), (kwi_o (by decide)).trans s5, kwi_s, (kwi_o (by decide)).trans s7, s8, s9⟩
theorem msO.bad {h : KH} {T : List Nat} {q z op : Nat} (s : msO h T q z op) : mbO (kwi h 59 10 1) T q z := by
  obtain ⟨s1, s2, s3, s4, s5, s6, s7, s8, s9⟩ := s
  have f := (FMr.refl z h).i (j := 10) (x := 1) (by decide) (by decide)
  exact ⟨f.wf s1, f.nm s2, f.tp s3, kwi_s, (kwi_o (by decide)).trans s4.2.1, (kwi_o (by decide)).trans s7, s8⟩
theorem rk_20 {c : Nat} (h : c ≤ 27 ∨ 100 ≤ c) : (rkT c = 20 ↔ 100 ≤ c) ∧ (rkT c = 22 ↔ c = 23) ∧ (rkT c = 17 ↔ c = 12) ∧ (rkT c = 16 ↔ c = 11) ∧ (rkT c = 15 ↔ c = 10) ∧ (rkT c = 23 ↔ c = 24) ∧ (rkT c = 24 ↔ c = 25) ∧ (rkT c = 25 ↔ c = 26) ∧ (rkT c = 14 ↔ c = 9) ∧ (rkT c = 21 ↔ (20 ≤ c ∧ c ≤ 22)) ∧ (rkT c ≤ 5 ↔ c ≤ 5) ∧ ((6 ≤ rkT c ∧ rkT c ≤ 8) ↔ (6 ≤ c ∧ c ≤ 8)) ∧ ((9 ≤ rkT c ∧ rkT c ≤ 13) ↔ (13 ≤ c ∧ c ≤ 17)) ∧ (c ≤ 8 → rkT c = c) ∧ (13 ≤ c → c ≤ 17 → rkT c = c - 4) := by
  unfold rkT
  repeat' split
  all_goals omega
theorem decV_n {u : Nat} (h : u < 10000) : decV u = Int32.ofNat u := if_pos h
theorem s_sideY {h : KH} {T : List Nat} {q z op : Nat} (s : msO h T q z op) (v : isVT (tkC T q) = true) : ∃ k, FQ rdF h k ∧ msO k T (q + 1) z op ∧ ∀ Q : KO → Prop, Q (some (.int (decV (uVT (tkC T q)))), k) → Cl 5 210 [.ref 59] h Q := by
  have n26 := isVT_n v
  obtain ⟨k, f, r, run⟩ := s_adv s n26
  have cl := tkC_lt T q
  have rk := rk_20 (tkC_r T q)
  refine ⟨k, f, r, fun Q hQ => ?_⟩
  have run : ∀ Q : KO → Prop, Q (none, k) → Cl 4 207 [.ref 59] (kwi h 59 10 0) Q := fun Q hQ => by
    rw [kwi_id s.2.2.2.2.1]
    exact (run Q hQ).depth (by decide)
  have t6 : h.2.2.1 59 6 = Int32.ofNat (rkT (tkC T q)) := s.2.2.2.1.1
  by_cases h1 : 100 ≤ tkC T q
  · have e9 : h.2.2.1 59 9 = Int32.ofNat (tkC T q - 100) := s.2.2.2.1.2.2.2.1 h1
    have eu : decV (uVT (tkC T q)) = Int32.ofNat (tkC T q - 100) := by
      unfold uVT
      rw [if_pos h1, decV_n (by omega)]
    rw [eu] at hQ
    exact t_sd1 (D := 4) s.1 r.1 t6 s.2.2.2.2.1 e9 (by rw [rk.1.mpr h1]; rfl) run (Nat.le_refl _) hQ
  · have h2 : 13 ≤ tkC T q ∧ tkC T q ≤ 17 := by
      unfold isVT at v
      simp only [Bool.or_eq_true, Bool.and_eq_true, Nat.ble_eq] at v
      omega
    have e4 := rk.2.2.2.2.2.2.2.2.2.2.2.2.2.2 h2.1 h2.2
    have ni : ¬ Int32.ofNat (rkT (tkC T q)) = 20 := fun y => by
      have := (neq2 (b := 20) (by omega) (by decide)).mp y
      omega
    refine t_sd2 (D := 4) s.1 r.1 t6 s.2.2.2.2.1 ni (fun Q hQ => (s_inB (x := 9) (y := 13) rfl rfl (by
        rw [inB_t (v := Int32.ofNat (rkT (tkC T q))) (a := 9) (b := 13) (by rw [znat (by omega)]; omega)]
        exact hQ)).depth (Nat.zero_le _)) run (Nat.le_refl _) ?_
    have eu : decV (uVT (tkC T q)) = (8 : Int32) - Int32.ofNat (rkT (tkC T q)) := by
      unfold uVT decV
      rw [if_neg h1, if_neg (by omega), e4]
      apply Int32.toInt_inj.mp
      rw [zs (m := 8) rfl (znat (n := tkC T q - 4) (by omega)) (by omega), Int32.toInt_neg, znat (n := tkC T q - 13 + 10000 - 9999) (by omega)]
      rw [Int.bmod_eq_of_le (by omega) (by omega)]
      omega
    rw [eu] at hQ
    exact hQ
theorem s_sideN {h : KH} {T : List Nat} {q z op : Nat} (s : msO h T q z op) (v : ¬ isVT (tkC T q) = true) : ∃ a, ∀ Q : KO → Prop, Q (some (.int a), kwi h 59 10 1) → Cl 5 210 [.ref 59] h Q := by
  have cl := tkC_lt T q
  have rk := rk_20 (tkC_r T q)
  have t6 : h.2.2.1 59 6 = Int32.ofNat (rkT (tkC T q)) := s.2.2.2.1.1
  have hl := rkT_lt (tkC T q)
  have nv : ¬ (13 ≤ tkC T q ∧ tkC T q ≤ 17) ∧ ¬ 100 ≤ tkC T q := by
    constructor
    · intro y
      apply v
      unfold isVT
      rw [Nat.ble_eq_true_of_le y.1, Nat.ble_eq_true_of_le y.2]
      rfl
    · intro y
      apply v
      unfold isVT
      rw [Nat.ble_eq_true_of_le y, Bool.or_true]
  have ni : ¬ Int32.ofNat (rkT (tkC T q)) = 20 := fun y => nv.2 (rk.1.mp ((neq2 (b := 20) (by omega) (by decide)).mp y))
  have nb : ¬ (9 ≤ rkT (tkC T q) ∧ rkT (tkC T q) ≤ 13) := fun y => nv.1 (rk.2.2.2.2.2.2.2.2.2.2.2.2.1.mp y)
  exact ⟨_, fun Q hQ => t_sd3 (D := 4) s.1 t6 s.2.2.2.2.1 ni (fun Q hQ => (s_inB (x := 9) (y := 13) rfl rfl (by
        rw [inB_f (v := Int32.ofNat (rkT (tkC T q))) (a := 9) (b := 13) (by rw [znat (by omega)]; omega)]
        exact hQ)).depth (Nat.zero_le _)) (Nat.le_refl _) hQ⟩
theorem s_sideB {h : KH} {T : List Nat} {q z : Nat} (s : mbO h T q z) : ∃ a, ∀ Q : KO → Prop, Q (some (.int a), h) → Cl 5 210 [.ref 59] h Q := by
  have e : kwi h 59 10 1 = h := kwi_id s.2.2.2.1
  by_cases t20 : h.2.2.1 59 6 = 20
  · exact ⟨_, fun Q hQ => t_sd5 (D := 4) s.1 rfl s.2.2.2.1 rfl t20 (Nat.le_refl _) (by rw [e]; exact hQ)⟩
  · exact ⟨_, fun Q hQ => t_sd4 (D := 4) s.1 rfl s.2.2.2.1 t20 (Nat.le_refl _) (by rw [e]; exact hQ)⟩
theorem laidS_app {S : Nat → Int32} : ∀ {P R : List Op} {k m e : Nat}, laidS S k P m → laidS S m R e → laidS S k (P ++ R) e
  | [], R, k, m, e, h, g => by
    have h : k = m := h
    rw [h]
    exact g
  | (t, x, y) :: r, R, k, m, e, h, g => by
    rcases h with ⟨a1, a2, a3, a4, a5⟩ | ⟨a1, a2, a3, a4⟩
    · exact Or.inl ⟨a1, a2, a3, a4, laidS_app a5 g⟩
    · exact Or.inr ⟨a1, a2, a3, laidS_app a4 g⟩
theorem laidS_fm {z : Nat} {h k : KH} {P : List Op} {b e : Nat} (f : FMr z h k) (hb : 85 ≤ b) (he : e ≤ 85 + z) (l : laidS (h.2.2.1 60) b P e) : laidS (k.2.2.1 60) b P e := laidS_congr2 (N := 85 + z) (fun m _ h2 => f.2.2.2.2.2 m h2) hb he l
theorem laidS_one {h : KH} {z t : Nat} {a b : Int32} (h1 : 3 ≤ t) (h2 : t ≤ 5) : laidS ((stM h z (Int32.ofNat (20 - t))).2.2.1 60) (85 + z) [(t, a, b)] (85 + z + 1) := Or.inr ⟨h1, h2, stM_z, rfl⟩
/-- what a reader of the reference leaves -/
def resM (h k : KH) (T : List Nat) (q z op : Nat) (r : PRes) : Prop := FMr z h k ∧ (r.1 = true → msO k T r.2.1 (z + lszT r.2.2.2) op ∧ laidS (k.2.2.1 60) (85 + z) r.2.2.2 (85 + z + lszT r.2.2.2)) ∧ (r.1 = false → ∃ z', mbO k T r.2.1 z' ∧ z ≤ z' ∧ z' + q ≤ z + r.2.1)
def MPar (T : List Nat) (D M op : Nat) (P : Nat → PRes) : Prop := ∀ h q z, msO h T q z op → ∃ k, resM h k T q z op (P q) ∧ ∀ Q : KO → Prop, Q (none, k) → Cl D M [.ref 59] h Q
def L211 (n : Nat) : KL := [some (.ref 59), some (.int (Int32.ofNat n)), none, none, none]
/-- a comparison -/
theorem m_cmp {T : List Nat} {op : Nat} {h : KH} {q z : Nat} (s : msO h T q z op) : ∃ k, resM h k T q z op (cmpT (tkC T) q) ∧ ∀ (D n : Nat) (Q : KO → Prop), 6 ≤ D → (∀ z2 z3 z4 : Option Value, Wp D 211 159 [some (.ref 59), some (.int (Int32.ofNat n)), z2, z3, z4] [] k Q) → Wp D 211 95 [some (.ref 59), some (.int (Int32.ofNat n)), none, none, none] [] h Q := by
  have rk1 := rk_20 (tkC_r T (q + 1))
  unfold cmpT
  by_cases h1 : isVT (tkC T q) = true
  · rw [if_pos h1]
    obtain ⟨k1, f1, s1, run1⟩ := s_sideY s h1
    have n1 : ∀ x, k1.2.2.1 59 9 = x → True := fun _ _ => trivial
    by_cases h2 : 20 ≤ tkC T (q + 1) ∧ tkC T (q + 1) ≤ 22
    · rw [if_pos h2]
      obtain ⟨k2, f2, s2, run2⟩ := s_pasY (x := 21) s1 (rk1.2.2.2.2.2.2.2.2.2.1.mpr h2) (by omega)
      have e0 : kwi k2 59 10 0 = k2 := kwi_id s2.2.2.2.2.1
      have sg : k1.2.2.1 59 9 = Int32.ofNat (tkC T (q + 1) + 40) := s1.2.2.2.1.2.2.2.2 h2
      by_cases h3 : isVT (tkC T (q + 2)) = true
      · rw [if_pos h3]
        obtain ⟨k3, f3, s3, run3⟩ := s_sideY s2 h3
        have ql := lvT_le s3.2.2.2.2.2.2.2.1
        have zq := s.2.2.2.2.2.2.2.2
        have hT := s.2.2.1.1
        have s4 := s3.st (x := Int32.ofNat (tkC T (q + 1) + 40)) (by omega)
        have s5 := s4.st (x := decV (uVT (tkC T q))) (by omega)
        have s6 := s5.st (x := decV (uVT (tkC T (q + 2)))) (by omega)
        have f : FMr z h (stM (stM (stM k3 z (Int32.ofNat (tkC T (q + 1) + 40))) (z + 1) (decV (uVT (tkC T q)))) (z + 1 + 1) (decV (uVT (tkC T (q + 2))))) := ((((f1.fm z rdF_fm).trans (f2.fm z rdF_fm)).trans (f3.fm z rdF_fm)).trans stM_f).trans ((stM_f.mono (by omega)).trans (stM_f.mono (by omega)))
        have el : lszT [(tkC T (q + 1) - 20, decV (uVT (tkC T q)), decV (uVT (tkC T (q + 2))))] = 3 := by
          simp only [lszT]
          rw [if_pos (by omega)]
        refine ⟨_, ⟨f, fun _ => ⟨?_, ?_⟩, fun y => by cases y⟩, fun D n Q hD hQ => ?_⟩
        · show msO _ T (q + 3) (z + lszT [_]) op
          rw [el]
          exact s6
        · show laidS _ (85 + z) [_] (85 + z + lszT [_])
          rw [el]
          refine Or.inl ⟨by omega, ?_, ?_, ?_, rfl⟩
          · have e1 := (stM_f (h := stM (stM k3 z (Int32.ofNat (tkC T (q + 1) + 40))) (z + 1) (decV (uVT (tkC T q)))) (z := z + 1 + 1) (x := decV (uVT (tkC T (q + 2))))).2.2.2.2.2 (85 + z) (by omega)
            have e2 := (stM_f (h := stM k3 z (Int32.ofNat (tkC T (q + 1) + 40))) (z := z + 1) (x := decV (uVT (tkC T q)))).2.2.2.2.2 (85 + z) (by omega)
            rw [e1, e2, stM_z, show 60 + (tkC T (q + 1) - 20) = tkC T (q + 1) + 40 by omega]
          · have e1 := (stM_f (h := stM (stM k3 z (Int32.ofNat (tkC T (q + 1) + 40))) (z + 1) (decV (uVT (tkC T q)))) (z := z + 1 + 1) (x := decV (uVT (tkC T (q + 2))))).2.2.2.2.2 (85 + z + 1) (by omega)
            rw [e1]
            exact stM_z
          · exact stM_z
        · refine t_moH (D := 5) (a := decV (uVT (tkC T q))) (b := decV (uVT (tkC T (q + 2)))) s.1 s1.1 s2.1 s3.1 s4.1 s5.1 s6.1 (fun Q hQ => run1 Q hQ) sg s1.2.2.2.2.1 (fun Q hQ => (run2 Q hQ).depth (by decide)) (fun Q hQ => by rw [e0]; exact run3 Q hQ) s3.2.2.2.2.1 (fun Q hQ => (s_stp s3.1 s3.2.2.2.2.2.2.1 (by omega) hQ).depth (Nat.zero_le _)) (fun Q hQ => (s_stp s4.1 s4.2.2.2.2.2.2.1 (by omega) hQ).depth (Nat.zero_le _)) (fun Q hQ => (s_stp s5.1 s5.2.2.2.2.2.2.1 (by omega) hQ).depth (Nat.zero_le _)) (by omega) (hQ _ _ _)
      · rw [if_neg h3]
        obtain ⟨a, run3⟩ := s_sideN s2 h3
        refine ⟨kwi k2 59 10 1, ⟨((f1.fm z rdF_fm).trans (f2.fm z rdF_fm)).i (by decide) (by decide), (fun y => by cases y), fun _ => ⟨z, s2.bad, Nat.le_refl _, by simp only []; omega⟩⟩, fun D n Q hD hQ => ?_⟩
        exact t_moG (D := 5) (a := decV (uVT (tkC T q))) (b := a) s.1 s1.1 s2.1 (WF_i s2.1) (fun Q hQ => run1 Q hQ) sg s1.2.2.2.2.1 (fun Q hQ => (run2 Q hQ).depth (by decide)) (fun Q hQ => by rw [e0]; exact run3 Q hQ) kwi_s (by omega) (hQ _ _ _)
    · rw [if_neg h2]
      have bad := s1.bad
      obtain ⟨b, run3⟩ := s_sideB bad
      refine ⟨kwi k1 59 10 1, ⟨(f1.fm z rdF_fm).i (by decide) (by decide), (fun y => by cases y), fun _ => ⟨z, bad, Nat.le_refl _, by simp only []; omega⟩⟩, fun D n Q hD hQ => ?_⟩
      exact t_moF (D := 5) (a := decV (uVT (tkC T q))) (b := b) s.1 s1.1 bad.1 (fun Q hQ => run1 Q hQ) rfl s1.2.2.2.2.1 (fun Q hQ => (s_pasN (x := 21) s1 (by decide) (fun y => h2 (rk1.2.2.2.2.2.2.2.2.2.1.mp y)) hQ).depth (by decide)) run3 kwi_s (by omega) (hQ _ _ _)
  · rw [if_neg h1]
    obtain ⟨a, run1⟩ := s_sideN s h1
    have bad := s.bad
    obtain ⟨b, run3⟩ := s_sideB bad
    have e1 : kwi (kwi h 59 10 1) 59 10 1 = kwi h 59 10 1 := kwi_kwi h 59 10 1 1
    refine ⟨kwi h 59 10 1, ⟨(FMr.refl z h).i (by decide) (by decide), (fun y => by cases y), fun _ => ⟨z, bad, Nat.le_refl _, Nat.le_refl _⟩⟩, fun D n Q hD hQ => ?_⟩
    exact t_moE (D := 5) (a := a) (b := b) s.1 bad.1 bad.1 (fun Q hQ => run1 Q hQ) rfl kwi_s (fun Q hQ => by rw [e1]; exact run3 Q hQ) kwi_s (by omega) (hQ _ _ _)
