/-! KM: the class: bodies of things -/
def pTh (t : Nat) : Nat → Prop := fun c => c = t ∨ c = t + 1
/-- a thing at t: the bodies that began, whether it parted, its number, its chalk -/
def thO (h : KH) (t : Nat) (L : List Int32) (p : Bool) (n a : Int32) : Prop := L.length ≤ 30 ∧ h.2.2.1 t 1 = Int32.ofNat L.length ∧ (∀ i, i < L.length → h.2.2.1 (t + 1) i = L.getD i 0) ∧ h.2.2.1 t 2 = b32 p ∧ h.2.2.1 t 3 = n ∧ h.2.2.1 t 4 = a
theorem gd_l {L : List Int32} {b : Int32} {i : Nat} (h : i < L.length) : (L ++ [b]).getD i 0 = L.getD i 0 := by
  rw [List.getD_eq_getElem?_getD, List.getD_eq_getElem?_getD, List.getElem?_append_left h]
theorem gd_s {L : List Int32} {b : Int32} : (L ++ [b]).getD L.length 0 = b := by
  rw [List.getD_eq_getElem?_getD, List.getElem?_append_right (Nat.le_refl _), Nat.sub_self]
  rfl
theorem thO_push {h : KH} {t : Nat} {L : List Int32} {p : Bool} {n a b : Int32} (s : thO h t L p n a) (hl : L.length < 30) : thO (kwi (kwi h (t + 1) L.length b) t 1 (Int32.ofNat L.length + 1)) t (L ++ [b]) p n a := by
  obtain ⟨s0, s1, s2, s3, s4, s5⟩ := s
  have nt : t ≠ t + 1 := by omega
  refine ⟨by rw [List.length_append]; exact hl, ?_, fun i hi => ?_, ?_, ?_, ?_⟩
  · rw [kwi_s, List.length_append]
    exact (Int32.ofNat_add _ 1).symm
  · rw [kwi_r (by omega : t + 1 ≠ t)]
    by_cases e : i = L.length
    · subst e
      rw [kwi_s, gd_s]
    · rw [List.length_append] at hi
      have hi2 : i < L.length := by
        have : i < L.length + 1 := hi
        omega
      rw [kwi_o e, gd_l hi2]
      exact s2 i hi2
  · rw [kwi_o (by decide), kwi_r nt]
    exact s3
  · rw [kwi_o (by decide), kwi_r nt]
    exact s4
  · rw [kwi_o (by decide), kwi_r nt]
    exact s5
theorem thO_part {h : KH} {t : Nat} {L : List Int32} {p : Bool} {n a : Int32} (s : thO h t L p n a) : thO (kwi h t 2 1) t L true n a := by
  obtain ⟨s0, s1, s2, s3, s4, s5⟩ := s
  refine ⟨s0, ?_, fun i hi => ?_, kwi_s, ?_, ?_⟩
  · rw [kwi_o (by decide)]
    exact s1
  · rw [kwi_r (by omega)]
    exact s2 i hi
  · rw [kwi_o (by decide)]
    exact s4
  · rw [kwi_o (by decide)]
    exact s5
theorem thO_app {h : KH} {t : Nat} {L M : List Int32} {p : Bool} {n a : Int32} (s : thO h t L p n a) (e : L = M) : thO h t M p n a := by
  rw [← e]
  exact s
theorem g30 {L : List Int32} (h : L.length < 30) : ¬ ((30 : Int32) ≤ Int32.ofNat L.length) := fun c => by
  have := (zle (x := 30) (m := 30) rfl (znat (n := L.length) (by omega))).mp c
  omega
set_option maxHeartbeats 4000000 in
theorem t_bg49 {d : Nat} {Q : KO → Prop} {h : KH} (hw : WF h) {L : List Int32} {n a x : Int32} (s : thO h 49 L false n a) (hl : L.length < 30) (hd : 0 ≤ d) (hQ : Q (some (.int (1)), kwi (kwi h 50 L.length x) 49 1 ((Int32.ofNat L.length) + (1 : Int32)))) : Cl d 82 [.ref 49, .int (x)] h Q := by
  refine Cl.of (ls := [some (.ref 49), some (.int (x))]) rfl rfl ?_
  refine Wp.seg 1 (pc1 := 1) (ls1 := [some (.ref 49), some (.int (x))]) (st1 := [.ref 49]) rfl ?_
  refine Wp.gi (t := (0, 0)) rfl (WF.t hw 49 rfl) (Or.inr rfl) ?_
  rw [show h.2.2.1 49 2 = 0 from s.2.2.2.1]
  refine Wp.if1 rfl (fun c1 => ?_) (fun c1 => absurd (show (0 : Int32) = 0 by decide) c1)
  refine Wp.seg 1 (pc1 := 10) (ls1 := [some (.ref 49), some (.int (x))]) (st1 := [.ref 49]) rfl ?_
  refine Wp.gi (t := (0, 0)) rfl (WF.t hw 49 rfl) (Or.inl rfl) ?_
  rw [show h.2.2.1 49 1 = Int32.ofNat L.length from s.2.1]
  refine Wp.seg 1 (pc1 := 15) (ls1 := [some (.ref 49), some (.int (x))]) (st1 := [.int (30), .int (Int32.ofNat L.length)]) rfl ?_
  refine Wp.if2 rfl (fun c2 => absurd c2 (g30 hl)) (fun c2 => ?_)
  refine Wp.seg 1 (pc1 := 19) (ls1 := [some (.ref 49), some (.int (x))]) (st1 := [.ref 49]) rfl ?_
  refine Wp.gr (t := (0, 0)) (v := some (50)) rfl (WF.t hw 49 rfl) rfl (WF.r hw 49 0 53 rfl) ?_
  show Wp d 82 22 [some (.ref 49), some (.int (x))] [.ref 50] h Q
  refine Wp.seg 1 (pc1 := 23) (ls1 := [some (.ref 49), some (.int (x))]) (st1 := [.ref 49, .ref 50]) rfl ?_
  refine Wp.gi (t := (0, 0)) rfl (WF.t hw 49 rfl) (Or.inl rfl) ?_
  rw [show h.2.2.1 49 1 = Int32.ofNat L.length from s.2.1]
  refine Wp.seg 1 (pc1 := 27) (ls1 := [some (.ref 49), some (.int (x))]) (st1 := [.int (x), .int (Int32.ofNat L.length), .ref 50]) rfl ?_
  refine Wp.iast (j := L.length) (n := 30) rfl (WF.t hw 50 rfl) rfl hl (by decide) ?_
  refine Wp.seg 2 (pc1 := 30) (ls1 := [some (.ref 49), some (.int (x))]) (st1 := [.ref 49, .ref 49]) rfl ?_
  refine Wp.gi (t := (0, 0)) rfl (WF.t hw 49 rfl) (Or.inl rfl) ?_
  rw [show (kwi h 50 L.length x).2.2.1 49 1 = Int32.ofNat L.length from ((kwi_b (by decide)).trans (rfl)).trans s.2.1]
  refine Wp.seg 2 (pc1 := 35) (ls1 := [some (.ref 49), some (.int (x))]) (st1 := [.int ((Int32.ofNat L.length) + (1 : Int32)), .ref 49]) rfl ?_
  refine Wp.pi (t := (0, 0)) rfl (WF.t hw 49 rfl) (Or.inl rfl) ?_
  refine Wp.seg 1 (pc1 := 39) (ls1 := [some (.ref 49), some (.int (x))]) (st1 := [.int (1)]) rfl ?_
  exact Wp.reti rfl rfl hQ
theorem s_bg49 {d : Nat} {Q : KO → Prop} {h : KH} (hw : WF h) {L : List Int32} {n a x : Int32} (s : thO h 49 L false n a) (hl : L.length < 30) (hQ : ∀ k, Fr (pTh 49) noP h k → thO k 49 (L ++ [x]) false n a → Q (some (.int 1), k)) : Cl d 82 [.ref 49, .int x] h Q :=
  t_bg49 hw s hl (Nat.zero_le _) (hQ _ ((fr_kwi (P := pTh 49) (R := noP) (Or.inr rfl) (by decide)).trans (fr_kwi (Or.inl rfl) (by decide))) (thO_push s hl))
set_option maxHeartbeats 4000000 in
theorem c83_49 {d : Nat} {Q : KO → Prop} {h : KH} (hw : WF h) {L : List Int32} {n a x : Int32} (s : thO h 49 L false n a) (hl : L.length + 1 ≤ 30) (hd : 1 ≤ d) (hQ0 : ∀ k, Fr (pTh 49) noP h k → thO k 49 (L ++ [10]) false n a → Q (some (.int (x ^^^ (n + (5 : Int32)))), k)) : Cl d 83 [.ref 49, .int x] h Q := by
  have hQ : ∀ k1, Fr (pTh 49) noP h k1 → thO k1 49 (L ++ [10]) false n a → (Q (some (.int (x ^^^ (n + (5 : Int32)))), k1)) := fun k1 f1 g1 => hQ0 k1 (f1) (thO_app g1 rfl)
  refine Cl.of (ls := [some (.ref 49), some (.int (x))]) rfl rfl ?_
  refine Wp.seg 2 (pc1 := 3) (ls1 := [some (.ref 49), some (.int (x))]) (st1 := [.int (10), .ref 49]) rfl ?_
  refine Wp.invV (d2 := 0) (as := [.ref 49, .int (10)]) (r := []) (t := (0, 0)) rfl rfl rfl rfl (WF.t hw 49 rfl) rfl rfl ⟨rfl, rfl⟩ (by omega) (s_bg49 hw s (by first | omega | (simp only [List.length_append, List.length_cons, List.length_nil]; omega)) ?_)
  intro k1 f1 g1
  show Wp d 83 6 [some (.ref 49), some (.int (x))] [.int (1)] k1 Q
  refine Wp.if1 rfl (fun c1 => absurd c1 (show ¬ ((1 : Int32) = 0) by decide)) (fun c1 => ?_)
  refine Wp.seg 2 (pc1 := 11) (ls1 := [some (.ref 49), some (.int (x))]) (st1 := [.ref 49, .int (x)]) rfl ?_
  refine Wp.gi (t := (0, 0)) rfl (WF.t (f1.wf hw (fun z => z)) 49 rfl) (Or.inl rfl) ?_
  rw [show k1.2.2.1 49 3 = n from g1.2.2.2.2.1]
  refine Wp.seg 4 (pc1 := 21) (ls1 := [some (.ref 49), some (.int (x))]) (st1 := [.int (x ^^^ (n + (5 : Int32)))]) rfl ?_
  exact Wp.reti rfl rfl (hQ k1 f1 g1)
set_option maxHeartbeats 4000000 in
theorem c1_49 {d : Nat} {Q : KO → Prop} {h : KH} (hw : WF h) {L : List Int32} {n a x : Int32} (s : thO h 49 L false n a) (hl : L.length + 2 ≤ 30) (hd : 2 ≤ d) (hQ0 : ∀ k, Fr (pTh 49) noP h k → thO k 49 (L ++ [20, 10]) false n a → Q (some (.int ((x ^^^ (n + (5 : Int32))) * (5 : Int32))), k)) : Cl d 1 [.ref 49, .int x] h Q := by
  have hQ : ∀ k1, Fr (pTh 49) noP h k1 → thO k1 49 (L ++ [20]) false n a → (∀ k2, Fr (pTh 49) noP k1 k2 → thO k2 49 ((L ++ [20]) ++ [10]) false n a → (Q (some (.int ((x ^^^ (n + (5 : Int32))) * (5 : Int32))), k2))) := fun k1 f1 g1 k2 f2 g2 => hQ0 k2 ((f1).trans f2) (thO_app g2 (by simp only [List.append_assoc, List.cons_append, List.nil_append]))
  refine Cl.of (ls := [some (.ref 49), some (.int (x))]) rfl rfl ?_
  refine Wp.seg 2 (pc1 := 3) (ls1 := [some (.ref 49), some (.int (x))]) (st1 := [.int (20), .ref 49]) rfl ?_
  refine Wp.invV (d2 := 0) (as := [.ref 49, .int (20)]) (r := []) (t := (0, 0)) rfl rfl rfl rfl (WF.t hw 49 rfl) rfl rfl ⟨rfl, rfl⟩ (by omega) (s_bg49 hw s (by first | omega | (simp only [List.length_append, List.length_cons, List.length_nil]; omega)) ?_)
  intro k1 f1 g1
  show Wp d 1 6 [some (.ref 49), some (.int (x))] [.int (1)] k1 Q
  refine Wp.if1 rfl (fun c1 => absurd c1 (show ¬ ((1 : Int32) = 0) by decide)) (fun c1 => ?_)
  refine Wp.seg 2 (pc1 := 11) (ls1 := [some (.ref 49), some (.int (x))]) (st1 := [.int (x), .ref 49]) rfl ?_
  refine Wp.invV (d2 := 1) (as := [.ref 49, .int (x)]) (r := []) (t := (0, 0)) rfl rfl rfl rfl (WF.t (f1.wf hw (fun z => z)) 49 rfl) rfl rfl ⟨rfl, rfl⟩ (by omega) (c83_49 (f1.wf hw (fun z => z)) g1 (by first | omega | (simp only [List.length_append, List.length_cons, List.length_nil]; omega)) (Nat.le_refl _) ?_)
  intro k2 f2 g2
  show Wp d 1 14 [some (.ref 49), some (.int (x))] [.int (x ^^^ (n + (5 : Int32)))] k2 Q
  refine Wp.seg 3 (pc1 := 20) (ls1 := [some (.ref 49), some (.int (x))]) (st1 := [.int ((x ^^^ (n + (5 : Int32))) * (5 : Int32))]) rfl ?_
  exact Wp.reti rfl rfl ((hQ k1 f1 g1) k2 f2 g2)
set_option maxHeartbeats 4000000 in
theorem c84_49 {d : Nat} {Q : KO → Prop} {h : KH} (hw : WF h) {L : List Int32} {n a x : Int32} (s : thO h 49 L false n a) (hl : L.length + 3 ≤ 30) (hd : 3 ≤ d) (hQ0 : ∀ k, Fr (pTh 49) noP h k → thO k 49 (L ++ [11, 20, 10]) false n a → Q (some (.int (((x ^^^ (n + (5 : Int32))) * (5 : Int32)) - a)), k)) : Cl d 84 [.ref 49, .int x] h Q := by
  have hQ : ∀ k1, Fr (pTh 49) noP h k1 → thO k1 49 (L ++ [11]) false n a → (∀ k2, Fr (pTh 49) noP k1 k2 → thO k2 49 ((L ++ [11]) ++ [20, 10]) false n a → (Q (some (.int (((x ^^^ (n + (5 : Int32))) * (5 : Int32)) - a)), k2))) := fun k1 f1 g1 k2 f2 g2 => hQ0 k2 ((f1).trans f2) (thO_app g2 (by simp only [List.append_assoc, List.cons_append, List.nil_append]))
  refine Cl.of (ls := [some (.ref 49), some (.int (x))]) rfl rfl ?_
  refine Wp.seg 2 (pc1 := 3) (ls1 := [some (.ref 49), some (.int (x))]) (st1 := [.int (11), .ref 49]) rfl ?_
  refine Wp.invV (d2 := 0) (as := [.ref 49, .int (11)]) (r := []) (t := (0, 0)) rfl rfl rfl rfl (WF.t hw 49 rfl) rfl rfl ⟨rfl, rfl⟩ (by omega) (s_bg49 hw s (by first | omega | (simp only [List.length_append, List.length_cons, List.length_nil]; omega)) ?_)
  intro k1 f1 g1
  show Wp d 84 6 [some (.ref 49), some (.int (x))] [.int (1)] k1 Q
  refine Wp.if1 rfl (fun c1 => absurd c1 (show ¬ ((1 : Int32) = 0) by decide)) (fun c1 => ?_)
  refine Wp.seg 2 (pc1 := 11) (ls1 := [some (.ref 49), some (.int (x))]) (st1 := [.int (x), .ref 49]) rfl ?_
  refine Wp.invV (d2 := 2) (as := [.ref 49, .int (x)]) (r := []) (t := (0, 0)) rfl rfl rfl rfl (WF.t (f1.wf hw (fun z => z)) 49 rfl) rfl rfl ⟨rfl, rfl⟩ (by omega) (c1_49 (f1.wf hw (fun z => z)) g1 (by first | omega | (simp only [List.length_append, List.length_cons, List.length_nil]; omega)) (Nat.le_refl _) ?_)
  intro k2 f2 g2
  show Wp d 84 14 [some (.ref 49), some (.int (x))] [.int ((x ^^^ (n + (5 : Int32))) * (5 : Int32))] k2 Q
  refine Wp.seg 1 (pc1 := 15) (ls1 := [some (.ref 49), some (.int (x))]) (st1 := [.ref 49, .int ((x ^^^ (n + (5 : Int32))) * (5 : Int32))]) rfl ?_
  refine Wp.gi (t := (0, 0)) rfl (WF.t (f2.wf (f1.wf hw (fun z => z)) (fun z => z)) 49 rfl) (Or.inl rfl) ?_
  rw [show k2.2.2.1 49 4 = a from g2.2.2.2.2.2]
  refine Wp.seg 2 (pc1 := 23) (ls1 := [some (.ref 49), some (.int (x))]) (st1 := [.int (((x ^^^ (n + (5 : Int32))) * (5 : Int32)) - a)]) rfl ?_
  exact Wp.reti rfl rfl ((hQ k1 f1 g1) k2 f2 g2)
set_option maxHeartbeats 4000000 in
theorem c85_490 {d : Nat} {Q : KO → Prop} {h : KH} (hw : WF h) {L : List Int32} {n a x : Int32} (s : thO h 49 L false n a) (hl : L.length + 1 ≤ 30) (e0 : a - n = 0) (hd : 1 ≤ d) (hQ0 : ∀ k, Fr (pTh 49) noP h k → thO k 49 (L ++ [12]) true n a → Q (some (.int (0)), k)) : Cl d 85 [.ref 49, .int x] h Q := by
  have hQ : ∀ k1, Fr (pTh 49) noP h k1 → thO k1 49 (L ++ [12]) false n a → (Q (some (.int (0)), kwi k1 49 2 (1 : Int32))) := fun k1 f1 g1 => hQ0 _ ((f1).trans (fr_kwi (Or.inl rfl) (by decide))) (thO_app (thO_part g1) rfl)
  refine Cl.of (ls := [some (.ref 49), some (.int (x)), none]) rfl rfl ?_
  refine Wp.seg 2 (pc1 := 3) (ls1 := [some (.ref 49), some (.int (x)), none]) (st1 := [.int (12), .ref 49]) rfl ?_
  refine Wp.invV (d2 := 0) (as := [.ref 49, .int (12)]) (r := []) (t := (0, 0)) rfl rfl rfl rfl (WF.t hw 49 rfl) rfl rfl ⟨rfl, rfl⟩ (by omega) (s_bg49 hw s (by first | omega | (simp only [List.length_append, List.length_cons, List.length_nil]; omega)) ?_)
  intro k1 f1 g1
  show Wp d 85 6 [some (.ref 49), some (.int (x)), none] [.int (1)] k1 Q
  refine Wp.if1 rfl (fun c1 => ?_) (fun c1 => absurd (show ¬ (1 : Int32) = 0 by decide) c1)
  refine Wp.seg 1 (pc1 := 12) (ls1 := [some (.ref 49), some (.int (x)), none]) (st1 := [.ref 49]) rfl ?_
  refine Wp.gi (t := (0, 0)) rfl (WF.t (f1.wf hw (fun z => z)) 49 rfl) (Or.inl rfl) ?_
  rw [show k1.2.2.1 49 4 = a from g1.2.2.2.2.2]
  refine Wp.seg 1 (pc1 := 16) (ls1 := [some (.ref 49), some (.int (x)), none]) (st1 := [.ref 49, .int (a)]) rfl ?_
  refine Wp.gi (t := (0, 0)) rfl (WF.t (f1.wf hw (fun z => z)) 49 rfl) (Or.inl rfl) ?_
  rw [show k1.2.2.1 49 3 = n from g1.2.2.2.2.1]
  refine Wp.seg 3 (pc1 := 22) (ls1 := [some (.ref 49), some (.int (x)), some (.int (a - n))]) (st1 := [.int (a - n)]) rfl ?_
  refine Wp.if1 rfl (fun c2 => absurd c2 (fun z => z e0)) (fun c2 => ?_)
  refine Wp.seg 2 (pc1 := 27) (ls1 := [some (.ref 49), some (.int (x)), some (.int (a - n))]) (st1 := [.int (1), .ref 49]) rfl ?_
  refine Wp.pi (t := (0, 0)) rfl (WF.t (f1.wf hw (fun z => z)) 49 rfl) (Or.inr ⟨rfl, Or.inr rfl⟩) ?_
  refine Wp.seg 1 (pc1 := 31) (ls1 := [some (.ref 49), some (.int (x)), some (.int (a - n))]) (st1 := [.int (0)]) rfl ?_
  exact Wp.reti rfl rfl (hQ k1 f1 g1)
set_option maxHeartbeats 4000000 in
theorem c85_491 {d : Nat} {Q : KO → Prop} {h : KH} (hw : WF h) {L : List Int32} {n a x : Int32} (s : thO h 49 L false n a) (hl : L.length + 1 ≤ 30) (ne : ¬ a - n = 0) (hd : 1 ≤ d) (hQ0 : ∀ k, Fr (pTh 49) noP h k → thO k 49 (L ++ [12]) false n a → Q (some (.int (x - x / (a - n) * (a - n))), k)) : Cl d 85 [.ref 49, .int x] h Q := by
  have hQ : ∀ k1, Fr (pTh 49) noP h k1 → thO k1 49 (L ++ [12]) false n a → (Q (some (.int (x - x / (a - n) * (a - n))), k1)) := fun k1 f1 g1 => hQ0 k1 (f1) (thO_app g1 rfl)
  refine Cl.of (ls := [some (.ref 49), some (.int (x)), none]) rfl rfl ?_
  refine Wp.seg 2 (pc1 := 3) (ls1 := [some (.ref 49), some (.int (x)), none]) (st1 := [.int (12), .ref 49]) rfl ?_
  refine Wp.invV (d2 := 0) (as := [.ref 49, .int (12)]) (r := []) (t := (0, 0)) rfl rfl rfl rfl (WF.t hw 49 rfl) rfl rfl ⟨rfl, rfl⟩ (by omega) (s_bg49 hw s (by first | omega | (simp only [List.length_append, List.length_cons, List.length_nil]; omega)) ?_)
  intro k1 f1 g1
  show Wp d 85 6 [some (.ref 49), some (.int (x)), none] [.int (1)] k1 Q
  refine Wp.if1 rfl (fun c1 => ?_) (fun c1 => absurd (show ¬ (1 : Int32) = 0 by decide) c1)
  refine Wp.seg 1 (pc1 := 12) (ls1 := [some (.ref 49), some (.int (x)), none]) (st1 := [.ref 49]) rfl ?_
  refine Wp.gi (t := (0, 0)) rfl (WF.t (f1.wf hw (fun z => z)) 49 rfl) (Or.inl rfl) ?_
  rw [show k1.2.2.1 49 4 = a from g1.2.2.2.2.2]
  refine Wp.seg 1 (pc1 := 16) (ls1 := [some (.ref 49), some (.int (x)), none]) (st1 := [.ref 49, .int (a)]) rfl ?_
  refine Wp.gi (t := (0, 0)) rfl (WF.t (f1.wf hw (fun z => z)) 49 rfl) (Or.inl rfl) ?_
  rw [show k1.2.2.1 49 3 = n from g1.2.2.2.2.1]
  refine Wp.seg 3 (pc1 := 22) (ls1 := [some (.ref 49), some (.int (x)), some (.int (a - n))]) (st1 := [.int (a - n)]) rfl ?_
  refine Wp.if1 rfl (fun c2 => ?_) (fun c2 => absurd (ne) c2)
  refine Wp.seg 2 (pc1 := 34) (ls1 := [some (.ref 49), some (.int (x)), some (.int (a - n))]) (st1 := [.int (a - n), .int (x)]) rfl ?_
  refine Wp.rem rfl (ne) ?_
  exact Wp.reti rfl rfl (hQ k1 f1 g1)
set_option maxHeartbeats 4000000 in
theorem c86_490 {d : Nat} {Q : KO → Prop} {h : KH} (hw : WF h) {L : List Int32} {n a x : Int32} (s : thO h 49 L false n a) (hl : L.length + 5 ≤ 30) (e0 : a - n = 0) (hd : 4 ≤ d) (hQ0 : ∀ k, Fr (pTh 49) noP h k → thO k 49 (L ++ [13, 11, 20, 10, 12]) true n a → Q (some (.int (((((x ^^^ (n + (5 : Int32))) * (5 : Int32)) - a) * (2 : Int32)) + (0 : Int32))), k)) : Cl d 86 [.ref 49, .int x] h Q := by
  have hQ : ∀ k1, Fr (pTh 49) noP h k1 → thO k1 49 (L ++ [13]) false n a → (∀ k2, Fr (pTh 49) noP k1 k2 → thO k2 49 ((L ++ [13]) ++ [11, 20, 10]) false n a → (∀ k3, Fr (pTh 49) noP k2 k3 → thO k3 49 (((L ++ [13]) ++ [11, 20, 10]) ++ [12]) true n a → (Q (some (.int (((((x ^^^ (n + (5 : Int32))) * (5 : Int32)) - a) * (2 : Int32)) + (0 : Int32))), k3)))) := fun k1 f1 g1 k2 f2 g2 k3 f3 g3 => hQ0 k3 (((f1).trans f2).trans f3) (thO_app g3 (by simp only [List.append_assoc, List.cons_append, List.nil_append]))
  refine Cl.of (ls := [some (.ref 49), some (.int (x))]) rfl rfl ?_
  refine Wp.seg 2 (pc1 := 3) (ls1 := [some (.ref 49), some (.int (x))]) (st1 := [.int (13), .ref 49]) rfl ?_
  refine Wp.invV (d2 := 0) (as := [.ref 49, .int (13)]) (r := []) (t := (0, 0)) rfl rfl rfl rfl (WF.t hw 49 rfl) rfl rfl ⟨rfl, rfl⟩ (by omega) (s_bg49 hw s (by first | omega | (simp only [List.length_append, List.length_cons, List.length_nil]; omega)) ?_)
  intro k1 f1 g1
  show Wp d 86 6 [some (.ref 49), some (.int (x))] [.int (1)] k1 Q
  refine Wp.if1 rfl (fun c1 => absurd c1 (show ¬ ((1 : Int32) = 0) by decide)) (fun c1 => ?_)
  refine Wp.seg 2 (pc1 := 11) (ls1 := [some (.ref 49), some (.int (x))]) (st1 := [.int (x), .ref 49]) rfl ?_
  refine Wp.invV (d2 := 3) (as := [.ref 49, .int (x)]) (r := []) (t := (0, 0)) rfl rfl rfl rfl (WF.t (f1.wf hw (fun z => z)) 49 rfl) rfl rfl ⟨rfl, rfl⟩ (by omega) (c84_49 (f1.wf hw (fun z => z)) g1 (by first | omega | (simp only [List.length_append, List.length_cons, List.length_nil]; omega)) (Nat.le_refl _) ?_)
  intro k2 f2 g2
  show Wp d 86 14 [some (.ref 49), some (.int (x))] [.int (((x ^^^ (n + (5 : Int32))) * (5 : Int32)) - a)] k2 Q
  refine Wp.seg 4 (pc1 := 18) (ls1 := [some (.ref 49), some (.int (x))]) (st1 := [.int (x), .ref 49, .int ((((x ^^^ (n + (5 : Int32))) * (5 : Int32)) - a) * (2 : Int32))]) rfl ?_
  refine Wp.invV (d2 := 1) (as := [.ref 49, .int (x)]) (r := [.int ((((x ^^^ (n + (5 : Int32))) * (5 : Int32)) - a) * (2 : Int32))]) (t := (0, 0)) rfl rfl rfl rfl (WF.t (f2.wf (f1.wf hw (fun z => z)) (fun z => z)) 49 rfl) rfl rfl ⟨rfl, rfl⟩ (by omega) (c85_490 (f2.wf (f1.wf hw (fun z => z)) (fun z => z)) g2 (by first | omega | (simp only [List.length_append, List.length_cons, List.length_nil]; omega)) e0 (Nat.le_refl _) ?_)
  intro k3 f3 g3
  show Wp d 86 21 [some (.ref 49), some (.int (x))] [.int (0), .int ((((x ^^^ (n + (5 : Int32))) * (5 : Int32)) - a) * (2 : Int32))] k3 Q
  refine Wp.seg 2 (pc1 := 26) (ls1 := [some (.ref 49), some (.int (x))]) (st1 := [.int (((((x ^^^ (n + (5 : Int32))) * (5 : Int32)) - a) * (2 : Int32)) + (0 : Int32))]) rfl ?_
  exact Wp.reti rfl rfl (((hQ k1 f1 g1) k2 f2 g2) k3 f3 g3)
set_option maxHeartbeats 4000000 in
theorem c86_491 {d : Nat} {Q : KO → Prop} {h : KH} (hw : WF h) {L : List Int32} {n a x : Int32} (s : thO h 49 L false n a) (hl : L.length + 5 ≤ 30) (ne : ¬ a - n = 0) (hd : 4 ≤ d) (hQ0 : ∀ k, Fr (pTh 49) noP h k → thO k 49 (L ++ [13, 11, 20, 10, 12]) false n a → Q (some (.int (((((x ^^^ (n + (5 : Int32))) * (5 : Int32)) - a) * (2 : Int32)) + (x - x / (a - n) * (a - n)))), k)) : Cl d 86 [.ref 49, .int x] h Q := by
  have hQ : ∀ k1, Fr (pTh 49) noP h k1 → thO k1 49 (L ++ [13]) false n a → (∀ k2, Fr (pTh 49) noP k1 k2 → thO k2 49 ((L ++ [13]) ++ [11, 20, 10]) false n a → (∀ k3, Fr (pTh 49) noP k2 k3 → thO k3 49 (((L ++ [13]) ++ [11, 20, 10]) ++ [12]) false n a → (Q (some (.int (((((x ^^^ (n + (5 : Int32))) * (5 : Int32)) - a) * (2 : Int32)) + (x - x / (a - n) * (a - n)))), k3)))) := fun k1 f1 g1 k2 f2 g2 k3 f3 g3 => hQ0 k3 (((f1).trans f2).trans f3) (thO_app g3 (by simp only [List.append_assoc, List.cons_append, List.nil_append]))
  refine Cl.of (ls := [some (.ref 49), some (.int (x))]) rfl rfl ?_
  refine Wp.seg 2 (pc1 := 3) (ls1 := [some (.ref 49), some (.int (x))]) (st1 := [.int (13), .ref 49]) rfl ?_
  refine Wp.invV (d2 := 0) (as := [.ref 49, .int (13)]) (r := []) (t := (0, 0)) rfl rfl rfl rfl (WF.t hw 49 rfl) rfl rfl ⟨rfl, rfl⟩ (by omega) (s_bg49 hw s (by first | omega | (simp only [List.length_append, List.length_cons, List.length_nil]; omega)) ?_)
  intro k1 f1 g1
  show Wp d 86 6 [some (.ref 49), some (.int (x))] [.int (1)] k1 Q
  refine Wp.if1 rfl (fun c1 => absurd c1 (show ¬ ((1 : Int32) = 0) by decide)) (fun c1 => ?_)
  refine Wp.seg 2 (pc1 := 11) (ls1 := [some (.ref 49), some (.int (x))]) (st1 := [.int (x), .ref 49]) rfl ?_
  refine Wp.invV (d2 := 3) (as := [.ref 49, .int (x)]) (r := []) (t := (0, 0)) rfl rfl rfl rfl (WF.t (f1.wf hw (fun z => z)) 49 rfl) rfl rfl ⟨rfl, rfl⟩ (by omega) (c84_49 (f1.wf hw (fun z => z)) g1 (by first | omega | (simp only [List.length_append, List.length_cons, List.length_nil]; omega)) (Nat.le_refl _) ?_)
  intro k2 f2 g2
  show Wp d 86 14 [some (.ref 49), some (.int (x))] [.int (((x ^^^ (n + (5 : Int32))) * (5 : Int32)) - a)] k2 Q
  refine Wp.seg 4 (pc1 := 18) (ls1 := [some (.ref 49), some (.int (x))]) (st1 := [.int (x), .ref 49, .int ((((x ^^^ (n + (5 : Int32))) * (5 : Int32)) - a) * (2 : Int32))]) rfl ?_
  refine Wp.invV (d2 := 1) (as := [.ref 49, .int (x)]) (r := [.int ((((x ^^^ (n + (5 : Int32))) * (5 : Int32)) - a) * (2 : Int32))]) (t := (0, 0)) rfl rfl rfl rfl (WF.t (f2.wf (f1.wf hw (fun z => z)) (fun z => z)) 49 rfl) rfl rfl ⟨rfl, rfl⟩ (by omega) (c85_491 (f2.wf (f1.wf hw (fun z => z)) (fun z => z)) g2 (by first | omega | (simp only [List.length_append, List.length_cons, List.length_nil]; omega)) ne (Nat.le_refl _) ?_)
  intro k3 f3 g3
  show Wp d 86 21 [some (.ref 49), some (.int (x))] [.int (x - x / (a - n) * (a - n)), .int ((((x ^^^ (n + (5 : Int32))) * (5 : Int32)) - a) * (2 : Int32))] k3 Q
  refine Wp.seg 2 (pc1 := 26) (ls1 := [some (.ref 49), some (.int (x))]) (st1 := [.int (((((x ^^^ (n + (5 : Int32))) * (5 : Int32)) - a) * (2 : Int32)) + (x - x / (a - n) * (a - n)))]) rfl ?_
  exact Wp.reti rfl rfl (((hQ k1 f1 g1) k2 f2 g2) k3 f3 g3)
set_option maxHeartbeats 4000000 in
theorem t_bg51 {d : Nat} {Q : KO → Prop} {h : KH} (hw : WF h) {L : List Int32} {n a x : Int32} (s : thO h 51 L false n a) (hl : L.length < 30) (hd : 0 ≤ d) (hQ : Q (some (.int (1)), kwi (kwi h 52 L.length x) 51 1 ((Int32.ofNat L.length) + (1 : Int32)))) : Cl d 82 [.ref 51, .int (x)] h Q := by
  refine Cl.of (ls := [some (.ref 51), some (.int (x))]) rfl rfl ?_
  refine Wp.seg 1 (pc1 := 1) (ls1 := [some (.ref 51), some (.int (x))]) (st1 := [.ref 51]) rfl ?_
  refine Wp.gi (t := (3, 0)) rfl (WF.t hw 51 rfl) (Or.inr rfl) ?_
  rw [show h.2.2.1 51 2 = 0 from s.2.2.2.1]
  refine Wp.if1 rfl (fun c1 => ?_) (fun c1 => absurd (show (0 : Int32) = 0 by decide) c1)
  refine Wp.seg 1 (pc1 := 10) (ls1 := [some (.ref 51), some (.int (x))]) (st1 := [.ref 51]) rfl ?_
  refine Wp.gi (t := (3, 0)) rfl (WF.t hw 51 rfl) (Or.inl rfl) ?_
  rw [show h.2.2.1 51 1 = Int32.ofNat L.length from s.2.1]
  refine Wp.seg 1 (pc1 := 15) (ls1 := [some (.ref 51), some (.int (x))]) (st1 := [.int (30), .int (Int32.ofNat L.length)]) rfl ?_
  refine Wp.if2 rfl (fun c2 => absurd c2 (g30 hl)) (fun c2 => ?_)
  refine Wp.seg 1 (pc1 := 19) (ls1 := [some (.ref 51), some (.int (x))]) (st1 := [.ref 51]) rfl ?_
  refine Wp.gr (t := (3, 0)) (v := some (52)) rfl (WF.t hw 51 rfl) rfl (WF.r hw 51 0 54 rfl) ?_
  show Wp d 82 22 [some (.ref 51), some (.int (x))] [.ref 52] h Q
  refine Wp.seg 1 (pc1 := 23) (ls1 := [some (.ref 51), some (.int (x))]) (st1 := [.ref 51, .ref 52]) rfl ?_
  refine Wp.gi (t := (3, 0)) rfl (WF.t hw 51 rfl) (Or.inl rfl) ?_
  rw [show h.2.2.1 51 1 = Int32.ofNat L.length from s.2.1]
  refine Wp.seg 1 (pc1 := 27) (ls1 := [some (.ref 51), some (.int (x))]) (st1 := [.int (x), .int (Int32.ofNat L.length), .ref 52]) rfl ?_
  refine Wp.iast (j := L.length) (n := 30) rfl (WF.t hw 52 rfl) rfl hl (by decide) ?_
  refine Wp.seg 2 (pc1 := 30) (ls1 := [some (.ref 51), some (.int (x))]) (st1 := [.ref 51, .ref 51]) rfl ?_
  refine Wp.gi (t := (3, 0)) rfl (WF.t hw 51 rfl) (Or.inl rfl) ?_
  rw [show (kwi h 52 L.length x).2.2.1 51 1 = Int32.ofNat L.length from ((kwi_b (by decide)).trans (rfl)).trans s.2.1]
  refine Wp.seg 2 (pc1 := 35) (ls1 := [some (.ref 51), some (.int (x))]) (st1 := [.int ((Int32.ofNat L.length) + (1 : Int32)), .ref 51]) rfl ?_
  refine Wp.pi (t := (3, 0)) rfl (WF.t hw 51 rfl) (Or.inl rfl) ?_
  refine Wp.seg 1 (pc1 := 39) (ls1 := [some (.ref 51), some (.int (x))]) (st1 := [.int (1)]) rfl ?_
  exact Wp.reti rfl rfl hQ
theorem s_bg51 {d : Nat} {Q : KO → Prop} {h : KH} (hw : WF h) {L : List Int32} {n a x : Int32} (s : thO h 51 L false n a) (hl : L.length < 30) (hQ : ∀ k, Fr (pTh 51) noP h k → thO k 51 (L ++ [x]) false n a → Q (some (.int 1), k)) : Cl d 82 [.ref 51, .int x] h Q :=
  t_bg51 hw s hl (Nat.zero_le _) (hQ _ ((fr_kwi (P := pTh 51) (R := noP) (Or.inr rfl) (by decide)).trans (fr_kwi (Or.inl rfl) (by decide))) (thO_push s hl))
set_option maxHeartbeats 4000000 in
theorem c83_51 {d : Nat} {Q : KO → Prop} {h : KH} (hw : WF h) {L : List Int32} {n a x : Int32} (s : thO h 51 L false n a) (hl : L.length + 1 ≤ 30) (hd : 1 ≤ d) (hQ0 : ∀ k, Fr (pTh 51) noP h k → thO k 51 (L ++ [10]) false n a → Q (some (.int (x ^^^ (n + (5 : Int32)))), k)) : Cl d 83 [.ref 51, .int x] h Q := by
  have hQ : ∀ k1, Fr (pTh 51) noP h k1 → thO k1 51 (L ++ [10]) false n a → (Q (some (.int (x ^^^ (n + (5 : Int32)))), k1)) := fun k1 f1 g1 => hQ0 k1 (f1) (thO_app g1 rfl)
  refine Cl.of (ls := [some (.ref 51), some (.int (x))]) rfl rfl ?_
  refine Wp.seg 2 (pc1 := 3) (ls1 := [some (.ref 51), some (.int (x))]) (st1 := [.int (10), .ref 51]) rfl ?_
  refine Wp.invV (d2 := 0) (as := [.ref 51, .int (10)]) (r := []) (t := (3, 0)) rfl rfl rfl rfl (WF.t hw 51 rfl) rfl rfl ⟨rfl, rfl⟩ (by omega) (s_bg51 hw s (by first | omega | (simp only [List.length_append, List.length_cons, List.length_nil]; omega)) ?_)
  intro k1 f1 g1
  show Wp d 83 6 [some (.ref 51), some (.int (x))] [.int (1)] k1 Q
  refine Wp.if1 rfl (fun c1 => absurd c1 (show ¬ ((1 : Int32) = 0) by decide)) (fun c1 => ?_)
  refine Wp.seg 2 (pc1 := 11) (ls1 := [some (.ref 51), some (.int (x))]) (st1 := [.ref 51, .int (x)]) rfl ?_
  refine Wp.gi (t := (3, 0)) rfl (WF.t (f1.wf hw (fun z => z)) 51 rfl) (Or.inl rfl) ?_
  rw [show k1.2.2.1 51 3 = n from g1.2.2.2.2.1]
  refine Wp.seg 4 (pc1 := 21) (ls1 := [some (.ref 51), some (.int (x))]) (st1 := [.int (x ^^^ (n + (5 : Int32)))]) rfl ?_
  exact Wp.reti rfl rfl (hQ k1 f1 g1)
set_option maxHeartbeats 4000000 in
theorem c84_51 {d : Nat} {Q : KO → Prop} {h : KH} (hw : WF h) {L : List Int32} {n a x : Int32} (s : thO h 51 L false n a) (hl : L.length + 2 ≤ 30) (hd : 2 ≤ d) (hQ0 : ∀ k, Fr (pTh 51) noP h k → thO k 51 (L ++ [11, 10]) false n a → Q (some (.int ((x ^^^ (n + (5 : Int32))) - a)), k)) : Cl d 84 [.ref 51, .int x] h Q := by
  have hQ : ∀ k1, Fr (pTh 51) noP h k1 → thO k1 51 (L ++ [11]) false n a → (∀ k2, Fr (pTh 51) noP k1 k2 → thO k2 51 ((L ++ [11]) ++ [10]) false n a → (Q (some (.int ((x ^^^ (n + (5 : Int32))) - a)), k2))) := fun k1 f1 g1 k2 f2 g2 => hQ0 k2 ((f1).trans f2) (thO_app g2 (by simp only [List.append_assoc, List.cons_append, List.nil_append]))
  refine Cl.of (ls := [some (.ref 51), some (.int (x))]) rfl rfl ?_
  refine Wp.seg 2 (pc1 := 3) (ls1 := [some (.ref 51), some (.int (x))]) (st1 := [.int (11), .ref 51]) rfl ?_
  refine Wp.invV (d2 := 0) (as := [.ref 51, .int (11)]) (r := []) (t := (3, 0)) rfl rfl rfl rfl (WF.t hw 51 rfl) rfl rfl ⟨rfl, rfl⟩ (by omega) (s_bg51 hw s (by first | omega | (simp only [List.length_append, List.length_cons, List.length_nil]; omega)) ?_)
  intro k1 f1 g1
  show Wp d 84 6 [some (.ref 51), some (.int (x))] [.int (1)] k1 Q
  refine Wp.if1 rfl (fun c1 => absurd c1 (show ¬ ((1 : Int32) = 0) by decide)) (fun c1 => ?_)
  refine Wp.seg 2 (pc1 := 11) (ls1 := [some (.ref 51), some (.int (x))]) (st1 := [.int (x), .ref 51]) rfl ?_
  refine Wp.invV (d2 := 1) (as := [.ref 51, .int (x)]) (r := []) (t := (3, 0)) rfl rfl rfl rfl (WF.t (f1.wf hw (fun z => z)) 51 rfl) rfl rfl ⟨rfl, rfl⟩ (by omega) (c83_51 (f1.wf hw (fun z => z)) g1 (by first | omega | (simp only [List.length_append, List.length_cons, List.length_nil]; omega)) (Nat.le_refl _) ?_)
  intro k2 f2 g2
  show Wp d 84 14 [some (.ref 51), some (.int (x))] [.int (x ^^^ (n + (5 : Int32)))] k2 Q
  refine Wp.seg 1 (pc1 := 15) (ls1 := [some (.ref 51), some (.int (x))]) (st1 := [.ref 51, .int (x ^^^ (n + (5 : Int32)))]) rfl ?_
  refine Wp.gi (t := (3, 0)) rfl (WF.t (f2.wf (f1.wf hw (fun z => z)) (fun z => z)) 51 rfl) (Or.inl rfl) ?_
  rw [show k2.2.2.1 51 4 = a from g2.2.2.2.2.2]
  refine Wp.seg 2 (pc1 := 23) (ls1 := [some (.ref 51), some (.int (x))]) (st1 := [.int ((x ^^^ (n + (5 : Int32))) - a)]) rfl ?_
  exact Wp.reti rfl rfl ((hQ k1 f1 g1) k2 f2 g2)
set_option maxHeartbeats 4000000 in
theorem c40_51 {d : Nat} {Q : KO → Prop} {h : KH} (hw : WF h) {L : List Int32} {n a x : Int32} (s : thO h 51 L false n a) (hl : L.length + 3 ≤ 30) (hd : 3 ≤ d) (hQ0 : ∀ k, Fr (pTh 51) noP h k → thO k 51 (L ++ [30, 11, 10]) false n a → Q (some (.int (((x ^^^ (n + (5 : Int32))) - a) ^^^ x)), k)) : Cl d 40 [.ref 51, .int x] h Q := by
  have hQ : ∀ k1, Fr (pTh 51) noP h k1 → thO k1 51 (L ++ [30]) false n a → (∀ k2, Fr (pTh 51) noP k1 k2 → thO k2 51 ((L ++ [30]) ++ [11, 10]) false n a → (Q (some (.int (((x ^^^ (n + (5 : Int32))) - a) ^^^ x)), k2))) := fun k1 f1 g1 k2 f2 g2 => hQ0 k2 ((f1).trans f2) (thO_app g2 (by simp only [List.append_assoc, List.cons_append, List.nil_append]))
  refine Cl.of (ls := [some (.ref 51), some (.int (x))]) rfl rfl ?_
  refine Wp.seg 2 (pc1 := 3) (ls1 := [some (.ref 51), some (.int (x))]) (st1 := [.int (30), .ref 51]) rfl ?_
  refine Wp.invV (d2 := 0) (as := [.ref 51, .int (30)]) (r := []) (t := (3, 0)) rfl rfl rfl rfl (WF.t hw 51 rfl) rfl rfl ⟨rfl, rfl⟩ (by omega) (s_bg51 hw s (by first | omega | (simp only [List.length_append, List.length_cons, List.length_nil]; omega)) ?_)
  intro k1 f1 g1
  show Wp d 40 6 [some (.ref 51), some (.int (x))] [.int (1)] k1 Q
  refine Wp.if1 rfl (fun c1 => absurd c1 (show ¬ ((1 : Int32) = 0) by decide)) (fun c1 => ?_)
  refine Wp.seg 2 (pc1 := 11) (ls1 := [some (.ref 51), some (.int (x))]) (st1 := [.int (x), .ref 51]) rfl ?_
  refine Wp.invV (d2 := 2) (as := [.ref 51, .int (x)]) (r := []) (t := (3, 0)) rfl rfl rfl rfl (WF.t (f1.wf hw (fun z => z)) 51 rfl) rfl rfl ⟨rfl, rfl⟩ (by omega) (c84_51 (f1.wf hw (fun z => z)) g1 (by first | omega | (simp only [List.length_append, List.length_cons, List.length_nil]; omega)) (Nat.le_refl _) ?_)
  intro k2 f2 g2
  show Wp d 40 14 [some (.ref 51), some (.int (x))] [.int ((x ^^^ (n + (5 : Int32))) - a)] k2 Q
  refine Wp.seg 3 (pc1 := 20) (ls1 := [some (.ref 51), some (.int (x))]) (st1 := [.int (((x ^^^ (n + (5 : Int32))) - a) ^^^ x)]) rfl ?_
  exact Wp.reti rfl rfl ((hQ k1 f1 g1) k2 f2 g2)
set_option maxHeartbeats 4000000 in
theorem c85_510 {d : Nat} {Q : KO → Prop} {h : KH} (hw : WF h) {L : List Int32} {n a x : Int32} (s : thO h 51 L false n a) (hl : L.length + 1 ≤ 30) (e0 : a - n = 0) (hd : 1 ≤ d) (hQ0 : ∀ k, Fr (pTh 51) noP h k → thO k 51 (L ++ [12]) true n a → Q (some (.int (0)), k)) : Cl d 85 [.ref 51, .int x] h Q := by
  have hQ : ∀ k1, Fr (pTh 51) noP h k1 → thO k1 51 (L ++ [12]) false n a → (Q (some (.int (0)), kwi k1 51 2 (1 : Int32))) := fun k1 f1 g1 => hQ0 _ ((f1).trans (fr_kwi (Or.inl rfl) (by decide))) (thO_app (thO_part g1) rfl)
  refine Cl.of (ls := [some (.ref 51), some (.int (x)), none]) rfl rfl ?_
  refine Wp.seg 2 (pc1 := 3) (ls1 := [some (.ref 51), some (.int (x)), none]) (st1 := [.int (12), .ref 51]) rfl ?_
  refine Wp.invV (d2 := 0) (as := [.ref 51, .int (12)]) (r := []) (t := (3, 0)) rfl rfl rfl rfl (WF.t hw 51 rfl) rfl rfl ⟨rfl, rfl⟩ (by omega) (s_bg51 hw s (by first | omega | (simp only [List.length_append, List.length_cons, List.length_nil]; omega)) ?_)
  intro k1 f1 g1
  show Wp d 85 6 [some (.ref 51), some (.int (x)), none] [.int (1)] k1 Q
  refine Wp.if1 rfl (fun c1 => ?_) (fun c1 => absurd (show ¬ (1 : Int32) = 0 by decide) c1)
  refine Wp.seg 1 (pc1 := 12) (ls1 := [some (.ref 51), some (.int (x)), none]) (st1 := [.ref 51]) rfl ?_
  refine Wp.gi (t := (3, 0)) rfl (WF.t (f1.wf hw (fun z => z)) 51 rfl) (Or.inl rfl) ?_
  rw [show k1.2.2.1 51 4 = a from g1.2.2.2.2.2]
  refine Wp.seg 1 (pc1 := 16) (ls1 := [some (.ref 51), some (.int (x)), none]) (st1 := [.ref 51, .int (a)]) rfl ?_
  refine Wp.gi (t := (3, 0)) rfl (WF.t (f1.wf hw (fun z => z)) 51 rfl) (Or.inl rfl) ?_
  rw [show k1.2.2.1 51 3 = n from g1.2.2.2.2.1]
  refine Wp.seg 3 (pc1 := 22) (ls1 := [some (.ref 51), some (.int (x)), some (.int (a - n))]) (st1 := [.int (a - n)]) rfl ?_
  refine Wp.if1 rfl (fun c2 => absurd c2 (fun z => z e0)) (fun c2 => ?_)
  refine Wp.seg 2 (pc1 := 27) (ls1 := [some (.ref 51), some (.int (x)), some (.int (a - n))]) (st1 := [.int (1), .ref 51]) rfl ?_
  refine Wp.pi (t := (3, 0)) rfl (WF.t (f1.wf hw (fun z => z)) 51 rfl) (Or.inr ⟨rfl, Or.inr rfl⟩) ?_
  refine Wp.seg 1 (pc1 := 31) (ls1 := [some (.ref 51), some (.int (x)), some (.int (a - n))]) (st1 := [.int (0)]) rfl ?_
  exact Wp.reti rfl rfl (hQ k1 f1 g1)
set_option maxHeartbeats 4000000 in
theorem c85_511 {d : Nat} {Q : KO → Prop} {h : KH} (hw : WF h) {L : List Int32} {n a x : Int32} (s : thO h 51 L false n a) (hl : L.length + 1 ≤ 30) (ne : ¬ a - n = 0) (hd : 1 ≤ d) (hQ0 : ∀ k, Fr (pTh 51) noP h k → thO k 51 (L ++ [12]) false n a → Q (some (.int (x - x / (a - n) * (a - n))), k)) : Cl d 85 [.ref 51, .int x] h Q := by
  have hQ : ∀ k1, Fr (pTh 51) noP h k1 → thO k1 51 (L ++ [12]) false n a → (Q (some (.int (x - x / (a - n) * (a - n))), k1)) := fun k1 f1 g1 => hQ0 k1 (f1) (thO_app g1 rfl)
  refine Cl.of (ls := [some (.ref 51), some (.int (x)), none]) rfl rfl ?_
  refine Wp.seg 2 (pc1 := 3) (ls1 := [some (.ref 51), some (.int (x)), none]) (st1 := [.int (12), .ref 51]) rfl ?_
  refine Wp.invV (d2 := 0) (as := [.ref 51, .int (12)]) (r := []) (t := (3, 0)) rfl rfl rfl rfl (WF.t hw 51 rfl) rfl rfl ⟨rfl, rfl⟩ (by omega) (s_bg51 hw s (by first | omega | (simp only [List.length_append, List.length_cons, List.length_nil]; omega)) ?_)
  intro k1 f1 g1
  show Wp d 85 6 [some (.ref 51), some (.int (x)), none] [.int (1)] k1 Q
  refine Wp.if1 rfl (fun c1 => ?_) (fun c1 => absurd (show ¬ (1 : Int32) = 0 by decide) c1)
  refine Wp.seg 1 (pc1 := 12) (ls1 := [some (.ref 51), some (.int (x)), none]) (st1 := [.ref 51]) rfl ?_
  refine Wp.gi (t := (3, 0)) rfl (WF.t (f1.wf hw (fun z => z)) 51 rfl) (Or.inl rfl) ?_
  rw [show k1.2.2.1 51 4 = a from g1.2.2.2.2.2]
  refine Wp.seg 1 (pc1 := 16) (ls1 := [some (.ref 51), some (.int (x)), none]) (st1 := [.ref 51, .int (a)]) rfl ?_
  refine Wp.gi (t := (3, 0)) rfl (WF.t (f1.wf hw (fun z => z)) 51 rfl) (Or.inl rfl) ?_
  rw [show k1.2.2.1 51 3 = n from g1.2.2.2.2.1]
  refine Wp.seg 3 (pc1 := 22) (ls1 := [some (.ref 51), some (.int (x)), some (.int (a - n))]) (st1 := [.int (a - n)]) rfl ?_
  refine Wp.if1 rfl (fun c2 => ?_) (fun c2 => absurd (ne) c2)
  refine Wp.seg 2 (pc1 := 34) (ls1 := [some (.ref 51), some (.int (x)), some (.int (a - n))]) (st1 := [.int (a - n), .int (x)]) rfl ?_
  refine Wp.rem rfl (ne) ?_
  exact Wp.reti rfl rfl (hQ k1 f1 g1)
set_option maxHeartbeats 4000000 in
theorem c86_510 {d : Nat} {Q : KO → Prop} {h : KH} (hw : WF h) {L : List Int32} {n a x : Int32} (s : thO h 51 L false n a) (hl : L.length + 5 ≤ 30) (e0 : a - n = 0) (hd : 4 ≤ d) (hQ0 : ∀ k, Fr (pTh 51) noP h k → thO k 51 (L ++ [13, 30, 11, 10, 12]) true n a → Q (some (.int (((((x ^^^ (n + (5 : Int32))) - a) ^^^ x) * (2 : Int32)) + (0 : Int32))), k)) : Cl d 86 [.ref 51, .int x] h Q := by
  have hQ : ∀ k1, Fr (pTh 51) noP h k1 → thO k1 51 (L ++ [13]) false n a → (∀ k2, Fr (pTh 51) noP k1 k2 → thO k2 51 ((L ++ [13]) ++ [30, 11, 10]) false n a → (∀ k3, Fr (pTh 51) noP k2 k3 → thO k3 51 (((L ++ [13]) ++ [30, 11, 10]) ++ [12]) true n a → (Q (some (.int (((((x ^^^ (n + (5 : Int32))) - a) ^^^ x) * (2 : Int32)) + (0 : Int32))), k3)))) := fun k1 f1 g1 k2 f2 g2 k3 f3 g3 => hQ0 k3 (((f1).trans f2).trans f3) (thO_app g3 (by simp only [List.append_assoc, List.cons_append, List.nil_append]))
  refine Cl.of (ls := [some (.ref 51), some (.int (x))]) rfl rfl ?_
  refine Wp.seg 2 (pc1 := 3) (ls1 := [some (.ref 51), some (.int (x))]) (st1 := [.int (13), .ref 51]) rfl ?_
  refine Wp.invV (d2 := 0) (as := [.ref 51, .int (13)]) (r := []) (t := (3, 0)) rfl rfl rfl rfl (WF.t hw 51 rfl) rfl rfl ⟨rfl, rfl⟩ (by omega) (s_bg51 hw s (by first | omega | (simp only [List.length_append, List.length_cons, List.length_nil]; omega)) ?_)
  intro k1 f1 g1
  show Wp d 86 6 [some (.ref 51), some (.int (x))] [.int (1)] k1 Q
  refine Wp.if1 rfl (fun c1 => absurd c1 (show ¬ ((1 : Int32) = 0) by decide)) (fun c1 => ?_)
  refine Wp.seg 2 (pc1 := 11) (ls1 := [some (.ref 51), some (.int (x))]) (st1 := [.int (x), .ref 51]) rfl ?_
  refine Wp.invV (d2 := 3) (as := [.ref 51, .int (x)]) (r := []) (t := (3, 0)) rfl rfl rfl rfl (WF.t (f1.wf hw (fun z => z)) 51 rfl) rfl rfl ⟨rfl, rfl⟩ (by omega) (c40_51 (f1.wf hw (fun z => z)) g1 (by first | omega | (simp only [List.length_append, List.length_cons, List.length_nil]; omega)) (Nat.le_refl _) ?_)
  intro k2 f2 g2
  show Wp d 86 14 [some (.ref 51), some (.int (x))] [.int (((x ^^^ (n + (5 : Int32))) - a) ^^^ x)] k2 Q
  refine Wp.seg 4 (pc1 := 18) (ls1 := [some (.ref 51), some (.int (x))]) (st1 := [.int (x), .ref 51, .int ((((x ^^^ (n + (5 : Int32))) - a) ^^^ x) * (2 : Int32))]) rfl ?_
  refine Wp.invV (d2 := 1) (as := [.ref 51, .int (x)]) (r := [.int ((((x ^^^ (n + (5 : Int32))) - a) ^^^ x) * (2 : Int32))]) (t := (3, 0)) rfl rfl rfl rfl (WF.t (f2.wf (f1.wf hw (fun z => z)) (fun z => z)) 51 rfl) rfl rfl ⟨rfl, rfl⟩ (by omega) (c85_510 (f2.wf (f1.wf hw (fun z => z)) (fun z => z)) g2 (by first | omega | (simp only [List.length_append, List.length_cons, List.length_nil]; omega)) e0 (Nat.le_refl _) ?_)
  intro k3 f3 g3
  show Wp d 86 21 [some (.ref 51), some (.int (x))] [.int (0), .int ((((x ^^^ (n + (5 : Int32))) - a) ^^^ x) * (2 : Int32))] k3 Q
  refine Wp.seg 2 (pc1 := 26) (ls1 := [some (.ref 51), some (.int (x))]) (st1 := [.int (((((x ^^^ (n + (5 : Int32))) - a) ^^^ x) * (2 : Int32)) + (0 : Int32))]) rfl ?_
  exact Wp.reti rfl rfl (((hQ k1 f1 g1) k2 f2 g2) k3 f3 g3)
set_option maxHeartbeats 4000000 in
theorem c86_511 {d : Nat} {Q : KO → Prop} {h : KH} (hw : WF h) {L : List Int32} {n a x : Int32} (s : thO h 51 L false n a) (hl : L.length + 5 ≤ 30) (ne : ¬ a - n = 0) (hd : 4 ≤ d) (hQ0 : ∀ k, Fr (pTh 51) noP h k → thO k 51 (L ++ [13, 30, 11, 10, 12]) false n a → Q (some (.int (((((x ^^^ (n + (5 : Int32))) - a) ^^^ x) * (2 : Int32)) + (x - x / (a - n) * (a - n)))), k)) : Cl d 86 [.ref 51, .int x] h Q := by
  have hQ : ∀ k1, Fr (pTh 51) noP h k1 → thO k1 51 (L ++ [13]) false n a → (∀ k2, Fr (pTh 51) noP k1 k2 → thO k2 51 ((L ++ [13]) ++ [30, 11, 10]) false n a → (∀ k3, Fr (pTh 51) noP k2 k3 → thO k3 51 (((L ++ [13]) ++ [30, 11, 10]) ++ [12]) false n a → (Q (some (.int (((((x ^^^ (n + (5 : Int32))) - a) ^^^ x) * (2 : Int32)) + (x - x / (a - n) * (a - n)))), k3)))) := fun k1 f1 g1 k2 f2 g2 k3 f3 g3 => hQ0 k3 (((f1).trans f2).trans f3) (thO_app g3 (by simp only [List.append_assoc, List.cons_append, List.nil_append]))
  refine Cl.of (ls := [some (.ref 51), some (.int (x))]) rfl rfl ?_
  refine Wp.seg 2 (pc1 := 3) (ls1 := [some (.ref 51), some (.int (x))]) (st1 := [.int (13), .ref 51]) rfl ?_
  refine Wp.invV (d2 := 0) (as := [.ref 51, .int (13)]) (r := []) (t := (3, 0)) rfl rfl rfl rfl (WF.t hw 51 rfl) rfl rfl ⟨rfl, rfl⟩ (by omega) (s_bg51 hw s (by first | omega | (simp only [List.length_append, List.length_cons, List.length_nil]; omega)) ?_)
  intro k1 f1 g1
  show Wp d 86 6 [some (.ref 51), some (.int (x))] [.int (1)] k1 Q
  refine Wp.if1 rfl (fun c1 => absurd c1 (show ¬ ((1 : Int32) = 0) by decide)) (fun c1 => ?_)
  refine Wp.seg 2 (pc1 := 11) (ls1 := [some (.ref 51), some (.int (x))]) (st1 := [.int (x), .ref 51]) rfl ?_
  refine Wp.invV (d2 := 3) (as := [.ref 51, .int (x)]) (r := []) (t := (3, 0)) rfl rfl rfl rfl (WF.t (f1.wf hw (fun z => z)) 51 rfl) rfl rfl ⟨rfl, rfl⟩ (by omega) (c40_51 (f1.wf hw (fun z => z)) g1 (by first | omega | (simp only [List.length_append, List.length_cons, List.length_nil]; omega)) (Nat.le_refl _) ?_)
  intro k2 f2 g2
  show Wp d 86 14 [some (.ref 51), some (.int (x))] [.int (((x ^^^ (n + (5 : Int32))) - a) ^^^ x)] k2 Q
  refine Wp.seg 4 (pc1 := 18) (ls1 := [some (.ref 51), some (.int (x))]) (st1 := [.int (x), .ref 51, .int ((((x ^^^ (n + (5 : Int32))) - a) ^^^ x) * (2 : Int32))]) rfl ?_
  refine Wp.invV (d2 := 1) (as := [.ref 51, .int (x)]) (r := [.int ((((x ^^^ (n + (5 : Int32))) - a) ^^^ x) * (2 : Int32))]) (t := (3, 0)) rfl rfl rfl rfl (WF.t (f2.wf (f1.wf hw (fun z => z)) (fun z => z)) 51 rfl) rfl rfl ⟨rfl, rfl⟩ (by omega) (c85_511 (f2.wf (f1.wf hw (fun z => z)) (fun z => z)) g2 (by first | omega | (simp only [List.length_append, List.length_cons, List.length_nil]; omega)) ne (Nat.le_refl _) ?_)
  intro k3 f3 g3
  show Wp d 86 21 [some (.ref 51), some (.int (x))] [.int (x - x / (a - n) * (a - n)), .int ((((x ^^^ (n + (5 : Int32))) - a) ^^^ x) * (2 : Int32))] k3 Q
  refine Wp.seg 2 (pc1 := 26) (ls1 := [some (.ref 51), some (.int (x))]) (st1 := [.int (((((x ^^^ (n + (5 : Int32))) - a) ^^^ x) * (2 : Int32)) + (x - x / (a - n) * (a - n)))]) rfl ?_
  exact Wp.reti rfl rfl (((hQ k1 f1 g1) k2 f2 g2) k3 f3 g3)
set_option maxHeartbeats 4000000 in
theorem t_bg53 {d : Nat} {Q : KO → Prop} {h : KH} (hw : WF h) {L : List Int32} {n a x : Int32} (s : thO h 53 L false n a) (hl : L.length < 30) (hd : 0 ≤ d) (hQ : Q (some (.int (1)), kwi (kwi h 54 L.length x) 53 1 ((Int32.ofNat L.length) + (1 : Int32)))) : Cl d 82 [.ref 53, .int (x)] h Q := by
  refine Cl.of (ls := [some (.ref 53), some (.int (x))]) rfl rfl ?_
  refine Wp.seg 1 (pc1 := 1) (ls1 := [some (.ref 53), some (.int (x))]) (st1 := [.ref 53]) rfl ?_
  refine Wp.gi (t := (4, 0)) rfl (WF.t hw 53 rfl) (Or.inr rfl) ?_
  rw [show h.2.2.1 53 2 = 0 from s.2.2.2.1]
  refine Wp.if1 rfl (fun c1 => ?_) (fun c1 => absurd (show (0 : Int32) = 0 by decide) c1)
  refine Wp.seg 1 (pc1 := 10) (ls1 := [some (.ref 53), some (.int (x))]) (st1 := [.ref 53]) rfl ?_
  refine Wp.gi (t := (4, 0)) rfl (WF.t hw 53 rfl) (Or.inl rfl) ?_
  rw [show h.2.2.1 53 1 = Int32.ofNat L.length from s.2.1]
  refine Wp.seg 1 (pc1 := 15) (ls1 := [some (.ref 53), some (.int (x))]) (st1 := [.int (30), .int (Int32.ofNat L.length)]) rfl ?_
  refine Wp.if2 rfl (fun c2 => absurd c2 (g30 hl)) (fun c2 => ?_)
  refine Wp.seg 1 (pc1 := 19) (ls1 := [some (.ref 53), some (.int (x))]) (st1 := [.ref 53]) rfl ?_
  refine Wp.gr (t := (4, 0)) (v := some (54)) rfl (WF.t hw 53 rfl) rfl (WF.r hw 53 0 55 rfl) ?_
  show Wp d 82 22 [some (.ref 53), some (.int (x))] [.ref 54] h Q
  refine Wp.seg 1 (pc1 := 23) (ls1 := [some (.ref 53), some (.int (x))]) (st1 := [.ref 53, .ref 54]) rfl ?_
  refine Wp.gi (t := (4, 0)) rfl (WF.t hw 53 rfl) (Or.inl rfl) ?_
  rw [show h.2.2.1 53 1 = Int32.ofNat L.length from s.2.1]
  refine Wp.seg 1 (pc1 := 27) (ls1 := [some (.ref 53), some (.int (x))]) (st1 := [.int (x), .int (Int32.ofNat L.length), .ref 54]) rfl ?_
  refine Wp.iast (j := L.length) (n := 30) rfl (WF.t hw 54 rfl) rfl hl (by decide) ?_
  refine Wp.seg 2 (pc1 := 30) (ls1 := [some (.ref 53), some (.int (x))]) (st1 := [.ref 53, .ref 53]) rfl ?_
  refine Wp.gi (t := (4, 0)) rfl (WF.t hw 53 rfl) (Or.inl rfl) ?_
  rw [show (kwi h 54 L.length x).2.2.1 53 1 = Int32.ofNat L.length from ((kwi_b (by decide)).trans (rfl)).trans s.2.1]
  refine Wp.seg 2 (pc1 := 35) (ls1 := [some (.ref 53), some (.int (x))]) (st1 := [.int ((Int32.ofNat L.length) + (1 : Int32)), .ref 53]) rfl ?_
  refine Wp.pi (t := (4, 0)) rfl (WF.t hw 53 rfl) (Or.inl rfl) ?_
  refine Wp.seg 1 (pc1 := 39) (ls1 := [some (.ref 53), some (.int (x))]) (st1 := [.int (1)]) rfl ?_
  exact Wp.reti rfl rfl hQ
theorem s_bg53 {d : Nat} {Q : KO → Prop} {h : KH} (hw : WF h) {L : List Int32} {n a x : Int32} (s : thO h 53 L false n a) (hl : L.length < 30) (hQ : ∀ k, Fr (pTh 53) noP h k → thO k 53 (L ++ [x]) false n a → Q (some (.int 1), k)) : Cl d 82 [.ref 53, .int x] h Q :=
  t_bg53 hw s hl (Nat.zero_le _) (hQ _ ((fr_kwi (P := pTh 53) (R := noP) (Or.inr rfl) (by decide)).trans (fr_kwi (Or.inl rfl) (by decide))) (thO_push s hl))
set_option maxHeartbeats 4000000 in
theorem c83_53 {d : Nat} {Q : KO → Prop} {h : KH} (hw : WF h) {L : List Int32} {n a x : Int32} (s : thO h 53 L false n a) (hl : L.length + 1 ≤ 30) (hd : 1 ≤ d) (hQ0 : ∀ k, Fr (pTh 53) noP h k → thO k 53 (L ++ [10]) false n a → Q (some (.int (x ^^^ (n + (5 : Int32)))), k)) : Cl d 83 [.ref 53, .int x] h Q := by
  have hQ : ∀ k1, Fr (pTh 53) noP h k1 → thO k1 53 (L ++ [10]) false n a → (Q (some (.int (x ^^^ (n + (5 : Int32)))), k1)) := fun k1 f1 g1 => hQ0 k1 (f1) (thO_app g1 rfl)
  refine Cl.of (ls := [some (.ref 53), some (.int (x))]) rfl rfl ?_
  refine Wp.seg 2 (pc1 := 3) (ls1 := [some (.ref 53), some (.int (x))]) (st1 := [.int (10), .ref 53]) rfl ?_
  refine Wp.invV (d2 := 0) (as := [.ref 53, .int (10)]) (r := []) (t := (4, 0)) rfl rfl rfl rfl (WF.t hw 53 rfl) rfl rfl ⟨rfl, rfl⟩ (by omega) (s_bg53 hw s (by first | omega | (simp only [List.length_append, List.length_cons, List.length_nil]; omega)) ?_)
  intro k1 f1 g1
  show Wp d 83 6 [some (.ref 53), some (.int (x))] [.int (1)] k1 Q
  refine Wp.if1 rfl (fun c1 => absurd c1 (show ¬ ((1 : Int32) = 0) by decide)) (fun c1 => ?_)
  refine Wp.seg 2 (pc1 := 11) (ls1 := [some (.ref 53), some (.int (x))]) (st1 := [.ref 53, .int (x)]) rfl ?_
  refine Wp.gi (t := (4, 0)) rfl (WF.t (f1.wf hw (fun z => z)) 53 rfl) (Or.inl rfl) ?_
  rw [show k1.2.2.1 53 3 = n from g1.2.2.2.2.1]
  refine Wp.seg 4 (pc1 := 21) (ls1 := [some (.ref 53), some (.int (x))]) (st1 := [.int (x ^^^ (n + (5 : Int32)))]) rfl ?_
  exact Wp.reti rfl rfl (hQ k1 f1 g1)
set_option maxHeartbeats 4000000 in
theorem c42_53 {d : Nat} {Q : KO → Prop} {h : KH} (hw : WF h) {L : List Int32} {n a x : Int32} (s : thO h 53 L false n a) (hl : L.length + 2 ≤ 30) (hd : 2 ≤ d) (hQ0 : ∀ k, Fr (pTh 53) noP h k → thO k 53 (L ++ [50, 10]) false n a → Q (some (.int ((x + n) ^^^ (n + (5 : Int32)))), k)) : Cl d 42 [.ref 53, .int x] h Q := by
  have hQ : ∀ k1, Fr (pTh 53) noP h k1 → thO k1 53 (L ++ [50]) false n a → (∀ k2, Fr (pTh 53) noP k1 k2 → thO k2 53 ((L ++ [50]) ++ [10]) false n a → (Q (some (.int ((x + n) ^^^ (n + (5 : Int32)))), k2))) := fun k1 f1 g1 k2 f2 g2 => hQ0 k2 ((f1).trans f2) (thO_app g2 (by simp only [List.append_assoc, List.cons_append, List.nil_append]))
  refine Cl.of (ls := [some (.ref 53), some (.int (x))]) rfl rfl ?_
  refine Wp.seg 2 (pc1 := 3) (ls1 := [some (.ref 53), some (.int (x))]) (st1 := [.int (50), .ref 53]) rfl ?_
  refine Wp.invV (d2 := 0) (as := [.ref 53, .int (50)]) (r := []) (t := (4, 0)) rfl rfl rfl rfl (WF.t hw 53 rfl) rfl rfl ⟨rfl, rfl⟩ (by omega) (s_bg53 hw s (by first | omega | (simp only [List.length_append, List.length_cons, List.length_nil]; omega)) ?_)
  intro k1 f1 g1
  show Wp d 42 6 [some (.ref 53), some (.int (x))] [.int (1)] k1 Q
  refine Wp.if1 rfl (fun c1 => absurd c1 (show ¬ ((1 : Int32) = 0) by decide)) (fun c1 => ?_)
  refine Wp.seg 3 (pc1 := 12) (ls1 := [some (.ref 53), some (.int (x))]) (st1 := [.ref 53, .int (x), .ref 53]) rfl ?_
  refine Wp.gi (t := (4, 0)) rfl (WF.t (f1.wf hw (fun z => z)) 53 rfl) (Or.inl rfl) ?_
  rw [show k1.2.2.1 53 3 = n from g1.2.2.2.2.1]
  refine Wp.seg 1 (pc1 := 16) (ls1 := [some (.ref 53), some (.int (x))]) (st1 := [.int (x + n), .ref 53]) rfl ?_
  refine Wp.invV (d2 := 1) (as := [.ref 53, .int (x + n)]) (r := []) (t := (4, 0)) rfl rfl rfl rfl (WF.t (f1.wf hw (fun z => z)) 53 rfl) rfl rfl ⟨rfl, rfl⟩ (by omega) (c83_53 (f1.wf hw (fun z => z)) g1 (by first | omega | (simp only [List.length_append, List.length_cons, List.length_nil]; omega)) (Nat.le_refl _) ?_)
  intro k2 f2 g2
  show Wp d 42 19 [some (.ref 53), some (.int (x))] [.int ((x + n) ^^^ (n + (5 : Int32)))] k2 Q
  refine Wp.seg 1 (pc1 := 23) (ls1 := [some (.ref 53), some (.int (x))]) (st1 := [.int ((x + n) ^^^ (n + (5 : Int32)))]) rfl ?_
  exact Wp.reti rfl rfl ((hQ k1 f1 g1) k2 f2 g2)
set_option maxHeartbeats 4000000 in
theorem c84_53 {d : Nat} {Q : KO → Prop} {h : KH} (hw : WF h) {L : List Int32} {n a x : Int32} (s : thO h 53 L false n a) (hl : L.length + 3 ≤ 30) (hd : 3 ≤ d) (hQ0 : ∀ k, Fr (pTh 53) noP h k → thO k 53 (L ++ [11, 50, 10]) false n a → Q (some (.int (((x + n) ^^^ (n + (5 : Int32))) - a)), k)) : Cl d 84 [.ref 53, .int x] h Q := by
  have hQ : ∀ k1, Fr (pTh 53) noP h k1 → thO k1 53 (L ++ [11]) false n a → (∀ k2, Fr (pTh 53) noP k1 k2 → thO k2 53 ((L ++ [11]) ++ [50, 10]) false n a → (Q (some (.int (((x + n) ^^^ (n + (5 : Int32))) - a)), k2))) := fun k1 f1 g1 k2 f2 g2 => hQ0 k2 ((f1).trans f2) (thO_app g2 (by simp only [List.append_assoc, List.cons_append, List.nil_append]))
  refine Cl.of (ls := [some (.ref 53), some (.int (x))]) rfl rfl ?_
  refine Wp.seg 2 (pc1 := 3) (ls1 := [some (.ref 53), some (.int (x))]) (st1 := [.int (11), .ref 53]) rfl ?_
  refine Wp.invV (d2 := 0) (as := [.ref 53, .int (11)]) (r := []) (t := (4, 0)) rfl rfl rfl rfl (WF.t hw 53 rfl) rfl rfl ⟨rfl, rfl⟩ (by omega) (s_bg53 hw s (by first | omega | (simp only [List.length_append, List.length_cons, List.length_nil]; omega)) ?_)
  intro k1 f1 g1
  show Wp d 84 6 [some (.ref 53), some (.int (x))] [.int (1)] k1 Q
  refine Wp.if1 rfl (fun c1 => absurd c1 (show ¬ ((1 : Int32) = 0) by decide)) (fun c1 => ?_)
  refine Wp.seg 2 (pc1 := 11) (ls1 := [some (.ref 53), some (.int (x))]) (st1 := [.int (x), .ref 53]) rfl ?_
  refine Wp.invV (d2 := 2) (as := [.ref 53, .int (x)]) (r := []) (t := (4, 0)) rfl rfl rfl rfl (WF.t (f1.wf hw (fun z => z)) 53 rfl) rfl rfl ⟨rfl, rfl⟩ (by omega) (c42_53 (f1.wf hw (fun z => z)) g1 (by first | omega | (simp only [List.length_append, List.length_cons, List.length_nil]; omega)) (Nat.le_refl _) ?_)
  intro k2 f2 g2
  show Wp d 84 14 [some (.ref 53), some (.int (x))] [.int ((x + n) ^^^ (n + (5 : Int32)))] k2 Q
  refine Wp.seg 1 (pc1 := 15) (ls1 := [some (.ref 53), some (.int (x))]) (st1 := [.ref 53, .int ((x + n) ^^^ (n + (5 : Int32)))]) rfl ?_
  refine Wp.gi (t := (4, 0)) rfl (WF.t (f2.wf (f1.wf hw (fun z => z)) (fun z => z)) 53 rfl) (Or.inl rfl) ?_
  rw [show k2.2.2.1 53 4 = a from g2.2.2.2.2.2]
  refine Wp.seg 2 (pc1 := 23) (ls1 := [some (.ref 53), some (.int (x))]) (st1 := [.int (((x + n) ^^^ (n + (5 : Int32))) - a)]) rfl ?_
  exact Wp.reti rfl rfl ((hQ k1 f1 g1) k2 f2 g2)
set_option maxHeartbeats 4000000 in
theorem c40_53 {d : Nat} {Q : KO → Prop} {h : KH} (hw : WF h) {L : List Int32} {n a x : Int32} (s : thO h 53 L false n a) (hl : L.length + 4 ≤ 30) (hd : 4 ≤ d) (hQ0 : ∀ k, Fr (pTh 53) noP h k → thO k 53 (L ++ [30, 11, 50, 10]) false n a → Q (some (.int ((((x + n) ^^^ (n + (5 : Int32))) - a) ^^^ x)), k)) : Cl d 40 [.ref 53, .int x] h Q := by
  have hQ : ∀ k1, Fr (pTh 53) noP h k1 → thO k1 53 (L ++ [30]) false n a → (∀ k2, Fr (pTh 53) noP k1 k2 → thO k2 53 ((L ++ [30]) ++ [11, 50, 10]) false n a → (Q (some (.int ((((x + n) ^^^ (n + (5 : Int32))) - a) ^^^ x)), k2))) := fun k1 f1 g1 k2 f2 g2 => hQ0 k2 ((f1).trans f2) (thO_app g2 (by simp only [List.append_assoc, List.cons_append, List.nil_append]))
  refine Cl.of (ls := [some (.ref 53), some (.int (x))]) rfl rfl ?_
  refine Wp.seg 2 (pc1 := 3) (ls1 := [some (.ref 53), some (.int (x))]) (st1 := [.int (30), .ref 53]) rfl ?_
  refine Wp.invV (d2 := 0) (as := [.ref 53, .int (30)]) (r := []) (t := (4, 0)) rfl rfl rfl rfl (WF.t hw 53 rfl) rfl rfl ⟨rfl, rfl⟩ (by omega) (s_bg53 hw s (by first | omega | (simp only [List.length_append, List.length_cons, List.length_nil]; omega)) ?_)
  intro k1 f1 g1
  show Wp d 40 6 [some (.ref 53), some (.int (x))] [.int (1)] k1 Q
  refine Wp.if1 rfl (fun c1 => absurd c1 (show ¬ ((1 : Int32) = 0) by decide)) (fun c1 => ?_)
  refine Wp.seg 2 (pc1 := 11) (ls1 := [some (.ref 53), some (.int (x))]) (st1 := [.int (x), .ref 53]) rfl ?_
  refine Wp.invV (d2 := 3) (as := [.ref 53, .int (x)]) (r := []) (t := (4, 0)) rfl rfl rfl rfl (WF.t (f1.wf hw (fun z => z)) 53 rfl) rfl rfl ⟨rfl, rfl⟩ (by omega) (c84_53 (f1.wf hw (fun z => z)) g1 (by first | omega | (simp only [List.length_append, List.length_cons, List.length_nil]; omega)) (Nat.le_refl _) ?_)
  intro k2 f2 g2
  show Wp d 40 14 [some (.ref 53), some (.int (x))] [.int (((x + n) ^^^ (n + (5 : Int32))) - a)] k2 Q
  refine Wp.seg 3 (pc1 := 20) (ls1 := [some (.ref 53), some (.int (x))]) (st1 := [.int ((((x + n) ^^^ (n + (5 : Int32))) - a) ^^^ x)]) rfl ?_
  exact Wp.reti rfl rfl ((hQ k1 f1 g1) k2 f2 g2)
set_option maxHeartbeats 4000000 in
theorem c85_530 {d : Nat} {Q : KO → Prop} {h : KH} (hw : WF h) {L : List Int32} {n a x : Int32} (s : thO h 53 L false n a) (hl : L.length + 1 ≤ 30) (e0 : a - n = 0) (hd : 1 ≤ d) (hQ0 : ∀ k, Fr (pTh 53) noP h k → thO k 53 (L ++ [12]) true n a → Q (some (.int (0)), k)) : Cl d 85 [.ref 53, .int x] h Q := by
  have hQ : ∀ k1, Fr (pTh 53) noP h k1 → thO k1 53 (L ++ [12]) false n a → (Q (some (.int (0)), kwi k1 53 2 (1 : Int32))) := fun k1 f1 g1 => hQ0 _ ((f1).trans (fr_kwi (Or.inl rfl) (by decide))) (thO_app (thO_part g1) rfl)
  refine Cl.of (ls := [some (.ref 53), some (.int (x)), none]) rfl rfl ?_
  refine Wp.seg 2 (pc1 := 3) (ls1 := [some (.ref 53), some (.int (x)), none]) (st1 := [.int (12), .ref 53]) rfl ?_
  refine Wp.invV (d2 := 0) (as := [.ref 53, .int (12)]) (r := []) (t := (4, 0)) rfl rfl rfl rfl (WF.t hw 53 rfl) rfl rfl ⟨rfl, rfl⟩ (by omega) (s_bg53 hw s (by first | omega | (simp only [List.length_append, List.length_cons, List.length_nil]; omega)) ?_)
  intro k1 f1 g1
  show Wp d 85 6 [some (.ref 53), some (.int (x)), none] [.int (1)] k1 Q
  refine Wp.if1 rfl (fun c1 => ?_) (fun c1 => absurd (show ¬ (1 : Int32) = 0 by decide) c1)
  refine Wp.seg 1 (pc1 := 12) (ls1 := [some (.ref 53), some (.int (x)), none]) (st1 := [.ref 53]) rfl ?_
  refine Wp.gi (t := (4, 0)) rfl (WF.t (f1.wf hw (fun z => z)) 53 rfl) (Or.inl rfl) ?_
  rw [show k1.2.2.1 53 4 = a from g1.2.2.2.2.2]
  refine Wp.seg 1 (pc1 := 16) (ls1 := [some (.ref 53), some (.int (x)), none]) (st1 := [.ref 53, .int (a)]) rfl ?_
  refine Wp.gi (t := (4, 0)) rfl (WF.t (f1.wf hw (fun z => z)) 53 rfl) (Or.inl rfl) ?_
  rw [show k1.2.2.1 53 3 = n from g1.2.2.2.2.1]
  refine Wp.seg 3 (pc1 := 22) (ls1 := [some (.ref 53), some (.int (x)), some (.int (a - n))]) (st1 := [.int (a - n)]) rfl ?_
  refine Wp.if1 rfl (fun c2 => absurd c2 (fun z => z e0)) (fun c2 => ?_)
  refine Wp.seg 2 (pc1 := 27) (ls1 := [some (.ref 53), some (.int (x)), some (.int (a - n))]) (st1 := [.int (1), .ref 53]) rfl ?_
  refine Wp.pi (t := (4, 0)) rfl (WF.t (f1.wf hw (fun z => z)) 53 rfl) (Or.inr ⟨rfl, Or.inr rfl⟩) ?_
  refine Wp.seg 1 (pc1 := 31) (ls1 := [some (.ref 53), some (.int (x)), some (.int (a - n))]) (st1 := [.int (0)]) rfl ?_
  exact Wp.reti rfl rfl (hQ k1 f1 g1)
set_option maxHeartbeats 4000000 in
theorem c85_531 {d : Nat} {Q : KO → Prop} {h : KH} (hw : WF h) {L : List Int32} {n a x : Int32} (s : thO h 53 L false n a) (hl : L.length + 1 ≤ 30) (ne : ¬ a - n = 0) (hd : 1 ≤ d) (hQ0 : ∀ k, Fr (pTh 53) noP h k → thO k 53 (L ++ [12]) false n a → Q (some (.int (x - x / (a - n) * (a - n))), k)) : Cl d 85 [.ref 53, .int x] h Q := by
  have hQ : ∀ k1, Fr (pTh 53) noP h k1 → thO k1 53 (L ++ [12]) false n a → (Q (some (.int (x - x / (a - n) * (a - n))), k1)) := fun k1 f1 g1 => hQ0 k1 (f1) (thO_app g1 rfl)
  refine Cl.of (ls := [some (.ref 53), some (.int (x)), none]) rfl rfl ?_
  refine Wp.seg 2 (pc1 := 3) (ls1 := [some (.ref 53), some (.int (x)), none]) (st1 := [.int (12), .ref 53]) rfl ?_
  refine Wp.invV (d2 := 0) (as := [.ref 53, .int (12)]) (r := []) (t := (4, 0)) rfl rfl rfl rfl (WF.t hw 53 rfl) rfl rfl ⟨rfl, rfl⟩ (by omega) (s_bg53 hw s (by first | omega | (simp only [List.length_append, List.length_cons, List.length_nil]; omega)) ?_)
  intro k1 f1 g1
  show Wp d 85 6 [some (.ref 53), some (.int (x)), none] [.int (1)] k1 Q
  refine Wp.if1 rfl (fun c1 => ?_) (fun c1 => absurd (show ¬ (1 : Int32) = 0 by decide) c1)
  refine Wp.seg 1 (pc1 := 12) (ls1 := [some (.ref 53), some (.int (x)), none]) (st1 := [.ref 53]) rfl ?_
  refine Wp.gi (t := (4, 0)) rfl (WF.t (f1.wf hw (fun z => z)) 53 rfl) (Or.inl rfl) ?_
  rw [show k1.2.2.1 53 4 = a from g1.2.2.2.2.2]
  refine Wp.seg 1 (pc1 := 16) (ls1 := [some (.ref 53), some (.int (x)), none]) (st1 := [.ref 53, .int (a)]) rfl ?_
  refine Wp.gi (t := (4, 0)) rfl (WF.t (f1.wf hw (fun z => z)) 53 rfl) (Or.inl rfl) ?_
  rw [show k1.2.2.1 53 3 = n from g1.2.2.2.2.1]
  refine Wp.seg 3 (pc1 := 22) (ls1 := [some (.ref 53), some (.int (x)), some (.int (a - n))]) (st1 := [.int (a - n)]) rfl ?_
  refine Wp.if1 rfl (fun c2 => ?_) (fun c2 => absurd (ne) c2)
  refine Wp.seg 2 (pc1 := 34) (ls1 := [some (.ref 53), some (.int (x)), some (.int (a - n))]) (st1 := [.int (a - n), .int (x)]) rfl ?_
  refine Wp.rem rfl (ne) ?_
  exact Wp.reti rfl rfl (hQ k1 f1 g1)
set_option maxHeartbeats 4000000 in
theorem c86_530 {d : Nat} {Q : KO → Prop} {h : KH} (hw : WF h) {L : List Int32} {n a x : Int32} (s : thO h 53 L false n a) (hl : L.length + 6 ≤ 30) (e0 : a - n = 0) (hd : 5 ≤ d) (hQ0 : ∀ k, Fr (pTh 53) noP h k → thO k 53 (L ++ [13, 30, 11, 50, 10, 12]) true n a → Q (some (.int ((((((x + n) ^^^ (n + (5 : Int32))) - a) ^^^ x) * (2 : Int32)) + (0 : Int32))), k)) : Cl d 86 [.ref 53, .int x] h Q := by
  have hQ : ∀ k1, Fr (pTh 53) noP h k1 → thO k1 53 (L ++ [13]) false n a → (∀ k2, Fr (pTh 53) noP k1 k2 → thO k2 53 ((L ++ [13]) ++ [30, 11, 50, 10]) false n a → (∀ k3, Fr (pTh 53) noP k2 k3 → thO k3 53 (((L ++ [13]) ++ [30, 11, 50, 10]) ++ [12]) true n a → (Q (some (.int ((((((x + n) ^^^ (n + (5 : Int32))) - a) ^^^ x) * (2 : Int32)) + (0 : Int32))), k3)))) := fun k1 f1 g1 k2 f2 g2 k3 f3 g3 => hQ0 k3 (((f1).trans f2).trans f3) (thO_app g3 (by simp only [List.append_assoc, List.cons_append, List.nil_append]))
  refine Cl.of (ls := [some (.ref 53), some (.int (x))]) rfl rfl ?_
  refine Wp.seg 2 (pc1 := 3) (ls1 := [some (.ref 53), some (.int (x))]) (st1 := [.int (13), .ref 53]) rfl ?_
  refine Wp.invV (d2 := 0) (as := [.ref 53, .int (13)]) (r := []) (t := (4, 0)) rfl rfl rfl rfl (WF.t hw 53 rfl) rfl rfl ⟨rfl, rfl⟩ (by omega) (s_bg53 hw s (by first | omega | (simp only [List.length_append, List.length_cons, List.length_nil]; omega)) ?_)
  intro k1 f1 g1
  show Wp d 86 6 [some (.ref 53), some (.int (x))] [.int (1)] k1 Q
  refine Wp.if1 rfl (fun c1 => absurd c1 (show ¬ ((1 : Int32) = 0) by decide)) (fun c1 => ?_)
  refine Wp.seg 2 (pc1 := 11) (ls1 := [some (.ref 53), some (.int (x))]) (st1 := [.int (x), .ref 53]) rfl ?_
  refine Wp.invV (d2 := 4) (as := [.ref 53, .int (x)]) (r := []) (t := (4, 0)) rfl rfl rfl rfl (WF.t (f1.wf hw (fun z => z)) 53 rfl) rfl rfl ⟨rfl, rfl⟩ (by omega) (c40_53 (f1.wf hw (fun z => z)) g1 (by first | omega | (simp only [List.length_append, List.length_cons, List.length_nil]; omega)) (Nat.le_refl _) ?_)
  intro k2 f2 g2
  show Wp d 86 14 [some (.ref 53), some (.int (x))] [.int ((((x + n) ^^^ (n + (5 : Int32))) - a) ^^^ x)] k2 Q
  refine Wp.seg 4 (pc1 := 18) (ls1 := [some (.ref 53), some (.int (x))]) (st1 := [.int (x), .ref 53, .int (((((x + n) ^^^ (n + (5 : Int32))) - a) ^^^ x) * (2 : Int32))]) rfl ?_
  refine Wp.invV (d2 := 1) (as := [.ref 53, .int (x)]) (r := [.int (((((x + n) ^^^ (n + (5 : Int32))) - a) ^^^ x) * (2 : Int32))]) (t := (4, 0)) rfl rfl rfl rfl (WF.t (f2.wf (f1.wf hw (fun z => z)) (fun z => z)) 53 rfl) rfl rfl ⟨rfl, rfl⟩ (by omega) (c85_530 (f2.wf (f1.wf hw (fun z => z)) (fun z => z)) g2 (by first | omega | (simp only [List.length_append, List.length_cons, List.length_nil]; omega)) e0 (Nat.le_refl _) ?_)
  intro k3 f3 g3
  show Wp d 86 21 [some (.ref 53), some (.int (x))] [.int (0), .int (((((x + n) ^^^ (n + (5 : Int32))) - a) ^^^ x) * (2 : Int32))] k3 Q
  refine Wp.seg 2 (pc1 := 26) (ls1 := [some (.ref 53), some (.int (x))]) (st1 := [.int ((((((x + n) ^^^ (n + (5 : Int32))) - a) ^^^ x) * (2 : Int32)) + (0 : Int32))]) rfl ?_
  exact Wp.reti rfl rfl (((hQ k1 f1 g1) k2 f2 g2) k3 f3 g3)
set_option maxHeartbeats 4000000 in
theorem c86_531 {d : Nat} {Q : KO → Prop} {h : KH} (hw : WF h) {L : List Int32} {n a x : Int32} (s : thO h 53 L false n a) (hl : L.length + 6 ≤ 30) (ne : ¬ a - n = 0) (hd : 5 ≤ d) (hQ0 : ∀ k, Fr (pTh 53) noP h k → thO k 53 (L ++ [13, 30, 11, 50, 10, 12]) false n a → Q (some (.int ((((((x + n) ^^^ (n + (5 : Int32))) - a) ^^^ x) * (2 : Int32)) + (x - x / (a - n) * (a - n)))), k)) : Cl d 86 [.ref 53, .int x] h Q := by
  have hQ : ∀ k1, Fr (pTh 53) noP h k1 → thO k1 53 (L ++ [13]) false n a → (∀ k2, Fr (pTh 53) noP k1 k2 → thO k2 53 ((L ++ [13]) ++ [30, 11, 50, 10]) false n a → (∀ k3, Fr (pTh 53) noP k2 k3 → thO k3 53 (((L ++ [13]) ++ [30, 11, 50, 10]) ++ [12]) false n a → (Q (some (.int ((((((x + n) ^^^ (n + (5 : Int32))) - a) ^^^ x) * (2 : Int32)) + (x - x / (a - n) * (a - n)))), k3)))) := fun k1 f1 g1 k2 f2 g2 k3 f3 g3 => hQ0 k3 (((f1).trans f2).trans f3) (thO_app g3 (by simp only [List.append_assoc, List.cons_append, List.nil_append]))
  refine Cl.of (ls := [some (.ref 53), some (.int (x))]) rfl rfl ?_
  refine Wp.seg 2 (pc1 := 3) (ls1 := [some (.ref 53), some (.int (x))]) (st1 := [.int (13), .ref 53]) rfl ?_
  refine Wp.invV (d2 := 0) (as := [.ref 53, .int (13)]) (r := []) (t := (4, 0)) rfl rfl rfl rfl (WF.t hw 53 rfl) rfl rfl ⟨rfl, rfl⟩ (by omega) (s_bg53 hw s (by first | omega | (simp only [List.length_append, List.length_cons, List.length_nil]; omega)) ?_)
  intro k1 f1 g1
  show Wp d 86 6 [some (.ref 53), some (.int (x))] [.int (1)] k1 Q
  refine Wp.if1 rfl (fun c1 => absurd c1 (show ¬ ((1 : Int32) = 0) by decide)) (fun c1 => ?_)
  refine Wp.seg 2 (pc1 := 11) (ls1 := [some (.ref 53), some (.int (x))]) (st1 := [.int (x), .ref 53]) rfl ?_
  refine Wp.invV (d2 := 4) (as := [.ref 53, .int (x)]) (r := []) (t := (4, 0)) rfl rfl rfl rfl (WF.t (f1.wf hw (fun z => z)) 53 rfl) rfl rfl ⟨rfl, rfl⟩ (by omega) (c40_53 (f1.wf hw (fun z => z)) g1 (by first | omega | (simp only [List.length_append, List.length_cons, List.length_nil]; omega)) (Nat.le_refl _) ?_)
  intro k2 f2 g2
  show Wp d 86 14 [some (.ref 53), some (.int (x))] [.int ((((x + n) ^^^ (n + (5 : Int32))) - a) ^^^ x)] k2 Q
  refine Wp.seg 4 (pc1 := 18) (ls1 := [some (.ref 53), some (.int (x))]) (st1 := [.int (x), .ref 53, .int (((((x + n) ^^^ (n + (5 : Int32))) - a) ^^^ x) * (2 : Int32))]) rfl ?_
  refine Wp.invV (d2 := 1) (as := [.ref 53, .int (x)]) (r := [.int (((((x + n) ^^^ (n + (5 : Int32))) - a) ^^^ x) * (2 : Int32))]) (t := (4, 0)) rfl rfl rfl rfl (WF.t (f2.wf (f1.wf hw (fun z => z)) (fun z => z)) 53 rfl) rfl rfl ⟨rfl, rfl⟩ (by omega) (c85_531 (f2.wf (f1.wf hw (fun z => z)) (fun z => z)) g2 (by first | omega | (simp only [List.length_append, List.length_cons, List.length_nil]; omega)) ne (Nat.le_refl _) ?_)
  intro k3 f3 g3
  show Wp d 86 21 [some (.ref 53), some (.int (x))] [.int (x - x / (a - n) * (a - n)), .int (((((x + n) ^^^ (n + (5 : Int32))) - a) ^^^ x) * (2 : Int32))] k3 Q
  refine Wp.seg 2 (pc1 := 26) (ls1 := [some (.ref 53), some (.int (x))]) (st1 := [.int ((((((x + n) ^^^ (n + (5 : Int32))) - a) ^^^ x) * (2 : Int32)) + (x - x / (a - n) * (a - n)))]) rfl ?_
  exact Wp.reti rfl rfl (((hQ k1 f1 g1) k2 f2 g2) k3 f3 g3)
set_option maxHeartbeats 4000000 in
theorem c82_53d {d : Nat} {Q : KO → Prop} {h : KH} (hw : WF h) {L : List Int32} {n a x : Int32} (s : thO h 53 L true n a) (hd : 0 ≤ d) (hQ : Q (some (.int (0)), h)) : Cl d 82 [.ref 53, .int x] h Q := by
  refine Cl.of (ls := [some (.ref 53), some (.int (x))]) rfl rfl ?_
  refine Wp.seg 1 (pc1 := 1) (ls1 := [some (.ref 53), some (.int (x))]) (st1 := [.ref 53]) rfl ?_
  refine Wp.gi (t := (4, 0)) rfl (WF.t hw 53 rfl) (Or.inr rfl) ?_
  rw [show h.2.2.1 53 2 = 1 from s.2.2.2.1]
  refine Wp.if1 rfl (fun c1 => absurd c1 (show ¬ ((1 : Int32) = 0) by decide)) (fun c1 => ?_)
  refine Wp.seg 1 (pc1 := 8) (ls1 := [some (.ref 53), some (.int (x))]) (st1 := [.int (0)]) rfl ?_
  exact Wp.reti rfl rfl hQ
set_option maxHeartbeats 4000000 in
theorem c40_53d {d : Nat} {Q : KO → Prop} {h : KH} (hw : WF h) {L : List Int32} {n a x : Int32} (s : thO h 53 L true n a) (hd : 1 ≤ d) (hQ : Q (some (.int (0)), h)) : Cl d 40 [.ref 53, .int x] h Q := by
  refine Cl.of (ls := [some (.ref 53), some (.int (x))]) rfl rfl ?_
  refine Wp.seg 2 (pc1 := 3) (ls1 := [some (.ref 53), some (.int (x))]) (st1 := [.int (30), .ref 53]) rfl ?_
  refine Wp.invV (d2 := 0) (as := [.ref 53, .int (30)]) (r := []) (t := (4, 0)) rfl rfl rfl rfl (WF.t hw 53 rfl) rfl rfl ⟨rfl, rfl⟩ (by omega) (c82_53d hw s (Nat.le_refl _) ?_)
  show Wp d 40 6 [some (.ref 53), some (.int (x))] [.int (0)] h Q
  refine Wp.if1 rfl (fun c1 => ?_) (fun c1 => absurd (show (0 : Int32) = 0 by decide) c1)
  refine Wp.seg 1 (pc1 := 20) (ls1 := [some (.ref 53), some (.int (x))]) (st1 := [.int (0)]) rfl ?_
  exact Wp.reti rfl rfl hQ
set_option maxHeartbeats 4000000 in
theorem c43_530 {d : Nat} {Q : KO → Prop} {h : KH} (hw : WF h) {L : List Int32} {n a x : Int32} (s : thO h 53 L false n a) (hl : L.length + 7 ≤ 30) (e0 : a - n = 0) (hd : 6 ≤ d) (hQ0 : ∀ k, Fr (pTh 53) noP h k → thO k 53 (L ++ [51, 13, 30, 11, 50, 10, 12]) true n a → Q (some (.int (((((((x + n) ^^^ (n + (5 : Int32))) - a) ^^^ x) * (2 : Int32)) + (0 : Int32)) - (0 : Int32))), k)) : Cl d 43 [.ref 53, .int x] h Q := by
  have hQ : ∀ k1, Fr (pTh 53) noP h k1 → thO k1 53 (L ++ [51]) false n a → (∀ k2, Fr (pTh 53) noP k1 k2 → thO k2 53 ((L ++ [51]) ++ [13, 30, 11, 50, 10, 12]) true n a → (Q (some (.int (((((((x + n) ^^^ (n + (5 : Int32))) - a) ^^^ x) * (2 : Int32)) + (0 : Int32)) - (0 : Int32))), k2))) := fun k1 f1 g1 k2 f2 g2 => hQ0 k2 ((f1).trans f2) (thO_app g2 (by simp only [List.append_assoc, List.cons_append, List.nil_append]))
  refine Cl.of (ls := [some (.ref 53), some (.int (x))]) rfl rfl ?_
  refine Wp.seg 2 (pc1 := 3) (ls1 := [some (.ref 53), some (.int (x))]) (st1 := [.int (51), .ref 53]) rfl ?_
  refine Wp.invV (d2 := 0) (as := [.ref 53, .int (51)]) (r := []) (t := (4, 0)) rfl rfl rfl rfl (WF.t hw 53 rfl) rfl rfl ⟨rfl, rfl⟩ (by omega) (s_bg53 hw s (by first | omega | (simp only [List.length_append, List.length_cons, List.length_nil]; omega)) ?_)
  intro k1 f1 g1
  show Wp d 43 6 [some (.ref 53), some (.int (x))] [.int (1)] k1 Q
  refine Wp.if1 rfl (fun c1 => absurd c1 (show ¬ ((1 : Int32) = 0) by decide)) (fun c1 => ?_)
  refine Wp.seg 2 (pc1 := 11) (ls1 := [some (.ref 53), some (.int (x))]) (st1 := [.int (x), .ref 53]) rfl ?_
  refine Wp.invV (d2 := 5) (as := [.ref 53, .int (x)]) (r := []) (t := (4, 0)) rfl rfl rfl rfl (WF.t (f1.wf hw (fun z => z)) 53 rfl) rfl rfl ⟨rfl, rfl⟩ (by omega) (c86_530 (f1.wf hw (fun z => z)) g1 (by first | omega | (simp only [List.length_append, List.length_cons, List.length_nil]; omega)) e0 (Nat.le_refl _) ?_)
  intro k2 f2 g2
  show Wp d 43 14 [some (.ref 53), some (.int (x))] [.int ((((((x + n) ^^^ (n + (5 : Int32))) - a) ^^^ x) * (2 : Int32)) + (0 : Int32))] k2 Q
  refine Wp.seg 2 (pc1 := 16) (ls1 := [some (.ref 53), some (.int (x))]) (st1 := [.ref 53, .ref 53, .int ((((((x + n) ^^^ (n + (5 : Int32))) - a) ^^^ x) * (2 : Int32)) + (0 : Int32))]) rfl ?_
  refine Wp.gi (t := (4, 0)) rfl (WF.t (f2.wf (f1.wf hw (fun z => z)) (fun z => z)) 53 rfl) (Or.inl rfl) ?_
  rw [show k2.2.2.1 53 4 = a from g2.2.2.2.2.2]
  refine Wp.invV (d2 := 1) (as := [.ref 53, .int (a)]) (r := [.int ((((((x + n) ^^^ (n + (5 : Int32))) - a) ^^^ x) * (2 : Int32)) + (0 : Int32))]) (t := (4, 0)) rfl rfl rfl rfl (WF.t (f2.wf (f1.wf hw (fun z => z)) (fun z => z)) 53 rfl) rfl rfl ⟨rfl, rfl⟩ (by omega) (c40_53d (f2.wf (f1.wf hw (fun z => z)) (fun z => z)) g2 (Nat.le_refl _) ?_)
  show Wp d 43 22 [some (.ref 53), some (.int (x))] [.int (0), .int ((((((x + n) ^^^ (n + (5 : Int32))) - a) ^^^ x) * (2 : Int32)) + (0 : Int32))] k2 Q
  refine Wp.seg 2 (pc1 := 27) (ls1 := [some (.ref 53), some (.int (x))]) (st1 := [.int (((((((x + n) ^^^ (n + (5 : Int32))) - a) ^^^ x) * (2 : Int32)) + (0 : Int32)) - (0 : Int32))]) rfl ?_
  exact Wp.reti rfl rfl ((hQ k1 f1 g1) k2 f2 g2)
set_option maxHeartbeats 4000000 in
theorem c43_531 {d : Nat} {Q : KO → Prop} {h : KH} (hw : WF h) {L : List Int32} {n a x : Int32} (s : thO h 53 L false n a) (hl : L.length + 11 ≤ 30) (ne : ¬ a - n = 0) (hd : 6 ≤ d) (hQ0 : ∀ k, Fr (pTh 53) noP h k → thO k 53 (L ++ [51, 13, 30, 11, 50, 10, 12, 30, 11, 50, 10]) false n a → Q (some (.int (((((((x + n) ^^^ (n + (5 : Int32))) - a) ^^^ x) * (2 : Int32)) + (x - x / (a - n) * (a - n))) - ((((a + n) ^^^ (n + (5 : Int32))) - a) ^^^ a))), k)) : Cl d 43 [.ref 53, .int x] h Q := by
  have hQ : ∀ k1, Fr (pTh 53) noP h k1 → thO k1 53 (L ++ [51]) false n a → (∀ k2, Fr (pTh 53) noP k1 k2 → thO k2 53 ((L ++ [51]) ++ [13, 30, 11, 50, 10, 12]) false n a → (∀ k3, Fr (pTh 53) noP k2 k3 → thO k3 53 (((L ++ [51]) ++ [13, 30, 11, 50, 10, 12]) ++ [30, 11, 50, 10]) false n a → (Q (some (.int (((((((x + n) ^^^ (n + (5 : Int32))) - a) ^^^ x) * (2 : Int32)) + (x - x / (a - n) * (a - n))) - ((((a + n) ^^^ (n + (5 : Int32))) - a) ^^^ a))), k3)))) := fun k1 f1 g1 k2 f2 g2 k3 f3 g3 => hQ0 k3 (((f1).trans f2).trans f3) (thO_app g3 (by simp only [List.append_assoc, List.cons_append, List.nil_append]))
  refine Cl.of (ls := [some (.ref 53), some (.int (x))]) rfl rfl ?_
  refine Wp.seg 2 (pc1 := 3) (ls1 := [some (.ref 53), some (.int (x))]) (st1 := [.int (51), .ref 53]) rfl ?_
  refine Wp.invV (d2 := 0) (as := [.ref 53, .int (51)]) (r := []) (t := (4, 0)) rfl rfl rfl rfl (WF.t hw 53 rfl) rfl rfl ⟨rfl, rfl⟩ (by omega) (s_bg53 hw s (by first | omega | (simp only [List.length_append, List.length_cons, List.length_nil]; omega)) ?_)
  intro k1 f1 g1
  show Wp d 43 6 [some (.ref 53), some (.int (x))] [.int (1)] k1 Q
  refine Wp.if1 rfl (fun c1 => absurd c1 (show ¬ ((1 : Int32) = 0) by decide)) (fun c1 => ?_)
  refine Wp.seg 2 (pc1 := 11) (ls1 := [some (.ref 53), some (.int (x))]) (st1 := [.int (x), .ref 53]) rfl ?_
  refine Wp.invV (d2 := 5) (as := [.ref 53, .int (x)]) (r := []) (t := (4, 0)) rfl rfl rfl rfl (WF.t (f1.wf hw (fun z => z)) 53 rfl) rfl rfl ⟨rfl, rfl⟩ (by omega) (c86_531 (f1.wf hw (fun z => z)) g1 (by first | omega | (simp only [List.length_append, List.length_cons, List.length_nil]; omega)) ne (Nat.le_refl _) ?_)
  intro k2 f2 g2
  show Wp d 43 14 [some (.ref 53), some (.int (x))] [.int ((((((x + n) ^^^ (n + (5 : Int32))) - a) ^^^ x) * (2 : Int32)) + (x - x / (a - n) * (a - n)))] k2 Q
  refine Wp.seg 2 (pc1 := 16) (ls1 := [some (.ref 53), some (.int (x))]) (st1 := [.ref 53, .ref 53, .int ((((((x + n) ^^^ (n + (5 : Int32))) - a) ^^^ x) * (2 : Int32)) + (x - x / (a - n) * (a - n)))]) rfl ?_
  refine Wp.gi (t := (4, 0)) rfl (WF.t (f2.wf (f1.wf hw (fun z => z)) (fun z => z)) 53 rfl) (Or.inl rfl) ?_
  rw [show k2.2.2.1 53 4 = a from g2.2.2.2.2.2]
  refine Wp.invV (d2 := 4) (as := [.ref 53, .int (a)]) (r := [.int ((((((x + n) ^^^ (n + (5 : Int32))) - a) ^^^ x) * (2 : Int32)) + (x - x / (a - n) * (a - n)))]) (t := (4, 0)) rfl rfl rfl rfl (WF.t (f2.wf (f1.wf hw (fun z => z)) (fun z => z)) 53 rfl) rfl rfl ⟨rfl, rfl⟩ (by omega) (c40_53 (f2.wf (f1.wf hw (fun z => z)) (fun z => z)) g2 (by first | omega | (simp only [List.length_append, List.length_cons, List.length_nil]; omega)) (Nat.le_refl _) ?_)
  intro k3 f3 g3
  show Wp d 43 22 [some (.ref 53), some (.int (x))] [.int ((((a + n) ^^^ (n + (5 : Int32))) - a) ^^^ a), .int ((((((x + n) ^^^ (n + (5 : Int32))) - a) ^^^ x) * (2 : Int32)) + (x - x / (a - n) * (a - n)))] k3 Q
  refine Wp.seg 2 (pc1 := 27) (ls1 := [some (.ref 53), some (.int (x))]) (st1 := [.int (((((((x + n) ^^^ (n + (5 : Int32))) - a) ^^^ x) * (2 : Int32)) + (x - x / (a - n) * (a - n))) - ((((a + n) ^^^ (n + (5 : Int32))) - a) ^^^ a))]) rfl ?_
  exact Wp.reti rfl rfl (((hQ k1 f1 g1) k2 f2 g2) k3 f3 g3)
set_option maxHeartbeats 4000000 in
theorem t_bg55 {d : Nat} {Q : KO → Prop} {h : KH} (hw : WF h) {L : List Int32} {n a x : Int32} (s : thO h 55 L false n a) (hl : L.length < 30) (hd : 0 ≤ d) (hQ : Q (some (.int (1)), kwi (kwi h 56 L.length x) 55 1 ((Int32.ofNat L.length) + (1 : Int32)))) : Cl d 82 [.ref 55, .int (x)] h Q := by
  refine Cl.of (ls := [some (.ref 55), some (.int (x))]) rfl rfl ?_
  refine Wp.seg 1 (pc1 := 1) (ls1 := [some (.ref 55), some (.int (x))]) (st1 := [.ref 55]) rfl ?_
  refine Wp.gi (t := (8, 0)) rfl (WF.t hw 55 rfl) (Or.inr rfl) ?_
  rw [show h.2.2.1 55 2 = 0 from s.2.2.2.1]
  refine Wp.if1 rfl (fun c1 => ?_) (fun c1 => absurd (show (0 : Int32) = 0 by decide) c1)
  refine Wp.seg 1 (pc1 := 10) (ls1 := [some (.ref 55), some (.int (x))]) (st1 := [.ref 55]) rfl ?_
  refine Wp.gi (t := (8, 0)) rfl (WF.t hw 55 rfl) (Or.inl rfl) ?_
  rw [show h.2.2.1 55 1 = Int32.ofNat L.length from s.2.1]
  refine Wp.seg 1 (pc1 := 15) (ls1 := [some (.ref 55), some (.int (x))]) (st1 := [.int (30), .int (Int32.ofNat L.length)]) rfl ?_
  refine Wp.if2 rfl (fun c2 => absurd c2 (g30 hl)) (fun c2 => ?_)
  refine Wp.seg 1 (pc1 := 19) (ls1 := [some (.ref 55), some (.int (x))]) (st1 := [.ref 55]) rfl ?_
  refine Wp.gr (t := (8, 0)) (v := some (56)) rfl (WF.t hw 55 rfl) rfl (WF.r hw 55 0 56 rfl) ?_
  show Wp d 82 22 [some (.ref 55), some (.int (x))] [.ref 56] h Q
  refine Wp.seg 1 (pc1 := 23) (ls1 := [some (.ref 55), some (.int (x))]) (st1 := [.ref 55, .ref 56]) rfl ?_
  refine Wp.gi (t := (8, 0)) rfl (WF.t hw 55 rfl) (Or.inl rfl) ?_
  rw [show h.2.2.1 55 1 = Int32.ofNat L.length from s.2.1]
  refine Wp.seg 1 (pc1 := 27) (ls1 := [some (.ref 55), some (.int (x))]) (st1 := [.int (x), .int (Int32.ofNat L.length), .ref 56]) rfl ?_
  refine Wp.iast (j := L.length) (n := 30) rfl (WF.t hw 56 rfl) rfl hl (by decide) ?_
  refine Wp.seg 2 (pc1 := 30) (ls1 := [some (.ref 55), some (.int (x))]) (st1 := [.ref 55, .ref 55]) rfl ?_
  refine Wp.gi (t := (8, 0)) rfl (WF.t hw 55 rfl) (Or.inl rfl) ?_
  rw [show (kwi h 56 L.length x).2.2.1 55 1 = Int32.ofNat L.length from ((kwi_b (by decide)).trans (rfl)).trans s.2.1]
  refine Wp.seg 2 (pc1 := 35) (ls1 := [some (.ref 55), some (.int (x))]) (st1 := [.int ((Int32.ofNat L.length) + (1 : Int32)), .ref 55]) rfl ?_
  refine Wp.pi (t := (8, 0)) rfl (WF.t hw 55 rfl) (Or.inl rfl) ?_
  refine Wp.seg 1 (pc1 := 39) (ls1 := [some (.ref 55), some (.int (x))]) (st1 := [.int (1)]) rfl ?_
  exact Wp.reti rfl rfl hQ
theorem s_bg55 {d : Nat} {Q : KO → Prop} {h : KH} (hw : WF h) {L : List Int32} {n a x : Int32} (s : thO h 55 L false n a) (hl : L.length < 30) (hQ : ∀ k, Fr (pTh 55) noP h k → thO k 55 (L ++ [x]) false n a → Q (some (.int 1), k)) : Cl d 82 [.ref 55, .int x] h Q :=
  t_bg55 hw s hl (Nat.zero_le _) (hQ _ ((fr_kwi (P := pTh 55) (R := noP) (Or.inr rfl) (by decide)).trans (fr_kwi (Or.inl rfl) (by decide))) (thO_push s hl))
set_option maxHeartbeats 4000000 in
theorem c83_55 {d : Nat} {Q : KO → Prop} {h : KH} (hw : WF h) {L : List Int32} {n a x : Int32} (s : thO h 55 L false n a) (hl : L.length + 1 ≤ 30) (hd : 1 ≤ d) (hQ0 : ∀ k, Fr (pTh 55) noP h k → thO k 55 (L ++ [10]) false n a → Q (some (.int (x ^^^ (n + (5 : Int32)))), k)) : Cl d 83 [.ref 55, .int x] h Q := by
  have hQ : ∀ k1, Fr (pTh 55) noP h k1 → thO k1 55 (L ++ [10]) false n a → (Q (some (.int (x ^^^ (n + (5 : Int32)))), k1)) := fun k1 f1 g1 => hQ0 k1 (f1) (thO_app g1 rfl)
  refine Cl.of (ls := [some (.ref 55), some (.int (x))]) rfl rfl ?_
  refine Wp.seg 2 (pc1 := 3) (ls1 := [some (.ref 55), some (.int (x))]) (st1 := [.int (10), .ref 55]) rfl ?_
  refine Wp.invV (d2 := 0) (as := [.ref 55, .int (10)]) (r := []) (t := (8, 0)) rfl rfl rfl rfl (WF.t hw 55 rfl) rfl rfl ⟨rfl, rfl⟩ (by omega) (s_bg55 hw s (by first | omega | (simp only [List.length_append, List.length_cons, List.length_nil]; omega)) ?_)
  intro k1 f1 g1
  show Wp d 83 6 [some (.ref 55), some (.int (x))] [.int (1)] k1 Q
  refine Wp.if1 rfl (fun c1 => absurd c1 (show ¬ ((1 : Int32) = 0) by decide)) (fun c1 => ?_)
  refine Wp.seg 2 (pc1 := 11) (ls1 := [some (.ref 55), some (.int (x))]) (st1 := [.ref 55, .int (x)]) rfl ?_
  refine Wp.gi (t := (8, 0)) rfl (WF.t (f1.wf hw (fun z => z)) 55 rfl) (Or.inl rfl) ?_
  rw [show k1.2.2.1 55 3 = n from g1.2.2.2.2.1]
  refine Wp.seg 4 (pc1 := 21) (ls1 := [some (.ref 55), some (.int (x))]) (st1 := [.int (x ^^^ (n + (5 : Int32)))]) rfl ?_
  exact Wp.reti rfl rfl (hQ k1 f1 g1)
set_option maxHeartbeats 4000000 in
theorem c84_55 {d : Nat} {Q : KO → Prop} {h : KH} (hw : WF h) {L : List Int32} {n a x : Int32} (s : thO h 55 L false n a) (hl : L.length + 2 ≤ 30) (hd : 2 ≤ d) (hQ0 : ∀ k, Fr (pTh 55) noP h k → thO k 55 (L ++ [11, 10]) false n a → Q (some (.int ((x ^^^ (n + (5 : Int32))) - a)), k)) : Cl d 84 [.ref 55, .int x] h Q := by
  have hQ : ∀ k1, Fr (pTh 55) noP h k1 → thO k1 55 (L ++ [11]) false n a → (∀ k2, Fr (pTh 55) noP k1 k2 → thO k2 55 ((L ++ [11]) ++ [10]) false n a → (Q (some (.int ((x ^^^ (n + (5 : Int32))) - a)), k2))) := fun k1 f1 g1 k2 f2 g2 => hQ0 k2 ((f1).trans f2) (thO_app g2 (by simp only [List.append_assoc, List.cons_append, List.nil_append]))
  refine Cl.of (ls := [some (.ref 55), some (.int (x))]) rfl rfl ?_
  refine Wp.seg 2 (pc1 := 3) (ls1 := [some (.ref 55), some (.int (x))]) (st1 := [.int (11), .ref 55]) rfl ?_
  refine Wp.invV (d2 := 0) (as := [.ref 55, .int (11)]) (r := []) (t := (8, 0)) rfl rfl rfl rfl (WF.t hw 55 rfl) rfl rfl ⟨rfl, rfl⟩ (by omega) (s_bg55 hw s (by first | omega | (simp only [List.length_append, List.length_cons, List.length_nil]; omega)) ?_)
  intro k1 f1 g1
  show Wp d 84 6 [some (.ref 55), some (.int (x))] [.int (1)] k1 Q
  refine Wp.if1 rfl (fun c1 => absurd c1 (show ¬ ((1 : Int32) = 0) by decide)) (fun c1 => ?_)
  refine Wp.seg 2 (pc1 := 11) (ls1 := [some (.ref 55), some (.int (x))]) (st1 := [.int (x), .ref 55]) rfl ?_
  refine Wp.invV (d2 := 1) (as := [.ref 55, .int (x)]) (r := []) (t := (8, 0)) rfl rfl rfl rfl (WF.t (f1.wf hw (fun z => z)) 55 rfl) rfl rfl ⟨rfl, rfl⟩ (by omega) (c83_55 (f1.wf hw (fun z => z)) g1 (by first | omega | (simp only [List.length_append, List.length_cons, List.length_nil]; omega)) (Nat.le_refl _) ?_)
  intro k2 f2 g2
  show Wp d 84 14 [some (.ref 55), some (.int (x))] [.int (x ^^^ (n + (5 : Int32)))] k2 Q
  refine Wp.seg 1 (pc1 := 15) (ls1 := [some (.ref 55), some (.int (x))]) (st1 := [.ref 55, .int (x ^^^ (n + (5 : Int32)))]) rfl ?_
  refine Wp.gi (t := (8, 0)) rfl (WF.t (f2.wf (f1.wf hw (fun z => z)) (fun z => z)) 55 rfl) (Or.inl rfl) ?_
  rw [show k2.2.2.1 55 4 = a from g2.2.2.2.2.2]
  refine Wp.seg 2 (pc1 := 23) (ls1 := [some (.ref 55), some (.int (x))]) (st1 := [.int ((x ^^^ (n + (5 : Int32))) - a)]) rfl ?_
  exact Wp.reti rfl rfl ((hQ k1 f1 g1) k2 f2 g2)
set_option maxHeartbeats 4000000 in
theorem c85_550 {d : Nat} {Q : KO → Prop} {h : KH} (hw : WF h) {L : List Int32} {n a x : Int32} (s : thO h 55 L false n a) (hl : L.length + 1 ≤ 30) (e0 : a - n = 0) (hd : 1 ≤ d) (hQ0 : ∀ k, Fr (pTh 55) noP h k → thO k 55 (L ++ [12]) true n a → Q (some (.int (0)), k)) : Cl d 85 [.ref 55, .int x] h Q := by
  have hQ : ∀ k1, Fr (pTh 55) noP h k1 → thO k1 55 (L ++ [12]) false n a → (Q (some (.int (0)), kwi k1 55 2 (1 : Int32))) := fun k1 f1 g1 => hQ0 _ ((f1).trans (fr_kwi (Or.inl rfl) (by decide))) (thO_app (thO_part g1) rfl)
  refine Cl.of (ls := [some (.ref 55), some (.int (x)), none]) rfl rfl ?_
  refine Wp.seg 2 (pc1 := 3) (ls1 := [some (.ref 55), some (.int (x)), none]) (st1 := [.int (12), .ref 55]) rfl ?_
  refine Wp.invV (d2 := 0) (as := [.ref 55, .int (12)]) (r := []) (t := (8, 0)) rfl rfl rfl rfl (WF.t hw 55 rfl) rfl rfl ⟨rfl, rfl⟩ (by omega) (s_bg55 hw s (by first | omega | (simp only [List.length_append, List.length_cons, List.length_nil]; omega)) ?_)
  intro k1 f1 g1
  show Wp d 85 6 [some (.ref 55), some (.int (x)), none] [.int (1)] k1 Q
  refine Wp.if1 rfl (fun c1 => ?_) (fun c1 => absurd (show ¬ (1 : Int32) = 0 by decide) c1)
  refine Wp.seg 1 (pc1 := 12) (ls1 := [some (.ref 55), some (.int (x)), none]) (st1 := [.ref 55]) rfl ?_
  refine Wp.gi (t := (8, 0)) rfl (WF.t (f1.wf hw (fun z => z)) 55 rfl) (Or.inl rfl) ?_
  rw [show k1.2.2.1 55 4 = a from g1.2.2.2.2.2]
  refine Wp.seg 1 (pc1 := 16) (ls1 := [some (.ref 55), some (.int (x)), none]) (st1 := [.ref 55, .int (a)]) rfl ?_
  refine Wp.gi (t := (8, 0)) rfl (WF.t (f1.wf hw (fun z => z)) 55 rfl) (Or.inl rfl) ?_
  rw [show k1.2.2.1 55 3 = n from g1.2.2.2.2.1]
  refine Wp.seg 3 (pc1 := 22) (ls1 := [some (.ref 55), some (.int (x)), some (.int (a - n))]) (st1 := [.int (a - n)]) rfl ?_
  refine Wp.if1 rfl (fun c2 => absurd c2 (fun z => z e0)) (fun c2 => ?_)
  refine Wp.seg 2 (pc1 := 27) (ls1 := [some (.ref 55), some (.int (x)), some (.int (a - n))]) (st1 := [.int (1), .ref 55]) rfl ?_
  refine Wp.pi (t := (8, 0)) rfl (WF.t (f1.wf hw (fun z => z)) 55 rfl) (Or.inr ⟨rfl, Or.inr rfl⟩) ?_
  refine Wp.seg 1 (pc1 := 31) (ls1 := [some (.ref 55), some (.int (x)), some (.int (a - n))]) (st1 := [.int (0)]) rfl ?_
  exact Wp.reti rfl rfl (hQ k1 f1 g1)
set_option maxHeartbeats 4000000 in
theorem c85_551 {d : Nat} {Q : KO → Prop} {h : KH} (hw : WF h) {L : List Int32} {n a x : Int32} (s : thO h 55 L false n a) (hl : L.length + 1 ≤ 30) (ne : ¬ a - n = 0) (hd : 1 ≤ d) (hQ0 : ∀ k, Fr (pTh 55) noP h k → thO k 55 (L ++ [12]) false n a → Q (some (.int (x - x / (a - n) * (a - n))), k)) : Cl d 85 [.ref 55, .int x] h Q := by
  have hQ : ∀ k1, Fr (pTh 55) noP h k1 → thO k1 55 (L ++ [12]) false n a → (Q (some (.int (x - x / (a - n) * (a - n))), k1)) := fun k1 f1 g1 => hQ0 k1 (f1) (thO_app g1 rfl)
  refine Cl.of (ls := [some (.ref 55), some (.int (x)), none]) rfl rfl ?_
  refine Wp.seg 2 (pc1 := 3) (ls1 := [some (.ref 55), some (.int (x)), none]) (st1 := [.int (12), .ref 55]) rfl ?_
  refine Wp.invV (d2 := 0) (as := [.ref 55, .int (12)]) (r := []) (t := (8, 0)) rfl rfl rfl rfl (WF.t hw 55 rfl) rfl rfl ⟨rfl, rfl⟩ (by omega) (s_bg55 hw s (by first | omega | (simp only [List.length_append, List.length_cons, List.length_nil]; omega)) ?_)
  intro k1 f1 g1
  show Wp d 85 6 [some (.ref 55), some (.int (x)), none] [.int (1)] k1 Q
  refine Wp.if1 rfl (fun c1 => ?_) (fun c1 => absurd (show ¬ (1 : Int32) = 0 by decide) c1)
  refine Wp.seg 1 (pc1 := 12) (ls1 := [some (.ref 55), some (.int (x)), none]) (st1 := [.ref 55]) rfl ?_
  refine Wp.gi (t := (8, 0)) rfl (WF.t (f1.wf hw (fun z => z)) 55 rfl) (Or.inl rfl) ?_
  rw [show k1.2.2.1 55 4 = a from g1.2.2.2.2.2]
  refine Wp.seg 1 (pc1 := 16) (ls1 := [some (.ref 55), some (.int (x)), none]) (st1 := [.ref 55, .int (a)]) rfl ?_
  refine Wp.gi (t := (8, 0)) rfl (WF.t (f1.wf hw (fun z => z)) 55 rfl) (Or.inl rfl) ?_
  rw [show k1.2.2.1 55 3 = n from g1.2.2.2.2.1]
  refine Wp.seg 3 (pc1 := 22) (ls1 := [some (.ref 55), some (.int (x)), some (.int (a - n))]) (st1 := [.int (a - n)]) rfl ?_
  refine Wp.if1 rfl (fun c2 => ?_) (fun c2 => absurd (ne) c2)
  refine Wp.seg 2 (pc1 := 34) (ls1 := [some (.ref 55), some (.int (x)), some (.int (a - n))]) (st1 := [.int (a - n), .int (x)]) rfl ?_
  refine Wp.rem rfl (ne) ?_
  exact Wp.reti rfl rfl (hQ k1 f1 g1)
set_option maxHeartbeats 4000000 in
theorem c73_550 {d : Nat} {Q : KO → Prop} {h : KH} (hw : WF h) {L : List Int32} {n a x : Int32} (s : thO h 55 L false n a) (hl : L.length + 2 ≤ 30) (e0 : a - n = 0) (hd : 2 ≤ d) (hQ0 : ∀ k, Fr (pTh 55) noP h k → thO k 55 (L ++ [40, 12]) true n a → Q (some (.int ((0 : Int32) - n)), k)) : Cl d 73 [.ref 55, .int x] h Q := by
  have hQ : ∀ k1, Fr (pTh 55) noP h k1 → thO k1 55 (L ++ [40]) false n a → (∀ k2, Fr (pTh 55) noP k1 k2 → thO k2 55 ((L ++ [40]) ++ [12]) true n a → (Q (some (.int ((0 : Int32) - n)), k2))) := fun k1 f1 g1 k2 f2 g2 => hQ0 k2 ((f1).trans f2) (thO_app g2 (by simp only [List.append_assoc, List.cons_append, List.nil_append]))
  refine Cl.of (ls := [some (.ref 55), some (.int (x))]) rfl rfl ?_
  refine Wp.seg 2 (pc1 := 3) (ls1 := [some (.ref 55), some (.int (x))]) (st1 := [.int (40), .ref 55]) rfl ?_
  refine Wp.invV (d2 := 0) (as := [.ref 55, .int (40)]) (r := []) (t := (8, 0)) rfl rfl rfl rfl (WF.t hw 55 rfl) rfl rfl ⟨rfl, rfl⟩ (by omega) (s_bg55 hw s (by first | omega | (simp only [List.length_append, List.length_cons, List.length_nil]; omega)) ?_)
  intro k1 f1 g1
  show Wp d 73 6 [some (.ref 55), some (.int (x))] [.int (1)] k1 Q
  refine Wp.if1 rfl (fun c1 => absurd c1 (show ¬ ((1 : Int32) = 0) by decide)) (fun c1 => ?_)
  refine Wp.seg 2 (pc1 := 11) (ls1 := [some (.ref 55), some (.int (x))]) (st1 := [.int (x), .ref 55]) rfl ?_
  refine Wp.invV (d2 := 1) (as := [.ref 55, .int (x)]) (r := []) (t := (8, 0)) rfl rfl rfl rfl (WF.t (f1.wf hw (fun z => z)) 55 rfl) rfl rfl ⟨rfl, rfl⟩ (by omega) (c85_550 (f1.wf hw (fun z => z)) g1 (by first | omega | (simp only [List.length_append, List.length_cons, List.length_nil]; omega)) e0 (Nat.le_refl _) ?_)
  intro k2 f2 g2
  show Wp d 73 14 [some (.ref 55), some (.int (x))] [.int (0)] k2 Q
  refine Wp.seg 1 (pc1 := 15) (ls1 := [some (.ref 55), some (.int (x))]) (st1 := [.ref 55, .int (0)]) rfl ?_
  refine Wp.gi (t := (8, 0)) rfl (WF.t (f2.wf (f1.wf hw (fun z => z)) (fun z => z)) 55 rfl) (Or.inl rfl) ?_
  rw [show k2.2.2.1 55 3 = n from g2.2.2.2.2.1]
  refine Wp.seg 2 (pc1 := 23) (ls1 := [some (.ref 55), some (.int (x))]) (st1 := [.int ((0 : Int32) - n)]) rfl ?_
  exact Wp.reti rfl rfl ((hQ k1 f1 g1) k2 f2 g2)
set_option maxHeartbeats 4000000 in
theorem c73_551 {d : Nat} {Q : KO → Prop} {h : KH} (hw : WF h) {L : List Int32} {n a x : Int32} (s : thO h 55 L false n a) (hl : L.length + 2 ≤ 30) (ne : ¬ a - n = 0) (hd : 2 ≤ d) (hQ0 : ∀ k, Fr (pTh 55) noP h k → thO k 55 (L ++ [40, 12]) false n a → Q (some (.int ((x - x / (a - n) * (a - n)) - n)), k)) : Cl d 73 [.ref 55, .int x] h Q := by
  have hQ : ∀ k1, Fr (pTh 55) noP h k1 → thO k1 55 (L ++ [40]) false n a → (∀ k2, Fr (pTh 55) noP k1 k2 → thO k2 55 ((L ++ [40]) ++ [12]) false n a → (Q (some (.int ((x - x / (a - n) * (a - n)) - n)), k2))) := fun k1 f1 g1 k2 f2 g2 => hQ0 k2 ((f1).trans f2) (thO_app g2 (by simp only [List.append_assoc, List.cons_append, List.nil_append]))
  refine Cl.of (ls := [some (.ref 55), some (.int (x))]) rfl rfl ?_
  refine Wp.seg 2 (pc1 := 3) (ls1 := [some (.ref 55), some (.int (x))]) (st1 := [.int (40), .ref 55]) rfl ?_
  refine Wp.invV (d2 := 0) (as := [.ref 55, .int (40)]) (r := []) (t := (8, 0)) rfl rfl rfl rfl (WF.t hw 55 rfl) rfl rfl ⟨rfl, rfl⟩ (by omega) (s_bg55 hw s (by first | omega | (simp only [List.length_append, List.length_cons, List.length_nil]; omega)) ?_)
  intro k1 f1 g1
  show Wp d 73 6 [some (.ref 55), some (.int (x))] [.int (1)] k1 Q
  refine Wp.if1 rfl (fun c1 => absurd c1 (show ¬ ((1 : Int32) = 0) by decide)) (fun c1 => ?_)
  refine Wp.seg 2 (pc1 := 11) (ls1 := [some (.ref 55), some (.int (x))]) (st1 := [.int (x), .ref 55]) rfl ?_
  refine Wp.invV (d2 := 1) (as := [.ref 55, .int (x)]) (r := []) (t := (8, 0)) rfl rfl rfl rfl (WF.t (f1.wf hw (fun z => z)) 55 rfl) rfl rfl ⟨rfl, rfl⟩ (by omega) (c85_551 (f1.wf hw (fun z => z)) g1 (by first | omega | (simp only [List.length_append, List.length_cons, List.length_nil]; omega)) ne (Nat.le_refl _) ?_)
  intro k2 f2 g2
  show Wp d 73 14 [some (.ref 55), some (.int (x))] [.int (x - x / (a - n) * (a - n))] k2 Q
  refine Wp.seg 1 (pc1 := 15) (ls1 := [some (.ref 55), some (.int (x))]) (st1 := [.ref 55, .int (x - x / (a - n) * (a - n))]) rfl ?_
  refine Wp.gi (t := (8, 0)) rfl (WF.t (f2.wf (f1.wf hw (fun z => z)) (fun z => z)) 55 rfl) (Or.inl rfl) ?_
  rw [show k2.2.2.1 55 3 = n from g2.2.2.2.2.1]
  refine Wp.seg 2 (pc1 := 23) (ls1 := [some (.ref 55), some (.int (x))]) (st1 := [.int ((x - x / (a - n) * (a - n)) - n)]) rfl ?_
  exact Wp.reti rfl rfl ((hQ k1 f1 g1) k2 f2 g2)
set_option maxHeartbeats 4000000 in
theorem c86_550 {d : Nat} {Q : KO → Prop} {h : KH} (hw : WF h) {L : List Int32} {n a x : Int32} (s : thO h 55 L false n a) (hl : L.length + 5 ≤ 30) (e0 : a - n = 0) (hd : 3 ≤ d) (hQ0 : ∀ k, Fr (pTh 55) noP h k → thO k 55 (L ++ [13, 11, 10, 40, 12]) true n a → Q (some (.int ((((x ^^^ (n + (5 : Int32))) - a) * (2 : Int32)) + ((0 : Int32) - n))), k)) : Cl d 86 [.ref 55, .int x] h Q := by
  have hQ : ∀ k1, Fr (pTh 55) noP h k1 → thO k1 55 (L ++ [13]) false n a → (∀ k2, Fr (pTh 55) noP k1 k2 → thO k2 55 ((L ++ [13]) ++ [11, 10]) false n a → (∀ k3, Fr (pTh 55) noP k2 k3 → thO k3 55 (((L ++ [13]) ++ [11, 10]) ++ [40, 12]) true n a → (Q (some (.int ((((x ^^^ (n + (5 : Int32))) - a) * (2 : Int32)) + ((0 : Int32) - n))), k3)))) := fun k1 f1 g1 k2 f2 g2 k3 f3 g3 => hQ0 k3 (((f1).trans f2).trans f3) (thO_app g3 (by simp only [List.append_assoc, List.cons_append, List.nil_append]))
  refine Cl.of (ls := [some (.ref 55), some (.int (x))]) rfl rfl ?_
  refine Wp.seg 2 (pc1 := 3) (ls1 := [some (.ref 55), some (.int (x))]) (st1 := [.int (13), .ref 55]) rfl ?_
  refine Wp.invV (d2 := 0) (as := [.ref 55, .int (13)]) (r := []) (t := (8, 0)) rfl rfl rfl rfl (WF.t hw 55 rfl) rfl rfl ⟨rfl, rfl⟩ (by omega) (s_bg55 hw s (by first | omega | (simp only [List.length_append, List.length_cons, List.length_nil]; omega)) ?_)
  intro k1 f1 g1
  show Wp d 86 6 [some (.ref 55), some (.int (x))] [.int (1)] k1 Q
  refine Wp.if1 rfl (fun c1 => absurd c1 (show ¬ ((1 : Int32) = 0) by decide)) (fun c1 => ?_)
  refine Wp.seg 2 (pc1 := 11) (ls1 := [some (.ref 55), some (.int (x))]) (st1 := [.int (x), .ref 55]) rfl ?_
  refine Wp.invV (d2 := 2) (as := [.ref 55, .int (x)]) (r := []) (t := (8, 0)) rfl rfl rfl rfl (WF.t (f1.wf hw (fun z => z)) 55 rfl) rfl rfl ⟨rfl, rfl⟩ (by omega) (c84_55 (f1.wf hw (fun z => z)) g1 (by first | omega | (simp only [List.length_append, List.length_cons, List.length_nil]; omega)) (Nat.le_refl _) ?_)
  intro k2 f2 g2
  show Wp d 86 14 [some (.ref 55), some (.int (x))] [.int ((x ^^^ (n + (5 : Int32))) - a)] k2 Q
  refine Wp.seg 4 (pc1 := 18) (ls1 := [some (.ref 55), some (.int (x))]) (st1 := [.int (x), .ref 55, .int (((x ^^^ (n + (5 : Int32))) - a) * (2 : Int32))]) rfl ?_
  refine Wp.invV (d2 := 2) (as := [.ref 55, .int (x)]) (r := [.int (((x ^^^ (n + (5 : Int32))) - a) * (2 : Int32))]) (t := (8, 0)) rfl rfl rfl rfl (WF.t (f2.wf (f1.wf hw (fun z => z)) (fun z => z)) 55 rfl) rfl rfl ⟨rfl, rfl⟩ (by omega) (c73_550 (f2.wf (f1.wf hw (fun z => z)) (fun z => z)) g2 (by first | omega | (simp only [List.length_append, List.length_cons, List.length_nil]; omega)) e0 (Nat.le_refl _) ?_)
  intro k3 f3 g3
  show Wp d 86 21 [some (.ref 55), some (.int (x))] [.int ((0 : Int32) - n), .int (((x ^^^ (n + (5 : Int32))) - a) * (2 : Int32))] k3 Q
  refine Wp.seg 2 (pc1 := 26) (ls1 := [some (.ref 55), some (.int (x))]) (st1 := [.int ((((x ^^^ (n + (5 : Int32))) - a) * (2 : Int32)) + ((0 : Int32) - n))]) rfl ?_
  exact Wp.reti rfl rfl (((hQ k1 f1 g1) k2 f2 g2) k3 f3 g3)
set_option maxHeartbeats 4000000 in
theorem c86_551 {d : Nat} {Q : KO → Prop} {h : KH} (hw : WF h) {L : List Int32} {n a x : Int32} (s : thO h 55 L false n a) (hl : L.length + 5 ≤ 30) (ne : ¬ a - n = 0) (hd : 3 ≤ d) (hQ0 : ∀ k, Fr (pTh 55) noP h k → thO k 55 (L ++ [13, 11, 10, 40, 12]) false n a → Q (some (.int ((((x ^^^ (n + (5 : Int32))) - a) * (2 : Int32)) + ((x - x / (a - n) * (a - n)) - n))), k)) : Cl d 86 [.ref 55, .int x] h Q := by
  have hQ : ∀ k1, Fr (pTh 55) noP h k1 → thO k1 55 (L ++ [13]) false n a → (∀ k2, Fr (pTh 55) noP k1 k2 → thO k2 55 ((L ++ [13]) ++ [11, 10]) false n a → (∀ k3, Fr (pTh 55) noP k2 k3 → thO k3 55 (((L ++ [13]) ++ [11, 10]) ++ [40, 12]) false n a → (Q (some (.int ((((x ^^^ (n + (5 : Int32))) - a) * (2 : Int32)) + ((x - x / (a - n) * (a - n)) - n))), k3)))) := fun k1 f1 g1 k2 f2 g2 k3 f3 g3 => hQ0 k3 (((f1).trans f2).trans f3) (thO_app g3 (by simp only [List.append_assoc, List.cons_append, List.nil_append]))
  refine Cl.of (ls := [some (.ref 55), some (.int (x))]) rfl rfl ?_
  refine Wp.seg 2 (pc1 := 3) (ls1 := [some (.ref 55), some (.int (x))]) (st1 := [.int (13), .ref 55]) rfl ?_
  refine Wp.invV (d2 := 0) (as := [.ref 55, .int (13)]) (r := []) (t := (8, 0)) rfl rfl rfl rfl (WF.t hw 55 rfl) rfl rfl ⟨rfl, rfl⟩ (by omega) (s_bg55 hw s (by first | omega | (simp only [List.length_append, List.length_cons, List.length_nil]; omega)) ?_)
  intro k1 f1 g1
  show Wp d 86 6 [some (.ref 55), some (.int (x))] [.int (1)] k1 Q
  refine Wp.if1 rfl (fun c1 => absurd c1 (show ¬ ((1 : Int32) = 0) by decide)) (fun c1 => ?_)
  refine Wp.seg 2 (pc1 := 11) (ls1 := [some (.ref 55), some (.int (x))]) (st1 := [.int (x), .ref 55]) rfl ?_
  refine Wp.invV (d2 := 2) (as := [.ref 55, .int (x)]) (r := []) (t := (8, 0)) rfl rfl rfl rfl (WF.t (f1.wf hw (fun z => z)) 55 rfl) rfl rfl ⟨rfl, rfl⟩ (by omega) (c84_55 (f1.wf hw (fun z => z)) g1 (by first | omega | (simp only [List.length_append, List.length_cons, List.length_nil]; omega)) (Nat.le_refl _) ?_)
  intro k2 f2 g2
  show Wp d 86 14 [some (.ref 55), some (.int (x))] [.int ((x ^^^ (n + (5 : Int32))) - a)] k2 Q
  refine Wp.seg 4 (pc1 := 18) (ls1 := [some (.ref 55), some (.int (x))]) (st1 := [.int (x), .ref 55, .int (((x ^^^ (n + (5 : Int32))) - a) * (2 : Int32))]) rfl ?_
  refine Wp.invV (d2 := 2) (as := [.ref 55, .int (x)]) (r := [.int (((x ^^^ (n + (5 : Int32))) - a) * (2 : Int32))]) (t := (8, 0)) rfl rfl rfl rfl (WF.t (f2.wf (f1.wf hw (fun z => z)) (fun z => z)) 55 rfl) rfl rfl ⟨rfl, rfl⟩ (by omega) (c73_551 (f2.wf (f1.wf hw (fun z => z)) (fun z => z)) g2 (by first | omega | (simp only [List.length_append, List.length_cons, List.length_nil]; omega)) ne (Nat.le_refl _) ?_)
  intro k3 f3 g3
  show Wp d 86 21 [some (.ref 55), some (.int (x))] [.int ((x - x / (a - n) * (a - n)) - n), .int (((x ^^^ (n + (5 : Int32))) - a) * (2 : Int32))] k3 Q
  refine Wp.seg 2 (pc1 := 26) (ls1 := [some (.ref 55), some (.int (x))]) (st1 := [.int ((((x ^^^ (n + (5 : Int32))) - a) * (2 : Int32)) + ((x - x / (a - n) * (a - n)) - n))]) rfl ?_
  exact Wp.reti rfl rfl (((hQ k1 f1 g1) k2 f2 g2) k3 f3 g3)
set_option maxHeartbeats 4000000 in
theorem t_bg57 {d : Nat} {Q : KO → Prop} {h : KH} (hw : WF h) {L : List Int32} {n a x : Int32} (s : thO h 57 L false n a) (hl : L.length < 30) (hd : 0 ≤ d) (hQ : Q (some (.int (1)), kwi (kwi h 58 L.length x) 57 1 ((Int32.ofNat L.length) + (1 : Int32)))) : Cl d 82 [.ref 57, .int (x)] h Q := by
  refine Cl.of (ls := [some (.ref 57), some (.int (x))]) rfl rfl ?_
  refine Wp.seg 1 (pc1 := 1) (ls1 := [some (.ref 57), some (.int (x))]) (st1 := [.ref 57]) rfl ?_
  refine Wp.gi (t := (2, 0)) rfl (WF.t hw 57 rfl) (Or.inr rfl) ?_
  rw [show h.2.2.1 57 2 = 0 from s.2.2.2.1]
  refine Wp.if1 rfl (fun c1 => ?_) (fun c1 => absurd (show (0 : Int32) = 0 by decide) c1)
  refine Wp.seg 1 (pc1 := 10) (ls1 := [some (.ref 57), some (.int (x))]) (st1 := [.ref 57]) rfl ?_
  refine Wp.gi (t := (2, 0)) rfl (WF.t hw 57 rfl) (Or.inl rfl) ?_
  rw [show h.2.2.1 57 1 = Int32.ofNat L.length from s.2.1]
  refine Wp.seg 1 (pc1 := 15) (ls1 := [some (.ref 57), some (.int (x))]) (st1 := [.int (30), .int (Int32.ofNat L.length)]) rfl ?_
  refine Wp.if2 rfl (fun c2 => absurd c2 (g30 hl)) (fun c2 => ?_)
  refine Wp.seg 1 (pc1 := 19) (ls1 := [some (.ref 57), some (.int (x))]) (st1 := [.ref 57]) rfl ?_
  refine Wp.gr (t := (2, 0)) (v := some (58)) rfl (WF.t hw 57 rfl) rfl (WF.r hw 57 0 57 rfl) ?_
  show Wp d 82 22 [some (.ref 57), some (.int (x))] [.ref 58] h Q
  refine Wp.seg 1 (pc1 := 23) (ls1 := [some (.ref 57), some (.int (x))]) (st1 := [.ref 57, .ref 58]) rfl ?_
  refine Wp.gi (t := (2, 0)) rfl (WF.t hw 57 rfl) (Or.inl rfl) ?_
  rw [show h.2.2.1 57 1 = Int32.ofNat L.length from s.2.1]
  refine Wp.seg 1 (pc1 := 27) (ls1 := [some (.ref 57), some (.int (x))]) (st1 := [.int (x), .int (Int32.ofNat L.length), .ref 58]) rfl ?_
  refine Wp.iast (j := L.length) (n := 30) rfl (WF.t hw 58 rfl) rfl hl (by decide) ?_
  refine Wp.seg 2 (pc1 := 30) (ls1 := [some (.ref 57), some (.int (x))]) (st1 := [.ref 57, .ref 57]) rfl ?_
  refine Wp.gi (t := (2, 0)) rfl (WF.t hw 57 rfl) (Or.inl rfl) ?_
  rw [show (kwi h 58 L.length x).2.2.1 57 1 = Int32.ofNat L.length from ((kwi_b (by decide)).trans (rfl)).trans s.2.1]
  refine Wp.seg 2 (pc1 := 35) (ls1 := [some (.ref 57), some (.int (x))]) (st1 := [.int ((Int32.ofNat L.length) + (1 : Int32)), .ref 57]) rfl ?_
  refine Wp.pi (t := (2, 0)) rfl (WF.t hw 57 rfl) (Or.inl rfl) ?_
  refine Wp.seg 1 (pc1 := 39) (ls1 := [some (.ref 57), some (.int (x))]) (st1 := [.int (1)]) rfl ?_
  exact Wp.reti rfl rfl hQ
theorem s_bg57 {d : Nat} {Q : KO → Prop} {h : KH} (hw : WF h) {L : List Int32} {n a x : Int32} (s : thO h 57 L false n a) (hl : L.length < 30) (hQ : ∀ k, Fr (pTh 57) noP h k → thO k 57 (L ++ [x]) false n a → Q (some (.int 1), k)) : Cl d 82 [.ref 57, .int x] h Q :=
  t_bg57 hw s hl (Nat.zero_le _) (hQ _ ((fr_kwi (P := pTh 57) (R := noP) (Or.inr rfl) (by decide)).trans (fr_kwi (Or.inl rfl) (by decide))) (thO_push s hl))
set_option maxHeartbeats 4000000 in
theorem c83_57 {d : Nat} {Q : KO → Prop} {h : KH} (hw : WF h) {L : List Int32} {n a x : Int32} (s : thO h 57 L false n a) (hl : L.length + 1 ≤ 30) (hd : 1 ≤ d) (hQ0 : ∀ k, Fr (pTh 57) noP h k → thO k 57 (L ++ [10]) false n a → Q (some (.int (x ^^^ (n + (5 : Int32)))), k)) : Cl d 83 [.ref 57, .int x] h Q := by
  have hQ : ∀ k1, Fr (pTh 57) noP h k1 → thO k1 57 (L ++ [10]) false n a → (Q (some (.int (x ^^^ (n + (5 : Int32)))), k1)) := fun k1 f1 g1 => hQ0 k1 (f1) (thO_app g1 rfl)
  refine Cl.of (ls := [some (.ref 57), some (.int (x))]) rfl rfl ?_
  refine Wp.seg 2 (pc1 := 3) (ls1 := [some (.ref 57), some (.int (x))]) (st1 := [.int (10), .ref 57]) rfl ?_
  refine Wp.invV (d2 := 0) (as := [.ref 57, .int (10)]) (r := []) (t := (2, 0)) rfl rfl rfl rfl (WF.t hw 57 rfl) rfl rfl ⟨rfl, rfl⟩ (by omega) (s_bg57 hw s (by first | omega | (simp only [List.length_append, List.length_cons, List.length_nil]; omega)) ?_)
  intro k1 f1 g1
  show Wp d 83 6 [some (.ref 57), some (.int (x))] [.int (1)] k1 Q
  refine Wp.if1 rfl (fun c1 => absurd c1 (show ¬ ((1 : Int32) = 0) by decide)) (fun c1 => ?_)
  refine Wp.seg 2 (pc1 := 11) (ls1 := [some (.ref 57), some (.int (x))]) (st1 := [.ref 57, .int (x)]) rfl ?_
  refine Wp.gi (t := (2, 0)) rfl (WF.t (f1.wf hw (fun z => z)) 57 rfl) (Or.inl rfl) ?_
  rw [show k1.2.2.1 57 3 = n from g1.2.2.2.2.1]
  refine Wp.seg 4 (pc1 := 21) (ls1 := [some (.ref 57), some (.int (x))]) (st1 := [.int (x ^^^ (n + (5 : Int32)))]) rfl ?_
  exact Wp.reti rfl rfl (hQ k1 f1 g1)
set_option maxHeartbeats 4000000 in
theorem c84_57 {d : Nat} {Q : KO → Prop} {h : KH} (hw : WF h) {L : List Int32} {n a x : Int32} (s : thO h 57 L false n a) (hl : L.length + 2 ≤ 30) (hd : 2 ≤ d) (hQ0 : ∀ k, Fr (pTh 57) noP h k → thO k 57 (L ++ [11, 10]) false n a → Q (some (.int ((x ^^^ (n + (5 : Int32))) - a)), k)) : Cl d 84 [.ref 57, .int x] h Q := by
  have hQ : ∀ k1, Fr (pTh 57) noP h k1 → thO k1 57 (L ++ [11]) false n a → (∀ k2, Fr (pTh 57) noP k1 k2 → thO k2 57 ((L ++ [11]) ++ [10]) false n a → (Q (some (.int ((x ^^^ (n + (5 : Int32))) - a)), k2))) := fun k1 f1 g1 k2 f2 g2 => hQ0 k2 ((f1).trans f2) (thO_app g2 (by simp only [List.append_assoc, List.cons_append, List.nil_append]))
  refine Cl.of (ls := [some (.ref 57), some (.int (x))]) rfl rfl ?_
  refine Wp.seg 2 (pc1 := 3) (ls1 := [some (.ref 57), some (.int (x))]) (st1 := [.int (11), .ref 57]) rfl ?_
  refine Wp.invV (d2 := 0) (as := [.ref 57, .int (11)]) (r := []) (t := (2, 0)) rfl rfl rfl rfl (WF.t hw 57 rfl) rfl rfl ⟨rfl, rfl⟩ (by omega) (s_bg57 hw s (by first | omega | (simp only [List.length_append, List.length_cons, List.length_nil]; omega)) ?_)
  intro k1 f1 g1
  show Wp d 84 6 [some (.ref 57), some (.int (x))] [.int (1)] k1 Q
  refine Wp.if1 rfl (fun c1 => absurd c1 (show ¬ ((1 : Int32) = 0) by decide)) (fun c1 => ?_)
  refine Wp.seg 2 (pc1 := 11) (ls1 := [some (.ref 57), some (.int (x))]) (st1 := [.int (x), .ref 57]) rfl ?_
  refine Wp.invV (d2 := 1) (as := [.ref 57, .int (x)]) (r := []) (t := (2, 0)) rfl rfl rfl rfl (WF.t (f1.wf hw (fun z => z)) 57 rfl) rfl rfl ⟨rfl, rfl⟩ (by omega) (c83_57 (f1.wf hw (fun z => z)) g1 (by first | omega | (simp only [List.length_append, List.length_cons, List.length_nil]; omega)) (Nat.le_refl _) ?_)
  intro k2 f2 g2
  show Wp d 84 14 [some (.ref 57), some (.int (x))] [.int (x ^^^ (n + (5 : Int32)))] k2 Q
  refine Wp.seg 1 (pc1 := 15) (ls1 := [some (.ref 57), some (.int (x))]) (st1 := [.ref 57, .int (x ^^^ (n + (5 : Int32)))]) rfl ?_
  refine Wp.gi (t := (2, 0)) rfl (WF.t (f2.wf (f1.wf hw (fun z => z)) (fun z => z)) 57 rfl) (Or.inl rfl) ?_
  rw [show k2.2.2.1 57 4 = a from g2.2.2.2.2.2]
  refine Wp.seg 2 (pc1 := 23) (ls1 := [some (.ref 57), some (.int (x))]) (st1 := [.int ((x ^^^ (n + (5 : Int32))) - a)]) rfl ?_
  exact Wp.reti rfl rfl ((hQ k1 f1 g1) k2 f2 g2)
set_option maxHeartbeats 4000000 in
theorem c37_57 {d : Nat} {Q : KO → Prop} {h : KH} (hw : WF h) {L : List Int32} {n a x : Int32} (s : thO h 57 L false n a) (hl : L.length + 3 ≤ 30) (hd : 3 ≤ d) (hQ0 : ∀ k, Fr (pTh 57) noP h k → thO k 57 (L ++ [60, 11, 10]) false n a → Q (some (.int (((x ^^^ (n + (5 : Int32))) - a) * (3 : Int32))), k)) : Cl d 37 [.ref 57, .int x] h Q := by
  have hQ : ∀ k1, Fr (pTh 57) noP h k1 → thO k1 57 (L ++ [60]) false n a → (∀ k2, Fr (pTh 57) noP k1 k2 → thO k2 57 ((L ++ [60]) ++ [11, 10]) false n a → (Q (some (.int (((x ^^^ (n + (5 : Int32))) - a) * (3 : Int32))), k2))) := fun k1 f1 g1 k2 f2 g2 => hQ0 k2 ((f1).trans f2) (thO_app g2 (by simp only [List.append_assoc, List.cons_append, List.nil_append]))
  refine Cl.of (ls := [some (.ref 57), some (.int (x))]) rfl rfl ?_
  refine Wp.seg 2 (pc1 := 3) (ls1 := [some (.ref 57), some (.int (x))]) (st1 := [.int (60), .ref 57]) rfl ?_
  refine Wp.invV (d2 := 0) (as := [.ref 57, .int (60)]) (r := []) (t := (2, 0)) rfl rfl rfl rfl (WF.t hw 57 rfl) rfl rfl ⟨rfl, rfl⟩ (by omega) (s_bg57 hw s (by first | omega | (simp only [List.length_append, List.length_cons, List.length_nil]; omega)) ?_)
  intro k1 f1 g1
  show Wp d 37 6 [some (.ref 57), some (.int (x))] [.int (1)] k1 Q
  refine Wp.if1 rfl (fun c1 => absurd c1 (show ¬ ((1 : Int32) = 0) by decide)) (fun c1 => ?_)
  refine Wp.seg 2 (pc1 := 11) (ls1 := [some (.ref 57), some (.int (x))]) (st1 := [.int (x), .ref 57]) rfl ?_
  refine Wp.invV (d2 := 2) (as := [.ref 57, .int (x)]) (r := []) (t := (2, 0)) rfl rfl rfl rfl (WF.t (f1.wf hw (fun z => z)) 57 rfl) rfl rfl ⟨rfl, rfl⟩ (by omega) (c84_57 (f1.wf hw (fun z => z)) g1 (by first | omega | (simp only [List.length_append, List.length_cons, List.length_nil]; omega)) (Nat.le_refl _) ?_)
  intro k2 f2 g2
  show Wp d 37 14 [some (.ref 57), some (.int (x))] [.int ((x ^^^ (n + (5 : Int32))) - a)] k2 Q
  refine Wp.seg 3 (pc1 := 20) (ls1 := [some (.ref 57), some (.int (x))]) (st1 := [.int (((x ^^^ (n + (5 : Int32))) - a) * (3 : Int32))]) rfl ?_
  exact Wp.reti rfl rfl ((hQ k1 f1 g1) k2 f2 g2)
set_option maxHeartbeats 4000000 in
theorem c85_570 {d : Nat} {Q : KO → Prop} {h : KH} (hw : WF h) {L : List Int32} {n a x : Int32} (s : thO h 57 L false n a) (hl : L.length + 1 ≤ 30) (e0 : a - n = 0) (hd : 1 ≤ d) (hQ0 : ∀ k, Fr (pTh 57) noP h k → thO k 57 (L ++ [12]) true n a → Q (some (.int (0)), k)) : Cl d 85 [.ref 57, .int x] h Q := by
  have hQ : ∀ k1, Fr (pTh 57) noP h k1 → thO k1 57 (L ++ [12]) false n a → (Q (some (.int (0)), kwi k1 57 2 (1 : Int32))) := fun k1 f1 g1 => hQ0 _ ((f1).trans (fr_kwi (Or.inl rfl) (by decide))) (thO_app (thO_part g1) rfl)
  refine Cl.of (ls := [some (.ref 57), some (.int (x)), none]) rfl rfl ?_
  refine Wp.seg 2 (pc1 := 3) (ls1 := [some (.ref 57), some (.int (x)), none]) (st1 := [.int (12), .ref 57]) rfl ?_
  refine Wp.invV (d2 := 0) (as := [.ref 57, .int (12)]) (r := []) (t := (2, 0)) rfl rfl rfl rfl (WF.t hw 57 rfl) rfl rfl ⟨rfl, rfl⟩ (by omega) (s_bg57 hw s (by first | omega | (simp only [List.length_append, List.length_cons, List.length_nil]; omega)) ?_)
  intro k1 f1 g1
  show Wp d 85 6 [some (.ref 57), some (.int (x)), none] [.int (1)] k1 Q
  refine Wp.if1 rfl (fun c1 => ?_) (fun c1 => absurd (show ¬ (1 : Int32) = 0 by decide) c1)
  refine Wp.seg 1 (pc1 := 12) (ls1 := [some (.ref 57), some (.int (x)), none]) (st1 := [.ref 57]) rfl ?_
  refine Wp.gi (t := (2, 0)) rfl (WF.t (f1.wf hw (fun z => z)) 57 rfl) (Or.inl rfl) ?_
  rw [show k1.2.2.1 57 4 = a from g1.2.2.2.2.2]
  refine Wp.seg 1 (pc1 := 16) (ls1 := [some (.ref 57), some (.int (x)), none]) (st1 := [.ref 57, .int (a)]) rfl ?_
  refine Wp.gi (t := (2, 0)) rfl (WF.t (f1.wf hw (fun z => z)) 57 rfl) (Or.inl rfl) ?_
  rw [show k1.2.2.1 57 3 = n from g1.2.2.2.2.1]
  refine Wp.seg 3 (pc1 := 22) (ls1 := [some (.ref 57), some (.int (x)), some (.int (a - n))]) (st1 := [.int (a - n)]) rfl ?_
  refine Wp.if1 rfl (fun c2 => absurd c2 (fun z => z e0)) (fun c2 => ?_)
  refine Wp.seg 2 (pc1 := 27) (ls1 := [some (.ref 57), some (.int (x)), some (.int (a - n))]) (st1 := [.int (1), .ref 57]) rfl ?_
  refine Wp.pi (t := (2, 0)) rfl (WF.t (f1.wf hw (fun z => z)) 57 rfl) (Or.inr ⟨rfl, Or.inr rfl⟩) ?_
  refine Wp.seg 1 (pc1 := 31) (ls1 := [some (.ref 57), some (.int (x)), some (.int (a - n))]) (st1 := [.int (0)]) rfl ?_
  exact Wp.reti rfl rfl (hQ k1 f1 g1)
set_option maxHeartbeats 4000000 in
theorem c85_571 {d : Nat} {Q : KO → Prop} {h : KH} (hw : WF h) {L : List Int32} {n a x : Int32} (s : thO h 57 L false n a) (hl : L.length + 1 ≤ 30) (ne : ¬ a - n = 0) (hd : 1 ≤ d) (hQ0 : ∀ k, Fr (pTh 57) noP h k → thO k 57 (L ++ [12]) false n a → Q (some (.int (x - x / (a - n) * (a - n))), k)) : Cl d 85 [.ref 57, .int x] h Q := by
  have hQ : ∀ k1, Fr (pTh 57) noP h k1 → thO k1 57 (L ++ [12]) false n a → (Q (some (.int (x - x / (a - n) * (a - n))), k1)) := fun k1 f1 g1 => hQ0 k1 (f1) (thO_app g1 rfl)
  refine Cl.of (ls := [some (.ref 57), some (.int (x)), none]) rfl rfl ?_
  refine Wp.seg 2 (pc1 := 3) (ls1 := [some (.ref 57), some (.int (x)), none]) (st1 := [.int (12), .ref 57]) rfl ?_
  refine Wp.invV (d2 := 0) (as := [.ref 57, .int (12)]) (r := []) (t := (2, 0)) rfl rfl rfl rfl (WF.t hw 57 rfl) rfl rfl ⟨rfl, rfl⟩ (by omega) (s_bg57 hw s (by first | omega | (simp only [List.length_append, List.length_cons, List.length_nil]; omega)) ?_)
  intro k1 f1 g1
  show Wp d 85 6 [some (.ref 57), some (.int (x)), none] [.int (1)] k1 Q
  refine Wp.if1 rfl (fun c1 => ?_) (fun c1 => absurd (show ¬ (1 : Int32) = 0 by decide) c1)
  refine Wp.seg 1 (pc1 := 12) (ls1 := [some (.ref 57), some (.int (x)), none]) (st1 := [.ref 57]) rfl ?_
  refine Wp.gi (t := (2, 0)) rfl (WF.t (f1.wf hw (fun z => z)) 57 rfl) (Or.inl rfl) ?_
  rw [show k1.2.2.1 57 4 = a from g1.2.2.2.2.2]
  refine Wp.seg 1 (pc1 := 16) (ls1 := [some (.ref 57), some (.int (x)), none]) (st1 := [.ref 57, .int (a)]) rfl ?_
  refine Wp.gi (t := (2, 0)) rfl (WF.t (f1.wf hw (fun z => z)) 57 rfl) (Or.inl rfl) ?_
  rw [show k1.2.2.1 57 3 = n from g1.2.2.2.2.1]
  refine Wp.seg 3 (pc1 := 22) (ls1 := [some (.ref 57), some (.int (x)), some (.int (a - n))]) (st1 := [.int (a - n)]) rfl ?_
  refine Wp.if1 rfl (fun c2 => ?_) (fun c2 => absurd (ne) c2)
  refine Wp.seg 2 (pc1 := 34) (ls1 := [some (.ref 57), some (.int (x)), some (.int (a - n))]) (st1 := [.int (a - n), .int (x)]) rfl ?_
  refine Wp.rem rfl (ne) ?_
  exact Wp.reti rfl rfl (hQ k1 f1 g1)
set_option maxHeartbeats 4000000 in
theorem c73_570 {d : Nat} {Q : KO → Prop} {h : KH} (hw : WF h) {L : List Int32} {n a x : Int32} (s : thO h 57 L false n a) (hl : L.length + 2 ≤ 30) (e0 : a - n = 0) (hd : 2 ≤ d) (hQ0 : ∀ k, Fr (pTh 57) noP h k → thO k 57 (L ++ [40, 12]) true n a → Q (some (.int ((0 : Int32) - n)), k)) : Cl d 73 [.ref 57, .int x] h Q := by
  have hQ : ∀ k1, Fr (pTh 57) noP h k1 → thO k1 57 (L ++ [40]) false n a → (∀ k2, Fr (pTh 57) noP k1 k2 → thO k2 57 ((L ++ [40]) ++ [12]) true n a → (Q (some (.int ((0 : Int32) - n)), k2))) := fun k1 f1 g1 k2 f2 g2 => hQ0 k2 ((f1).trans f2) (thO_app g2 (by simp only [List.append_assoc, List.cons_append, List.nil_append]))
  refine Cl.of (ls := [some (.ref 57), some (.int (x))]) rfl rfl ?_
  refine Wp.seg 2 (pc1 := 3) (ls1 := [some (.ref 57), some (.int (x))]) (st1 := [.int (40), .ref 57]) rfl ?_
  refine Wp.invV (d2 := 0) (as := [.ref 57, .int (40)]) (r := []) (t := (2, 0)) rfl rfl rfl rfl (WF.t hw 57 rfl) rfl rfl ⟨rfl, rfl⟩ (by omega) (s_bg57 hw s (by first | omega | (simp only [List.length_append, List.length_cons, List.length_nil]; omega)) ?_)
  intro k1 f1 g1
  show Wp d 73 6 [some (.ref 57), some (.int (x))] [.int (1)] k1 Q
  refine Wp.if1 rfl (fun c1 => absurd c1 (show ¬ ((1 : Int32) = 0) by decide)) (fun c1 => ?_)
  refine Wp.seg 2 (pc1 := 11) (ls1 := [some (.ref 57), some (.int (x))]) (st1 := [.int (x), .ref 57]) rfl ?_
  refine Wp.invV (d2 := 1) (as := [.ref 57, .int (x)]) (r := []) (t := (2, 0)) rfl rfl rfl rfl (WF.t (f1.wf hw (fun z => z)) 57 rfl) rfl rfl ⟨rfl, rfl⟩ (by omega) (c85_570 (f1.wf hw (fun z => z)) g1 (by first | omega | (simp only [List.length_append, List.length_cons, List.length_nil]; omega)) e0 (Nat.le_refl _) ?_)
  intro k2 f2 g2
  show Wp d 73 14 [some (.ref 57), some (.int (x))] [.int (0)] k2 Q
  refine Wp.seg 1 (pc1 := 15) (ls1 := [some (.ref 57), some (.int (x))]) (st1 := [.ref 57, .int (0)]) rfl ?_
  refine Wp.gi (t := (2, 0)) rfl (WF.t (f2.wf (f1.wf hw (fun z => z)) (fun z => z)) 57 rfl) (Or.inl rfl) ?_
  rw [show k2.2.2.1 57 3 = n from g2.2.2.2.2.1]
  refine Wp.seg 2 (pc1 := 23) (ls1 := [some (.ref 57), some (.int (x))]) (st1 := [.int ((0 : Int32) - n)]) rfl ?_
  exact Wp.reti rfl rfl ((hQ k1 f1 g1) k2 f2 g2)
set_option maxHeartbeats 4000000 in
theorem c73_571 {d : Nat} {Q : KO → Prop} {h : KH} (hw : WF h) {L : List Int32} {n a x : Int32} (s : thO h 57 L false n a) (hl : L.length + 2 ≤ 30) (ne : ¬ a - n = 0) (hd : 2 ≤ d) (hQ0 : ∀ k, Fr (pTh 57) noP h k → thO k 57 (L ++ [40, 12]) false n a → Q (some (.int ((x - x / (a - n) * (a - n)) - n)), k)) : Cl d 73 [.ref 57, .int x] h Q := by
  have hQ : ∀ k1, Fr (pTh 57) noP h k1 → thO k1 57 (L ++ [40]) false n a → (∀ k2, Fr (pTh 57) noP k1 k2 → thO k2 57 ((L ++ [40]) ++ [12]) false n a → (Q (some (.int ((x - x / (a - n) * (a - n)) - n)), k2))) := fun k1 f1 g1 k2 f2 g2 => hQ0 k2 ((f1).trans f2) (thO_app g2 (by simp only [List.append_assoc, List.cons_append, List.nil_append]))
  refine Cl.of (ls := [some (.ref 57), some (.int (x))]) rfl rfl ?_
  refine Wp.seg 2 (pc1 := 3) (ls1 := [some (.ref 57), some (.int (x))]) (st1 := [.int (40), .ref 57]) rfl ?_
  refine Wp.invV (d2 := 0) (as := [.ref 57, .int (40)]) (r := []) (t := (2, 0)) rfl rfl rfl rfl (WF.t hw 57 rfl) rfl rfl ⟨rfl, rfl⟩ (by omega) (s_bg57 hw s (by first | omega | (simp only [List.length_append, List.length_cons, List.length_nil]; omega)) ?_)
  intro k1 f1 g1
  show Wp d 73 6 [some (.ref 57), some (.int (x))] [.int (1)] k1 Q
  refine Wp.if1 rfl (fun c1 => absurd c1 (show ¬ ((1 : Int32) = 0) by decide)) (fun c1 => ?_)
  refine Wp.seg 2 (pc1 := 11) (ls1 := [some (.ref 57), some (.int (x))]) (st1 := [.int (x), .ref 57]) rfl ?_
  refine Wp.invV (d2 := 1) (as := [.ref 57, .int (x)]) (r := []) (t := (2, 0)) rfl rfl rfl rfl (WF.t (f1.wf hw (fun z => z)) 57 rfl) rfl rfl ⟨rfl, rfl⟩ (by omega) (c85_571 (f1.wf hw (fun z => z)) g1 (by first | omega | (simp only [List.length_append, List.length_cons, List.length_nil]; omega)) ne (Nat.le_refl _) ?_)
  intro k2 f2 g2
  show Wp d 73 14 [some (.ref 57), some (.int (x))] [.int (x - x / (a - n) * (a - n))] k2 Q
  refine Wp.seg 1 (pc1 := 15) (ls1 := [some (.ref 57), some (.int (x))]) (st1 := [.ref 57, .int (x - x / (a - n) * (a - n))]) rfl ?_
  refine Wp.gi (t := (2, 0)) rfl (WF.t (f2.wf (f1.wf hw (fun z => z)) (fun z => z)) 57 rfl) (Or.inl rfl) ?_
  rw [show k2.2.2.1 57 3 = n from g2.2.2.2.2.1]
  refine Wp.seg 2 (pc1 := 23) (ls1 := [some (.ref 57), some (.int (x))]) (st1 := [.int ((x - x / (a - n) * (a - n)) - n)]) rfl ?_
  exact Wp.reti rfl rfl ((hQ k1 f1 g1) k2 f2 g2)
set_option maxHeartbeats 4000000 in
theorem c82_57d {d : Nat} {Q : KO → Prop} {h : KH} (hw : WF h) {L : List Int32} {n a x : Int32} (s : thO h 57 L true n a) (hd : 0 ≤ d) (hQ : Q (some (.int (0)), h)) : Cl d 82 [.ref 57, .int x] h Q := by
  refine Cl.of (ls := [some (.ref 57), some (.int (x))]) rfl rfl ?_
  refine Wp.seg 1 (pc1 := 1) (ls1 := [some (.ref 57), some (.int (x))]) (st1 := [.ref 57]) rfl ?_
  refine Wp.gi (t := (2, 0)) rfl (WF.t hw 57 rfl) (Or.inr rfl) ?_
  rw [show h.2.2.1 57 2 = 1 from s.2.2.2.1]
  refine Wp.if1 rfl (fun c1 => absurd c1 (show ¬ ((1 : Int32) = 0) by decide)) (fun c1 => ?_)
  refine Wp.seg 1 (pc1 := 8) (ls1 := [some (.ref 57), some (.int (x))]) (st1 := [.int (0)]) rfl ?_
  exact Wp.reti rfl rfl hQ
set_option maxHeartbeats 4000000 in
theorem c83_57d {d : Nat} {Q : KO → Prop} {h : KH} (hw : WF h) {L : List Int32} {n a x : Int32} (s : thO h 57 L true n a) (hd : 1 ≤ d) (hQ : Q (some (.int (0)), h)) : Cl d 83 [.ref 57, .int x] h Q := by
  refine Cl.of (ls := [some (.ref 57), some (.int (x))]) rfl rfl ?_
  refine Wp.seg 2 (pc1 := 3) (ls1 := [some (.ref 57), some (.int (x))]) (st1 := [.int (10), .ref 57]) rfl ?_
  refine Wp.invV (d2 := 0) (as := [.ref 57, .int (10)]) (r := []) (t := (2, 0)) rfl rfl rfl rfl (WF.t hw 57 rfl) rfl rfl ⟨rfl, rfl⟩ (by omega) (c82_57d hw s (Nat.le_refl _) ?_)
  show Wp d 83 6 [some (.ref 57), some (.int (x))] [.int (0)] h Q
  refine Wp.if1 rfl (fun c1 => ?_) (fun c1 => absurd (show (0 : Int32) = 0 by decide) c1)
  refine Wp.seg 1 (pc1 := 21) (ls1 := [some (.ref 57), some (.int (x))]) (st1 := [.int (0)]) rfl ?_
  exact Wp.reti rfl rfl hQ
set_option maxHeartbeats 4000000 in
theorem c38_570 {d : Nat} {Q : KO → Prop} {h : KH} (hw : WF h) {L : List Int32} {n a x : Int32} (s : thO h 57 L false n a) (hl : L.length + 3 ≤ 30) (e0 : a - n = 0) (hd : 3 ≤ d) (hQ0 : ∀ k, Fr (pTh 57) noP h k → thO k 57 (L ++ [61, 40, 12]) true n a → Q (some (.int (((0 : Int32) - n) ^^^ (0 : Int32))), k)) : Cl d 38 [.ref 57, .int x] h Q := by
  have hQ : ∀ k1, Fr (pTh 57) noP h k1 → thO k1 57 (L ++ [61]) false n a → (∀ k2, Fr (pTh 57) noP k1 k2 → thO k2 57 ((L ++ [61]) ++ [40, 12]) true n a → (Q (some (.int (((0 : Int32) - n) ^^^ (0 : Int32))), k2))) := fun k1 f1 g1 k2 f2 g2 => hQ0 k2 ((f1).trans f2) (thO_app g2 (by simp only [List.append_assoc, List.cons_append, List.nil_append]))
  refine Cl.of (ls := [some (.ref 57), some (.int (x))]) rfl rfl ?_
  refine Wp.seg 2 (pc1 := 3) (ls1 := [some (.ref 57), some (.int (x))]) (st1 := [.int (61), .ref 57]) rfl ?_
  refine Wp.invV (d2 := 0) (as := [.ref 57, .int (61)]) (r := []) (t := (2, 0)) rfl rfl rfl rfl (WF.t hw 57 rfl) rfl rfl ⟨rfl, rfl⟩ (by omega) (s_bg57 hw s (by first | omega | (simp only [List.length_append, List.length_cons, List.length_nil]; omega)) ?_)
  intro k1 f1 g1
  show Wp d 38 6 [some (.ref 57), some (.int (x))] [.int (1)] k1 Q
  refine Wp.if1 rfl (fun c1 => absurd c1 (show ¬ ((1 : Int32) = 0) by decide)) (fun c1 => ?_)
  refine Wp.seg 2 (pc1 := 11) (ls1 := [some (.ref 57), some (.int (x))]) (st1 := [.int (x), .ref 57]) rfl ?_
  refine Wp.invV (d2 := 2) (as := [.ref 57, .int (x)]) (r := []) (t := (2, 0)) rfl rfl rfl rfl (WF.t (f1.wf hw (fun z => z)) 57 rfl) rfl rfl ⟨rfl, rfl⟩ (by omega) (c73_570 (f1.wf hw (fun z => z)) g1 (by first | omega | (simp only [List.length_append, List.length_cons, List.length_nil]; omega)) e0 (Nat.le_refl _) ?_)
  intro k2 f2 g2
  show Wp d 38 14 [some (.ref 57), some (.int (x))] [.int ((0 : Int32) - n)] k2 Q
  refine Wp.seg 2 (pc1 := 16) (ls1 := [some (.ref 57), some (.int (x))]) (st1 := [.ref 57, .ref 57, .int ((0 : Int32) - n)]) rfl ?_
  refine Wp.gi (t := (2, 0)) rfl (WF.t (f2.wf (f1.wf hw (fun z => z)) (fun z => z)) 57 rfl) (Or.inl rfl) ?_
  rw [show k2.2.2.1 57 3 = n from g2.2.2.2.2.1]
  refine Wp.invV (d2 := 1) (as := [.ref 57, .int (n)]) (r := [.int ((0 : Int32) - n)]) (t := (2, 0)) rfl rfl rfl rfl (WF.t (f2.wf (f1.wf hw (fun z => z)) (fun z => z)) 57 rfl) rfl rfl ⟨rfl, rfl⟩ (by omega) (c83_57d (f2.wf (f1.wf hw (fun z => z)) (fun z => z)) g2 (Nat.le_refl _) ?_)
  show Wp d 38 22 [some (.ref 57), some (.int (x))] [.int (0), .int ((0 : Int32) - n)] k2 Q
  refine Wp.seg 2 (pc1 := 27) (ls1 := [some (.ref 57), some (.int (x))]) (st1 := [.int (((0 : Int32) - n) ^^^ (0 : Int32))]) rfl ?_
  exact Wp.reti rfl rfl ((hQ k1 f1 g1) k2 f2 g2)
set_option maxHeartbeats 4000000 in
theorem c38_571 {d : Nat} {Q : KO → Prop} {h : KH} (hw : WF h) {L : List Int32} {n a x : Int32} (s : thO h 57 L false n a) (hl : L.length + 4 ≤ 30) (ne : ¬ a - n = 0) (hd : 3 ≤ d) (hQ0 : ∀ k, Fr (pTh 57) noP h k → thO k 57 (L ++ [61, 40, 12, 10]) false n a → Q (some (.int (((x - x / (a - n) * (a - n)) - n) ^^^ (n ^^^ (n + (5 : Int32))))), k)) : Cl d 38 [.ref 57, .int x] h Q := by
  have hQ : ∀ k1, Fr (pTh 57) noP h k1 → thO k1 57 (L ++ [61]) false n a → (∀ k2, Fr (pTh 57) noP k1 k2 → thO k2 57 ((L ++ [61]) ++ [40, 12]) false n a → (∀ k3, Fr (pTh 57) noP k2 k3 → thO k3 57 (((L ++ [61]) ++ [40, 12]) ++ [10]) false n a → (Q (some (.int (((x - x / (a - n) * (a - n)) - n) ^^^ (n ^^^ (n + (5 : Int32))))), k3)))) := fun k1 f1 g1 k2 f2 g2 k3 f3 g3 => hQ0 k3 (((f1).trans f2).trans f3) (thO_app g3 (by simp only [List.append_assoc, List.cons_append, List.nil_append]))
  refine Cl.of (ls := [some (.ref 57), some (.int (x))]) rfl rfl ?_
  refine Wp.seg 2 (pc1 := 3) (ls1 := [some (.ref 57), some (.int (x))]) (st1 := [.int (61), .ref 57]) rfl ?_
  refine Wp.invV (d2 := 0) (as := [.ref 57, .int (61)]) (r := []) (t := (2, 0)) rfl rfl rfl rfl (WF.t hw 57 rfl) rfl rfl ⟨rfl, rfl⟩ (by omega) (s_bg57 hw s (by first | omega | (simp only [List.length_append, List.length_cons, List.length_nil]; omega)) ?_)
  intro k1 f1 g1
  show Wp d 38 6 [some (.ref 57), some (.int (x))] [.int (1)] k1 Q
  refine Wp.if1 rfl (fun c1 => absurd c1 (show ¬ ((1 : Int32) = 0) by decide)) (fun c1 => ?_)
  refine Wp.seg 2 (pc1 := 11) (ls1 := [some (.ref 57), some (.int (x))]) (st1 := [.int (x), .ref 57]) rfl ?_
  refine Wp.invV (d2 := 2) (as := [.ref 57, .int (x)]) (r := []) (t := (2, 0)) rfl rfl rfl rfl (WF.t (f1.wf hw (fun z => z)) 57 rfl) rfl rfl ⟨rfl, rfl⟩ (by omega) (c73_571 (f1.wf hw (fun z => z)) g1 (by first | omega | (simp only [List.length_append, List.length_cons, List.length_nil]; omega)) ne (Nat.le_refl _) ?_)
  intro k2 f2 g2
  show Wp d 38 14 [some (.ref 57), some (.int (x))] [.int ((x - x / (a - n) * (a - n)) - n)] k2 Q
  refine Wp.seg 2 (pc1 := 16) (ls1 := [some (.ref 57), some (.int (x))]) (st1 := [.ref 57, .ref 57, .int ((x - x / (a - n) * (a - n)) - n)]) rfl ?_
  refine Wp.gi (t := (2, 0)) rfl (WF.t (f2.wf (f1.wf hw (fun z => z)) (fun z => z)) 57 rfl) (Or.inl rfl) ?_
  rw [show k2.2.2.1 57 3 = n from g2.2.2.2.2.1]
  refine Wp.invV (d2 := 1) (as := [.ref 57, .int (n)]) (r := [.int ((x - x / (a - n) * (a - n)) - n)]) (t := (2, 0)) rfl rfl rfl rfl (WF.t (f2.wf (f1.wf hw (fun z => z)) (fun z => z)) 57 rfl) rfl rfl ⟨rfl, rfl⟩ (by omega) (c83_57 (f2.wf (f1.wf hw (fun z => z)) (fun z => z)) g2 (by first | omega | (simp only [List.length_append, List.length_cons, List.length_nil]; omega)) (Nat.le_refl _) ?_)
  intro k3 f3 g3
  show Wp d 38 22 [some (.ref 57), some (.int (x))] [.int (n ^^^ (n + (5 : Int32))), .int ((x - x / (a - n) * (a - n)) - n)] k3 Q
  refine Wp.seg 2 (pc1 := 27) (ls1 := [some (.ref 57), some (.int (x))]) (st1 := [.int (((x - x / (a - n) * (a - n)) - n) ^^^ (n ^^^ (n + (5 : Int32))))]) rfl ?_
  exact Wp.reti rfl rfl (((hQ k1 f1 g1) k2 f2 g2) k3 f3 g3)
set_option maxHeartbeats 4000000 in
theorem c86_570 {d : Nat} {Q : KO → Prop} {h : KH} (hw : WF h) {L : List Int32} {n a x : Int32} (s : thO h 57 L false n a) (hl : L.length + 7 ≤ 30) (e0 : a - n = 0) (hd : 4 ≤ d) (hQ0 : ∀ k, Fr (pTh 57) noP h k → thO k 57 (L ++ [13, 60, 11, 10, 61, 40, 12]) true n a → Q (some (.int (((((x ^^^ (n + (5 : Int32))) - a) * (3 : Int32)) * (2 : Int32)) + (((0 : Int32) - n) ^^^ (0 : Int32)))), k)) : Cl d 86 [.ref 57, .int x] h Q := by
  have hQ : ∀ k1, Fr (pTh 57) noP h k1 → thO k1 57 (L ++ [13]) false n a → (∀ k2, Fr (pTh 57) noP k1 k2 → thO k2 57 ((L ++ [13]) ++ [60, 11, 10]) false n a → (∀ k3, Fr (pTh 57) noP k2 k3 → thO k3 57 (((L ++ [13]) ++ [60, 11, 10]) ++ [61, 40, 12]) true n a → (Q (some (.int (((((x ^^^ (n + (5 : Int32))) - a) * (3 : Int32)) * (2 : Int32)) + (((0 : Int32) - n) ^^^ (0 : Int32)))), k3)))) := fun k1 f1 g1 k2 f2 g2 k3 f3 g3 => hQ0 k3 (((f1).trans f2).trans f3) (thO_app g3 (by simp only [List.append_assoc, List.cons_append, List.nil_append]))
  refine Cl.of (ls := [some (.ref 57), some (.int (x))]) rfl rfl ?_
  refine Wp.seg 2 (pc1 := 3) (ls1 := [some (.ref 57), some (.int (x))]) (st1 := [.int (13), .ref 57]) rfl ?_
  refine Wp.invV (d2 := 0) (as := [.ref 57, .int (13)]) (r := []) (t := (2, 0)) rfl rfl rfl rfl (WF.t hw 57 rfl) rfl rfl ⟨rfl, rfl⟩ (by omega) (s_bg57 hw s (by first | omega | (simp only [List.length_append, List.length_cons, List.length_nil]; omega)) ?_)
  intro k1 f1 g1
  show Wp d 86 6 [some (.ref 57), some (.int (x))] [.int (1)] k1 Q
  refine Wp.if1 rfl (fun c1 => absurd c1 (show ¬ ((1 : Int32) = 0) by decide)) (fun c1 => ?_)
  refine Wp.seg 2 (pc1 := 11) (ls1 := [some (.ref 57), some (.int (x))]) (st1 := [.int (x), .ref 57]) rfl ?_
  refine Wp.invV (d2 := 3) (as := [.ref 57, .int (x)]) (r := []) (t := (2, 0)) rfl rfl rfl rfl (WF.t (f1.wf hw (fun z => z)) 57 rfl) rfl rfl ⟨rfl, rfl⟩ (by omega) (c37_57 (f1.wf hw (fun z => z)) g1 (by first | omega | (simp only [List.length_append, List.length_cons, List.length_nil]; omega)) (Nat.le_refl _) ?_)
  intro k2 f2 g2
  show Wp d 86 14 [some (.ref 57), some (.int (x))] [.int (((x ^^^ (n + (5 : Int32))) - a) * (3 : Int32))] k2 Q
  refine Wp.seg 4 (pc1 := 18) (ls1 := [some (.ref 57), some (.int (x))]) (st1 := [.int (x), .ref 57, .int ((((x ^^^ (n + (5 : Int32))) - a) * (3 : Int32)) * (2 : Int32))]) rfl ?_
  refine Wp.invV (d2 := 3) (as := [.ref 57, .int (x)]) (r := [.int ((((x ^^^ (n + (5 : Int32))) - a) * (3 : Int32)) * (2 : Int32))]) (t := (2, 0)) rfl rfl rfl rfl (WF.t (f2.wf (f1.wf hw (fun z => z)) (fun z => z)) 57 rfl) rfl rfl ⟨rfl, rfl⟩ (by omega) (c38_570 (f2.wf (f1.wf hw (fun z => z)) (fun z => z)) g2 (by first | omega | (simp only [List.length_append, List.length_cons, List.length_nil]; omega)) e0 (Nat.le_refl _) ?_)
  intro k3 f3 g3
  show Wp d 86 21 [some (.ref 57), some (.int (x))] [.int (((0 : Int32) - n) ^^^ (0 : Int32)), .int ((((x ^^^ (n + (5 : Int32))) - a) * (3 : Int32)) * (2 : Int32))] k3 Q
  refine Wp.seg 2 (pc1 := 26) (ls1 := [some (.ref 57), some (.int (x))]) (st1 := [.int (((((x ^^^ (n + (5 : Int32))) - a) * (3 : Int32)) * (2 : Int32)) + (((0 : Int32) - n) ^^^ (0 : Int32)))]) rfl ?_
  exact Wp.reti rfl rfl (((hQ k1 f1 g1) k2 f2 g2) k3 f3 g3)
set_option maxHeartbeats 4000000 in
theorem c86_571 {d : Nat} {Q : KO → Prop} {h : KH} (hw : WF h) {L : List Int32} {n a x : Int32} (s : thO h 57 L false n a) (hl : L.length + 8 ≤ 30) (ne : ¬ a - n = 0) (hd : 4 ≤ d) (hQ0 : ∀ k, Fr (pTh 57) noP h k → thO k 57 (L ++ [13, 60, 11, 10, 61, 40, 12, 10]) false n a → Q (some (.int (((((x ^^^ (n + (5 : Int32))) - a) * (3 : Int32)) * (2 : Int32)) + (((x - x / (a - n) * (a - n)) - n) ^^^ (n ^^^ (n + (5 : Int32)))))), k)) : Cl d 86 [.ref 57, .int x] h Q := by
  have hQ : ∀ k1, Fr (pTh 57) noP h k1 → thO k1 57 (L ++ [13]) false n a → (∀ k2, Fr (pTh 57) noP k1 k2 → thO k2 57 ((L ++ [13]) ++ [60, 11, 10]) false n a → (∀ k3, Fr (pTh 57) noP k2 k3 → thO k3 57 (((L ++ [13]) ++ [60, 11, 10]) ++ [61, 40, 12, 10]) false n a → (Q (some (.int (((((x ^^^ (n + (5 : Int32))) - a) * (3 : Int32)) * (2 : Int32)) + (((x - x / (a - n) * (a - n)) - n) ^^^ (n ^^^ (n + (5 : Int32)))))), k3)))) := fun k1 f1 g1 k2 f2 g2 k3 f3 g3 => hQ0 k3 (((f1).trans f2).trans f3) (thO_app g3 (by simp only [List.append_assoc, List.cons_append, List.nil_append]))
  refine Cl.of (ls := [some (.ref 57), some (.int (x))]) rfl rfl ?_
  refine Wp.seg 2 (pc1 := 3) (ls1 := [some (.ref 57), some (.int (x))]) (st1 := [.int (13), .ref 57]) rfl ?_
  refine Wp.invV (d2 := 0) (as := [.ref 57, .int (13)]) (r := []) (t := (2, 0)) rfl rfl rfl rfl (WF.t hw 57 rfl) rfl rfl ⟨rfl, rfl⟩ (by omega) (s_bg57 hw s (by first | omega | (simp only [List.length_append, List.length_cons, List.length_nil]; omega)) ?_)
  intro k1 f1 g1
  show Wp d 86 6 [some (.ref 57), some (.int (x))] [.int (1)] k1 Q
  refine Wp.if1 rfl (fun c1 => absurd c1 (show ¬ ((1 : Int32) = 0) by decide)) (fun c1 => ?_)
  refine Wp.seg 2 (pc1 := 11) (ls1 := [some (.ref 57), some (.int (x))]) (st1 := [.int (x), .ref 57]) rfl ?_
  refine Wp.invV (d2 := 3) (as := [.ref 57, .int (x)]) (r := []) (t := (2, 0)) rfl rfl rfl rfl (WF.t (f1.wf hw (fun z => z)) 57 rfl) rfl rfl ⟨rfl, rfl⟩ (by omega) (c37_57 (f1.wf hw (fun z => z)) g1 (by first | omega | (simp only [List.length_append, List.length_cons, List.length_nil]; omega)) (Nat.le_refl _) ?_)
  intro k2 f2 g2
  show Wp d 86 14 [some (.ref 57), some (.int (x))] [.int (((x ^^^ (n + (5 : Int32))) - a) * (3 : Int32))] k2 Q
  refine Wp.seg 4 (pc1 := 18) (ls1 := [some (.ref 57), some (.int (x))]) (st1 := [.int (x), .ref 57, .int ((((x ^^^ (n + (5 : Int32))) - a) * (3 : Int32)) * (2 : Int32))]) rfl ?_
  refine Wp.invV (d2 := 3) (as := [.ref 57, .int (x)]) (r := [.int ((((x ^^^ (n + (5 : Int32))) - a) * (3 : Int32)) * (2 : Int32))]) (t := (2, 0)) rfl rfl rfl rfl (WF.t (f2.wf (f1.wf hw (fun z => z)) (fun z => z)) 57 rfl) rfl rfl ⟨rfl, rfl⟩ (by omega) (c38_571 (f2.wf (f1.wf hw (fun z => z)) (fun z => z)) g2 (by first | omega | (simp only [List.length_append, List.length_cons, List.length_nil]; omega)) ne (Nat.le_refl _) ?_)
  intro k3 f3 g3
  show Wp d 86 21 [some (.ref 57), some (.int (x))] [.int (((x - x / (a - n) * (a - n)) - n) ^^^ (n ^^^ (n + (5 : Int32)))), .int ((((x ^^^ (n + (5 : Int32))) - a) * (3 : Int32)) * (2 : Int32))] k3 Q
  refine Wp.seg 2 (pc1 := 26) (ls1 := [some (.ref 57), some (.int (x))]) (st1 := [.int (((((x ^^^ (n + (5 : Int32))) - a) * (3 : Int32)) * (2 : Int32)) + (((x - x / (a - n) * (a - n)) - n) ^^^ (n ^^^ (n + (5 : Int32)))))]) rfl ?_
  exact Wp.reti rfl rfl (((hQ k1 f1 g1) k2 f2 g2) k3 f3 g3)
