/-! KM: the reference: prove, its loop -/
theorem s_mpvL {d : Nat} {Q : KO → Prop} {RL : List Rul} {S A : Nat → Int32} {v : Int32} {L n c dn en p : Nat} (hL : L ≤ 4) (hLe : dn + L ≤ en) (hp : p < (n + 1) ^ L) (hS8 : S 8 = Int32.ofNat n) (hok : ∀ j, j < L → okT n (Int32.ofNat ((digsR (n + 1) L p).getD j 0) - 1)) (hd : 6 ≤ d) : ∀ (m i : Nat) (h : KH), i + m = L → WF h → h.2.2.1 59 15 = Int32.ofNat p → refTh h S (apA RL (digsR (n + 1) L p) A i) RL n c (dn + i) en → (∀ H, Fr (fun c => pM c ∨ c = 67 ∨ c = 59) noP h H → H.2.2.1 60 = S → H.2.2.1 59 20 = Int32.ofNat L → (∀ q, q ≠ 20 → H.2.2.1 59 q = h.2.2.1 59 q) → (∀ j, i ≤ j → j < L → H.2.2.1 67 (3 * j) = Int32.ofNat ((digsR (n + 1) L p).getD j 0) ∧ H.2.2.1 67 (3 * j + 1) = wA RL (apA RL (digsR (n + 1) L p) A j) (Int32.ofNat ((digsR (n + 1) L p).getD j 0) - 1) ∧ H.2.2.1 67 (3 * j + 2) = shA c (apA RL (digsR (n + 1) L p) A (j + 1))) → (∀ x, (x < 3 * i ∨ 3 * L ≤ x) → H.2.2.1 67 x = h.2.2.1 67 x) → Q (some (.int (Int32.ofNat L)), H)) → Wp d 259 28 [some (.ref 59), some (.int v), some (.int (Int32.ofNat L)), some (.int (Int32.ofNat i))] [] h Q := by
  intro m
  induction m with
  | zero =>
    intro i h e hw h15 hk hQ
    refine t_mpv3 hw hk ((nle (by omega) (by omega)).mpr (by omega)) hd (fun k f e60 => ?_)
    have f1 : Fr (fun c => pM c ∨ c = 67 ∨ c = 59) noP h k := f.mono (fun c z => Or.inl (Or.inl z)) (fun _ z => z)
    have f2 : Fr (fun c => pM c ∨ c = 67 ∨ c = 59) noP k (kwi k 59 20 (Int32.ofNat L)) := fr_kwi (Or.inr (Or.inr rfl)) (by decide)
    refine hQ _ (f1.trans f2) (by rw [kwi_r (by decide)]; exact e60) kwi_s (fun q hq => by rw [kwi_o hq, f.2.2.1 59 (Or.inl (by decide))]) (fun j h1 h2 => by omega) (fun x _ => by rw [kwi_r (by decide), f.2.2.1 67 (Or.inl (by decide))])
  | succ m ih =>
    intro i h e hw h15 hk hQ
    refine t_mpv4 hw hk (fun c => absurd ((nle (by omega) (by omega)).mp c) (by omega)) (by omega) hL hp h15 hS8 (by omega) (hok i (by omega)) hd (fun k f g e2 => ?_)
    rw [show Int32.ofNat i + (1 : Int32) = Int32.ofNat (i + 1) from (Int32.ofNat_add i 1).symm]
    obtain ⟨W, eW⟩ : ∃ W, wA RL (apA RL (digsR (n + 1) L p) A i) (Int32.ofNat ((digsR (n + 1) L p).getD i 0) - 1) = W := ⟨_, rfl⟩
    obtain ⟨Z, eZ⟩ : ∃ Z, shA c (goA RL (apA RL (digsR (n + 1) L p) A i) (Int32.ofNat ((digsR (n + 1) L p).getD i 0) - 1)) = Z := ⟨_, rfl⟩
    rw [eW, eZ]
    have f0 : Fr (fun c => pM c ∨ c = 67 ∨ c = 59) noP h (kwi h 67 (3 * i) (Int32.ofNat ((digsR (n + 1) L p).getD i 0))) := fr_kwi (Or.inr (Or.inl rfl)) (by decide)
    have f1 : Fr (fun c => pM c ∨ c = 67 ∨ c = 59) noP (kwi h 67 (3 * i) (Int32.ofNat ((digsR (n + 1) L p).getD i 0))) k := f.mono (fun c z => Or.inl z) (fun _ z => z)
    have f2 : Fr (fun c => pM c ∨ c = 67 ∨ c = 59) noP k (kwi k 67 (3 * i + 1) W) := fr_kwi (Or.inr (Or.inl rfl)) (by decide)
    have f3 : Fr (fun c => pM c ∨ c = 67 ∨ c = 59) noP (kwi k 67 (3 * i + 1) W) (kwi (kwi k 67 (3 * i + 1) W) 67 (3 * i + 2) Z) := fr_kwi (Or.inr (Or.inl rfl)) (by decide)
    have fk := f0.trans f1
    have ff := fk.trans (f2.trans f3)
    have e59 : (kwi (kwi k 67 (3 * i + 1) W) 67 (3 * i + 2) Z).2.2.1 59 = h.2.2.1 59 := by
      rw [kwi_r (by decide), kwi_r (by decide), f.2.2.1 59 (Or.inl (by unfold pM; decide)), kwi_r (by decide)]
    have k67 : k.2.2.1 67 = (kwi h 67 (3 * i) (Int32.ofNat ((digsR (n + 1) L p).getD i 0))).2.2.1 67 := f.2.2.1 67 (Or.inl (by unfold pM; decide))
    have hT : refTh k S (apA RL (digsR (n + 1) L p) A (i + 1)) RL n c (dn + i + 1) en := ⟨g, fun j hj => by rw [f.2.2.1 62 (Or.inl (by unfold pM; decide)), kwi_r (by decide)]; exact hk.2.1 j hj, fun q hq => (e2 q hq).trans (hk.2.2 q hq)⟩
    refine ih (i + 1) _ (by omega) (ff.wf hw (fun z => z)) (by rw [e59]; exact h15) hT (fun H fH a1 a2 a3 a4 a5 => ?_)
    refine hQ H (ff.trans fH) a1 a2 (fun q hq => by rw [a3 q hq, e59]) (fun j h1 h2 => ?_) (fun x hx => ?_)
    · by_cases ej : j = i
      · subst ej
        rw [a5 (3 * j) (by omega), a5 (3 * j + 1) (by omega), a5 (3 * j + 2) (by omega)]
        refine ⟨?_, ?_, ?_⟩
        · rw [kwi_o (by omega), kwi_o (by omega), k67]
          exact kwi_s
        · rw [kwi_o (by omega), kwi_s, eW]
        · rw [kwi_s]
          exact eZ.symm
      · exact a4 j (by omega) h2
    · rw [a5 x (by omega), kwi_o (by omega), kwi_o (by omega), k67, kwi_o (by omega)]
