/-! KM: the reference: findBest(), siege(), bars() -/
set_option maxHeartbeats 4000000 in
theorem t_fbB {d : Nat} {Q : KO → Prop} {h : KH} (hw : WF h) {S A : Nat → Int32} {RL : List Rul} {n c dn en : Nat} (hk : refTh h S A RL n c dn en) {p L N : Nat} {bp bw bm : Int32} (hL : L ≤ 4) (hp : p < (n + 1) ^ L) (hdn : dn + L ≤ en) (hN : p < N) (hN2 : N ≤ 2401) (h15 : h.2.2.1 59 15 = bp) (h16 : h.2.2.1 59 16 = bw) (h17 : h.2.2.1 59 17 = bm) {m : Int32} {z : Option Value} (hd : 7 ≤ d) (hQ : ∀ k, Fr pN noP h k → k.2.2.1 60 = S → k.2.2.1 59 14 = (outc RL c (digsR (n + 1) L p) A 0 0 (shA c A)).2.2 → (∀ x, x ≠ 14 → k.2.2.1 59 x = h.2.2.1 59 x) → ((((outc RL c (digsR (n + 1) L p) A 0 0 (shA c A)).1) ≤ bw → (¬ ((outc RL c (digsR (n + 1) L p) A 0 0 (shA c A)).1) = bw → (((outc RL c (digsR (n + 1) L p) A 0 0 (shA c A)).1) ≤ bw → (((outc RL c (digsR (n + 1) L p) A 0 0 (shA c A)).1) ≤ bw → Wp d 239 24 ([some (.ref 59), some (.int (m)), some (.int (Int32.ofNat L)), some (.int (Int32.ofNat N)), some (.int ((Int32.ofNat p) + 1)), some (.int ((outc RL c (digsR (n + 1) L p) A 0 0 (shA c A)).1))]) [] (kwi (kwi (kwi k 59 17 bm) 59 15 bp) 59 16 bw) Q) ∧ (¬ (((outc RL c (digsR (n + 1) L p) A 0 0 (shA c A)).1) ≤ bw) → Wp d 239 24 ([some (.ref 59), some (.int (m)), some (.int (Int32.ofNat L)), some (.int (Int32.ofNat N)), some (.int ((Int32.ofNat p) + 1)), some (.int ((outc RL c (digsR (n + 1) L p) A 0 0 (shA c A)).1))]) [] (kwi (kwi (kwi k 59 17 bm) 59 15 bp) 59 16 ((outc RL c (digsR (n + 1) L p) A 0 0 (shA c A)).1)) Q)) ∧ (¬ (((outc RL c (digsR (n + 1) L p) A 0 0 (shA c A)).1) ≤ bw) → (((outc RL c (digsR (n + 1) L p) A 0 0 (shA c A)).1) ≤ bw → Wp d 239 24 ([some (.ref 59), some (.int (m)), some (.int (Int32.ofNat L)), some (.int (Int32.ofNat N)), some (.int ((Int32.ofNat p) + 1)), some (.int ((outc RL c (digsR (n + 1) L p) A 0 0 (shA c A)).1))]) [] (kwi (kwi (kwi k 59 17 bm) 59 15 (Int32.ofNat p)) 59 16 bw) Q) ∧ (¬ (((outc RL c (digsR (n + 1) L p) A 0 0 (shA c A)).1) ≤ bw) → Wp d 239 24 ([some (.ref 59), some (.int (m)), some (.int (Int32.ofNat L)), some (.int (Int32.ofNat N)), some (.int ((Int32.ofNat p) + 1)), some (.int ((outc RL c (digsR (n + 1) L p) A 0 0 (shA c A)).1))]) [] (kwi (kwi (kwi k 59 17 bm) 59 15 (Int32.ofNat p)) 59 16 ((outc RL c (digsR (n + 1) L p) A 0 0 (shA c A)).1)) Q))) ∧ (¬ (¬ ((outc RL c (digsR (n + 1) L p) A 0 0 (shA c A)).1) = bw) → (((outc RL c (digsR (n + 1) L p) A 0 0 (shA c A)).1) ≤ bw → (((outc RL c (digsR (n + 1) L p) A 0 0 (shA c A)).1) ≤ bw → Wp d 239 24 ([some (.ref 59), some (.int (m)), some (.int (Int32.ofNat L)), some (.int (Int32.ofNat N)), some (.int ((Int32.ofNat p) + 1)), some (.int ((outc RL c (digsR (n + 1) L p) A 0 0 (shA c A)).1))]) [] (kwi (kwi (kwi k 59 17 (bm + (1 : Int32))) 59 15 bp) 59 16 bw) Q) ∧ (¬ (((outc RL c (digsR (n + 1) L p) A 0 0 (shA c A)).1) ≤ bw) → Wp d 239 24 ([some (.ref 59), some (.int (m)), some (.int (Int32.ofNat L)), some (.int (Int32.ofNat N)), some (.int ((Int32.ofNat p) + 1)), some (.int ((outc RL c (digsR (n + 1) L p) A 0 0 (shA c A)).1))]) [] (kwi (kwi (kwi k 59 17 (bm + (1 : Int32))) 59 15 bp) 59 16 ((outc RL c (digsR (n + 1) L p) A 0 0 (shA c A)).1)) Q)) ∧ (¬ (((outc RL c (digsR (n + 1) L p) A 0 0 (shA c A)).1) ≤ bw) → (((outc RL c (digsR (n + 1) L p) A 0 0 (shA c A)).1) ≤ bw → Wp d 239 24 ([some (.ref 59), some (.int (m)), some (.int (Int32.ofNat L)), some (.int (Int32.ofNat N)), some (.int ((Int32.ofNat p) + 1)), some (.int ((outc RL c (digsR (n + 1) L p) A 0 0 (shA c A)).1))]) [] (kwi (kwi (kwi k 59 17 (bm + (1 : Int32))) 59 15 (Int32.ofNat p)) 59 16 bw) Q) ∧ (¬ (((outc RL c (digsR (n + 1) L p) A 0 0 (shA c A)).1) ≤ bw) → Wp d 239 24 ([some (.ref 59), some (.int (m)), some (.int (Int32.ofNat L)), some (.int (Int32.ofNat N)), some (.int ((Int32.ofNat p) + 1)), some (.int ((outc RL c (digsR (n + 1) L p) A 0 0 (shA c A)).1))]) [] (kwi (kwi (kwi k 59 17 (bm + (1 : Int32))) 59 15 (Int32.ofNat p)) 59 16 ((outc RL c (digsR (n + 1) L p) A 0 0 (shA c A)).1)) Q)))) ∧ (¬ (((outc RL c (digsR (n + 1) L p) A 0 0 (shA c A)).1) ≤ bw) → (((outc RL c (digsR (n + 1) L p) A 0 0 (shA c A)).1) ≤ bw → (((outc RL c (digsR (n + 1) L p) A 0 0 (shA c A)).1) ≤ bw → Wp d 239 24 ([some (.ref 59), some (.int (m)), some (.int (Int32.ofNat L)), some (.int (Int32.ofNat N)), some (.int ((Int32.ofNat p) + 1)), some (.int ((outc RL c (digsR (n + 1) L p) A 0 0 (shA c A)).1))]) [] (kwi (kwi (kwi k 59 17 (1 : Int32)) 59 15 bp) 59 16 bw) Q) ∧ (¬ (((outc RL c (digsR (n + 1) L p) A 0 0 (shA c A)).1) ≤ bw) → Wp d 239 24 ([some (.ref 59), some (.int (m)), some (.int (Int32.ofNat L)), some (.int (Int32.ofNat N)), some (.int ((Int32.ofNat p) + 1)), some (.int ((outc RL c (digsR (n + 1) L p) A 0 0 (shA c A)).1))]) [] (kwi (kwi (kwi k 59 17 (1 : Int32)) 59 15 bp) 59 16 ((outc RL c (digsR (n + 1) L p) A 0 0 (shA c A)).1)) Q)) ∧ (¬ (((outc RL c (digsR (n + 1) L p) A 0 0 (shA c A)).1) ≤ bw) → (((outc RL c (digsR (n + 1) L p) A 0 0 (shA c A)).1) ≤ bw → Wp d 239 24 ([some (.ref 59), some (.int (m)), some (.int (Int32.ofNat L)), some (.int (Int32.ofNat N)), some (.int ((Int32.ofNat p) + 1)), some (.int ((outc RL c (digsR (n + 1) L p) A 0 0 (shA c A)).1))]) [] (kwi (kwi (kwi k 59 17 (1 : Int32)) 59 15 (Int32.ofNat p)) 59 16 bw) Q) ∧ (¬ (((outc RL c (digsR (n + 1) L p) A 0 0 (shA c A)).1) ≤ bw) → Wp d 239 24 ([some (.ref 59), some (.int (m)), some (.int (Int32.ofNat L)), some (.int (Int32.ofNat N)), some (.int ((Int32.ofNat p) + 1)), some (.int ((outc RL c (digsR (n + 1) L p) A 0 0 (shA c A)).1))]) [] (kwi (kwi (kwi k 59 17 (1 : Int32)) 59 15 (Int32.ofNat p)) 59 16 ((outc RL c (digsR (n + 1) L p) A 0 0 (shA c A)).1)) Q))))) : Wp d 239 24 [some (.ref 59), some (.int (m)), some (.int (Int32.ofNat L)), some (.int (Int32.ofNat N)), some (.int (Int32.ofNat p)), z] [] h Q := by
  refine Wp.seg 2 (pc1 := 27) (ls1 := [some (.ref 59), some (.int (m)), some (.int (Int32.ofNat L)), some (.int (Int32.ofNat N)), some (.int (Int32.ofNat p)), z]) (st1 := [.int (Int32.ofNat N), .int (Int32.ofNat p)]) rfl ?_
  refine Wp.if2 rfl (fun c1 => absurd c1 (fun c => by have := (ole (by omega) (by omega)).mp c; omega)) (fun c1 => ?_)
  refine Wp.seg 3 (pc1 := 34) (ls1 := [some (.ref 59), some (.int (m)), some (.int (Int32.ofNat L)), some (.int (Int32.ofNat N)), some (.int (Int32.ofNat p)), z]) (st1 := [.int (Int32.ofNat L), .int (Int32.ofNat p), .ref 59]) rfl ?_
  refine Wp.invV (d2 := 6) (as := [.ref 59, .int (Int32.ofNat p), .int (Int32.ofNat L)]) (r := []) (t := (11, 0)) rfl rfl rfl rfl (WF.t hw 59 rfl) rfl rfl ⟨rfl, rfl⟩ (by omega) (r_worth hw hk hL hp hdn (Nat.le_refl _) ?_)
  intro k f e1 e2 e3
  show Wp d 239 37 [some (.ref 59), some (.int (m)), some (.int (Int32.ofNat L)), some (.int (Int32.ofNat N)), some (.int (Int32.ofNat p)), z] [.int ((outc RL c (digsR (n + 1) L p) A 0 0 (shA c A)).1)] k Q
  refine Wp.seg 4 (pc1 := 43) (ls1 := [some (.ref 59), some (.int (m)), some (.int (Int32.ofNat L)), some (.int (Int32.ofNat N)), some (.int (Int32.ofNat p)), some (.int ((outc RL c (digsR (n + 1) L p) A 0 0 (shA c A)).1))]) (st1 := [.ref 59, .int ((outc RL c (digsR (n + 1) L p) A 0 0 (shA c A)).1), .ref 59]) rfl ?_
  refine Wp.gi (t := (11, 0)) rfl (WF.t (f.wf hw (fun z => z)) 59 rfl) (Or.inl rfl) ?_
  rw [show k.2.2.1 59 16 = bw from (e3 16 (by decide)).trans h16]
  refine Wp.if2 rfl (fun (c2 : ((outc RL c (digsR (n + 1) L p) A 0 0 (shA c A)).1) ≤ bw) => ?_) (fun (c2 : ¬ (((outc RL c (digsR (n + 1) L p) A 0 0 (shA c A)).1) ≤ bw)) => ?_)
  · refine Wp.seg 2 (pc1 := 56) (ls1 := [some (.ref 59), some (.int (m)), some (.int (Int32.ofNat L)), some (.int (Int32.ofNat N)), some (.int (Int32.ofNat p)), some (.int ((outc RL c (digsR (n + 1) L p) A 0 0 (shA c A)).1))]) (st1 := [.ref 59, .int ((outc RL c (digsR (n + 1) L p) A 0 0 (shA c A)).1), .ref 59]) rfl ?_
    refine Wp.gi (t := (11, 0)) rfl (WF.t (f.wf hw (fun z => z)) 59 rfl) (Or.inl rfl) ?_
    rw [show k.2.2.1 59 16 = bw from (e3 16 (by decide)).trans h16]
    refine Wp.if2 rfl (fun (c3 : ¬ ((outc RL c (digsR (n + 1) L p) A 0 0 (shA c A)).1) = bw) => ?_) (fun (c3 : ¬ (¬ ((outc RL c (digsR (n + 1) L p) A 0 0 (shA c A)).1) = bw)) => ?_)
    · refine Wp.seg 1 (pc1 := 72) (ls1 := [some (.ref 59), some (.int (m)), some (.int (Int32.ofNat L)), some (.int (Int32.ofNat N)), some (.int (Int32.ofNat p)), some (.int ((outc RL c (digsR (n + 1) L p) A 0 0 (shA c A)).1))]) (st1 := [.ref 59, .ref 59]) rfl ?_
      refine Wp.gi (t := (11, 0)) rfl (WF.t (f.wf hw (fun z => z)) 59 rfl) (Or.inl rfl) ?_
      rw [show k.2.2.1 59 17 = bm from (e3 17 (by decide)).trans h17]
      refine Wp.pi (t := (11, 0)) rfl (WF.t (f.wf hw (fun z => z)) 59 rfl) (Or.inl rfl) ?_
      refine Wp.seg 3 (pc1 := 82) (ls1 := [some (.ref 59), some (.int (m)), some (.int (Int32.ofNat L)), some (.int (Int32.ofNat N)), some (.int (Int32.ofNat p)), some (.int ((outc RL c (digsR (n + 1) L p) A 0 0 (shA c A)).1))]) (st1 := [.ref 59, .int ((outc RL c (digsR (n + 1) L p) A 0 0 (shA c A)).1), .ref 59]) rfl ?_
      refine Wp.gi (t := (11, 0)) rfl (WF.t (f.wf hw (fun z => z)) 59 rfl) (Or.inl rfl) ?_
      rw [show (kwi k 59 17 bm).2.2.1 59 16 = bw from ((kwi_o (by decide)).trans (rfl)).trans ((e3 16 (by decide)).trans h16)]
      refine Wp.if2 rfl (fun (c4 : ((outc RL c (digsR (n + 1) L p) A 0 0 (shA c A)).1) ≤ bw) => ?_) (fun (c4 : ¬ (((outc RL c (digsR (n + 1) L p) A 0 0 (shA c A)).1) ≤ bw)) => ?_)
      · refine Wp.seg 1 (pc1 := 94) (ls1 := [some (.ref 59), some (.int (m)), some (.int (Int32.ofNat L)), some (.int (Int32.ofNat N)), some (.int (Int32.ofNat p)), some (.int ((outc RL c (digsR (n + 1) L p) A 0 0 (shA c A)).1))]) (st1 := [.ref 59, .ref 59]) rfl ?_
        refine Wp.gi (t := (11, 0)) rfl (WF.t (f.wf hw (fun z => z)) 59 rfl) (Or.inl rfl) ?_
        rw [show (kwi k 59 17 bm).2.2.1 59 15 = bp from ((kwi_o (by decide)).trans (rfl)).trans ((e3 15 (by decide)).trans h15)]
        refine Wp.pi (t := (11, 0)) rfl (WF.t (f.wf hw (fun z => z)) 59 rfl) (Or.inl rfl) ?_
        refine Wp.seg 3 (pc1 := 104) (ls1 := [some (.ref 59), some (.int (m)), some (.int (Int32.ofNat L)), some (.int (Int32.ofNat N)), some (.int (Int32.ofNat p)), some (.int ((outc RL c (digsR (n + 1) L p) A 0 0 (shA c A)).1))]) (st1 := [.ref 59, .int ((outc RL c (digsR (n + 1) L p) A 0 0 (shA c A)).1), .ref 59]) rfl ?_
        refine Wp.gi (t := (11, 0)) rfl (WF.t (f.wf hw (fun z => z)) 59 rfl) (Or.inl rfl) ?_
        rw [show (kwi (kwi k 59 17 bm) 59 15 bp).2.2.1 59 16 = bw from ((kwi_o (by decide)).trans ((kwi_o (by decide)).trans (rfl))).trans ((e3 16 (by decide)).trans h16)]
        refine Wp.if2 rfl (fun (c5 : ((outc RL c (digsR (n + 1) L p) A 0 0 (shA c A)).1) ≤ bw) => ?_) (fun (c5 : ¬ (((outc RL c (digsR (n + 1) L p) A 0 0 (shA c A)).1) ≤ bw)) => ?_)
        · refine Wp.seg 1 (pc1 := 116) (ls1 := [some (.ref 59), some (.int (m)), some (.int (Int32.ofNat L)), some (.int (Int32.ofNat N)), some (.int (Int32.ofNat p)), some (.int ((outc RL c (digsR (n + 1) L p) A 0 0 (shA c A)).1))]) (st1 := [.ref 59, .ref 59]) rfl ?_
          refine Wp.gi (t := (11, 0)) rfl (WF.t (f.wf hw (fun z => z)) 59 rfl) (Or.inl rfl) ?_
          rw [show (kwi (kwi k 59 17 bm) 59 15 bp).2.2.1 59 16 = bw from ((kwi_o (by decide)).trans ((kwi_o (by decide)).trans (rfl))).trans ((e3 16 (by decide)).trans h16)]
          refine Wp.pi (t := (11, 0)) rfl (WF.t (f.wf hw (fun z => z)) 59 rfl) (Or.inl rfl) ?_
          refine Wp.seg 2 (pc1 := 24) (ls1 := [some (.ref 59), some (.int (m)), some (.int (Int32.ofNat L)), some (.int (Int32.ofNat N)), some (.int ((Int32.ofNat p) + 1)), some (.int ((outc RL c (digsR (n + 1) L p) A 0 0 (shA c A)).1))]) (st1 := []) rfl ?_
          exact (((((hQ k f e1 e2 e3).1 c2).1 c3).1 c4).1 c5)
        · refine Wp.seg 2 (pc1 := 119) (ls1 := [some (.ref 59), some (.int (m)), some (.int (Int32.ofNat L)), some (.int (Int32.ofNat N)), some (.int (Int32.ofNat p)), some (.int ((outc RL c (digsR (n + 1) L p) A 0 0 (shA c A)).1))]) (st1 := [.int ((outc RL c (digsR (n + 1) L p) A 0 0 (shA c A)).1), .ref 59]) rfl ?_
          refine Wp.pi (t := (11, 0)) rfl (WF.t (f.wf hw (fun z => z)) 59 rfl) (Or.inl rfl) ?_
          refine Wp.seg 2 (pc1 := 24) (ls1 := [some (.ref 59), some (.int (m)), some (.int (Int32.ofNat L)), some (.int (Int32.ofNat N)), some (.int ((Int32.ofNat p) + 1)), some (.int ((outc RL c (digsR (n + 1) L p) A 0 0 (shA c A)).1))]) (st1 := []) rfl ?_
          exact (((((hQ k f e1 e2 e3).1 c2).1 c3).1 c4).2 c5)
      · refine Wp.seg 2 (pc1 := 97) (ls1 := [some (.ref 59), some (.int (m)), some (.int (Int32.ofNat L)), some (.int (Int32.ofNat N)), some (.int (Int32.ofNat p)), some (.int ((outc RL c (digsR (n + 1) L p) A 0 0 (shA c A)).1))]) (st1 := [.int (Int32.ofNat p), .ref 59]) rfl ?_
        refine Wp.pi (t := (11, 0)) rfl (WF.t (f.wf hw (fun z => z)) 59 rfl) (Or.inl rfl) ?_
        refine Wp.seg 3 (pc1 := 104) (ls1 := [some (.ref 59), some (.int (m)), some (.int (Int32.ofNat L)), some (.int (Int32.ofNat N)), some (.int (Int32.ofNat p)), some (.int ((outc RL c (digsR (n + 1) L p) A 0 0 (shA c A)).1))]) (st1 := [.ref 59, .int ((outc RL c (digsR (n + 1) L p) A 0 0 (shA c A)).1), .ref 59]) rfl ?_
        refine Wp.gi (t := (11, 0)) rfl (WF.t (f.wf hw (fun z => z)) 59 rfl) (Or.inl rfl) ?_
        rw [show (kwi (kwi k 59 17 bm) 59 15 (Int32.ofNat p)).2.2.1 59 16 = bw from ((kwi_o (by decide)).trans ((kwi_o (by decide)).trans (rfl))).trans ((e3 16 (by decide)).trans h16)]
        refine Wp.if2 rfl (fun (c6 : ((outc RL c (digsR (n + 1) L p) A 0 0 (shA c A)).1) ≤ bw) => ?_) (fun (c6 : ¬ (((outc RL c (digsR (n + 1) L p) A 0 0 (shA c A)).1) ≤ bw)) => ?_)
        · refine Wp.seg 1 (pc1 := 116) (ls1 := [some (.ref 59), some (.int (m)), some (.int (Int32.ofNat L)), some (.int (Int32.ofNat N)), some (.int (Int32.ofNat p)), some (.int ((outc RL c (digsR (n + 1) L p) A 0 0 (shA c A)).1))]) (st1 := [.ref 59, .ref 59]) rfl ?_
          refine Wp.gi (t := (11, 0)) rfl (WF.t (f.wf hw (fun z => z)) 59 rfl) (Or.inl rfl) ?_
          rw [show (kwi (kwi k 59 17 bm) 59 15 (Int32.ofNat p)).2.2.1 59 16 = bw from ((kwi_o (by decide)).trans ((kwi_o (by decide)).trans (rfl))).trans ((e3 16 (by decide)).trans h16)]
          refine Wp.pi (t := (11, 0)) rfl (WF.t (f.wf hw (fun z => z)) 59 rfl) (Or.inl rfl) ?_
          refine Wp.seg 2 (pc1 := 24) (ls1 := [some (.ref 59), some (.int (m)), some (.int (Int32.ofNat L)), some (.int (Int32.ofNat N)), some (.int ((Int32.ofNat p) + 1)), some (.int ((outc RL c (digsR (n + 1) L p) A 0 0 (shA c A)).1))]) (st1 := []) rfl ?_
          exact (((((hQ k f e1 e2 e3).1 c2).1 c3).2 c4).1 c6)
        · refine Wp.seg 2 (pc1 := 119) (ls1 := [some (.ref 59), some (.int (m)), some (.int (Int32.ofNat L)), some (.int (Int32.ofNat N)), some (.int (Int32.ofNat p)), some (.int ((outc RL c (digsR (n + 1) L p) A 0 0 (shA c A)).1))]) (st1 := [.int ((outc RL c (digsR (n + 1) L p) A 0 0 (shA c A)).1), .ref 59]) rfl ?_
          refine Wp.pi (t := (11, 0)) rfl (WF.t (f.wf hw (fun z => z)) 59 rfl) (Or.inl rfl) ?_
          refine Wp.seg 2 (pc1 := 24) (ls1 := [some (.ref 59), some (.int (m)), some (.int (Int32.ofNat L)), some (.int (Int32.ofNat N)), some (.int ((Int32.ofNat p) + 1)), some (.int ((outc RL c (digsR (n + 1) L p) A 0 0 (shA c A)).1))]) (st1 := []) rfl ?_
          exact (((((hQ k f e1 e2 e3).1 c2).1 c3).2 c4).2 c6)
    · refine Wp.seg 1 (pc1 := 63) (ls1 := [some (.ref 59), some (.int (m)), some (.int (Int32.ofNat L)), some (.int (Int32.ofNat N)), some (.int (Int32.ofNat p)), some (.int ((outc RL c (digsR (n + 1) L p) A 0 0 (shA c A)).1))]) (st1 := [.ref 59, .ref 59]) rfl ?_
      refine Wp.gi (t := (11, 0)) rfl (WF.t (f.wf hw (fun z => z)) 59 rfl) (Or.inl rfl) ?_
      rw [show k.2.2.1 59 17 = bm from (e3 17 (by decide)).trans h17]
      refine Wp.seg 3 (pc1 := 75) (ls1 := [some (.ref 59), some (.int (m)), some (.int (Int32.ofNat L)), some (.int (Int32.ofNat N)), some (.int (Int32.ofNat p)), some (.int ((outc RL c (digsR (n + 1) L p) A 0 0 (shA c A)).1))]) (st1 := [.int (bm + (1 : Int32)), .ref 59]) rfl ?_
      refine Wp.pi (t := (11, 0)) rfl (WF.t (f.wf hw (fun z => z)) 59 rfl) (Or.inl rfl) ?_
      refine Wp.seg 3 (pc1 := 82) (ls1 := [some (.ref 59), some (.int (m)), some (.int (Int32.ofNat L)), some (.int (Int32.ofNat N)), some (.int (Int32.ofNat p)), some (.int ((outc RL c (digsR (n + 1) L p) A 0 0 (shA c A)).1))]) (st1 := [.ref 59, .int ((outc RL c (digsR (n + 1) L p) A 0 0 (shA c A)).1), .ref 59]) rfl ?_
      refine Wp.gi (t := (11, 0)) rfl (WF.t (f.wf hw (fun z => z)) 59 rfl) (Or.inl rfl) ?_
      rw [show (kwi k 59 17 (bm + (1 : Int32))).2.2.1 59 16 = bw from ((kwi_o (by decide)).trans (rfl)).trans ((e3 16 (by decide)).trans h16)]
      refine Wp.if2 rfl (fun (c7 : ((outc RL c (digsR (n + 1) L p) A 0 0 (shA c A)).1) ≤ bw) => ?_) (fun (c7 : ¬ (((outc RL c (digsR (n + 1) L p) A 0 0 (shA c A)).1) ≤ bw)) => ?_)
      · refine Wp.seg 1 (pc1 := 94) (ls1 := [some (.ref 59), some (.int (m)), some (.int (Int32.ofNat L)), some (.int (Int32.ofNat N)), some (.int (Int32.ofNat p)), some (.int ((outc RL c (digsR (n + 1) L p) A 0 0 (shA c A)).1))]) (st1 := [.ref 59, .ref 59]) rfl ?_
        refine Wp.gi (t := (11, 0)) rfl (WF.t (f.wf hw (fun z => z)) 59 rfl) (Or.inl rfl) ?_
        rw [show (kwi k 59 17 (bm + (1 : Int32))).2.2.1 59 15 = bp from ((kwi_o (by decide)).trans (rfl)).trans ((e3 15 (by decide)).trans h15)]
        refine Wp.pi (t := (11, 0)) rfl (WF.t (f.wf hw (fun z => z)) 59 rfl) (Or.inl rfl) ?_
        refine Wp.seg 3 (pc1 := 104) (ls1 := [some (.ref 59), some (.int (m)), some (.int (Int32.ofNat L)), some (.int (Int32.ofNat N)), some (.int (Int32.ofNat p)), some (.int ((outc RL c (digsR (n + 1) L p) A 0 0 (shA c A)).1))]) (st1 := [.ref 59, .int ((outc RL c (digsR (n + 1) L p) A 0 0 (shA c A)).1), .ref 59]) rfl ?_
        refine Wp.gi (t := (11, 0)) rfl (WF.t (f.wf hw (fun z => z)) 59 rfl) (Or.inl rfl) ?_
        rw [show (kwi (kwi k 59 17 (bm + (1 : Int32))) 59 15 bp).2.2.1 59 16 = bw from ((kwi_o (by decide)).trans ((kwi_o (by decide)).trans (rfl))).trans ((e3 16 (by decide)).trans h16)]
        refine Wp.if2 rfl (fun (c8 : ((outc RL c (digsR (n + 1) L p) A 0 0 (shA c A)).1) ≤ bw) => ?_) (fun (c8 : ¬ (((outc RL c (digsR (n + 1) L p) A 0 0 (shA c A)).1) ≤ bw)) => ?_)
        · refine Wp.seg 1 (pc1 := 116) (ls1 := [some (.ref 59), some (.int (m)), some (.int (Int32.ofNat L)), some (.int (Int32.ofNat N)), some (.int (Int32.ofNat p)), some (.int ((outc RL c (digsR (n + 1) L p) A 0 0 (shA c A)).1))]) (st1 := [.ref 59, .ref 59]) rfl ?_
          refine Wp.gi (t := (11, 0)) rfl (WF.t (f.wf hw (fun z => z)) 59 rfl) (Or.inl rfl) ?_
          rw [show (kwi (kwi k 59 17 (bm + (1 : Int32))) 59 15 bp).2.2.1 59 16 = bw from ((kwi_o (by decide)).trans ((kwi_o (by decide)).trans (rfl))).trans ((e3 16 (by decide)).trans h16)]
          refine Wp.pi (t := (11, 0)) rfl (WF.t (f.wf hw (fun z => z)) 59 rfl) (Or.inl rfl) ?_
          refine Wp.seg 2 (pc1 := 24) (ls1 := [some (.ref 59), some (.int (m)), some (.int (Int32.ofNat L)), some (.int (Int32.ofNat N)), some (.int ((Int32.ofNat p) + 1)), some (.int ((outc RL c (digsR (n + 1) L p) A 0 0 (shA c A)).1))]) (st1 := []) rfl ?_
          exact (((((hQ k f e1 e2 e3).1 c2).2 c3).1 c7).1 c8)
        · refine Wp.seg 2 (pc1 := 119) (ls1 := [some (.ref 59), some (.int (m)), some (.int (Int32.ofNat L)), some (.int (Int32.ofNat N)), some (.int (Int32.ofNat p)), some (.int ((outc RL c (digsR (n + 1) L p) A 0 0 (shA c A)).1))]) (st1 := [.int ((outc RL c (digsR (n + 1) L p) A 0 0 (shA c A)).1), .ref 59]) rfl ?_
          refine Wp.pi (t := (11, 0)) rfl (WF.t (f.wf hw (fun z => z)) 59 rfl) (Or.inl rfl) ?_
          refine Wp.seg 2 (pc1 := 24) (ls1 := [some (.ref 59), some (.int (m)), some (.int (Int32.ofNat L)), some (.int (Int32.ofNat N)), some (.int ((Int32.ofNat p) + 1)), some (.int ((outc RL c (digsR (n + 1) L p) A 0 0 (shA c A)).1))]) (st1 := []) rfl ?_
          exact (((((hQ k f e1 e2 e3).1 c2).2 c3).1 c7).2 c8)
      · refine Wp.seg 2 (pc1 := 97) (ls1 := [some (.ref 59), some (.int (m)), some (.int (Int32.ofNat L)), some (.int (Int32.ofNat N)), some (.int (Int32.ofNat p)), some (.int ((outc RL c (digsR (n + 1) L p) A 0 0 (shA c A)).1))]) (st1 := [.int (Int32.ofNat p), .ref 59]) rfl ?_
        refine Wp.pi (t := (11, 0)) rfl (WF.t (f.wf hw (fun z => z)) 59 rfl) (Or.inl rfl) ?_
        refine Wp.seg 3 (pc1 := 104) (ls1 := [some (.ref 59), some (.int (m)), some (.int (Int32.ofNat L)), some (.int (Int32.ofNat N)), some (.int (Int32.ofNat p)), some (.int ((outc RL c (digsR (n + 1) L p) A 0 0 (shA c A)).1))]) (st1 := [.ref 59, .int ((outc RL c (digsR (n + 1) L p) A 0 0 (shA c A)).1), .ref 59]) rfl ?_
        refine Wp.gi (t := (11, 0)) rfl (WF.t (f.wf hw (fun z => z)) 59 rfl) (Or.inl rfl) ?_
        rw [show (kwi (kwi k 59 17 (bm + (1 : Int32))) 59 15 (Int32.ofNat p)).2.2.1 59 16 = bw from ((kwi_o (by decide)).trans ((kwi_o (by decide)).trans (rfl))).trans ((e3 16 (by decide)).trans h16)]
        refine Wp.if2 rfl (fun (c9 : ((outc RL c (digsR (n + 1) L p) A 0 0 (shA c A)).1) ≤ bw) => ?_) (fun (c9 : ¬ (((outc RL c (digsR (n + 1) L p) A 0 0 (shA c A)).1) ≤ bw)) => ?_)
        · refine Wp.seg 1 (pc1 := 116) (ls1 := [some (.ref 59), some (.int (m)), some (.int (Int32.ofNat L)), some (.int (Int32.ofNat N)), some (.int (Int32.ofNat p)), some (.int ((outc RL c (digsR (n + 1) L p) A 0 0 (shA c A)).1))]) (st1 := [.ref 59, .ref 59]) rfl ?_
          refine Wp.gi (t := (11, 0)) rfl (WF.t (f.wf hw (fun z => z)) 59 rfl) (Or.inl rfl) ?_
          rw [show (kwi (kwi k 59 17 (bm + (1 : Int32))) 59 15 (Int32.ofNat p)).2.2.1 59 16 = bw from ((kwi_o (by decide)).trans ((kwi_o (by decide)).trans (rfl))).trans ((e3 16 (by decide)).trans h16)]
          refine Wp.pi (t := (11, 0)) rfl (WF.t (f.wf hw (fun z => z)) 59 rfl) (Or.inl rfl) ?_
          refine Wp.seg 2 (pc1 := 24) (ls1 := [some (.ref 59), some (.int (m)), some (.int (Int32.ofNat L)), some (.int (Int32.ofNat N)), some (.int ((Int32.ofNat p) + 1)), some (.int ((outc RL c (digsR (n + 1) L p) A 0 0 (shA c A)).1))]) (st1 := []) rfl ?_
          exact (((((hQ k f e1 e2 e3).1 c2).2 c3).2 c7).1 c9)
        · refine Wp.seg 2 (pc1 := 119) (ls1 := [some (.ref 59), some (.int (m)), some (.int (Int32.ofNat L)), some (.int (Int32.ofNat N)), some (.int (Int32.ofNat p)), some (.int ((outc RL c (digsR (n + 1) L p) A 0 0 (shA c A)).1))]) (st1 := [.int ((outc RL c (digsR (n + 1) L p) A 0 0 (shA c A)).1), .ref 59]) rfl ?_
          refine Wp.pi (t := (11, 0)) rfl (WF.t (f.wf hw (fun z => z)) 59 rfl) (Or.inl rfl) ?_
          refine Wp.seg 2 (pc1 := 24) (ls1 := [some (.ref 59), some (.int (m)), some (.int (Int32.ofNat L)), some (.int (Int32.ofNat N)), some (.int ((Int32.ofNat p) + 1)), some (.int ((outc RL c (digsR (n + 1) L p) A 0 0 (shA c A)).1))]) (st1 := []) rfl ?_
          exact (((((hQ k f e1 e2 e3).1 c2).2 c3).2 c7).2 c9)
  · refine Wp.seg 2 (pc1 := 75) (ls1 := [some (.ref 59), some (.int (m)), some (.int (Int32.ofNat L)), some (.int (Int32.ofNat N)), some (.int (Int32.ofNat p)), some (.int ((outc RL c (digsR (n + 1) L p) A 0 0 (shA c A)).1))]) (st1 := [.int (1), .ref 59]) rfl ?_
    refine Wp.pi (t := (11, 0)) rfl (WF.t (f.wf hw (fun z => z)) 59 rfl) (Or.inl rfl) ?_
    refine Wp.seg 3 (pc1 := 82) (ls1 := [some (.ref 59), some (.int (m)), some (.int (Int32.ofNat L)), some (.int (Int32.ofNat N)), some (.int (Int32.ofNat p)), some (.int ((outc RL c (digsR (n + 1) L p) A 0 0 (shA c A)).1))]) (st1 := [.ref 59, .int ((outc RL c (digsR (n + 1) L p) A 0 0 (shA c A)).1), .ref 59]) rfl ?_
    refine Wp.gi (t := (11, 0)) rfl (WF.t (f.wf hw (fun z => z)) 59 rfl) (Or.inl rfl) ?_
    rw [show (kwi k 59 17 (1 : Int32)).2.2.1 59 16 = bw from ((kwi_o (by decide)).trans (rfl)).trans ((e3 16 (by decide)).trans h16)]
    refine Wp.if2 rfl (fun (c10 : ((outc RL c (digsR (n + 1) L p) A 0 0 (shA c A)).1) ≤ bw) => ?_) (fun (c10 : ¬ (((outc RL c (digsR (n + 1) L p) A 0 0 (shA c A)).1) ≤ bw)) => ?_)
    · refine Wp.seg 1 (pc1 := 94) (ls1 := [some (.ref 59), some (.int (m)), some (.int (Int32.ofNat L)), some (.int (Int32.ofNat N)), some (.int (Int32.ofNat p)), some (.int ((outc RL c (digsR (n + 1) L p) A 0 0 (shA c A)).1))]) (st1 := [.ref 59, .ref 59]) rfl ?_
      refine Wp.gi (t := (11, 0)) rfl (WF.t (f.wf hw (fun z => z)) 59 rfl) (Or.inl rfl) ?_
      rw [show (kwi k 59 17 (1 : Int32)).2.2.1 59 15 = bp from ((kwi_o (by decide)).trans (rfl)).trans ((e3 15 (by decide)).trans h15)]
      refine Wp.pi (t := (11, 0)) rfl (WF.t (f.wf hw (fun z => z)) 59 rfl) (Or.inl rfl) ?_
      refine Wp.seg 3 (pc1 := 104) (ls1 := [some (.ref 59), some (.int (m)), some (.int (Int32.ofNat L)), some (.int (Int32.ofNat N)), some (.int (Int32.ofNat p)), some (.int ((outc RL c (digsR (n + 1) L p) A 0 0 (shA c A)).1))]) (st1 := [.ref 59, .int ((outc RL c (digsR (n + 1) L p) A 0 0 (shA c A)).1), .ref 59]) rfl ?_
      refine Wp.gi (t := (11, 0)) rfl (WF.t (f.wf hw (fun z => z)) 59 rfl) (Or.inl rfl) ?_
      rw [show (kwi (kwi k 59 17 (1 : Int32)) 59 15 bp).2.2.1 59 16 = bw from ((kwi_o (by decide)).trans ((kwi_o (by decide)).trans (rfl))).trans ((e3 16 (by decide)).trans h16)]
      refine Wp.if2 rfl (fun (c11 : ((outc RL c (digsR (n + 1) L p) A 0 0 (shA c A)).1) ≤ bw) => ?_) (fun (c11 : ¬ (((outc RL c (digsR (n + 1) L p) A 0 0 (shA c A)).1) ≤ bw)) => ?_)
      · refine Wp.seg 1 (pc1 := 116) (ls1 := [some (.ref 59), some (.int (m)), some (.int (Int32.ofNat L)), some (.int (Int32.ofNat N)), some (.int (Int32.ofNat p)), some (.int ((outc RL c (digsR (n + 1) L p) A 0 0 (shA c A)).1))]) (st1 := [.ref 59, .ref 59]) rfl ?_
        refine Wp.gi (t := (11, 0)) rfl (WF.t (f.wf hw (fun z => z)) 59 rfl) (Or.inl rfl) ?_
        rw [show (kwi (kwi k 59 17 (1 : Int32)) 59 15 bp).2.2.1 59 16 = bw from ((kwi_o (by decide)).trans ((kwi_o (by decide)).trans (rfl))).trans ((e3 16 (by decide)).trans h16)]
        refine Wp.pi (t := (11, 0)) rfl (WF.t (f.wf hw (fun z => z)) 59 rfl) (Or.inl rfl) ?_
        refine Wp.seg 2 (pc1 := 24) (ls1 := [some (.ref 59), some (.int (m)), some (.int (Int32.ofNat L)), some (.int (Int32.ofNat N)), some (.int ((Int32.ofNat p) + 1)), some (.int ((outc RL c (digsR (n + 1) L p) A 0 0 (shA c A)).1))]) (st1 := []) rfl ?_
        exact ((((hQ k f e1 e2 e3).2 c2).1 c10).1 c11)
      · refine Wp.seg 2 (pc1 := 119) (ls1 := [some (.ref 59), some (.int (m)), some (.int (Int32.ofNat L)), some (.int (Int32.ofNat N)), some (.int (Int32.ofNat p)), some (.int ((outc RL c (digsR (n + 1) L p) A 0 0 (shA c A)).1))]) (st1 := [.int ((outc RL c (digsR (n + 1) L p) A 0 0 (shA c A)).1), .ref 59]) rfl ?_
        refine Wp.pi (t := (11, 0)) rfl (WF.t (f.wf hw (fun z => z)) 59 rfl) (Or.inl rfl) ?_
        refine Wp.seg 2 (pc1 := 24) (ls1 := [some (.ref 59), some (.int (m)), some (.int (Int32.ofNat L)), some (.int (Int32.ofNat N)), some (.int ((Int32.ofNat p) + 1)), some (.int ((outc RL c (digsR (n + 1) L p) A 0 0 (shA c A)).1))]) (st1 := []) rfl ?_
        exact ((((hQ k f e1 e2 e3).2 c2).1 c10).2 c11)
    · refine Wp.seg 2 (pc1 := 97) (ls1 := [some (.ref 59), some (.int (m)), some (.int (Int32.ofNat L)), some (.int (Int32.ofNat N)), some (.int (Int32.ofNat p)), some (.int ((outc RL c (digsR (n + 1) L p) A 0 0 (shA c A)).1))]) (st1 := [.int (Int32.ofNat p), .ref 59]) rfl ?_
      refine Wp.pi (t := (11, 0)) rfl (WF.t (f.wf hw (fun z => z)) 59 rfl) (Or.inl rfl) ?_
      refine Wp.seg 3 (pc1 := 104) (ls1 := [some (.ref 59), some (.int (m)), some (.int (Int32.ofNat L)), some (.int (Int32.ofNat N)), some (.int (Int32.ofNat p)), some (.int ((outc RL c (digsR (n + 1) L p) A 0 0 (shA c A)).1))]) (st1 := [.ref 59, .int ((outc RL c (digsR (n + 1) L p) A 0 0 (shA c A)).1), .ref 59]) rfl ?_
      refine Wp.gi (t := (11, 0)) rfl (WF.t (f.wf hw (fun z => z)) 59 rfl) (Or.inl rfl) ?_
      rw [show (kwi (kwi k 59 17 (1 : Int32)) 59 15 (Int32.ofNat p)).2.2.1 59 16 = bw from ((kwi_o (by decide)).trans ((kwi_o (by decide)).trans (rfl))).trans ((e3 16 (by decide)).trans h16)]
      refine Wp.if2 rfl (fun (c12 : ((outc RL c (digsR (n + 1) L p) A 0 0 (shA c A)).1) ≤ bw) => ?_) (fun (c12 : ¬ (((outc RL c (digsR (n + 1) L p) A 0 0 (shA c A)).1) ≤ bw)) => ?_)
      · refine Wp.seg 1 (pc1 := 116) (ls1 := [some (.ref 59), some (.int (m)), some (.int (Int32.ofNat L)), some (.int (Int32.ofNat N)), some (.int (Int32.ofNat p)), some (.int ((outc RL c (digsR (n + 1) L p) A 0 0 (shA c A)).1))]) (st1 := [.ref 59, .ref 59]) rfl ?_
        refine Wp.gi (t := (11, 0)) rfl (WF.t (f.wf hw (fun z => z)) 59 rfl) (Or.inl rfl) ?_
        rw [show (kwi (kwi k 59 17 (1 : Int32)) 59 15 (Int32.ofNat p)).2.2.1 59 16 = bw from ((kwi_o (by decide)).trans ((kwi_o (by decide)).trans (rfl))).trans ((e3 16 (by decide)).trans h16)]
        refine Wp.pi (t := (11, 0)) rfl (WF.t (f.wf hw (fun z => z)) 59 rfl) (Or.inl rfl) ?_
        refine Wp.seg 2 (pc1 := 24) (ls1 := [some (.ref 59), some (.int (m)), some (.int (Int32.ofNat L)), some (.int (Int32.ofNat N)), some (.int ((Int32.ofNat p) + 1)), some (.int ((outc RL c (digsR (n + 1) L p) A 0 0 (shA c A)).1))]) (st1 := []) rfl ?_
        exact ((((hQ k f e1 e2 e3).2 c2).2 c10).1 c12)
      · refine Wp.seg 2 (pc1 := 119) (ls1 := [some (.ref 59), some (.int (m)), some (.int (Int32.ofNat L)), some (.int (Int32.ofNat N)), some (.int (Int32.ofNat p)), some (.int ((outc RL c (digsR (n + 1) L p) A 0 0 (shA c A)).1))]) (st1 := [.int ((outc RL c (digsR (n + 1) L p) A 0 0 (shA c A)).1), .ref 59]) rfl ?_
        refine Wp.pi (t := (11, 0)) rfl (WF.t (f.wf hw (fun z => z)) 59 rfl) (Or.inl rfl) ?_
        refine Wp.seg 2 (pc1 := 24) (ls1 := [some (.ref 59), some (.int (m)), some (.int (Int32.ofNat L)), some (.int (Int32.ofNat N)), some (.int ((Int32.ofNat p) + 1)), some (.int ((outc RL c (digsR (n + 1) L p) A 0 0 (shA c A)).1))]) (st1 := []) rfl ?_
        exact ((((hQ k f e1 e2 e3).2 c2).2 c10).2 c12)
set_option maxHeartbeats 4000000 in
theorem t_fbE {d : Nat} {Q : KO → Prop} {h : KH} {m L : Int32} {N : Nat} {z : Option Value} (hd : 0 ≤ d) (hQ : Q (none, h)) : Wp d 239 24 [some (.ref 59), some (.int (m)), some (.int (L)), some (.int (Int32.ofNat N)), some (.int (Int32.ofNat N)), z] [] h Q := by
  refine Wp.seg 2 (pc1 := 27) (ls1 := [some (.ref 59), some (.int (m)), some (.int (L)), some (.int (Int32.ofNat N)), some (.int (Int32.ofNat N)), z]) (st1 := [.int (Int32.ofNat N), .int (Int32.ofNat N)]) rfl ?_
  refine Wp.if2 rfl (fun c1 => ?_) (fun c1 => absurd (Int32.le_refl _) c1)
  exact Wp.retv rfl rfl hQ
set_option maxHeartbeats 4000000 in
theorem t_fb {d : Nat} {Q : KO → Prop} {h : KH} (hw : WF h) {A : Nat → Int32} {RL : List Rul} {n c dn en : Nat} (hk : refOK h A RL n c dn en) {m : Nat} (hm : m ≤ 4) (hd : 7 ≤ d) (hQ : ∀ k, Fr (fun c => c = 62) noP h k → refTh k (h.2.2.1 60) A RL n c dn en → (Wp d 239 24 ([some (.ref 59), some (.int (Int32.ofNat m)), some (.int (Int32.ofNat (min m (en - dn)))), some (.int (Int32.ofNat ((n + 1) ^ (min m (en - dn))))), some (.int (0)), none]) [] (kwi k 59 16 (-1 : Int32)) Q)) : Cl d 239 [.ref 59, .int (Int32.ofNat m)] h Q := by
  refine Cl.of (ls := [some (.ref 59), some (.int (Int32.ofNat m)), none, none, none, none]) rfl rfl ?_
  refine Wp.seg 2 (pc1 := 2) (ls1 := [some (.ref 59), some (.int (Int32.ofNat m)), none, none, none, none]) (st1 := [.int (Int32.ofNat m), .ref 59]) rfl ?_
  refine Wp.invV (d2 := 0) (as := [.ref 59, .int (Int32.ofNat m)]) (r := []) (t := (11, 0)) rfl rfl rfl rfl (WF.t hw 59 rfl) rfl rfl ⟨rfl, rfl⟩ (by omega) (r_months hw hk hm ?_)
  show Wp d 239 5 [some (.ref 59), some (.int (Int32.ofNat m)), none, none, none, none] [.int (Int32.ofNat (min m (en - dn)))] h Q
  refine Wp.seg 3 (pc1 := 8) (ls1 := [some (.ref 59), some (.int (Int32.ofNat m)), some (.int (Int32.ofNat (min m (en - dn)))), none, none, none]) (st1 := [.int (Int32.ofNat m), .ref 59]) rfl ?_
  refine Wp.invV (d2 := 1) (as := [.ref 59, .int (Int32.ofNat m)]) (r := []) (t := (11, 0)) rfl rfl rfl rfl (WF.t hw 59 rfl) rfl rfl ⟨rfl, rfl⟩ (by omega) (r_plans hw hk hm (Nat.le_refl _) ?_)
  show Wp d 239 11 [some (.ref 59), some (.int (Int32.ofNat m)), some (.int (Int32.ofNat (min m (en - dn)))), none, none, none] [.int (Int32.ofNat ((n + 1) ^ (min m (en - dn))))] h Q
  refine Wp.seg 2 (pc1 := 13) (ls1 := [some (.ref 59), some (.int (Int32.ofNat m)), some (.int (Int32.ofNat (min m (en - dn)))), some (.int (Int32.ofNat ((n + 1) ^ (min m (en - dn))))), none, none]) (st1 := [.ref 59]) rfl ?_
  refine Wp.invV (d2 := 1) (as := [.ref 59]) (r := []) (t := (11, 0)) rfl rfl rfl rfl (WF.t hw 59 rfl) rfl rfl ⟨rfl, rfl⟩ (by omega) (r_thinks hw hk (Nat.le_refl _) ?_)
  intro k f g
  show Wp d 239 16 [some (.ref 59), some (.int (Int32.ofNat m)), some (.int (Int32.ofNat (min m (en - dn)))), some (.int (Int32.ofNat ((n + 1) ^ (min m (en - dn))))), none, none] [] k Q
  refine Wp.seg 2 (pc1 := 18) (ls1 := [some (.ref 59), some (.int (Int32.ofNat m)), some (.int (Int32.ofNat (min m (en - dn)))), some (.int (Int32.ofNat ((n + 1) ^ (min m (en - dn))))), none, none]) (st1 := [.int (-1), .ref 59]) rfl ?_
  refine Wp.pi (t := (11, 0)) rfl (WF.t (f.wf hw (fun z => z)) 59 rfl) (Or.inl rfl) ?_
  refine Wp.seg 2 (pc1 := 24) (ls1 := [some (.ref 59), some (.int (Int32.ofNat m)), some (.int (Int32.ofNat (min m (en - dn)))), some (.int (Int32.ofNat ((n + 1) ^ (min m (en - dn))))), some (.int (0)), none]) (st1 := []) rfl ?_
  exact (hQ k f g)
/-- what the reference has found of the plans so far -/
def refB (h : KH) (b L : Nat) (st : WSt) : Prop := h.2.2.1 59 16 = st.1 ∧ (st.1 = -1 ∨ (0 ≤ st.1.toInt ∧ h.2.2.1 59 17 = st.2.1 ∧ ∃ q, q < b ^ L ∧ h.2.2.1 59 15 = Int32.ofNat q ∧ st.2.2.2.2 = digsR b L q))
def keep59 (h k : KH) : Prop := ∀ x, (x < 14 ∨ 17 < x) → k.2.2.1 59 x = h.2.2.1 59 x
theorem weigh_1 (set : Int32) (st : WSt) (o : Int32 × Int32 × Int32) (plan : List Nat) : (weighS set st o plan).1 = (if st.1 < o.1 then o.1 else st.1) ∧ (weighS set st o plan).2.1 = (if st.1 < o.1 then 1 else if o.1 = st.1 then st.2.1 + 1 else st.2.1) ∧ (weighS set st o plan).2.2.2.2 = (if st.1 < o.1 then plan else st.2.2.2.2) := ⟨rfl, rfl, rfl⟩
theorem r_fbL {d : Nat} {Q : KO → Prop} {S A : Nat → Int32} {RL : List Rul} {n c dn en L : Nat} {m set : Int32} (hL : L ≤ 4) (hdn : dn + L ≤ en) (hd : 7 ≤ d) (hS : nrm S = A) :
    ∀ (j p : Nat) (st : WSt) (h : KH) (z : Option Value), p + j = (n + 1) ^ L → WF h → refTh h S A RL n c dn en → h.2.2.1 60 = S → refB h (n + 1) L st →
    (∀ k, Fr pN noP h k → k.2.2.1 60 = S → keep59 h k → refB k (n + 1) L (foldN (fun st p => weighS set st (outc RL c (digsR (n + 1) L p) A 0 0 (shA c A)) (digsR (n + 1) L p)) j p st) → Q (none, k)) →
    Wp d 239 24 [some (.ref 59), some (.int m), some (.int (Int32.ofNat L)), some (.int (Int32.ofNat ((n + 1) ^ L))), some (.int (Int32.ofNat p)), z] [] h Q := by
  intro j
  induction j with
  | zero =>
    intro p st h z hpj hw hk e0 hB hQ
    have hp : p = (n + 1) ^ L := hpj
    rw [hp]
    exact t_fbE (Nat.zero_le _) (hQ h (Fr.refl h) e0 (fun _ _ => rfl) hB)
  | succ j ih =>
    intro p st h z hpj hw hk e0 hB hQ
    have h24 := pow_le (n := n) (L := L) hk.1.2.1.1 hL
    have hw0 := outc_pos RL c (digsR (n + 1) L p) A 0 0 (shA c A) (by decide) (by rw [digsR_len]; show (0 : Int) + _ ≤ _; omega)
    refine t_fbB hw hk hL (by omega) hdn (by omega) h24 rfl rfl rfl hd (fun k f e1 e2 e3 => ?_)
    generalize hw1 : (outc RL c (digsR (n + 1) L p) A 0 0 (shA c A)) = o at hw0 ⊢
    have next : ∀ (x y w : Int32) (zz : Option Value), refB (kwi (kwi (kwi k 59 17 x) 59 15 y) 59 16 w) (n + 1) L (weighS set st o (digsR (n + 1) L p)) → Wp d 239 24 [some (.ref 59), some (.int m), some (.int (Int32.ofNat L)), some (.int (Int32.ofNat ((n + 1) ^ L))), some (.int (Int32.ofNat p + 1)), zz] [] (kwi (kwi (kwi k 59 17 x) 59 15 y) 59 16 w) Q := by
      intro x y w zz hb
      have fr : Fr pN noP h (kwi (kwi (kwi k 59 17 x) 59 15 y) 59 16 w) := Fr.trans f (Fr.trans (fr_kwi (Or.inl rfl) (by decide)) (Fr.trans (fr_kwi (Or.inl rfl) (by decide)) (fr_kwi (Or.inl rfl) (by decide))))
      have e60 : (kwi (kwi (kwi k 59 17 x) 59 15 y) 59 16 w).2.2.1 60 = S := ((kwi_r (by decide)).trans ((kwi_r (by decide)).trans (kwi_r (by decide)))).trans e1
      have k59 : keep59 h (kwi (kwi (kwi k 59 17 x) 59 15 y) 59 16 w) := fun i hi => ((kwi_o (by omega)).trans ((kwi_o (by omega)).trans (kwi_o (by omega)))).trans (e3 i (by omega))
      rw [show Int32.ofNat p + 1 = Int32.ofNat (p + 1) from ofadd p 1]
      refine ih (p + 1) _ _ zz (by omega) (fr.wf hw (fun z => z)) (refTh_back hk (refOK_eq hk.1 (e60.trans e0.symm)) fr (by unfold pN; decide) e60) e60 hb (fun k2 f2 q1 q2 q3 => hQ k2 (fr.trans f2) q1 (fun i hi => (q2 i hi).trans (k59 i hi)) ?_)
      show refB k2 (n + 1) L (foldN _ j (p + 1) (weighS set st (outc RL c (digsR (n + 1) L p) A 0 0 (shA c A)) (digsR (n + 1) L p)))
      rw [hw1]
      exact q3
    obtain ⟨hb1, hb2⟩ := hB
    have hm1 := weigh_1 set st o (digsR (n + 1) L p)
    have more : st.1 < o.1 → ∀ x y w : Int32, x = 1 → y = Int32.ofNat p → w = o.1 → refB (kwi (kwi (kwi k 59 17 x) 59 15 y) 59 16 w) (n + 1) L (weighS set st o (digsR (n + 1) L p)) := by
      intro c1 x y w hx hy hz
      unfold refB
      rw [hm1.1, hm1.2.1, hm1.2.2, if_pos c1, if_pos c1, if_pos c1]
      exact ⟨kwi_s.trans hz, Or.inr ⟨hw0, ((kwi_o (by decide)).trans ((kwi_o (by decide)).trans kwi_s)).trans hx, p, by omega, ((kwi_o (by decide)).trans kwi_s).trans hy, rfl⟩⟩
    have less : ¬ st.1 < o.1 → ∀ x y w : Int32, x = (if o.1 = st.1 then h.2.2.1 59 17 + 1 else h.2.2.1 59 17) → y = h.2.2.1 59 15 → w = h.2.2.1 59 16 → refB (kwi (kwi (kwi k 59 17 x) 59 15 y) 59 16 w) (n + 1) L (weighS set st o (digsR (n + 1) L p)) := by
      intro c1 x y w hx hy hz
      have hb3 : ¬ st.1 = -1 := fun z => c1 (by rw [z]; exact (zlt (m := -1) rfl rfl).mpr (by omega))
      obtain ⟨b1, b2, q, b3, b4, b5⟩ := hb2.resolve_left hb3
      unfold refB
      rw [hm1.1, hm1.2.1, hm1.2.2, if_neg c1, if_neg c1, if_neg c1]
      refine ⟨kwi_s.trans (hz.trans hb1), Or.inr ⟨b1, ((kwi_o (by decide)).trans ((kwi_o (by decide)).trans kwi_s)).trans ?_, q, b3, ((kwi_o (by decide)).trans kwi_s).trans (hy.trans b4), b5⟩⟩
      rw [hx, b2]
    refine ⟨fun c1 => ?_, fun c1 => ?_⟩
    · refine ⟨fun c2 => ?_, fun c2 => ?_⟩
      · refine ⟨fun c3 => ?_, fun c3 => ?_⟩
        · refine ⟨fun c4 => ?_, fun c4 => ?_⟩
          · exact next _ _ _ _ (less (fun z => Int32.not_lt.mpr (hb1 ▸ c1) z) _ _ _ (by rw [if_neg (fun z => c2 (z.trans hb1.symm))]) rfl rfl)
          · exact absurd c1 c4
        · refine ⟨fun c4 => ?_, fun c4 => ?_⟩
          · exact absurd c1 c3
          · exact absurd c1 c3
      · refine ⟨fun c3 => ?_, fun c3 => ?_⟩
        · refine ⟨fun c4 => ?_, fun c4 => ?_⟩
          · exact next _ _ _ _ (less (fun z => Int32.not_lt.mpr (hb1 ▸ c1) z) _ _ _ (by rw [if_pos ((Decidable.not_not.mp c2).trans hb1)]) rfl rfl)
          · exact absurd c1 c4
        · refine ⟨fun c4 => ?_, fun c4 => ?_⟩
          · exact absurd c1 c3
          · exact absurd c1 c3
    · refine ⟨fun c2 => ?_, fun c2 => ?_⟩
      · refine ⟨fun c3 => ?_, fun c3 => ?_⟩
        · exact absurd c2 c1
        · exact absurd c2 c1
      · refine ⟨fun c3 => ?_, fun c3 => ?_⟩
        · exact absurd c3 c1
        · exact next _ _ _ _ (more (hb1 ▸ Int32.not_le.mp c1) _ _ _ rfl rfl rfl)
def pF : Nat → Prop := fun c => c = 59 ∨ c = 60 ∨ c = 62 ∨ c = 64
theorem r_find {d : Nat} {Q : KO → Prop} {h : KH} (hw : WF h) {A : Nat → Int32} {RL : List Rul} {n c dn en : Nat} (hk : refOK h A RL n c dn en) {m : Nat} {set : Int32} (hm : m ≤ 4) (hd : 7 ≤ d)
    (hQ : ∀ k, Fr pF noP h k → k.2.2.1 60 = h.2.2.1 60 → keep59 h k → refB k (n + 1) (min m (en - dn)) (PL RL c n set (min m (en - dn)) A) → Q (none, k)) : Cl d 239 [.ref 59, .int (Int32.ofNat m)] h Q := by
  have o := hk.2.1.2.2.2.2.2.2.1
  refine t_fb hw hk hm hd (fun k f g => ?_)
  have e60 : k.2.2.1 60 = h.2.2.1 60 := f.2.2.1 60 (Or.inl (by decide))
  have h3 : Fr pF noP k (kwi k 59 16 (-1)) := fr_kwi (Or.inl rfl) (by decide)
  have e60' : (kwi k 59 16 (-1)).2.2.1 60 = h.2.2.1 60 := (kwi_r (by decide)).trans e60
  refine r_fbL (set := set) (S := h.2.2.1 60) (L := min m (en - dn)) (by omega) (by omega) hd hk.1 ((n + 1) ^ (min m (en - dn))) 0 (-1, 0, 5, 0, []) (kwi k 59 16 (-1)) none (by omega) (f.wf hw (fun z => z)) (refTh_59 g) e60' ⟨kwi_s, Or.inl rfl⟩ (fun k2 f2 q1 q2 q3 => hQ k2 ((f.mono (fun c z => Or.inr (Or.inr (Or.inl z))) (fun _ z => z)).trans (h3.trans (f2.mono (fun c z => by unfold pN at z; unfold pF; omega) (fun _ z => z)))) q1 (fun i hi => (q2 i hi).trans ((kwi_o (by omega)).trans (by rw [f.2.2.1 59 (Or.inl (by decide))]))) ?_)
  rw [PL_num]
  exact q3
theorem quiet_f {h k : KH} (f : Fr pF noP h k) (e : k.2.2.1 60 = h.2.2.1 60) (e59 : keep59 h k) : Quiet h k := ⟨f.mono (fun c z => by unfold pF at z; unfold pQ; omega) (fun c z => absurd z (fun y => y)), e, fun i hi => e59 i (by omega)⟩
