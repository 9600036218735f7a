/-! KM: rules of runs -/
theorem kgen_mono {cont cont2 : Nat → KL → List Value → KH → Option KO} {i : Instr} {nx tg : Nat} {w : Value} {ts : List (Nat × Nat)} {ls : KL} {st : List Value} {h : KH} {o : KO}
    (hc : ∀ pc ls st h o, cont pc ls st h = some o → cont2 pc ls st h = some o) (hq : kgen cont i nx tg w ts ls st h = some o) : kgen cont2 i nx tg w ts ls st h = some o := by
  unfold kgen at hq ⊢
  cases h1 : kpure i w ls st with
  | some q => obtain ⟨a, b⟩ := q; rw [h1] at hq; exact hc _ _ _ _ _ hq
  | none =>
    rw [h1] at hq
    cases h2 : kbr i nx tg ts st with
    | some q => obtain ⟨a, b⟩ := q; rw [h2] at hq; exact hc _ _ _ _ _ hq
    | none =>
      rw [h2] at hq
      cases h3 : kheap i tg ts st h with
      | some q => obtain ⟨a, b⟩ := q; rw [h3] at hq; exact hc _ _ _ _ _ hq
      | none => rw [h3] at hq; cases hq
theorem kcond_i {α : Type} {b : Bool} {x : Option α} {o : α} (hb : b = true) (h : x = some o) : cond b x none = some o := by rw [hb]; exact h
theorem kinvk_mono {callf callf2 : Nat → List Value → KH → Option KO} {cont cont2 : Nat → KL → List Value → KH → Option KO} {nx tg : Nat} {w : Value} {ts : List (Nat × Nat)} {d d2 : Nat} {ls : KL} {st : List Value} {h : KH} {o : KO} (hd : d ≤ d2)
    (hf : ∀ M as h o, callf M as h = some o → callf2 M as h = some o) (hc : ∀ pc ls st h o, cont pc ls st h = some o → cont2 pc ls st h = some o) (hq : kinvk callf cont nx tg w ts d ls st h = some o) : kinvk callf2 cont2 nx tg w ts d2 ls st h = some o := by
  unfold kinvk at hq ⊢
  split at hq
  · obtain ⟨hb, hq⟩ := kcond hq
    rw [Nat.blt_eq] at hb
    refine kcond_i (Nat.blt_eq.mpr (by omega)) ?_
    split at hq
    · split at hq
      · rename_i r h1 e
        obtain ⟨b1, hq⟩ := kcond hq
        exact kcond_i b1 (hc _ _ _ _ _ hq)
      · cases hq
    · split at hq
      · obtain ⟨b1, hq⟩ := kcond hq
        exact kcond_i b1 (hc _ _ _ _ _ hq)
      · cases hq
    · split at hq
      · obtain ⟨b1, hq⟩ := kcond hq
        obtain ⟨b2, hq⟩ := kcond hq
        simp only [Bool.and_eq_true] at b2
        refine kcond_i b1 (kcond_i ?_ (hc _ _ _ _ _ hq))
        have b3 := b2.1.1
        rw [Nat.blt_eq] at b3
        rw [b2.1.2, b2.2, Nat.blt_eq.mpr (show 2 < d2 by omega)]
        rfl
      · cases hq
    · split at hq
      · obtain ⟨b1, hq⟩ := kcond hq
        exact kcond_i b1 (hc _ _ _ _ _ hq)
      · cases hq
    · split at hq
      · rename_i as r e
        split at hq
        · rename_i M2 e2
          obtain ⟨b1, hq⟩ := kcond hq
          refine kcond_i b1 ?_
          split at hq
          · rename_i v h1 e3
            rw [hf _ _ _ _ e3]
            exact hc _ _ _ _ _ hq
          · rename_i h1 e3
            rw [hf _ _ _ _ e3]
            exact hc _ _ _ _ _ hq
          · cases hq
        · cases hq
      · cases hq
  · cases hq
def kgenB : Instr → Bool
  | .ireturn => false
  | .return_ => false
  | .getstatic _ => false
  | .invokestatic _ => false
  | .invokevirtual _ => false
  | .invokespecial _ => false
  | _ => true
theorem kstep_gen {callf : Nat → List Value → KH → Option KO} {cont : Nat → KL → List Value → KH → Option KO} {rt : Nat} {i : Instr} {nx tg : Nat} {w : Value} {ts : List (Nat × Nat)} {d : Nat} {ls : KL} {st : List Value} {h : KH} (hi : kgenB i = true) : kstep callf cont rt (i, nx, tg, w, ts) d ls st h = kgen cont i nx tg w ts ls st h := by
  cases i <;> first | rfl | cases hi
theorem kstep_mono {callf callf2 : Nat → List Value → KH → Option KO} {cont cont2 : Nat → KL → List Value → KH → Option KO} {rt : Nat} {e : KE} {d d2 : Nat} {ls : KL} {st : List Value} {h : KH} {o : KO} (hd : d ≤ d2)
    (hf : ∀ M as h o, callf M as h = some o → callf2 M as h = some o) (hc : ∀ pc ls st h o, cont pc ls st h = some o → cont2 pc ls st h = some o) (hq : kstep callf cont rt e d ls st h = some o) : kstep callf2 cont2 rt e d2 ls st h = some o := by
  obtain ⟨i, nx, tg, w, ts⟩ := e
  cases i with
  | ireturn => exact hq
  | return_ => exact hq
  | getstatic k => exact hc _ _ _ _ _ hq
  | invokestatic k => exact kinvk_mono hd hf hc hq
  | invokevirtual k => exact kinvk_mono hd hf hc hq
  | invokespecial k => exact kinvk_mono hd hf hc hq
  | _ =>
    rw [kstep_gen rfl] at hq ⊢
    exact kgen_mono hc hq
theorem kx_mono {pf : Nat → Nat → Option KE} {pl pr : Nat → Nat} : ∀ (n n2 d d2 M pc : Nat) (ls : KL) (st : List Value) (h : KH) (o : KO), n ≤ n2 → d ≤ d2 → kx pf pl pr n d M pc ls st h = some o → kx pf pl pr n2 d2 M pc ls st h = some o := by
  intro n
  induction n with
  | zero => intro n2 d d2 M pc ls st h o _ _ hq; cases hq
  | succ n ih =>
    intro n2 d d2 M pc ls st h o hn hd hq
    obtain ⟨m, rfl⟩ : ∃ m, n2 = m + 1 := ⟨n2 - 1, by omega⟩
    cases he : pf M pc with
    | none =>
      exfalso
      have e1 : kx pf pl pr (n + 1) d M pc ls st h = none := by
        show (match pf M pc with | some e => _ | none => none) = none
        rw [he]
      rw [e1] at hq
      cases hq
    | some e =>
      rw [kx_succ he] at hq ⊢
      refine kstep_mono hd (fun M as h o q => ?_) (fun pc ls st h o q => ih m d d2 M pc ls st h o (by omega) hd q) hq
      obtain ⟨b, q⟩ := kcond q
      exact kcond_i b (ih m (d - 1) (d2 - 1) _ _ _ _ _ _ (by omega) (by omega) q)
/-- from here a run comes to an end, with Q; d frames at most below this one -/
def Wp (d M pc : Nat) (ls : KL) (st : List Value) (h : KH) (Q : KO → Prop) : Prop := ∃ n o, kx kpf kmaxl kmrc n d M pc ls st h = some o ∧ Q o
/-- a call comes to an end, with Q -/
def Cl (d M : Nat) (as : List Value) (h : KH) (Q : KO → Prop) : Prop := (Nat.ble (kargs as).length (kmaxl M) && knodbl as) = true ∧ Wp d M 0 (kent (kmaxl M) as) [] h Q
theorem Wp.post {d M pc : Nat} {ls : KL} {st : List Value} {h : KH} {Q Q2 : KO → Prop} (hw : Wp d M pc ls st h Q) (hq : ∀ o, Q o → Q2 o) : Wp d M pc ls st h Q2 := by
  obtain ⟨n, o, e, q⟩ := hw
  exact ⟨n, o, e, hq o q⟩
theorem Cl.post {d M : Nat} {as : List Value} {h : KH} {Q Q2 : KO → Prop} (hw : Cl d M as h Q) (hq : ∀ o, Q o → Q2 o) : Cl d M as h Q2 := ⟨hw.1, hw.2.post hq⟩
theorem Wp.depth {d d2 M pc : Nat} {ls : KL} {st : List Value} {h : KH} {Q : KO → Prop} (hd : d ≤ d2) (hw : Wp d M pc ls st h Q) : Wp d2 M pc ls st h Q := by
  obtain ⟨n, o, e, q⟩ := hw
  exact ⟨n, o, kx_mono _ _ _ _ _ _ _ _ _ _ (Nat.le_refl _) hd e, q⟩
theorem Cl.depth {d d2 M : Nat} {as : List Value} {h : KH} {Q : KO → Prop} (hd : d ≤ d2) (hw : Cl d M as h Q) : Cl d2 M as h Q := ⟨hw.1, hw.2.depth hd⟩
theorem Cl.of {d M : Nat} {as : List Value} {h : KH} {Q : KO → Prop} {ls : KL} (h1 : (Nat.ble (kargs as).length (kmaxl M) && knodbl as) = true) (h2 : kent (kmaxl M) as = ls) (hw : Wp d M 0 ls [] h Q) : Cl d M as h Q := ⟨h1, by rw [h2]; exact hw⟩
/-- k steps at most that touch locals and stack alone -/
def kseg : Nat → Nat → Nat → KL → List Value → Option (Nat × KL × List Value)
  | 0, _, pc, ls, st => some (pc, ls, st)
  | k + 1, M, pc, ls, st => match kpf M pc with
    | some (i, nx, tg, w, _) => match kpure i w ls st with
      | some (ls1, st1) => kseg k M nx ls1 st1
      | none => match i with
        | .goto _ => kseg k M tg ls st
        | _ => none
    | none => none
section WPR
variable {d M pc : Nat} {ls : KL} {st r : List Value} {h : KH} {Q : KO → Prop}
/-- one step, by what kstep says of it -/
theorem Wp.one {e : KE} {pc1 : Nat} {ls1 : KL} {st1 : List Value} {h1 : KH} (he : kpf M pc = some e) (hs : ∀ callf cont, kstep callf cont (kmrc M) e d ls st h = cont pc1 ls1 st1 h1) (hw : Wp d M pc1 ls1 st1 h1 Q) : Wp d M pc ls st h Q := by
  obtain ⟨n, o, q, hq⟩ := hw
  refine ⟨n + 1, o, ?_, hq⟩
  rw [kx_succ he, hs]
  exact q
theorem kstep_pure {callf : Nat → List Value → KH → Option KO} {cont : Nat → KL → List Value → KH → Option KO} {rt : Nat} {i : Instr} {nx tg : Nat} {w : Value} {ts : List (Nat × Nat)} {ls1 : KL} {st1 : List Value} (hp : kpure i w ls st = some (ls1, st1)) : kstep callf cont rt (i, nx, tg, w, ts) d ls st h = cont nx ls1 st1 h := by
  cases i <;> first | (cases hp; done) | (simp only [kstep, kgen, hp])
theorem kstep_br {callf : Nat → List Value → KH → Option KO} {cont : Nat → KL → List Value → KH → Option KO} {rt : Nat} {i : Instr} {nx tg : Nat} {w : Value} {ts : List (Nat × Nat)} {pc1 : Nat} {st1 : List Value} (hp : kbr i nx tg ts st = some (pc1, st1)) : kstep callf cont rt (i, nx, tg, w, ts) d ls st h = cont pc1 ls st1 h := by
  have h0 : kpure i w ls st = none := by cases i <;> first | (cases hp; done) | rfl
  cases i <;> first | (cases hp; done) | (simp only [kstep, kgen, h0, hp])
theorem kstep_heap {callf : Nat → List Value → KH → Option KO} {cont : Nat → KL → List Value → KH → Option KO} {rt : Nat} {i : Instr} {nx tg : Nat} {w : Value} {ts : List (Nat × Nat)} {st1 : List Value} {h1 : KH} (hp : kheap i tg ts st h = some (st1, h1)) : kstep callf cont rt (i, nx, tg, w, ts) d ls st h = cont nx ls st1 h1 := by
  have h0 : kpure i w ls st = none := by cases i <;> first | (cases hp; done) | rfl
  have h2 : kbr i nx tg ts st = none := by cases i <;> first | (cases hp; done) | rfl
  cases i <;> first | (cases hp; done) | (simp only [kstep, kgen, h0, h2, hp])
theorem Wp.seg : ∀ (k : Nat) {pc pc1 : Nat} {ls ls1 : KL} {st st1 : List Value}, kseg k M pc ls st = some (pc1, ls1, st1) → Wp d M pc1 ls1 st1 h Q → Wp d M pc ls st h Q
  | 0, pc, pc1, ls, ls1, st, st1, hs, hw => by cases hs; exact hw
  | k + 1, pc, pc1, ls, ls1, st, st1, hs, hw => by
    unfold kseg at hs
    split at hs
    · rename_i i nx tg w ts he
      split at hs
      · rename_i ls2 st2 hp
        exact Wp.one he (fun callf cont => kstep_pure hp) (Wp.seg k hs hw)
      · split at hs
        · exact Wp.one he (fun callf cont => kstep_br rfl) (Wp.seg k hs hw)
        · cases hs
    · cases hs
theorem Wp.heap {i : Instr} {nx tg : Nat} {w : Value} {ts : List (Nat × Nat)} {st1 : List Value} {h1 : KH} (he : kpf M pc = some (i, nx, tg, w, ts)) (hp : kheap i tg ts st h = some (st1, h1)) (hw : Wp d M nx ls st1 h1 Q) : Wp d M pc ls st h Q :=
  Wp.one he (fun callf cont => kstep_heap hp) hw
theorem Wp.br {i : Instr} {nx tg : Nat} {w : Value} {ts : List (Nat × Nat)} {pc1 : Nat} {st1 : List Value} (he : kpf M pc = some (i, nx, tg, w, ts)) (hp : kbr i nx tg ts st = some (pc1, st1)) (hw : Wp d M pc1 ls st1 h Q) : Wp d M pc ls st h Q :=
  Wp.one he (fun callf cont => kstep_br hp) hw
theorem Wp.if1 {c : ClassFile.Cond} {off : Int} {nx tg : Nat} {w : Value} {ts : List (Nat × Nat)} {x : Int32} (he : kpf M pc = some (.ifCond c off, nx, tg, w, ts)) (h1 : kc1 c x → Wp d M tg ls r h Q) (h2 : ¬ kc1 c x → Wp d M nx ls r h Q) : Wp d M pc ls (.int x :: r) h Q := by
  by_cases q : kc1 c x
  · exact Wp.br he (by simp only [kbr, (kc1b_iff c x).mpr q, cond_true]) (h1 q)
  · have q2 : kc1b c x = false := Bool.eq_false_iff.mpr (fun z => q ((kc1b_iff c x).mp z))
    exact Wp.br he (by simp only [kbr, q2, cond_false]) (h2 q)
theorem Wp.if2 {c : ClassFile.Cond} {off : Int} {nx tg : Nat} {w : Value} {ts : List (Nat × Nat)} {x y : Int32} (he : kpf M pc = some (.if_icmp c off, nx, tg, w, ts)) (h1 : kc2 c x y → Wp d M tg ls r h Q) (h2 : ¬ kc2 c x y → Wp d M nx ls r h Q) : Wp d M pc ls (.int y :: .int x :: r) h Q := by
  by_cases q : kc2 c x y
  · exact Wp.br he (by simp only [kbr, (kc2b_iff c x y).mpr q, cond_true]) (h1 q)
  · have q2 : kc2b c x y = false := Bool.eq_false_iff.mpr (fun z => q ((kc2b_iff c x y).mp z))
    exact Wp.br he (by simp only [kbr, q2, cond_false]) (h2 q)
/-- a switch, key by key -/
def swP (x : Int32) (P : Nat → Prop) : List (Nat × Nat) → Nat → Prop
  | [], d => P d
  | (k, t) :: r, d => (x = Int32.ofNat k → P t) ∧ (¬ x = Int32.ofNat k → swP x P r d)
theorem swP_ok {x : Int32} {P : Nat → Prop} {tg : Nat} : ∀ {ts : List (Nat × Nat)}, swP x P ts tg → P (ksw x ts tg)
  | [], h => h
  | (k, t) :: r, h => by
    unfold ksw
    by_cases q : x = Int32.ofNat k
    · rw [if_pos q]
      exact h.1 q
    · rw [if_neg q]
      exact swP_ok (h.2 q)
theorem Wp.tsw {a b c : Int} {offs : Array Int} {nx tg : Nat} {w : Value} {ts : List (Nat × Nat)} {x : Int32} (he : kpf M pc = some (.tableswitch a b c offs, nx, tg, w, ts)) (hw : swP x (fun t => Wp d M t ls r h Q) ts tg) : Wp d M pc ls (.int x :: r) h Q :=
  Wp.br he rfl (swP_ok (P := fun t => Wp d M t ls r h Q) hw)
theorem Wp.lsw {a : Int} {ps : Array (Int × Int)} {nx tg : Nat} {w : Value} {ts : List (Nat × Nat)} {x : Int32} (he : kpf M pc = some (.lookupswitch a ps, nx, tg, w, ts)) (hw : swP x (fun t => Wp d M t ls r h Q) ts tg) : Wp d M pc ls (.int x :: r) h Q :=
  Wp.br he rfl (swP_ok (P := fun t => Wp d M t ls r h Q) hw)
/-- ends -/
theorem Wp.reti {nx tg : Nat} {w : Value} {ts : List (Nat × Nat)} {v : Int32} (he : kpf M pc = some (.ireturn, nx, tg, w, ts)) (hr : kretok (kmrc M) v = true) (hQ : Q (some (.int v), h)) : Wp d M pc ls [.int v] h Q :=
  ⟨1, _, by rw [kx_succ he]; exact kcond_i hr rfl, hQ⟩
theorem Wp.retv {nx tg : Nat} {w : Value} {ts : List (Nat × Nat)} (he : kpf M pc = some (.return_, nx, tg, w, ts)) (hr : kmrc M = 9) (hQ : Q (none, h)) : Wp d M pc ls [] h Q :=
  ⟨1, _, by rw [kx_succ he]; exact kcond_i (by rw [hr]; rfl) rfl, hQ⟩
theorem Wp.gst {idx nx tg : Nat} {w : Value} {ts : List (Nat × Nat)} (he : kpf M pc = some (.getstatic idx, nx, tg, w, ts)) (hw : Wp d M nx ls (w :: st) h Q) : Wp d M pc ls st h Q :=
  Wp.one he (fun callf cont => rfl) hw
/-- the memory -/
theorem Wp.gi {idx nx tg : Nat} {w : Value} {ts : List (Nat × Nat)} {a : Nat} {t : Nat × Nat} (he : kpf M pc = some (.getfield idx, nx, tg, w, ts)) (ht : h.1 a = t) (hk : klook t.1 ts = some 0 ∨ klook t.1 ts = some 1) (hw : Wp d M nx ls (.int (h.2.2.1 a tg) :: r) h Q) : Wp d M pc ls (.ref a :: r) h Q := by
  refine Wp.heap he (st1 := .int (h.2.2.1 a tg) :: r) (h1 := h) ?_ hw
  show kgetf tg ts (.ref a :: r) h = _
  unfold kgetf
  rcases hk with hk | hk
  · simp only [ht, hk]
  · simp only [ht, hk]
theorem Wp.gr {idx nx tg : Nat} {w : Value} {ts : List (Nat × Nat)} {a : Nat} {t : Nat × Nat} {v : Option Nat} (he : kpf M pc = some (.getfield idx, nx, tg, w, ts)) (ht : h.1 a = t) (hk : klook t.1 ts = some 2) (hv : h.2.1 a tg = v) (hw : Wp d M nx ls (krv v :: r) h Q) : Wp d M pc ls (.ref a :: r) h Q := by
  refine Wp.heap he (st1 := krv v :: r) (h1 := h) ?_ hw
  show kgetf tg ts (.ref a :: r) h = _
  unfold kgetf
  simp only [ht, hk, hv]
theorem Wp.pi {idx nx tg : Nat} {w : Value} {ts : List (Nat × Nat)} {a : Nat} {t : Nat × Nat} {x : Int32} (he : kpf M pc = some (.putfield idx, nx, tg, w, ts)) (ht : h.1 a = t) (hk : klook t.1 ts = some 0 ∨ (klook t.1 ts = some 1 ∧ (x = 0 ∨ x = 1))) (hw : Wp d M nx ls r (kwi h a tg x) Q) : Wp d M pc ls (.int x :: .ref a :: r) h Q := by
  refine Wp.heap he (st1 := r) (h1 := kwi h a tg x) ?_ hw
  show kputf tg ts (.int x :: .ref a :: r) h = _
  unfold kputf
  rcases hk with hk | ⟨hk, hx⟩
  · simp only [ht, hk]
  · simp only [ht, hk]
    refine kcond_i ?_ rfl
    rcases hx with rfl | rfl <;> rfl
theorem Wp.pr {idx nx tg : Nat} {w : Value} {ts : List (Nat × Nat)} {a : Nat} {t : Nat × Nat} {b : Nat} (he : kpf M pc = some (.putfield idx, nx, tg, w, ts)) (ht : h.1 a = t) (hk : klook t.1 ts = some 2) (hw : Wp d M nx ls r (kwr h a tg (some b)) Q) : Wp d M pc ls (.ref b :: .ref a :: r) h Q := by
  refine Wp.heap he (st1 := r) (h1 := kwr h a tg (some b)) ?_ hw
  show kputf tg ts (.ref b :: .ref a :: r) h = _
  unfold kputf
  simp only [ht, hk]
theorem Wp.pn {idx nx tg : Nat} {w : Value} {ts : List (Nat × Nat)} {a : Nat} {t : Nat × Nat} (he : kpf M pc = some (.putfield idx, nx, tg, w, ts)) (ht : h.1 a = t) (hk : klook t.1 ts = some 2) (hw : Wp d M nx ls r (kwr h a tg none) Q) : Wp d M pc ls (.null :: .ref a :: r) h Q := by
  refine Wp.heap he (st1 := r) (h1 := kwr h a tg none) ?_ hw
  show kputf tg ts (.null :: .ref a :: r) h = _
  unfold kputf
  simp only [ht, hk]
theorem kin_i {i : Int32} {n j : Nat} (hi : i = Int32.ofNat j) (hj : j < n) (hn : n ≤ 2000000000) : kin i n = true ∧ i.toNatClampNeg = j := by
  subst hi
  have e : (Int32.ofNat j).toInt = (j : Int) := kofNat_toInt (by omega)
  have e2 : (Int32.ofNat j).toNatClampNeg = j := by
    show (Int32.ofNat j).toInt.toNat = j
    rw [e]
    rfl
  refine ⟨?_, e2⟩
  unfold kin
  rw [e2, Bool.and_eq_true, decide_eq_true_eq, Nat.blt_eq]
  refine ⟨?_, hj⟩
  rw [Int32.lt_iff_toInt_lt, e]
  show ¬ ((j : Int) < 0)
  omega
theorem Wp.iald {nx tg : Nat} {w : Value} {ts : List (Nat × Nat)} {a j n k : Nat} {i : Int32} (he : kpf M pc = some (.iaload, nx, tg, w, ts)) (ht : h.1 a = (k, n)) (hk : ([20, 30] : List Nat).contains k = true) (hi : i = Int32.ofNat j) (hj : j < n) (hn : n ≤ 2000000000) (hw : Wp d M nx ls (.int (h.2.2.1 a j) :: r) h Q) : Wp d M pc ls (.int i :: .ref a :: r) h Q := by
  obtain ⟨q1, q2⟩ := kin_i hi hj hn
  refine Wp.heap he (st1 := .int (h.2.2.1 a j) :: r) (h1 := h) ?_ hw
  show kald [20, 30] (.int i :: .ref a :: r) h = _
  unfold kald
  simp only [ht, hk, q1, q2, Bool.and_self, cond_true]
theorem Wp.bald {nx tg : Nat} {w : Value} {ts : List (Nat × Nat)} {a j n k : Nat} {i : Int32} (he : kpf M pc = some (.baload, nx, tg, w, ts)) (ht : h.1 a = (k, n)) (hk : ([21, 22, 32] : List Nat).contains k = true) (hi : i = Int32.ofNat j) (hj : j < n) (hn : n ≤ 2000000000) (hw : Wp d M nx ls (.int (h.2.2.1 a j) :: r) h Q) : Wp d M pc ls (.int i :: .ref a :: r) h Q := by
  obtain ⟨q1, q2⟩ := kin_i hi hj hn
  refine Wp.heap he (st1 := .int (h.2.2.1 a j) :: r) (h1 := h) ?_ hw
  show kald [21, 22, 32] (.int i :: .ref a :: r) h = _
  unfold kald
  simp only [ht, hk, q1, q2, Bool.and_self, cond_true]
theorem Wp.lald {nx tg : Nat} {w : Value} {ts : List (Nat × Nat)} {a j n : Nat} {i : Int32} (he : kpf M pc = some (.laload, nx, tg, w, ts)) (ht : h.1 a = (23, n)) (hi : i = Int32.ofNat j) (hj : j < n) (hn : n ≤ 2000000000) (hw : Wp d M nx ls (.long (h.2.2.2.1 a j) :: r) h Q) : Wp d M pc ls (.int i :: .ref a :: r) h Q := by
  obtain ⟨q1, q2⟩ := kin_i hi hj hn
  refine Wp.heap he (st1 := .long (h.2.2.2.1 a j) :: r) (h1 := h) ?_ hw
  show kaldl (.int i :: .ref a :: r) h = _
  unfold kaldl
  simp only [ht, q1, q2, Nat.beq_refl, Bool.and_self, cond_true]
theorem Wp.aald {nx tg : Nat} {w : Value} {ts : List (Nat × Nat)} {a j n k : Nat} {i : Int32} {v : Option Nat} (he : kpf M pc = some (.aaload, nx, tg, w, ts)) (ht : h.1 a = (k, n)) (hk : ([24, 25, 26] : List Nat).contains k = true) (hi : i = Int32.ofNat j) (hj : j < n) (hn : n ≤ 2000000000) (hv : h.2.1 a j = v) (hw : Wp d M nx ls (krv v :: r) h Q) : Wp d M pc ls (.int i :: .ref a :: r) h Q := by
  obtain ⟨q1, q2⟩ := kin_i hi hj hn
  refine Wp.heap he (st1 := krv v :: r) (h1 := h) ?_ hw
  show kaldr (.int i :: .ref a :: r) h = _
  unfold kaldr
  simp only [ht, hk, q1, q2, hv, Bool.and_self, cond_true]
theorem Wp.iast {nx tg : Nat} {w : Value} {ts : List (Nat × Nat)} {a j n : Nat} {i x : Int32} (he : kpf M pc = some (.iastore, nx, tg, w, ts)) (ht : h.1 a = (20, n)) (hi : i = Int32.ofNat j) (hj : j < n) (hn : n ≤ 2000000000) (hw : Wp d M nx ls r (kwi h a j x) Q) : Wp d M pc ls (.int x :: .int i :: .ref a :: r) h Q := by
  obtain ⟨q1, q2⟩ := kin_i hi hj hn
  refine Wp.heap he (st1 := r) (h1 := kwi h a j x) ?_ hw
  show kasti (.int x :: .int i :: .ref a :: r) h = _
  unfold kasti
  simp only [ht, q1, q2, Nat.beq_refl, Bool.and_self, cond_true]
theorem Wp.bast {nx tg : Nat} {w : Value} {ts : List (Nat × Nat)} {a j n : Nat} {i x : Int32} (he : kpf M pc = some (.bastore, nx, tg, w, ts)) (ht : h.1 a = (21, n)) (hi : i = Int32.ofNat j) (hj : j < n) (hn : n ≤ 2000000000) (hw : Wp d M nx ls r (kwi h a j x.toInt8.toInt32) Q) : Wp d M pc ls (.int x :: .int i :: .ref a :: r) h Q := by
  obtain ⟨q1, q2⟩ := kin_i hi hj hn
  refine Wp.heap he (st1 := r) (h1 := kwi h a j x.toInt8.toInt32) ?_ hw
  show kastb (.int x :: .int i :: .ref a :: r) h = _
  unfold kastb
  simp only [ht, q1, q2, Nat.beq_refl, cond_true]
theorem Wp.zast {nx tg : Nat} {w : Value} {ts : List (Nat × Nat)} {a j n : Nat} {i x : Int32} (he : kpf M pc = some (.bastore, nx, tg, w, ts)) (ht : h.1 a = (22, n)) (hi : i = Int32.ofNat j) (hj : j < n) (hn : n ≤ 2000000000) (hx : x = 0 ∨ x = 1) (hw : Wp d M nx ls r (kwi h a j x) Q) : Wp d M pc ls (.int x :: .int i :: .ref a :: r) h Q := by
  obtain ⟨q1, q2⟩ := kin_i hi hj hn
  refine Wp.heap he (st1 := r) (h1 := kwi h a j x) ?_ hw
  show kastb (.int x :: .int i :: .ref a :: r) h = _
  unfold kastb
  have hx2 : (decide (x = 0) || decide (x = 1)) = true := by rcases hx with rfl | rfl <;> rfl
  have e0 : Nat.beq 22 21 = false := rfl
  have e1 : Nat.beq 22 22 = true := rfl
  simp only [ht, q1, q2, e0, e1, hx2, Bool.and_self, cond_true, cond_false]
theorem Wp.last {nx tg : Nat} {w : Value} {ts : List (Nat × Nat)} {a j n : Nat} {i : Int32} {x : Int64} (he : kpf M pc = some (.lastore, nx, tg, w, ts)) (ht : h.1 a = (23, n)) (hi : i = Int32.ofNat j) (hj : j < n) (hn : n ≤ 2000000000) (hw : Wp d M nx ls r (kwl h a j x) Q) : Wp d M pc ls (.long x :: .int i :: .ref a :: r) h Q := by
  obtain ⟨q1, q2⟩ := kin_i hi hj hn
  refine Wp.heap he (st1 := r) (h1 := kwl h a j x) ?_ hw
  show kastl (.long x :: .int i :: .ref a :: r) h = _
  unfold kastl
  simp only [ht, q1, q2, Nat.beq_refl, Bool.and_self, cond_true]
theorem Wp.alen {nx tg : Nat} {w : Value} {ts : List (Nat × Nat)} {a n k : Nat} (he : kpf M pc = some (.arraylength, nx, tg, w, ts)) (ht : h.1 a = (k, n)) (hk : ([20, 21, 22, 23, 24, 25, 26, 30, 32] : List Nat).contains k = true) (hw : Wp d M nx ls (.int (Int32.ofNat n) :: r) h Q) : Wp d M pc ls (.ref a :: r) h Q := by
  refine Wp.heap he (st1 := .int (Int32.ofNat n) :: r) (h1 := h) ?_ hw
  show kalen (.ref a :: r) h = _
  unfold kalen
  simp only [ht, hk, cond_true]
theorem Wp.div {nx tg : Nat} {w : Value} {ts : List (Nat × Nat)} {x y : Int32} (he : kpf M pc = some (.idiv, nx, tg, w, ts)) (hy : ¬ y = 0) (hw : Wp d M nx ls (.int (x / y) :: r) h Q) : Wp d M pc ls (.int y :: .int x :: r) h Q := by
  refine Wp.heap he (st1 := .int (x / y) :: r) (h1 := h) ?_ hw
  simp only [kheap, hy, decide_false, cond_false]
theorem Wp.rem {nx tg : Nat} {w : Value} {ts : List (Nat × Nat)} {x y : Int32} (he : kpf M pc = some (.irem, nx, tg, w, ts)) (hy : ¬ y = 0) (hw : Wp d M nx ls (.int (x - x / y * y) :: r) h Q) : Wp d M pc ls (.int y :: .int x :: r) h Q := by
  refine Wp.heap he (st1 := .int (x - x / y * y) :: r) (h1 := h) ?_ hw
  simp only [kheap, hy, decide_false, cond_false]
/-- calls -/
def kspec (ts : List (Nat × Nat)) : Bool := match ts with
  | [(98, _)] => false
  | [(97, _)] => false
  | [(96, _)] => false
  | [(94, _)] => false
  | _ => true
theorem kinvk_call {callf : Nat → List Value → KH → Option KO} {cont : Nat → KL → List Value → KH → Option KO} {nx tg k M2 : Nat} {ts : List (Nat × Nat)} {as : List Value} (hts : kspec ts = true) (hd : 0 < d) (hk : ktake tg st = some (as, r)) (hp : kpick ts as h = some M2) (h8 : Nat.ble (kcats r) 8 = true) {v : Option Value} {h1 : KH} (hf : callf M2 as h = some (v, h1)) :
    kinvk callf cont nx tg (.retAddr k) ts d ls st h = cont nx ls (v.toList ++ r) h1 := by
  unfold kinvk
  simp only [Nat.blt_eq.mpr hd, cond_true]
  split
  · cases hts
  · cases hts
  · cases hts
  · cases hts
  · simp only [hk, hp, h8, hf, cond_true]
    cases v <;> rfl
def kinvB : Instr → Bool
  | .invokestatic _ => true
  | .invokevirtual _ => true
  | .invokespecial _ => true
  | _ => false
theorem kstep_inv2 {callf : Nat → List Value → KH → Option KO} {cont : Nat → KL → List Value → KH → Option KO} {rt : Nat} {i : Instr} {nx tg : Nat} {w : Value} {ts : List (Nat × Nat)} (hi : kinvB i = true) : kstep callf cont rt (i, nx, tg, w, ts) d ls st h = kinvk callf cont nx tg w ts d ls st h := by
  cases i <;> first | rfl | cases hi
theorem Wp.inv {i : Instr} {nx tg k M2 d2 : Nat} {ts : List (Nat × Nat)} {as : List Value} (he : kpf M pc = some (i, nx, tg, .retAddr k, ts)) (hi : kinvB i = true) (hts : kspec ts = true) (hk : ktake tg st = some (as, r)) (hp : kpick ts as h = some M2) (h8 : Nat.ble (kcats r) 8 = true) (hd : d2 < d) (hc : Cl d2 M2 as h (fun o => Wp d M nx ls (o.1.toList ++ r) o.2 Q)) : Wp d M pc ls st h Q := by
  obtain ⟨hb, n, ⟨v, h1⟩, q, n2, o2, q2, hQ⟩ := hc
  refine ⟨n + n2 + 1, o2, ?_, hQ⟩
  rw [kx_succ he, kstep_inv2 hi]
  rw [kinvk_call (v := v) (h1 := h1) hts (by omega) hk hp h8 (kcond_i hb (kx_mono _ _ _ _ _ _ _ _ _ _ (by omega) (by omega) q))]
  exact kx_mono _ _ _ _ _ _ _ _ _ _ (by omega) (Nat.le_refl _) q2
theorem Wp.cpy {idx nx tg k z : Nat} {h1 : KH} (he : kpf M pc = some (.invokestatic idx, nx, tg, .retAddr k, [(98, z)])) (hd : 0 < d) (hc : kcopy st h = some (r, h1)) (h8 : Nat.ble (kcats r) 8 = true) (hw : Wp d M nx ls r h1 Q) : Wp d M pc ls st h Q := by
  refine Wp.one he (fun callf cont => ?_) hw
  show kinvk callf cont nx tg (.retAddr k) [(98, z)] d ls st h = _
  unfold kinvk
  simp only [Nat.blt_eq.mpr hd, cond_true, hc, h8]
theorem Wp.objinit {idx nx tg k z a : Nat} (he : kpf M pc = some (.invokespecial idx, nx, tg, .retAddr k, [(97, z)])) (hd : 0 < d) (h8 : Nat.ble (kcats r) 8 = true) (hw : Wp d M nx ls r h Q) : Wp d M pc ls (.ref a :: r) h Q := by
  refine Wp.one he (fun callf cont => ?_) hw
  show kinvk callf cont nx tg (.retAddr k) [(97, z)] d ls (.ref a :: r) h = _
  unfold kinvk
  simp only [Nat.blt_eq.mpr hd, cond_true, h8]
theorem Wp.chk {idx nx tg k z : Nat} {n x : Int32} (he : kpf M pc = some (.invokestatic idx, nx, tg, .retAddr k, [(96, z)])) (hd : 2 < d) (h1 : ¬ x < 0) (h2 : x < n) (h8 : Nat.ble (kcats r) 8 = true) (hw : Wp d M nx ls r h Q) : Wp d M pc ls (.int n :: .int x :: r) h Q := by
  refine Wp.one he (fun callf cont => ?_) hw
  show kinvk callf cont nx tg (.retAddr k) [(96, z)] d ls (.int n :: .int x :: r) h = _
  unfold kinvk
  simp only [Nat.blt_eq.mpr hd, Nat.blt_eq.mpr (show 0 < d by omega), cond_true, h8, h1, h2, not_false_eq_true, decide_true, Bool.and_self]
theorem Wp.mm {idx nx tg k z : Nat} {y x : Int32} (he : kpf M pc = some (.invokestatic idx, nx, tg, .retAddr k, [(94, z)])) (hd : 0 < d) (h8 : Nat.ble (kcats r) 8 = true) (hw : Wp d M nx ls (.int (kmm z x y) :: r) h Q) : Wp d M pc ls (.int y :: .int x :: r) h Q := by
  refine Wp.one he (fun callf cont => ?_) hw
  show kinvk callf cont nx tg (.retAddr k) [(94, z)] d ls (.int y :: .int x :: r) h = _
  unfold kinvk
  simp only [Nat.blt_eq.mpr hd, cond_true, h8]
end WPR
