/-! KM: methods that touch no memory, run in the kernel -/
def kxp (d : Nat) : Nat → Nat → Nat → KL → List Value → Option (Option Value)
  | 0, _, _, _, _ => none
  | n + 1, M, pc, ls, st => match kpf M pc with
    | none => none
    | some (i, nx, tg, w, ts) => match kpure i w ls st with
      | some (ls1, st1) => kxp d n M nx ls1 st1
      | none => match kbr i nx tg ts st with
        | some (pc1, st1) => kxp d n M pc1 ls st1
        | none => match i with
          | .ireturn => match st with
            | [.int v] => cond (kretok (kmrc M) v) (some (some (.int v))) none
            | _ => none
          | .idiv => match st with
            | .int y :: .int x :: r => cond (decide (y = 0)) none (kxp d n M nx ls (.int (x / y) :: r))
            | _ => none
          | .irem => match st with
            | .int y :: .int x :: r => cond (decide (y = 0)) none (kxp d n M nx ls (.int (x - x / y * y) :: r))
            | _ => none
          | .invokestatic _ => match w, d, ts with
            | .retAddr _, d1 + 1, [(99, M2)] => match ktake tg st with
              | some (as, r) => cond (Nat.ble (kcats r) 8 && (Nat.ble (kargs as).length (kmaxl M2) && knodbl as)) (match kxp d1 n M2 0 (kent (kmaxl M2) as) [] with
                | some (some v) => kxp d n M nx ls (v :: r)
                | _ => none) none
              | none => none
            | _, _, _ => none
          | _ => none
theorem kxp_ok {h : KH} : ∀ (n d M pc : Nat) (ls : KL) (st : List Value) (v : Option Value), kxp d n M pc ls st = some v → Wp d M pc ls st h (fun o => o = (v, h)) := by
  intro n
  induction n with
  | zero => intro d M pc ls st v hq; cases hq
  | succ n ih =>
    intro d M pc ls st v hq
    unfold kxp at hq
    split at hq
    · cases hq
    · rename_i i nx tg w ts he
      split at hq
      · rename_i ls1 st1 hp
        exact Wp.one he (fun callf cont => kstep_pure hp) (ih _ _ _ _ _ _ hq)
      · split at hq
        · rename_i pc1 st1 hp
          exact Wp.one he (fun callf cont => kstep_br hp) (ih _ _ _ _ _ _ hq)
        · split at hq
          · split at hq
            · obtain ⟨b, hq⟩ := kcond hq
              cases hq
              exact Wp.reti he b rfl
            · cases hq
          · split at hq
            · rename_i y x r _ _
              by_cases hy : y = 0
              · simp [hy] at hq
              · simp only [hy, decide_false, cond_false] at hq
                exact Wp.div he hy (ih _ _ _ _ _ _ hq)
            · cases hq
          · split at hq
            · rename_i y x r _ _
              by_cases hy : y = 0
              · simp [hy] at hq
              · simp only [hy, decide_false, cond_false] at hq
                exact Wp.rem he hy (ih _ _ _ _ _ _ hq)
            · cases hq
          · split at hq
            · split at hq
              · rename_i as r hk
                obtain ⟨b, hq⟩ := kcond hq
                simp only [Bool.and_eq_true] at b
                split at hq
                · rename_i v2 e2
                  refine Wp.inv (as := as) he rfl rfl hk rfl b.1 (Nat.lt_succ_self _) ⟨by rw [b.2.1, b.2.2]; rfl, ?_⟩
                  refine (ih _ _ _ _ _ _ e2).post (fun o ho => ?_)
                  subst ho
                  exact ih _ _ _ _ _ _ hq
                · cases hq
              · cases hq
            · cases hq
          · cases hq
def kpv (d M : Nat) (xs : List Int32) : Option Int32 := cond (Nat.ble (kargs (xs.map Value.int)).length (kmaxl M)) (match kxp d 3000 M 0 (kent (kmaxl M) (xs.map Value.int)) [] with
  | some (some (.int v)) => some v
  | _ => none) none
theorem knodbl_int : ∀ xs : List Int32, knodbl (xs.map Value.int) = true
  | [] => rfl
  | _ :: r => knodbl_int r
theorem kpv_ok {d M : Nat} {xs : List Int32} {v : Int32} {h : KH} {Q : KO → Prop} (hv : kpv d M xs = some v) (hQ : Q (some (.int v), h)) : Cl d M (xs.map Value.int) h Q := by
  unfold kpv at hv
  obtain ⟨b, hv⟩ := kcond hv
  split at hv
  · rename_i v2 e
    cases hv
    exact ⟨by rw [b, knodbl_int]; rfl, (kxp_ok (h := h) _ _ _ _ _ _ _ e).post (fun o ho => by subst ho; exact hQ)⟩
  · cases hv
def kpb (d M : Nat) (xs : List Int32) (v : Int32) : Bool := match kpv d M xs with
  | some x => decide (x = v)
  | none => false
theorem kpb_ok {d M : Nat} {xs : List Int32} {v : Int32} (h : kpb d M xs v = true) : kpv d M xs = some v := by
  unfold kpb at h
  split at h
  · rename_i x e
    rw [e, of_decide_eq_true h]
  · cases h
/-- all of a box -/
def kall1 (a : Nat) (f : Nat → Bool) : Bool := (List.range a).all f
theorem kall1_ok {a : Nat} {f : Nat → Bool} (h : kall1 a f = true) {i : Nat} (hi : i < a) : f i = true := List.all_eq_true.mp h i (List.mem_range.mpr hi)
