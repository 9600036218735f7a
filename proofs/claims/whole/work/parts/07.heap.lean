/-! KM: steps on the memory are the machine's -/
def karr (k : Nat) : Option FieldType := match k with
  | 20 => some .int
  | 21 => some .byte
  | 22 => some .boolean
  | 23 => some .long
  | 24 => some (.object "ChalkWars$City")
  | 25 => some (.object "ChalkWars$Thing")
  | 26 => some (.array .int)
  | _ => none
/-- what the class tables say, of every state that we come to -/
def kCls (D : va_G) (Ac : Nat → ClassId) (s : State) : Prop :=
  (∀ (k : Nat) (c : vw_C), vwCl[k]? = some c → u_Kn s c.1 c.2.1 c.2.2 (D.1 k) (D.2 k)) ∧ (∀ (k : Nat) (ty : FieldType), karr k = some ty → ArrOfT s (Ac k) ty ∧ va_RA s (Ac k) ty ∧ s.vm.findClass ("[" ++ ty.toString) = some (Ac k)) ∧
  va_AO "ChalkWars$City" s ∧ va_AO "ChalkWars$Thing" s ∧ (Cond.arrayOver (.array .int)).before #[] s = true ∧ (∀ k ∈ ([0, 2, 3, 4, 8] : List Nat), ∀ c : vw_C, vwCl[k]? = some c → va_Nw (.castable c.1 "ChalkWars$Thing") s)
theorem kCls.moved {D : va_G} {Ac : Nat → ClassId} {s U : State} (hW : s.WarmedH U.vm) (h : kCls D Ac s) : kCls D Ac U :=
  ⟨fun k c hc => u_Kn_moved hW.alike (h.1 k c hc), fun k ty hk => ⟨arrOfT_moved hW.alike (h.2.1 k ty hk).1, (h.2.1 k ty hk).2.1.moved hW.alike, by rw [hW.alike.findClass]; exact (h.2.1 k ty hk).2.2⟩,
   h.2.2.1.moved hW.alike, h.2.2.2.1.moved hW.alike, over_moved hW.alike h.2.2.2.2.1, fun k hk c hc => (h.2.2.2.2.2 k hk c hc).warmC hW⟩
def ktc : FieldType → Nat
  | .int => 0
  | .boolean => 1
  | .object _ => 2
  | .array _ => 2
  | _ => 9
theorem klook_mem {k b : Nat} : ∀ {ts : List (Nat × Nat)}, klook k ts = some b → (k, b) ∈ ts
  | [], h => by cases h
  | (x, y) :: r, h => by
    simp only [klook] at h
    cases e : Nat.beq k x with
    | true =>
      rw [e] at h
      cases h
      rw [Nat.eq_of_beq_eq_true e]
      exact List.mem_cons_self
    | false =>
      rw [e] at h
      exact List.mem_cons_of_mem _ (klook_mem h)
def kFl (args : Array Value) (s : State) (own : String) (idx : Nat) (ref name desc : String) : Prop := (Cond.fieldLink own idx ref name desc).before args s = true ∨ ∃ host, va_Nw (.fieldLinkNest own idx ref name desc host) s
/-- a getfield's numbers, for a kind that it may meet -/
def kFg (args : Array Value) (s : State) (own : String) (idx tg : Nat) (q : Nat × Nat) : Prop :=
  (∃ (C : String) (T : u_T) (N : Nat) (ref : String), vwCl[q.1]? = some (C, T, N) ∧ tg < N ∧ kFl args s own idx ref (T tg).2.1 (T tg).2.2.1 ∧ (∀ x, s.fieldFound? (T tg).1 (T tg).2.1 (T tg).2.2.1 = some x → s.fieldFound? ref (T tg).2.1 (T tg).2.2.1 = some x) ∧ ktc (kty q.1 tg) = q.2) ∨
  (q.1 = 31 ∧ tg = 0 ∧ q.2 = 2 ∧ (Cond.fieldLink own idx "java/lang/String" "value" "[B").before args s = true) ∨
  (q.1 = 31 ∧ tg = 1 ∧ q.2 = 0 ∧ (Cond.fieldLink own idx "java/lang/String" "coder" "B").before args s = true)
/-- a putfield's -/
def kFp (args : Array Value) (s : State) (meth : Method) (own : String) (idx tg : Nat) (q : Nat × Nat) : Prop :=
  ∃ (C : String) (T : u_T) (N : Nat) (ref : String), vwCl[q.1]? = some (C, T, N) ∧ tg < N ∧ (∀ x, s.fieldFound? (T tg).1 (T tg).2.1 (T tg).2.2.1 = some x → s.fieldFound? ref (T tg).2.1 (T tg).2.2.1 = some x) ∧ ktc (kty q.1 tg) = q.2 ∧
    (((T tg).2.2.2 = false ∧ kFl args s own idx ref (T tg).2.1 (T tg).2.2.1) ∨ ((T tg).2.2.2 = true ∧ (Cond.fieldLink own idx ref (T tg).2.1 (T tg).2.2.1).before args s = true ∧ meth.name = "<init>" ∧ (T tg).1 = own))
theorem kfval_at (ro : Nat → Nat) (ci k : Nat) (r : Nat → Option Nat) (v : Nat → Int32) : (ktc (kty ci k) = 2 → kfval ro ci k r v = kcv ro (krv (r k))) ∧ (ktc (kty ci k) = 0 ∨ ktc (kty ci k) = 1 → kfval ro ci k r v = .int (v k)) := by
  unfold kfval
  cases kty ci k <;> simp [ktc]
theorem kCl_ty : ∀ k, k < 12 → ∀ c : vw_C, vwCl[k]? = some c → (∀ j, j < c.2.2 → parseFieldDescriptor (c.2.1 j).2.2.1 = some (kty k j)) ∧ (∀ a, a < c.2.2 → ∀ b, b < c.2.2 → a ≠ b → (c.2.1 a).2.1 ≠ (c.2.1 b).2.1) := by
  intro k hk c hc
  match k, hk, hc with
  | 0, _, hc => cases hc; exact ⟨tyX0_ok, nmX0⟩
  | 1, _, hc => cases hc; exact ⟨tyX1_ok, nmX1⟩
  | 2, _, hc => cases hc; exact ⟨tyX2_ok, nmX2⟩
  | 3, _, hc => cases hc; exact ⟨tyX3_ok, nmX3⟩
  | 4, _, hc => cases hc; exact ⟨tyX4_ok, nmX4⟩
  | 5, _, hc => cases hc; exact ⟨tyX5_ok, nmX5⟩
  | 6, _, hc => cases hc; exact ⟨tyX6_ok, nmX6⟩
  | 7, _, hc => cases hc; exact ⟨tyX7_ok, nmX7⟩
  | 8, _, hc => cases hc; exact ⟨tyX8_ok, nmX8⟩
  | 9, _, hc => cases hc; exact ⟨tyX9_ok, nmX9⟩
  | 10, _, hc => cases hc; exact ⟨tyX11_ok, nmX11⟩
  | 11, _, hc => cases hc; exact ⟨tyX12_ok, nmX12⟩
  | k + 12, hk, _ => omega
theorem kCl_tc : ∀ k, k < 12 → ∀ j, j < (vwCl.getD k ("", (fun _ => ("", "", "", false)), 0)).2.2 → ktc (kty k j) ≠ 9 := by decide +kernel
theorem kCl_tc' {k : Nat} {c : vw_C} (hc : vwCl[k]? = some c) {j : Nat} (hj : j < c.2.2) : ktc (kty k j) ≠ 9 := by
  refine kCl_tc k (kCl_lt hc) j ?_
  rw [List.getD_eq_getElem?_getD, hc]
  exact hj
theorem kdef_at (ro : Nat → Nat) {ci k : Nat} (h : ktc (kty ci k) ≠ 9) : defaultValue (kty ci k) = kfval ro ci k (fun _ => none) (fun _ => 0) := by
  unfold kfval
  cases hk : kty ci k <;> rw [hk] at h <;> first | rfl | exact absurd rfl h
section KHP
variable {p : Program} {l : Launch} {e : Env} {R : Room} {s : State} {m : MethodId} {args : Array Value} {below : List Frame} {meth : Method} {c : Code} {H H0 : Heap} {locs : List Loc} {cells slots : Nat} {Q : State → Prop}
variable {cc : ByteArray} {pc : Nat} {st st1 : List Value} {la : Array Slot} {own : String} {D : va_G} {Ac : Nat → ClassId} {base : Nat} {sp : Nat → Nat} {h h1 : KH}
theorem kW_getf (hx : p.tables.exec = Jvm.exec) (hb : c.code = cc) (hown : s.vm.findClass own = some m.cls) (hE : kCls D Ac s) (hcw : ∀ (k : Nat) (c : vw_C), vwCl[k]? = some c → ∀ w ∈ u_ws c.1 c.2.1 c.2.2, w.before args s = true) (hR : kRel D Ac base sp h s H) {idx tg : Nat} {ts : List (Nat × Nat)}
    (hok : ∀ q ∈ ts, kFg args s own idx tg q) (hdg : decode cc pc = .ok (.getfield idx, 3)) (hh : kgetf tg ts st h = some (st1, h1))
    (kk : h1 = h → W p l e R s m args below meth c H locs cells slots Q (F0 m (pc + 3) la (st1.map (kcv (kro base sp))))) : W p l e R s m args below meth c H locs cells slots Q (F0 m pc la (st.map (kcv (kro base sp)))) := by
  unfold kgetf at hh
  split at hh
  · rename_i a r
    have hat := hR.2.2.1 a
    have key : ∀ (code : Nat) (v : Value), klook (h.1 a).1 ts = some code → (code = 2 → v = krv (h.2.1 a tg)) → (code = 0 ∨ code = 1 → v = .int (h.2.2.1 a tg)) → code = 0 ∨ code = 1 ∨ code = 2 →
        W p l e R s m args below meth c H locs cells slots Q (F0 m (pc + 3) la (kcv (kro base sp) v :: r.map (kcv (kro base sp)))) → W p l e R s m args below meth c H locs cells slots Q (F0 m pc la ((Value.ref a :: r).map (kcv (kro base sp)))) := by
      intro code v hk hv2 hv0 hcode kv
      rcases hok _ (klook_mem hk) with ⟨C, T, N, ref, hc, hlt, hlink, hsame, htc⟩ | ⟨hk31, rfl, hq, hlink⟩ | ⟨hk31, rfl, hq, hlink⟩
      · obtain ⟨cell, q1, q2, q3, q4⟩ := hat.1 _ hc
        obtain ⟨hS, hfc, kC, hkC, hkind⟩ := hE.1 _ _ hc
        obtain ⟨cf, kf, fi, f, hi, hsl⟩ := hS tg hlt
        have hst := (u_facts hfc hkC (u_lays (args := args) (hcw _ _ hc) (fun w hw => hw) hlt) hi).1
        have hval : kfval (kro base sp) (h.1 a).1 tg (h.2.1 a) (h.2.2.1 a) = kcv (kro base sp) v := by
          rcases hcode with e | e | e
          · rw [(kfval_at _ _ _ _ _).2 (Or.inl (by rw [htc, e])), hv0 (Or.inl e)]
            rfl
          · rw [(kfval_at _ _ _ _ _).2 (Or.inr (by rw [htc, e])), hv0 (Or.inr e)]
            rfl
          · rw [(kfval_at _ _ _ _ _).1 (by rw [htc, e]), hv2 e]
        rcases hlink with hl | ⟨host, hl⟩
        · exact W.getf hx hb hown hl (hsame _ hi) hst q1 (by rw [q3]; exact fun z => by cases z) (v := kcv (kro base sp) v) (by rw [hsl, q4 tg hlt]; exact congrArg some hval) rfl rfl hdg kv
        · exact va_Wgetf hx hb hown (va_Nw.use rfl hl) (hsame _ hi) hst q1 (by rw [q3]; exact fun z => by cases z) (v := kcv (kro base sp) v) (by rw [hsl, q4 tg hlt]; exact congrArg some hval) rfl rfl hdg kv
      · obtain ⟨⟨cf, k, fi, f, cell, h1, h2, h3, h4, h5, h6⟩, -, -⟩ := hat.2.2.2.2.2.2 hk31
        rw [hv2 hq] at kv
        exact W.getf hx hb hown hlink h1 h2 h3 h4 h5 rfl rfl hdg kv
      · obtain ⟨-, ⟨cf, k, fi, f, cell, h1, h2, h3, h4, h5, h6⟩, -⟩ := hat.2.2.2.2.2.2 hk31
        rw [hv0 (Or.inl hq)] at kv
        exact W.getf hx hb hown hlink h1 h2 h3 h4 h5 rfl rfl hdg kv
    split at hh
    · rename_i hk
      cases hh
      exact key 0 _ hk (fun z => by cases z) (fun _ => rfl) (Or.inl rfl) (kk rfl)
    · rename_i hk
      cases hh
      exact key 1 _ hk (fun z => by cases z) (fun _ => rfl) (Or.inr (Or.inl rfl)) (kk rfl)
    · rename_i hk
      cases hh
      exact key 2 _ hk (fun _ => rfl) (fun z => by rcases z with z | z <;> cases z) (Or.inr (Or.inr rfl)) (kk rfl)
    · cases hh
  · cases hh
/-- a field is written: the machine's step, in the memory's words -/
theorem kW_putv (hx : p.tables.exec = Jvm.exec) (hb : c.code = cc) (hown : s.vm.findClass own = some m.cls) (hE : kCls D Ac s) (hcw : ∀ (k : Nat) (c : vw_C), vwCl[k]? = some c → ∀ w ∈ u_ws c.1 c.2.1 c.2.2, w.before args s = true) (hR : kRel D Ac base sp h s H) (hS : va_S (kA base) H0 H locs) {idx tg a : Nat} {q : Nat × Nat} {v : Value} {r : List Value}
    (hq : q.1 = (h.1 a).1) (hok : kFp args s meth own idx tg q) (hdg : decode cc pc = .ok (.putfield idx, 3)) (hn : narrow (kty (h.1 a).1 tg) v = v) (hfit : fits (kty (h.1 a).1 tg) v = true) {h1 : KH}
    (e1 : h1.1 = h.1) (e2 : ∀ b, b ≠ a → h1.2.1 b = h.2.1 b) (e3 : ∀ b, b ≠ a → h1.2.2.1 b = h.2.2.1 b) (e4 : ∀ b, b ≠ a → h1.2.2.2.1 b = h.2.2.2.1 b) (e5 : h1.2.2.2.2 = h.2.2.2.2)
    (ev : ∀ j, kfval (kro base sp) (h.1 a).1 j (h1.2.1 a) (h1.2.2.1 a) = updV (fun k => kfval (kro base sp) (h.1 a).1 k (h.2.1 a) (h.2.2.1 a)) tg v j)
    (kk : ∀ (H1 : Heap) (locs1 : List Loc), kRel D Ac base sp h1 s H1 → va_S (kA base) H0 H1 locs1 → W p l e R s m args below meth c H1 locs1 cells slots Q (F0 m (pc + 3) la r)) : W p l e R s m args below meth c H locs cells slots Q (F0 m pc la (v :: .ref (kro base sp a) :: r)) := by
  obtain ⟨C, T, N, ref, hc, hlt, hsame, htc, hfin⟩ := hok
  rw [hq] at hc htc
  have ha : (h.1 a).1 < 30 := by have := kCl_lt hc; omega
  have hat := hR.2.2.1 a
  obtain ⟨hty, hnm⟩ := kCl_ty _ (kCl_lt hc) _ hc
  obtain ⟨cell, q1, q2, q3, q4⟩ := hat.1 _ hc
  obtain ⟨hSl, hfc, kC, hkC, hkind⟩ := hE.1 _ _ hc
  have hap : ∀ x y, x < N → y < N → x ≠ y → (D.2 (h.1 a).1) x ≠ (D.2 (h.1 a).1) y := by
    intro x y hx1 hy1 hne
    obtain ⟨_, _, _, fa, hia, ea⟩ := hSl x hx1
    obtain ⟨_, _, _, fb, hib, eb⟩ := hSl y hy1
    rw [← ea, ← eb]
    refine u_apart (u_lays (args := args) (hcw _ _ hc) (fun w hw => hw) hx1) (u_lays (args := args) (hcw _ _ hc) (fun w hw => hw) hy1) hia hib ?_
    rw [(State.fieldFound?_type hia (hty x hx1)).1, (State.fieldFound?_type hib (hty y hy1)).1]
    exact hnm x hx1 y hy1 hne
  obtain ⟨cf, kf, fi, f, hi, hsl⟩ := hSl tg hlt
  have hlays := u_lays (args := args) (hcw _ _ hc) (fun w hw => hw) hlt
  have hst := (u_facts hfc hkC hlays hi).1
  have hlay := hcw _ _ hc _ (u_in_lay hlt)
  have fin : ∀ H' : Heap, H'[kro base sp a]? = some (cell.setSlot f.slot v) → H'.size = H.size → (∀ q, q ≠ kro base sp a → H'[q]? = H[q]?) → W p l e R s m args below meth c H' (locs ++ [⟨kro base sp a, f.slot⟩]) cells slots Q (F0 m (pc + 3) la r) := by
    intro H' g1 g2 g3
    refine kk H' _ (hR.put ha e1 e2 e3 e4 e5 g2 g3 ?_) (hS.put g2 g3 (by rw [(hR.ro ha).1]; exact Nat.le_add_right _ _))
    refine ⟨fun c2 hc2 => ?_, fun z => ?_, fun z => ?_, fun z => ?_, fun z => ?_, fun z => ?_, fun z => ?_⟩
    · cases hc.symm.trans hc2
      rw [hsl] at g1
      exact t_OB.to (V := updV (fun k => kfval (kro base sp) (h.1 a).1 k (h.2.1 a) (h.2.2.1 a)) tg v) ⟨_, g1, q2, q3, t_set q4 (fun x y hx1 hy1 hne => hap x y hx1 hy1 hne) hlt v⟩ (fun j _ => (ev j).symm)
    all_goals (exfalso; have := kCl_lt hc; omega)
  rcases hfin with ⟨hf, hlink⟩ | ⟨hf, hlink, hinit, hdecl⟩
  · unfold u_lay at hlay
    rw [if_neg (by rw [hf]; decide)] at hlay
    have h6 := u_store hfc hkC hkind hlay hi (hty tg hlt) hn hfit
    rcases hlink with hl | ⟨host, hl⟩
    · exact W.putK hx hb (f := f) ⟨hown, hl, ⟨_, _, _, hsame _ hi⟩, hst⟩ (by rw [q2]; exact h6) q1 q3 (by rw [hsl]; exact k2_hasslot (q4 tg hlt)) rfl rfl hdg fin
    · exact va_WputK hx hb (f := f) hown (va_Nw.use rfl hl) (hsame _ hi) hst (by rw [q2]; exact h6) q1 q3 (by rw [hsl]; exact k2_hasslot (q4 tg hlt)) rfl rfl hdg fin
  · unfold u_lay at hlay
    rw [if_pos hf] at hlay
    have hcf : m.cls = cf := by
      obtain ⟨_, _, c', _, _, _, -, -, hf', -, -, -, hown2, -⟩ := Cond.laysFinal_spec hlay
      have e1 : c' = cf := by have := hi.symm.trans hf'; simp at this; exact this.1.symm
      rw [hdecl] at hown2
      rw [← e1]; exact Option.some.inj (hown.symm.trans hown2)
    have h6 := u_fits hfc hkC hkind (Or.inr hlay) hi (hty tg hlt) hn hfit
    exact W.putFinK hx hb hown hlink (hsame _ hi) hst hcf hinit (by rw [q2]; exact h6) q1 q3 (by rw [hsl]; exact k2_hasslot (q4 tg hlt)) rfl rfl hdg fin
theorem kW_putf (hx : p.tables.exec = Jvm.exec) (hb : c.code = cc) (hown : s.vm.findClass own = some m.cls) (hE : kCls D Ac s) (hcw : ∀ (k : Nat) (c : vw_C), vwCl[k]? = some c → ∀ w ∈ u_ws c.1 c.2.1 c.2.2, w.before args s = true) (hR : kRel D Ac base sp h s H) (hS : va_S (kA base) H0 H locs) {idx tg : Nat} {ts : List (Nat × Nat)}
    (hok : ∀ q ∈ ts, kFp args s meth own idx tg q) (hdg : decode cc pc = .ok (.putfield idx, 3)) (hh : kputf tg ts st h = some (st1, h1))
    (kk : ∀ (H1 : Heap) (locs1 : List Loc), kRel D Ac base sp h1 s H1 → va_S (kA base) H0 H1 locs1 → W p l e R s m args below meth c H1 locs1 cells slots Q (F0 m (pc + 3) la (st1.map (kcv (kro base sp))))) : W p l e R s m args below meth c H locs cells slots Q (F0 m pc la (st.map (kcv (kro base sp)))) := by
  unfold kputf at hh
  split at hh
  · rename_i x a r
    have go : ∀ code, klook (h.1 a).1 ts = some code → (code = 0 ∨ code = 1 ∧ (x = 0 ∨ x = 1)) → h1 = kwi h a tg x → st1 = r → W p l e R s m args below meth c H locs cells slots Q (F0 m pc la ((Value.int x :: .ref a :: r).map (kcv (kro base sp)))) := by
      rintro code hk hcode rfl rfl
      have hf := hok _ (klook_mem hk)
      have htc : ktc (kty (h.1 a).1 tg) = code := by
        obtain ⟨_, _, _, _, _, _, _, t, _⟩ := hf
        exact t
      refine kW_putv hx hb hown hE hcw hR hS (q := ((h.1 a).1, code)) rfl hf hdg ?_ ?_ (h1 := kwi h a tg x) rfl (fun _ _ => rfl) (fun b hb2 => ku_n _ _ hb2) (fun _ _ => rfl) rfl (fun j => ?_) kk
      · rcases hcode with e | ⟨e, hx01⟩
        · rw [e] at htc
          cases hk2 : kty (h.1 a).1 tg <;> rw [hk2] at htc <;> first | rfl | (simp [ktc] at htc)
        · rw [e] at htc
          cases hk2 : kty (h.1 a).1 tg <;> rw [hk2] at htc <;> first | (rcases hx01 with rfl | rfl <;> rfl) | (simp [ktc] at htc)
      · rcases hcode with e | ⟨e, hx01⟩
        · rw [e] at htc
          cases hk2 : kty (h.1 a).1 tg <;> rw [hk2] at htc <;> first | rfl | (simp [ktc] at htc)
        · rw [e] at htc
          cases hk2 : kty (h.1 a).1 tg <;> rw [hk2] at htc <;> first | (rcases hx01 with rfl | rfl <;> rfl) | (simp [ktc] at htc)
      · have hcd : ktc (kty (h.1 a).1 tg) = 0 ∨ ktc (kty (h.1 a).1 tg) = 1 := by
          rcases hcode with e | ⟨e, -⟩
          · exact Or.inl (by rw [htc, e])
          · exact Or.inr (by rw [htc, e])
        have ei : (kwi h a tg x).2.2.1 a = ku (h.2.2.1 a) tg x := ku_s _ _ _
        by_cases hj : j = tg
        · subst hj
          rw [(kfval_at _ _ _ _ _).2 hcd, ei, ku_s]
          simp [updV, kcv]
        · rw [ei]
          simp only [updV, if_neg hj]
          unfold kfval
          rw [ku_n _ _ hj]
          rfl
    split at hh
    · rename_i hk
      cases hh
      exact go 0 hk (Or.inl rfl) rfl rfl
    · rename_i hk
      cases hb2 : (decide (x = 0) || decide (x = 1)) with
      | false => rw [hb2] at hh; cases hh
      | true =>
        rw [hb2] at hh
        cases hh
        simp only [Bool.or_eq_true, decide_eq_true_eq] at hb2
        exact go 1 hk (Or.inr ⟨rfl, hb2⟩) rfl rfl
    · cases hh
  · rename_i b a r
    split at hh
    · rename_i hk
      cases hh
      have hf := hok _ (klook_mem hk)
      have htc : ktc (kty (h.1 a).1 tg) = 2 := by
        obtain ⟨_, _, _, _, _, _, _, t, _⟩ := hf
        exact t
      refine kW_putv hx hb hown hE hcw hR hS (q := ((h.1 a).1, 2)) rfl hf hdg ?_ ?_ (h1 := kwr h a tg (some b)) rfl (fun b hb2 => ku_n _ _ hb2) (fun _ _ => rfl) (fun _ _ => rfl) rfl (fun j => ?_) kk
      · cases hk2 : kty (h.1 a).1 tg <;> rw [hk2] at htc <;> first | rfl | (simp [ktc] at htc)
      · cases hk2 : kty (h.1 a).1 tg <;> rw [hk2] at htc <;> first | rfl | (simp [ktc] at htc)
      · have ei : (kwr h a tg (some b)).2.1 a = ku (h.2.1 a) tg (some b) := ku_s _ _ _
        by_cases hj : j = tg
        · subst hj
          rw [(kfval_at _ _ _ _ _).1 htc, ei, ku_s]
          simp [updV, krv, kcv]
        · rw [ei]
          simp only [updV, if_neg hj]
          unfold kfval
          rw [ku_n _ _ hj]
          rfl
    · cases hh
  · rename_i a r
    split at hh
    · rename_i hk
      cases hh
      have hf := hok _ (klook_mem hk)
      have htc : ktc (kty (h.1 a).1 tg) = 2 := by
        obtain ⟨_, _, _, _, _, _, _, t, _⟩ := hf
        exact t
      refine kW_putv hx hb hown hE hcw hR hS (q := ((h.1 a).1, 2)) rfl hf hdg ?_ ?_ (h1 := kwr h a tg none) rfl (fun b hb2 => ku_n _ _ hb2) (fun _ _ => rfl) (fun _ _ => rfl) rfl (fun j => ?_) kk
      · cases hk2 : kty (h.1 a).1 tg <;> rw [hk2] at htc <;> first | rfl | (simp [ktc] at htc)
      · cases hk2 : kty (h.1 a).1 tg <;> rw [hk2] at htc <;> first | rfl | (simp [ktc] at htc)
      · have ei : (kwr h a tg none).2.1 a = ku (h.2.1 a) tg none := ku_s _ _ _
        by_cases hj : j = tg
        · subst hj
          rw [(kfval_at _ _ _ _ _).1 htc, ei, ku_s]
          simp [updV, krv, kcv]
        · rw [ei]
          simp only [updV, if_neg hj]
          unfold kfval
          rw [ku_n _ _ hj]
          rfl
    · cases hh
  · cases hh
end KHP
