/-! KM: the memory's operations and the runs -/
def ku {α : Type} (f : Nat → α) (k : Nat) (x : α) : Nat → α := fun j => if j = k then x else f j
theorem ku_s {α : Type} (f : Nat → α) (k : Nat) (x : α) : ku f k x k = x := if_pos rfl
theorem ku_n {α : Type} (f : Nat → α) {k j : Nat} (x : α) (h : j ≠ k) : ku f k x j = f j := if_neg h
theorem ku_u {α : Type} (f : Nat → α) (k : Nat) (x y : α) : ku (ku f k x) k y = ku f k y := by
  funext j
  by_cases h : j = k
  · simp [ku, h]
  · simp [ku, h]
theorem ku_c {α : Type} (f : Nat → α) {k l : Nat} (x y : α) (h : k ≠ l) : ku (ku f k x) l y = ku (ku f l y) k x := by
  funext j
  by_cases h1 : j = l
  · subst h1
    simp [ku, Ne.symm h]
  · by_cases h2 : j = k
    · subst h2
      simp [ku, h1]
    · simp [ku, h1, h2]
theorem ku_self {α : Type} (f : Nat → α) (k : Nat) : ku f k (f k) = f := by
  funext j
  by_cases h : j = k
  · subst h
    simp [ku]
  · simp [ku, h]
/-- the value kept for a key -/
def klook (k : Nat) : List (Nat × Nat) → Option Nat
  | [] => none
  | (a, b) :: r => cond (Nat.beq k a) (some b) (klook k r)
def krv : Option Nat → Value
  | some b => .ref b
  | none => .null
def kin (i : Int32) (n : Nat) : Bool := decide (¬ i < 0) && Nat.blt i.toNatClampNeg n
theorem kin_iff {i : Int32} {n : Nat} : kin i n = true ↔ vp_in i n := by
  have e : Nat.blt i.toNatClampNeg n = true ↔ i.toNatClampNeg < n := by
    rw [Nat.blt_eq]
  simp only [kin, Bool.and_eq_true, decide_eq_true_eq, e, vp_in, not_or, Nat.not_le]
def kknd (h : KH) (a : Nat) : Nat := (h.1 a).1
def klen (h : KH) (a : Nat) : Nat := (h.1 a).2
/-- a field's value; types: 0 int, 1 boolean, 2 reference -/
def kgetf (k : Nat) (ts : List (Nat × Nat)) (st : List Value) (h : KH) : Option (List Value × KH) := match st with
  | .ref a :: r => match klook (h.1 a).1 ts with
    | some 0 => some (.int (h.2.2.1 a k) :: r, h)
    | some 1 => some (.int (h.2.2.1 a k) :: r, h)
    | some 2 => some (krv (h.2.1 a k) :: r, h)
    | _ => none
  | _ => none
def kwi (h : KH) (a k : Nat) (x : Int32) : KH := (h.1, h.2.1, ku h.2.2.1 a (ku (h.2.2.1 a) k x), h.2.2.2.1, h.2.2.2.2)
def kwr (h : KH) (a k : Nat) (x : Option Nat) : KH := (h.1, ku h.2.1 a (ku (h.2.1 a) k x), h.2.2.1, h.2.2.2.1, h.2.2.2.2)
def kwl (h : KH) (a k : Nat) (x : Int64) : KH := (h.1, h.2.1, h.2.2.1, ku h.2.2.2.1 a (ku (h.2.2.2.1 a) k x), h.2.2.2.2)
def kputf (k : Nat) (ts : List (Nat × Nat)) (st : List Value) (h : KH) : Option (List Value × KH) := match st with
  | .int x :: .ref a :: r => match klook (h.1 a).1 ts with
    | some 0 => some (r, kwi h a k x)
    | some 1 => cond (decide (x = 0) || decide (x = 1)) (some (r, kwi h a k x)) none
    | _ => none
  | .ref b :: .ref a :: r => match klook (h.1 a).1 ts with
    | some 2 => some (r, kwr h a k (some b))
    | _ => none
  | .null :: .ref a :: r => match klook (h.1 a).1 ts with
    | some 2 => some (r, kwr h a k none)
    | _ => none
  | _ => none
/-- array kinds: 20 int, 21 byte, 22 boolean, 23 long, 24 City, 25 Thing, 26 int rows; 30 int, 32 byte: never written -/
def kald (ks : List Nat) (st : List Value) (h : KH) : Option (List Value × KH) := match st with
  | .int i :: .ref a :: r => cond (ks.contains (h.1 a).1 && kin i (h.1 a).2) (some (.int (h.2.2.1 a i.toNatClampNeg) :: r, h)) none
  | _ => none
def kaldl (st : List Value) (h : KH) : Option (List Value × KH) := match st with
  | .int i :: .ref a :: r => cond (Nat.beq (h.1 a).1 23 && kin i (h.1 a).2) (some (.long (h.2.2.2.1 a i.toNatClampNeg) :: r, h)) none
  | _ => none
def kaldr (st : List Value) (h : KH) : Option (List Value × KH) := match st with
  | .int i :: .ref a :: r => cond (([24, 25, 26] : List Nat).contains (h.1 a).1 && kin i (h.1 a).2) (some (krv (h.2.1 a i.toNatClampNeg) :: r, h)) none
  | _ => none
def kasti (st : List Value) (h : KH) : Option (List Value × KH) := match st with
  | .int x :: .int i :: .ref a :: r => cond (Nat.beq (h.1 a).1 20 && kin i (h.1 a).2) (some (r, kwi h a i.toNatClampNeg x)) none
  | _ => none
def kastb (st : List Value) (h : KH) : Option (List Value × KH) := match st with
  | .int x :: .int i :: .ref a :: r => cond (kin i (h.1 a).2) (cond (Nat.beq (h.1 a).1 21) (some (r, kwi h a i.toNatClampNeg x.toInt8.toInt32)) (cond (Nat.beq (h.1 a).1 22 && (decide (x = 0) || decide (x = 1))) (some (r, kwi h a i.toNatClampNeg x)) none)) none
  | _ => none
def kastl (st : List Value) (h : KH) : Option (List Value × KH) := match st with
  | .long x :: .int i :: .ref a :: r => cond (Nat.beq (h.1 a).1 23 && kin i (h.1 a).2) (some (r, kwl h a i.toNatClampNeg x)) none
  | _ => none
/-- a reference into an array: which kinds an array of this kind may hold -/
def kholds (ka : Nat) : List Nat := cond (Nat.beq ka 24) [1] (cond (Nat.beq ka 25) [0, 2, 3, 4, 8] [])
def kastr (st : List Value) (h : KH) : Option (List Value × KH) := match st with
  | .ref b :: .int i :: .ref a :: r => cond ((kholds (h.1 a).1).contains (h.1 b).1 && kin i (h.1 a).2) (some (r, kwr h a i.toNatClampNeg (some b))) none
  | _ => none
def kalen (st : List Value) (h : KH) : Option (List Value × KH) := match st with
  | .ref a :: r => cond (([20, 21, 22, 23, 24, 25, 26, 30, 32] : List Nat).contains (h.1 a).1) (some (.int (Int32.ofNat (h.1 a).2) :: r, h)) none
  | _ => none
def kmake (h : KH) (kind len sl : Nat) : KH :=
  (ku h.1 h.2.2.2.2.1 (kind, len), ku h.2.1 h.2.2.2.2.1 (fun _ => none), ku h.2.2.1 h.2.2.2.2.1 (fun _ => 0), ku h.2.2.2.1 h.2.2.2.2.1 (fun _ => 0), h.2.2.2.2.1 + 1, h.2.2.2.2.2 + sl)
/-- new: the kind, its number of fields -/
def knew (kind n : Nat) (st : List Value) (h : KH) : Option (List Value × KH) :=
  cond (Nat.blt h.2.2.2.2.1 900000000) (some (.ref h.2.2.2.2.1 :: st, kmake h kind 0 n)) none
def knewa (kind : Nat) (st : List Value) (h : KH) : Option (List Value × KH) := match st with
  | .int n :: r => cond (Nat.blt h.2.2.2.2.1 900000000 && kin n 10000) (some (.ref h.2.2.2.2.1 :: r, kmake h kind n.toNatClampNeg n.toNatClampNeg)) none
  | _ => none
/-- new int[n][k] -/
def kmakem (h : KH) (n k : Nat) : KH :=
  (fun a => if a = h.2.2.2.2.1 then (26, n) else if h.2.2.2.2.1 < a ∧ a ≤ h.2.2.2.2.1 + n then (20, k) else h.1 a,
   ku h.2.1 h.2.2.2.2.1 (fun j => if j < n then some (h.2.2.2.2.1 + 1 + j) else none),
   fun a => if h.2.2.2.2.1 < a ∧ a ≤ h.2.2.2.2.1 + n then (fun _ => 0) else h.2.2.1 a,
   h.2.2.2.1, h.2.2.2.2.1 + 1 + n, h.2.2.2.2.2 + n + n * k)
def kmna (st : List Value) (h : KH) : Option (List Value × KH) := match st with
  | .int k :: .int n :: r => cond (Nat.blt h.2.2.2.2.1 900000000 && kin n 10000 && kin k 10000) (some (.ref h.2.2.2.2.1 :: r, kmakem h n.toNatClampNeg k.toNatClampNeg)) none
  | _ => none
/-- instructions that touch the stack and the memory -/
def kheap (i : Instr) (tg : Nat) (ts : List (Nat × Nat)) (st : List Value) (h : KH) : Option (List Value × KH) := match i with
  | .getfield _ => kgetf tg ts st h
  | .putfield _ => kputf tg ts st h
  | .iaload => kald [20, 30] st h
  | .baload => kald [21, 22, 32] st h
  | .laload => kaldl st h
  | .aaload => kaldr st h
  | .iastore => kasti st h
  | .bastore => kastb st h
  | .lastore => kastl st h
  | .aastore => kastr st h
  | .arraylength => kalen st h
  | .idiv => match st with
    | .int y :: .int x :: r => cond (decide (y = 0)) none (some (.int (x / y) :: r, h))
    | _ => none
  | .irem => match st with
    | .int y :: .int x :: r => cond (decide (y = 0)) none (some (.int (x - x / y * y) :: r, h))
    | _ => none
  | .new _ => match ts with
    | [(kind, n)] => knew kind n st h
    | _ => none
  | .newarray _ => knewa tg st h
  | .anewarray _ => knewa tg st h
  | .multianewarray _ _ => kmna st h
  | _ => none
/-- arraycopy of ints -/
def kcopy (st : List Value) (h : KH) : Option (List Value × KH) := match st with
  | .int n :: .int dp :: .ref d :: .int sp :: .ref s :: r =>
    cond (Nat.beq (h.1 s).1 20 && Nat.beq (h.1 d).1 20 && decide (¬ sp < 0) && decide (¬ dp < 0) && decide (¬ n < 0) && Nat.ble (sp.toNatClampNeg + n.toNatClampNeg) (h.1 s).2 && Nat.ble (dp.toNatClampNeg + n.toNatClampNeg) (h.1 d).2)
      (some (r, (h.1, h.2.1, ku h.2.2.1 d (va_cpy (h.2.2.1 s) (h.2.2.1 d) sp.toNatClampNeg dp.toNatClampNeg n.toNatClampNeg), h.2.2.2.1, h.2.2.2.2))) none
  | _ => none
/-- the arguments (the last one on top), the rest -/
def ktake : Nat → List Value → Option (List Value × List Value)
  | 0, st => some ([], st)
  | n + 1, v :: st => match ktake n st with
    | some (as, r) => some (as ++ [v], r)
    | none => none
  | _ + 1, [] => none
def kcats (st : List Value) : Nat := match st with
  | [] => 0
  | .long _ :: r => 2 + kcats r
  | .double _ :: r => 2 + kcats r
  | _ :: r => 1 + kcats r
/-- the locals with which a method begins -/
def kargs : List Value → KL
  | [] => []
  | .long x :: r => some (.long x) :: none :: kargs r
  | v :: r => some v :: kargs r
def knodbl (as : List Value) : Bool := as.all fun v => match v with
  | .double _ => false
  | _ => true
def kent (maxL : Nat) (as : List Value) : KL := kargs as ++ List.replicate (maxL - (kargs as).length) none
/-- which method a call runs: dispatch lists go by the receiver's kind; (99, M) is for static methods, (95, M) for constructors -/
def kpick (ts : List (Nat × Nat)) (as : List Value) (h : KH) : Option Nat := match ts with
  | [(99, M)] => some M
  | [(95, M)] => match as with
    | .ref _ :: _ => some M
    | _ => none
  | ts => match as with
    | .ref a :: _ => klook (h.1 a).1 ts
    | _ => none
def kretok (rt : Nat) (v : Int32) : Bool := cond (Nat.beq rt 0) true (cond (Nat.beq rt 1) (decide (v = 0) || decide (v = 1)) (cond (Nat.beq rt 2) (decide (narrow .char (.int v) = .int v)) (cond (Nat.beq rt 3) (decide (narrow .byte (.int v) = .int v)) false)))
/-- Math.max (0) and Math.min -/
def kmm (z : Nat) (x y : Int32) : Int32 := match z with
  | 0 => if x < y then y else x
  | _ => if y < x then y else x
/-- a call -/
def kinvk (callf : Nat → List Value → KH → Option KO) (cont : Nat → KL → List Value → KH → Option KO) (nx tg : Nat) (w : Value) (ts : List (Nat × Nat)) (d : Nat) (ls : KL) (st : List Value) (h : KH) : Option KO := match w with
  | .retAddr _ => cond (Nat.blt 0 d) (match ts with
    | [(98, _)] => match kcopy st h with
      | some (r, h1) => cond (Nat.ble (kcats r) 8) (cont nx ls r h1) none
      | none => none
    | [(97, _)] => match st with
      | .ref _ :: r => cond (Nat.ble (kcats r) 8) (cont nx ls r h) none
      | _ => none
    | [(96, _)] => match st with
      | .int n :: .int k :: r => cond (Nat.ble (kcats r) 8) (cond (Nat.blt 2 d && decide (¬ k < 0) && decide (k < n)) (cont nx ls r h) none) none
      | _ => none
    | [(94, z)] => match st with
      | .int y :: .int x :: r => cond (Nat.ble (kcats r) 8) (cont nx ls (.int (kmm z x y) :: r) h) none
      | _ => none
    | _ => match ktake tg st with
      | some (as, r) => match kpick ts as h with
        | some M => cond (Nat.ble (kcats r) 8) (match callf M as h with
          | some (some v, h1) => cont nx ls (v :: r) h1
          | some (none, h1) => cont nx ls r h1
          | none => none) none
        | none => none
      | none => none) none
  | _ => none
def kgen (cont : Nat → KL → List Value → KH → Option KO) (i : Instr) (nx tg : Nat) (w : Value) (ts : List (Nat × Nat)) (ls : KL) (st : List Value) (h : KH) : Option KO := match kpure i w ls st with
  | some (ls1, st1) => cont nx ls1 st1 h
  | none => match kbr i nx tg ts st with
    | some (pc1, st1) => cont pc1 ls st1 h
    | none => match kheap i tg ts st h with
      | some (st1, h1) => cont nx ls st1 h1
      | none => none
/-- one step: what follows a step inside the method is 'cont', a call is 'callf' -/
def kstep (callf : Nat → List Value → KH → Option KO) (cont : Nat → KL → List Value → KH → Option KO) (rt : Nat) (e : KE) (d : Nat) (ls : KL) (st : List Value) (h : KH) : Option KO := match e with
  | (i, nx, tg, w, ts) => match i with
    | .ireturn => match st with
      | [.int v] => cond (kretok rt v) (some (some (.int v), h)) none
      | _ => none
    | .return_ => match st with
      | [] => cond (Nat.beq rt 9) (some (none, h)) none
      | _ => none
    | .getstatic _ => cont nx ls (w :: st) h
    | .invokestatic _ => kinvk callf cont nx tg w ts d ls st h
    | .invokevirtual _ => kinvk callf cont nx tg w ts d ls st h
    | .invokespecial _ => kinvk callf cont nx tg w ts d ls st h
    | i => kgen cont i nx tg w ts ls st h
/-- runs: n steps at most, d frames at most; pf: the program (code by method and place, each method's number of locals, what it returns) -/
def kx (pf : Nat → Nat → Option KE) (pl pr : Nat → Nat) : Nat → Nat → Nat → Nat → KL → List Value → KH → Option KO
  | 0, _, _, _, _, _, _ => none
  | n + 1, d, M, pc, ls, st, h => match pf M pc with
    | some e => kstep (fun M2 as h2 => cond (Nat.ble (kargs as).length (pl M2) && knodbl as) (kx pf pl pr n (d - 1) M2 0 (kent (pl M2) as) [] h2) none) (fun pc2 ls2 st2 h2 => kx pf pl pr n d M pc2 ls2 st2 h2) (pr M) e d ls st h
    | none => none
theorem kx_succ {pf : Nat → Nat → Option KE} {pl pr : Nat → Nat} {n d M pc : Nat} {ls : KL} {st : List Value} {h : KH} {e : KE} (he : pf M pc = some e) :
    kx pf pl pr (n + 1) d M pc ls st h = kstep (fun M2 as h2 => cond (Nat.ble (kargs as).length (pl M2) && knodbl as) (kx pf pl pr n (d - 1) M2 0 (kent (pl M2) as) [] h2) none) (fun pc2 ls2 st2 h2 => kx pf pl pr n d M pc2 ls2 st2 h2) (pr M) e d ls st h := by
  show (match pf M pc with | some e => _ | none => none) = _
  rw [he]
