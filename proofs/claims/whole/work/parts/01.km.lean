/-! KM: a small machine of our own, over a typed memory; its runs are runs of the machine (part 05) -/
abbrev KH : Type := (Nat → Nat × Nat) × (Nat → Nat → Option Nat) × (Nat → Nat → Int32) × (Nat → Nat → Int64) × Nat × Nat
abbrev KE : Type := Instr × Nat × Nat × Value × List (Nat × Nat)
abbrev KL : Type := List (Option Value)
abbrev KO : Type := Option Value × KH
def kld (ls : KL) (i : Nat) : Option Value := match ls[i]? with
  | some (some v) => some v
  | _ => none
def kw2 : Option (Option Value) → Bool
  | some (some (.long _)) => true
  | some (some (.double _)) => true
  | _ => false
def kst (ls : KL) (i : Nat) (v : Value) : Option KL := match i with
  | 0 => cond (Nat.blt 0 ls.length) (some (ls.set 0 (some v))) none
  | j + 1 => cond (Nat.blt (j + 1) ls.length) (cond (kw2 ls[j]?) none (some (ls.set (j + 1) (some v)))) none
def kldI (ls : KL) (i : Nat) (st : List Value) : Option (KL × List Value) := match kld ls i with
  | some (.int x) => some (ls, .int x :: st)
  | _ => none
def kldJ (ls : KL) (i : Nat) (st : List Value) : Option (KL × List Value) := match kld ls i with
  | some (.long x) => some (ls, .long x :: st)
  | _ => none
def kldA (ls : KL) (i : Nat) (st : List Value) : Option (KL × List Value) := match kld ls i with
  | some (.ref x) => some (ls, .ref x :: st)
  | some .null => some (ls, .null :: st)
  | _ => none
def kstI (ls : KL) (i : Nat) (st : List Value) : Option (KL × List Value) := match st with
  | .int x :: r => (kst ls i (.int x)).map fun l => (l, r)
  | _ => none
def kstA (ls : KL) (i : Nat) (st : List Value) : Option (KL × List Value) := match st with
  | .ref x :: r => (kst ls i (.ref x)).map fun l => (l, r)
  | .null :: r => (kst ls i .null).map fun l => (l, r)
  | _ => none
def kinc (ls : KL) (i : Nat) (w : Value) (st : List Value) : Option (KL × List Value) := match kld ls i, w with
  | some (.int x), .int k => (kst ls i (.int (x + k))).map fun l => (l, st)
  | _, _ => none
def kcat1 : Value → Bool
  | .int _ => true
  | .ref _ => true
  | .null => true
  | _ => false
def k2i (f : Int32 → Int32 → Int32) (ls : KL) (st : List Value) : Option (KL × List Value) := match st with
  | .int y :: .int x :: r => some (ls, .int (f x y) :: r)
  | _ => none
def k1i (f : Int32 → Int32) (ls : KL) (st : List Value) : Option (KL × List Value) := match st with
  | .int x :: r => some (ls, .int (f x) :: r)
  | _ => none
def k2j (f : Int64 → Int64 → Int64) (ls : KL) (st : List Value) : Option (KL × List Value) := match st with
  | .long y :: .long x :: r => some (ls, .long (f x y) :: r)
  | _ => none
def kji (f : Int64 → Int32 → Int64) (ls : KL) (st : List Value) : Option (KL × List Value) := match st with
  | .int y :: .long x :: r => some (ls, .long (f x y) :: r)
  | _ => none
def kushr (x y : Int32) : Int32 := (x.toUInt32 >>> (y.toUInt32 &&& Int32.toUInt32 31)).toInt32
def klushr (x : Int64) (y : Int32) : Int64 := (x.toUInt64 >>> (y.toInt64.toUInt64 &&& Int64.toUInt64 63)).toInt64
/-- instructions that touch locals and stack alone, and never fail but by their operands' kinds -/
def kpure (i : Instr) (w : Value) (ls : KL) (st : List Value) : Option (KL × List Value) := match i with
  | .iconst _ => some (ls, w :: st)
  | .bipush _ => some (ls, w :: st)
  | .sipush _ => some (ls, w :: st)
  | .lconst _ => some (ls, w :: st)
  | .ldc _ => some (ls, w :: st)
  | .ldc_w _ => some (ls, w :: st)
  | .ldc2_w _ => some (ls, w :: st)
  | .aconst_null => some (ls, .null :: st)
  | .iload_n k => kldI ls k.val st
  | .iload k => kldI ls k st
  | .lload_n k => kldJ ls k.val st
  | .lload k => kldJ ls k st
  | .aload_n k => kldA ls k.val st
  | .aload k => kldA ls k st
  | .istore_n k => kstI ls k.val st
  | .istore k => kstI ls k st
  | .astore_n k => kstA ls k.val st
  | .astore k => kstA ls k st
  | .iinc k _ => kinc ls k w st
  | .iadd => k2i (fun x y => x + y) ls st
  | .isub => k2i (fun x y => x - y) ls st
  | .imul => k2i (fun x y => x * y) ls st
  | .iand => k2i (fun x y => x &&& y) ls st
  | .ior => k2i (fun x y => x ||| y) ls st
  | .ixor => k2i (fun x y => x ^^^ y) ls st
  | .ishl => k2i (fun x y => x <<< (y &&& 31)) ls st
  | .ishr => k2i (fun x y => x >>> (y &&& 31)) ls st
  | .iushr => k2i kushr ls st
  | .ineg => k1i (fun x => -x) ls st
  | .i2b => k1i (fun x => x.toInt8.toInt32) ls st
  | .i2s => k1i (fun x => x.toInt16.toInt32) ls st
  | .i2c => k1i (fun x => (x.toUInt32 % 65536).toInt32) ls st
  | .ladd => k2j (fun x y => x + y) ls st
  | .land => k2j (fun x y => x &&& y) ls st
  | .lor => k2j (fun x y => x ||| y) ls st
  | .lshl => kji (fun x y => x <<< (y.toInt64 &&& 63)) ls st
  | .lshr => kji (fun x y => x >>> (y.toInt64 &&& 63)) ls st
  | .lushr => kji klushr ls st
  | .i2l => match st with
    | .int x :: r => some (ls, .long x.toInt64 :: r)
    | _ => none
  | .l2i => match st with
    | .long x :: r => some (ls, .int x.toInt32 :: r)
    | _ => none
  | .lcmp => match st with
    | .long y :: .long x :: r => some (ls, .int (lg_cmp x y) :: r)
    | _ => none
  | .dup => match st with
    | v :: r => cond (kcat1 v) (some (ls, v :: v :: r)) none
    | _ => none
  | .pop => match st with
    | v :: r => cond (kcat1 v) (some (ls, r)) none
    | _ => none
  | .dup2 => match st with
    | v :: u :: r => cond (kcat1 v && kcat1 u) (some (ls, v :: u :: v :: u :: r)) none
    | _ => none
  | _ => none
def kc1 (c : ClassFile.Cond) (x : Int32) : Prop := match c with
  | .eq => x = 0
  | .ne => ¬ x = 0
  | .lt => x < 0
  | .ge => 0 ≤ x
  | .gt => 0 < x
  | .le => x ≤ 0
def kc2 (c : ClassFile.Cond) (x y : Int32) : Prop := match c with
  | .eq => x = y
  | .ne => ¬ x = y
  | .lt => x < y
  | .ge => y ≤ x
  | .gt => y < x
  | .le => x ≤ y
def kc1b (c : ClassFile.Cond) (x : Int32) : Bool := match c with
  | .eq => decide (x = 0)
  | .ne => decide (¬ x = 0)
  | .lt => decide (x < 0)
  | .ge => decide (0 ≤ x)
  | .gt => decide (0 < x)
  | .le => decide (x ≤ 0)
def kc2b (c : ClassFile.Cond) (x y : Int32) : Bool := match c with
  | .eq => decide (x = y)
  | .ne => decide (¬ x = y)
  | .lt => decide (x < y)
  | .ge => decide (y ≤ x)
  | .gt => decide (y < x)
  | .le => decide (x ≤ y)
theorem kc1b_iff (c : ClassFile.Cond) (x : Int32) : kc1b c x = true ↔ kc1 c x := by cases c <;> simp [kc1b, kc1]
theorem kc2b_iff (c : ClassFile.Cond) (x y : Int32) : kc2b c x y = true ↔ kc2 c x y := by cases c <;> simp [kc2b, kc2]
/-- a switch: the first key that is x, else the default -/
def ksw (x : Int32) : List (Nat × Nat) → Nat → Nat
  | [], d => d
  | (k, t) :: r, d => if x = Int32.ofNat k then t else ksw x r d
/-- branches: the stack that is left, the target's number -/
def kbr (i : Instr) (nx tg : Nat) (ts : List (Nat × Nat)) (st : List Value) : Option (Nat × List Value) := match i with
  | .goto _ => some (tg, st)
  | .ifCond c _ => match st with
    | .int x :: r => some (cond (kc1b c x) tg nx, r)
    | _ => none
  | .if_icmp c _ => match st with
    | .int y :: .int x :: r => some (cond (kc2b c x y) tg nx, r)
    | _ => none
  | .ifnull _ => match st with
    | .null :: r => some (tg, r)
    | .ref _ :: r => some (nx, r)
    | _ => none
  | .ifnonnull _ => match st with
    | .null :: r => some (nx, r)
    | .ref _ :: r => some (tg, r)
    | _ => none
  | .tableswitch _ _ _ _ => match st with
    | .int x :: r => some (ksw x ts tg, r)
    | _ => none
  | .lookupswitch _ _ => match st with
    | .int x :: r => some (ksw x ts tg, r)
    | _ => none
  | _ => none
