/-! THE PURE MACHINE: memory by object numbers (order of allocation), all of the claim's bytecode as functions -/
abbrev pm_M : Type := Nat × (Nat → Nat → Int32) × (Nat → Nat → UInt64) × (Nat → Nat → Option Nat)
def pm_u {α : Type} (f : Nat → Nat → α) (a b : Nat) (v : α) : Nat → Nat → α := fun i j => if i = a ∧ j = b then v else f i j
/-- the kinds of the objects in the order in which they are made: the class's place in vwCl and its number of fields, or 10 int, 11 boolean, 12 double, 13 Formula arrays with their lengths -/
def pm_kl (i : Nat) : Nat × Nat := match i with
  | 0 => (4, 7)
  | 1 => (3, 9)
  | 2 => (10, 160)
  | 3 => (12, 160)
  | 4 => (10, 160)
  | 5 => (10, 4)
  | 6 => (10, 4)
  | 7 => (11, 160)
  | 8 => (12, 160)
  | 9 => (11, 4)
  | 10 => (12, 4)
  | 11 => (2, 9)
  | 12 => (1, 1)
  | 13 => (12, 480)
  | _ => (13, 60)
def pm_kh (i : Nat) : Nat × Nat := match i with
  | 0 => (10, 5)
  | 1 => (12, 40)
  | 2 => (11, 40)
  | 3 => (5, 32)
  | 4 => (10, 160)
  | 5 => (10, 160)
  | 6 => (12, 160)
  | 7 => (12, 4)
  | 8 => (11, 4)
  | 9 => (10, 60)
  | 10 => (10, 60)
  | 11 => (12, 60)
  | 12 => (12, 60)
  | 13 => (10, 60)
  | 14 => (10, 480)
  | 15 => (11, 60)
  | 16 => (10, 60)
  | 17 => (10, 60)
  | 18 => (10, 60)
  | 19 => (11, 60)
  | 20 => (10, 64)
  | 21 => (10, 64)
  | 22 => (12, 64)
  | 23 => (12, 64)
  | 24 => (10, 5)
  | 25 => (11, 40)
  | 26 => (12, 40)
  | _ => (99, 0)
def pm_k (i : Nat) : Nat × Nat := if i < 15 then pm_kl i else if i < 135 then (if i % 2 = 1 then (0, 15) else (13, 8)) else pm_kh (i - 135)
/-- the types of a class's fields, classes by their places in vwCl -/
def pm_ty (c : Nat) : Nat → FieldType := match c with
  | 0 => tyX1
  | 1 => tyX4
  | 2 => tyX5
  | 3 => tyX6
  | 4 => tyX7
  | _ => tyX8
/-- where a field lies in the memory: the fields of Formula k as rows 200 + field of column k -/
def pm_l (i s : Nat) : Nat × Nat := if (pm_k i).1 = 0 then (200 + s, (i - 15) / 2) else (i, s)
def pm_o (r : Option Nat) : Value := match r with
  | some k => .ref k
  | none => .null
def pm_g (μ : pm_M) (i s : Nat) (ty : FieldType) : Value := match ty with
  | .int => .int (μ.2.1 (pm_l i s).1 (pm_l i s).2)
  | .boolean => .int (μ.2.1 (pm_l i s).1 (pm_l i s).2)
  | .double => .double (μ.2.2.1 (pm_l i s).1 (pm_l i s).2)
  | _ => pm_o (μ.2.2.2 (pm_l i s).1 (pm_l i s).2)
def pm_wI (μ : pm_M) (a b : Nat) (x : Int32) : pm_M := (μ.1, pm_u μ.2.1 a b x, μ.2.2.1, μ.2.2.2)
def pm_wD (μ : pm_M) (a b : Nat) (x : UInt64) : pm_M := (μ.1, μ.2.1, pm_u μ.2.2.1 a b x, μ.2.2.2)
def pm_wR (μ : pm_M) (a b : Nat) (x : Option Nat) : pm_M := (μ.1, μ.2.1, μ.2.2.1, pm_u μ.2.2.2 a b x)
def pm_p (μ : pm_M) (i s : Nat) (ty : FieldType) (v : Value) : Option pm_M := match ty with
  | .int => (match v with
    | .int x => some (pm_wI μ (pm_l i s).1 (pm_l i s).2 x)
    | _ => none)
  | .boolean => (match v with
    | .int x => if x &&& 1 = x then some (pm_wI μ (pm_l i s).1 (pm_l i s).2 x) else none
    | _ => none)
  | .double => (match v with
    | .double x => some (pm_wD μ (pm_l i s).1 (pm_l i s).2 x)
    | _ => none)
  | .object _ => (match v with
    | .ref k => some (pm_wR μ (pm_l i s).1 (pm_l i s).2 (some k))
    | _ => none)
  | .array _ => (match v with
    | .ref k => some (pm_wR μ (pm_l i s).1 (pm_l i s).2 (some k))
    | _ => none)
  | _ => none
abbrev pm_F : Type := List Value → pm_M → Option (Option Value × pm_M)
/-- what a method's code is read with: the bytes; field links (class, field) to read, to write; constants; calls (0 virtual, 1 static, 2 special; how many arguments beside the receiver; the receiver's class; the function); classes (to make objects of; 13: arrays over Formula); natives (0 longBitsToDouble, 1 doubleToRawLongBits); the script; the type of the answer -/
abbrev pm_E : Type := ByteArray × (Nat → Option (Nat × Nat)) × (Nat → Option (Nat × Nat)) × (Nat → Option Value) × (Nat → Option (Nat × Nat × Nat × pm_F)) × (Nat → Option Nat) × (Nat → Option Nat) × Option (Nat × (Nat → Int32)) × Option FieldType
abbrev pm_Ec (E : pm_E) : ByteArray := E.1
abbrev pm_Eg (E : pm_E) : Nat → Option (Nat × Nat) := E.2.1
abbrev pm_Ep (E : pm_E) : Nat → Option (Nat × Nat) := E.2.2.1
abbrev pm_Ek (E : pm_E) : Nat → Option Value := E.2.2.2.1
abbrev pm_Ef (E : pm_E) : Nat → Option (Nat × Nat × Nat × pm_F) := E.2.2.2.2.1
abbrev pm_Eo (E : pm_E) : Nat → Option Nat := E.2.2.2.2.2.1
abbrev pm_En (E : pm_E) : Nat → Option Nat := E.2.2.2.2.2.2.1
abbrev pm_Ex (E : pm_E) : Option (Nat × (Nat → Int32)) := E.2.2.2.2.2.2.2.1
abbrev pm_Er (E : pm_E) : Option FieldType := E.2.2.2.2.2.2.2.2
abbrev pm_S : Type := Nat × List Value × List Value × pm_M
def pm_at (L : List Value) (i : Nat) : Value := L.getD i (.retAddr 0)
def pm_c (c : ClassFile.Cond) (x y : Int32) : Bool := match c with
  | .eq => decide (x = y)
  | .ne => !decide (x = y)
  | .lt => decide (x < y)
  | .ge => decide (y ≤ x)
  | .gt => decide (y < x)
  | .le => decide (x ≤ y)
def pm_t (pc : Nat) (off : Int) : Option Nat := if 0 ≤ (pc : Int) + off then some ((pc : Int) + off).toNat else none
def pm_sw (d lo hi : Int) (offs : Array Int) (x : Int32) : Option Int := if x.toInt < lo ∨ hi < x.toInt then some d else offs[(x.toInt - lo).toNat]?
/-- instructions that leave the memory -/
def pm_s1 (i : ClassFile.Instr) (pc : Nat) (L st : List Value) : Option (Nat × List Value × List Value) := match i with
  | .iconst n => some (pc + 1, L, .int (Int32.ofInt n) :: st)
  | .bipush n => some (pc + 2, L, .int (Int8.ofInt n).toInt32 :: st)
  | .sipush n => some (pc + 3, L, .int (Int16.ofInt n).toInt32 :: st)
  | .lconst n => some (pc + 1, L, .long (Int64.ofNat n) :: st)
  | .dconst n => some (pc + 1, L, .double (if n = 0 then 0 else 4607182418800017408) :: st)
  | .aconst_null => some (pc + 1, L, .null :: st)
  | .iload_n k => (match pm_at L k with
    | .int x => some (pc + 1, L, .int x :: st)
    | _ => none)
  | .iload k => (match pm_at L k with
    | .int x => some (pc + 2, L, .int x :: st)
    | _ => none)
  | .lload_n k => (match pm_at L k, pm_at L (k + 1) with
    | .long x, .retAddr 1 => some (pc + 1, L, .long x :: st)
    | _, _ => none)
  | .lload k => (match pm_at L k, pm_at L (k + 1) with
    | .long x, .retAddr 1 => some (pc + 2, L, .long x :: st)
    | _, _ => none)
  | .dload_n k => (match pm_at L k, pm_at L (k + 1) with
    | .double x, .retAddr 1 => some (pc + 1, L, .double x :: st)
    | _, _ => none)
  | .dload k => (match pm_at L k, pm_at L (k + 1) with
    | .double x, .retAddr 1 => some (pc + 2, L, .double x :: st)
    | _, _ => none)
  | .aload_n k => (match pm_at L k with
    | .ref x => some (pc + 1, L, .ref x :: st)
    | .null => some (pc + 1, L, .null :: st)
    | _ => none)
  | .aload k => (match pm_at L k with
    | .ref x => some (pc + 2, L, .ref x :: st)
    | .null => some (pc + 2, L, .null :: st)
    | _ => none)
  | .istore_n k => (match st with
    | .int x :: st => if k < L.length then some (pc + 1, L.set k (.int x), st) else none
    | _ => none)
  | .istore k => (match st with
    | .int x :: st => if k < L.length then some (pc + 2, L.set k (.int x), st) else none
    | _ => none)
  | .lstore_n k => (match st with
    | .long x :: st => if k + 1 < L.length then some (pc + 1, (L.set k (.long x)).set (k + 1) (.retAddr 1), st) else none
    | _ => none)
  | .lstore k => (match st with
    | .long x :: st => if k + 1 < L.length then some (pc + 2, (L.set k (.long x)).set (k + 1) (.retAddr 1), st) else none
    | _ => none)
  | .dstore_n k => (match st with
    | .double x :: st => if k + 1 < L.length then some (pc + 1, (L.set k (.double x)).set (k + 1) (.retAddr 1), st) else none
    | _ => none)
  | .dstore k => (match st with
    | .double x :: st => if k + 1 < L.length then some (pc + 2, (L.set k (.double x)).set (k + 1) (.retAddr 1), st) else none
    | _ => none)
  | .astore_n k => (match st with
    | .ref x :: st => if k < L.length then some (pc + 1, L.set k (.ref x), st) else none
    | .null :: st => if k < L.length then some (pc + 1, L.set k .null, st) else none
    | _ => none)
  | .astore k => (match st with
    | .ref x :: st => if k < L.length then some (pc + 2, L.set k (.ref x), st) else none
    | .null :: st => if k < L.length then some (pc + 2, L.set k .null, st) else none
    | _ => none)
  | .iinc k n => (match pm_at L k with
    | .int x => if k < L.length then some (pc + 3, L.set k (.int (x + Int32.ofInt n)), st) else none
    | _ => none)
  | .iadd => (match st with
    | .int y :: .int x :: st => some (pc + 1, L, .int (x + y) :: st)
    | _ => none)
  | .isub => (match st with
    | .int y :: .int x :: st => some (pc + 1, L, .int (x - y) :: st)
    | _ => none)
  | .imul => (match st with
    | .int y :: .int x :: st => some (pc + 1, L, .int (x * y) :: st)
    | _ => none)
  | .idiv => (match st with
    | .int y :: .int x :: st => if y = 0 then none else some (pc + 1, L, .int (x / y) :: st)
    | _ => none)
  | .irem => (match st with
    | .int y :: .int x :: st => if y = 0 then none else some (pc + 1, L, .int (x - x / y * y) :: st)
    | _ => none)
  | .ineg => (match st with
    | .int x :: st => some (pc + 1, L, .int (-x) :: st)
    | _ => none)
  | .ishl => (match st with
    | .int y :: .int x :: st => some (pc + 1, L, .int (x <<< (y &&& 31)) :: st)
    | _ => none)
  | .ishr => (match st with
    | .int y :: .int x :: st => some (pc + 1, L, .int (x >>> (y &&& 31)) :: st)
    | _ => none)
  | .iand => (match st with
    | .int y :: .int x :: st => some (pc + 1, L, .int (x &&& y) :: st)
    | _ => none)
  | .ior => (match st with
    | .int y :: .int x :: st => some (pc + 1, L, .int (x ||| y) :: st)
    | _ => none)
  | .ixor => (match st with
    | .int y :: .int x :: st => some (pc + 1, L, .int (x ^^^ y) :: st)
    | _ => none)
  | .i2l => (match st with
    | .int x :: st => some (pc + 1, L, .long x.toInt64 :: st)
    | _ => none)
  | .i2d => (match st with
    | .int x :: st => some (pc + 1, L, .double (FP.i2d x) :: st)
    | _ => none)
  | .l2i => (match st with
    | .long x :: st => some (pc + 1, L, .int x.toInt32 :: st)
    | _ => none)
  | .l2d => (match st with
    | .long x :: st => some (pc + 1, L, .double (FP.l2d x) :: st)
    | _ => none)
  | .d2l => (match st with
    | .double x :: st => some (pc + 1, L, .long (FP.d2l x) :: st)
    | _ => none)
  | .ladd => (match st with
    | .long y :: .long x :: st => some (pc + 1, L, .long (x + y) :: st)
    | _ => none)
  | .lsub => (match st with
    | .long y :: .long x :: st => some (pc + 1, L, .long (x - y) :: st)
    | _ => none)
  | .lmul => (match st with
    | .long y :: .long x :: st => some (pc + 1, L, .long (x * y) :: st)
    | _ => none)
  | .ldiv => (match st with
    | .long y :: .long x :: st => if y = 0 then none else some (pc + 1, L, .long (x / y) :: st)
    | _ => none)
  | .land => (match st with
    | .long y :: .long x :: st => some (pc + 1, L, .long (x &&& y) :: st)
    | _ => none)
  | .lor => (match st with
    | .long y :: .long x :: st => some (pc + 1, L, .long (x ||| y) :: st)
    | _ => none)
  | .lshl => (match st with
    | .int y :: .long x :: st => some (pc + 1, L, .long (x <<< (y.toInt64 &&& 63)) :: st)
    | _ => none)
  | .lshr => (match st with
    | .int y :: .long x :: st => some (pc + 1, L, .long (x >>> (y.toInt64 &&& 63)) :: st)
    | _ => none)
  | .lushr => (match st with
    | .int y :: .long x :: st => some (pc + 1, L, .long (x.toUInt64 >>> (y.toInt64.toUInt64 &&& Int64.toUInt64 63)).toInt64 :: st)
    | _ => none)
  | .lcmp => (match st with
    | .long y :: .long x :: st => some (pc + 1, L, .int (lg_cmp x y) :: st)
    | _ => none)
  | .dcmp op => (match st with
    | .double y :: .double x :: st => some (pc + 1, L, .int (Op.cmpValue (FP.dcmp x y) op) :: st)
    | _ => none)
  | .dadd => (match st with
    | .double y :: .double x :: st => if FP.dadd x y &&& 0x7fffffffffffffff ≤ 0x7ff0000000000000 then some (pc + 1, L, .double (FP.dadd x y) :: st) else none
    | _ => none)
  | .dsub => (match st with
    | .double y :: .double x :: st => if FP.dsub x y &&& 0x7fffffffffffffff ≤ 0x7ff0000000000000 then some (pc + 1, L, .double (FP.dsub x y) :: st) else none
    | _ => none)
  | .dmul => (match st with
    | .double y :: .double x :: st => if FP.dmul x y &&& 0x7fffffffffffffff ≤ 0x7ff0000000000000 then some (pc + 1, L, .double (FP.dmul x y) :: st) else none
    | _ => none)
  | .ddiv => (match st with
    | .double y :: .double x :: st => if FP.ddiv x y &&& 0x7fffffffffffffff ≤ 0x7ff0000000000000 then some (pc + 1, L, .double (FP.ddiv x y) :: st) else none
    | _ => none)
  | .dneg => (match st with
    | .double x :: st => some (pc + 1, L, .double (FP.dneg x) :: st)
    | _ => none)
  | .dup => (match st with
    | .int x :: st => some (pc + 1, L, .int x :: .int x :: st)
    | .ref x :: st => some (pc + 1, L, .ref x :: .ref x :: st)
    | _ => none)
  | .dup2 => (match st with
    | .int x :: .ref y :: st => some (pc + 1, L, .int x :: .ref y :: .int x :: .ref y :: st)
    | .double x :: st => some (pc + 1, L, .double x :: .double x :: st)
    | _ => none)
  | .pop => (match st with
    | .int _ :: st => some (pc + 1, L, st)
    | _ => none)
  | .goto off => (pm_t pc off).map fun t => (t, L, st)
  | .ifCond c off => (match st with
    | .int x :: st => (pm_t pc off).map fun t => (if pm_c c x 0 = true then t else pc + 3, L, st)
    | _ => none)
  | .if_icmp c off => (match st with
    | .int y :: .int x :: st => (pm_t pc off).map fun t => (if pm_c c x y = true then t else pc + 3, L, st)
    | _ => none)
  | .ifnull off => (match st with
    | .ref _ :: st => some (pc + 3, L, st)
    | .null :: st => (pm_t pc off).map fun t => (t, L, st)
    | _ => none)
  | .ifnonnull off => (match st with
    | .ref _ :: st => (pm_t pc off).map fun t => (t, L, st)
    | .null :: st => some (pc + 3, L, st)
    | _ => none)
  | .tableswitch d lo hi offs => (match st with
    | .int x :: st => (pm_sw d lo hi offs x).bind fun o => (pm_t pc o).map fun t => (t, L, st)
    | _ => none)
  | .lookupswitch d ps => (match st with
    | .int x :: st => if (ps.toList.zip (ps.toList.drop 1)).all (fun (a, next) => a.1 < next.1) = true then (pm_t pc (Op.lookupswitch.offset ps.toList d x.toInt)).map fun t => (t, L, st) else none
    | _ => none)
  | _ => none

/-- instructions that read or change the memory -/
def pm_s2 (E : pm_E) (i : ClassFile.Instr) (pc : Nat) (L st : List Value) (μ : pm_M) : Option pm_S := match i with
  | .ldc k => (match pm_Ek E k with
    | some (.int x) => some (pc + 2, L, .int x :: st, μ)
    | _ => none)
  | .ldc2_w k => (match pm_Ek E k with
    | some (.long x) => some (pc + 3, L, .long x :: st, μ)
    | some (.double x) => some (pc + 3, L, .double x :: st, μ)
    | _ => none)
  | .getfield k => (match st, pm_Eg E k with
    | .ref i :: st, some q => if (pm_k i).1 = q.1 ∧ i < μ.1 then some (pc + 3, L, pm_g μ i q.2 (pm_ty q.1 q.2) :: st, μ) else none
    | _, _ => none)
  | .putfield k => (match st, pm_Ep E k with
    | v :: .ref i :: st, some q => if (pm_k i).1 = q.1 ∧ i < μ.1 then (pm_p μ i q.2 (pm_ty q.1 q.2) v).map fun μ' => (pc + 3, L, st, μ') else none
    | _, _ => none)
  | .iaload => (match st with
    | .int j :: .ref i :: st => if i = 9999 then (match pm_Ex E with
        | some q => if j < 0 ∨ q.1 ≤ j.toNatClampNeg then none else some (pc + 1, L, .int (q.2 j.toNatClampNeg) :: st, μ)
        | none => none)
      else if (pm_k i).1 = 10 ∧ i < μ.1 then (if j < 0 ∨ (pm_k i).2 ≤ j.toNatClampNeg then none else some (pc + 1, L, .int (μ.2.1 i j.toNatClampNeg) :: st, μ)) else none
    | _ => none)
  | .baload => (match st with
    | .int j :: .ref i :: st => if (pm_k i).1 = 11 ∧ i < μ.1 then (if j < 0 ∨ (pm_k i).2 ≤ j.toNatClampNeg then none else some (pc + 1, L, .int (μ.2.1 i j.toNatClampNeg) :: st, μ)) else none
    | _ => none)
  | .daload => (match st with
    | .int j :: .ref i :: st => if (pm_k i).1 = 12 ∧ i < μ.1 then (if j < 0 ∨ (pm_k i).2 ≤ j.toNatClampNeg then none else some (pc + 1, L, .double (μ.2.2.1 i j.toNatClampNeg) :: st, μ)) else none
    | _ => none)
  | .aaload => (match st with
    | .int j :: .ref i :: st => if (pm_k i).1 = 13 ∧ i < μ.1 then (if j < 0 ∨ (pm_k i).2 ≤ j.toNatClampNeg then none else some (pc + 1, L, pm_o (μ.2.2.2 i j.toNatClampNeg) :: st, μ)) else none
    | _ => none)
  | .iastore => (match st with
    | .int x :: .int j :: .ref i :: st => if (pm_k i).1 = 10 ∧ i < μ.1 then (if j < 0 ∨ (pm_k i).2 ≤ j.toNatClampNeg then none else some (pc + 1, L, st, pm_wI μ i j.toNatClampNeg x)) else none
    | _ => none)
  | .bastore => (match st with
    | .int x :: .int j :: .ref i :: st => if (pm_k i).1 = 11 ∧ i < μ.1 then (if j < 0 ∨ (pm_k i).2 ≤ j.toNatClampNeg then none else some (pc + 1, L, st, pm_wI μ i j.toNatClampNeg (x &&& 1))) else none
    | _ => none)
  | .dastore => (match st with
    | .double x :: .int j :: .ref i :: st => if (pm_k i).1 = 12 ∧ i < μ.1 then (if j < 0 ∨ (pm_k i).2 ≤ j.toNatClampNeg then none else some (pc + 1, L, st, pm_wD μ i j.toNatClampNeg x)) else none
    | _ => none)
  | .aastore => (match st with
    | .ref v :: .int j :: .ref i :: st => if ((pm_k i).1 = 13 ∧ i < μ.1) ∧ (pm_k v).1 = 0 ∧ v < μ.1 then (if j < 0 ∨ (pm_k i).2 ≤ j.toNatClampNeg then none else some (pc + 1, L, st, pm_wR μ i j.toNatClampNeg (some v))) else none
    | _ => none)
  | .arraylength => (match st with
    | .ref i :: st => if i = 9999 then (match pm_Ex E with
        | some q => some (pc + 1, L, .int (Int32.ofNat q.1) :: st, μ)
        | none => none)
      else none
    | _ => none)
  | .new k => (match pm_Eo E k with
    | some c => if c < 6 ∧ (pm_k μ.1).1 = c then some (pc + 3, L, .ref μ.1 :: st, (μ.1 + 1, μ.2)) else none
    | none => none)
  | .newarray t => (match st with
    | .int n :: st => if ((t = .int ∧ (pm_k μ.1).1 = 10) ∨ (t = .boolean ∧ (pm_k μ.1).1 = 11) ∨ (t = .double ∧ (pm_k μ.1).1 = 12)) ∧ ¬ n < 0 ∧ n.toNatClampNeg = (pm_k μ.1).2 then some (pc + 2, L, .ref μ.1 :: st, (μ.1 + 1, μ.2)) else none
    | _ => none)
  | .anewarray k => (match st, pm_Eo E k with
    | .int n :: st, some c => if (c = 13 ∨ c = 0) ∧ (pm_k μ.1).1 = 13 ∧ ¬ n < 0 ∧ n.toNatClampNeg = (pm_k μ.1).2 then some (pc + 3, L, .ref μ.1 :: st, (μ.1 + 1, μ.2)) else none
    | _, _ => none)
  | .invokevirtual k => (match pm_Ef E k with
    | some q => if q.1 = 0 then (match st.drop q.2.1 with
      | .ref i :: rest => if ((pm_k i).1 = q.2.2.1 ∧ i < μ.1) ∧ rest.length ≤ 4 then (q.2.2.2 (.ref i :: (st.take q.2.1).reverse) μ).map fun r => (pc + 3, L, r.1.toList ++ rest, r.2) else none
      | _ => none) else none
    | none => none)
  | .invokestatic k => (match pm_En E k with
    | some 0 => (match st with
      | .long x :: rest => if rest.length ≤ 4 ∧ vn_snl2d x = false then some (pc + 3, L, .double x.toUInt64 :: rest, μ) else none
      | _ => none)
    | some 1 => (match st with
      | .double x :: rest => if rest.length ≤ 4 then some (pc + 3, L, .long x.toInt64 :: rest, μ) else none
      | _ => none)
    | some _ => none
    | none => (match pm_Ef E k with
      | some q => if q.1 = 1 ∧ q.2.1 ≤ st.length ∧ (st.drop q.2.1).length ≤ 4 then (q.2.2.2 (st.take q.2.1).reverse μ).map fun r => (pc + 3, L, r.1.toList ++ st.drop q.2.1, r.2) else none
      | none => none))
  | .invokespecial k => (match pm_En E k with
    | some 2 => (match st with
      | .ref _ :: rest => if rest.length ≤ 4 then some (pc + 3, L, rest, μ) else none
      | _ => none)
    | some _ => none
    | none => (match pm_Ef E k with
      | some q => if q.1 = 2 then (match st.drop q.2.1 with
        | .ref i :: rest => if i < μ.1 ∧ rest.length ≤ 4 then (q.2.2.2 (.ref i :: (st.take q.2.1).reverse) μ).map fun r => (pc + 3, L, r.1.toList ++ rest, r.2) else none
        | _ => none) else none
      | none => none))
  | _ => none
def pm_s (E : pm_E) (i : ClassFile.Instr) (pc : Nat) (L st : List Value) (μ : pm_M) : Option pm_S := match pm_s1 i pc L st with
  | some q => some (q.1, q.2.1, q.2.2, μ)
  | none => pm_s2 E i pc L st μ
/-- a method's end -/
def pm_r (E : pm_E) (i : ClassFile.Instr) (st : List Value) : Option (Option Value) := match i with
  | .return_ => (match st, pm_Er E with
    | [], none => some none
    | _, _ => none)
  | .ireturn => (match st, pm_Er E with
    | [.int x], some .int => some (some (.int x))
    | [.int x], some .boolean => if x &&& 1 = x then some (some (.int x)) else none
    | _, _ => none)
  | .lreturn => (match st, pm_Er E with
    | [.long x], some .long => some (some (.long x))
    | _, _ => none)
  | .dreturn => (match st, pm_Er E with
    | [.double x], some .double => some (some (.double x))
    | _, _ => none)
  | _ => none
/-- the length that an instruction must have -/
def pm_w (i : ClassFile.Instr) (n : Nat) : Bool := match i with
  | .bipush _ | .iload _ | .lload _ | .dload _ | .aload _ | .istore _ | .lstore _ | .dstore _ | .astore _ | .newarray _ | .ldc _ => n == 2
  | .sipush _ | .ldc2_w _ | .getfield _ | .putfield _ | .invokevirtual _ | .invokestatic _ | .invokespecial _ | .new _ | .anewarray _ | .iinc _ _ | .goto _ | .ifCond _ _ | .if_icmp _ _ | .ifnull _ | .ifnonnull _ => n == 3
  | .tableswitch _ _ _ _ | .lookupswitch _ _ => true
  | _ => n == 1
def pm_x (E : pm_E) : Nat → Nat → List Value → List Value → pm_M → Option (Option Value × pm_M)
  | 0, _, _, _, _ => none
  | n + 1, pc, L, st, μ => match decode (pm_Ec E) pc with
    | .ok q => if pm_w q.1 q.2 = true then (match pm_r E q.1 st with
      | some r => some (r, μ)
      | none => (match pm_s E q.1 pc L st μ with
        | some t => pm_x E n t.1 t.2.1 t.2.2.1 t.2.2.2
        | none => none)) else none
    | _ => none
theorem pm_x_more {E : pm_E} : ∀ (n k pc : Nat) (L st : List Value) (μ : pm_M) (r : Option Value × pm_M), pm_x E n pc L st μ = some r → pm_x E (n + k) pc L st μ = some r := by
  intro n
  induction n with
  | zero => intro k pc L st μ r h; cases h
  | succ n ih =>
    intro k pc L st μ r h
    rw [show n + 1 + k = (n + k) + 1 by omega]
    unfold pm_x at h ⊢
    split at h
    · split at h
      · rename_i hw
        rw [if_pos hw]
        split at h
        · exact h
        · split at h
          · exact ih k _ _ _ _ r h
          · cases h
      · cases h
    · cases h
theorem pm_x_one {E : pm_E} {n k pc : Nat} {L st : List Value} {μ : pm_M} {r t : Option Value × pm_M} (h : pm_x E n pc L st μ = some r) (g : pm_x E k pc L st μ = some t) : r = t := by
  have h1 := pm_x_more n k pc L st μ r h
  have g1 := pm_x_more k n pc L st μ t g
  rw [Nat.add_comm] at g1
  exact Option.some.inj (h1.symm.trans g1)
noncomputable def pm_run (E : pm_E) (pc : Nat) (L st : List Value) (μ : pm_M) : Option (Option Value × pm_M) :=
  @dite _ (∃ n r, pm_x E n pc L st μ = some r) (Classical.propDecidable _) (fun h => some (Classical.choose (Classical.choose_spec h))) (fun _ => none)
theorem pm_run_iff {E : pm_E} {pc : Nat} {L st : List Value} {μ : pm_M} {r : Option Value × pm_M} : pm_run E pc L st μ = some r ↔ ∃ n, pm_x E n pc L st μ = some r := by
  unfold pm_run
  by_cases h : ∃ n r, pm_x E n pc L st μ = some r
  · rw [dif_pos h]
    have h1 := Classical.choose_spec (Classical.choose_spec h)
    constructor
    · intro e
      cases e
      exact ⟨_, h1⟩
    · rintro ⟨n, e⟩
      rw [pm_x_one h1 e]
  · rw [dif_neg h]
    constructor
    · intro e; cases e
    · rintro ⟨n, e⟩
      exact absurd ⟨n, r, e⟩ h
theorem pm_run_ext {E : pm_E} {pc pc' : Nat} {L st L' st' : List Value} {μ μ' : pm_M} (h : ∀ r, (∃ n, pm_x E n pc L st μ = some r) ↔ (∃ n, pm_x E n pc' L' st' μ' = some r)) : pm_run E pc L st μ = pm_run E pc' L' st' μ' := by
  cases h1 : pm_run E pc' L' st' μ' with
  | some r => rw [pm_run_iff, h r, ← pm_run_iff]; exact h1
  | none =>
    cases h2 : pm_run E pc L st μ with
    | none => rfl
    | some r =>
      rw [pm_run_iff, h r, ← pm_run_iff, h1] at h2
      cases h2
theorem pm_run_step {E : pm_E} {pc len : Nat} {i : ClassFile.Instr} {L st : List Value} {μ : pm_M} {t : pm_S} (hd : decode (pm_Ec E) pc = .ok (i, len)) (hw : pm_w i len = true) (hr : pm_r E i st = none) (hs : pm_s E i pc L st μ = some t) : pm_run E pc L st μ = pm_run E t.1 t.2.1 t.2.2.1 t.2.2.2 := by
  apply pm_run_ext
  intro r
  constructor
  · rintro ⟨n, h⟩
    cases n with
    | zero => cases h
    | succ n =>
      unfold pm_x at h
      simp only [hd, hw, hr, hs, if_true] at h
      exact ⟨n, h⟩
  · rintro ⟨n, h⟩
    refine ⟨n + 1, ?_⟩
    unfold pm_x
    simp only [hd, hw, hr, hs, if_true]
    exact h
theorem pm_run_ret {E : pm_E} {pc len : Nat} {i : ClassFile.Instr} {L st : List Value} {μ : pm_M} {r : Option Value} (hd : decode (pm_Ec E) pc = .ok (i, len)) (hw : pm_w i len = true) (hr : pm_r E i st = some r) : pm_run E pc L st μ = some (r, μ) := by
  rw [pm_run_iff]
  refine ⟨1, ?_⟩
  unfold pm_x
  simp only [hd, hw, hr, if_true]
theorem pm_run_none {E : pm_E} {pc len : Nat} {i : ClassFile.Instr} {L st : List Value} {μ : pm_M} (hd : decode (pm_Ec E) pc = .ok (i, len)) (hw : pm_w i len = true) (hr : pm_r E i st = none) (hs : pm_s E i pc L st μ = none) : pm_run E pc L st μ = none := by
  cases h : pm_run E pc L st μ with
  | none => rfl
  | some r =>
    rw [pm_run_iff] at h
    obtain ⟨n, h⟩ := h
    cases n with
    | zero => cases h
    | succ n =>
      unfold pm_x at h
      simp only [hd, hw, hr, hs, if_true] at h
      cases h
/-- the locals with which a method begins -/
def pm_e : List Value → List Value
  | [] => []
  | .long x :: vs => .long x :: .retAddr 1 :: pm_e vs
  | .double x :: vs => .double x :: .retAddr 1 :: pm_e vs
  | v :: vs => v :: pm_e vs
noncomputable def pm_fn (E : pm_E) (maxL : Nat) : pm_F := fun a μ => if (pm_e a).length ≤ maxL then pm_run E 0 (pm_e a ++ List.replicate (maxL - (pm_e a).length) (.retAddr 0)) [] μ else none
