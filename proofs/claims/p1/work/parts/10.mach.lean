/-! ===== the abstract machine: it runs the methods' code over a list of cells; written here, with no word of the machine's state =====
Values are the machine's; '.ref 0' is the script, '.ref (k + 1)' the cell k of the list. Instructions are of the machine's type too, with their operands looked up already:
'.getfield (c * 64 + k)' the field k of class number c; '.putfield ((c * 64 + k) * 4 + t)' (t: 0 int, 1 boolean, 2 reference); jumps have the place where they go; '.invoke.. m' the method of number m; '.new c'; '.anewarray t';
'.ldc2_w n' the long n; '.dadd' Math.max, '.dsub' Math.min, '.dmul' Object's constructor, '.ddiv' System.arraycopy, '.instanceof k' a new exception of class number k is thrown, '.freturn' the return of a boolean. -/
def tyl (kd : Nat → ClassId) : List (ClassId × FieldType) := [(kd 0, .int), (kd 1, .byte), (kd 2, .boolean), (kd 3, .long), (kd 4, .object "FlashVault$Batch"), (kd 5, .object "FlashVault$Run"), (kd 6, .object "FlashVault$Cursor")]
abbrev aC : Type := (Nat × (Nat → Int32)) ⊕ (Nat × (Nat → Int8)) ⊕ (Nat × (Nat → Bool)) ⊕ (Nat × (Nat → Int64)) ⊕ (Nat × Nat × (Nat → Option Nat)) ⊕ (Nat × List Value)
abbrev aH : Type := List aC
abbrev aL : Type := List (Nat × Value)
abbrev kI (n : Nat) (f : Nat → Int32) : aC := .inl (n, f)
abbrev kB (n : Nat) (f : Nat → Int8) : aC := .inr (.inl (n, f))
abbrev kZ (n : Nat) (f : Nat → Bool) : aC := .inr (.inr (.inl (n, f)))
abbrev kJ (n : Nat) (f : Nat → Int64) : aC := .inr (.inr (.inr (.inl (n, f))))
abbrev kQ (t n : Nat) (f : Nat → Option Nat) : aC := .inr (.inr (.inr (.inr (.inl (t, n, f)))))
abbrev kO (c : Nat) (fs : List Value) : aC := .inr (.inr (.inr (.inr (.inr (c, fs)))))
/-- a method: its name, bytes, locals, what it returns, its handlers; the number of its class among the owners, that among the classes with objects; 0 virtual, 1 static, 2 constructor; parameters; its instructions (place, next place, instruction); its handlers (from, before, exception's number, local, place behind the store) -/
abbrev aM : Type := MethodName × ByteArray × Nat × Option FieldType × List (Nat × Nat × Nat × Nat) × Nat × Nat × Nat × Nat × List (Nat × Nat × Instr) × List (Nat × Nat × Nat × Nat × Nat)
def mY (M : aM) : MethodName := M.1
def mC (M : aM) : ByteArray := M.2.1
def mL (M : aM) : Nat := M.2.2.1
def mR (M : aM) : Option FieldType := M.2.2.2.1
def mH (M : aM) : List (Nat × Nat × Nat × Nat) := M.2.2.2.2.1
def mO (M : aM) : Nat := M.2.2.2.2.2.1
def mK (M : aM) : Nat := M.2.2.2.2.2.2.1
def mS (M : aM) : Nat := M.2.2.2.2.2.2.2.1
def mP (M : aM) : Nat := M.2.2.2.2.2.2.2.2.1
def mT (M : aM) : List (Nat × Nat × Instr) := M.2.2.2.2.2.2.2.2.2.1
def mX (M : aM) : List (Nat × Nat × Nat × Nat × Nat) := M.2.2.2.2.2.2.2.2.2.2
def lvG : aL → Nat → Option Value
  | [], _ => none
  | (j, v) :: l, i => bif j == i then some v else lvG l i
def lvS (lv : aL) (i : Nat) (v : Value) : aL := (i, v) :: lv.filter (fun q => !(q.1 == i) && !(q.1 + 1 == i && q.2.category == 2))
def lvD (lv : aL) (i : Nat) : aL := lv.filter (fun q => !(q.1 == i) && !(q.1 + 1 == i && q.2.category == 2))
def lvS2 (lv : aL) (i : Nat) (v : Value) : aL := (i, v) :: lv.filter (fun q => !(q.1 == i) && (!(q.1 == i + 1) && !(q.1 + 1 == i && q.2.category == 2)))
def lkI : Nat → List (Nat × Nat × Instr) → Option (Nat × Instr)
  | _, [] => none
  | pc, (p, x) :: l => bif p == pc then some x else lkI pc l
def lkX (pc k : Nat) : List (Nat × Nat × Nat × Nat × Nat) → Option (Nat × Nat)
  | [] => none
  | (a, b, kk, i, n) :: l => bif Nat.ble a pc && Nat.blt pc b && (kk == k) then some (i, n) else lkX pc k l
def cats (st : List Value) : Nat := (st.map fun v => v.category).sum
def bin : Instr → Int32 → Int32 → Option Int32
  | .iadd, x, y => some (x + y)
  | .isub, x, y => some (x - y)
  | .imul, x, y => some (x * y)
  | .iand, x, y => some (x &&& y)
  | .ior, x, y => some (x ||| y)
  | .ixor, x, y => some (x ^^^ y)
  | .idiv, x, y => bif decide (y = 0) then none else some (x / y)
  | .irem, x, y => bif decide (y = 0) then none else some (x - x / y * y)
  | .ishl, x, y => some (x <<< (y &&& 31))
  | .ishr, x, y => some (x >>> (y &&& 31))
  | .dadd, x, y => some (if x < y then y else x)
  | .dsub, x, y => some (if y < x then y else x)
  | _, _, _ => none
def aDef : Nat → List Value
  | 0 => [.null, .null, .null, .null, .null, .int 0, .int 0]
  | 1 => [.null, .null, .int 0, .int 0, .int 0]
  | 2 => [.null, .null, .null, .int 0, .int 0, .int 0, .int 0, .int 0, .int 0]
  | 3 => [.null, .int 0, .null, .null, .null, .null, .int 0, .int 0, .int 0, .int 0, .int 0, .int 0, .int 0, .int 0, .int 0, .int 0, .int 0, .int 0]
  | 4 => [.null, .null, .null, .null, .null, .null, .null, .null, .int 0, .int 0]
  | 5 => [.null, .int 0]
  | 6 => [.null, .int 0, .int 0, .int 0, .int 0]
  | 7 => [.null, .null, .null]
  | 8 => [.null, .null, .null, .null, .null, .int 0, .null, .null, .int 0, .int 0]
  | 9 => [.null, .null, .null, .null, .null, .int 0]
  | 10 => [.null, .null, .null, .null, .null, .null, .null, .null, .null, .int 0, .int 0, .int 0]
  | 11 => [.int 0, .null, .null, .null, .null, .null, .null, .null, .null, .null, .null, .null, .int 0, .int 0, .int 0, .int 0, .int 0, .int 0]
  | 12 => [.int 0, .int 0, .int 0, .int 0, .int 0, .null, .int 0, .null, .int 0, .int 0, .int 0, .null, .null, .null, .null, .null, .null, .null, .int 0, .null, .null, .null, .null, .null, .null, .null, .null, .null, .null, .null, .null, .null, .int 0, .null, .null, .null, .null, .null, .null, .int 0]
  | _ => []
abbrev aG : Type := Nat × aL × List Value × aH × Nat × Nat
def inR (i : Int32) (n : Nat) : Bool := !(decide (i < 0)) && Nat.blt i.toNatClampNeg n
def goL (nx : Nat) (lv : aL) (st : List Value) (H : aH) (v : Option Value) (t : Nat) : Option aG := match v, t with
  | some (.int x), 0 => some (nx, lv, .int x :: st, H, 0, 0)
  | some (.long x), 1 => some (nx, lv, .long x :: st, H, 0, 0)
  | some (.ref x), 2 => some (nx, lv, .ref x :: st, H, 0, 0)
  | _, _ => none
def goB (I : Instr) (nx : Nat) (lv : aL) (H : aH) : List Value → Option aG
  | .int y :: .int x :: s => match bin I x y with
    | some v => some (nx, lv, .int v :: s, H, 0, 0)
    | none => none
  | _ => none
def goGet (c k nx : Nat) (lv : aL) (H : aH) : List Value → Option aG
  | .ref (a + 1) :: s => match H[a]? with
    | some (.inr (.inr (.inr (.inr (.inr (c', fs)))))) => bif c' == c then (match fs[k]? with
      | some v => some (nx, lv, v :: s, H, 0, 0)
      | none => none) else none
    | _ => none
  | _ => none
def fitV (t : Nat) (v : Value) : Bool := match v with
  | .int x => (t == 0) || ((t == 1) && (decide (x = 0) || decide (x = 1)))
  | .ref _ => t == 2
  | .null => t == 2
  | _ => false
def goPut (c k t nx : Nat) (lv : aL) (H : aH) : List Value → Option aG
  | v :: .ref (a + 1) :: s => match H[a]? with
    | some (.inr (.inr (.inr (.inr (.inr (c', fs)))))) => bif (c' == c) && fitV t v && Nat.blt k fs.length then some (nx, lv, s, H.set a (kO c (fs.set k v)), 0, 0) else none
    | _ => none
  | _ => none
def goIald (sc : Nat × (Nat → Int32)) (nx : Nat) (lv : aL) (H : aH) : List Value → Option aG
  | .int i :: .ref 0 :: s => bif inR i sc.1 then some (nx, lv, .int (sc.2 i.toNatClampNeg) :: s, H, 0, 0) else none
  | .int i :: .ref (a + 1) :: s => match H[a]? with
    | some (.inl (n, f)) => bif inR i n then some (nx, lv, .int (f i.toNatClampNeg) :: s, H, 0, 0) else none
    | _ => none
  | _ => none
def goBald (nx : Nat) (lv : aL) (H : aH) : List Value → Option aG
  | .int i :: .ref (a + 1) :: s => match H[a]? with
    | some (.inr (.inl (n, f))) => bif inR i n then some (nx, lv, .int (f i.toNatClampNeg).toInt32 :: s, H, 0, 0) else none
    | some (.inr (.inr (.inl (n, f)))) => bif inR i n then some (nx, lv, .int (if f i.toNatClampNeg then 1 else 0) :: s, H, 0, 0) else none
    | _ => none
  | _ => none
def goLald (nx : Nat) (lv : aL) (H : aH) : List Value → Option aG
  | .int i :: .ref (a + 1) :: s => match H[a]? with
    | some (.inr (.inr (.inr (.inl (n, f))))) => bif inR i n then some (nx, lv, .long (f i.toNatClampNeg) :: s, H, 0, 0) else none
    | _ => none
  | _ => none
def goAald (nx : Nat) (lv : aL) (H : aH) : List Value → Option aG
  | .int i :: .ref (a + 1) :: s => match H[a]? with
    | some (.inr (.inr (.inr (.inr (.inl (t, n, f)))))) => bif inR i n && Nat.blt t 7 && Nat.ble 4 t then (match f i.toNatClampNeg with
      | some b => some (nx, lv, .ref (b + 1) :: s, H, 0, 0)
      | none => none) else none
    | _ => none
  | _ => none
def goIast (nx : Nat) (lv : aL) (H : aH) : List Value → Option aG
  | .int x :: .int i :: .ref (a + 1) :: s => match H[a]? with
    | some (.inl (n, f)) => bif inR i n then some (nx, lv, s, H.set a (kI n (va_up f i.toNatClampNeg x)), 0, 0) else none
    | _ => none
  | _ => none
def goBast (nx : Nat) (lv : aL) (H : aH) : List Value → Option aG
  | .int x :: .int i :: .ref (a + 1) :: s => match H[a]? with
    | some (.inr (.inl (n, f))) => bif inR i n then some (nx, lv, s, H.set a (kB n (va_up f i.toNatClampNeg x.toInt8)), 0, 0) else none
    | some (.inr (.inr (.inl (n, f)))) => bif inR i n then some (nx, lv, s, H.set a (kZ n (va_up f i.toNatClampNeg (decide (x &&& 1 = 1)))), 0, 0) else none
    | _ => none
  | _ => none
def goLast (nx : Nat) (lv : aL) (H : aH) : List Value → Option aG
  | .long x :: .int i :: .ref (a + 1) :: s => match H[a]? with
    | some (.inr (.inr (.inr (.inl (n, f))))) => bif inR i n then some (nx, lv, s, H.set a (kJ n (va_up f i.toNatClampNeg x)), 0, 0) else none
    | _ => none
  | _ => none
/-- the class of the elements of an array of references -/
def qCl : Nat → Nat
  | 4 => 0
  | 5 => 6
  | _ => 2
def goAast (nx : Nat) (lv : aL) (H : aH) : List Value → Option aG
  | .ref (v + 1) :: .int i :: .ref (a + 1) :: s => match H[a]?, H[v]? with
    | some (.inr (.inr (.inr (.inr (.inl (t, n, f)))))), some (.inr (.inr (.inr (.inr (.inr (c, _)))))) => bif inR i n && Nat.blt t 7 && Nat.ble 4 t && (c == qCl t) then some (nx, lv, s, H.set a (kQ t n (va_up f i.toNatClampNeg (some v))), 0, 0) else none
    | _, _ => none
  | _ => none
def lenC : aC → Option Nat
  | .inl (n, _) => some n
  | .inr (.inl (n, _)) => some n
  | .inr (.inr (.inl (n, _))) => some n
  | .inr (.inr (.inr (.inl (n, _)))) => some n
  | .inr (.inr (.inr (.inr (.inl (t, n, _))))) => bif Nat.blt t 7 && Nat.ble 4 t then some n else none
  | _ => none
def goLen (sc : Nat × (Nat → Int32)) (nx : Nat) (lv : aL) (H : aH) : List Value → Option aG
  | .ref 0 :: s => some (nx, lv, .int (Int32.ofNat sc.1) :: s, H, 0, 0)
  | .ref (a + 1) :: s => match H[a]? with
    | some c => (match lenC c with
      | some n => some (nx, lv, .int (Int32.ofNat n) :: s, H, 0, 0)
      | none => none)
    | _ => none
  | _ => none
def freshA : ArrayType → Nat → Option aC
  | .int, n => some (kI n (fun _ => 0))
  | .byte, n => some (kB n (fun _ => 0))
  | .boolean, n => some (kZ n (fun _ => false))
  | .long, n => some (kJ n (fun _ => 0))
  | _, _ => none
def goNewa (t : ArrayType) (nx : Nat) (lv : aL) (H : aH) : List Value → Option aG
  | .int n :: s => bif !(decide (n < 0)) && Nat.ble n.toNatClampNeg 67108864 then (match freshA t n.toNatClampNeg with
    | some c => some (nx, lv, .ref (H.length + 1) :: s, H ++ [c], 1, n.toNatClampNeg)
    | none => none) else none
  | _ => none
def goNewq (t nx : Nat) (lv : aL) (H : aH) : List Value → Option aG
  | .int n :: s => bif !(decide (n < 0)) && Nat.ble n.toNatClampNeg 67108864 && Nat.blt t 7 && Nat.ble 4 t then some (nx, lv, .ref (H.length + 1) :: s, H ++ [kQ t n.toNatClampNeg (fun _ => none)], 1, n.toNatClampNeg) else none
  | _ => none
def goCpy (nx : Nat) (lv : aL) (H : aH) : List Value → Option aG
  | .int n :: .int dp :: .ref (a + 1) :: .int sp :: .ref (a0 + 1) :: s => bif !(decide (sp < 0)) && !(decide (dp < 0)) && !(decide (n < 0)) && Nat.ble (cats s) 8 then (match H[a0]?, H[a]? with
    | some (.inl (n0, f)), some (.inl (n1, g)) => bif Nat.ble (sp.toNatClampNeg + n.toNatClampNeg) n0 && Nat.ble (dp.toNatClampNeg + n.toNatClampNeg) n1 then some (nx, lv, s, H.set a (kI n1 (fun j => if dp.toNatClampNeg ≤ j ∧ j < dp.toNatClampNeg + n.toNatClampNeg then f (sp.toNatClampNeg + (j - dp.toNatClampNeg)) else g j)), 0, 0) else none
    | some (.inr (.inl (n0, f))), some (.inr (.inl (n1, g))) => bif Nat.ble (sp.toNatClampNeg + n.toNatClampNeg) n0 && Nat.ble (dp.toNatClampNeg + n.toNatClampNeg) n1 then some (nx, lv, s, H.set a (kB n1 (fun j => if dp.toNatClampNeg ≤ j ∧ j < dp.toNatClampNeg + n.toNatClampNeg then f (sp.toNatClampNeg + (j - dp.toNatClampNeg)) else g j)), 0, 0) else none
    | _, _ => none) else none
  | _ => none
def goTab (lv : aL) (H : aH) (d lo hi : Int) (offs : Array Int) : List Value → Option aG
  | .int x :: s => if x.toInt < lo ∨ hi < x.toInt then some (d.toNat, lv, s, H, 0, 0) else (match offs[(x.toInt - lo).toNat]? with
    | some t => some (t.toNat, lv, s, H, 0, 0)
    | none => none)
  | _ => none
/-- an instruction that goes on -/
def stG (sc : Nat × (Nat → Int32)) (nx : Nat) (lv : aL) (st : List Value) (H : aH) (I : Instr) : Option aG := match I with
  | .iconst n => some (nx, lv, .int (Int32.ofInt n) :: st, H, 0, 0)
  | .lconst n => some (nx, lv, .long (Int64.ofNat n) :: st, H, 0, 0)
  | .ldc2_w n => some (nx, lv, .long (Int64.ofNat n) :: st, H, 0, 0)
  | .aconst_null => some (nx, lv, .null :: st, H, 0, 0)
  | .iload i => goL nx lv st H (lvG lv i) 0
  | .lload i => goL nx lv st H (lvG lv i) 1
  | .aload i => goL nx lv st H (lvG lv i) 2
  | .istore i => match st with
    | .int x :: s => some (nx, lvS lv i (.int x), s, H, 0, 0)
    | _ => none
  | .astore i => match st with
    | .ref x :: s => some (nx, lvS lv i (.ref x), s, H, 0, 0)
    | _ => none
  | .lstore i => match st with
    | .long x :: s => some (nx, lvS2 lv i (.long x), s, H, 0, 0)
    | _ => none
  | .iinc i n => match lvG lv i with
    | some (.int x) => some (nx, lvS lv i (.int (x + Int32.ofInt n)), st, H, 0, 0)
    | _ => none
  | .iadd => goB .iadd nx lv H st
  | .isub => goB .isub nx lv H st
  | .imul => goB .imul nx lv H st
  | .iand => goB .iand nx lv H st
  | .ior => goB .ior nx lv H st
  | .ixor => goB .ixor nx lv H st
  | .idiv => goB .idiv nx lv H st
  | .irem => goB .irem nx lv H st
  | .ishl => goB .ishl nx lv H st
  | .ishr => goB .ishr nx lv H st
  | .dadd => match st with
    | .int y :: .int x :: s => bif Nat.ble (cats s) 8 then some (nx, lv, .int (if x < y then y else x) :: s, H, 0, 0) else none
    | _ => none
  | .dsub => match st with
    | .int y :: .int x :: s => bif Nat.ble (cats s) 8 then some (nx, lv, .int (if y < x then y else x) :: s, H, 0, 0) else none
    | _ => none
  | .dmul => match st with
    | .ref _ :: s => bif Nat.ble (cats s) 8 then some (nx, lv, s, H, 0, 0) else none
    | _ => none
  | .ddiv => goCpy nx lv H st
  | .i2b => match st with
    | .int x :: s => some (nx, lv, .int x.toInt8.toInt32 :: s, H, 0, 0)
    | _ => none
  | .i2l => match st with
    | .int x :: s => some (nx, lv, .long x.toInt64 :: s, H, 0, 0)
    | _ => none
  | .lcmp => match st with
    | .long y :: .long x :: s => some (nx, lv, .int (lg_cmp x y) :: s, H, 0, 0)
    | _ => none
  | .ladd => match st with
    | .long y :: .long x :: s => some (nx, lv, .long (x + y) :: s, H, 0, 0)
    | _ => none
  | .lmul => match st with
    | .long y :: .long x :: s => some (nx, lv, .long (x * y) :: s, H, 0, 0)
    | _ => none
  | .lor => match st with
    | .long y :: .long x :: s => some (nx, lv, .long (x ||| y) :: s, H, 0, 0)
    | _ => none
  | .lshl => match st with
    | .int y :: .long x :: s => some (nx, lv, .long (x <<< (y.toInt64 &&& 63)) :: s, H, 0, 0)
    | _ => none
  | .dup => match st with
    | v :: s => bif v.category == 1 then some (nx, lv, v :: v :: s, H, 0, 0) else none
    | _ => none
  | .dup2 => match st with
    | v :: w :: s => bif (v.category == 1) && (w.category == 1) then some (nx, lv, v :: w :: v :: w :: s, H, 0, 0) else none
    | _ => none
  | .pop => match st with
    | v :: s => bif v.category == 1 then some (nx, lv, s, H, 0, 0) else none
    | _ => none
  | .goto t => some (t.toNat, lv, st, H, 0, 0)
  | .tableswitch d lo hi offs => goTab lv H d lo hi offs st
  | .getfield n => goGet (n / 64) (n % 64) nx lv H st
  | .putfield n => goPut (n / 4 / 64) (n / 4 % 64) (n % 4) nx lv H st
  | .iaload => goIald sc nx lv H st
  | .baload => goBald nx lv H st
  | .laload => goLald nx lv H st
  | .aaload => goAald nx lv H st
  | .iastore => goIast nx lv H st
  | .bastore => goBast nx lv H st
  | .lastore => goLast nx lv H st
  | .aastore => goAast nx lv H st
  | .arraylength => goLen sc nx lv H st
  | .new c => bif Nat.blt c cls.length then some (nx, lv, .ref (H.length + 1) :: st, H ++ [kO c (aDef c)], 1, (aDef c).length) else none
  | .newarray t => goNewa t nx lv H st
  | .anewarray t => goNewq t nx lv H st
  | _ => none
def cond32 : ClassFile.Cond → Int32 → Int32 → Bool
  | .eq, x, y => decide (x = y)
  | .ne, x, y => !(decide (x = y))
  | .lt, x, y => decide (x < y)
  | .ge, x, y => decide (y ≤ x)
  | .gt, x, y => decide (y < x)
  | .le, x, y => decide (x ≤ y)
/-- a branch: which way, where it goes, the stack behind it -/
def stB (st : List Value) (I : Instr) : Option (Bool × Nat × List Value) := match I with
  | .ifCond c t => match st with
    | .int x :: s => some (cond32 c x 0, t.toNat, s)
    | _ => none
  | .if_icmp c t => match st with
    | .int y :: .int x :: s => some (cond32 c x y, t.toNat, s)
    | _ => none
  | .ifnull t => match st with
    | .null :: s => some (true, t.toNat, s)
    | .ref _ :: s => some (false, t.toNat, s)
    | _ => none
  | .ifnonnull t => match st with
    | .null :: s => some (false, t.toNat, s)
    | .ref _ :: s => some (true, t.toNat, s)
    | _ => none
  | _ => none
/-- an end: what comes out, and what an exception costs -/
def stD (st : List Value) (I : Instr) : Option (tO × Nat × Nat) := match I with
  | .ireturn => match st with
    | [.int x] => some (.inl (some (.int x)), 0, 0)
    | _ => none
  | .lreturn => match st with
    | [.long x] => some (.inl (some (.long x)), 0, 0)
    | _ => none
  | .areturn => match st with
    | [.ref x] => some (.inl (some (.ref x)), 0, 0)
    | _ => none
  | .return_ => match st with
    | [] => some (.inl none, 0, 0)
    | _ => none
  | .freturn => match st with
    | [.int x] => bif decide (x = 0) || decide (x = 1) then some (.inl (some (.int x)), 0, 0) else none
    | _ => none
  | .instanceof k => bif Nat.ble (cats st) 8 then some (.inr k, 1, 6) else none
  | _ => none
/-- a call: the method's number, whether it wants an object of the class before the parameters -/
def stC (I : Instr) : Option (Nat × Nat) := match I with
  | .invokevirtual m => some (m, 0)
  | .invokestatic m => some (m, 1)
  | .invokespecial m => some (m, 2)
  | _ => none
def isOb (c : Nat) (H : aH) : Value → Bool
  | .ref (a + 1) => match H[a]? with
    | some (.inr (.inr (.inr (.inr (.inr (c', _)))))) => c' == c
    | _ => false
  | _ => false
def isRf : Value → Bool
  | .ref _ => true
  | _ => false
/-- the arguments, and the stack below them -/
def argsOf (M : aM) (k : Nat) (H : aH) (st : List Value) : Option (List Value × List Value) :=
  bif !(mS M == k) then none else
  match k with
  | 1 => bif Nat.ble (mP M) st.length && Nat.ble (cats (st.drop (mP M))) 8 && Nat.ble (cats (st.take (mP M))) (mL M) then some ((st.take (mP M)).reverse, st.drop (mP M)) else none
  | _ => match st.drop (mP M) with
    | v :: s => bif Nat.ble (mP M) st.length && (bif k == 0 then isOb (mK M) H v else isRf v) && Nat.ble (cats s) 8 && Nat.ble (1 + cats (st.take (mP M))) (mL M) then some (v :: (st.take (mP M)).reverse, s) else none
    | [] => none
def run (mt : List aM) (sc : Nat × (Nat → Int32)) : Nat → Nat → aM → Nat → aL → List Value → aH → Nat → Nat → Option (tO × aH × Nat × Nat)
  | 0, _, _, _, _, _, _, _, _ => none
  | f + 1, d, M, pc, lv, st, H, kc, ks =>
    match lkI pc (mT M) with
    | none => none
    | some (nx, I) =>
      match stG sc nx lv st H I with
      | some (pc', lv', st', H', c, s) => run mt sc f d M pc' lv' st' H' (kc + c) (ks + s)
      | none => match stB st I with
        | some (b, t, st') => bif b then run mt sc f d M t lv st' H kc ks else run mt sc f d M nx lv st' H kc ks
        | none => match stD st I with
          | some (o, c, s) => some (o, H, kc + c, ks + s)
          | none => match stC I with
            | none => none
            | some (m, k) => match mt[m]? with
              | none => none
              | some M' => match argsOf M' k H st with
                | none => none
                | some (av, st') => match d with
                  | 0 => none
                  | d' + 1 => match run mt sc f d' M' 0 (lv_args 0 av) [] H 0 0 with
                    | none => none
                    | some (.inl v, H', c, s) => run mt sc f (d' + 1) M nx lv (v.toList ++ st') H' (kc + c) (ks + s)
                    | some (.inr x, H', c, s) => match lkX pc x (mX M) with
                      | none => bif (mX M).any (fun q => Nat.ble q.1 pc && Nat.blt pc q.2.1) then none else some (.inr x, H', kc + c, ks + s)
                      | some (i, n) => run mt sc f (d' + 1) M n (lvD lv i) [] H' (kc + c) (ks + s)
