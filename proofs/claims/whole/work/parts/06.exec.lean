/-! THE EXECUTOR: a method's bytecode run over a heap of cells that are told as values; X is its limit (no fuel), xsound ties it to the machine. -/
abbrev xE : Type := (Nat × Nat × (Nat → Value)) ⊕ (Nat × List Value)
abbrev xH : Type := Nat × Nat × Nat × (Nat → Option xE)
abbrev xG : Type := Nat × Nat × (Nat → Int32) × Nat × Nat
abbrev xR : Type := Option Value × xH
abbrev xO : Type := Option ((Nat × List Slot × List Value × xH) ⊕ ((Nat × List Value × Nat × List Slot × List Value × xH) ⊕ xR))
/-- what VIEWED_AS holds -/
def xvs (j : Nat) : Int32 := ([1, 250, 244, 248, 240, 224, 192, 128] : List Int32).getD j 0
/-- the kinds of arrays: 0 int, 1 long, 2 byte, 3 boolean, 10 + ci: of objects of kind ci -/
def xty (t : Nat) : FieldType := match t with
  | 0 => .int
  | 1 => .long
  | 2 => .byte
  | 3 => .boolean
  | k => .object (vwCl.getD (k - 10) (RX0, TX0, 1)).1
def xdv (t : Nat) : Value := match t with
  | 0 => .int 0
  | 1 => .long 0
  | 2 => .int 0
  | 3 => .int 0
  | _ => va_rf none
def xg (h : xH) (a : Nat) : Option xE := h.2.2.2 a
def xcl (h : xH) (a : Nat) : Option Nat := match h.2.2.2 a with
  | some (.inr (ci, _)) => some ci
  | _ => none
def xf (h : xH) (a ci k : Nat) : Option Value := match h.2.2.2 a with
  | some (.inr (c, fs)) => if c = ci then fs[k]? else none
  | _ => none
def xa (h : xH) (a t : Nat) : Option (Nat × (Nat → Value)) := match h.2.2.2 a with
  | some (.inl (u, n, f)) => if u = t then some (n, f) else none
  | _ => none
def xpf (h : xH) (a ci k : Nat) (v : Value) : xH := (h.1, h.2.1, h.2.2.1, fun q => if q = a then (match h.2.2.2 a with
  | some (.inr (c, fs)) => if c = ci then some (.inr (c, fs.set k v)) else some (.inr (c, fs))
  | o => o) else h.2.2.2 q)
def xpa (h : xH) (a t i : Nat) (v : Value) : xH := (h.1, h.2.1, h.2.2.1, fun q => if q = a then (match h.2.2.2 a with
  | some (.inl (u, n, f)) => if u = t then some (.inl (u, n, updV f i v)) else some (.inl (u, n, f))
  | o => o) else h.2.2.2 q)
def xnew (h : xH) (e : xE) (k : Nat) : xH := (h.1 + 1, h.2.1 + 1, h.2.2.1 + k, fun q => if q = h.1 then some e else h.2.2.2 q)
def xfits (ty : FieldType) (v : Value) : Bool := match ty, v with
  | .int, .int _ => true
  | .long, .long _ => true
  | .boolean, .int x => x == 0 || x == 1
  | .object _, .ref _ => true
  | .object _, .null => true
  | .array _, .ref _ => true
  | .array _, .null => true
  | _, _ => false
def xi2 (st : List Value) (f : Int32 → Int32 → Value) : Option (List Value) := match st with
  | .int y :: .int x :: r => some (f x y :: r)
  | _ => none
def xl2 (st : List Value) (f : Int64 → Int64 → Value) : Option (List Value) := match st with
  | .long y :: .long x :: r => some (f x y :: r)
  | _ => none
def xd2 (st : List Value) (f : UInt64 → UInt64 → Value) : Option (List Value) := match st with
  | .double y :: .double x :: r => some (f x y :: r)
  | _ => none
def xi1 (st : List Value) (f : Int32 → Value) : Option (List Value) := match st with
  | .int x :: r => some (f x :: r)
  | _ => none
def xl1 (st : List Value) (f : Int64 → Value) : Option (List Value) := match st with
  | .long x :: r => some (f x :: r)
  | _ => none
def xd1 (st : List Value) (f : UInt64 → Value) : Option (List Value) := match st with
  | .double x :: r => some (f x :: r)
  | _ => none
/-- what changes the stack alone -/
def xpure (i : Instr) (st : List Value) : Option (List Value) := match i with
  | .iconst n => some (.int (Int32.ofInt n) :: st)
  | .bipush n => some (.int (Int8.ofInt n).toInt32 :: st)
  | .sipush n => some (.int (Int16.ofInt n).toInt32 :: st)
  | .lconst n => some (.long (Int64.ofNat (n : Nat)) :: st)
  | .aconst_null => some (va_rf none :: st)
  | .iadd => xi2 st fun x y => .int (x + y)
  | .isub => xi2 st fun x y => .int (x - y)
  | .imul => xi2 st fun x y => .int (x * y)
  | .iand => xi2 st fun x y => .int (x &&& y)
  | .ior => xi2 st fun x y => .int (x ||| y)
  | .ixor => xi2 st fun x y => .int (x ^^^ y)
  | .ishl => xi2 st fun x y => .int (x <<< (y &&& 31))
  | .ishr => xi2 st fun x y => .int (x >>> (y &&& 31))
  | .iushr => xi2 st fun x y => .int (x.toUInt32 >>> (y.toUInt32 &&& Int32.toUInt32 31)).toInt32
  | .ineg => xi1 st fun x => .int (-x)
  | .idiv => match st with
    | .int y :: .int x :: r => if y = 0 then none else some (.int (x / y) :: r)
    | _ => none
  | .irem => match st with
    | .int y :: .int x :: r => if y = 0 then none else some (.int (x - x / y * y) :: r)
    | _ => none
  | .ladd => xl2 st fun x y => .long (x + y)
  | .lsub => xl2 st fun x y => .long (x - y)
  | .lmul => xl2 st fun x y => .long (x * y)
  | .land => xl2 st fun x y => .long (x &&& y)
  | .lor => xl2 st fun x y => .long (x ||| y)
  | .lneg => xl1 st fun x => .long (-x)
  | .lcmp => xl2 st fun x y => .int (lg_cmp x y)
  | .ldiv => match st with
    | .long y :: .long x :: r => if y = 0 then none else some (.long (x / y) :: r)
    | _ => none
  | .lrem => match st with
    | .long y :: .long x :: r => if y = 0 then none else some (.long (x - x / y * y) :: r)
    | _ => none
  | .lshl => match st with
    | .int y :: .long x :: r => some (.long (x <<< (y.toInt64 &&& 63)) :: r)
    | _ => none
  | .lushr => match st with
    | .int y :: .long x :: r => some (.long (x.toUInt64 >>> (y.toInt64.toUInt64 &&& Int64.toUInt64 63)).toInt64 :: r)
    | _ => none
  | .i2l => xi1 st fun x => .long x.toInt64
  | .l2i => xl1 st fun x => .int x.toInt32
  | .i2b => xi1 st fun x => .int x.toInt8.toInt32
  | .i2s => xi1 st fun x => .int x.toInt16.toInt32
  | .i2c => xi1 st fun x => .int (x.toUInt32 % 65536).toInt32
  | .i2f => xi1 st fun x => .float (FP.i2f x)
  | .i2d => xi1 st fun x => .double (FP.i2d x)
  | .l2f => xl1 st fun x => .float (FP.l2f x)
  | .l2d => xl1 st fun x => .double (FP.l2d x)
  | .d2l => xd1 st fun x => .long (FP.d2l x)
  | .f2l => match st with
    | .float x :: r => some (.long (FP.f2l x) :: r)
    | _ => none
  | .f2d => match st with
    | .float x :: r => if isNaN64 (FP.f2d x) then none else some (.double (FP.f2d x) :: r)
    | _ => none
  | .dneg => xd1 st fun x => .double (FP.dneg x)
  | .dcmp op => xd2 st fun x y => .int (Op.cmpValue (FP.dcmp x y) op)
  | .fcmp op => match st with
    | .float y :: .float x :: r => some (.int (Op.cmpValue (FP.fcmp x y) op) :: r)
    | _ => none
  | .ddiv => match st with
    | .double y :: .double x :: r => if isNaN64 (FP.ddiv x y) then none else some (.double (FP.ddiv x y) :: r)
    | _ => none
  | .dmul => match st with
    | .double y :: .double x :: r => if isNaN64 (FP.dmul x y) then none else some (.double (FP.dmul x y) :: r)
    | _ => none
  | .dsub => match st with
    | .double y :: .double x :: r => if isNaN64 (FP.dsub x y) then none else some (.double (FP.dsub x y) :: r)
    | _ => none
  | .fdiv => match st with
    | .float y :: .float x :: r => if isNaN32 (FP.fdiv x y) then none else some (.float (FP.fdiv x y) :: r)
    | _ => none
  | .dconst n => if n = 0 then some (.double FP.dconst0 :: st) else some (.double FP.dconst1 :: st)
  | .dup => match st with
    | v :: r => if v.category = 1 then some (v :: v :: r) else none
    | _ => none
  | .pop => match st with
    | v :: r => if v.category = 1 then some r else none
    | _ => none
  | .dup2 => match st with
    | v :: w :: r => if v.category = 1 ∧ w.category = 1 then some (v :: w :: v :: w :: r) else none
    | _ => none
  | _ => none
/-- jumps: where it goes, and the stack -/
def xjmp (pc : Nat) (off : Int) : Option Nat := if 0 ≤ (pc : Int) + off then some ((pc : Int) + off).toNat else none
def xhold (c : ClassFile.Cond) (x y : Int32) : Bool := match c with
  | .eq => decide (x = y)
  | .ne => !decide (x = y)
  | .lt => decide (x < y)
  | .ge => decide (y ≤ x)
  | .gt => decide (y < x)
  | .le => decide (x ≤ y)
def xbr (pc : Nat) (i : Instr) (st : List Value) : Option (Nat × List Value) := match i with
  | .goto off => (xjmp pc off).map fun t => (t, st)
  | .ifCond c off => match st with
    | .int x :: r => (xjmp pc off).map fun t => (if xhold c x 0 then t else pc + 3, r)
    | _ => none
  | .if_icmp c off => match st with
    | .int y :: .int x :: r => (xjmp pc off).map fun t => (if xhold c x y then t else pc + 3, r)
    | _ => none
  | .ifnull off => match st with
    | .null :: r => (xjmp pc off).map fun t => (t, r)
    | .ref _ :: r => some (pc + 3, r)
    | _ => none
  | .ifnonnull off => match st with
    | .null :: r => some (pc + 3, r)
    | .ref _ :: r => (xjmp pc off).map fun t => (t, r)
    | _ => none
  | .if_acmp c off => match st with
    | .ref y :: .ref x :: r => (xjmp pc off).map fun t => (if (match c with | .eq => decide (x = y) | .ne => !decide (x = y)) then t else pc + 3, r)
    | .null :: .ref _ :: r => (xjmp pc off).map fun t => (match c with | .eq => pc + 3 | .ne => t, r)
    | .ref _ :: .null :: r => (xjmp pc off).map fun t => (match c with | .eq => pc + 3 | .ne => t, r)
    | .null :: .null :: r => (xjmp pc off).map fun t => (match c with | .eq => t | .ne => pc + 3, r)
    | _ => none
  | .tableswitch d lo hi offs => match st with
    | .int x :: r => if x.toInt < lo ∨ hi < x.toInt then (xjmp pc d).map fun t => (t, r) else match offs[(x.toInt - lo).toNat]? with
      | some off => (xjmp pc off).map fun t => (t, r)
      | none => none
    | _ => none
  | .lookupswitch d ps => match st with
    | .int x :: r => if (ps.toList.zip (ps.toList.drop 1)).all (fun (a, next) => a.1 < next.1) then (xjmp pc (Op.lookupswitch.offset ps.toList d x.toInt)).map fun t => (t, r) else none
    | _ => none
  | _ => none
/-- locals: a value stored in place i ends a long that stood in i - 1 -/
def xkill (L : List Slot) (i : Nat) : List Slot := match i with
  | 0 => L
  | j + 1 => match L[j]? with
    | some (.val v) => if v.category = 2 then L.set j .unset else L
    | _ => L
def xst1 (L : List Slot) (i : Nat) (v : Value) : Option (List Slot) := if i < L.length then some ((xkill L i).set i (.val v)) else none
def xst2 (L : List Slot) (i : Nat) (v : Value) : Option (List Slot) := if i + 1 < L.length then some (((xkill L i).set i (.val v)).set (i + 1) .second) else none
def xldi (L : List Slot) (i : Nat) (st : List Value) : Option (List Slot × List Value) := match L[i]? with
  | some (.val (.int x)) => some (L, .int x :: st)
  | _ => none
def xldl (L : List Slot) (i : Nat) (st : List Value) : Option (List Slot × List Value) := match L[i]? with
  | some (.val (.long x)) => some (L, .long x :: st)
  | _ => none
def xldd (L : List Slot) (i : Nat) (st : List Value) : Option (List Slot × List Value) := match L[i]? with
  | some (.val (.double x)) => some (L, .double x :: st)
  | _ => none
def xlda (L : List Slot) (i : Nat) (st : List Value) : Option (List Slot × List Value) := match L[i]? with
  | some (.val (.ref x)) => some (L, .ref x :: st)
  | some (.val .null) => some (L, .null :: st)
  | _ => none
def xsti (L : List Slot) (i : Nat) (st : List Value) : Option (List Slot × List Value) := match st with
  | .int x :: r => (xst1 L i (.int x)).map fun L' => (L', r)
  | _ => none
def xsta (L : List Slot) (i : Nat) (st : List Value) : Option (List Slot × List Value) := match st with
  | .ref x :: r => (xst1 L i (.ref x)).map fun L' => (L', r)
  | .null :: r => (xst1 L i .null).map fun L' => (L', r)
  | _ => none
def xstl (L : List Slot) (i : Nat) (st : List Value) : Option (List Slot × List Value) := match st with
  | .long x :: r => (xst2 L i (.long x)).map fun L' => (L', r)
  | _ => none
def xstd (L : List Slot) (i : Nat) (st : List Value) : Option (List Slot × List Value) := match st with
  | .double x :: r => (xst2 L i (.double x)).map fun L' => (L', r)
  | _ => none
def xlocs (i : Instr) (L : List Slot) (st : List Value) : Option (List Slot × List Value) := match i with
  | .iload_n n => xldi L n st
  | .iload n => xldi L n st
  | .lload_n n => xldl L n st
  | .lload n => xldl L n st
  | .dload_n n => xldd L n st
  | .dload n => xldd L n st
  | .fload_n n => match L[(n : Nat)]? with
    | some (.val (.float x)) => some (L, .float x :: st)
    | _ => none
  | .aload_n n => xlda L n st
  | .aload n => xlda L n st
  | .istore_n n => xsti L n st
  | .istore n => xsti L n st
  | .lstore_n n => xstl L n st
  | .lstore n => xstl L n st
  | .dstore_n n => xstd L n st
  | .dstore n => xstd L n st
  | .astore_n n => xsta L n st
  | .astore n => xsta L n st
  | .iinc n k => match L[n]? with
    | some (.val (.int x)) => (xst1 L n (.int (x + Int32.ofInt k))).map fun L' => (L', st)
    | _ => none
  | _ => none
/-- what the constant pools name -/
def xF (c n : Nat) : Option (Nat × Nat × Nat × Nat × Nat × Nat) := (xFl c).find? fun q => q.1 == n
def xMt (c n : Nat) : Option (Nat × Nat × Nat × Nat × Nat) := (xMl c).find? fun q => q.1 == n
def xC (c n : Nat) : Option (Nat × Nat × Nat) := (xCl c).find? fun q => q.1 == n
def xK (c n : Nat) : Option (Nat × Int32 × Nat) := (xKl c).find? fun q => q.1 == n
def xK2 (c n : Nat) : Option (Nat × Int64 × Nat) := (xK2l c).find? fun q => q.1 == n
def xKd (c n : Nat) : Option (Nat × UInt64 × Nat) := (xKdl c).find? fun q => q.1 == n
def xfc (tc : Nat) (v : Value) : Bool := match tc, v with
  | 0, .int _ => true
  | 1, .long _ => true
  | 3, .int x => x == 0 || x == 1
  | 5, .ref _ => true
  | 5, .null => true
  | _, _ => false
/-- arrays that are read alone: the script, VIEWED_AS -/
def xro (g : xG) (a : Nat) : Option (Nat × (Nat → Int32)) := if a = g.1 then some (g.2.1, g.2.2.1) else if a = g.2.2.2.1 then some (8, xvs) else none
def xin (j : Int32) (n : Nat) : Bool := !(decide (j < 0) || decide (n ≤ j.toNatClampNeg))
def xald (h : xH) (a t : Nat) (j : Int32) : Option Value := match xa h a t with
  | some (n, f) => if xin j n then some (f j.toNatClampNeg) else none
  | none => none
def xaldi (g : xG) (h : xH) (a : Nat) (j : Int32) : Option Value := match xa h a 0 with
  | some (n, f) => if xin j n then some (f j.toNatClampNeg) else none
  | none => match xro g a with
    | some (n, f) => if xin j n then some (.int (f j.toNatClampNeg)) else none
    | none => none
def xlen (g : xG) (h : xH) (a : Nat) : Option Nat := match h.2.2.2 a with
  | some (.inl (_, n, _)) => some n
  | _ => (xro g a).map (·.1)
/-- the array's kind -/
def xtag (h : xH) (a : Nat) : Nat := match h.2.2.2 a with
  | some (.inl (t, _, _)) => t
  | _ => 99
def xast (h : xH) (a t : Nat) (j : Int32) (v : Value) : Option xH := match xa h a t with
  | some (n, _) => if xin j n then some (xpa h a t j.toNatClampNeg v) else none
  | none => none
def xatc (t : ClassFile.ArrayType) : Nat := match t with
  | .int => 0
  | .long => 1
  | .byte => 2
  | .boolean => 3
  | _ => 9
def xtr (t : Nat) : Bool := t == 10 || t == 14 || t == 16 || t == 17 || t == 19
def xtu (t : Nat) : Bool := Nat.ble t 3 || xtr t
def xheap (g : xG) (c : Nat) (isI : Bool) (i : Instr) (st : List Value) (h : xH) : Option (List Value × xH) := match i with
  | .getfield n => match xF c n, st with
    | some q, .ref a :: r => (xf h a q.2.1 q.2.2.1).map fun v => (v :: r, h)
    | _, _ => none
  | .putfield n => match xF c n, st with
    | some q, v :: .ref a :: r => if xfc q.2.2.2.1 v && (q.2.2.2.2.1 == 0 || (isI && xci c == q.2.1)) && (xf h a q.2.1 q.2.2.1).isSome then some (r, xpf h a q.2.1 q.2.2.1 v) else none
    | _, _ => none
  | .getstatic n => if c == 4 && n == 11 then some (va_rf (some g.2.2.2.1) :: st, h) else none
  | .iaload => match st with
    | .int j :: .ref a :: r => (xaldi g h a j).map fun v => (v :: r, h)
    | _ => none
  | .laload => match st with
    | .int j :: .ref a :: r => (xald h a 1 j).map fun v => (v :: r, h)
    | _ => none
  | .baload => match st with
    | .int j :: .ref a :: r => if xtag h a = 2 then (xald h a 2 j).map fun v => (v :: r, h) else (xald h a 3 j).map fun v => (v :: r, h)
    | _ => none
  | .aaload => match st with
    | .int j :: .ref a :: r => if xtr (xtag h a) then (xald h a (xtag h a) j).map fun v => (v :: r, h) else none
    | _ => none
  | .iastore => match st with
    | .int x :: .int j :: .ref a :: r => (xast h a 0 j (.int x)).map fun h' => (r, h')
    | _ => none
  | .lastore => match st with
    | .long x :: .int j :: .ref a :: r => (xast h a 1 j (.long x)).map fun h' => (r, h')
    | _ => none
  | .bastore => match st with
    | .int x :: .int j :: .ref a :: r => if xtag h a = 2 then (xast h a 2 j (narrow .byte (.int x))).map fun h' => (r, h') else (xast h a 3 j (narrow .boolean (.int x))).map fun h' => (r, h')
    | _ => none
  | .aastore => match st with
    | .null :: .int j :: .ref a :: r => if xtr (xtag h a) then (xast h a (xtag h a) j .null).map fun h' => (r, h') else none
    | .ref b :: .int j :: .ref a :: r => if xtr (xtag h a) && xcl h b == some (xtag h a - 10) then (xast h a (xtag h a) j (.ref b)).map fun h' => (r, h') else none
    | _ => none
  | .arraylength => match st with
    | .ref a :: r => (xlen g h a).map fun n => (.int (Int32.ofNat n) :: r, h)
    | _ => none
  | .new n => (xC c n).map fun q => (va_rf (some h.1) :: st, xnew h (.inr (q.2.1, xdef q.2.1)) (xdef q.2.1).length)
  | .newarray t => match st with
    | .int n :: r => if n < 0 ∨ 65536 < n.toNatClampNeg ∨ 3 < xatc t then none else some (va_rf (some h.1) :: r, xnew h (.inl (xatc t, n.toNatClampNeg, fun _ => xdv (xatc t))) n.toNatClampNeg)
    | _ => none
  | .anewarray k => match xC c k, st with
    | some q, .int n :: r => if n < 0 ∨ 65536 < n.toNatClampNeg ∨ xtr (10 + q.2.1) = false then none else some (va_rf (some h.1) :: r, xnew h (.inl (10 + q.2.1, n.toNatClampNeg, fun _ => va_rf none)) n.toNatClampNeg)
    | _, _ => none
  | .ldc n => if c == 6 && n == 27 then some (va_rf (some g.2.2.2.2) :: st, h) else (xK c n).map fun q => (.int q.2.1 :: st, h)
  | .ldc_w n => (xK c n).map fun q => (.int q.2.1 :: st, h)
  | .ldc2_w n => match xK2 c n with
    | some q => some (.long q.2.1 :: st, h)
    | none => (xKd c n).map fun q => (.double q.2.1 :: st, h)
  | _ => none
def xdep (st : List Value) : Bool := Nat.ble (st.map fun v => v.category).sum 8
/-- the letters of the String constant -/
def xlet (j : Nat) : Int32 := ([122, 98, 99, 115, 105, 106, 102, 100, 111, 108] : List Int32).getD j 0
/-- natives, Object's constructor, the String's two methods -/
def xnat (g : xG) (c fr lo : Nat) (i : Instr) (st : List Value) : Option (List Value) := if !(Nat.ble 1 fr && Nat.ble 20 lo) then none else match i with
  | .invokespecial n => match xMt c n, st with
    | some (_, 4, _), .ref _ :: r => if xdep r then some r else none
    | _, _ => none
  | .invokestatic n => match xMt c n, st with
    | some (_, 5, _), .long b :: r => if xdep r && Nat.ble 23 lo && !(b.toUInt64 &&& 0x7fffffffffffffff > 0x7ff0000000000000 && b.toUInt64 &&& 0x0008000000000000 == 0) then some (.double b.toUInt64 :: r) else none
    | some (_, 6, _), .double b :: r => if xdep r && Nat.ble 23 lo then some (.long b.toInt64 :: r) else none
    | some (_, 7, _), .int b :: r => if xdep r && Nat.ble 23 lo && !(b.toUInt32 &&& 0x7fffffff > 0x7f800000 && b.toUInt32 &&& 0x00400000 == 0) then some (.float b.toUInt32 :: r) else none
    | some (_, 8, _), .float b :: r => if xdep r && Nat.ble 23 lo then some (.int b.toInt32 :: r) else none
    | some (_, 11, _), .int y :: .int x :: r => if xdep r && Nat.ble 21 lo then some (.int (if x < y then y else x) :: r) else none
    | some (_, 12, _), .int y :: .int x :: r => if xdep r && Nat.ble 21 lo then some (.int (if y < x then y else x) :: r) else none
    | _, _ => none
  | .invokevirtual n => match xMt c n, st with
    | some (_, 9, _), .ref a :: r => if xdep r && a == g.2.2.2.2 && Nat.ble 4 fr && Nat.ble 85 lo then some (.int 10 :: r) else none
    | some (_, 10, _), .int j :: .ref a :: r => if xdep r && a == g.2.2.2.2 && xin j 10 && Nat.ble 4 fr && Nat.ble 85 lo then some (.int (xlet j.toNatClampNeg) :: r) else none
    | _, _ => none
  | _ => none
/-- room for a callee -/
def xrm (y y' : Nat) : Bool := Nat.ble ((xme y').2.2.2.2.2.1 + 1) (xme y).2.2.2.2.2.1 && Nat.ble (8 + ((xme y').2.2.1 + 11) + (xme y').2.2.2.2.2.2.1) (xme y).2.2.2.2.2.2.1
/-- calls: which method, its arguments, what stays on the stack -/
def xinv (y0 : Nat) (i : Instr) (st : List Value) (h : xH) : Option (Nat × List Value × List Value) := match i with
  | .invokevirtual n => match xMt (xme y0).2.2.2.2.1 n with
    | some (_, 0, y, k, _) => match st.drop k with
      | .ref b :: r => if xdep r && xcl h b == some (xme y).2.2.2.2.2.2.2 && xrm y0 y && Nat.beq (st.take k).length k then some (y, .ref b :: (st.take k).reverse, r) else none
      | _ => none
    | _ => none
  | .invokestatic n => match xMt (xme y0).2.2.2.2.1 n with
    | some (_, 1, y, k, _) => if xdep (st.drop k) && xrm y0 y && Nat.beq (st.take k).length k then some (y, (st.take k).reverse, st.drop k) else none
    | _ => none
  | .invokespecial n => match xMt (xme y0).2.2.2.2.1 n with
    | some (_, 2, y, k, _) => match st.drop k with
      | .ref b :: r => if xdep r && xrm y0 y && Nat.beq (st.take k).length k then some (y, .ref b :: (st.take k).reverse, r) else none
      | _ => none
    | some (_, 3, y, k, _) => match st.drop k with
      | .ref b :: r => if xdep r && xrm y0 y && Nat.beq (st.take k).length k then some (y, .ref b :: (st.take k).reverse, r) else none
      | _ => none
    | _ => none
  | _ => none
def xret (rt : Option FieldType) (i : Instr) (st : List Value) : Option (Option Value) := match i with
  | .ireturn => match st with
    | [.int v] => match rt with
      | some .int => some (some (.int v))
      | some .boolean => if v == 0 || v == 1 then some (some (.int v)) else none
      | _ => none
    | _ => none
  | .lreturn => match st, rt with
    | [.long v], some .long => some (some (.long v))
    | _, _ => none
  | .dreturn => match st, rt with
    | [.double v], some .double => some (some (.double v))
    | _, _ => none
  | .areturn => match st, rt with
    | [.ref a], some (.object _) => some (some (.ref a))
    | [.null], some (.object _) => some (some .null)
    | _, _ => none
  | .return_ => match st, rt with
    | [], none => some none
    | _, _ => none
  | _ => none
def xins (g : xG) (y : Nat) (i : Instr) (len pc : Nat) (L : List Slot) (st : List Value) (h : xH) : xO :=
  match xpure i st with
  | some st' => some (.inl (pc + len, L, st', h))
  | none => match xlocs i L st with
    | some (L', st') => some (.inl (pc + len, L', st', h))
    | none => match xbr pc i st with
      | some (pc', st') => some (.inl (pc', L, st', h))
      | none => match xheap g (xme y).2.2.2.2.1 ((xme y).1.name == "<init>") i st h with
        | some (st', h') => some (.inl (pc + len, L, st', h'))
        | none => match xnat g (xme y).2.2.2.2.1 (xme y).2.2.2.2.2.1 (xme y).2.2.2.2.2.2.1 i st with
          | some st' => some (.inl (pc + len, L, st', h))
          | none => match xinv y i st h with
            | some (y', as, r) => if Nat.ble (as.map fun v => v.category).sum (xme y').2.2.1 then some (.inr (.inl (y', as, pc + len, L, r, h))) else none
            | none => match xret (xme y).2.2.2.1 i st with
              | some v => some (.inr (.inr (v, h)))
              | none => none
/-- how long an instruction is -/
def xsz (i : Instr) (len : Nat) : Bool := match i with
  | .tableswitch _ _ _ _ => true
  | .lookupswitch _ _ => true
  | .bipush _ => len == 2
  | .newarray _ => len == 2
  | .ldc _ => len == 2
  | .iload _ => len == 2
  | .lload _ => len == 2
  | .dload _ => len == 2
  | .aload _ => len == 2
  | .istore _ => len == 2
  | .lstore _ => len == 2
  | .dstore _ => len == 2
  | .astore _ => len == 2
  | .sipush _ => len == 3
  | .iinc _ _ => len == 3
  | .goto _ => len == 3
  | .ifCond _ _ => len == 3
  | .if_icmp _ _ => len == 3
  | .if_acmp _ _ => len == 3
  | .ifnull _ => len == 3
  | .ifnonnull _ => len == 3
  | .getfield _ => len == 3
  | .putfield _ => len == 3
  | .getstatic _ => len == 3
  | .new _ => len == 3
  | .anewarray _ => len == 3
  | .ldc_w _ => len == 3
  | .ldc2_w _ => len == 3
  | .invokevirtual _ => len == 3
  | .invokestatic _ => len == 3
  | .invokespecial _ => len == 3
  | _ => len == 1
def xstep (g : xG) (y pc : Nat) (L : List Slot) (st : List Value) (h : xH) : xO := match decode (xme y).2.1 pc with
  | .ok (i, len) => if xsz i len then xins g y i len pc L st h else none
  | _ => none
def xl0 (y : Nat) (as : List Value) : List Slot := lg_sl as ++ List.replicate ((xme y).2.2.1 - (lg_sl as).length) Slot.unset
def xr (g : xG) : Nat → Nat → Nat → List Slot → List Value → xH → Option xR
  | 0, _, _, _, _, _ => none
  | f + 1, y, pc, L, st, h => match xstep g y pc L st h with
    | none => none
    | some (.inl (pc', L', st', h')) => xr g f y pc' L' st' h'
    | some (.inr (.inl (y', as, pc', L', st', h'))) => match xr g f y' 0 (xl0 y' as) [] h' with
      | none => none
      | some (v, h2) => xr g f y pc' L' (v.toList ++ st') h2
    | some (.inr (.inr r)) => some r
theorem xr_succ (g : xG) : ∀ (f y pc : Nat) (L : List Slot) (st : List Value) (h : xH) (r : xR), xr g f y pc L st h = some r → xr g (f + 1) y pc L st h = some r := by
  intro f
  induction f with
  | zero => intro y pc L st h r e; cases e
  | succ f ih =>
    intro y pc L st h r e
    rw [xr] at e ⊢
    cases hs : xstep g y pc L st h with
    | none => rw [hs] at e; cases e
    | some o =>
      rw [hs] at e
      rcases o with ⟨pc', L', st', h'⟩ | ⟨y', as, pc', L', st', h'⟩ | r'
      · exact ih _ _ _ _ _ _ e
      · dsimp only at e ⊢
        cases h1 : xr g f y' 0 (xl0 y' as) [] h' with
        | none => rw [h1] at e; cases e
        | some z =>
          obtain ⟨v, h2⟩ := z
          rw [h1] at e
          rw [ih _ _ _ _ _ _ h1]
          exact ih _ _ _ _ _ _ e
      · exact e
theorem xr_mono (g : xG) {f f' y pc : Nat} {L : List Slot} {st : List Value} {h : xH} {r : xR} (hf : f ≤ f') (e : xr g f y pc L st h = some r) : xr g f' y pc L st h = some r := by
  induction hf with
  | refl => exact e
  | step _ ih => exact xr_succ g _ _ _ _ _ _ _ ih
/-- the limit -/
noncomputable def X (g : xG) (y pc : Nat) (L : List Slot) (st : List Value) (h : xH) : Option xR := @dite _ (∃ (f : Nat) (r : xR), xr g f y pc L st h = some r) (Classical.propDecidable _) (fun e => some (Classical.choose (Classical.choose_spec e))) (fun _ => none)
theorem X_iff {g : xG} {y pc : Nat} {L : List Slot} {st : List Value} {h : xH} {r : xR} : X g y pc L st h = some r ↔ ∃ f, xr g f y pc L st h = some r := by
  unfold X
  constructor
  · intro e
    split at e
    · rename_i q
      have hc := Classical.choose_spec (Classical.choose_spec q)
      rw [Option.some.inj e] at hc
      exact ⟨_, hc⟩
    · cases e
  · rintro ⟨f, e⟩
    have q : ∃ (f : Nat) (r : xR), xr g f y pc L st h = some r := ⟨f, r, e⟩
    rw [dif_pos q]
    have hc := Classical.choose_spec (Classical.choose_spec q)
    have h1 := xr_mono g (Nat.le_max_left f (Classical.choose q)) e
    have h2 := xr_mono g (Nat.le_max_right f (Classical.choose q)) hc
    rw [h1] at h2
    exact h2.symm
theorem X_eq (g : xG) (y pc : Nat) (L : List Slot) (st : List Value) (h : xH) : X g y pc L st h = (match xstep g y pc L st h with
    | none => none
    | some (.inl (pc', L', st', h')) => X g y pc' L' st' h'
    | some (.inr (.inl (y', as, pc', L', st', h'))) => (X g y' 0 (xl0 y' as) [] h').bind fun z => X g y pc' L' (z.1.toList ++ st') z.2
    | some (.inr (.inr r)) => some r) := by
  apply Option.ext
  intro r
  rw [X_iff]
  constructor
  · rintro ⟨f, e⟩
    cases f with
    | zero => cases e
    | succ f =>
      rw [xr] at e
      cases hs : xstep g y pc L st h with
      | none => rw [hs] at e; cases e
      | some o =>
        rw [hs] at e
        rcases o with ⟨pc', L', st', h'⟩ | ⟨y', as, pc', L', st', h'⟩ | r'
        · exact X_iff.mpr ⟨f, e⟩
        · dsimp only at e ⊢
          cases h1 : xr g f y' 0 (xl0 y' as) [] h' with
          | none => rw [h1] at e; cases e
          | some z =>
            rw [h1] at e
            rw [X_iff.mpr ⟨f, h1⟩]
            exact X_iff.mpr ⟨f, e⟩
        · exact e
  · intro e
    cases hs : xstep g y pc L st h with
    | none => rw [hs] at e; cases e
    | some o =>
      rw [hs] at e
      rcases o with ⟨pc', L', st', h'⟩ | ⟨y', as, pc', L', st', h'⟩ | r'
      · obtain ⟨f, e⟩ := X_iff.mp e
        exact ⟨f + 1, by rw [xr, hs]; exact e⟩
      · dsimp only at e
        cases h1 : X g y' 0 (xl0 y' as) [] h' with
        | none => rw [h1] at e; cases e
        | some z =>
          rw [h1] at e
          obtain ⟨f1, e1⟩ := X_iff.mp h1
          obtain ⟨f2, e2⟩ := X_iff.mp e
          refine ⟨max f1 f2 + 1, ?_⟩
          rw [xr, hs]
          dsimp only
          rw [xr_mono g (Nat.le_max_left f1 f2) e1]
          exact xr_mono g (Nat.le_max_right f1 f2) e2
      · exact ⟨1, by rw [xr, hs]; exact e⟩
theorem xfc_ok {tc : Nat} {ty : FieldType} {v : Value} (h : xtok tc ty = true) (hv : xfc tc v = true) : narrow ty v = v ∧ fits ty v = true := by
  unfold xtok at h
  split at h <;> first | (cases h; done) | skip
  · cases v <;> simp_all [xfc, narrow, fits]
  · cases v <;> simp_all [xfc, narrow, fits]
  · cases v <;> simp_all [xfc, fits]
    rcases hv with rfl | rfl <;> rfl
  · cases v <;> simp_all [xfc, narrow, fits]
  · cases v <;> simp_all [xfc, narrow, fits]
