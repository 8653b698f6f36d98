/-! A plain picture of the machine: cells at addresses, next address, slots used, where the strings lie; what an instruction does to it. -/
abbrev CE : Type := (Nat × vp_A) ⊕ (Nat × List Value)
abbrev Hp : Type := (Nat → Option CE) × Nat × Nat × (Nat → Nat)
abbrev Lc : Type := List (Option Value)
/-- how a method ends: its value, or a throw: which class (0 no such element, 1 illegal argument) -/
abbrev XO : Type := (Option Value) ⊕ Nat
def h_set (A : Hp) (a : Nat) (e : CE) : Hp := (fun x => if x = a then some e else A.1 x, A.2)
def h_push (A : Hp) (e : CE) (n : Nat) : Hp := (fun x => if x = A.2.1 then some e else A.1 x, A.2.1 + 1, A.2.2.1 + n, A.2.2.2)
/-- one cell more of which nothing is known -/
def h_lost (A : Hp) (n : Nat) : Hp := (A.1, A.2.1 + 1, A.2.2.1 + n, A.2.2.2)
def x_b2 (f : Int32 → Int32 → Int32) : List Value → Option (List Value)
  | .int y :: .int x :: r => some (.int (f x y) :: r)
  | _ => none
def x_z2 (f : Int32 → Int32 → Int32) : List Value → Option (List Value)
  | .int y :: .int x :: r => if y = 0 then none else some (.int (f x y) :: r)
  | _ => none
def x_l2 (f : Int64 → Int64 → Int64) : List Value → Option (List Value)
  | .long y :: .long x :: r => some (.long (f x y) :: r)
  | _ => none
def x_li (f : Int64 → Int32 → Int64) : List Value → Option (List Value)
  | .int y :: .long x :: r => some (.long (f x y) :: r)
  | _ => none
def x_u1 (f : Int32 → Value) : List Value → Option (List Value)
  | .int x :: r => some (f x :: r)
  | _ => none
def x_cat (v : Value) : Bool := v.category == 1
/-- instructions that touch nothing but the operand stack -/
def x_stk (i : Instr) (st : List Value) : Option (List Value) := match i with
  | .iconst n => some (.int (Int32.ofInt n) :: st)
  | .bipush n => some (.int (Int8.ofInt n).toInt32 :: st)
  | .sipush n => some (.int (Int16.ofInt n).toInt32 :: st)
  | .lconst n => some (.long (Int64.ofNat n) :: st)
  | .aconst_null => some (.null :: st)
  | .iadd => x_b2 (fun x y => x + y) st
  | .isub => x_b2 (fun x y => x - y) st
  | .imul => x_b2 (fun x y => x * y) st
  | .iand => x_b2 (fun x y => x &&& y) st
  | .ior => x_b2 (fun x y => x ||| y) st
  | .ixor => x_b2 (fun x y => x ^^^ y) st
  | .ishl => x_b2 (fun x y => x <<< (y &&& 31)) st
  | .ishr => x_b2 (fun x y => x >>> (y &&& 31)) st
  | .iushr => x_b2 (fun x y => (x.toUInt32 >>> (y.toUInt32 &&& Int32.toUInt32 31)).toInt32) st
  | .idiv => x_z2 (fun x y => x / y) st
  | .irem => x_z2 (fun x y => x - x / y * y) st
  | .ladd => x_l2 (fun x y => x + y) st
  | .lsub => x_l2 (fun x y => x - y) st
  | .lmul => x_l2 (fun x y => x * y) st
  | .lor => x_l2 (fun x y => x ||| y) st
  | .lshl => x_li (fun x y => x <<< (y.toInt64 &&& 63)) st
  | .lushr => x_li (fun x y => (x.toUInt64 >>> (y.toInt64.toUInt64 &&& Int64.toUInt64 63)).toInt64) st
  | .i2l => x_u1 (fun x => .long x.toInt64) st
  | .i2b => x_u1 (fun x => .int x.toInt8.toInt32) st
  | .l2i => (match st with | .long x :: r => some (.int x.toInt32 :: r) | _ => none)
  | .lcmp => (match st with | .long y :: .long x :: r => some (.int (lg_cmp x y) :: r) | _ => none)
  | .dup => (match st with | v :: r => if x_cat v then some (v :: v :: r) else none | _ => none)
  | .pop => (match st with | v :: r => if x_cat v then some r else none | _ => none)
  | .dup2 => (match st with | v :: w :: r => if x_cat v && x_cat w then some (v :: w :: v :: w :: r) else none | _ => none)
  | _ => none
/-- where a branch goes: none: the next instruction -/
def x_cmp (cd : Jvm.ClassFile.Cond) (x y : Int32) : Bool := match cd with
  | .eq => decide (x = y)
  | .ne => !decide (x = y)
  | .lt => decide (x < y)
  | .ge => decide (y ≤ x)
  | .gt => decide (y < x)
  | .le => decide (x ≤ y)
def x_to (pc : Nat) (off : Int) : Nat := ((pc : Int) + off).toNat
def x_ok (pc : Nat) (off : Int) : Bool := decide (0 ≤ (pc : Int) + off)
def x_tab (pc : Nat) (dflt lo hi : Int) (offs : Array Int) (x : Int) : Option Int :=
  if x < lo ∨ hi < x then some dflt else offs[(x - lo).toNat]?
def x_br (i : Instr) (pc : Nat) (st : List Value) : Option (Nat × List Value) := match i with
  | .goto off => if x_ok pc off then some (x_to pc off, st) else none
  | .ifCond cd off => (match st with | .int x :: r => if x_ok pc off then some (if x_cmp cd x 0 then x_to pc off else pc + 3, r) else none | _ => none)
  | .if_icmp cd off => (match st with | .int y :: .int x :: r => if x_ok pc off then some (if x_cmp cd x y then x_to pc off else pc + 3, r) else none | _ => none)
  | .ifnull off => (match st with | .ref _ :: r => some (pc + 3, r) | .null :: r => if x_ok pc off then some (x_to pc off, r) else none | _ => none)
  | .ifnonnull off => (match st with | .ref _ :: r => if x_ok pc off then some (x_to pc off, r) else none | .null :: r => some (pc + 3, r) | _ => none)
  | .tableswitch dflt lo hi offs => (match st with
    | .int x :: r => (match x_tab pc dflt lo hi offs x.toInt with | some off => if x_ok pc off then some (x_to pc off, r) else none | none => none)
    | _ => none)
  | .lookupswitch dflt ps => (match st with
    | .int x :: r => if (ps.toList.zip (ps.toList.drop 1)).all (fun (a, next) => a.1 < next.1) then (if x_ok pc (Op.lookupswitch.offset ps.toList dflt x.toInt) then some (x_to pc (Op.lookupswitch.offset ps.toList dflt x.toInt), r) else none) else none
    | _ => none)
  | _ => none
/-- locals -/
def x_get (l : Lc) (k : Nat) : Option Value := l.getD k none
def x_two (v : Option Value) : Bool := match v with
  | some (.long _) => true
  | some (.double _) => true
  | _ => false
def x_kill (l : Lc) (k : Nat) : Lc := match k with
  | 0 => l
  | j + 1 => if x_two (x_get l j) then l.set j none else l
def x_put (l : Lc) (k : Nat) (v : Value) : Lc := (x_kill l k).set k (some v)
def x_put2 (l : Lc) (k : Nat) (v : Value) : Lc := ((x_kill l k).set k (some v)).set (k + 1) none
def x_ldI (l : Lc) (k : Nat) (st : List Value) : Option (List Value) := match x_get l k with
  | some (.int x) => some (.int x :: st)
  | _ => none
def x_ldL (l : Lc) (k : Nat) (st : List Value) : Option (List Value) := match x_get l k with
  | some (.long x) => some (.long x :: st)
  | _ => none
def x_ldA (l : Lc) (k : Nat) (st : List Value) : Option (List Value) := match x_get l k with
  | some (.ref x) => some (.ref x :: st)
  | some .null => some (.null :: st)
  | _ => none
def x_stI (l : Lc) (k : Nat) (st : List Value) : Option (Lc × List Value) := match st with
  | .int x :: r => if k < l.length then some (x_put l k (.int x), r) else none
  | _ => none
def x_stA (l : Lc) (k : Nat) (st : List Value) : Option (Lc × List Value) := match st with
  | .ref x :: r => if k < l.length then some (x_put l k (.ref x), r) else none
  | .null :: r => if k < l.length then some (x_put l k .null, r) else none
  | _ => none
def x_stL (l : Lc) (k : Nat) (st : List Value) : Option (Lc × List Value) := match st with
  | .long x :: r => if k + 1 < l.length then some (x_put2 l k (.long x), r) else none
  | _ => none
def x_lcl (i : Instr) (l : Lc) (st : List Value) : Option (Lc × List Value) := match i with
  | .iload k => (x_ldI l k st).map (fun s => (l, s))
  | .iload_n k => (x_ldI l k st).map (fun s => (l, s))
  | .lload k => (x_ldL l k st).map (fun s => (l, s))
  | .lload_n k => (x_ldL l k st).map (fun s => (l, s))
  | .aload k => (x_ldA l k st).map (fun s => (l, s))
  | .aload_n k => (x_ldA l k st).map (fun s => (l, s))
  | .istore k => x_stI l k st
  | .istore_n k => x_stI l k st
  | .lstore k => x_stL l k st
  | .lstore_n k => x_stL l k st
  | .astore k => x_stA l k st
  | .astore_n k => x_stA l k st
  | .iinc k n => (match x_get l k with | some (.int x) => if k < l.length then some (x_put l k (.int (x + Int32.ofInt n)), st) else none | _ => none)
  | _ => none
/-- cells read -/
def x_fld (A : Hp) (a ci k : Nat) : Option Value := match A.1 a with
  | some (.inr (c, fs)) => if c = ci then fs[k]? else none
  | _ => none
def x_alen (A : Hp) (a : Nat) : Option Nat := match A.1 a with
  | some (.inl (t, n, _)) => if t < 99 then some n else none
  | _ => none
def x_in (i : Int32) (n : Nat) : Bool := !decide (i < 0) && decide (i.toNatClampNeg < n)
def x_ai (A : Hp) (a : Nat) (i : Int32) (ok : Nat → Bool) : Option Int32 := match A.1 a with
  | some (.inl (t, n, .inl f)) => if ok t && x_in i n then some (f i.toNatClampNeg) else none
  | _ => none
def x_al (A : Hp) (a : Nat) (i : Int32) : Option Int64 := match A.1 a with
  | some (.inl (t, n, .inr (.inl f))) => if t == 1 && x_in i n then some (f i.toNatClampNeg) else none
  | _ => none
def x_aq (A : Hp) (a : Nat) (i : Int32) : Option (Option Nat) := match A.1 a with
  | some (.inl (t, n, .inr (.inr (.inr (.inr f))))) => if (decide (4 ≤ t) && decide (t < 11)) && x_in i n then some (f i.toNatClampNeg) else none
  | _ => none
/-- cells written -/
def x_fldS (A : Hp) (a ci k : Nat) (v : Value) : Option Hp := match A.1 a with
  | some (.inr (c, fs)) => if c = ci ∧ k < fs.length then some (h_set A a (.inr (c, fs.set k v))) else none
  | _ => none
def x_aiS (A : Hp) (a : Nat) (i x : Int32) : Option Hp := match A.1 a with
  | some (.inl (t, n, .inl f)) => if t == 0 && x_in i n then some (h_set A a (.inl (t, n, .inl (upd f i.toNatClampNeg x)))) else none
  | _ => none
def x_abS (A : Hp) (a : Nat) (i x : Int32) : Option Hp := match A.1 a with
  | some (.inl (t, n, .inl f)) => if t == 2 && x_in i n then some (h_set A a (.inl (t, n, .inl (upd f i.toNatClampNeg (vp_nar .byte x)))))
    else if t == 3 && x_in i n then some (h_set A a (.inl (t, n, .inl (upd f i.toNatClampNeg (vp_nar .boolean x))))) else none
  | _ => none
def x_alS (A : Hp) (a : Nat) (i : Int32) (x : Int64) : Option Hp := match A.1 a with
  | some (.inl (t, n, .inr (.inl f))) => if t == 1 && x_in i n then some (h_set A a (.inl (t, n, .inr (.inl (vp_updL f i.toNatClampNeg x))))) else none
  | _ => none
/-- the class number of an object -/
def x_cls (A : Hp) (a : Nat) : Option Nat := match A.1 a with
  | some (.inr (c, _)) => some c
  | _ => none
/-- which array of references takes which object: Rule[], Book[] -/
def x_aqOk (t c : Nat) : Bool := (t == 4 && c == 6) || (t == 5 && c == 0)
def x_aqS (A : Hp) (a : Nat) (i : Int32) (y : Nat) : Option Hp := match A.1 a with
  | some (.inl (t, n, .inr (.inr (.inr (.inr f))))) => (match x_cls A y with
    | some c => if x_aqOk t c && x_in i n then some (h_set A a (.inl (t, n, .inr (.inr (.inr (.inr (va_up f i.toNatClampNeg (some y)))))))) else none
    | none => none)
  | _ => none
def x_aqN (A : Hp) (a : Nat) (i : Int32) : Option Hp := match A.1 a with
  | some (.inl (t, n, .inr (.inr (.inr (.inr f))))) => if (t == 4 || t == 5) && x_in i n then some (h_set A a (.inl (t, n, .inr (.inr (.inr (.inr (va_up f i.toNatClampNeg none))))))) else none
  | _ => none
