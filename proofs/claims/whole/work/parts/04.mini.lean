/-! A SMALL MACHINE over the same bytecode: cells by their numbers, methods by their numbers; 'run' says what a method answers and leaves. (Its link to the machine itself: part 05.) -/
abbrev mC : Type := (Nat × Nat × (Nat → Int32)) ⊕ ((Nat × Nat × (Nat → Option Nat)) ⊕ (Nat × List Value))
abbrev mM : Type := Nat × (Nat → mC)
abbrev mA : Type := (Nat × List Value × List Value × mM) ⊕ ((Nat × List Value × List Value) ⊕ Option Value)
def mdead : mC := .inr (.inr (99, []))
def mset (M : mM) (q : Nat) (x : mC) : mM := (M.1, va_up M.2 q x)
def mpush (M : mM) (x : mC) : mM := (M.1 + 1, va_up M.2 M.1 x)
def mcd (c : Jvm.ClassFile.Cond) (x y : Int32) : Bool := match c with
  | .eq => decide (x = y)
  | .ne => decide (¬ x = y)
  | .lt => decide (x < y)
  | .ge => decide (y ≤ x)
  | .gt => decide (y < x)
  | .le => decide (x ≤ y)
def mok (ty : FieldType) (v : Value) : Bool := match ty, v with
  | .int, .int _ => true
  | .boolean, .int x => decide (x = 0) || decide (x = 1)
  | .long, .long _ => true
  | .object _, .ref k => decide (k < 1000)
  | .array _, .ref k => decide (k < 1000)
  | _, _ => false
def mstv (a : Nat) : Value := match a with
  | 0 => .ref 1001
  | 1 => .ref 1002
  | 2 => .int 1
  | _ => .ref 1009
def mjmp (pc : Nat) (off : Int) (L st : List Value) (M : mM) : Option mA :=
  if 0 ≤ (pc : Int) + off then some (.inl (((pc : Int) + off).toNat, L, st, M)) else none
def mprev (L : List Value) (i : Nat) : Bool := match i with
  | 0 => false
  | j + 1 => match L[j]? with
    | some w => w.category == 2
    | none => false
def mst1 (L : List Value) (i : Nat) (v : Value) : Option (List Value) := if i < L.length ∧ mprev L i = false then some (L.set i v) else none
def mst2 (L : List Value) (i : Nat) (v : Value) : Option (List Value) := if i + 1 < L.length ∧ mprev L i = false then some ((L.set i v).set (i + 1) .null) else none
def mnx (pc : Nat) (L st : List Value) (M : mM) : Option mA := some (.inl (pc, L, st, M))
def mldI (L : List Value) (i pc : Nat) (st : List Value) (M : mM) : Option mA := match L[i]? with
  | some (.int x) => mnx pc L (.int x :: st) M
  | _ => none
def mldL (L : List Value) (i pc : Nat) (st : List Value) (M : mM) : Option mA := match L[i]? with
  | some (.long x) => mnx pc L (.long x :: st) M
  | _ => none
def mldA (L : List Value) (i pc : Nat) (st : List Value) (M : mM) : Option mA := match L[i]? with
  | some (.ref x) => if x = 1009 then none else mnx pc L (.ref x :: st) M
  | _ => none
def mstI (L : List Value) (i pc : Nat) (st : List Value) (M : mM) : Option mA := match st with
  | .int x :: st => match mst1 L i (.int x) with
    | some L => mnx pc L st M
    | none => none
  | _ => none
def mstL (L : List Value) (i pc : Nat) (st : List Value) (M : mM) : Option mA := match st with
  | .long x :: st => match mst2 L i (.long x) with
    | some L => mnx pc L st M
    | none => none
  | _ => none
def mstA (L : List Value) (i pc : Nat) (st : List Value) (M : mM) : Option mA := match st with
  | .ref x :: st => if x = 1009 then none else match mst1 L i (.ref x) with
    | some L => mnx pc L st M
    | none => none
  | _ => none
def mbin (f : Int32 → Int32 → Option Int32) (pc : Nat) (L st : List Value) (M : mM) : Option mA := match st with
  | .int y :: .int x :: st => match f x y with
    | some z => mnx pc L (.int z :: st) M
    | none => none
  | _ => none
def mbinL (f : Int64 → Int64 → Option Int64) (pc : Nat) (L st : List Value) (M : mM) : Option mA := match st with
  | .long y :: .long x :: st => match f x y with
    | some z => mnx pc L (.long z :: st) M
    | none => none
  | _ => none
def mun (f : Int32 → Value) (pc : Nat) (L st : List Value) (M : mM) : Option mA := match st with
  | .int x :: st => mnx pc L (f x :: st) M
  | _ => none
def mlen (x : mC) : Option Nat := match x with
  | .inl (_, n, _) => some n
  | .inr (.inl (_, n, _)) => some n
  | _ => none
def mref (g : Option Nat) : Value := match g with
  | some k => .ref k
  | none => .null
/-- putfield's condition: the value's kind; a final field only in a constructor of its own class -/
def mput (y a b : Nat) (v : Value) : Bool := mok (nYY a b) v && (!(nTT a b).2.2.2 || (decide (mow y = a) && decide ((myn y).name = "<init>")))
def mcall (z na : Nat) (recv : Bool) (st : List Value) : Option mA :=
  let k := if recv then na + 1 else na
  if k ≤ st.length ∧ (st.drop k).length ≤ 4 then some (.inr (.inl (z, (st.take k).reverse, st.drop k))) else none
def mcopy (pc : Nat) (L st : List Value) (M : mM) : Option mA := match st with
  | [.int n, .int dp, .ref a, .int sp, .ref a0] => match M.2 a0, M.2 a with
    | .inl (0, n0, f), .inl (0, n1, g) => if ¬ sp < 0 ∧ ¬ dp < 0 ∧ ¬ n < 0 ∧ sp.toNatClampNeg + n.toNatClampNeg ≤ n0 ∧ dp.toNatClampNeg + n.toNatClampNeg ≤ n1 then
        mnx pc L [] (mset M a (.inl (0, n1, va_cpy f g sp.toNatClampNeg dp.toNatClampNeg n.toNatClampNeg))) else none
    | _, _ => none
  | _ => none
def mget (a b pc : Nat) (L st : List Value) (M : mM) : Option mA := match st with
  | .ref q :: st => match M.2 q with
    | .inr (.inr (a', fs)) => if a' = a then match fs[b]? with
        | some v => mnx pc L (v :: st) M
        | none => none
      else none
    | _ => none
  | _ => none
def mputf (y a b pc : Nat) (L st : List Value) (M : mM) : Option mA := match st with
  | v :: .ref q :: st => match M.2 q with
    | .inr (.inr (a', fs)) => if a' = a ∧ b < fs.length ∧ mput y a b v = true then mnx pc L st (mset M q (.inr (.inr (a, fs.set b v)))) else none
    | _ => none
  | _ => none
def mald (tg : Nat → Bool) (pc : Nat) (L st : List Value) (M : mM) : Option mA := match st with
  | .int j :: .ref q :: st => match M.2 q with
    | .inl (t, n, f) => if tg t = true ∧ ¬ (j < 0 ∨ n ≤ j.toNatClampNeg) then mnx pc L (.int (f j.toNatClampNeg) :: st) M else none
    | _ => none
  | _ => none
def mast (pc : Nat) (L st : List Value) (M : mM) : Option mA := match st with
  | .int x :: .int j :: .ref q :: st => match M.2 q with
    | .inl (t, n, f) => if t = 0 ∧ ¬ (j < 0 ∨ n ≤ j.toNatClampNeg) then mnx pc L st (mset M q (.inl (0, n, upd f j.toNatClampNeg x))) else none
    | _ => none
  | _ => none
def mald_q (pc : Nat) (L st : List Value) (M : mM) : Option mA := match st with
  | .int j :: .ref q :: st => match M.2 q with
    | .inr (.inl (_, n, g)) => if ¬ (j < 0 ∨ n ≤ j.toNatClampNeg) then mnx pc L (mref (g j.toNatClampNeg) :: st) M else none
    | _ => none
  | _ => none
def mast_q (pc : Nat) (L st : List Value) (M : mM) : Option mA := match st with
  | .ref k :: .int j :: .ref q :: st => match M.2 q, M.2 k with
    | .inr (.inl (t, n, g)), .inr (.inr (a, _)) => if t = a ∧ ¬ (j < 0 ∨ n ≤ j.toNatClampNeg) then mnx pc L st (mset M q (.inr (.inl (t, n, va_up g j.toNatClampNeg (some k))))) else none
    | _, _ => none
  | _ => none
def msw (pc : Nat) (f : Int → Option Int) (L st : List Value) (M : mM) : Option mA := match st with
  | .int x :: st => match f x.toInt with
    | some off => mjmp pc off L st M
    | none => none
  | _ => none
/-- the object at b is of the class whose method z is -/
def mrecv (z b : Nat) (M : mM) : Bool := match M.2 b with
  | .inr (.inr (a, _)) => decide (a = mow z)
  | _ => false
def minv (y i : Nat) (st : List Value) : Nat → mM → Option mA := fun sp M => match lk (mow y) i with
  | (k, z, na) => if sp = 0 then
      (if k = 4 ∨ k = 15 then (match st[na]? with
        | some (.ref b) => if mrecv z b M = true then mcall z na true st else none
        | _ => none) else none)
    else if sp = 1 then (if k = 5 then mcall z na false st else none)
    else (if k = 6 ∨ k = 7 then (match st[na]? with
        | some (.ref b) => if b < 1000 then mcall z na true st else none
        | _ => none) else none)
def stp (y : Nat) (ins : Instr) (len pc : Nat) (L st : List Value) (M : mM) : Option mA := match ins with
  | .iload i => if len = 2 then mldI L i (pc + 2) st M else none
  | .iload_n i => if len = 1 then mldI L i (pc + 1) st M else none
  | .lload i => if len = 2 then mldL L i (pc + 2) st M else none
  | .lload_n i => if len = 1 then mldL L i (pc + 1) st M else none
  | .aload i => if len = 2 then mldA L i (pc + 2) st M else none
  | .aload_n i => if len = 1 then mldA L i (pc + 1) st M else none
  | .istore i => if len = 2 then mstI L i (pc + 2) st M else none
  | .istore_n i => if len = 1 then mstI L i (pc + 1) st M else none
  | .lstore i => if len = 2 then mstL L i (pc + 2) st M else none
  | .lstore_n i => if len = 1 then mstL L i (pc + 1) st M else none
  | .astore i => if len = 2 then mstA L i (pc + 2) st M else none
  | .astore_n i => if len = 1 then mstA L i (pc + 1) st M else none
  | .iconst n => if len = 1 then mnx (pc + 1) L (.int (Int32.ofInt n) :: st) M else none
  | .bipush n => if len = 2 then mnx (pc + 2) L (.int (Int8.ofInt n).toInt32 :: st) M else none
  | .sipush n => if len = 3 then mnx (pc + 3) L (.int (Int16.ofInt n).toInt32 :: st) M else none
  | .lconst n => if len = 1 then mnx (pc + 1) L (.long (Int64.ofNat (n : Nat)) :: st) M else none
  | .ldc i => if len = 2 then (match lk (mow y) i with
    | (12, a, _) => mnx (pc + 2) L (.int (Int32.ofNat a) :: st) M
    | (14, a, _) => mnx (pc + 2) L (.ref a :: st) M
    | _ => none) else none
  | .ldc_w i => if len = 3 then (match lk (mow y) i with
    | (12, a, _) => mnx (pc + 3) L (.int (Int32.ofNat a) :: st) M
    | _ => none) else none
  | .ldc2_w i => if len = 3 then (match lk (mow y) i with
    | (13, a, _) => mnx (pc + 3) L (.long (Int64.ofNat a) :: st) M
    | _ => none) else none
  | .iadd => if len = 1 then mbin (fun x y => some (x + y)) (pc + 1) L st M else none
  | .isub => if len = 1 then mbin (fun x y => some (x - y)) (pc + 1) L st M else none
  | .imul => if len = 1 then mbin (fun x y => some (x * y)) (pc + 1) L st M else none
  | .iand => if len = 1 then mbin (fun x y => some (x &&& y)) (pc + 1) L st M else none
  | .ior => if len = 1 then mbin (fun x y => some (x ||| y)) (pc + 1) L st M else none
  | .ishl => if len = 1 then mbin (fun x y => some (x <<< (y &&& 31))) (pc + 1) L st M else none
  | .ishr => if len = 1 then mbin (fun x y => some (x >>> (y &&& 31))) (pc + 1) L st M else none
  | .idiv => if len = 1 then mbin (fun x y => if y = 0 then none else some (x / y)) (pc + 1) L st M else none
  | .irem => if len = 1 then mbin (fun x y => if y = 0 then none else some (x - x / y * y)) (pc + 1) L st M else none
  | .ladd => if len = 1 then mbinL (fun x y => some (x + y)) (pc + 1) L st M else none
  | .lmul => if len = 1 then mbinL (fun x y => some (x * y)) (pc + 1) L st M else none
  | .ldiv => if len = 1 then mbinL (fun x y => if y = 0 then none else some (x / y)) (pc + 1) L st M else none
  | .lrem => if len = 1 then mbinL (fun x y => if y = 0 then none else some (x - x / y * y)) (pc + 1) L st M else none
  | .ineg => if len = 1 then mun (fun x => .int (-x)) (pc + 1) L st M else none
  | .i2l => if len = 1 then mun (fun x => .long x.toInt64) (pc + 1) L st M else none
  | .i2b => if len = 1 then mun (fun x => .int x.toInt8.toInt32) (pc + 1) L st M else none
  | .i2s => if len = 1 then mun (fun x => .int x.toInt16.toInt32) (pc + 1) L st M else none
  | .i2c => if len = 1 then mun (fun x => .int (x.toUInt32 % 65536).toInt32) (pc + 1) L st M else none
  | .l2i => if len = 1 then (match st with
    | .long x :: st => mnx (pc + 1) L (.int x.toInt32 :: st) M
    | _ => none) else none
  | .lcmp => if len = 1 then (match st with
    | .long y :: .long x :: st => mnx (pc + 1) L (.int (lg_cmp x y) :: st) M
    | _ => none) else none
  | .dup => if len = 1 then (match st with
    | v :: st => if v.category = 1 then mnx (pc + 1) L (v :: v :: st) M else none
    | _ => none) else none
  | .dup2 => if len = 1 then (match st with
    | v :: w :: st => if v.category = 1 ∧ w.category = 1 then mnx (pc + 1) L (v :: w :: v :: w :: st) M else none
    | _ => none) else none
  | .pop => if len = 1 then (match st with
    | v :: st => if v.category = 1 then mnx (pc + 1) L st M else none
    | _ => none) else none
  | .iinc i n => if len = 3 then (match L[i]? with
    | some (.int x) => match mst1 L i (.int (x + Int32.ofInt n)) with
      | some L => mnx (pc + 3) L st M
      | none => none
    | _ => none) else none
  | .ifCond c off => if len = 3 ∧ 0 ≤ (pc : Int) + off then (match st with
    | .int x :: st => mnx (if mcd c x 0 = true then ((pc : Int) + off).toNat else pc + 3) L st M
    | _ => none) else none
  | .if_icmp c off => if len = 3 ∧ 0 ≤ (pc : Int) + off then (match st with
    | .int y :: .int x :: st => mnx (if mcd c x y = true then ((pc : Int) + off).toNat else pc + 3) L st M
    | _ => none) else none
  | .goto off => if len = 3 then mjmp pc off L st M else none
  | .tableswitch d lo hi offs => msw pc (fun x => if x < lo ∨ hi < x then some d else offs[(x - lo).toNat]?) L st M
  | .lookupswitch d ps => if (ps.toList.zip (ps.toList.drop 1)).all (fun (a, next) => a.1 < next.1) = true then msw pc (fun x => some (Op.lookupswitch.offset ps.toList d x)) L st M else none
  | .getfield i => if len = 3 then (match lk (mow y) i with
    | (1, a, b) => mget a b (pc + 3) L st M
    | (16, a, _) => mget 8 a (pc + 3) L st M
    | _ => none) else none
  | .putfield i => if len = 3 then (match lk (mow y) i with
    | (1, a, b) => mputf y a b (pc + 3) L st M
    | _ => none) else none
  | .getstatic i => if len = 3 then (match lk (mow y) i with
    | (3, a, _) => mnx (pc + 3) L (mstv a :: st) M
    | _ => none) else none
  | .iaload => if len = 1 then mald (fun t => decide (t ≤ 1)) (pc + 1) L st M else none
  | .baload => if len = 1 then mald (fun t => decide (t = 2)) (pc + 1) L st M else none
  | .iastore => if len = 1 then mast (pc + 1) L st M else none
  | .aaload => if len = 1 then mald_q (pc + 1) L st M else none
  | .aastore => if len = 1 then mast_q (pc + 1) L st M else none
  | .arraylength => if len = 1 then (match st with
    | .ref q :: st => match mlen (M.2 q) with
      | some n => mnx (pc + 1) L (.int (Int32.ofNat n) :: st) M
      | none => none
    | _ => none) else none
  | .newarray t => if len = 2 ∧ t = .int then (match st with
    | .int n :: st => if ¬ n < 0 ∧ n.toNatClampNeg ≤ 1200 ∧ M.1 < 1000 then mnx (pc + 2) L (.ref M.1 :: st) (mpush M (.inl (0, n.toNatClampNeg, fun _ => 0))) else none
    | _ => none) else none
  | .anewarray i => if len = 3 then (match lk (mow y) i with
    | (11, a, _) => (match st with
      | .int n :: st => if ¬ n < 0 ∧ n.toNatClampNeg ≤ 1200 ∧ M.1 < 1000 then mnx (pc + 3) L (.ref M.1 :: st) (mpush M (.inr (.inl (a, n.toNatClampNeg, fun _ => none)))) else none
      | _ => none)
    | _ => none) else none
  | .new i => if len = 3 then (match lk (mow y) (i + 65536) with
    | (10, a, _) => if M.1 < 1000 then mnx (pc + 3) L (.ref M.1 :: st) (mpush M (.inr (.inr (a, (List.range (nNN a)).map (fun j => defaultValue (nYY a j)))))) else none
    | _ => none) else none
  | .invokevirtual i => if len = 3 then minv y i st 0 M else none
  | .invokestatic i => if len = 3 then (if (lk (mow y) i).1 = 9 then mcopy (pc + 3) L st M else minv y i st 1 M) else none
  | .invokespecial i => if len = 3 then (if (lk (mow y) i).1 = 8 then (match st with
      | .ref b :: st => if b < 1000 ∧ st.length ≤ 4 then mnx (pc + 3) L st M else none
      | _ => none) else minv y i st 2 M) else none
  | .ireturn => if len = 1 then (match st, mrt y with
    | [.int v], some ty => if narrow ty (.int v) = .int v then some (.inr (.inr (some (.int v)))) else none
    | _, _ => none) else none
  | .lreturn => if len = 1 then (match st, mrt y with
    | [.long v], some .long => some (.inr (.inr (some (.long v))))
    | _, _ => none) else none
  | .return_ => if len = 1 then (match st, mrt y with
    | [], none => some (.inr (.inr none))
    | _, _ => none) else none
  | _ => none
def mexp (vs : List Value) : List Value := vs.flatMap (fun v => if v.category = 2 then [v, .null] else [v])
def ment (y : Nat) (vs : List Value) : List Value := mexp vs ++ List.replicate (mml y - (mexp vs).length) .null
def run (d n y pc : Nat) (L st : List Value) (M : mM) : Option (Option Value × mM) := match n with
  | 0 => none
  | n + 1 => match decode (bt y) pc with
    | .ok (ins, len) => match stp y ins len pc L st M with
      | some (.inl (pc, L, st, M)) => run d n y pc L st M
      | some (.inr (.inl (z, vs, rest))) => (match d with
        | 0 => none
        | d' + 1 => if (mexp vs).length ≤ mml z then (match run d' n z 0 (ment z vs) [] M with
          | some (v, M) => run (d' + 1) n y (pc + 3) L (v.toList ++ rest) M
          | none => none) else none)
      | some (.inr (.inr v)) => some (v, M)
      | none => none
    | .error _ => none
