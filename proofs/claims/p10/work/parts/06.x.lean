abbrev xC : Type := (Nat × vp_A) ⊕ (Nat × List Value)
abbrev xL : Type := List (Nat × Value)
abbrev xG : Type := Nat × xL × List Value × List xC × Nat
def xj (pc : Nat) (off : Int) : Option Nat := match (pc : Int) + off with
  | .ofNat t => some t
  | _ => none
def xcmp (c : ClassFile.Cond) (x y : Int32) : Bool := match c with
  | .eq => decide (x = y)
  | .ne => decide (¬ x = y)
  | .lt => decide (x < y)
  | .ge => decide (y ≤ x)
  | .gt => decide (y < x)
  | .le => decide (x ≤ y)
def xput (lv : xL) (i : Nat) (v : Value) : xL := (i, v) :: lv.filter (fun q => !(q.1 == i) && !(q.1 + 1 == i && q.2.category == 2))
def xin (i : Int32) (n : Nat) : Bool := !(decide (i < 0) || decide (n ≤ i.toNatClampNeg))
def xfit (ty : FieldType) (v : Value) : Bool := match ty, v with
  | .int, .int _ => true
  | .boolean, .int x => x == 0 || x == 1
  | .object _, .null => true
  | .object _, .ref _ => true
  | .array _, .null => true
  | .array _, .ref _ => true
  | _, _ => false
/-- what goes on the stack: constants, locals -/
def xs1 (oc : Nat) (i : Instr) (len : Nat) (lv : xL) : Option Value := match i with
  | .iconst n => if len = 1 then some (.int (Int32.ofInt n)) else none
  | .bipush n => if len = 2 then some (.int (Int8.ofInt n).toInt32) else none
  | .sipush n => if len = 3 then some (.int (Int16.ofInt n).toInt32) else none
  | .aconst_null => if len = 1 then some .null else none
  | .ldc ix => if len = 2 then (xlk xcns oc ix).map .int else none
  | .ldc_w ix => if len = 3 then (xlk xcns oc ix).map .int else none
  | .iload k => if len = 2 then (match lv.lookup k with | some (.int x) => some (.int x) | _ => none) else none
  | .iload_n k => if len = 1 then (match lv.lookup k.val with | some (.int x) => some (.int x) | _ => none) else none
  | .aload k => if len = 2 then (match lv.lookup k with | some (.ref x) => some (.ref x) | some .null => some .null | _ => none) else none
  | .aload_n k => if len = 1 then (match lv.lookup k.val with | some (.ref x) => some (.ref x) | some .null => some .null | _ => none) else none
  | _ => none
/-- two ints into one -/
def xs2 (i : Instr) (x y : Int32) : Option Int32 := match i with
  | .iadd => some (x + y)
  | .isub => some (x - y)
  | .imul => some (x * y)
  | .iand => some (x &&& y)
  | .ior => some (x ||| y)
  | .ixor => some (x ^^^ y)
  | .ishl => some (x <<< (y &&& 31))
  | .ishr => some (x >>> (y &&& 31))
  | .iushr => some ((x.toUInt32 >>> (y.toUInt32 &&& Int32.toUInt32 31)).toInt32)
  | .idiv => if y = 0 then none else some (x / y)
  | .irem => if y = 0 then none else some (x - x / y * y)
  | _ => none
/-- the stack alone -/
def xs3 (i : Instr) (st : List Value) : Option (List Value) := match i, st with
  | .dup, v :: st => if v.category = 1 then some (v :: v :: st) else none
  | .pop, v :: st => if v.category = 1 then some st else none
  | .dup_x2, a :: b :: d :: st => if a.category = 1 ∧ b.category = 1 ∧ d.category = 1 then some (a :: b :: d :: a :: st) else none
  | .dup2, a :: b :: st => if a.category = 1 ∧ b.category = 1 then some (a :: b :: a :: b :: st) else none
  | .ineg, .int x :: st => some (.int (-x) :: st)
  | .i2l, .int x :: st => some (.long x.toInt64 :: st)
  | .lcmp, .long y :: .long x :: st => some (.int (lg_cmp x y) :: st)
  | i, .int y :: .int x :: st => (xs2 i x y).map fun z => .int z :: st
  | _, _ => none
/-- locals that are written -/
def xs4 (nL : Nat) (i : Instr) (len : Nat) (lv : xL) (st : List Value) : Option (xL × List Value) := match i, st with
  | .istore k, .int x :: st => if len = 2 ∧ k < nL then some (xput lv k (.int x), st) else none
  | .istore_n k, .int x :: st => if len = 1 ∧ k.val < nL then some (xput lv k.val (.int x), st) else none
  | .astore k, .ref x :: st => if len = 2 ∧ k < nL then some (xput lv k (.ref x), st) else none
  | .astore k, .null :: st => if len = 2 ∧ k < nL then some (xput lv k .null, st) else none
  | .astore_n k, .ref x :: st => if len = 1 ∧ k.val < nL then some (xput lv k.val (.ref x), st) else none
  | .astore_n k, .null :: st => if len = 1 ∧ k.val < nL then some (xput lv k.val .null, st) else none
  | .iinc k n, st => if len = 3 ∧ k < nL then (match lv.lookup k with | some (.int x) => some (xput lv k (.int (x + Int32.ofInt n)), st) | _ => none) else none
  | _, _ => none
/-- where it goes on -/
def xs5 (i : Instr) (len pc : Nat) (st : List Value) : Option (Nat × List Value) := match i, st with
  | .goto off, st => if len = 3 then (xj pc off).map fun t => (t, st) else none
  | .ifCond c off, .int x :: st => if len = 3 then (xj pc off).map fun t => (if xcmp c x 0 then t else pc + 3, st) else none
  | .if_icmp c off, .int y :: .int x :: st => if len = 3 then (xj pc off).map fun t => (if xcmp c x y then t else pc + 3, st) else none
  | .ifnull off, .null :: st => if len = 3 then (xj pc off).map fun t => (t, st) else none
  | .ifnull _, .ref _ :: st => if len = 3 then some (pc + 3, st) else none
  | .ifnonnull off, .ref _ :: st => if len = 3 then (xj pc off).map fun t => (t, st) else none
  | .ifnonnull _, .null :: st => if len = 3 then some (pc + 3, st) else none
  | .tableswitch d lo hi offs, .int x :: st =>
    if x.toInt < lo ∨ hi < x.toInt then (xj pc d).map fun t => (t, st)
    else match offs[(x.toInt - lo).toNat]? with
      | some off => (xj pc off).map fun t => (t, st)
      | none => none
  | _, _ => none
/-- reads -/
def xs6 (oc : Nat) (i : Instr) (len : Nat) (st : List Value) (hp : List xC) : Option (List Value) := match i, st with
  | .getfield ix, .ref a :: st => if len = 3 then (match xlk xfls oc ix, hp[a]? with
    | some (ci, k), some (.inr (cj, fs)) => if ci = cj then fs[k]?.map fun v => v :: st else none
    | _, _ => none) else none
  | .iaload, .int j :: .ref a :: st => if len = 1 then (match hp[a]? with
    | some (.inl (0, n, .inl f)) => if xin j n then some (.int (f j.toNatClampNeg) :: st) else none
    | _ => none) else none
  | .baload, .int j :: .ref a :: st => if len = 1 then (match hp[a]? with
    | some (.inl (1, n, .inl f)) => if xin j n then some (.int (f j.toNatClampNeg) :: st) else none
    | _ => none) else none
  | .laload, .int j :: .ref a :: st => if len = 1 then (match hp[a]? with
    | some (.inl (2, n, .inr (.inl f))) => if xin j n then some (.long (f j.toNatClampNeg) :: st) else none
    | _ => none) else none
  | .aaload, .int j :: .ref a :: st => if len = 1 then (match hp[a]? with
    | some (.inl (t + 3, n, .inr (.inr (.inr (.inr f))))) => if xin j n ∧ t < xovs.length then some (va_rf (f j.toNatClampNeg) :: st) else none
    | _ => none) else none
  | .arraylength, .ref a :: st => if len = 1 then (match hp[a]? with
    | some (.inl (t, n, _)) => if t < 3 + xovs.length then some (.int (Int32.ofNat n) :: st) else none
    | _ => none) else none
  | _, _ => none
/-- writes -/
def xs7 (oc : Nat) (ini : Bool) (i : Instr) (len : Nat) (st : List Value) (hp : List xC) : Option (List Value × List xC) := match i, st with
  | .putfield ix, v :: .ref (a + 1) :: st => if len = 3 then (match xlk xfls oc ix, hp[a + 1]? with
    | some (ci, k), some (.inr (cj, fs)) => (match xcl[ci]?, xtys[ci]? with
      | some r, some ty => if ci = cj ∧ k < fs.length ∧ xfit (ty k) v = true ∧ ((r.2.1 k).2.2.2 = false ∨ ini = true ∧ some (r.2.1 k).1 = xowns[oc]?) then some (st, hp.set (a + 1) (.inr (cj, fs.set k v))) else none
      | _, _ => none)
    | _, _ => none) else none
  | .iastore, .int x :: .int j :: .ref (a + 1) :: st => if len = 1 then (match hp[a + 1]? with
    | some (.inl (0, n, .inl f)) => if xin j n then some (st, hp.set (a + 1) (.inl (0, n, .inl (upd f j.toNatClampNeg x)))) else none
    | _ => none) else none
  | .bastore, .int x :: .int j :: .ref (a + 1) :: st => if len = 1 then (match hp[a + 1]? with
    | some (.inl (1, n, .inl f)) => if xin j n then some (st, hp.set (a + 1) (.inl (1, n, .inl (upd f j.toNatClampNeg (vp_nar .boolean x))))) else none
    | _ => none) else none
  | .lastore, .long x :: .int j :: .ref (a + 1) :: st => if len = 1 then (match hp[a + 1]? with
    | some (.inl (2, n, .inr (.inl f))) => if xin j n then some (st, hp.set (a + 1) (.inl (2, n, .inr (.inl (vp_updL f j.toNatClampNeg x))))) else none
    | _ => none) else none
  | .aastore, .ref v :: .int j :: .ref (a + 1) :: st => if len = 1 then (match hp[a + 1]?, hp[v]? with
    | some (.inl (t + 3, n, .inr (.inr (.inr (.inr f))))), some (.inr (ci, _)) => if xin j n ∧ xovc[t]? = some ci then some (st, hp.set (a + 1) (.inl (t + 3, n, .inr (.inr (.inr (.inr (va_up f j.toNatClampNeg (some v)))))))) else none
    | _, _ => none) else none
  | _, _ => none
/-- what is made -/
def xs8 (oc : Nat) (i : Instr) (len : Nat) (st : List Value) : Option (List Value × xC × Nat) := match i, st with
  | .new ix, st => if len = 3 then (match xlk xnws oc ix with
    | some ci => (match xcl[ci]?, xtys[ci]? with
      | some r, some ty => some (st, .inr (ci, (List.range r.2.2).map fun k => defaultValue (ty k)), r.2.2)
      | _, _ => none)
    | none => none) else none
  | .newarray t, .int n :: st => if len = 2 ∧ ¬ n < 0 ∧ n.toNatClampNeg ≤ 1000000 then (match t with
    | .int => some (st, .inl (0, n.toNatClampNeg, .inl fun _ => 0), n.toNatClampNeg)
    | .boolean => some (st, .inl (1, n.toNatClampNeg, .inl fun _ => 0), n.toNatClampNeg)
    | .long => some (st, .inl (2, n.toNatClampNeg, .inr (.inl fun _ => 0)), n.toNatClampNeg)
    | _ => none) else none
  | .anewarray ix, .int n :: st => if len = 3 ∧ ¬ n < 0 ∧ n.toNatClampNeg ≤ 1000000 then (match xlk xans oc ix with
    | some (t + 3) => if t < xovs.length then some (st, .inl (t + 3, n.toNatClampNeg, .inr (.inr (.inr (.inr fun _ => none)))), n.toNatClampNeg) else none
    | _ => none) else none
  | _, _ => none
/-- one instruction of a method of the owner oc that calls nothing -/
def xs (oc nL : Nat) (ini : Bool) (i : Instr) (len : Nat) (g : xG) : Option xG :=
  match xs1 oc i len g.2.1 with
  | some v => some (g.1 + len, g.2.1, v :: g.2.2.1, g.2.2.2)
  | none => match xs6 oc i len g.2.2.1 g.2.2.2.1 with
    | some st => some (g.1 + len, g.2.1, st, g.2.2.2)
    | none => match (if len = 1 then xs3 i g.2.2.1 else none) with
      | some st => some (g.1 + 1, g.2.1, st, g.2.2.2)
      | none => match xs5 i len g.1 g.2.2.1 with
        | some (t, st) => some (t, g.2.1, st, g.2.2.2)
        | none => match xs4 nL i len g.2.1 g.2.2.1 with
          | some (lv, st) => some (g.1 + len, lv, st, g.2.2.2)
          | none => match xs7 oc ini i len g.2.2.1 g.2.2.2.1 with
            | some (st, hp) => some (g.1 + len, g.2.1, st, hp, g.2.2.2.2)
            | none => match xs8 oc i len g.2.2.1 with
              | some (st, c, n) => some (g.1 + len, g.2.1, .ref g.2.2.2.1.length :: st, g.2.2.2.1 ++ [c], g.2.2.2.2 + n)
              | none => none
def xcat (st : List Value) : Nat := (st.map fun v => v.category).sum
/-- Object.<init> and System.arraycopy of ints -/
def xs9 (oc : Nat) (i : Instr) (len : Nat) (st : List Value) (hp : List xC) : Option (List Value × List xC) := match i, st with
  | .invokespecial ix, .ref _ :: st => if len = 3 ∧ xlk xivs oc ix = some (6, 0) ∧ xcat st ≤ 8 then some (st, hp) else none
  | .invokestatic ix, .int n :: .int dp :: .ref (a + 1) :: .int sp :: .ref (a0 + 1) :: st => if len = 3 ∧ xlk xivs oc ix = some (7, 0) ∧ ¬ a0 = a ∧ xcat st ≤ 8 then (match hp[a0 + 1]?, hp[a + 1]? with
    | some (.inl (0, n0, .inl f)), some (.inl (0, n1, .inl g)) =>
      if ¬ sp < 0 ∧ ¬ dp < 0 ∧ ¬ n < 0 ∧ sp.toNatClampNeg + n.toNatClampNeg ≤ n0 ∧ dp.toNatClampNeg + n.toNatClampNeg ≤ n1 then some (st, hp.set (a + 1) (.inl (0, n1, .inl (va_cpy f g sp.toNatClampNeg dp.toNatClampNeg n.toNatClampNeg)))) else none
    | _, _ => none) else none
  | .invokestatic ix, .int y :: .int x :: st => if len = 3 ∧ xlk xivs oc ix = some (1, 170) ∧ xcat st ≤ 8 then some (.int (if x < y then y else x) :: st, hp)
    else if len = 3 ∧ xlk xivs oc ix = some (1, 171) ∧ xcat st ≤ 8 then some (.int (if y < x then y else x) :: st, hp) else none
  | _, _ => none
/-- Arrays.copyOf: a row of ints is cloned, and is a row of ints -/
def xsA (oc : Nat) (i : Instr) (len : Nat) (st : List Value) (hp : List xC) : Option (List Value × List xC × Nat) := match i, st with
  | .invokevirtual ix, .ref (a + 1) :: st => if len = 3 ∧ oc = 13 ∧ ix = 316 ∧ xcat st ≤ 8 then (match hp[a + 1]? with
    | some (.inl (0, n, .inl f)) => some (.ref hp.length :: st, [.inl (0, n, .inl f)], n)
    | _ => none) else none
  | .checkcast ix, .ref (a + 1) :: st => if len = 3 ∧ oc = 13 ∧ ix = 317 then (match hp[a + 1]? with
    | some (.inl (0, n, .inl f)) => some (.ref (a + 1) :: st, [], 0)
    | _ => none) else none
  | _, _ => none
/-- the method ends -/
def xret (ret : Option FieldType) (i : Instr) (len : Nat) (st : List Value) : Option (Option Value) := match i, st, ret with
  | .ireturn, [.int x], some .int => if len = 1 then some (some (.int x)) else none
  | .ireturn, [.int x], some .boolean => if len = 1 ∧ (x = 0 ∨ x = 1) then some (some (.int x)) else none
  | .areturn, [.ref a], some (.object _) => if len = 1 then some (some (.ref a)) else none
  | .areturn, [.null], some (.object _) => if len = 1 then some (some .null) else none
  | .areturn, [.ref a], some (.array _) => if len = 1 then some (some (.ref a)) else none
  | .return_, [], none => if len = 1 then some none else none
  | _, _, _ => none
def xtk (n : Nat) (st : List Value) : Option (List Value × List Value) := if n ≤ st.length then some ((st.take n).reverse, st.drop n) else none
/-- a call: the method, its arguments, what stays on the stack -/
def xcall (oc : Nat) (i : Instr) (len : Nat) (st : List Value) (hp : List xC) : Option (Nat × List Value × List Value) := match i with
  | .invokevirtual ix => (match xlk xivs oc ix with
    | some (kd, k) => (match xmts[k]? with
      | some q => (match xtk (q.2.2.2.2.2 - 1) st with
        | some (as, .ref a :: rest) => (match hp[a]? with
          | some (.inr (ci, _)) => if len = 3 ∧ (kd = 0 ∨ kd = 3) ∧ ¬ (k = 170 ∨ k = 171) ∧ ci = q.1 ∧ ci < 12 ∧ xcat rest ≤ 8 then some (k, .ref a :: as, rest) else none
          | _ => none)
        | _ => none)
      | none => none)
    | none => none)
  | .invokestatic ix => (match xlk xivs oc ix with
    | some (kd, k) => (match xmts[k]? with
      | some q => (match xtk q.2.2.2.2.2 st with
        | some (as, rest) => if len = 3 ∧ (kd = 1 ∨ kd = 4 ∨ kd = 8) ∧ ¬ (k = 170 ∨ k = 171) ∧ xcat rest ≤ 8 then some (k, as, rest) else none
        | none => none)
      | none => none)
    | none => none)
  | .invokespecial ix => (match xlk xivs oc ix with
    | some (kd, k) => (match xmts[k]? with
      | some q => (match xtk (q.2.2.2.2.2 - 1) st with
        | some (as, .ref a :: rest) => if len = 3 ∧ (kd = 2 ∨ kd = 5) ∧ ¬ (k = 170 ∨ k = 171) ∧ xcat rest ≤ 8 then some (k, .ref a :: as, rest) else none
        | _ => none)
      | none => none)
    | none => none)
  | _ => none
abbrev xO : Type := Option Value ⊕ Nat
/-- where a method throws: the kind of what it throws -/
def xthr (k pc : Nat) : Option Nat := (xths.find? fun q => q.1 == k && q.2.1 == pc).map fun q => q.2.2
/-- where a method catches what a call threw: what it answers then -/
def xhnd (k pc ci : Nat) : Option Int32 := (xhds.find? fun q => q.1 == k && q.2.1 == pc && q.2.2.1 == ci).map fun q => q.2.2.2
def xrun : Nat → Nat → Nat → xG → Option (xO × List xC × Nat)
  | 0, _, _, _ => none
  | n + 1, d, k, g => match xmts[k]? with
    | none => none
    | some q => match xat k g.1 with
      | none => none
      | some (i, len) => match xs q.1 q.2.2.2.1 (decide (q.2.1.name = "<init>")) i len g with
        | some g' => xrun n d k g'
        | none => match xs9 q.1 i len g.2.2.1 g.2.2.2.1 with
          | some (st, hp) => xrun n d k (g.1 + 3, g.2.1, st, hp, g.2.2.2.2)
          | none => match xret q.2.2.2.2.1 i len g.2.2.1 with
            | some v => some (.inl v, g.2.2.2)
            | none => match xcall q.1 i len g.2.2.1 g.2.2.2.1 with
              | some (k', as, rest) => (match d, xmts[k']? with
                | d + 1, some q' => if xcat as ≤ q'.2.2.2.1 then (match xrun n d k' (0, lv_args 0 as, [], g.2.2.2) with
                  | some (.inl v, hp, ks) => xrun n (d + 1) k (g.1 + 3, g.2.1, v.toList ++ rest, hp, ks)
                  | some (.inr ci, hp, ks) => (xhnd k g.1 ci).map fun r => (.inl (some (.int r)), hp, ks)
                  | none => none) else none
                | _, _ => none)
              | none => match xthr k g.1 with
                | some ci => if xcat g.2.2.1 ≤ 8 then some (.inr ci, g.2.2.2.1 ++ [.inr (ci, [])], g.2.2.2.2 + 6) else none
                | none => match xsA q.1 i len g.2.2.1 g.2.2.2.1 with
                  | some (st, rows, m) => xrun n d k (g.1 + 3, g.2.1, st, g.2.2.2.1 ++ rows, g.2.2.2.2 + m)
                  | none => none
