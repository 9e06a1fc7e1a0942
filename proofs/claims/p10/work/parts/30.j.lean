/-! the machine over numbers: ints are integers, cells are functions of kind and place -/
abbrev jV : Type := Int ⊕ Option (Nat × Nat)
abbrev jL : Type := List (Nat × jV)
abbrev jH : Type := (Nat → Nat → Nat → Int) × (Nat → Nat → Nat → Option Nat) × (Nat → Nat → Int → Int) × (Nat → Nat → Int → Option Nat) × (Nat → Nat → Nat → Nat)
abbrev jW : Type := (Nat → Nat → Prop) × Nat × Nat
abbrev jG : Type := Nat × jL × List jV × jH
abbrev jO : Type := Option jV ⊕ Nat
def jft (c j : Nat) : Option (Nat × Nat) := match jfd[c]? with
  | some l => l[j]?
  | none => none
def jfn (c : Nat) : Nat := match jfd[c]? with
  | some l => l.length
  | none => 0
def jrk (k : Nat) : Option (Nat × Int × Nat) := match jrt[k]? with
  | some (some z) => some z
  | _ => none
def jcn (k : Nat) : Bool := Nat.beq k 11 || (Nat.ble 50 k && (jrk k).isSome)
/-- kinds of cells of the class -/
def jkd (k : Nat) : Bool := Nat.ble k 10 || (!(jcn k) && (jrk k).isSome)
/-- what is there lies below the next place -/
def jwc (w : jW) : Prop := 0 < w.2.1 ∧ ∀ k p, w.1 k p → p < w.2.1 ∧ jkd k = true
def jdr (k : Nat) : Bool := Nat.ble k 10 || Nat.beq k 42 || Nat.beq k 43
def jD (b : Bool) (w : jW) (k p : Nat) : Prop := match jcn k with
  | true => b = true ∧ p = 0
  | false => w.1 k p
def jlen (H : jH) (k p : Nat) (n : Int) : Int := match Nat.beq k 42 with
  | true => H.1 42 0 p
  | false => n
def jm (ph : Nat → Nat → Nat) : jV → Value
  | .inl x => .int (Int32.ofInt x)
  | .inr none => .null
  | .inr (some t) => .ref (ph t.1 t.2)
def jml (ph : Nat → Nat → Nat) (lv : jL) : xL := lv.map fun q => (q.1, jm ph q.2)
def jmo (ph : Nat → Nat → Nat) : jO → xO
  | .inl v => .inl (v.map (jm ph))
  | .inr c => .inr c
/-- 0 is no place: a reference that is not there yet -/
def va_z (a : Nat) : Value := match a with
  | 0 => .null
  | a + 1 => .ref (a + 1)
def jfv (ph : Nat → Nat → Nat) (H : jH) (c p j : Nat) : Value := match jft c j with
  | some (0, _) => .int (Int32.ofInt (H.1 c j p))
  | some (1, k) => va_z (ph k p)
  | some (2, k) => va_rf ((H.2.1 c j p).map (ph k))
  | some (_, k) => (match H.2.2.2.2 c j p with
    | 0 => .null
    | q + 1 => .ref (ph k (q + 1)))
  | none => .null
def jrw (ph : Nat → Nat → Nat) (H : jH) (k p t : Nat) (n : Int) (tk : Nat) : xC := match t with
  | 0 => .inl (0, (jlen H k p n).toNat, .inl fun i => Int32.ofInt (H.2.2.1 k p i))
  | 1 => .inl (1, (jlen H k p n).toNat, .inl fun i => Int32.ofInt (H.2.2.1 k p i))
  | t => .inl (t, (jlen H k p n).toNat, .inr (.inr (.inr (.inr fun i => (H.2.2.2.1 k p i).map (ph tk)))))
def jRep (b : Bool) (ph : Nat → Nat → Nat) (w : jW) (H : jH) (hp : List xC) : Prop :=
  (∀ c p, c < 12 → jD b w c p → hp[ph c p]? = some (.inr (c, (List.range (jfn c)).map (jfv ph H c p)))) ∧
  (∀ k p t n tk, jrk k = some (t, n, tk) → jD b w k p → hp[ph k p]? = some (jrw ph H k p t n tk)) ∧
  (∀ k p k' p', jD b w k p → jD b w k' p' → ph k p = ph k' p' → k = k' ∧ p = p') ∧
  (∀ k p, jD b w k p → 0 < ph k p) ∧ (∀ k p, jdr k = true → ph k p = p) ∧ w.2.1 = hp.length ∧ (∀ p, w.1 42 p → H.1 42 0 p ≤ 2147483647) ∧ jwc w
def jE (b : Bool) (ph : Nat → Nat → Nat) (w : jW) (ph' : Nat → Nat → Nat) (w' : jW) : Prop :=
  (∀ k p, jD b w k p → jD b w' k p ∧ ph' k p = ph k p) ∧ (∀ k p, jD b w' k p → jD b w k p ∨ w.2.1 ≤ ph' k p) ∧ w.2.1 ≤ w'.2.1
def jF (b : Bool) (ph : Nat → Nat → Nat) (w : jW) (hp hp' : List xC) : Prop := ∀ p, p < w.2.1 → (∀ k q, jD b w k q → ph k q ≠ p) → hp'[p]? = hp[p]?
/-- a run: from each heap that the picture speaks of it ends, and Post holds -/
def J (b : Bool) (d k : Nat) (w : jW) (g : jG) (Post : jO → jW → jH → Prop) : Prop :=
  ∀ ph hp, jRep b ph w g.2.2.2 hp → ∃ o w' H' ph' hp', X d k (g.1, jml ph g.2.1, g.2.2.1.map (jm ph), hp, w.2.2) (jmo ph' o, hp', w'.2.2) ∧ jRep b ph' w' H' hp' ∧ jE b ph w ph' w' ∧ jF b ph w hp hp' ∧ Post o w' H'
theorem jE.refl (b : Bool) (ph : Nat → Nat → Nat) (w : jW) : jE b ph w ph w := ⟨fun _ _ h => ⟨h, rfl⟩, fun _ _ h => Or.inl h, Nat.le_refl _⟩
theorem jE.trans {b : Bool} {ph1 ph2 ph3 : Nat → Nat → Nat} {w1 w2 w3 : jW} (h : jE b ph1 w1 ph2 w2) (h' : jE b ph2 w2 ph3 w3) : jE b ph1 w1 ph3 w3 := by
  refine ⟨fun k p hd => ?_, fun k p hd => ?_, Nat.le_trans h.2.2 h'.2.2⟩
  · have h1 := h.1 k p hd
    have h2 := h'.1 k p h1.1
    exact ⟨h2.1, h2.2.trans h1.2⟩
  · rcases h'.2.1 k p hd with h1 | h1
    · rcases h.2.1 k p h1 with h2 | h2
      · exact Or.inl h2
      · refine Or.inr ?_
        rw [(h'.1 k p h1).2]
        exact h2
    · exact Or.inr (Nat.le_trans h.2.2 h1)
theorem jF.trans {b : Bool} {ph ph1 : Nat → Nat → Nat} {w w1 : jW} {hp hp1 hp2 : List xC} (he : jE b ph w ph1 w1) (h : jF b ph w hp hp1) (h' : jF b ph1 w1 hp1 hp2) : jF b ph w hp hp2 := by
  intro p hp0 hn
  refine (h' p (Nat.lt_of_lt_of_le hp0 he.2.2) fun k q hd hq => ?_).trans (h p hp0 hn)
  rcases he.2.1 k q hd with h1 | h1
  · exact hn k q h1 (((he.1 k q h1).2).symm.trans hq)
  · omega
/-- updates -/
def jupF {α : Type} (F : Nat → Nat → Nat → α) (c j p : Nat) (x : α) : Nat → Nat → Nat → α := fun c' j' p' => match Nat.beq c' c with
  | false => F c' j' p'
  | true => match Nat.beq j' j with
    | false => F c' j' p'
    | true => if p' = p then x else F c' j' p'
def jsetR {α : Type} (R : Nat → Nat → Int → α) (k p : Nat) (g : Int → α) : Nat → Nat → Int → α := fun k' p' => match Nat.beq k' k with
  | false => R k' p'
  | true => if p' = p then g else R k' p'
def jup {α : Type} (g : Int → α) (i : Int) (x : α) : Int → α := fun i' => if i' = i then x else g i'
def jand (x y : Int) : Int := (Int32.ofInt x &&& Int32.ofInt y).toInt
def jor (x y : Int) : Int := (Int32.ofInt x ||| Int32.ofInt y).toInt
def jxor (x y : Int) : Int := (Int32.ofInt x ^^^ Int32.ofInt y).toInt
def jshl (x y : Int) : Int := (Int32.ofInt x <<< (Int32.ofInt y &&& 31)).toInt
def jshr (x y : Int) : Int := (Int32.ofInt x >>> (Int32.ofInt y &&& 31)).toInt
def jushr (x y : Int) : Int := (((Int32.ofInt x).toUInt32 >>> ((Int32.ofInt y).toUInt32 &&& Int32.toUInt32 31)).toInt32).toInt
def jrm : jL → Nat → jL
  | [], _ => []
  | q :: l, i => match Nat.beq q.1 i with
    | true => jrm l i
    | false => q :: jrm l i
def jput (lv : jL) (i : Nat) (v : jV) : jL := (i, v) :: jrm lv i
/-- what goes on the stack -/
def ja1 (oc : Nat) (i : Instr) (len : Nat) (lv : jL) : Option jV := match i with
  | .iconst n => if len = 1 then some (.inl n) else none
  | .bipush n => if len = 2 ∧ -128 ≤ n ∧ n < 128 then some (.inl n) else none
  | .sipush n => if len = 3 ∧ -32768 ≤ n ∧ n < 32768 then some (.inl n) else none
  | .aconst_null => if len = 1 then some (.inr none) else none
  | .ldc ix => if len = 2 then (xlk jcns oc ix).map .inl else none
  | .ldc_w ix => if len = 3 then (xlk jcns oc ix).map .inl else none
  | .iload k => if len = 2 then (match lv.lookup k with | some (.inl x) => some (.inl x) | _ => none) else none
  | .iload_n k => if len = 1 then (match lv.lookup k.val with | some (.inl x) => some (.inl x) | _ => none) else none
  | .aload k => if len = 2 then (match lv.lookup k with | some (.inr x) => some (.inr x) | _ => none) else none
  | .aload_n k => if len = 1 then (match lv.lookup k.val with | some (.inr x) => some (.inr x) | _ => none) else none
  | _ => none
/-- the stack alone -/
def ja3 (i : Instr) (st : List jV) : Option (Option Prop × List jV) := match i, st with
  | .dup, v :: st => some (none, v :: v :: st)
  | .pop, _ :: st => some (none, st)
  | .dup_x2, a :: b :: d :: st => some (none, a :: b :: d :: a :: st)
  | .dup2, a :: b :: st => some (none, a :: b :: a :: b :: st)
  | .ineg, .inl x :: st => some (none, .inl (-x) :: st)
  | .iadd, .inl y :: .inl x :: st => some (none, .inl (x + y) :: st)
  | .isub, .inl y :: .inl x :: st => some (none, .inl (x - y) :: st)
  | .imul, .inl y :: .inl x :: st => some (none, .inl (x * y) :: st)
  | .iand, .inl y :: .inl x :: st => some (none, .inl (jand x y) :: st)
  | .ior, .inl y :: .inl x :: st => some (none, .inl (jor x y) :: st)
  | .ixor, .inl y :: .inl x :: st => some (none, .inl (jxor x y) :: st)
  | .ishl, .inl y :: .inl x :: st => some (none, .inl (jshl x y) :: st)
  | .ishr, .inl y :: .inl x :: st => some (none, .inl (jshr x y) :: st)
  | .iushr, .inl y :: .inl x :: st => some (none, .inl (jushr x y) :: st)
  | .idiv, .inl y :: .inl x :: st => some (some (0 ≤ x ∧ x ≤ 2147483647 ∧ 0 < y ∧ y ≤ 2147483647), .inl (x / y) :: st)
  | .irem, .inl y :: .inl x :: st => some (some (0 ≤ x ∧ x ≤ 2147483647 ∧ 0 < y ∧ y ≤ 2147483647), .inl (x % y) :: st)
  | _, _ => none
def ja4 (nL : Nat) (i : Instr) (len : Nat) (lv : jL) (st : List jV) : Option (jL × List jV) := match i, st with
  | .istore k, .inl x :: st => if len = 2 ∧ k < nL then some (jput lv k (.inl x), st) else none
  | .istore_n k, .inl x :: st => if len = 1 ∧ k.val < nL then some (jput lv k.val (.inl x), st) else none
  | .astore k, .inr x :: st => if len = 2 ∧ k < nL then some (jput lv k (.inr x), st) else none
  | .astore_n k, .inr x :: st => if len = 1 ∧ k.val < nL then some (jput lv k.val (.inr x), st) else none
  | .iinc k n, st => if len = 3 ∧ k < nL then (match lv.lookup k with | some (.inl x) => some (jput lv k (.inl (x + n)), st) | _ => none) else none
  | _, _ => none
def ja5 (i : Instr) (len pc : Nat) (st : List jV) : Option (Nat × List jV) := match i, st with
  | .goto off, st => if len = 3 then (xj pc off).map fun t => (t, st) else none
  | .ifnull off, .inr none :: st => if len = 3 then (xj pc off).map fun t => (t, st) else none
  | .ifnull _, .inr (some _) :: st => if len = 3 then some (pc + 3, st) else none
  | .ifnonnull off, .inr (some _) :: st => if len = 3 then (xj pc off).map fun t => (t, st) else none
  | .ifnonnull _, .inr none :: st => if len = 3 then some (pc + 3, st) else none
  | _, _ => none
/-- the place is there: nothing is asked of the reference's -/
def jcd (b : Bool) (w : jW) (k p : Nat) : Option (Option Prop) := match jcn k with
  | true => (match b, p with | true, 0 => some none | _, _ => none)
  | false => some (some (w.1 k p))
def jca (o : Option Prop) (Q : Prop) : Option Prop := match o with
  | none => some Q
  | some P => some (P ∧ Q)
def jco (o o' : Option Prop) : Option Prop := match o with
  | none => o'
  | some P => match o' with
    | none => some P
    | some Q => some (P ∧ Q)
def ja6 (b : Bool) (w : jW) (oc : Nat) (i : Instr) (len : Nat) (st : List jV) (H : jH) : Option (Option Prop × List jV) := match i, st with
  | .getfield ix, .inr (some (c', p)) :: st => if len = 3 then (match xlk xfls oc ix with
    | some (c, j) => (match Nat.beq c c', jcd b w c p, jft c j with
      | true, some o, some (0, _) => some (o, .inl (H.1 c j p) :: st)
      | true, some o, some (1, k) => (match jcd b w k p with | some o' => some (jco o o', .inr (some (k, p)) :: st) | none => none)
      | true, some o, some (2, k) => some (o, .inr ((H.2.1 c j p).map fun q => (k, q)) :: st)
      | true, some o, some (_, k) => some (jca o (0 < H.2.2.2.2 c j p), .inr (some (k, H.2.2.2.2 c j p)) :: st)
      | _, _, _ => none)
    | none => none) else none
  | .iaload, .inl x :: .inr (some (k, p)) :: st => if len = 1 then (match jrk k, jcd b w k p with
    | some (0, n, _), some o => some (jca o (0 ≤ x ∧ x < jlen H k p n), .inl (H.2.2.1 k p x) :: st)
    | _, _ => none) else none
  | .baload, .inl x :: .inr (some (k, p)) :: st => if len = 1 then (match jrk k, jcd b w k p with
    | some (1, n, _), some o => some (jca o (0 ≤ x ∧ x < jlen H k p n), .inl (H.2.2.1 k p x) :: st)
    | _, _ => none) else none
  | .aaload, .inl x :: .inr (some (k, p)) :: st => if len = 1 then (match jrk k, jcd b w k p with
    | some (_ + 3, n, tk), some o => some (jca o (0 ≤ x ∧ x < jlen H k p n), .inr ((H.2.2.2.1 k p x).map fun q => (tk, q)) :: st)
    | _, _ => none) else none
  | .arraylength, .inr (some (k, p)) :: st => if len = 1 then (match jrk k, jcd b w k p with
    | some (0, n, _), some o => some (jca o (0 ≤ jlen H k p n ∧ jlen H k p n ≤ 2147483647), .inl (jlen H k p n) :: st)
    | _, _ => none) else none
  | _, _ => none
def jfin (c j : Nat) : Bool := match xcl[c]? with
  | some r => (r.2.1 j).2.2.2
  | none => true
def ja7 (b : Bool) (ini : Bool) (w : jW) (oc : Nat) (i : Instr) (len : Nat) (st : List jV) (H : jH) : Option (Option Prop × List jV × jH) := match i, st with
  | .putfield ix, .inl x :: .inr (some (c', p)) :: st => if len = 3 then (match xlk xfls oc ix with
    | some (c, j) => (match Nat.beq c c', jfin c j && !(ini && Nat.beq oc c), jcd b w c p, jft c j with
      | true, false, some o, some (0, 0) => some (o, st, jupF H.1 c j p x, H.2)
      | true, false, some o, some (0, _) => some (jca o (x = 0 ∨ x = 1), st, jupF H.1 c j p x, H.2)
      | _, _, _, _ => none)
    | none => none) else none
  | .putfield ix, .inr v :: .inr (some (c', p)) :: st => if len = 3 then (match xlk xfls oc ix with
    | some (c, j) => (match Nat.beq c c', jfin c j && !(ini && Nat.beq oc c), jcd b w c p, jft c j, v with
      | true, false, some o, some (2, _), none => some (o, st, H.1, jupF H.2.1 c j p none, H.2.2)
      | true, false, some o, some (2, k), some (k', q) => if Nat.beq k k' then some (o, st, H.1, jupF H.2.1 c j p (some q), H.2.2) else none
      | true, false, some o, some (3, k), some (k', q) => if Nat.beq k k' then some (jca o (0 < q), st, H.1, H.2.1, H.2.2.1, H.2.2.2.1, jupF H.2.2.2.2 c j p q) else none
      | _, _, _, _, _ => none)
    | none => none) else none
  | .iastore, .inl y :: .inl x :: .inr (some (k, p)) :: st => if len = 1 then (match jrk k, jcd b w k p with
    | some (0, n, _), some o => some (jca o (0 ≤ x ∧ x < jlen H k p n), st, H.1, H.2.1, jsetR H.2.2.1 k p (jup (H.2.2.1 k p) x y), H.2.2.2)
    | _, _ => none) else none
  | .bastore, .inl y :: .inl x :: .inr (some (k, p)) :: st => if len = 1 then (match jrk k, jcd b w k p with
    | some (1, n, _), some o => some (jca o ((y = 0 ∨ y = 1) ∧ 0 ≤ x ∧ x < jlen H k p n), st, H.1, H.2.1, jsetR H.2.2.1 k p (jup (H.2.2.1 k p) x y), H.2.2.2)
    | _, _ => none) else none
  | .aastore, .inr (some (c, q)) :: .inl x :: .inr (some (k, p)) :: st => if len = 1 then (match jrk k, jcd b w k p, jcd b w c q with
    | some (t + 3, n, tk), some o, some (some o') => if Nat.beq tk c && (xovc[t]?).any (fun z => Nat.beq z c) && Nat.ble c 10 then some (jca o (o' ∧ 0 ≤ x ∧ x < jlen H k p n), st, H.1, H.2.1, H.2.2.1, jsetR H.2.2.2.1 k p (jup (H.2.2.2.1 k p) x (some q)), H.2.2.2.2) else none
    | _, _, _ => none) else none
  | _, _ => none
/-- one plain instruction: what must hold, where it leads -/
def js (b ini : Bool) (oc nL : Nat) (w : jW) (i : Instr) (len : Nat) (g : jG) : Option (Option Prop × jG) := match g with
  | (pc, lv, st, H) => match ja1 oc i len lv with
    | some v => some (none, pc + len, lv, v :: st, H)
    | none => match ja6 b w oc i len st H with
      | some (o, st') => some (o, pc + len, lv, st', H)
      | none => match (if len = 1 then ja3 i st else none) with
        | some (o, st') => some (o, pc + 1, lv, st', H)
        | none => match ja5 i len pc st with
          | some (t, st') => some (none, t, lv, st', H)
          | none => match ja4 nL i len lv st with
            | some (lv', st') => some (none, pc + len, lv', st', H)
            | none => match ja7 b ini w oc i len st H with
              | some (o, st', H') => some (o, pc + len, lv, st', H')
              | none => none
def jst (b : Bool) (w : jW) (k : Nat) (g : jG) : Option (Option Prop × jG) := match xmts[k]? with
  | none => none
  | some q => match xat k g.1 with
    | none => none
    | some (i, len) => js b (xinis.contains k) q.1 q.2.2.2.1 w i len g
def jstn : Nat → Bool → jW → Nat → jG → Option (Option Prop × jG)
  | 0, _, _, _, g => some (none, g)
  | n + 1, b, w, k, g => match jst b w k g with
    | some (o, g') => (match jstn n b w k g' with
      | some (o', g'') => some (jco o o', g'')
      | none => none)
    | none => none
def jh (o : Option Prop) : Prop := match o with
  | none => True
  | some P => P
