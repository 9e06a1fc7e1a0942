section JS
variable {ph : Nat → Nat → Nat} {w : jW} {H : jH} {hp : List xC}
theorem jm_cat (ph : Nat → Nat → Nat) (v : jV) : (jm ph v).category = 1 := by
  rcases v with x | (_ | t) <;> rfl
theorem lookup_map2 {α β : Type} (f : α → β) (l : List (Nat × α)) (k : Nat) : (l.map fun q => (q.1, f q.2)).lookup k = (l.lookup k).map f := by
  induction l with
  | nil => rfl
  | cons q l ih =>
    cases h : (k == q.1) with
    | true => simp [List.lookup, h]
    | false => simp [List.lookup, h, ih]
theorem jml_lookup (lv : jL) (k : Nat) : (jml ph lv).lookup k = (lv.lookup k).map (jm ph) := lookup_map2 (jm ph) lv k
theorem jrm_eq (i : Nat) : ∀ lv : jL, jrm lv i = lv.filter fun q => !(q.1 == i)
  | [] => rfl
  | q :: l => by
    unfold jrm
    rw [jrm_eq i l]
    cases h : Nat.beq q.1 i with
    | true =>
      have e : q.1 = i := Nat.eq_of_beq_eq_true h
      simp [e]
    | false =>
      have e : ¬ q.1 = i := fun z => by rw [z, Nat.beq_refl] at h; cases h
      simp [e]
theorem jml_put (lv : jL) (i : Nat) (v : jV) : xput (jml ph lv) i (jm ph v) = jml ph (jput lv i v) := by
  unfold xput jput jml
  rw [List.map_cons, List.filter_map, jrm_eq]
  have e : ((fun q : Nat × Value => !(q.1 == i) && !(q.1 + 1 == i && q.2.category == 2)) ∘ fun q : Nat × jV => (q.1, jm ph q.2)) = fun q => !(q.1 == i) := by
    funext q
    simp [jm_cat]
  rw [e]
set_option maxRecDepth 10000 in
theorem jcns_ok : xcns = jcns.map (fun l => l.map fun q => (q.1, Int32.ofInt q.2)) := by decide +kernel
theorem jlk_ok (oc ix : Nat) : xlk xcns oc ix = (xlk jcns oc ix).map Int32.ofInt := by
  unfold xlk
  rw [jcns_ok, List.getElem?_map]
  cases jcns[oc]? with
  | none => rfl
  | some l => exact lookup_map2 Int32.ofInt l ix
theorem ja1_ok {oc : Nat} {i : Instr} {len : Nat} {lv : jL} {v : jV} (h : ja1 oc i len lv = some v) : xs1 oc i len (jml ph lv) = some (jm ph v) := by
  unfold ja1 at h
  split at h
  · split at h
    · rename_i hl; cases h; simp only [xs1, hl, if_true]; rfl
    · cases h
  · split at h
    · rename_i n hl; obtain ⟨h1, h2, h3⟩ := hl; cases h
      simp only [xs1, h1, if_true, jm]
      rw [← Int32.ofInt_int8ToInt, Int8.toInt_ofInt_of_le (by omega) (by omega)]
    · cases h
  · split at h
    · rename_i n hl; obtain ⟨h1, h2, h3⟩ := hl; cases h
      simp only [xs1, h1, if_true, jm]
      rw [← Int32.ofInt_int16ToInt, Int16.toInt_ofInt_of_le (by omega) (by omega)]
    · cases h
  · split at h
    · rename_i hl; cases h; simp only [xs1, hl, if_true]; rfl
    · cases h
  · split at h
    · rename_i ix hl
      cases hx : xlk jcns oc ix with
      | none => rw [hx] at h; cases h
      | some x => rw [hx] at h; cases h; simp only [xs1, hl, if_true, jlk_ok, hx, Option.map_some]; rfl
    · cases h
  · split at h
    · rename_i ix hl
      cases hx : xlk jcns oc ix with
      | none => rw [hx] at h; cases h
      | some x => rw [hx] at h; cases h; simp only [xs1, hl, if_true, jlk_ok, hx, Option.map_some]; rfl
    · cases h
  · split at h
    · rename_i hl
      split at h
      · rename_i hx; cases h; simp only [xs1, hl, if_true, jml_lookup, hx, Option.map_some]; rfl
      · cases h
    · cases h
  · split at h
    · rename_i hl
      split at h
      · rename_i hx; cases h; simp only [xs1, hl, if_true, jml_lookup, hx, Option.map_some]; rfl
      · cases h
    · cases h
  · split at h
    · rename_i hl
      split at h
      · rename_i x hx; cases h
        cases x with
        | none => simp only [xs1, hl, if_true, jml_lookup, hx, Option.map_some]; rfl
        | some t => simp only [xs1, hl, if_true, jml_lookup, hx, Option.map_some]; rfl
      · cases h
    · cases h
  · split at h
    · rename_i hl
      split at h
      · rename_i x hx; cases h
        cases x with
        | none => simp only [xs1, hl, if_true, jml_lookup, hx, Option.map_some]; rfl
        | some t => simp only [xs1, hl, if_true, jml_lookup, hx, Option.map_some]; rfl
      · cases h
    · cases h
  · cases h
theorem jdiv_ok {x y : Int} (h1 : 0 ≤ x) (h2 : x ≤ 2147483647) (h3 : 0 < y) (h4 : y ≤ 2147483647) : Int32.ofInt x / Int32.ofInt y = Int32.ofInt (x / y) := by
  have h := Int32.ofInt_tdiv (a := x) (b := y) (by have : Int32.minValue.toInt = -2147483648 := by decide
                                                   omega) (by have : Int32.maxValue.toInt = 2147483647 := by decide
                                                              omega) (by have : Int32.minValue.toInt = -2147483648 := by decide
                                                                         omega) (by have : Int32.maxValue.toInt = 2147483647 := by decide
                                                                                    omega)
  rw [Int.tdiv_eq_ediv_of_nonneg h1] at h
  exact h.symm
theorem jnz_ok {y : Int} (h3 : 0 < y) (h4 : y ≤ 2147483647) : ¬ Int32.ofInt y = 0 := fun z => by
  have h := congrArg Int32.toInt z
  rw [Int32.toInt_ofInt_of_le (by omega) (by omega)] at h
  have : (0 : Int32).toInt = 0 := by decide
  omega
theorem ja3_ok {oc nL : Nat} {ini : Bool} {i : Instr} {pc : Nat} {lv : xL} {st st' : List jV} {o : Option Prop} {ks : Nat} (h : ja3 i st = some (o, st')) (ho : jh o) : xs oc nL ini i 1 (pc, lv, st.map (jm ph), hp, ks) = some (pc + 1, lv, st'.map (jm ph), hp, ks) := by
  unfold ja3 at h
  split at h
  · cases h; simp only [xs, xs1, xs6, xs3, List.map_cons, jm_cat, if_true]
  · cases h; simp only [xs, xs1, xs6, xs3, List.map_cons, jm_cat, if_true]
  · cases h; simp only [xs, xs1, xs6, xs3, List.map_cons, jm_cat, if_true, and_self]
  · cases h; simp only [xs, xs1, xs6, xs3, List.map_cons, jm_cat, if_true, and_self]
  · cases h; simp only [xs, xs1, xs6, xs3, List.map_cons, jm, if_true, Int32.ofInt_neg]
  · cases h; simp only [xs, xs1, xs6, xs3, xs2, List.map_cons, jm, if_true, Int32.ofInt_add, Option.map_some]
  · cases h; simp only [xs, xs1, xs6, xs3, xs2, List.map_cons, jm, if_true, Int32.ofInt_sub, Option.map_some]
  · cases h; simp only [xs, xs1, xs6, xs3, xs2, List.map_cons, jm, if_true, Int32.ofInt_mul, Option.map_some]
  · cases h; simp only [xs, xs1, xs6, xs3, xs2, List.map_cons, jm, if_true, jand, Int32.ofInt_toInt, Option.map_some]
  · cases h; simp only [xs, xs1, xs6, xs3, xs2, List.map_cons, jm, if_true, jor, Int32.ofInt_toInt, Option.map_some]
  · cases h; simp only [xs, xs1, xs6, xs3, xs2, List.map_cons, jm, if_true, jxor, Int32.ofInt_toInt, Option.map_some]
  · cases h; simp only [xs, xs1, xs6, xs3, xs2, List.map_cons, jm, if_true, jshl, Int32.ofInt_toInt, Option.map_some]
  · cases h; simp only [xs, xs1, xs6, xs3, xs2, List.map_cons, jm, if_true, jshr, Int32.ofInt_toInt, Option.map_some]
  · cases h; simp only [xs, xs1, xs6, xs3, xs2, List.map_cons, jm, if_true, jushr, Int32.ofInt_toInt, Option.map_some]
  · cases h
    obtain ⟨h1, h2, h3, h4⟩ := ho
    simp only [xs, xs1, xs6, xs3, xs2, List.map_cons, jm, if_true, if_neg (jnz_ok h3 h4), jdiv_ok h1 h2 h3 h4, Option.map_some]
  · rename_i y x st
    cases h
    obtain ⟨h1, h2, h3, h4⟩ := ho
    have e : Int32.ofInt x - Int32.ofInt (x / y) * Int32.ofInt y = Int32.ofInt (x % y) := by
      rw [← Int32.ofInt_mul, ← Int32.ofInt_sub, Int.emod_def, Int.mul_comm]
    simp only [xs, xs1, xs6, xs3, xs2, List.map_cons, jm, if_true, if_neg (jnz_ok h3 h4), jdiv_ok h1 h2 h3 h4, e, Option.map_some]
  · cases h
theorem ja4_ok {oc nL : Nat} {ini : Bool} {i : Instr} {len pc : Nat} {lv lv' : jL} {st st' : List jV} {ks : Nat} (h : ja4 nL i len lv st = some (lv', st')) : xs oc nL ini i len (pc, jml ph lv, st.map (jm ph), hp, ks) = some (pc + len, jml ph lv', st'.map (jm ph), hp, ks) := by
  unfold ja4 at h
  split at h
  · split at h
    · rename_i k x st hl; obtain ⟨h1, h2⟩ := hl; cases h
      have e := jml_put (ph := ph) lv k (.inl x)
      simp only [jm] at e
      simp only [xs, xs1, xs6, xs4, xs5, h1, h2, List.map_cons, jm, e, if_true, and_self, show ¬ ((2 : Nat) = 1) by decide, if_false]
    · cases h
  · split at h
    · rename_i k x st hl; obtain ⟨h1, h2⟩ := hl; cases h
      have e := jml_put (ph := ph) lv k.val (.inl x)
      simp only [jm] at e
      cases st' with
      | nil => simp only [xs, xs1, xs6, xs3, xs2, xs4, xs5, h1, h2, List.map_cons, List.map_nil, jm, e, if_true, and_self]
      | cons a st => rcases a with a | (_ | a) <;> simp only [xs, xs1, xs6, xs3, xs2, xs4, xs5, h1, h2, List.map_cons, jm, e, if_true, and_self, Option.map_none]
    · cases h
  · split at h
    · rename_i k x st hl; obtain ⟨h1, h2⟩ := hl; cases h
      have e := jml_put (ph := ph) lv k (.inr x)
      cases x with
      | none =>
        simp only [jm] at e
        simp only [xs, xs1, xs6, xs4, xs5, h1, h2, List.map_cons, jm, e, if_true, and_self, show ¬ ((2 : Nat) = 1) by decide, if_false]
      | some t =>
        simp only [jm] at e
        simp only [xs, xs1, xs6, xs4, xs5, h1, h2, List.map_cons, jm, e, if_true, and_self, show ¬ ((2 : Nat) = 1) by decide, if_false]
    · cases h
  · split at h
    · rename_i k x st hl; obtain ⟨h1, h2⟩ := hl; cases h
      have e := jml_put (ph := ph) lv k.val (.inr x)
      cases x with
      | none =>
        simp only [jm] at e
        simp only [xs, xs1, xs6, xs3, xs4, xs5, h1, h2, List.map_cons, jm, e, if_true, and_self]
      | some t =>
        simp only [jm] at e
        simp only [xs, xs1, xs6, xs3, xs4, xs5, h1, h2, List.map_cons, jm, e, if_true, and_self]
    · cases h
  · split at h
    · rename_i st k n hl; obtain ⟨h1, h2⟩ := hl
      split at h
      · rename_i x hx; cases h
        have e := jml_put (ph := ph) lv k (.inl (x + n))
        simp only [jm, Int32.ofInt_add] at e
        simp only [xs, xs1, xs6, xs4, xs5, h1, h2, jml_lookup, hx, Option.map_some, jm, e, if_true, and_self, show ¬ ((3 : Nat) = 1) by decide, if_false]
      · cases h
    · cases h
  · cases h
theorem ja5_ok {oc nL : Nat} {ini : Bool} {i : Instr} {len pc t : Nat} {lv : xL} {st st' : List jV} {ks : Nat} (h : ja5 i len pc st = some (t, st')) : xs oc nL ini i len (pc, lv, st.map (jm ph), hp, ks) = some (t, lv, st'.map (jm ph), hp, ks) := by
  unfold ja5 at h
  split at h
  · split at h
    · rename_i st off hl
      cases hj : xj pc off with
      | none => rw [hj] at h; cases h
      | some u =>
        rw [hj] at h; cases h
        simp only [xs, xs1, xs6, xs5, hl, hj, Option.map_some, if_true, show ¬ ((3 : Nat) = 1) by decide, if_false]
    · cases h
  · split at h
    · rename_i off st hl
      cases hj : xj pc off with
      | none => rw [hj] at h; cases h
      | some u =>
        rw [hj] at h; cases h
        simp only [xs, xs1, xs6, xs5, hl, hj, List.map_cons, jm, Option.map_some, if_true, show ¬ ((3 : Nat) = 1) by decide, if_false]
    · cases h
  · split at h
    · rename_i hl; cases h
      simp only [xs, xs1, xs6, xs5, hl, List.map_cons, jm, if_true, show ¬ ((3 : Nat) = 1) by decide, if_false]
    · cases h
  · split at h
    · rename_i off _ st hl
      cases hj : xj pc off with
      | none => rw [hj] at h; cases h
      | some u =>
        rw [hj] at h; cases h
        simp only [xs, xs1, xs6, xs5, hl, hj, List.map_cons, jm, Option.map_some, if_true, show ¬ ((3 : Nat) = 1) by decide, if_false]
    · cases h
  · split at h
    · rename_i hl; cases h
      simp only [xs, xs1, xs6, xs5, hl, List.map_cons, jm, if_true, show ¬ ((3 : Nat) = 1) by decide, if_false]
    · cases h
  · cases h
end JS
