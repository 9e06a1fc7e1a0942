section XGG
variable {d k : Nat} {r : xO × List xC × Nat} {lv : xL} {st : List Value} {hp : List xC} {ks pc : Nat} {q : xMt}
theorem X.gf {ix ci j a : Nat} {fs : List Value} {v : Value} (hq : xmts[k]? = some q) (hi : xat k pc = some (.getfield ix, 3)) (hl : xlk xfls q.1 ix = some (ci, j)) (ha : hp[a]? = some (.inr (ci, fs))) (hv : fs[j]? = some v) (hx : X d k (pc + 3, lv, v :: st, hp, ks) r) : X d k (pc, lv, .ref a :: st, hp, ks) r := by
  refine X.one ?_ hx
  simp only [xst, hq, hi, xs, xs1, xs6, hl, ha, hv, if_true, Option.map_some]
theorem X.ial {j : Int32} {a n : Nat} {f : Nat → Int32} (hq : xmts[k]? = some q) (hi : xat k pc = some (.iaload, 1)) (ha : hp[a]? = some (.inl (0, n, .inl f))) (hj : xin j n = true) (hx : X d k (pc + 1, lv, .int (f j.toNatClampNeg) :: st, hp, ks) r) : X d k (pc, lv, .int j :: .ref a :: st, hp, ks) r := by
  refine X.one ?_ hx
  simp only [xst, hq, hi, xs, xs1, xs6, ha, hj, if_true]
theorem X.bal {j : Int32} {a n : Nat} {f : Nat → Int32} (hq : xmts[k]? = some q) (hi : xat k pc = some (.baload, 1)) (ha : hp[a]? = some (.inl (1, n, .inl f))) (hj : xin j n = true) (hx : X d k (pc + 1, lv, .int (f j.toNatClampNeg) :: st, hp, ks) r) : X d k (pc, lv, .int j :: .ref a :: st, hp, ks) r := by
  refine X.one ?_ hx
  simp only [xst, hq, hi, xs, xs1, xs6, ha, hj, if_true]
theorem X.icmp {cd : ClassFile.Cond} {off : Int} {x y : Int32} {t : Nat} (hq : xmts[k]? = some q) (hi : xat k pc = some (.if_icmp cd off, 3)) (hj : xj pc off = some t) (hT : xcmp cd x y = true → X d k (t, lv, st, hp, ks) r) (hF : xcmp cd x y = false → X d k (pc + 3, lv, st, hp, ks) r) : X d k (pc, lv, .int y :: .int x :: st, hp, ks) r := by
  cases hc : xcmp cd x y with
  | true =>
    refine X.one ?_ (hT hc)
    simp only [xst, hq, hi, xs, xs1, xs6, xs5, hj, hc, if_true, Option.map_some, show ¬ ((3 : Nat) = 1) by decide, if_false]
  | false =>
    refine X.one ?_ (hF hc)
    simp only [xst, hq, hi, xs, xs1, xs6, xs5, hj, hc, if_true, Option.map_some, show ¬ ((3 : Nat) = 1) by decide, if_false, Bool.false_eq_true]
theorem X.ifc {cd : ClassFile.Cond} {off : Int} {x : Int32} {t : Nat} (hq : xmts[k]? = some q) (hi : xat k pc = some (.ifCond cd off, 3)) (hj : xj pc off = some t) (hT : xcmp cd x 0 = true → X d k (t, lv, st, hp, ks) r) (hF : xcmp cd x 0 = false → X d k (pc + 3, lv, st, hp, ks) r) : X d k (pc, lv, .int x :: st, hp, ks) r := by
  cases hc : xcmp cd x 0 with
  | true =>
    refine X.one ?_ (hT hc)
    simp only [xst, hq, hi, xs, xs1, xs6, xs5, hj, hc, if_true, Option.map_some, show ¬ ((3 : Nat) = 1) by decide, if_false]
  | false =>
    refine X.one ?_ (hF hc)
    simp only [xst, hq, hi, xs, xs1, xs6, xs5, hj, hc, if_true, Option.map_some, show ¬ ((3 : Nat) = 1) by decide, if_false, Bool.false_eq_true]
theorem X.lal {j : Int32} {a n : Nat} {f : Nat → Int64} (hq : xmts[k]? = some q) (hi : xat k pc = some (.laload, 1)) (ha : hp[a]? = some (.inl (2, n, .inr (.inl f)))) (hj : xin j n = true) (hx : X d k (pc + 1, lv, .long (f j.toNatClampNeg) :: st, hp, ks) r) : X d k (pc, lv, .int j :: .ref a :: st, hp, ks) r := by
  refine X.one ?_ hx
  simp only [xst, hq, hi, xs, xs1, xs6, ha, hj, if_true]
theorem X.aal {j : Int32} {a n t : Nat} {f : Nat → Option Nat} (hq : xmts[k]? = some q) (hi : xat k pc = some (.aaload, 1)) (ha : hp[a]? = some (.inl (t + 3, n, .inr (.inr (.inr (.inr f)))))) (hj : xin j n = true) (ht : t < xovs.length) (hx : X d k (pc + 1, lv, va_rf (f j.toNatClampNeg) :: st, hp, ks) r) : X d k (pc, lv, .int j :: .ref a :: st, hp, ks) r := by
  refine X.one ?_ hx
  simp only [xst, hq, hi, xs, xs1, xs6, ha, hj, ht, and_self, if_true]
theorem X.len {a n t : Nat} {z : (Nat → Int32) ⊕ (Nat → Int64) ⊕ (Nat → UInt32) ⊕ (Nat → UInt64) ⊕ (Nat → Option Nat)} (hq : xmts[k]? = some q) (hi : xat k pc = some (.arraylength, 1)) (ha : hp[a]? = some (.inl (t, n, z))) (ht : t < 3 + xovs.length) (hx : X d k (pc + 1, lv, .int (Int32.ofNat n) :: st, hp, ks) r) : X d k (pc, lv, .ref a :: st, hp, ks) r := by
  refine X.one ?_ hx
  simp only [xst, hq, hi, xs, xs1, xs6, ha, ht, if_true]
theorem X.pf {ix ci j a : Nat} {fs : List Value} {v : Value} {z : vw_C} {ty : Nat → FieldType} (hq : xmts[k]? = some q) (hi : xat k pc = some (.putfield ix, 3)) (hl : xlk xfls q.1 ix = some (ci, j)) (hz : xcl[ci]? = some z) (hty : xtys[ci]? = some ty) (hf : (z.2.1 j).2.2.2 = false ∨ decide (q.2.1.name = "<init>") = true ∧ some (z.2.1 j).1 = xowns[q.1]?) (ha : hp[a + 1]? = some (.inr (ci, fs))) (hj : j < fs.length) (hv : xfit (ty j) v = true)
    (hx : X d k (pc + 3, lv, st, hp.set (a + 1) (.inr (ci, fs.set j v)), ks) r) : X d k (pc, lv, v :: .ref (a + 1) :: st, hp, ks) r := by
  refine X.one ?_ hx
  have h7 : xs7 q.1 (decide (q.2.1.name = "<init>")) (.putfield ix) 3 (v :: .ref (a + 1) :: st) hp = some (st, hp.set (a + 1) (.inr (ci, fs.set j v))) := by
    simp only [xs7, hl, ha, hz, hty, if_true]
    rw [if_pos ⟨trivial, hj, hv, hf⟩]
  simp only [xst, hq, hi, xs, xs1, xs6, xs5, xs4, h7, show ¬ ((3 : Nat) = 1) by decide, if_false]
theorem X.ias {x j : Int32} {a n : Nat} {f : Nat → Int32} (hq : xmts[k]? = some q) (hi : xat k pc = some (.iastore, 1)) (ha : hp[a + 1]? = some (.inl (0, n, .inl f))) (hj : xin j n = true) (hx : X d k (pc + 1, lv, st, hp.set (a + 1) (.inl (0, n, .inl (upd f j.toNatClampNeg x))), ks) r) : X d k (pc, lv, .int x :: .int j :: .ref (a + 1) :: st, hp, ks) r := by
  refine X.one ?_ hx
  simp only [xst, hq, hi, xs, xs1, xs6, xs3, xs2, xs5, xs4, xs7, ha, hj, if_true, Option.map_none]
theorem X.bas {x j : Int32} {a n : Nat} {f : Nat → Int32} (hq : xmts[k]? = some q) (hi : xat k pc = some (.bastore, 1)) (ha : hp[a + 1]? = some (.inl (1, n, .inl f))) (hj : xin j n = true) (hx : X d k (pc + 1, lv, st, hp.set (a + 1) (.inl (1, n, .inl (upd f j.toNatClampNeg (vp_nar .boolean x)))), ks) r) : X d k (pc, lv, .int x :: .int j :: .ref (a + 1) :: st, hp, ks) r := by
  refine X.one ?_ hx
  simp only [xst, hq, hi, xs, xs1, xs6, xs3, xs2, xs5, xs4, xs7, ha, hj, if_true, Option.map_none]
theorem X.las {x : Int64} {j : Int32} {a n : Nat} {f : Nat → Int64} (hq : xmts[k]? = some q) (hi : xat k pc = some (.lastore, 1)) (ha : hp[a + 1]? = some (.inl (2, n, .inr (.inl f)))) (hj : xin j n = true) (hx : X d k (pc + 1, lv, st, hp.set (a + 1) (.inl (2, n, .inr (.inl (vp_updL f j.toNatClampNeg x)))), ks) r) : X d k (pc, lv, .long x :: .int j :: .ref (a + 1) :: st, hp, ks) r := by
  refine X.one ?_ hx
  simp only [xst, hq, hi, xs, xs1, xs6, xs3, xs5, xs4, xs7, ha, hj, if_true]
theorem X.aas {v a n t ci : Nat} {j : Int32} {f : Nat → Option Nat} {fs : List Value} (hq : xmts[k]? = some q) (hi : xat k pc = some (.aastore, 1)) (ha : hp[a + 1]? = some (.inl (t + 3, n, .inr (.inr (.inr (.inr f)))))) (hv : hp[v]? = some (.inr (ci, fs))) (hj : xin j n = true) (ht : xovc[t]? = some ci) (hx : X d k (pc + 1, lv, st, hp.set (a + 1) (.inl (t + 3, n, .inr (.inr (.inr (.inr (va_up f j.toNatClampNeg (some v))))))), ks) r) : X d k (pc, lv, .ref v :: .int j :: .ref (a + 1) :: st, hp, ks) r := by
  refine X.one ?_ hx
  simp only [xst, hq, hi, xs, xs1, xs6, xs3, xs5, xs4, xs7, ha, hv, hj, ht, and_self, if_true]
variable {k' : Nat} {q' : xMt} {v : Option Value} {hp1 : List xC} {ks1 : Nat}
/-- a virtual call -/
theorem X.inv {ix a : Nat} {fs as rest : List Value} (hq : xmts[k]? = some q) (hi : xat k pc = some (.invokevirtual ix, 3)) (hl : xlk xivs q.1 ix = some (0, k')) (hq' : xmts[k']? = some q') (htk : xtk (q'.2.2.2.2.2 - 1) st = some (as, .ref a :: rest)) (ha : hp[a]? = some (.inr (q'.1, fs))) (hk : Nat.ble 170 k' = false) (hci : Nat.ble q'.1 11 = true) (hr : Nat.ble (xcat rest) 8 = true) (hw : Nat.ble (xcat (.ref a :: as)) q'.2.2.2.1 = true)
    (h1 : X d k' (0, lv_args 0 (.ref a :: as), [], hp, ks) (.inl v, hp1, ks1)) (h2 : X (d + 1) k (pc + 3, lv, v.toList ++ rest, hp1, ks1) r) : X (d + 1) k (pc, lv, st, hp, ks) r := by
  have hk' : ¬ (k' = 170 ∨ k' = 171) := fun z => by
    have : 170 ≤ k' := by omega
    rw [Nat.ble_eq_true_of_le this] at hk
    cases hk
  have hc : xcall q.1 (.invokevirtual ix) 3 st hp = some (k', .ref a :: as, rest) := by
    simp only [xcall, hl, hq', htk, ha]
    rw [if_pos ⟨trivial, Or.inl trivial, hk', trivial, Nat.lt_succ_of_le (Nat.le_of_ble_eq_true hci), Nat.le_of_ble_eq_true hr⟩]
  refine X.call (g := (pc, lv, st, hp, ks)) (q := q) ⟨hq, hi, ?_, ?_⟩ ?_ hc hq' (Nat.le_of_ble_eq_true hw) h1 h2
  · simp only [xs, xs1, xs6, xs5, xs4, xs7, xs8, show ¬ ((3 : Nat) = 1) by decide, if_false]
  · simp only [xs9]
  · simp only [xret]
/-- a static call -/
theorem X.ins {ix : Nat} {as rest : List Value} (hq : xmts[k]? = some q) (hi : xat k pc = some (.invokestatic ix, 3)) (hl : xlk xivs q.1 ix = some (1, k')) (hq' : xmts[k']? = some q') (htk : xtk q'.2.2.2.2.2 st = some (as, rest)) (hk : Nat.ble 170 k' = false) (hr : Nat.ble (xcat rest) 8 = true) (hw : Nat.ble (xcat as) q'.2.2.2.1 = true) (h9 : xs9 q.1 (.invokestatic ix) 3 st hp = none)
    (h1 : X d k' (0, lv_args 0 as, [], hp, ks) (.inl v, hp1, ks1)) (h2 : X (d + 1) k (pc + 3, lv, v.toList ++ rest, hp1, ks1) r) : X (d + 1) k (pc, lv, st, hp, ks) r := by
  have hk' : ¬ (k' = 170 ∨ k' = 171) := fun z => by
    have : 170 ≤ k' := by omega
    rw [Nat.ble_eq_true_of_le this] at hk
    cases hk
  have hc : xcall q.1 (.invokestatic ix) 3 st hp = some (k', as, rest) := by
    simp only [xcall, hl, hq', htk]
    rw [if_pos ⟨trivial, Or.inl trivial, hk', Nat.le_of_ble_eq_true hr⟩]
  refine X.call (g := (pc, lv, st, hp, ks)) (q := q) ⟨hq, hi, ?_, h9⟩ ?_ hc hq' (Nat.le_of_ble_eq_true hw) h1 h2
  · simp only [xs, xs1, xs6, xs5, xs4, xs7, xs8, show ¬ ((3 : Nat) = 1) by decide, if_false]
  · simp only [xret]
/-- a new object -/
theorem X.nw {ix ci : Nat} {z : vw_C} {ty : Nat → FieldType} (hq : xmts[k]? = some q) (hi : xat k pc = some (.new ix, 3)) (hl : xlk xnws q.1 ix = some ci) (hz : xcl[ci]? = some z) (hty : xtys[ci]? = some ty)
    (hx : X d k (pc + 3, lv, .ref hp.length :: st, hp ++ [.inr (ci, (List.range z.2.2).map fun j => defaultValue (ty j))], ks + z.2.2) r) : X d k (pc, lv, st, hp, ks) r := by
  refine X.one ?_ hx
  simp only [xst, hq, hi, xs, xs1, xs6, xs5, xs4, xs7, xs8, hl, hz, hty, show ¬ ((3 : Nat) = 1) by decide, if_true, if_false]
/-- a new row of ints, booleans, longs; of references -/
theorem X.nai {n : Int32} (hq : xmts[k]? = some q) (hi : xat k pc = some (.newarray .int, 2)) (hn : ¬ n < 0) (hb : n.toNatClampNeg ≤ 1000000) (hx : X d k (pc + 2, lv, .ref hp.length :: st, hp ++ [.inl (0, n.toNatClampNeg, .inl fun _ => 0)], ks + n.toNatClampNeg) r) : X d k (pc, lv, .int n :: st, hp, ks) r := by
  refine X.one ?_ hx
  simp only [xst, hq, hi, xs, xs1, xs6, xs5, xs4, xs7, xs8, show ¬ ((2 : Nat) = 1) by decide, if_false]
  rw [if_pos ⟨trivial, hn, hb⟩]
theorem X.nab {n : Int32} (hq : xmts[k]? = some q) (hi : xat k pc = some (.newarray .boolean, 2)) (hn : ¬ n < 0) (hb : n.toNatClampNeg ≤ 1000000) (hx : X d k (pc + 2, lv, .ref hp.length :: st, hp ++ [.inl (1, n.toNatClampNeg, .inl fun _ => 0)], ks + n.toNatClampNeg) r) : X d k (pc, lv, .int n :: st, hp, ks) r := by
  refine X.one ?_ hx
  simp only [xst, hq, hi, xs, xs1, xs6, xs5, xs4, xs7, xs8, show ¬ ((2 : Nat) = 1) by decide, if_false]
  rw [if_pos ⟨trivial, hn, hb⟩]
theorem X.nal {n : Int32} (hq : xmts[k]? = some q) (hi : xat k pc = some (.newarray .long, 2)) (hn : ¬ n < 0) (hb : n.toNatClampNeg ≤ 1000000) (hx : X d k (pc + 2, lv, .ref hp.length :: st, hp ++ [.inl (2, n.toNatClampNeg, .inr (.inl fun _ => 0))], ks + n.toNatClampNeg) r) : X d k (pc, lv, .int n :: st, hp, ks) r := by
  refine X.one ?_ hx
  simp only [xst, hq, hi, xs, xs1, xs6, xs5, xs4, xs7, xs8, show ¬ ((2 : Nat) = 1) by decide, if_false]
  rw [if_pos ⟨trivial, hn, hb⟩]
theorem X.nar {n : Int32} {ix t : Nat} (hq : xmts[k]? = some q) (hi : xat k pc = some (.anewarray ix, 3)) (hl : xlk xans q.1 ix = some (t + 3)) (ht : t < xovs.length) (hn : ¬ n < 0) (hb : n.toNatClampNeg ≤ 1000000) (hx : X d k (pc + 3, lv, .ref hp.length :: st, hp ++ [.inl (t + 3, n.toNatClampNeg, .inr (.inr (.inr (.inr fun _ => none))))], ks + n.toNatClampNeg) r) : X d k (pc, lv, .int n :: st, hp, ks) r := by
  refine X.one ?_ hx
  simp only [xst, hq, hi, xs, xs1, xs6, xs5, xs4, xs7, xs8, hl, show ¬ ((3 : Nat) = 1) by decide, if_false]
  rw [if_pos ⟨trivial, hn, hb⟩]
  simp only [ht, if_true]
/-- a constructor is called; of one's own (2), of a nest mate's (5) -/
theorem X.ini {ix a kd : Nat} {as rest : List Value} (hq : xmts[k]? = some q) (hi : xat k pc = some (.invokespecial ix, 3)) (hl : xlk xivs q.1 ix = some (kd, k')) (hkd : kd = 2 ∨ kd = 5) (hq' : xmts[k']? = some q') (htk : xtk (q'.2.2.2.2.2 - 1) st = some (as, .ref a :: rest)) (hk : Nat.ble 170 k' = false) (hr : Nat.ble (xcat rest) 8 = true) (hw : Nat.ble (xcat (.ref a :: as)) q'.2.2.2.1 = true) (h9 : xs9 q.1 (.invokespecial ix) 3 st hp = none)
    (h1 : X d k' (0, lv_args 0 (.ref a :: as), [], hp, ks) (.inl v, hp1, ks1)) (h2 : X (d + 1) k (pc + 3, lv, v.toList ++ rest, hp1, ks1) r) : X (d + 1) k (pc, lv, st, hp, ks) r := by
  have hk' : ¬ (k' = 170 ∨ k' = 171) := fun z => by
    have : 170 ≤ k' := by omega
    rw [Nat.ble_eq_true_of_le this] at hk
    cases hk
  have hc : xcall q.1 (.invokespecial ix) 3 st hp = some (k', .ref a :: as, rest) := by
    simp only [xcall, hl, hq', htk]
    rw [if_pos ⟨trivial, hkd, hk', Nat.le_of_ble_eq_true hr⟩]
  refine X.call (g := (pc, lv, st, hp, ks)) (q := q) ⟨hq, hi, ?_, h9⟩ ?_ hc hq' (Nat.le_of_ble_eq_true hw) h1 h2
  · simp only [xs, xs1, xs6, xs5, xs4, xs7, xs8, show ¬ ((3 : Nat) = 1) by decide, if_false]
  · simp only [xret]
/-- a field of the cell that was written last -/
theorem X.pfs {ix ci j a : Nat} {fs : List Value} {v : Value} {z : vw_C} {ty : Nat → FieldType} (hq : xmts[k]? = some q) (hi : xat k pc = some (.putfield ix, 3)) (hl : xlk xfls q.1 ix = some (ci, j)) (hz : xcl[ci]? = some z) (hty : xtys[ci]? = some ty) (hf : (z.2.1 j).2.2.2 = false ∨ decide (q.2.1.name = "<init>") = true ∧ some (z.2.1 j).1 = xowns[q.1]?) (ha : a + 1 < hp.length) (hj : j < fs.length) (hv : xfit (ty j) v = true)
    (hx : X d k (pc + 3, lv, st, hp.set (a + 1) (.inr (ci, fs.set j v)), ks) r) : X d k (pc, lv, v :: .ref (a + 1) :: st, hp.set (a + 1) (.inr (ci, fs)), ks) r := by
  refine X.pf hq hi hl hz hty hf (List.getElem?_set_self ha) hj hv ?_
  rw [List.set_set]
  exact hx
end XGG
