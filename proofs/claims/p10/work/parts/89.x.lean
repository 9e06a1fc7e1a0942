/-! the reference's constructor: its rows -/
section RX
variable {d k pc ks a : Nat} {q : xMt} {lv : xL} {st : List Value} {hp0 rows : List xC} {fs : List Value} {r : xO × List xC × Nat}
theorem X.pf11 {ix j : Nat} {v : Value} {z : vw_C} {ty : Nat → FieldType} (hq : xmts[k]? = some q) (hi : xat k pc = some (.putfield ix, 3)) (hl : xlk xfls q.1 ix = some (11, j)) (hz : xcl[11]? = some z) (hty : xtys[11]? = some ty) (hft : Nat.ble (j + 1) (jfn 11) = true) (hfin : (jfin 11 j && !(xinis.contains k && Nat.beq q.1 11)) = false) (ha : hp0.length = a + 1) (hj : fs.length = 66) (hv : xfit (ty j) v = true)
    (hx : ∀ fs', fs' = fs.set j v → fs'.length = 66 → X d k (pc + 3, lv, st, hp0 ++ .inr (11, fs') :: rows, ks) r) : X d k (pc, lv, v :: .ref (a + 1) :: st, hp0 ++ .inr (11, fs) :: rows, ks) r := by
  have hfin' : (z.2.1 j).2.2.2 = false ∨ decide (q.2.1.name = "<init>") = true ∧ some (z.2.1 j).1 = xowns[q.1]? := by
    unfold jfin at hfin
    rw [hz] at hfin
    dsimp only at hfin
    cases hff : (z.2.1 j).2.2.2 with
    | false => exact Or.inl rfl
    | true =>
      rw [hff] at hfin
      simp only [Bool.true_and, Bool.not_eq_false', Bool.and_eq_true] at hfin
      have hoc : q.1 = 11 := Nat.eq_of_beq_eq_true hfin.2
      refine Or.inr ⟨by rw [← xinis_ok hq]; exact hfin.1, ?_⟩
      rw [hoc]
      exact jown_ok hz (by decide) (Nat.le_of_ble_eq_true hft)
  refine X.pf hq hi hl hz hty hfin' (fs := fs) ?_ (by rw [hj]; exact Nat.le_of_ble_eq_true hft) hv ?_
  · rw [List.getElem?_append_right (by omega), ha, Nat.sub_self]
    rfl
  · rw [List.set_append_right _ _ (by omega), ha, Nat.sub_self]
    exact hx _ rfl (by rw [List.length_set]; exact hj)
theorem X.row0 {ix j m : Nat} {n : Int32} {z : vw_C} {ty : Nat → FieldType} (hq : xmts[k]? = some q) (hi : xat k pc = some (.newarray .int, 2)) (hi2 : xat k (pc + 2) = some (.putfield ix, 3)) (hl : xlk xfls q.1 ix = some (11, j)) (hz : xcl[11]? = some z) (hty : xtys[11]? = some ty) (hft : Nat.ble (j + 1) (jfn 11) = true) (hfin : (jfin 11 j && !(xinis.contains k && Nat.beq q.1 11)) = false) (ha : hp0.length = a + 1) (hj : fs.length = 66) (hm : rows.length = m) (hv : xfit (ty j) (.ref (a + 2 + m)) = true) (hn : ¬ n < 0) (hb : n.toNatClampNeg ≤ 1000000)
    (hx : ∀ fs' rows', fs' = fs.set j (.ref (a + 2 + m)) → fs'.length = 66 → rows' = rows ++ [.inl (0, n.toNatClampNeg, .inl fun _ => 0)] → rows'.length = m + 1 → X d k (pc + 5, lv, st, hp0 ++ .inr (11, fs') :: rows', ks + n.toNatClampNeg) r) : X d k (pc, lv, .int n :: .ref (a + 1) :: st, hp0 ++ .inr (11, fs) :: rows, ks) r := by
  refine X.nai hq hi hn hb ?_
  have e : (hp0 ++ .inr (11, fs) :: rows).length = a + 2 + m := by
    rw [List.length_append, List.length_cons, ha]
    omega
  rw [e, List.append_assoc, List.cons_append]
  exact X.pf11 hq hi2 hl hz hty hft hfin ha hj hv fun fs' e1 e2 => hx fs' _ e1 e2 rfl (by rw [List.length_append, hm]; rfl)
theorem X.row1 {ix j m : Nat} {n : Int32} {z : vw_C} {ty : Nat → FieldType} (hq : xmts[k]? = some q) (hi : xat k pc = some (.newarray .boolean, 2)) (hi2 : xat k (pc + 2) = some (.putfield ix, 3)) (hl : xlk xfls q.1 ix = some (11, j)) (hz : xcl[11]? = some z) (hty : xtys[11]? = some ty) (hft : Nat.ble (j + 1) (jfn 11) = true) (hfin : (jfin 11 j && !(xinis.contains k && Nat.beq q.1 11)) = false) (ha : hp0.length = a + 1) (hj : fs.length = 66) (hm : rows.length = m) (hv : xfit (ty j) (.ref (a + 2 + m)) = true) (hn : ¬ n < 0) (hb : n.toNatClampNeg ≤ 1000000)
    (hx : ∀ fs' rows', fs' = fs.set j (.ref (a + 2 + m)) → fs'.length = 66 → rows' = rows ++ [.inl (1, n.toNatClampNeg, .inl fun _ => 0)] → rows'.length = m + 1 → X d k (pc + 5, lv, st, hp0 ++ .inr (11, fs') :: rows', ks + n.toNatClampNeg) r) : X d k (pc, lv, .int n :: .ref (a + 1) :: st, hp0 ++ .inr (11, fs) :: rows, ks) r := by
  refine X.nab hq hi hn hb ?_
  have e : (hp0 ++ .inr (11, fs) :: rows).length = a + 2 + m := by
    rw [List.length_append, List.length_cons, ha]
    omega
  rw [e, List.append_assoc, List.cons_append]
  exact X.pf11 hq hi2 hl hz hty hft hfin ha hj hv fun fs' e1 e2 => hx fs' _ e1 e2 rfl (by rw [List.length_append, hm]; rfl)
/-- the rows, in their order: field, sort, length -/
def rT : List (Nat × Nat × Nat) := [(0, 0, 1500), (1, 0, 1500), (2, 0, 1500), (3, 0, 1500), (5, 0, 300), (6, 0, 300), (7, 0, 300), (8, 0, 300), (9, 0, 3600), (10, 0, 4800), (11, 0, 300), (13, 0, 6000), (14, 0, 6000), (15, 0, 6000), (16, 0, 6000), (17, 0, 6000), (18, 0, 6000), (20, 0, 96000), (21, 0, 16), (22, 0, 16), (23, 0, 16), (24, 0, 16), (25, 0, 16), (26, 0, 16), (27, 0, 16), (28, 0, 16), (29, 1, 16), (30, 1, 16), (31, 1, 16), (32, 0, 16), (33, 0, 16), (34, 0, 16), (35, 0, 2048), (36, 0, 2048), (37, 0, 2048), (38, 0, 2048), (39, 0, 2048), (40, 0, 2048), (41, 0, 2048), (42, 0, 2048), (43, 0, 2048), (44, 0, 2048), (49, 0, 200), (50, 0, 3200), (51, 0, 16), (52, 0, 33), (53, 0, 33), (54, 0, 33), (55, 1, 16), (58, 0, 300), (59, 0, 6000), (60, 0, 256), (61, 0, 16), (62, 0, 96000), (63, 0, 16), (64, 1, 96000), (65, 1, 16)]
def rRows : List xC := rT.map fun z => .inl (z.2.1, z.2.2, .inl fun _ => 0)
def rF0 : List Value := [.null, .null, .null, .null, .int 0, .null, .null, .null, .null, .null, .null, .null, .int 0, .null, .null, .null, .null, .null, .null, .int 0, .null, .null, .null, .null, .null, .null, .null, .null, .null, .null, .null, .null, .null, .null, .null, .null, .null, .null, .null, .null, .null, .null, .null, .null, .null, .int 0, .int 0, .int 0, .int 0, .null, .null, .null, .null, .null, .null, .null, .int 0, .int 0, .null, .null, .null, .null, .null, .null, .null, .null]
def rF1 (a : Nat) : List Value := [.ref (a + 2), .ref (a + 3), .ref (a + 4), .ref (a + 5), .int 0, .ref (a + 6), .ref (a + 7), .ref (a + 8), .ref (a + 9), .null, .null, .null, .int 0, .null, .null, .null, .null, .null, .null, .int 0, .null, .null, .null, .null, .null, .null, .null, .null, .null, .null, .null, .null, .null, .null, .null, .null, .null, .null, .null, .null, .null, .null, .null, .null, .null, .int 0, .int 0, .int 0, .int 0, .null, .null, .null, .null, .null, .null, .null, .int 0, .int 0, .null, .null, .null, .null, .null, .null, .null, .null]
def rF2 (a : Nat) : List Value := [.ref (a + 2), .ref (a + 3), .ref (a + 4), .ref (a + 5), .int 0, .ref (a + 6), .ref (a + 7), .ref (a + 8), .ref (a + 9), .ref (a + 10), .ref (a + 11), .ref (a + 12), .int 0, .ref (a + 13), .ref (a + 14), .ref (a + 15), .ref (a + 16), .ref (a + 17), .null, .int 0, .null, .null, .null, .null, .null, .null, .null, .null, .null, .null, .null, .null, .null, .null, .null, .null, .null, .null, .null, .null, .null, .null, .null, .null, .null, .int 0, .int 0, .int 0, .int 0, .null, .null, .null, .null, .null, .null, .null, .int 0, .int 0, .null, .null, .null, .null, .null, .null, .null, .null]
def rF3 (a : Nat) : List Value := [.ref (a + 2), .ref (a + 3), .ref (a + 4), .ref (a + 5), .int 0, .ref (a + 6), .ref (a + 7), .ref (a + 8), .ref (a + 9), .ref (a + 10), .ref (a + 11), .ref (a + 12), .int 0, .ref (a + 13), .ref (a + 14), .ref (a + 15), .ref (a + 16), .ref (a + 17), .ref (a + 18), .int 0, .ref (a + 19), .ref (a + 20), .ref (a + 21), .ref (a + 22), .ref (a + 23), .ref (a + 24), .ref (a + 25), .null, .null, .null, .null, .null, .null, .null, .null, .null, .null, .null, .null, .null, .null, .null, .null, .null, .null, .int 0, .int 0, .int 0, .int 0, .null, .null, .null, .null, .null, .null, .null, .int 0, .int 0, .null, .null, .null, .null, .null, .null, .null, .null]
def rF4 (a : Nat) : List Value := [.ref (a + 2), .ref (a + 3), .ref (a + 4), .ref (a + 5), .int 0, .ref (a + 6), .ref (a + 7), .ref (a + 8), .ref (a + 9), .ref (a + 10), .ref (a + 11), .ref (a + 12), .int 0, .ref (a + 13), .ref (a + 14), .ref (a + 15), .ref (a + 16), .ref (a + 17), .ref (a + 18), .int 0, .ref (a + 19), .ref (a + 20), .ref (a + 21), .ref (a + 22), .ref (a + 23), .ref (a + 24), .ref (a + 25), .ref (a + 26), .ref (a + 27), .ref (a + 28), .ref (a + 29), .ref (a + 30), .ref (a + 31), .ref (a + 32), .ref (a + 33), .null, .null, .null, .null, .null, .null, .null, .null, .null, .null, .int 0, .int 0, .int 0, .int 0, .null, .null, .null, .null, .null, .null, .null, .int 0, .int 0, .null, .null, .null, .null, .null, .null, .null, .null]
def rF5 (a : Nat) : List Value := [.ref (a + 2), .ref (a + 3), .ref (a + 4), .ref (a + 5), .int 0, .ref (a + 6), .ref (a + 7), .ref (a + 8), .ref (a + 9), .ref (a + 10), .ref (a + 11), .ref (a + 12), .int 0, .ref (a + 13), .ref (a + 14), .ref (a + 15), .ref (a + 16), .ref (a + 17), .ref (a + 18), .int 0, .ref (a + 19), .ref (a + 20), .ref (a + 21), .ref (a + 22), .ref (a + 23), .ref (a + 24), .ref (a + 25), .ref (a + 26), .ref (a + 27), .ref (a + 28), .ref (a + 29), .ref (a + 30), .ref (a + 31), .ref (a + 32), .ref (a + 33), .ref (a + 34), .ref (a + 35), .ref (a + 36), .ref (a + 37), .ref (a + 38), .ref (a + 39), .ref (a + 40), .ref (a + 41), .null, .null, .int 0, .int 0, .int 0, .int 0, .null, .null, .null, .null, .null, .null, .null, .int 0, .int 0, .null, .null, .null, .null, .null, .null, .null, .null]
def rF6 (a : Nat) : List Value := [.ref (a + 2), .ref (a + 3), .ref (a + 4), .ref (a + 5), .int 0, .ref (a + 6), .ref (a + 7), .ref (a + 8), .ref (a + 9), .ref (a + 10), .ref (a + 11), .ref (a + 12), .int 0, .ref (a + 13), .ref (a + 14), .ref (a + 15), .ref (a + 16), .ref (a + 17), .ref (a + 18), .int 0, .ref (a + 19), .ref (a + 20), .ref (a + 21), .ref (a + 22), .ref (a + 23), .ref (a + 24), .ref (a + 25), .ref (a + 26), .ref (a + 27), .ref (a + 28), .ref (a + 29), .ref (a + 30), .ref (a + 31), .ref (a + 32), .ref (a + 33), .ref (a + 34), .ref (a + 35), .ref (a + 36), .ref (a + 37), .ref (a + 38), .ref (a + 39), .ref (a + 40), .ref (a + 41), .ref (a + 42), .ref (a + 43), .int 0, .int 0, .int 0, .int (-1), .ref (a + 44), .ref (a + 45), .ref (a + 46), .ref (a + 47), .ref (a + 48), .null, .null, .int 0, .int 0, .null, .null, .null, .null, .null, .null, .null, .null]
def rF7 (a : Nat) : List Value := [.ref (a + 2), .ref (a + 3), .ref (a + 4), .ref (a + 5), .int 0, .ref (a + 6), .ref (a + 7), .ref (a + 8), .ref (a + 9), .ref (a + 10), .ref (a + 11), .ref (a + 12), .int 0, .ref (a + 13), .ref (a + 14), .ref (a + 15), .ref (a + 16), .ref (a + 17), .ref (a + 18), .int 0, .ref (a + 19), .ref (a + 20), .ref (a + 21), .ref (a + 22), .ref (a + 23), .ref (a + 24), .ref (a + 25), .ref (a + 26), .ref (a + 27), .ref (a + 28), .ref (a + 29), .ref (a + 30), .ref (a + 31), .ref (a + 32), .ref (a + 33), .ref (a + 34), .ref (a + 35), .ref (a + 36), .ref (a + 37), .ref (a + 38), .ref (a + 39), .ref (a + 40), .ref (a + 41), .ref (a + 42), .ref (a + 43), .int 0, .int 0, .int 0, .int (-1), .ref (a + 44), .ref (a + 45), .ref (a + 46), .ref (a + 47), .ref (a + 48), .ref (a + 49), .ref (a + 50), .int 0, .int 0, .ref (a + 51), .ref (a + 52), .ref (a + 53), .ref (a + 54), .ref (a + 55), .ref (a + 56), .null, .null]
def rF8 (a : Nat) : List Value := [.ref (a + 2), .ref (a + 3), .ref (a + 4), .ref (a + 5), .int 0, .ref (a + 6), .ref (a + 7), .ref (a + 8), .ref (a + 9), .ref (a + 10), .ref (a + 11), .ref (a + 12), .int 0, .ref (a + 13), .ref (a + 14), .ref (a + 15), .ref (a + 16), .ref (a + 17), .ref (a + 18), .int 0, .ref (a + 19), .ref (a + 20), .ref (a + 21), .ref (a + 22), .ref (a + 23), .ref (a + 24), .ref (a + 25), .ref (a + 26), .ref (a + 27), .ref (a + 28), .ref (a + 29), .ref (a + 30), .ref (a + 31), .ref (a + 32), .ref (a + 33), .ref (a + 34), .ref (a + 35), .ref (a + 36), .ref (a + 37), .ref (a + 38), .ref (a + 39), .ref (a + 40), .ref (a + 41), .ref (a + 42), .ref (a + 43), .int 0, .int 0, .int 0, .int (-1), .ref (a + 44), .ref (a + 45), .ref (a + 46), .ref (a + 47), .ref (a + 48), .ref (a + 49), .ref (a + 50), .int 0, .int 0, .ref (a + 51), .ref (a + 52), .ref (a + 53), .ref (a + 54), .ref (a + 55), .ref (a + 56), .ref (a + 57), .ref (a + 58)]
set_option maxRecDepth 20000 in
theorem r_rows0 (ha : hp0.length = a + 1) (hx : X d 113 (76, [(0, .ref (a + 1))], [], hp0 ++ .inr (11, (rF1 a)) :: (rRows.take 8), ks + 7200) r) : X d 113 (4, [(0, .ref (a + 1))], [], hp0 ++ .inr (11, rF0) :: (rRows.take 0), ks + 0) r := by
  have l0 : rF0.length = 66 := rfl
  have m0 : (rRows.take 0).length = 0 := rfl
  refine X.run 2 rfl ?_
  refine X.row0 rfl rfl rfl rfl rfl rfl rfl rfl ha l0 m0 rfl (by decide) (by decide) fun f1 w1 e1 l1 x1 m1 => ?_   -- tKind
  replace m1 : w1.length = 1 := m1
  refine X.run 2 rfl ?_
  refine X.row0 rfl rfl rfl rfl rfl rfl rfl rfl ha l1 m1 rfl (by decide) (by decide) fun f2 w2 e2 l2 x2 m2 => ?_   -- tA
  replace m2 : w2.length = 2 := m2
  refine X.run 2 rfl ?_
  refine X.row0 rfl rfl rfl rfl rfl rfl rfl rfl ha l2 m2 rfl (by decide) (by decide) fun f3 w3 e3 l3 x3 m3 => ?_   -- tB
  replace m3 : w3.length = 3 := m3
  refine X.run 2 rfl ?_
  refine X.row0 rfl rfl rfl rfl rfl rfl rfl rfl ha l3 m3 rfl (by decide) (by decide) fun f4 w4 e4 l4 x4 m4 => ?_   -- tV
  replace m4 : w4.length = 4 := m4
  refine X.run 2 rfl ?_
  refine X.row0 rfl rfl rfl rfl rfl rfl rfl rfl ha l4 m4 rfl (by decide) (by decide) fun f5 w5 e5 l5 x5 m5 => ?_   -- bParent
  replace m5 : w5.length = 5 := m5
  refine X.run 2 rfl ?_
  refine X.row0 rfl rfl rfl rfl rfl rfl rfl rfl ha l5 m5 rfl (by decide) (by decide) fun f6 w6 e6 l6 x6 m6 => ?_   -- bHeight
  replace m6 : w6.length = 6 := m6
  refine X.run 2 rfl ?_
  refine X.row0 rfl rfl rfl rfl rfl rfl rfl rfl ha l6 m6 rfl (by decide) (by decide) fun f7 w7 e7 l7 x7 m7 => ?_   -- bProposer
  replace m7 : w7.length = 7 := m7
  refine X.run 2 rfl ?_
  refine X.row0 rfl rfl rfl rfl rfl rfl rfl rfl ha l7 m7 rfl (by decide) (by decide) fun f8 w8 e8 l8 x8 m8 => ?_   -- bMany
  replace m8 : w8.length = 8 := m8
  have hf : f8 = (rF1 a) := by
    rw [e8, e7, e6, e5, e4, e3, e2, e1]
    rfl
  have hw : w8 = (rRows.take 8) := by
    rw [x8, x7, x6, x5, x4, x3, x2, x1]
    rfl
  rw [hf, hw]
  exact hx
set_option maxRecDepth 20000 in
theorem r_rows1 (ha : hp0.length = a + 1) (hx : X d 113 (148, [(0, .ref (a + 1))], [], hp0 ++ .inr (11, (rF2 a)) :: (rRows.take 16), ks + 45900) r) : X d 113 (76, [(0, .ref (a + 1))], [], hp0 ++ .inr (11, (rF1 a)) :: (rRows.take 8), ks + 7200) r := by
  have l8 : (rF1 a).length = 66 := rfl
  have m8 : (rRows.take 8).length = 8 := rfl
  refine X.run 2 rfl ?_
  refine X.row0 rfl rfl rfl rfl rfl rfl rfl rfl ha l8 m8 rfl (by decide) (by decide) fun f9 w9 e9 l9 x9 m9 => ?_   -- bList
  replace m9 : w9.length = 9 := m9
  refine X.run 2 rfl ?_
  refine X.row0 rfl rfl rfl rfl rfl rfl rfl rfl ha l9 m9 rfl (by decide) (by decide) fun f10 w10 e10 l10 x10 m10 => ?_   -- bClaim
  replace m10 : w10.length = 10 := m10
  refine X.run 2 rfl ?_
  refine X.row0 rfl rfl rfl rfl rfl rfl rfl rfl ha l10 m10 rfl (by decide) (by decide) fun f11 w11 e11 l11 x11 m11 => ?_   -- bSound
  replace m11 : w11.length = 11 := m11
  refine X.run 2 rfl ?_
  refine X.row0 rfl rfl rfl rfl rfl rfl rfl rfl ha l11 m11 rfl (by decide) (by decide) fun f12 w12 e12 l12 x12 m12 => ?_   -- mKind
  replace m12 : w12.length = 12 := m12
  refine X.run 2 rfl ?_
  refine X.row0 rfl rfl rfl rfl rfl rfl rfl rfl ha l12 m12 rfl (by decide) (by decide) fun f13 w13 e13 l13 x13 m13 => ?_   -- mNode
  replace m13 : w13.length = 13 := m13
  refine X.run 2 rfl ?_
  refine X.row0 rfl rfl rfl rfl rfl rfl rfl rfl ha l13 m13 rfl (by decide) (by decide) fun f14 w14 e14 l14 x14 m14 => ?_   -- mHeight
  replace m14 : w14.length = 14 := m14
  refine X.run 2 rfl ?_
  refine X.row0 rfl rfl rfl rfl rfl rfl rfl rfl ha l14 m14 rfl (by decide) (by decide) fun f15 w15 e15 l15 x15 m15 => ?_   -- mRound
  replace m15 : w15.length = 15 := m15
  refine X.run 2 rfl ?_
  refine X.row0 rfl rfl rfl rfl rfl rfl rfl rfl ha l15 m15 rfl (by decide) (by decide) fun f16 w16 e16 l16 x16 m16 => ?_   -- mBlock
  replace m16 : w16.length = 16 := m16
  have hf : f16 = (rF2 a) := by
    rw [e16, e15, e14, e13, e12, e11, e10, e9]
    rfl
  have hw : w16 = (rRows.take 16) := by
    rw [x16, x15, x14, x13, x12, x11, x10, x9]
    rfl
  rw [hf, hw]
  exact hx
set_option maxRecDepth 20000 in
theorem r_rows2 (ha : hp0.length = a + 1) (hx : X d 113 (213, [(0, .ref (a + 1))], [], hp0 ++ .inr (11, (rF3 a)) :: (rRows.take 24), ks + 147996) r) : X d 113 (148, [(0, .ref (a + 1))], [], hp0 ++ .inr (11, (rF2 a)) :: (rRows.take 16), ks + 45900) r := by
  have l16 : (rF2 a).length = 66 := rfl
  have m16 : (rRows.take 16).length = 16 := rfl
  refine X.run 2 rfl ?_
  refine X.row0 rfl rfl rfl rfl rfl rfl rfl rfl ha l16 m16 rfl (by decide) (by decide) fun f17 w17 e17 l17 x17 m17 => ?_   -- mBefore
  replace m17 : w17.length = 17 := m17
  refine X.run 2 rfl ?_
  refine X.row0 rfl rfl rfl rfl rfl rfl rfl rfl ha l17 m17 rfl (by decide) (by decide) fun f18 w18 e18 l18 x18 m18 => ?_   -- knows
  replace m18 : w18.length = 18 := m18
  refine X.run 2 rfl ?_
  refine X.row0 rfl rfl rfl rfl rfl rfl rfl rfl ha l18 m18 rfl (by decide) (by decide) fun f19 w19 e19 l19 x19 m19 => ?_   -- known
  replace m19 : w19.length = 19 := m19
  refine X.run 2 rfl ?_
  refine X.row0 rfl rfl rfl rfl rfl rfl rfl rfl ha l19 m19 rfl (by decide) (by decide) fun f20 w20 e20 l20 x20 m20 => ?_   -- last
  replace m20 : w20.length = 20 := m20
  refine X.run 2 rfl ?_
  refine X.row0 rfl rfl rfl rfl rfl rfl rfl rfl ha l20 m20 rfl (by decide) (by decide) fun f21 w21 e21 l21 x21 m21 => ?_   -- round
  replace m21 : w21.length = 21 := m21
  refine X.run 2 rfl ?_
  refine X.row0 rfl rfl rfl rfl rfl rfl rfl rfl ha l21 m21 rfl (by decide) (by decide) fun f22 w22 e22 l22 x22 m22 => ?_   -- step
  replace m22 : w22.length = 22 := m22
  refine X.run 2 rfl ?_
  refine X.row0 rfl rfl rfl rfl rfl rfl rfl rfl ha l22 m22 rfl (by decide) (by decide) fun f23 w23 e23 l23 x23 m23 => ?_   -- lock
  replace m23 : w23.length = 23 := m23
  refine X.run 2 rfl ?_
  refine X.row0 rfl rfl rfl rfl rfl rfl rfl rfl ha l23 m23 rfl (by decide) (by decide) fun f24 w24 e24 l24 x24 m24 => ?_   -- lockRound
  replace m24 : w24.length = 24 := m24
  have hf : f24 = (rF3 a) := by
    rw [e24, e23, e22, e21, e20, e19, e18, e17]
    rfl
  have hw : w24 = (rRows.take 24) := by
    rw [x24, x23, x22, x21, x20, x19, x18, x17]
    rfl
  rw [hf, hw]
  exact hx
set_option maxRecDepth 20000 in
theorem r_rows3 (ha : hp0.length = a + 1) (hx : X d 113 (277, [(0, .ref (a + 1))], [], hp0 ++ .inr (11, (rF4 a)) :: (rRows.take 32), ks + 148124) r) : X d 113 (213, [(0, .ref (a + 1))], [], hp0 ++ .inr (11, (rF3 a)) :: (rRows.take 24), ks + 147996) r := by
  have l24 : (rF3 a).length = 66 := rfl
  have m24 : (rRows.take 24).length = 24 := rfl
  refine X.run 2 rfl ?_
  refine X.row0 rfl rfl rfl rfl rfl rfl rfl rfl ha l24 m24 rfl (by decide) (by decide) fun f25 w25 e25 l25 x25 m25 => ?_   -- candidate
  replace m25 : w25.length = 25 := m25
  refine X.run 2 rfl ?_
  refine X.row0 rfl rfl rfl rfl rfl rfl rfl rfl ha l25 m25 rfl (by decide) (by decide) fun f26 w26 e26 l26 x26 m26 => ?_   -- candidateRound
  replace m26 : w26.length = 26 := m26
  refine X.run 2 rfl ?_
  refine X.row1 rfl rfl rfl rfl rfl rfl rfl rfl ha l26 m26 rfl (by decide) (by decide) fun f27 w27 e27 l27 x27 m27 => ?_   -- isFaulty
  replace m27 : w27.length = 27 := m27
  refine X.run 2 rfl ?_
  refine X.row1 rfl rfl rfl rfl rfl rfl rfl rfl ha l27 m27 rfl (by decide) (by decide) fun f28 w28 e28 l28 x28 m28 => ?_   -- isDown
  replace m28 : w28.length = 28 := m28
  refine X.run 2 rfl ?_
  refine X.row1 rfl rfl rfl rfl rfl rfl rfl rfl ha l28 m28 rfl (by decide) (by decide) fun f29 w29 e29 l29 x29 m29 => ?_   -- isSeen
  replace m29 : w29.length = 29 := m29
  refine X.run 2 rfl ?_
  refine X.row0 rfl rfl rfl rfl rfl rfl rfl rfl ha l29 m29 rfl (by decide) (by decide) fun f30 w30 e30 l30 x30 m30 => ?_   -- fails
  replace m30 : w30.length = 30 := m30
  refine X.run 2 rfl ?_
  refine X.row0 rfl rfl rfl rfl rfl rfl rfl rfl ha l30 m30 rfl (by decide) (by decide) fun f31 w31 e31 l31 x31 m31 => ?_   -- records
  replace m31 : w31.length = 31 := m31
  refine X.run 2 rfl ?_
  refine X.row0 rfl rfl rfl rfl rfl rfl rfl rfl ha l31 m31 rfl (by decide) (by decide) fun f32 w32 e32 l32 x32 m32 => ?_   -- torn
  replace m32 : w32.length = 32 := m32
  have hf : f32 = (rF4 a) := by
    rw [e32, e31, e30, e29, e28, e27, e26, e25]
    rfl
  have hw : w32 = (rRows.take 32) := by
    rw [x32, x31, x30, x29, x28, x27, x26, x25]
    rfl
  rw [hf, hw]
  exact hx
set_option maxRecDepth 20000 in
theorem r_rows4 (ha : hp0.length = a + 1) (hx : X d 113 (349, [(0, .ref (a + 1))], [], hp0 ++ .inr (11, (rF5 a)) :: (rRows.take 40), ks + 164508) r) : X d 113 (277, [(0, .ref (a + 1))], [], hp0 ++ .inr (11, (rF4 a)) :: (rRows.take 32), ks + 148124) r := by
  have l32 : (rF4 a).length = 66 := rfl
  have m32 : (rRows.take 32).length = 32 := rfl
  refine X.run 2 rfl ?_
  refine X.row0 rfl rfl rfl rfl rfl rfl rfl rfl ha l32 m32 rfl (by decide) (by decide) fun f33 w33 e33 l33 x33 m33 => ?_   -- wMessage
  replace m33 : w33.length = 33 := m33
  refine X.run 2 rfl ?_
  refine X.row0 rfl rfl rfl rfl rfl rfl rfl rfl ha l33 m33 rfl (by decide) (by decide) fun f34 w34 e34 l34 x34 m34 => ?_   -- wKind
  replace m34 : w34.length = 34 := m34
  refine X.run 2 rfl ?_
  refine X.row0 rfl rfl rfl rfl rfl rfl rfl rfl ha l34 m34 rfl (by decide) (by decide) fun f35 w35 e35 l35 x35 m35 => ?_   -- wRound
  replace m35 : w35.length = 35 := m35
  refine X.run 2 rfl ?_
  refine X.row0 rfl rfl rfl rfl rfl rfl rfl rfl ha l35 m35 rfl (by decide) (by decide) fun f36 w36 e36 l36 x36 m36 => ?_   -- wBlock
  replace m36 : w36.length = 36 := m36
  refine X.run 2 rfl ?_
  refine X.row0 rfl rfl rfl rfl rfl rfl rfl rfl ha l36 m36 rfl (by decide) (by decide) fun f37 w37 e37 l37 x37 m37 => ?_   -- wBefore
  replace m37 : w37.length = 37 := m37
  refine X.run 2 rfl ?_
  refine X.row0 rfl rfl rfl rfl rfl rfl rfl rfl ha l37 m37 rfl (by decide) (by decide) fun f38 w38 e38 l38 x38 m38 => ?_   -- wStep
  replace m38 : w38.length = 38 := m38
  refine X.run 2 rfl ?_
  refine X.row0 rfl rfl rfl rfl rfl rfl rfl rfl ha l38 m38 rfl (by decide) (by decide) fun f39 w39 e39 l39 x39 m39 => ?_   -- wLock
  replace m39 : w39.length = 39 := m39
  refine X.run 2 rfl ?_
  refine X.row0 rfl rfl rfl rfl rfl rfl rfl rfl ha l39 m39 rfl (by decide) (by decide) fun f40 w40 e40 l40 x40 m40 => ?_   -- wLockRound
  replace m40 : w40.length = 40 := m40
  have hf : f40 = (rF5 a) := by
    rw [e40, e39, e38, e37, e36, e35, e34, e33]
    rfl
  have hw : w40 = (rRows.take 40) := by
    rw [x40, x39, x38, x37, x36, x35, x34, x33]
    rfl
  rw [hf, hw]
  exact hx
set_option maxRecDepth 20000 in
theorem r_rows5 (ha : hp0.length = a + 1) (hx : X d 113 (414, [(0, .ref (a + 1))], [], hp0 ++ .inr (11, (rF6 a)) :: (rRows.take 47), ks + 172086) r) : X d 113 (349, [(0, .ref (a + 1))], [], hp0 ++ .inr (11, (rF5 a)) :: (rRows.take 40), ks + 164508) r := by
  have l40 : (rF5 a).length = 66 := rfl
  have m40 : (rRows.take 40).length = 40 := rfl
  refine X.run 2 rfl ?_
  refine X.row0 rfl rfl rfl rfl rfl rfl rfl rfl ha l40 m40 rfl (by decide) (by decide) fun f41 w41 e41 l41 x41 m41 => ?_   -- wCandidate
  replace m41 : w41.length = 41 := m41
  refine X.run 2 rfl ?_
  refine X.row0 rfl rfl rfl rfl rfl rfl rfl rfl ha l41 m41 rfl (by decide) (by decide) fun f42 w42 e42 l42 x42 m42 => ?_   -- wCandidateRound
  replace m42 : w42.length = 42 := m42
  refine X.run 2 rfl ?_
  refine X.pf11 rfl rfl rfl rfl rfl rfl rfl ha l42 rfl fun f43 e43 l43 => ?_   -- done -1
  refine X.run 2 rfl ?_
  refine X.row0 rfl rfl rfl rfl rfl rfl rfl rfl ha l43 m42 rfl (by decide) (by decide) fun f44 w43 e44 l44 x43 m43 => ?_   -- balance
  replace m43 : w43.length = 43 := m43
  refine X.run 2 rfl ?_
  refine X.row0 rfl rfl rfl rfl rfl rfl rfl rfl ha l44 m43 rfl (by decide) (by decide) fun f45 w44 e45 l45 x44 m44 => ?_   -- bond
  replace m44 : w44.length = 44 := m44
  refine X.run 2 rfl ?_
  refine X.row0 rfl rfl rfl rfl rfl rfl rfl rfl ha l45 m44 rfl (by decide) (by decide) fun f46 w45 e46 l46 x45 m45 => ?_   -- proved
  replace m45 : w45.length = 45 := m45
  refine X.run 2 rfl ?_
  refine X.row0 rfl rfl rfl rfl rfl rfl rfl rfl ha l46 m45 rfl (by decide) (by decide) fun f47 w46 e47 l47 x46 m46 => ?_   -- rAccount
  replace m46 : w46.length = 46 := m46
  refine X.run 2 rfl ?_
  refine X.row0 rfl rfl rfl rfl rfl rfl rfl rfl ha l47 m46 rfl (by decide) (by decide) fun f48 w47 e48 l48 x47 m47 => ?_   -- rAmount
  replace m47 : w47.length = 47 := m47
  have hf : f48 = (rF6 a) := by
    rw [e48, e47, e46, e45, e44, e43, e42, e41]
    rfl
  have hw : w47 = (rRows.take 47) := by
    rw [x47, x46, x45, x44, x43, x42, x41]
    rfl
  rw [hf, hw]
  exact hx
set_option maxRecDepth 20000 in
theorem r_rows6 (ha : hp0.length = a + 1) (hx : X d 113 (481, [(0, .ref (a + 1))], [], hp0 ++ .inr (11, (rF7 a)) :: (rRows.take 55), ks + 274723) r) : X d 113 (414, [(0, .ref (a + 1))], [], hp0 ++ .inr (11, (rF6 a)) :: (rRows.take 47), ks + 172086) r := by
  have l48 : (rF6 a).length = 66 := rfl
  have m47 : (rRows.take 47).length = 47 := rfl
  refine X.run 2 rfl ?_
  refine X.row0 rfl rfl rfl rfl rfl rfl rfl rfl ha l48 m47 rfl (by decide) (by decide) fun f49 w48 e49 l49 x48 m48 => ?_   -- rDue
  replace m48 : w48.length = 48 := m48
  refine X.run 2 rfl ?_
  refine X.row1 rfl rfl rfl rfl rfl rfl rfl rfl ha l49 m48 rfl (by decide) (by decide) fun f50 w49 e50 l50 x49 m49 => ?_   -- jailed
  replace m49 : w49.length = 49 := m49
  refine X.run 2 rfl ?_
  refine X.row0 rfl rfl rfl rfl rfl rfl rfl rfl ha l50 m49 rfl (by decide) (by decide) fun f51 w50 e51 l51 x50 m50 => ?_   -- path
  replace m50 : w50.length = 50 := m50
  refine X.run 2 rfl ?_
  refine X.row0 rfl rfl rfl rfl rfl rfl rfl rfl ha l51 m50 rfl (by decide) (by decide) fun f52 w51 e52 l52 x51 m51 => ?_   -- own
  replace m51 : w51.length = 51 := m51
  refine X.run 2 rfl ?_
  refine X.row0 rfl rfl rfl rfl rfl rfl rfl rfl ha l52 m51 rfl (by decide) (by decide) fun f53 w52 e53 l53 x52 m52 => ?_   -- powers
  replace m52 : w52.length = 52 := m52
  refine X.run 2 rfl ?_
  refine X.row0 rfl rfl rfl rfl rfl rfl rfl rfl ha l53 m52 rfl (by decide) (by decide) fun f54 w53 e54 l54 x53 m53 => ?_   -- total
  replace m53 : w53.length = 53 := m53
  refine X.run 2 rfl ?_
  refine X.row0 rfl rfl rfl rfl rfl rfl rfl rfl ha l54 m53 rfl (by decide) (by decide) fun f55 w54 e55 l55 x54 m54 => ?_   -- now
  replace m54 : w54.length = 54 := m54
  refine X.run 2 rfl ?_
  refine X.row0 rfl rfl rfl rfl rfl rfl rfl rfl ha l55 m54 rfl (by decide) (by decide) fun f56 w55 e56 l56 x55 m55 => ?_   -- nowMany
  replace m55 : w55.length = 55 := m55
  have hf : f56 = (rF7 a) := by
    rw [e56, e55, e54, e53, e52, e51, e50, e49]
    rfl
  have hw : w55 = (rRows.take 55) := by
    rw [x55, x54, x53, x52, x51, x50, x49, x48]
    rfl
  rw [hf, hw]
  exact hx
set_option maxRecDepth 20000 in
theorem r_rows7 (ha : hp0.length = a + 1) (hx : X d 113 (497, [(0, .ref (a + 1))], [], hp0 ++ .inr (11, (rF8 a)) :: (rRows.take 57), ks + 370739) r) : X d 113 (481, [(0, .ref (a + 1))], [], hp0 ++ .inr (11, (rF7 a)) :: (rRows.take 55), ks + 274723) r := by
  have l56 : (rF7 a).length = 66 := rfl
  have m55 : (rRows.take 55).length = 55 := rfl
  refine X.run 2 rfl ?_
  refine X.row1 rfl rfl rfl rfl rfl rfl rfl rfl ha l56 m55 rfl (by decide) (by decide) fun f57 w56 e57 l57 x56 m56 => ?_   -- isKnown
  replace m56 : w56.length = 56 := m56
  refine X.run 2 rfl ?_
  refine X.row1 rfl rfl rfl rfl rfl rfl rfl rfl ha l57 m56 rfl (by decide) (by decide) fun f58 w57 e58 l58 x57 m57 => ?_   -- isOnce
  replace m57 : w57.length = 57 := m57
  have hf : f58 = (rF8 a) := by
    rw [e58, e57]
    rfl
  have hw : w57 = (rRows.take 57) := by
    rw [x57, x56]
    rfl
  rw [hf, hw]
  exact hx
theorem r_rows (ha : hp0.length = a + 1) (hx : X d 113 (497, [(0, .ref (a + 1))], [], hp0 ++ .inr (11, (rF8 a)) :: rRows, ks + 370739) r) : X d 113 (4, [(0, .ref (a + 1))], [], hp0 ++ [.inr (11, rF0)], ks) r := by
  refine r_rows0 ha ?_
  refine r_rows1 ha ?_
  refine r_rows2 ha ?_
  refine r_rows3 ha ?_
  refine r_rows4 ha ?_
  refine r_rows5 ha ?_
  refine r_rows6 ha ?_
  refine r_rows7 ha ?_
  exact hx
end RX
