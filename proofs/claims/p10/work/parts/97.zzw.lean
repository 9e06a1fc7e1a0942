/-! the law: its small methods, the reference's calls (printed by gen_law.py) -/
section TM
variable {ph : Nat → Nat → Nat} {w : jW} {H : jH} {hp : List xC} {F : cG} {L : Nat} {xs : Nat → Int32} {po : Nat} {fz gz : Int → Int} {g : Nat → Int64} {C : Nat}
def fF (f : Int → Int) (n : Int) : Int → Int := if 0 ≤ n ∧ n ≤ 15 then jup f n 1 else f
theorem r_thrown (hI : lIn F L xs po fz gz g C ph w H hp) : ∃ H' hp', X 649 114 (0, lv_args 0 [.ref (ph 11 0)], [], hp, w.2.2) (.inl (some (.int (Int32.ofInt (H.1 11 47 0)))), hp', w.2.2) ∧ lIn F L xs po fz gz g C ph w H' hp' := by
  have has : ([jT] : List jV).map (jm ph) = [.ref (ph 11 0)] := rfl
  have hG := hI.1.2.1
  obtain ⟨v, H', hp', hX, hI', rfl, he⟩ := l_ref (d := 649) (K := 114) (Q := fun v H' => v = some (.inl (H.1 11 47 0)) ∧ H' = H) hI has (J.post (j_thrown (d := 649) (w := wNo w) (H := H)) (by
    rintro o w' H' ⟨v, rfl, rfl, rfl, rfl⟩
    exact ⟨_, rfl, rfl, hG, rfl, rfl⟩)) (by rintro v H' ⟨rfl, -⟩ p1 p2; rfl)
  exact ⟨_, hp', hX, hI'.eqg (fun n a b => by rw [he]; exact (hI.2.1 n a b).2)⟩
theorem s_submit {p0 p1 p2 p3 : Int32} (hI : lIn F L xs po fz gz g C ph w H hp) : sOut 649 174 F L xs po fz gz C ph w hp [.ref F.1, .int p0, .int p1, .int p2, .int p3, .ref (po + 1)] := by
  have has : ([.inr (some (10, F.1)), .inl p0.toInt, .inl p1.toInt, .inl p2.toInt, .inl p3.toInt] : List jV).map (jm ph) = [.ref F.1, .int p0, .int p1, .int p2, .int p3] := by
    simp only [List.map_cons, List.map_nil, i32m]
    show Value.ref (ph 10 F.1) :: _ = _
    rw [hI.1.1.2.2.2.2.1 10 _ rfl]
  obtain ⟨fs, h10⟩ := hI.at10
  obtain ⟨o, w', H', ph', hp', hX, hI', e11, hq, -, hfl⟩ := l_cls (d := 648) (K := 71) (ks := [303, 40022]) (Q := fun o H' => (∃ rv, o = .inl (some (.inl rv))) ∨ o = .inr 12 ∨ o = .inr 13) hI has (fun T hT => J.post (c_X10_submit (d := 646) hT (i32R p0) (i32R p1) (i32R p2) (i32R p3)) (by
    rintro o w' H' ⟨T', a1, a2, a3, m1, m2, q⟩
    refine ⟨T', a1, a3, by unfold cRm; omega, by unfold cRs; omega, ?_⟩
    rcases q with ⟨v, rfl, rv, rfl, -⟩ | rfl | rfl
    · exact Or.inl ⟨rv, rfl⟩
    · exact Or.inr (Or.inl rfl)
    · exact Or.inr (Or.inr (rfl)))) (by decide) (by rintro o H' (⟨rv, rfl⟩ | rfl | rfl) p1 p2 <;> rfl)
  have hI2 := hI'.eqf (hfl (by decide))
  rcases hq with ⟨rv, rfl⟩ | rfl | rfl
  · have hX : X 648 71 _ (.inl (some (.int (Int32.ofInt rv))), hp', w'.2.2) := hX
    refine ⟨Int32.ofInt 0, w', _, ph', _, _, ?_, hI2.set (g' := vp_updL g 0 (Int32.ofInt rv).toInt64), e11⟩
    refine X.run 7 rfl ?_
    refine X.inv rfl rfl rfl rfl rfl h10 rfl rfl rfl rfl hX ?_
    refine X.run 1 rfl ?_
    refine X.las rfl rfl hI2.so rfl ?_
    refine X.run 2 rfl ?_
    exact X.ret (q := (xmts[174]?).get rfl) ⟨rfl, rfl, rfl, rfl⟩ rfl
  · have hX : X 648 71 _ (.inr 12, hp', w'.2.2) := hX
    refine ⟨(xhnd 174 9 12).get rfl, w', _, ph', hp', g, ?_, hI2, e11⟩
    refine X.run 7 rfl ?_
    exact X.invX rfl rfl rfl rfl rfl h10 rfl rfl rfl rfl hX rfl
  · have hX : X 648 71 _ (.inr 13, hp', w'.2.2) := hX
    refine ⟨(xhnd 174 9 13).get rfl, w', _, ph', hp', g, ?_, hI2, e11⟩
    refine X.run 7 rfl ?_
    exact X.invX rfl rfl rfl rfl rfl h10 rfl rfl rfl rfl hX rfl
theorem r_submit {p0 p1 p2 p3 : Int32} (hI : lIn F L xs po fz gz g C ph w H hp) : ∃ y H' hp', X 649 145 (0, lv_args 0 [.ref (ph 11 0), .int p0, .int p1, .int p2, .int p3], [], hp, w.2.2) (.inl (some (.int y)), hp', w.2.2) ∧ lIn F L xs po fz gz g C ph w H' hp' := by
  have has : ([jT, .inl p0.toInt, .inl p1.toInt, .inl p2.toInt, .inl p3.toInt] : List jV).map (jm ph) = [.ref (ph 11 0), .int p0, .int p1, .int p2, .int p3] := by
    simp only [List.map_cons, List.map_nil, i32m]
    rfl
  have hG := hI.1.2.1
  obtain ⟨h0, h1, h2, h3, h4, h5, h6, h7, h8, h9⟩ := id hG
  obtain ⟨v, H', hp', hX, hI', ⟨y, rfl⟩, he⟩ := l_ref (d := 649) (K := 145) (Q := fun v H' => (∃ y, v = some (.inl y)) ∧ H'.2.2.1 79 0 = H.2.2.1 79 0) hI has (J.post (g_submit (d := 648) (w := wNo w) h0 h1 h3 h4 h5 h6 h7 h8 h9 h2 (i32R p0) (i32R p1) (i32R p2) (i32R p3)) (by
    rintro o w' H' ⟨v, rfl, hw, t0, e, tgP, tgL, tgZ, tgQ, tgB, tgK, tgN, tgW, tgX, y, rfl, -⟩
    exact ⟨_, rfl, hw, ⟨t0, tgP, tgX, tgL, tgZ, tgQ, tgB, tgK, tgN, tgW⟩, ⟨y, rfl⟩, e.r 79 (by decide)⟩)) (by rintro v H' ⟨⟨y, rfl⟩, -⟩ p1 p2; rfl)
  exact ⟨_, _, hp', hX, hI'.eqg (fun n a b => by rw [he]; exact (hI.2.1 n a b).2)⟩
theorem s_deliver {p0 p1 : Int32} (hI : lIn F L xs po fz gz g C ph w H hp) : sOut 649 176 F L xs po fz gz C ph w hp [.ref F.1, .int p0, .int p1, .ref (po + 1)] := by
  have has : ([.inr (some (10, F.1)), .inl p0.toInt, .inl p1.toInt] : List jV).map (jm ph) = [.ref F.1, .int p0, .int p1] := by
    simp only [List.map_cons, List.map_nil, i32m]
    show Value.ref (ph 10 F.1) :: _ = _
    rw [hI.1.1.2.2.2.2.1 10 _ rfl]
  obtain ⟨fs, h10⟩ := hI.at10
  obtain ⟨o, w', H', ph', hp', hX, hI', e11, hq, -, hfl⟩ := l_cls (d := 648) (K := 73) (ks := [301, 307, 401, 402, 602, 603, 604, 605, 606, 607, 608, 609, 611, 612, 616, 704, 804, 808, 809, 811, 813, 10209, 10507, 20601, 30023, 30024, 30026, 30027, 30031, 30032, 30033, 30034, 30035, 30036, 30037, 30038, 30039, 30043, 40021, 40025, 40028, 40029, 40030]) (Q := fun o H' => (∃ rv, o = .inl (some (.inl rv))) ∨ o = .inr 14) hI has (fun T hT => J.post (c_X10_deliver (d := 642) hT (i32R p0) (i32R p1)) (by
    rintro o w' H' ⟨T', a1, a2, a3, m1, m2, q⟩
    refine ⟨T', a1, a3, by unfold cRm; omega, by unfold cRs; omega, ?_⟩
    rcases q with ⟨v, rfl, rv, rfl, -⟩ | rfl
    · exact Or.inl ⟨rv, rfl⟩
    · exact Or.inr (rfl))) (by decide) (by rintro o H' (⟨rv, rfl⟩ | rfl) p1 p2 <;> rfl)
  have hI2 := hI'.eqf (hfl (by decide))
  rcases hq with ⟨rv, rfl⟩ | rfl
  · have hX : X 648 73 _ (.inl (some (.int (Int32.ofInt rv))), hp', w'.2.2) := hX
    refine ⟨Int32.ofInt 0, w', _, ph', _, _, ?_, hI2.set (g' := vp_updL g 0 (Int32.ofInt rv).toInt64), e11⟩
    refine X.run 5 rfl ?_
    refine X.inv rfl rfl rfl rfl rfl h10 rfl rfl rfl rfl hX ?_
    refine X.run 1 rfl ?_
    refine X.las rfl rfl hI2.so rfl ?_
    refine X.run 2 rfl ?_
    exact X.ret (q := (xmts[176]?).get rfl) ⟨rfl, rfl, rfl, rfl⟩ rfl
  · have hX : X 648 73 _ (.inr 14, hp', w'.2.2) := hX
    refine ⟨(xhnd 176 5 14).get rfl, w', _, ph', hp', g, ?_, hI2, e11⟩
    refine X.run 5 rfl ?_
    exact X.invX rfl rfl rfl rfl rfl h10 rfl rfl rfl rfl hX rfl
theorem r_deliver {p0 p1 : Int32} (hI : lIn F L xs po fz gz g C ph w H hp) : ∃ y H' hp', X 649 149 (0, lv_args 0 [.ref (ph 11 0), .int p0, .int p1], [], hp, w.2.2) (.inl (some (.int y)), hp', w.2.2) ∧ lIn F L xs po fz gz g C ph w H' hp' := by
  have has : ([jT, .inl p0.toInt, .inl p1.toInt] : List jV).map (jm ph) = [.ref (ph 11 0), .int p0, .int p1] := by
    simp only [List.map_cons, List.map_nil, i32m]
    rfl
  have hG := hI.1.2.1
  obtain ⟨h0, h1, h2, h3, h4, h5, h6, h7, h8, h9⟩ := id hG
  obtain ⟨v, H', hp', hX, hI', ⟨y, rfl⟩, he⟩ := l_ref (d := 649) (K := 149) (Q := fun v H' => (∃ y, v = some (.inl y)) ∧ H'.2.2.1 79 0 = H.2.2.1 79 0) hI has (J.post (g_deliver (d := 342) (w := wNo w) h0 h1 h2 h3 h4 h5 h6 h7 h8 h9 (i32R p0) (i32R p1)) (by
    rintro o w' H' ⟨v, rfl, hw, t0, e, tgP, tgX, tgL, tgZ, tgQ, tgB, tgK, tgN, tgW, y, rfl, -⟩
    exact ⟨_, rfl, hw, ⟨t0, tgP, tgX, tgL, tgZ, tgQ, tgB, tgK, tgN, tgW⟩, ⟨y, rfl⟩, e.r 79 (by decide)⟩)) (by rintro v H' ⟨⟨y, rfl⟩, -⟩ p1 p2; rfl)
  exact ⟨_, _, hp', hX, hI'.eqg (fun n a b => by rw [he]; exact (hI.2.1 n a b).2)⟩
theorem s_spread {p0 p1 p2 : Int32} (hI : lIn F L xs po fz gz g C ph w H hp) : sOut 649 177 F L xs po fz gz C ph w hp [.ref F.1, .int p0, .int p1, .int p2, .ref (po + 1)] := by
  have has : ([.inr (some (10, F.1)), .inl p0.toInt, .inl p1.toInt, .inl p2.toInt] : List jV).map (jm ph) = [.ref F.1, .int p0, .int p1, .int p2] := by
    simp only [List.map_cons, List.map_nil, i32m]
    show Value.ref (ph 10 F.1) :: _ = _
    rw [hI.1.1.2.2.2.2.1 10 _ rfl]
  obtain ⟨fs, h10⟩ := hI.at10
  obtain ⟨o, w', H', ph', hp', hX, hI', e11, hq, -, hfl⟩ := l_cls (d := 648) (K := 74) (ks := [301, 307, 401, 402, 602, 603, 604, 605, 606, 607, 608, 609, 611, 612, 616, 704, 804, 808, 809, 811, 813, 10209, 10507, 20601, 30023, 30024, 30026, 30027, 30031, 30032, 30033, 30034, 30035, 30036, 30037, 30038, 30039, 30043, 40021, 40025, 40028, 40029, 40030]) (Q := fun o H' => (∃ rv, o = .inl (some (.inl rv))) ∨ o = .inr 12 ∨ o = .inr 14) hI has (fun T hT => J.post (c_X10_spread (d := 642) hT (i32R p0) (i32R p1)) (by
    rintro o w' H' ⟨T', a1, a2, a3, m1, m2, q⟩
    refine ⟨T', a1, a3, by unfold cRm; omega, by unfold cRs; omega, ?_⟩
    rcases q with ⟨v, rfl, rv, rfl, -⟩ | rfl | rfl
    · exact Or.inl ⟨rv, rfl⟩
    · exact Or.inr (Or.inl rfl)
    · exact Or.inr (Or.inr (rfl)))) (by decide) (by rintro o H' (⟨rv, rfl⟩ | rfl | rfl) p1 p2 <;> rfl)
  have hI2 := hI'.eqf (hfl (by decide))
  rcases hq with ⟨rv, rfl⟩ | rfl | rfl
  · have hX : X 648 74 _ (.inl (some (.int (Int32.ofInt rv))), hp', w'.2.2) := hX
    refine ⟨Int32.ofInt 0, w', _, ph', _, _, ?_, hI2.set (g' := vp_updL g 0 (Int32.ofInt rv).toInt64), e11⟩
    refine X.run 6 rfl ?_
    refine X.inv rfl rfl rfl rfl rfl h10 rfl rfl rfl rfl hX ?_
    refine X.run 1 rfl ?_
    refine X.las rfl rfl hI2.so rfl ?_
    refine X.run 2 rfl ?_
    exact X.ret (q := (xmts[177]?).get rfl) ⟨rfl, rfl, rfl, rfl⟩ rfl
  · have hX : X 648 74 _ (.inr 12, hp', w'.2.2) := hX
    refine ⟨(xhnd 177 7 12).get rfl, w', _, ph', hp', g, ?_, hI2, e11⟩
    refine X.run 6 rfl ?_
    exact X.invX rfl rfl rfl rfl rfl h10 rfl rfl rfl rfl hX rfl
  · have hX : X 648 74 _ (.inr 14, hp', w'.2.2) := hX
    refine ⟨(xhnd 177 7 14).get rfl, w', _, ph', hp', g, ?_, hI2, e11⟩
    refine X.run 6 rfl ?_
    exact X.invX rfl rfl rfl rfl rfl h10 rfl rfl rfl rfl hX rfl
theorem r_spread {p0 p1 p2 : Int32} (hI : lIn F L xs po fz gz g C ph w H hp) : ∃ y H' hp', X 649 150 (0, lv_args 0 [.ref (ph 11 0), .int p0, .int p1, .int p2], [], hp, w.2.2) (.inl (some (.int y)), hp', w.2.2) ∧ lIn F L xs po fz gz g C ph w H' hp' := by
  have has : ([jT, .inl p0.toInt, .inl p1.toInt, .inl p2.toInt] : List jV).map (jm ph) = [.ref (ph 11 0), .int p0, .int p1, .int p2] := by
    simp only [List.map_cons, List.map_nil, i32m]
    rfl
  have hG := hI.1.2.1
  obtain ⟨h0, h1, h2, h3, h4, h5, h6, h7, h8, h9⟩ := id hG
  obtain ⟨v, H', hp', hX, hI', ⟨y, rfl⟩, he⟩ := l_ref (d := 649) (K := 150) (Q := fun v H' => (∃ y, v = some (.inl y)) ∧ H'.2.2.1 79 0 = H.2.2.1 79 0) hI has (J.post (g_spread (d := 342) (w := wNo w) h0 h1 h2 h3 h4 h5 h6 h7 h8 h9 (i32R p0) (i32R p1) (i32R p2)) (by
    rintro o w' H' ⟨v, rfl, hw, t0, e, tgP, tgX, tgL, tgZ, tgQ, tgB, tgK, tgN, tgW, y, rfl, -⟩
    exact ⟨_, rfl, hw, ⟨t0, tgP, tgX, tgL, tgZ, tgQ, tgB, tgK, tgN, tgW⟩, ⟨y, rfl⟩, e.r 79 (by decide)⟩)) (by rintro v H' ⟨⟨y, rfl⟩, -⟩ p1 p2; rfl)
  exact ⟨_, _, hp', hX, hI'.eqg (fun n a b => by rw [he]; exact (hI.2.1 n a b).2)⟩
theorem s_expire {p0 : Int32} (hI : lIn F L xs po fz gz g C ph w H hp) : sOut 649 178 F L xs po fz gz C ph w hp [.ref F.1, .int p0, .ref (po + 1)] := by
  have has : ([.inr (some (10, F.1)), .inl p0.toInt] : List jV).map (jm ph) = [.ref F.1, .int p0] := by
    simp only [List.map_cons, List.map_nil, i32m]
    show Value.ref (ph 10 F.1) :: _ = _
    rw [hI.1.1.2.2.2.2.1 10 _ rfl]
  obtain ⟨fs, h10⟩ := hI.at10
  obtain ⟨o, w', H', ph', hp', hX, hI', e11, hq, -, hfl⟩ := l_cls (d := 648) (K := 75) (ks := [301, 307, 401, 402, 602, 603, 604, 605, 606, 607, 608, 609, 611, 612, 616, 704, 804, 808, 809, 811, 813, 10209, 10507, 20601, 30023, 30024, 30026, 30027, 30031, 30032, 30033, 30034, 30035, 30036, 30037, 30038, 30039, 30043, 40021, 40025, 40028, 40029, 40030]) (Q := fun o H' => (∃ rv, o = .inl (some (.inl rv))) ∨ o = .inr 14) hI has (fun T hT => J.post (c_X10_expire (d := 642) hT (i32R p0)) (by
    rintro o w' H' ⟨T', a1, a2, a3, m1, m2, q⟩
    refine ⟨T', a1, a3, by unfold cRm; omega, by unfold cRs; omega, ?_⟩
    rcases q with ⟨v, rfl, rv, rfl, -⟩ | rfl
    · exact Or.inl ⟨rv, rfl⟩
    · exact Or.inr (rfl))) (by decide) (by rintro o H' (⟨rv, rfl⟩ | rfl) p1 p2 <;> rfl)
  have hI2 := hI'.eqf (hfl (by decide))
  rcases hq with ⟨rv, rfl⟩ | rfl
  · have hX : X 648 75 _ (.inl (some (.int (Int32.ofInt rv))), hp', w'.2.2) := hX
    refine ⟨Int32.ofInt 0, w', _, ph', _, _, ?_, hI2.set (g' := vp_updL g 0 (Int32.ofInt rv).toInt64), e11⟩
    refine X.run 4 rfl ?_
    refine X.inv rfl rfl rfl rfl rfl h10 rfl rfl rfl rfl hX ?_
    refine X.run 1 rfl ?_
    refine X.las rfl rfl hI2.so rfl ?_
    refine X.run 2 rfl ?_
    exact X.ret (q := (xmts[178]?).get rfl) ⟨rfl, rfl, rfl, rfl⟩ rfl
  · have hX : X 648 75 _ (.inr 14, hp', w'.2.2) := hX
    refine ⟨(xhnd 178 4 14).get rfl, w', _, ph', hp', g, ?_, hI2, e11⟩
    refine X.run 4 rfl ?_
    exact X.invX rfl rfl rfl rfl rfl h10 rfl rfl rfl rfl hX rfl
theorem r_expire {p0 : Int32} (hI : lIn F L xs po fz gz g C ph w H hp) : ∃ y H' hp', X 649 151 (0, lv_args 0 [.ref (ph 11 0), .int p0], [], hp, w.2.2) (.inl (some (.int y)), hp', w.2.2) ∧ lIn F L xs po fz gz g C ph w H' hp' := by
  have has : ([jT, .inl p0.toInt] : List jV).map (jm ph) = [.ref (ph 11 0), .int p0] := by
    simp only [List.map_cons, List.map_nil, i32m]
    rfl
  have hG := hI.1.2.1
  obtain ⟨h0, h1, h2, h3, h4, h5, h6, h7, h8, h9⟩ := id hG
  obtain ⟨v, H', hp', hX, hI', ⟨y, rfl⟩, he⟩ := l_ref (d := 649) (K := 151) (Q := fun v H' => (∃ y, v = some (.inl y)) ∧ H'.2.2.1 79 0 = H.2.2.1 79 0) hI has (J.post (g_expire (d := 343) (w := wNo w) h0 h1 h2 h3 h4 h5 h6 h7 h8 h9 (i32R p0)) (by
    rintro o w' H' ⟨v, rfl, hw, t0, e, tgP, tgX, tgL, tgZ, tgQ, tgB, tgK, tgN, tgW, y, rfl, -⟩
    exact ⟨_, rfl, hw, ⟨t0, tgP, tgX, tgL, tgZ, tgQ, tgB, tgK, tgN, tgW⟩, ⟨y, rfl⟩, e.r 79 (by decide)⟩)) (by rintro v H' ⟨⟨y, rfl⟩, -⟩ p1 p2; rfl)
  exact ⟨_, _, hp', hX, hI'.eqg (fun n a b => by rw [he]; exact (hI.2.1 n a b).2)⟩
theorem s_forge {p0 p1 p2 p3 p4 p5 : Int32} (hI : lIn F L xs po fz gz g C ph w H hp) : sOut 649 179 F L xs po fz gz C ph w hp [.ref F.1, .int p0, .int p1, .int p2, .int p3, .int p4, .int p5, .ref (po + 1)] := by
  have has : ([.inr (some (10, F.1)), .inl p0.toInt, .inl p1.toInt, .inl p2.toInt, .inl p3.toInt, .inl p4.toInt, .inl p5.toInt] : List jV).map (jm ph) = [.ref F.1, .int p0, .int p1, .int p2, .int p3, .int p4, .int p5] := by
    simp only [List.map_cons, List.map_nil, i32m]
    show Value.ref (ph 10 F.1) :: _ = _
    rw [hI.1.1.2.2.2.2.1 10 _ rfl]
  obtain ⟨fs, h10⟩ := hI.at10
  obtain ⟨o, w', H', ph', hp', hX, hI', e11, hq, -, hfl⟩ := l_cls (d := 648) (K := 76) (ks := [616, 704, 10507, 30026, 30027, 30031, 40028, 40029, 40030]) (Q := fun o H' => (∃ rv, o = .inl (some (.inl rv))) ∨ o = .inr 12 ∨ o = .inr 13) hI has (fun T hT => J.post (c_X10_forge (d := 646) hT (i32R p0) (i32R p1) (i32R p2) (i32R p3) (i32R p4) (i32R p5)) (by
    rintro o w' H' ⟨T', a1, a2, a3, m1, m2, q⟩
    refine ⟨T', a1, a3, by unfold cRm; omega, by unfold cRs; omega, ?_⟩
    rcases q with ⟨v, rfl, rv, rfl, -⟩ | rfl | rfl
    · exact Or.inl ⟨rv, rfl⟩
    · exact Or.inr (Or.inl rfl)
    · exact Or.inr (Or.inr (rfl)))) (by decide) (by rintro o H' (⟨rv, rfl⟩ | rfl | rfl) p1 p2 <;> rfl)
  have hI2 := hI'.eqf (hfl (by decide))
  rcases hq with ⟨rv, rfl⟩ | rfl | rfl
  · have hX : X 648 76 _ (.inl (some (.int (Int32.ofInt rv))), hp', w'.2.2) := hX
    refine ⟨Int32.ofInt 0, w', _, ph', _, _, ?_, hI2.set (g' := vp_updL g 0 (Int32.ofInt rv).toInt64), e11⟩
    refine X.run 9 rfl ?_
    refine X.inv rfl rfl rfl rfl rfl h10 rfl rfl rfl rfl hX ?_
    refine X.run 1 rfl ?_
    refine X.las rfl rfl hI2.so rfl ?_
    refine X.run 2 rfl ?_
    exact X.ret (q := (xmts[179]?).get rfl) ⟨rfl, rfl, rfl, rfl⟩ rfl
  · have hX : X 648 76 _ (.inr 12, hp', w'.2.2) := hX
    refine ⟨(xhnd 179 13 12).get rfl, w', _, ph', hp', g, ?_, hI2, e11⟩
    refine X.run 9 rfl ?_
    exact X.invX rfl rfl rfl rfl rfl h10 rfl rfl rfl rfl hX rfl
  · have hX : X 648 76 _ (.inr 13, hp', w'.2.2) := hX
    refine ⟨(xhnd 179 13 13).get rfl, w', _, ph', hp', g, ?_, hI2, e11⟩
    refine X.run 9 rfl ?_
    exact X.invX rfl rfl rfl rfl rfl h10 rfl rfl rfl rfl hX rfl
theorem r_forge {p0 p1 p2 p3 p4 p5 : Int32} (hI : lIn F L xs po fz gz g C ph w H hp) : ∃ y H' hp', X 649 152 (0, lv_args 0 [.ref (ph 11 0), .int p0, .int p1, .int p2, .int p3, .int p4, .int p5], [], hp, w.2.2) (.inl (some (.int y)), hp', w.2.2) ∧ lIn F L xs po fz gz g C ph w H' hp' := by
  have has : ([jT, .inl p0.toInt, .inl p1.toInt, .inl p2.toInt, .inl p3.toInt, .inl p4.toInt, .inl p5.toInt] : List jV).map (jm ph) = [.ref (ph 11 0), .int p0, .int p1, .int p2, .int p3, .int p4, .int p5] := by
    simp only [List.map_cons, List.map_nil, i32m]
    rfl
  have hG := hI.1.2.1
  obtain ⟨h0, h1, h2, h3, h4, h5, h6, h7, h8, h9⟩ := id hG
  obtain ⟨v, H', hp', hX, hI', ⟨y, rfl⟩, he⟩ := l_ref (d := 649) (K := 152) (Q := fun v H' => (∃ y, v = some (.inl y)) ∧ H'.2.2.1 79 0 = H.2.2.1 79 0) hI has (J.post (g_forge (d := 645) (w := wNo w) h0 h1 h2 h3 h4 h5 h6 h7 h8 h9 (i32R p0) (i32R p1) (i32R p2) (i32R p3) (i32R p4) (i32R p5)) (by
    rintro o w' H' ⟨v, rfl, hw, t0, e, tgP, tgX, tgL, tgZ, tgQ, tgB, tgK, tgN, tgW, y, rfl, -⟩
    exact ⟨_, rfl, hw, ⟨t0, tgP, tgX, tgL, tgZ, tgQ, tgB, tgK, tgN, tgW⟩, ⟨y, rfl⟩, e.r 79 (by decide)⟩)) (by rintro v H' ⟨⟨y, rfl⟩, -⟩ p1 p2; rfl)
  exact ⟨_, _, hp', hX, hI'.eqg (fun n a b => by rw [he]; exact (hI.2.1 n a b).2)⟩
theorem s_block {p0 p1 p2 p3 p4 : Int32} (hI : lIn F L xs po fz gz g C ph w H hp) : sOut 649 180 F L xs po fz gz C ph w hp [.ref F.1, .int p0, .int p1, .int p2, .int p3, .int p4, .ref (po + 1)] := by
  have has : ([.inr (some (10, F.1)), .inl p0.toInt, .inl p1.toInt, .inl p2.toInt, .inl p3.toInt, .inl p4.toInt] : List jV).map (jm ph) = [.ref F.1, .int p0, .int p1, .int p2, .int p3, .int p4] := by
    simp only [List.map_cons, List.map_nil, i32m]
    show Value.ref (ph 10 F.1) :: _ = _
    rw [hI.1.1.2.2.2.2.1 10 _ rfl]
  obtain ⟨fs, h10⟩ := hI.at10
  obtain ⟨o, w', H', ph', hp', hX, hI', e11, hq, -, hfl⟩ := l_cls (d := 648) (K := 77) (ks := [301, 307, 804, 808, 809, 811, 813, 30023, 30024, 30032, 30033, 30034, 30035, 30036, 30037, 30038, 30039, 30042, 30043, 40021]) (Q := fun o H' => (∃ rv, o = .inl (some (.inl rv))) ∨ o = .inr 12 ∨ o = .inr 13) hI has (fun T hT => J.post (c_X10_block (d := 644) hT (i32R p0) (i32R p1) (i32R p2) (i32R p3) (i32R p4)) (by
    rintro o w' H' ⟨T', a1, a2, a3, m1, m2, q⟩
    refine ⟨T', a1, a3, by unfold cRm; omega, by unfold cRs; omega, ?_⟩
    rcases q with ⟨v, rfl, rv, rfl, -⟩ | rfl | rfl
    · exact Or.inl ⟨rv, rfl⟩
    · exact Or.inr (Or.inl rfl)
    · exact Or.inr (Or.inr (rfl)))) (by decide) (by rintro o H' (⟨rv, rfl⟩ | rfl | rfl) p1 p2 <;> rfl)
  have hI2 := hI'.eqf (hfl (by decide))
  rcases hq with ⟨rv, rfl⟩ | rfl | rfl
  · have hX : X 648 77 _ (.inl (some (.int (Int32.ofInt rv))), hp', w'.2.2) := hX
    refine ⟨Int32.ofInt 0, w', _, ph', _, _, ?_, hI2.set (g' := vp_updL g 0 (Int32.ofInt rv).toInt64), e11⟩
    refine X.run 8 rfl ?_
    refine X.inv rfl rfl rfl rfl rfl h10 rfl rfl rfl rfl hX ?_
    refine X.run 1 rfl ?_
    refine X.las rfl rfl hI2.so rfl ?_
    refine X.run 2 rfl ?_
    exact X.ret (q := (xmts[180]?).get rfl) ⟨rfl, rfl, rfl, rfl⟩ rfl
  · have hX : X 648 77 _ (.inr 12, hp', w'.2.2) := hX
    refine ⟨(xhnd 180 11 12).get rfl, w', _, ph', hp', g, ?_, hI2, e11⟩
    refine X.run 8 rfl ?_
    exact X.invX rfl rfl rfl rfl rfl h10 rfl rfl rfl rfl hX rfl
  · have hX : X 648 77 _ (.inr 13, hp', w'.2.2) := hX
    refine ⟨(xhnd 180 11 13).get rfl, w', _, ph', hp', g, ?_, hI2, e11⟩
    refine X.run 8 rfl ?_
    exact X.invX rfl rfl rfl rfl rfl h10 rfl rfl rfl rfl hX rfl
theorem r_block {p0 p1 p2 p3 p4 : Int32} (hI : lIn F L xs po fz gz g C ph w H hp) : ∃ y H' hp', X 649 153 (0, lv_args 0 [.ref (ph 11 0), .int p0, .int p1, .int p2, .int p3, .int p4], [], hp, w.2.2) (.inl (some (.int y)), hp', w.2.2) ∧ lIn F L xs po fz gz g C ph w H' hp' := by
  have has : ([jT, .inl p0.toInt, .inl p1.toInt, .inl p2.toInt, .inl p3.toInt, .inl p4.toInt] : List jV).map (jm ph) = [.ref (ph 11 0), .int p0, .int p1, .int p2, .int p3, .int p4] := by
    simp only [List.map_cons, List.map_nil, i32m]
    rfl
  have hG := hI.1.2.1
  obtain ⟨h0, h1, h2, h3, h4, h5, h6, h7, h8, h9⟩ := id hG
  obtain ⟨v, H', hp', hX, hI', ⟨y, rfl⟩, he⟩ := l_ref (d := 649) (K := 153) (Q := fun v H' => (∃ y, v = some (.inl y)) ∧ H'.2.2.1 79 0 = H.2.2.1 79 0) hI has (J.post (g_block (d := 346) (w := wNo w) h0 h1 h2 h3 h4 h5 h6 h7 h8 h9 (i32R p0) (i32R p1) (i32R p2) (i32R p3) (i32R p4)) (by
    rintro o w' H' ⟨v, rfl, hw, t0, e, tgP, tgX, tgL, tgZ, tgQ, tgB, tgK, tgN, tgW, y, rfl, -⟩
    exact ⟨_, rfl, hw, ⟨t0, tgP, tgX, tgL, tgZ, tgQ, tgB, tgK, tgN, tgW⟩, ⟨y, rfl⟩, e.r 79 (by decide)⟩)) (by rintro v H' ⟨⟨y, rfl⟩, -⟩ p1 p2; rfl)
  exact ⟨_, _, hp', hX, hI'.eqg (fun n a b => by rw [he]; exact (hI.2.1 n a b).2)⟩
theorem s_sync {p0 p1 : Int32} (hI : lIn F L xs po fz gz g C ph w H hp) : sOut 649 181 F L xs po fz gz C ph w hp [.ref F.1, .int p0, .int p1, .ref (po + 1)] := by
  have has : ([.inr (some (10, F.1)), .inl p0.toInt, .inl p1.toInt] : List jV).map (jm ph) = [.ref F.1, .int p0, .int p1] := by
    simp only [List.map_cons, List.map_nil, i32m]
    show Value.ref (ph 10 F.1) :: _ = _
    rw [hI.1.1.2.2.2.2.1 10 _ rfl]
  obtain ⟨fs, h10⟩ := hI.at10
  obtain ⟨o, w', H', ph', hp', hX, hI', e11, hq, -, hfl⟩ := l_cls (d := 648) (K := 78) (ks := [301, 307, 401, 402, 602, 603, 604, 605, 606, 607, 608, 609, 611, 612, 616, 704, 804, 808, 809, 811, 813, 10209, 10507, 20601, 30023, 30024, 30026, 30027, 30031, 30032, 30033, 30034, 30035, 30036, 30037, 30038, 30039, 30043, 40021, 40025, 40028, 40029, 40030]) (Q := fun o H' => (∃ rv, o = .inl (some (.inl rv))) ∨ o = .inr 14) hI has (fun T hT => J.post (c_X10_sync (d := 642) hT (i32R p0) (i32R p1)) (by
    rintro o w' H' ⟨T', a1, a2, a3, m1, m2, q⟩
    refine ⟨T', a1, a3, by unfold cRm; omega, by unfold cRs; omega, ?_⟩
    rcases q with ⟨v, rfl, rv, rfl, -⟩ | rfl
    · exact Or.inl ⟨rv, rfl⟩
    · exact Or.inr (rfl))) (by decide) (by rintro o H' (⟨rv, rfl⟩ | rfl) p1 p2 <;> rfl)
  have hI2 := hI'.eqf (hfl (by decide))
  rcases hq with ⟨rv, rfl⟩ | rfl
  · have hX : X 648 78 _ (.inl (some (.int (Int32.ofInt rv))), hp', w'.2.2) := hX
    refine ⟨Int32.ofInt 0, w', _, ph', _, _, ?_, hI2.set (g' := vp_updL g 0 (Int32.ofInt rv).toInt64), e11⟩
    refine X.run 5 rfl ?_
    refine X.inv rfl rfl rfl rfl rfl h10 rfl rfl rfl rfl hX ?_
    refine X.run 1 rfl ?_
    refine X.las rfl rfl hI2.so rfl ?_
    refine X.run 2 rfl ?_
    exact X.ret (q := (xmts[181]?).get rfl) ⟨rfl, rfl, rfl, rfl⟩ rfl
  · have hX : X 648 78 _ (.inr 14, hp', w'.2.2) := hX
    refine ⟨(xhnd 181 5 14).get rfl, w', _, ph', hp', g, ?_, hI2, e11⟩
    refine X.run 5 rfl ?_
    exact X.invX rfl rfl rfl rfl rfl h10 rfl rfl rfl rfl hX rfl
theorem r_sync {p0 p1 : Int32} (hI : lIn F L xs po fz gz g C ph w H hp) : ∃ y H' hp', X 649 154 (0, lv_args 0 [.ref (ph 11 0), .int p0, .int p1], [], hp, w.2.2) (.inl (some (.int y)), hp', w.2.2) ∧ lIn F L xs po fz gz g C ph w H' hp' := by
  have has : ([jT, .inl p0.toInt, .inl p1.toInt] : List jV).map (jm ph) = [.ref (ph 11 0), .int p0, .int p1] := by
    simp only [List.map_cons, List.map_nil, i32m]
    rfl
  have hG := hI.1.2.1
  obtain ⟨h0, h1, h2, h3, h4, h5, h6, h7, h8, h9⟩ := id hG
  obtain ⟨v, H', hp', hX, hI', ⟨y, rfl⟩, he⟩ := l_ref (d := 649) (K := 154) (Q := fun v H' => (∃ y, v = some (.inl y)) ∧ H'.2.2.1 79 0 = H.2.2.1 79 0) hI has (J.post (g_sync (d := 343) (w := wNo w) h0 h1 h2 h3 h4 h5 h6 h7 h8 h9 (i32R p0) (i32R p1)) (by
    rintro o w' H' ⟨v, rfl, hw, t0, e, tgP, tgX, tgL, tgZ, tgQ, tgB, tgK, tgN, tgW, y, rfl, -⟩
    exact ⟨_, rfl, hw, ⟨t0, tgP, tgX, tgL, tgZ, tgQ, tgB, tgK, tgN, tgW⟩, ⟨y, rfl⟩, e.r 79 (by decide)⟩)) (by rintro v H' ⟨⟨y, rfl⟩, -⟩ p1 p2; rfl)
  exact ⟨_, _, hp', hX, hI'.eqg (fun n a b => by rw [he]; exact (hI.2.1 n a b).2)⟩
theorem s_start {p0 : Int32} (hI : lIn F L xs po fz gz g C ph w H hp) : sOut 649 183 F L xs po fz gz C ph w hp [.ref F.1, .int p0, .ref (po + 1)] := by
  have has : ([.inr (some (10, F.1)), .inl p0.toInt] : List jV).map (jm ph) = [.ref F.1, .int p0] := by
    simp only [List.map_cons, List.map_nil, i32m]
    show Value.ref (ph 10 F.1) :: _ = _
    rw [hI.1.1.2.2.2.2.1 10 _ rfl]
  obtain ⟨fs, h10⟩ := hI.at10
  obtain ⟨o, w', H', ph', hp', hX, hI', e11, hq, -, hfl⟩ := l_cls (d := 648) (K := 80) (ks := [301, 307, 401, 402, 602, 603, 604, 605, 606, 607, 608, 609, 611, 612, 616, 704, 804, 808, 809, 811, 813, 10209, 10507, 20601, 30023, 30024, 30026, 30027, 30031, 30032, 30033, 30034, 30035, 30036, 30037, 30038, 30039, 30043, 40021, 40025, 40028, 40029, 40030]) (Q := fun o H' => (∃ rv, o = .inl (some (.inl rv))) ∨ o = .inr 14 ∨ o = .inr 13) hI has (fun T hT => J.post (c_X10_start (d := 642) hT (i32R p0)) (by
    rintro o w' H' ⟨T', a1, a2, a3, m1, m2, q⟩
    refine ⟨T', a1, a3, by unfold cRm; omega, by unfold cRs; omega, ?_⟩
    rcases q with ⟨v, rfl, rv, rfl, -⟩ | rfl | rfl
    · exact Or.inl ⟨rv, rfl⟩
    · exact Or.inr (Or.inl rfl)
    · exact Or.inr (Or.inr (rfl)))) (by decide) (by rintro o H' (⟨rv, rfl⟩ | rfl | rfl) p1 p2 <;> rfl)
  have hI2 := hI'.eqf (hfl (by decide))
  rcases hq with ⟨rv, rfl⟩ | rfl | rfl
  · have hX : X 648 80 _ (.inl (some (.int (Int32.ofInt rv))), hp', w'.2.2) := hX
    refine ⟨Int32.ofInt 0, w', _, ph', _, _, ?_, hI2.set (g' := vp_updL g 0 (Int32.ofInt rv).toInt64), e11⟩
    refine X.run 4 rfl ?_
    refine X.inv rfl rfl rfl rfl rfl h10 rfl rfl rfl rfl hX ?_
    refine X.run 1 rfl ?_
    refine X.las rfl rfl hI2.so rfl ?_
    refine X.run 2 rfl ?_
    exact X.ret (q := (xmts[183]?).get rfl) ⟨rfl, rfl, rfl, rfl⟩ rfl
  · have hX : X 648 80 _ (.inr 14, hp', w'.2.2) := hX
    refine ⟨(xhnd 183 4 14).get rfl, w', _, ph', hp', g, ?_, hI2, e11⟩
    refine X.run 4 rfl ?_
    exact X.invX rfl rfl rfl rfl rfl h10 rfl rfl rfl rfl hX rfl
  · have hX : X 648 80 _ (.inr 13, hp', w'.2.2) := hX
    refine ⟨(xhnd 183 4 13).get rfl, w', _, ph', hp', g, ?_, hI2, e11⟩
    refine X.run 4 rfl ?_
    exact X.invX rfl rfl rfl rfl rfl h10 rfl rfl rfl rfl hX rfl
theorem r_start {p0 : Int32} (hI : lIn F L xs po fz gz g C ph w H hp) : ∃ y H' hp', X 649 157 (0, lv_args 0 [.ref (ph 11 0), .int p0], [], hp, w.2.2) (.inl (some (.int y)), hp', w.2.2) ∧ lIn F L xs po fz gz g C ph w H' hp' := by
  have has : ([jT, .inl p0.toInt] : List jV).map (jm ph) = [.ref (ph 11 0), .int p0] := by
    simp only [List.map_cons, List.map_nil, i32m]
    rfl
  have hG := hI.1.2.1
  obtain ⟨h0, h1, h2, h3, h4, h5, h6, h7, h8, h9⟩ := id hG
  obtain ⟨v, H', hp', hX, hI', ⟨y, rfl⟩, he⟩ := l_ref (d := 649) (K := 157) (Q := fun v H' => (∃ y, v = some (.inl y)) ∧ H'.2.2.1 79 0 = H.2.2.1 79 0) hI has (J.post (g_start (d := 343) (w := wNo w) h0 h1 h2 h3 h4 h5 h6 h7 h8 h9 (i32R p0)) (by
    rintro o w' H' ⟨v, rfl, hw, t0, e, tgP, tgX, tgL, tgZ, tgQ, tgB, tgK, tgN, tgW, y, rfl, -⟩
    exact ⟨_, rfl, hw, ⟨t0, tgP, tgX, tgL, tgZ, tgQ, tgB, tgK, tgN, tgW⟩, ⟨y, rfl⟩, e.r 79 (by decide)⟩)) (by rintro v H' ⟨⟨y, rfl⟩, -⟩ p1 p2; rfl)
  exact ⟨_, _, hp', hX, hI'.eqg (fun n a b => by rw [he]; exact (hI.2.1 n a b).2)⟩
theorem s_told {p0 p1 : Int32} (hI : lIn F L xs po fz gz g C ph w H hp) : sOut 649 184 F L xs po fz gz C ph w hp [.ref F.1, .int p0, .int p1, .ref (po + 1)] := by
  have has : ([.inr (some (10, F.1)), .inl p0.toInt, .inl p1.toInt] : List jV).map (jm ph) = [.ref F.1, .int p0, .int p1] := by
    simp only [List.map_cons, List.map_nil, i32m]
    show Value.ref (ph 10 F.1) :: _ = _
    rw [hI.1.1.2.2.2.2.1 10 _ rfl]
  obtain ⟨fs, h10⟩ := hI.at10
  obtain ⟨o, w', H', ph', hp', hX, hI', e11, hq, -, hfl⟩ := l_cls (d := 648) (K := 81) (ks := []) (Q := fun o H' => (∃ rv, o = .inl (some (.inl rv))) ∨ o = .inr 14 ∨ o = .inr 12) hI has (fun T hT => J.post (c_X10_told (d := 645) hT (i32R p0) (i32R p1)) (by
    rintro o w' H' ⟨T', a1, a2, a3, m1, m2, q⟩
    refine ⟨T', a1, a3, by unfold cRm; omega, by unfold cRs; omega, ?_⟩
    rcases q with ⟨v, rfl, rv, rfl, -⟩ | rfl | rfl
    · exact Or.inl ⟨rv, rfl⟩
    · exact Or.inr (Or.inl rfl)
    · exact Or.inr (Or.inr (rfl)))) (by decide) (by rintro o H' (⟨rv, rfl⟩ | rfl | rfl) p1 p2 <;> rfl)
  have hI2 := hI'.eqf (hfl (by decide))
  rcases hq with ⟨rv, rfl⟩ | rfl | rfl
  · have hX : X 648 81 _ (.inl (some (.int (Int32.ofInt rv))), hp', w'.2.2) := hX
    refine ⟨Int32.ofInt 0, w', _, ph', _, _, ?_, hI2.set (g' := vp_updL g 0 (Int32.ofInt rv).toInt64), e11⟩
    refine X.run 5 rfl ?_
    refine X.inv rfl rfl rfl rfl rfl h10 rfl rfl rfl rfl hX ?_
    refine X.run 1 rfl ?_
    refine X.las rfl rfl hI2.so rfl ?_
    refine X.run 2 rfl ?_
    exact X.ret (q := (xmts[184]?).get rfl) ⟨rfl, rfl, rfl, rfl⟩ rfl
  · have hX : X 648 81 _ (.inr 14, hp', w'.2.2) := hX
    refine ⟨(xhnd 184 5 14).get rfl, w', _, ph', hp', g, ?_, hI2, e11⟩
    refine X.run 5 rfl ?_
    exact X.invX rfl rfl rfl rfl rfl h10 rfl rfl rfl rfl hX rfl
  · have hX : X 648 81 _ (.inr 12, hp', w'.2.2) := hX
    refine ⟨(xhnd 184 5 12).get rfl, w', _, ph', hp', g, ?_, hI2, e11⟩
    refine X.run 5 rfl ?_
    exact X.invX rfl rfl rfl rfl rfl h10 rfl rfl rfl rfl hX rfl
theorem r_told {p0 p1 : Int32} (hI : lIn F L xs po fz gz g C ph w H hp) : ∃ y H' hp', X 649 159 (0, lv_args 0 [.ref (ph 11 0), .int p0, .int p1], [], hp, w.2.2) (.inl (some (.int y)), hp', w.2.2) ∧ lIn F L xs po fz gz g C ph w H' hp' := by
  have has : ([jT, .inl p0.toInt, .inl p1.toInt] : List jV).map (jm ph) = [.ref (ph 11 0), .int p0, .int p1] := by
    simp only [List.map_cons, List.map_nil, i32m]
    rfl
  have hG := hI.1.2.1
  obtain ⟨h0, h1, h2, h3, h4, h5, h6, h7, h8, h9⟩ := id hG
  obtain ⟨v, H', hp', hX, hI', ⟨y, rfl⟩, he⟩ := l_ref (d := 649) (K := 159) (Q := fun v H' => (∃ y, v = some (.inl y)) ∧ H'.2.2.1 79 0 = H.2.2.1 79 0) hI has (J.post (g_told (d := 647) (w := wNo w) h0 h1 h2 h3 h4 h5 h6 h7 h8 h9 (i32R p0) (i32R p1)) (by
    rintro o w' H' ⟨v, rfl, hw, t0, e, tgP, tgX, tgL, tgZ, tgQ, tgB, tgK, tgN, tgW, y, rfl, -⟩
    exact ⟨_, rfl, hw, ⟨t0, tgP, tgX, tgL, tgZ, tgQ, tgB, tgK, tgN, tgW⟩, ⟨y, rfl⟩, e.r 79 (by decide)⟩)) (by rintro v H' ⟨⟨y, rfl⟩, -⟩ p1 p2; rfl)
  exact ⟨_, _, hp', hX, hI'.eqg (fun n a b => by rw [he]; exact (hI.2.1 n a b).2)⟩
theorem s_message {p0 p1 : Int32} (hI : lIn F L xs po fz gz g C ph w H hp) : sOut 649 185 F L xs po fz gz C ph w hp [.ref F.1, .int p0, .int p1, .ref (po + 1)] := by
  have has : ([.inr (some (10, F.1)), .inl p0.toInt, .inl p1.toInt] : List jV).map (jm ph) = [.ref F.1, .int p0, .int p1] := by
    simp only [List.map_cons, List.map_nil, i32m]
    show Value.ref (ph 10 F.1) :: _ = _
    rw [hI.1.1.2.2.2.2.1 10 _ rfl]
  obtain ⟨fs, h10⟩ := hI.at10
  obtain ⟨o, w', H', ph', hp', hX, hI', e11, hq, -, hfl⟩ := l_cls (d := 648) (K := 82) (ks := []) (Q := fun o H' => (∃ rv, o = .inl (some (.inl rv))) ∨ o = .inr 14 ∨ o = .inr 12) hI has (fun T hT => J.post (c_X10_message (d := 647) hT (i32R p0) (i32R p1)) (by
    rintro o w' H' ⟨T', a1, a2, a3, m1, m2, q⟩
    refine ⟨T', a1, a3, by unfold cRm; omega, by unfold cRs; omega, ?_⟩
    rcases q with ⟨v, rfl, rv, rfl, -⟩ | rfl | rfl
    · exact Or.inl ⟨rv, rfl⟩
    · exact Or.inr (Or.inl rfl)
    · exact Or.inr (Or.inr (rfl)))) (by decide) (by rintro o H' (⟨rv, rfl⟩ | rfl | rfl) p1 p2 <;> rfl)
  have hI2 := hI'.eqf (hfl (by decide))
  rcases hq with ⟨rv, rfl⟩ | rfl | rfl
  · have hX : X 648 82 _ (.inl (some (.int (Int32.ofInt rv))), hp', w'.2.2) := hX
    refine ⟨Int32.ofInt 0, w', _, ph', _, _, ?_, hI2.set (g' := vp_updL g 0 (Int32.ofInt rv).toInt64), e11⟩
    refine X.run 5 rfl ?_
    refine X.inv rfl rfl rfl rfl rfl h10 rfl rfl rfl rfl hX ?_
    refine X.run 1 rfl ?_
    refine X.las rfl rfl hI2.so rfl ?_
    refine X.run 2 rfl ?_
    exact X.ret (q := (xmts[185]?).get rfl) ⟨rfl, rfl, rfl, rfl⟩ rfl
  · have hX : X 648 82 _ (.inr 14, hp', w'.2.2) := hX
    refine ⟨(xhnd 185 5 14).get rfl, w', _, ph', hp', g, ?_, hI2, e11⟩
    refine X.run 5 rfl ?_
    exact X.invX rfl rfl rfl rfl rfl h10 rfl rfl rfl rfl hX rfl
  · have hX : X 648 82 _ (.inr 12, hp', w'.2.2) := hX
    refine ⟨(xhnd 185 5 12).get rfl, w', _, ph', hp', g, ?_, hI2, e11⟩
    refine X.run 5 rfl ?_
    exact X.invX rfl rfl rfl rfl rfl h10 rfl rfl rfl rfl hX rfl
theorem r_message {p0 p1 : Int32} (hI : lIn F L xs po fz gz g C ph w H hp) : ∃ y H' hp', X 649 160 (0, lv_args 0 [.ref (ph 11 0), .int p0, .int p1], [], hp, w.2.2) (.inl (some (.int y)), hp', w.2.2) ∧ lIn F L xs po fz gz g C ph w H' hp' := by
  have has : ([jT, .inl p0.toInt, .inl p1.toInt] : List jV).map (jm ph) = [.ref (ph 11 0), .int p0, .int p1] := by
    simp only [List.map_cons, List.map_nil, i32m]
    rfl
  have hG := hI.1.2.1
  obtain ⟨h0, h1, h2, h3, h4, h5, h6, h7, h8, h9⟩ := id hG
  obtain ⟨v, H', hp', hX, hI', ⟨y, rfl⟩, he⟩ := l_ref (d := 649) (K := 160) (Q := fun v H' => (∃ y, v = some (.inl y)) ∧ H'.2.2.1 79 0 = H.2.2.1 79 0) hI has (J.post (g_message (d := 648) (w := wNo w) h0 (i32R p0) (i32R p1)) (by
    rintro o w' H' ⟨v, rfl, hw, t0, e, y, rfl, -⟩
    exact ⟨_, rfl, hw, hG.ex t0 e (by decide), ⟨y, rfl⟩, e.r 79 (by decide)⟩)) (by rintro v H' ⟨⟨y, rfl⟩, -⟩ p1 p2; rfl)
  exact ⟨_, _, hp', hX, hI'.eqg (fun n a b => by rw [he]; exact (hI.2.1 n a b).2)⟩
theorem s_of {p0 p1 : Int32} (hI : lIn F L xs po fz gz g C ph w H hp) : sOut 649 186 F L xs po fz gz C ph w hp [.ref F.1, .int p0, .int p1, .ref (po + 1)] := by
  have has : ([.inr (some (10, F.1)), .inl p0.toInt, .inl p1.toInt] : List jV).map (jm ph) = [.ref F.1, .int p0, .int p1] := by
    simp only [List.map_cons, List.map_nil, i32m]
    show Value.ref (ph 10 F.1) :: _ = _
    rw [hI.1.1.2.2.2.2.1 10 _ rfl]
  obtain ⟨fs, h10⟩ := hI.at10
  obtain ⟨o, w', H', ph', hp', hX, hI', e11, hq, -, hfl⟩ := l_cls (d := 648) (K := 83) (ks := []) (Q := fun o H' => (∃ rv, o = .inl (some (.inl rv))) ∨ o = .inr 14 ∨ o = .inr 12) hI has (fun T hT => J.post (c_X10_of (d := 647) hT (i32R p0) (i32R p1)) (by
    rintro o w' H' ⟨T', a1, a2, a3, m1, m2, q⟩
    refine ⟨T', a1, a3, by unfold cRm; omega, by unfold cRs; omega, ?_⟩
    rcases q with ⟨v, rfl, rv, rfl, -⟩ | rfl | rfl
    · exact Or.inl ⟨rv, rfl⟩
    · exact Or.inr (Or.inl rfl)
    · exact Or.inr (Or.inr (rfl)))) (by decide) (by rintro o H' (⟨rv, rfl⟩ | rfl | rfl) p1 p2 <;> rfl)
  have hI2 := hI'.eqf (hfl (by decide))
  rcases hq with ⟨rv, rfl⟩ | rfl | rfl
  · have hX : X 648 83 _ (.inl (some (.int (Int32.ofInt rv))), hp', w'.2.2) := hX
    refine ⟨Int32.ofInt 0, w', _, ph', _, _, ?_, hI2.set (g' := vp_updL g 0 (Int32.ofInt rv).toInt64), e11⟩
    refine X.run 5 rfl ?_
    refine X.inv rfl rfl rfl rfl rfl h10 rfl rfl rfl rfl hX ?_
    refine X.run 1 rfl ?_
    refine X.las rfl rfl hI2.so rfl ?_
    refine X.run 2 rfl ?_
    exact X.ret (q := (xmts[186]?).get rfl) ⟨rfl, rfl, rfl, rfl⟩ rfl
  · have hX : X 648 83 _ (.inr 14, hp', w'.2.2) := hX
    refine ⟨(xhnd 186 5 14).get rfl, w', _, ph', hp', g, ?_, hI2, e11⟩
    refine X.run 5 rfl ?_
    exact X.invX rfl rfl rfl rfl rfl h10 rfl rfl rfl rfl hX rfl
  · have hX : X 648 83 _ (.inr 12, hp', w'.2.2) := hX
    refine ⟨(xhnd 186 5 12).get rfl, w', _, ph', hp', g, ?_, hI2, e11⟩
    refine X.run 5 rfl ?_
    exact X.invX rfl rfl rfl rfl rfl h10 rfl rfl rfl rfl hX rfl
theorem r_of {p0 p1 : Int32} (hI : lIn F L xs po fz gz g C ph w H hp) : ∃ y H' hp', X 649 161 (0, lv_args 0 [.ref (ph 11 0), .int p0, .int p1], [], hp, w.2.2) (.inl (some (.int y)), hp', w.2.2) ∧ lIn F L xs po fz gz g C ph w H' hp' := by
  have has : ([jT, .inl p0.toInt, .inl p1.toInt] : List jV).map (jm ph) = [.ref (ph 11 0), .int p0, .int p1] := by
    simp only [List.map_cons, List.map_nil, i32m]
    rfl
  have hG := hI.1.2.1
  obtain ⟨h0, h1, h2, h3, h4, h5, h6, h7, h8, h9⟩ := id hG
  obtain ⟨v, H', hp', hX, hI', ⟨y, rfl⟩, he⟩ := l_ref (d := 649) (K := 161) (Q := fun v H' => (∃ y, v = some (.inl y)) ∧ H'.2.2.1 79 0 = H.2.2.1 79 0) hI has (J.post (g_of (d := 346) (w := wNo w) h0 h1 h2 h3 h4 h5 h6 h7 h8 h9 (i32R p0) (i32R p1)) (by
    rintro o w' H' ⟨v, rfl, hw, t0, e, tgP, tgX, tgL, tgZ, tgQ, tgB, tgK, tgN, tgW, y, rfl, -⟩
    exact ⟨_, rfl, hw, ⟨t0, tgP, tgX, tgL, tgZ, tgQ, tgB, tgK, tgN, tgW⟩, ⟨y, rfl⟩, e.r 79 (by decide)⟩)) (by rintro v H' ⟨⟨y, rfl⟩, -⟩ p1 p2; rfl)
  exact ⟨_, _, hp', hX, hI'.eqg (fun n a b => by rw [he]; exact (hI.2.1 n a b).2)⟩
theorem s_account {p0 p1 p2 : Int32} (hI : lIn F L xs po fz gz g C ph w H hp) : sOut 649 187 F L xs po fz gz C ph w hp [.ref F.1, .int p0, .int p1, .int p2, .ref (po + 1)] := by
  have has : ([.inr (some (10, F.1)), .inl p0.toInt, .inl p1.toInt, .inl p2.toInt] : List jV).map (jm ph) = [.ref F.1, .int p0, .int p1, .int p2] := by
    simp only [List.map_cons, List.map_nil, i32m]
    show Value.ref (ph 10 F.1) :: _ = _
    rw [hI.1.1.2.2.2.2.1 10 _ rfl]
  obtain ⟨fs, h10⟩ := hI.at10
  obtain ⟨o, w', H', ph', hp', hX, hI', e11, hq, -, hfl⟩ := l_cls (d := 648) (K := 84) (ks := []) (Q := fun o H' => (∃ rv, o = .inl (some (.inl rv))) ∨ o = .inr 14 ∨ o = .inr 13 ∨ o = .inr 12) hI has (fun T hT => J.post (c_X10_account (d := 646) hT (i32R p0) (i32R p1) (i32R p2)) (by
    rintro o w' H' ⟨T', a1, a2, a3, m1, m2, q⟩
    refine ⟨T', a1, a3, by unfold cRm; omega, by unfold cRs; omega, ?_⟩
    rcases q with ⟨v, rfl, rv, rfl, -⟩ | rfl | rfl | rfl
    · exact Or.inl ⟨rv, rfl⟩
    · exact Or.inr (Or.inl rfl)
    · exact Or.inr (Or.inr (Or.inl rfl))
    · exact Or.inr (Or.inr (Or.inr (rfl))))) (by decide) (by rintro o H' (⟨rv, rfl⟩ | rfl | rfl | rfl) p1 p2 <;> rfl)
  have hI2 := hI'.eqf (hfl (by decide))
  rcases hq with ⟨rv, rfl⟩ | rfl | rfl | rfl
  · have hX : X 648 84 _ (.inl (some (.int (Int32.ofInt rv))), hp', w'.2.2) := hX
    refine ⟨Int32.ofInt 0, w', _, ph', _, _, ?_, hI2.set (g' := vp_updL g 0 (Int32.ofInt rv).toInt64), e11⟩
    refine X.run 6 rfl ?_
    refine X.inv rfl rfl rfl rfl rfl h10 rfl rfl rfl rfl hX ?_
    refine X.run 1 rfl ?_
    refine X.las rfl rfl hI2.so rfl ?_
    refine X.run 2 rfl ?_
    exact X.ret (q := (xmts[187]?).get rfl) ⟨rfl, rfl, rfl, rfl⟩ rfl
  · have hX : X 648 84 _ (.inr 14, hp', w'.2.2) := hX
    refine ⟨(xhnd 187 7 14).get rfl, w', _, ph', hp', g, ?_, hI2, e11⟩
    refine X.run 6 rfl ?_
    exact X.invX rfl rfl rfl rfl rfl h10 rfl rfl rfl rfl hX rfl
  · have hX : X 648 84 _ (.inr 13, hp', w'.2.2) := hX
    refine ⟨(xhnd 187 7 13).get rfl, w', _, ph', hp', g, ?_, hI2, e11⟩
    refine X.run 6 rfl ?_
    exact X.invX rfl rfl rfl rfl rfl h10 rfl rfl rfl rfl hX rfl
  · have hX : X 648 84 _ (.inr 12, hp', w'.2.2) := hX
    refine ⟨(xhnd 187 7 12).get rfl, w', _, ph', hp', g, ?_, hI2, e11⟩
    refine X.run 6 rfl ?_
    exact X.invX rfl rfl rfl rfl rfl h10 rfl rfl rfl rfl hX rfl
theorem r_account {p0 p1 p2 : Int32} (hI : lIn F L xs po fz gz g C ph w H hp) : ∃ y H' hp', X 649 162 (0, lv_args 0 [.ref (ph 11 0), .int p0, .int p1, .int p2], [], hp, w.2.2) (.inl (some (.int y)), hp', w.2.2) ∧ lIn F L xs po fz gz g C ph w H' hp' := by
  have has : ([jT, .inl p0.toInt, .inl p1.toInt, .inl p2.toInt] : List jV).map (jm ph) = [.ref (ph 11 0), .int p0, .int p1, .int p2] := by
    simp only [List.map_cons, List.map_nil, i32m]
    rfl
  have hG := hI.1.2.1
  obtain ⟨h0, h1, h2, h3, h4, h5, h6, h7, h8, h9⟩ := id hG
  obtain ⟨v, H', hp', hX, hI', ⟨y, rfl⟩, he⟩ := l_ref (d := 649) (K := 162) (Q := fun v H' => (∃ y, v = some (.inl y)) ∧ H'.2.2.1 79 0 = H.2.2.1 79 0) hI has (J.post (g_account (d := 346) (w := wNo w) h0 h1 h2 h3 h4 h5 h6 h7 h8 h9 (i32R p0) (i32R p1) (i32R p2)) (by
    rintro o w' H' ⟨v, rfl, hw, t0, e, tgP, tgX, tgL, tgZ, tgQ, tgB, tgK, tgN, tgW, y, rfl, -⟩
    exact ⟨_, rfl, hw, ⟨t0, tgP, tgX, tgL, tgZ, tgQ, tgB, tgK, tgN, tgW⟩, ⟨y, rfl⟩, e.r 79 (by decide)⟩)) (by rintro v H' ⟨⟨y, rfl⟩, -⟩ p1 p2; rfl)
  exact ⟨_, _, hp', hX, hI'.eqg (fun n a b => by rw [he]; exact (hI.2.1 n a b).2)⟩
theorem s_sum {p0 p1 : Int32} (hI : lIn F L xs po fz gz g C ph w H hp) : sOut 649 188 F L xs po fz gz C ph w hp [.ref F.1, .int p0, .int p1, .ref (po + 1)] := by
  have has : ([.inr (some (10, F.1)), .inl p0.toInt, .inl p1.toInt] : List jV).map (jm ph) = [.ref F.1, .int p0, .int p1] := by
    simp only [List.map_cons, List.map_nil, i32m]
    show Value.ref (ph 10 F.1) :: _ = _
    rw [hI.1.1.2.2.2.2.1 10 _ rfl]
  obtain ⟨fs, h10⟩ := hI.at10
  obtain ⟨o, w', H', ph', hp', hX, hI', e11, hq, -, hfl⟩ := l_cls (d := 648) (K := 85) (ks := []) (Q := fun o H' => (∃ rv, o = .inl (some (.inl rv))) ∨ o = .inr 14 ∨ o = .inr 13 ∨ o = .inr 12) hI has (fun T hT => J.post (c_X10_sum (d := 647) hT (i32R p0) (i32R p1)) (by
    rintro o w' H' ⟨T', a1, a2, a3, m1, m2, q⟩
    refine ⟨T', a1, a3, by unfold cRm; omega, by unfold cRs; omega, ?_⟩
    rcases q with ⟨v, rfl, rv, rfl, -⟩ | rfl | rfl | rfl
    · exact Or.inl ⟨rv, rfl⟩
    · exact Or.inr (Or.inl rfl)
    · exact Or.inr (Or.inr (Or.inl rfl))
    · exact Or.inr (Or.inr (Or.inr (rfl))))) (by decide) (by rintro o H' (⟨rv, rfl⟩ | rfl | rfl | rfl) p1 p2 <;> rfl)
  have hI2 := hI'.eqf (hfl (by decide))
  rcases hq with ⟨rv, rfl⟩ | rfl | rfl | rfl
  · have hX : X 648 85 _ (.inl (some (.int (Int32.ofInt rv))), hp', w'.2.2) := hX
    refine ⟨Int32.ofInt 0, w', _, ph', _, _, ?_, hI2.set (g' := vp_updL g 0 (Int32.ofInt rv).toInt64), e11⟩
    refine X.run 5 rfl ?_
    refine X.inv rfl rfl rfl rfl rfl h10 rfl rfl rfl rfl hX ?_
    refine X.run 1 rfl ?_
    refine X.las rfl rfl hI2.so rfl ?_
    refine X.run 2 rfl ?_
    exact X.ret (q := (xmts[188]?).get rfl) ⟨rfl, rfl, rfl, rfl⟩ rfl
  · have hX : X 648 85 _ (.inr 14, hp', w'.2.2) := hX
    refine ⟨(xhnd 188 5 14).get rfl, w', _, ph', hp', g, ?_, hI2, e11⟩
    refine X.run 5 rfl ?_
    exact X.invX rfl rfl rfl rfl rfl h10 rfl rfl rfl rfl hX rfl
  · have hX : X 648 85 _ (.inr 13, hp', w'.2.2) := hX
    refine ⟨(xhnd 188 5 13).get rfl, w', _, ph', hp', g, ?_, hI2, e11⟩
    refine X.run 5 rfl ?_
    exact X.invX rfl rfl rfl rfl rfl h10 rfl rfl rfl rfl hX rfl
  · have hX : X 648 85 _ (.inr 12, hp', w'.2.2) := hX
    refine ⟨(xhnd 188 5 12).get rfl, w', _, ph', hp', g, ?_, hI2, e11⟩
    refine X.run 5 rfl ?_
    exact X.invX rfl rfl rfl rfl rfl h10 rfl rfl rfl rfl hX rfl
theorem r_sum {p0 p1 : Int32} (hI : lIn F L xs po fz gz g C ph w H hp) : ∃ y H' hp', X 649 163 (0, lv_args 0 [.ref (ph 11 0), .int p0, .int p1], [], hp, w.2.2) (.inl (some (.int y)), hp', w.2.2) ∧ lIn F L xs po fz gz g C ph w H' hp' := by
  have has : ([jT, .inl p0.toInt, .inl p1.toInt] : List jV).map (jm ph) = [.ref (ph 11 0), .int p0, .int p1] := by
    simp only [List.map_cons, List.map_nil, i32m]
    rfl
  have hG := hI.1.2.1
  obtain ⟨h0, h1, h2, h3, h4, h5, h6, h7, h8, h9⟩ := id hG
  obtain ⟨v, H', hp', hX, hI', ⟨y, rfl⟩, he⟩ := l_ref (d := 649) (K := 163) (Q := fun v H' => (∃ y, v = some (.inl y)) ∧ H'.2.2.1 79 0 = H.2.2.1 79 0) hI has (J.post (g_sum (d := 346) (w := wNo w) h0 h1 h2 h3 h4 h5 h6 h7 h8 h9 (i32R p0) (i32R p1)) (by
    rintro o w' H' ⟨v, rfl, hw, t0, e, tgP, tgX, tgL, tgZ, tgQ, tgB, tgK, tgN, tgW, y, rfl, -⟩
    exact ⟨_, rfl, hw, ⟨t0, tgP, tgX, tgL, tgZ, tgQ, tgB, tgK, tgN, tgW⟩, ⟨y, rfl⟩, e.r 79 (by decide)⟩)) (by rintro v H' ⟨⟨y, rfl⟩, -⟩ p1 p2; rfl)
  exact ⟨_, _, hp', hX, hI'.eqg (fun n a b => by rw [he]; exact (hI.2.1 n a b).2)⟩
theorem s_follow {p0 : Int32} (hI : lIn F L xs po fz gz g C ph w H hp) : sOut 649 189 F L xs po fz gz C ph w hp [.ref F.1, .int p0, .ref (po + 1)] := by
  have has : ([.inr (some (10, F.1)), .inl p0.toInt] : List jV).map (jm ph) = [.ref F.1, .int p0] := by
    simp only [List.map_cons, List.map_nil, i32m]
    show Value.ref (ph 10 F.1) :: _ = _
    rw [hI.1.1.2.2.2.2.1 10 _ rfl]
  obtain ⟨fs, h10⟩ := hI.at10
  obtain ⟨o, w', H', ph', hp', hX, hI', e11, hq, -, hfl⟩ := l_cls (d := 648) (K := 86) (ks := [20100, 40020]) (Q := fun o H' => (∃ rv, o = .inl (some (.inl rv))) ∨ o = .inr 14) hI has (fun T hT => J.post (c_X10_follow (d := 644) hT (i32R p0)) (by
    rintro o w' H' ⟨T', a1, a2, a3, m1, m2, q⟩
    refine ⟨T', a1, a3, by unfold cRm; omega, by unfold cRs; omega, ?_⟩
    rcases q with ⟨v, rfl, rv, rfl, -⟩ | rfl
    · exact Or.inl ⟨rv, rfl⟩
    · exact Or.inr (rfl))) (by decide) (by rintro o H' (⟨rv, rfl⟩ | rfl) p1 p2 <;> rfl)
  have hI2 := hI'.eqf (hfl (by decide))
  rcases hq with ⟨rv, rfl⟩ | rfl
  · have hX : X 648 86 _ (.inl (some (.int (Int32.ofInt rv))), hp', w'.2.2) := hX
    refine ⟨Int32.ofInt 0, w', _, ph', _, _, ?_, hI2.set (g' := vp_updL g 0 (Int32.ofInt rv).toInt64), e11⟩
    refine X.run 4 rfl ?_
    refine X.inv rfl rfl rfl rfl rfl h10 rfl rfl rfl rfl hX ?_
    refine X.run 1 rfl ?_
    refine X.las rfl rfl hI2.so rfl ?_
    refine X.run 2 rfl ?_
    exact X.ret (q := (xmts[189]?).get rfl) ⟨rfl, rfl, rfl, rfl⟩ rfl
  · have hX : X 648 86 _ (.inr 14, hp', w'.2.2) := hX
    refine ⟨(xhnd 189 4 14).get rfl, w', _, ph', hp', g, ?_, hI2, e11⟩
    refine X.run 4 rfl ?_
    exact X.invX rfl rfl rfl rfl rfl h10 rfl rfl rfl rfl hX rfl
theorem r_follow {p0 : Int32} (hI : lIn F L xs po fz gz g C ph w H hp) : ∃ y H' hp', X 649 168 (0, lv_args 0 [.ref (ph 11 0), .int p0], [], hp, w.2.2) (.inl (some (.int y)), hp', w.2.2) ∧ lIn F L xs po fz gz g C ph w H' hp' := by
  have has : ([jT, .inl p0.toInt] : List jV).map (jm ph) = [.ref (ph 11 0), .int p0] := by
    simp only [List.map_cons, List.map_nil, i32m]
    rfl
  have hG := hI.1.2.1
  obtain ⟨h0, h1, h2, h3, h4, h5, h6, h7, h8, h9⟩ := id hG
  obtain ⟨v, H', hp', hX, hI', ⟨y, rfl⟩, he⟩ := l_ref (d := 649) (K := 168) (Q := fun v H' => (∃ y, v = some (.inl y)) ∧ H'.2.2.1 79 0 = H.2.2.1 79 0) hI has (J.post (g_follow (d := 42) (w := wNo w) h0 h1 h2 h3 h4 h5 h6 h7 h8 h9 (i32R p0)) (by
    rintro o w' H' ⟨v, rfl, hw, t0, e, tgP, tgX, tgL, tgZ, tgQ, tgB, tgK, tgN, tgW, y, rfl, -⟩
    exact ⟨_, rfl, hw, ⟨t0, tgP, tgX, tgL, tgZ, tgQ, tgB, tgK, tgN, tgW⟩, ⟨y, rfl⟩, e.r 79 (by decide)⟩)) (by rintro v H' ⟨⟨y, rfl⟩, -⟩ p1 p2; rfl)
  exact ⟨_, _, hp', hX, hI'.eqg (fun n a b => by rw [he]; exact (hI.2.1 n a b).2)⟩
theorem s_count {p0 : Int32} (hI : lIn F L xs po fz gz g C ph w H hp) : sOut 649 190 F L xs po fz gz C ph w hp [.ref F.1, .int p0, .ref (po + 1)] := by
  have has : ([.inr (some (10, F.1)), .inl p0.toInt] : List jV).map (jm ph) = [.ref F.1, .int p0] := by
    simp only [List.map_cons, List.map_nil, i32m]
    show Value.ref (ph 10 F.1) :: _ = _
    rw [hI.1.1.2.2.2.2.1 10 _ rfl]
  obtain ⟨fs, h10⟩ := hI.at10
  obtain ⟨o, w', H', ph', hp', hX, hI', e11, hq, -, hfl⟩ := l_cls (d := 648) (K := 87) (ks := []) (Q := fun o H' => (∃ rv, o = .inl (some (.inl rv))) ∨ o = .inr 12) hI has (fun T hT => J.post (c_X10_count (d := 645) hT (i32R p0)) (by
    rintro o w' H' ⟨T', a1, a2, a3, m1, m2, q⟩
    refine ⟨T', a1, a3, by unfold cRm; omega, by unfold cRs; omega, ?_⟩
    rcases q with ⟨v, rfl, rv, rfl, -⟩ | rfl
    · exact Or.inl ⟨rv, rfl⟩
    · exact Or.inr (rfl))) (by decide) (by rintro o H' (⟨rv, rfl⟩ | rfl) p1 p2 <;> rfl)
  have hI2 := hI'.eqf (hfl (by decide))
  rcases hq with ⟨rv, rfl⟩ | rfl
  · have hX : X 648 87 _ (.inl (some (.int (Int32.ofInt rv))), hp', w'.2.2) := hX
    refine ⟨Int32.ofInt 0, w', _, ph', _, _, ?_, hI2.set (g' := vp_updL g 0 (Int32.ofInt rv).toInt64), e11⟩
    refine X.run 4 rfl ?_
    refine X.inv rfl rfl rfl rfl rfl h10 rfl rfl rfl rfl hX ?_
    refine X.run 1 rfl ?_
    refine X.las rfl rfl hI2.so rfl ?_
    refine X.run 2 rfl ?_
    exact X.ret (q := (xmts[190]?).get rfl) ⟨rfl, rfl, rfl, rfl⟩ rfl
  · have hX : X 648 87 _ (.inr 12, hp', w'.2.2) := hX
    refine ⟨(xhnd 190 4 12).get rfl, w', _, ph', hp', g, ?_, hI2, e11⟩
    refine X.run 4 rfl ?_
    exact X.invX rfl rfl rfl rfl rfl h10 rfl rfl rfl rfl hX rfl
theorem r_count {p0 : Int32} (hI : lIn F L xs po fz gz g C ph w H hp) : ∃ y H' hp', X 649 169 (0, lv_args 0 [.ref (ph 11 0), .int p0], [], hp, w.2.2) (.inl (some (.int y)), hp', w.2.2) ∧ lIn F L xs po fz gz g C ph w H' hp' := by
  have has : ([jT, .inl p0.toInt] : List jV).map (jm ph) = [.ref (ph 11 0), .int p0] := by
    simp only [List.map_cons, List.map_nil, i32m]
    rfl
  have hG := hI.1.2.1
  obtain ⟨h0, h1, h2, h3, h4, h5, h6, h7, h8, h9⟩ := id hG
  obtain ⟨v, H', hp', hX, hI', ⟨y, rfl⟩, he⟩ := l_ref (d := 649) (K := 169) (Q := fun v H' => (∃ y, v = some (.inl y)) ∧ H'.2.2.1 79 0 = H.2.2.1 79 0) hI has (J.post (g_count (d := 648) (w := wNo w) h0 h1 h2 h3 h4 h5 h6 h7 h8 h9 (i32R p0)) (by
    rintro o w' H' ⟨v, rfl, hw, t0, e, tgP, tgX, tgL, tgZ, tgQ, tgB, tgK, tgN, tgW, y, rfl, -⟩
    exact ⟨_, rfl, hw, ⟨t0, tgP, tgX, tgL, tgZ, tgQ, tgB, tgK, tgN, tgW⟩, ⟨y, rfl⟩, e.r 79 (by decide)⟩)) (by rintro v H' ⟨⟨y, rfl⟩, -⟩ p1 p2; rfl)
  exact ⟨_, _, hp', hX, hI'.eqg (fun n a b => by rw [he]; exact (hI.2.1 n a b).2)⟩
/-- fault and power, exactly -/
theorem lg_self (x : Int64) : lg_cmp x x = 0 := by
  unfold lg_cmp
  simp
theorem s_fault {p0 : Int32} (hI : lIn F L xs po fz gz g C ph w H hp) : ∃ k w' H' ph' hp' g', X 649 175 (0, lv_args 0 [.ref F.1, .int p0, .ref (po + 1)], [], hp, w.2.2) (.inl (some (.int k)), hp', w'.2.2) ∧ lIn F L xs po (fF fz p0.toInt) gz g' (C + 1700) ph' w' H' hp' ∧ ph' 11 0 = ph 11 0 ∧ (((0 ≤ p0.toInt ∧ p0.toInt ≤ 15) ∧ k = Int32.ofInt 0 ∧ g' 0 = (Int32.ofInt (jcnt (fF fz p0.toInt) 16)).toInt64) ∨ (¬ (0 ≤ p0.toInt ∧ p0.toInt ≤ 15) ∧ k = Int32.ofInt 1)) := by
  have has : ([.inr (some (10, F.1)), .inl p0.toInt] : List jV).map (jm ph) = [.ref F.1, .int p0] := by
    simp only [List.map_cons, List.map_nil, i32m]
    show Value.ref (ph 10 F.1) :: _ = _
    rw [hI.1.1.2.2.2.2.1 10 _ rfl]
  obtain ⟨fs, h10⟩ := hI.at10
  obtain ⟨o, w', H', ph', hp', hX, hI', e11, hq, hc, -⟩ := l_cls (d := 648) (K := 72) (ks := [610, 611]) (Q := fun o H' => (∃ rv, o = .inl (some (.inl rv)) ∧ rv = jcnt (cfl F H') 16 ∧ 0 ≤ p0.toInt ∧ p0.toInt ≤ 15 ∧ ∃ q, cnd F H p0.toInt = some q ∧ H'.1 6 10 q = 1 ∧ ∀ p, p ≠ q → H'.1 6 10 p = H.1 6 10 p) ∨ (o = .inr 14 ∧ (p0.toInt < 0 ∨ 15 < p0.toInt) ∧ H'.1 = H.1)) hI has (fun T hT => J.post (c_X10_fault (d := 647) hT (i32R p0)) (by
    rintro o w' H' ⟨T', a1, a2, a3, m1, m2, q⟩
    refine ⟨T', a1, a3, by unfold cRm; omega, by unfold cRs; omega, ?_⟩
    rcases q with ⟨v, rfl, rv, rfl, q⟩ | q
    · exact Or.inl ⟨rv, rfl, q⟩
    · exact Or.inr q)) (by decide) (by rintro o H' (⟨rv, rfl, -⟩ | ⟨rfl, -⟩) p1 p2 <;> rfl)
  have hd := hI.2.2.1
  have hf := fun n a b => (hI.2.1 n a b).1
  rcases hq with ⟨rv, rfl, hrv, r0, r1, q, c0, c1, c2⟩ | ⟨rfl, hr, he⟩
  · have hX : X 648 72 _ (.inl (some (.int (Int32.ofInt rv))), hp', w'.2.2) := hX
    have ef : ∀ n, 0 ≤ n → n < 16 → cfl F H' n = fF fz p0.toInt n := fun n a b => by
      unfold fF
      rw [if_pos ⟨r0, r1⟩]
      unfold jup
      by_cases hn : n = p0.toInt
      · rw [if_pos hn]
        have h9 : H'.2.2.2.1 40 F.1 n = some q := (hc n).trans (by rw [hn]; exact c0)
        unfold cfl
        rw [h9]
        exact c1
      · rw [if_neg hn, ← hf n a b]
        unfold cfl
        rw [show H'.2.2.2.1 40 F.1 n = H.2.2.2.1 40 F.1 n from hc n]
        cases hq : H.2.2.2.1 40 F.1 n with
        | none => rfl
        | some q' => exact c2 q' fun z => hn (hd n _ a b r0 (by omega) (by rw [c0]; exact hq.trans (by rw [z])))
    have hI2 := hI'.eqf ef
    refine ⟨Int32.ofInt 0, w', _, ph', _, _, ?_, hI2.set (g' := vp_updL g 0 (Int32.ofInt rv).toInt64), e11, Or.inl ⟨⟨r0, r1⟩, rfl, ?_⟩⟩
    · refine X.run 4 rfl ?_
      refine X.inv rfl rfl rfl rfl rfl h10 rfl rfl rfl rfl hX ?_
      refine X.run 1 rfl ?_
      refine X.las rfl rfl hI2.so rfl ?_
      refine X.run 2 rfl ?_
      exact X.ret (q := (xmts[175]?).get rfl) ⟨rfl, rfl, rfl, rfl⟩ rfl
    · show (Int32.ofInt rv).toInt64 = _
      rw [hrv, jcnt_ext (g' := fF fz p0.toInt) 16 fun j hj => ef j (by omega) (by omega)]
  · have hX : X 648 72 _ (.inr 14, hp', w'.2.2) := hX
    have ef : ∀ n, 0 ≤ n → n < 16 → cfl F H' n = fF fz p0.toInt n := fun n a b => by
      unfold fF
      rw [if_neg (by omega), ← hf n a b]
      unfold cfl
      rw [show H'.2.2.2.1 40 F.1 n = H.2.2.2.1 40 F.1 n from hc n, he]
    refine ⟨Int32.ofInt 1, w', _, ph', hp', g, ?_, hI'.eqf ef, e11, Or.inr ⟨by omega, rfl⟩⟩
    refine X.run 4 rfl ?_
    exact X.invX rfl rfl rfl rfl rfl h10 rfl rfl rfl rfl hX rfl
theorem r_fault {p0 : Int32} (hI : lIn F L xs po (fF fz p0.toInt) fz g C ph w H hp) : ∃ y H' hp', X 649 147 (0, lv_args 0 [.ref (ph 11 0), .int p0], [], hp, w.2.2) (.inl (some (.int y)), hp', w.2.2) ∧ lIn F L xs po (fF fz p0.toInt) (fF fz p0.toInt) g C ph w H' hp' ∧ ((0 ≤ p0.toInt ∧ p0.toInt ≤ 15 → H'.1 11 47 0 = 0 ∧ y = Int32.ofInt (jcnt (fF fz p0.toInt) 16)) ∧ (¬ (0 ≤ p0.toInt ∧ p0.toInt ≤ 15) → H'.1 11 47 0 = 1)) := by
  have has : ([jT, .inl p0.toInt] : List jV).map (jm ph) = [.ref (ph 11 0), .int p0] := by
    simp only [List.map_cons, List.map_nil, i32m]
    rfl
  have hG := hI.1.2.1
  obtain ⟨h0, h1, h2, h3, h4, h5, h6, h7, h8, h9⟩ := id hG
  obtain ⟨v, H', hp', hX, hI', y, rfl, q1, q2⟩ := l_ref (d := 649) (K := 147) (Q := fun v H' => ∃ y, v = some (.inl y) ∧ (¬ (0 ≤ p0.toInt ∧ p0.toInt ≤ 15) → y = 0 ∧ H'.1 11 47 0 = 1 ∧ H'.2.2.1 79 0 = H.2.2.1 79 0) ∧ (0 ≤ p0.toInt ∧ p0.toInt ≤ 15 → y = jcnt (H'.2.2.1 79 0) 16 ∧ H'.1 11 47 0 = 0 ∧ H'.2.2.1 79 0 = jup (H.2.2.1 79 0) p0.toInt 1)) hI has (J.post (g_fault (d := 648) (w := wNo w) h0 h1 h2 h3 h4 h5 h7 h8 h9 h6 (i32R p0)) (by
    rintro o w' H' ⟨v, rfl, hw, t0, e, tgP, tgX, tgL, tgZ, tgQ, tgK, tgN, tgW, tgB, y, rfl, q⟩
    exact ⟨_, rfl, hw, ⟨t0, tgP, tgX, tgL, tgZ, tgQ, tgB, tgK, tgN, tgW⟩, y, rfl, q⟩)) (by rintro v H' ⟨y, rfl, -⟩ p1 p2; rfl)
  have ef : ∀ n, 0 ≤ n → n < 16 → H'.2.2.1 79 0 n = fF fz p0.toInt n := fun n a b => by
    have hg := (hI.2.1 n a b).2
    unfold fF
    by_cases hr : 0 ≤ p0.toInt ∧ p0.toInt ≤ 15
    · rw [if_pos hr, (q2 hr).2.2]
      unfold jup
      by_cases hn : n = p0.toInt
      · rw [if_pos hn, if_pos hn]
      · rw [if_neg hn, if_neg hn]
        exact hg
    · rw [if_neg hr, (q1 hr).2.2]
      exact hg
  refine ⟨_, _, hp', hX, hI'.eqg ef, fun hr => ⟨(q2 hr).2.1, ?_⟩, fun hr => (q1 hr).2.1⟩
  rw [(q2 hr).1, jcnt_ext (g' := fF fz p0.toInt) 16 fun j hj => ef j (by omega) (by omega)]
def pK (n b : Int) : Int := if 0 ≤ n ∧ n ≤ 15 then (if 0 ≤ b ∧ b ≤ 13 then 0 else 2) else 1
theorem s_power {p0 p1 : Int32} (hI : lIn F L xs po fz gz g C ph w H hp) : ∃ k w' H' ph' hp' g', X 649 182 (0, lv_args 0 [.ref F.1, .int p0, .int p1], [], hp, w.2.2) (.inl (some (.int k)), hp', w'.2.2) ∧ lIn F L xs po fz gz g' (C + 1700) ph' w' H' hp' ∧ ph' 11 0 = ph 11 0 ∧ k = Int32.ofInt (pK p0.toInt p1.toInt) := by
  have has : ([.inr (some (10, F.1)), .inl p0.toInt, .inl p1.toInt] : List jV).map (jm ph) = [.ref F.1, .int p0, .int p1] := by
    simp only [List.map_cons, List.map_nil, i32m]
    show Value.ref (ph 10 F.1) :: _ = _
    rw [hI.1.1.2.2.2.2.1 10 _ rfl]
  obtain ⟨fs, h10⟩ := hI.at10
  obtain ⟨o, w', H', ph', hp', hX, hI', e11, hq, -, hfl⟩ := l_cls (d := 648) (K := 79) (ks := [612]) (Q := fun o H' => (o = .inl none ∧ (0 ≤ p0.toInt ∧ p0.toInt ≤ 15) ∧ 0 ≤ p1.toInt ∧ p1.toInt ≤ 13) ∨ (o = .inr 14 ∧ (p0.toInt < 0 ∨ 15 < p0.toInt)) ∨ (o = .inr 12 ∧ (0 ≤ p0.toInt ∧ p0.toInt ≤ 15 ∧ (p1.toInt < 0 ∨ 13 < p1.toInt)))) hI has (fun T hT => J.post (c_X10_power (d := 647) hT (i32R p0) (i32R p1)) (by
    rintro o w' H' ⟨T', a1, a2, a3, m1, m2, q⟩
    refine ⟨T', a1, a3, by unfold cRm; omega, by unfold cRs; omega, ?_⟩
    rcases q with ⟨v, rfl, q⟩ | q | q
    · exact Or.inl ⟨by rw [q.1], ⟨q.2.1, q.2.2.1⟩, q.2.2.2⟩
    · exact Or.inr (Or.inl q)
    · exact Or.inr (Or.inr q))) (by decide) (by rintro o H' (⟨rfl, -⟩ | ⟨rfl, -⟩ | ⟨rfl, -⟩) p1 p2 <;> rfl)
  have hI2 := hI'.eqf (hfl (by decide))
  unfold pK
  rcases hq with ⟨rfl, r0, r1⟩ | ⟨rfl, r0⟩ | ⟨rfl, r0, r1, r2⟩
  · have hX : X 648 79 _ (.inl none, hp', w'.2.2) := hX
    refine ⟨Int32.ofInt 0, w', _, ph', hp', g, ?_, hI2, e11, by rw [if_pos r0, if_pos r1]⟩
    refine X.run 3 rfl ?_
    refine X.inv rfl rfl rfl rfl rfl h10 rfl rfl rfl rfl hX ?_
    refine X.run 2 rfl ?_
    exact X.ret (q := (xmts[182]?).get rfl) ⟨rfl, rfl, rfl, rfl⟩ rfl
  · have hX : X 648 79 _ (.inr 14, hp', w'.2.2) := hX
    refine ⟨Int32.ofInt 1, w', _, ph', hp', g, ?_, hI2, e11, by rw [if_neg (by omega)]⟩
    refine X.run 3 rfl ?_
    exact X.invX rfl rfl rfl rfl rfl h10 rfl rfl rfl rfl hX rfl
  · have hX : X 648 79 _ (.inr 12, hp', w'.2.2) := hX
    refine ⟨Int32.ofInt 2, w', _, ph', hp', g, ?_, hI2, e11, by rw [if_pos ⟨r0, r1⟩, if_neg (by omega)]⟩
    refine X.run 3 rfl ?_
    exact X.invX rfl rfl rfl rfl rfl h10 rfl rfl rfl rfl hX rfl
theorem g_powerX {d : Nat} {w : jW} {n b : Int} {H : jH} (hT : gT H)  (hp0 : -2147483648 ≤ n ∧ n ≤ 2147483647) (hp1 : -2147483648 ≤ b ∧ b ≤ 2147483647) : J true (d + 1) 156 w (0, jargs 0 [jT, .inl n, .inl b], [], H) (jN fun v w' H' => w' = w ∧ gT H' ∧ jEx [47] [82] H' H ∧ v = none ∧ H'.1 11 47 0 = pK n b) := by
  have hE : jEx [47] [82] H H := jEx.refl _ _ _
  refine J.run0 4 rfl ?_
  try dsimp only
  refine J.ins rfl rfl rfl rfl rfl rfl rfl rfl rfl (g_in (u := n) (a := (0 : Int)) (b := (15 : Int)) hT  (show -2147483648 ≤ (n) ∧ (n) ≤ 2147483647 from ⟨by omega, by omega⟩) (show -2147483648 ≤ ((0 : Int)) ∧ ((0 : Int)) ≤ 2147483647 from ⟨by omega, by omega⟩) (show -2147483648 ≤ ((15 : Int)) ∧ ((15 : Int)) ≤ 2147483647 from ⟨by omega, by omega⟩)) ?_
  rintro v w H ⟨rfl, rfl, x1, rfl, r2⟩
  have r2' : (x1 = 0 ∨ x1 = 1) ∧ (x1 = 1 → (n) ≥ ((0 : Int)) ∧ (n) ≤ ((15 : Int))) ∧ (x1 = 0 → (n) < ((0 : Int)) ∨ ((15 : Int)) < (n)) := r2
  try dsimp only [Option.toList, List.append, List.cons_append, List.nil_append]
  refine J.ifc rfl rfl rfl (show -2147483648 ≤ x1 ∧ x1 ≤ 2147483647 from ⟨by omega, by omega⟩) (fun hc => ?_) (fun hc => ?_)
  · have c3 : ¬ (x1 = (0 : Int)) := hc
    clear hc
    refine J.run0 3 rfl ?_
    try dsimp only
    refine J.ins rfl rfl rfl rfl rfl rfl rfl rfl rfl (g_in (u := b) (a := (0 : Int)) (b := (13 : Int)) hT  (show -2147483648 ≤ (b) ∧ (b) ≤ 2147483647 from ⟨by omega, by omega⟩) (show -2147483648 ≤ ((0 : Int)) ∧ ((0 : Int)) ≤ 2147483647 from ⟨by omega, by omega⟩) (show -2147483648 ≤ ((13 : Int)) ∧ ((13 : Int)) ≤ 2147483647 from ⟨by omega, by omega⟩)) ?_
    rintro v w H ⟨rfl, rfl, x4, rfl, r5⟩
    have r5' : (x4 = 0 ∨ x4 = 1) ∧ (x4 = 1 → (b) ≥ ((0 : Int)) ∧ (b) ≤ ((13 : Int))) ∧ (x4 = 0 → (b) < ((0 : Int)) ∨ ((13 : Int)) < (b)) := r5
    try dsimp only [Option.toList, List.append, List.cons_append, List.nil_append]
    refine J.ifc rfl rfl rfl (show -2147483648 ≤ x4 ∧ x4 ≤ 2147483647 from ⟨by omega, by omega⟩) (fun hc => ?_) (fun hc => ?_)
    · have c6 : ¬ (x4 = (0 : Int)) := hc
      clear hc
      refine J.run0 2 rfl ?_
      try dsimp only
      refine J.gn fun H7 hH7 => ?_
      have hT8 : gT H7 := by rw [hH7]; exact gT.num (f := 47) hT (show 0 ≤ (0 : Int) ∧ (0 : Int) ≤ 3 from ⟨by omega, by omega⟩) (by decide) (fun z => absurd z (by decide))
      have hE9 : jEx [47] [82] H7 H := by rw [hH7]; exact jEx.num hE (by decide)
      have g10 : H7.1 11 47 0 = (0 : Int) := by subst hH7; rfl
      have g11 : H7.1 11 12 0 = H.1 11 12 0 := by subst hH7; rfl
      have zg11 : H7.1 11 47 0 = H7.1 11 47 0 := rfl
      clear hH7
      have f12 : 0 ≤ H7.1 11 47 0 ∧ H7.1 11 47 0 ≤ 3 := hT8.2.1 47
      refine J.run0 2 rfl ?_
      try dsimp only
      refine J.ifc rfl rfl rfl (show -2147483648 ≤ H7.1 11 47 0 ∧ H7.1 11 47 0 ≤ 2147483647 from ⟨by omega, by omega⟩) (fun hc => ?_) (fun hc => ?_)
      · have c13 : ¬ (H7.1 11 47 0 = (0 : Int)) := hc
        clear hc
        exact J.retv rfl rfl rfl ⟨_, rfl, rfl, hT8, hE9, rfl, (show H7.1 11 47 0 = pK n b by unfold pK; split <;> (try split) <;> omega)⟩
      · have c14 : ¬ (¬ (H7.1 11 47 0 = (0 : Int))) := hc
        clear hc
        refine J.run 5 rfl (show 0 ≤ n ∧ n < 16 from ⟨by omega, by omega⟩) ?_
        try dsimp only
        refine J.gn fun H15 hH15 => ?_
        have hT16 : gT H15 := by rw [hH15]; exact gT.upd hT8 (show 0 ≤ b ∧ b ≤ 13 from ⟨by omega, by omega⟩) (fun z => absurd z (by decide))
        have hE17 : jEx [47] [82] H15 H := by rw [hH15]; exact jEx.row hE9 (by decide)
        have zg18 : H15.1 11 47 0 = H7.1 11 47 0 := by subst hH15; rfl
        have g18 : H15.2.2.1 82 0 (n) = b := by subst hH15; exact if_pos rfl
        have g19 : H15.1 11 12 0 = H7.1 11 12 0 := by subst hH15; rfl
        have zg19 : H15.1 11 47 0 = H15.1 11 47 0 := rfl
        clear hH15
        exact J.retv rfl rfl rfl ⟨_, rfl, rfl, hT16, hE17, rfl, (show H15.1 11 47 0 = pK n b by unfold pK; split <;> (try split) <;> omega)⟩
    · have c20 : ¬ (¬ (x4 = (0 : Int))) := hc
      clear hc
      refine J.run0 3 rfl ?_
      try dsimp only
      refine J.gn fun H21 hH21 => ?_
      have hT22 : gT H21 := by rw [hH21]; exact gT.num (f := 47) hT (show 0 ≤ (2 : Int) ∧ (2 : Int) ≤ 3 from ⟨by omega, by omega⟩) (by decide) (fun z => absurd z (by decide))
      have hE23 : jEx [47] [82] H21 H := by rw [hH21]; exact jEx.num hE (by decide)
      have g24 : H21.1 11 47 0 = (2 : Int) := by subst hH21; rfl
      have g25 : H21.1 11 12 0 = H.1 11 12 0 := by subst hH21; rfl
      have zg25 : H21.1 11 47 0 = H21.1 11 47 0 := rfl
      clear hH21
      have f26 : 0 ≤ H21.1 11 47 0 ∧ H21.1 11 47 0 ≤ 3 := hT22.2.1 47
      refine J.run0 2 rfl ?_
      try dsimp only
      refine J.ifc rfl rfl rfl (show -2147483648 ≤ H21.1 11 47 0 ∧ H21.1 11 47 0 ≤ 2147483647 from ⟨by omega, by omega⟩) (fun hc => ?_) (fun hc => ?_)
      · have c27 : ¬ (H21.1 11 47 0 = (0 : Int)) := hc
        clear hc
        exact J.retv rfl rfl rfl ⟨_, rfl, rfl, hT22, hE23, rfl, (show H21.1 11 47 0 = pK n b by unfold pK; split <;> (try split) <;> omega)⟩
      · have c28 : ¬ (¬ (H21.1 11 47 0 = (0 : Int))) := hc
        clear hc
        refine J.run 5 rfl (show 0 ≤ n ∧ n < 16 from ⟨by omega, by omega⟩) ?_
        try dsimp only
        refine J.gn fun H29 hH29 => ?_
        have hT30 : gT H29 := by rw [hH29]; exact gT.upd hT22 (show 0 ≤ b ∧ b ≤ 13 from ⟨by omega, by omega⟩) (fun z => absurd z (by decide))
        have hE31 : jEx [47] [82] H29 H := by rw [hH29]; exact jEx.row hE23 (by decide)
        have zg32 : H29.1 11 47 0 = H21.1 11 47 0 := by subst hH29; rfl
        have g32 : H29.2.2.1 82 0 (n) = b := by subst hH29; exact if_pos rfl
        have g33 : H29.1 11 12 0 = H21.1 11 12 0 := by subst hH29; rfl
        have zg33 : H29.1 11 47 0 = H29.1 11 47 0 := rfl
        clear hH29
        exact J.retv rfl rfl rfl ⟨_, rfl, rfl, hT30, hE31, rfl, (show H29.1 11 47 0 = pK n b by unfold pK; split <;> (try split) <;> omega)⟩
  · have c34 : ¬ (¬ (x1 = (0 : Int))) := hc
    clear hc
    refine J.run0 3 rfl ?_
    try dsimp only
    refine J.gn fun H35 hH35 => ?_
    have hT36 : gT H35 := by rw [hH35]; exact gT.num (f := 47) hT (show 0 ≤ (1 : Int) ∧ (1 : Int) ≤ 3 from ⟨by omega, by omega⟩) (by decide) (fun z => absurd z (by decide))
    have hE37 : jEx [47] [82] H35 H := by rw [hH35]; exact jEx.num hE (by decide)
    have g38 : H35.1 11 47 0 = (1 : Int) := by subst hH35; rfl
    have g39 : H35.1 11 12 0 = H.1 11 12 0 := by subst hH35; rfl
    have zg39 : H35.1 11 47 0 = H35.1 11 47 0 := rfl
    clear hH35
    have f40 : 0 ≤ H35.1 11 47 0 ∧ H35.1 11 47 0 ≤ 3 := hT36.2.1 47
    refine J.run0 2 rfl ?_
    try dsimp only
    refine J.ifc rfl rfl rfl (show -2147483648 ≤ H35.1 11 47 0 ∧ H35.1 11 47 0 ≤ 2147483647 from ⟨by omega, by omega⟩) (fun hc => ?_) (fun hc => ?_)
    · have c41 : ¬ (H35.1 11 47 0 = (0 : Int)) := hc
      clear hc
      exact J.retv rfl rfl rfl ⟨_, rfl, rfl, hT36, hE37, rfl, (show H35.1 11 47 0 = pK n b by unfold pK; split <;> (try split) <;> omega)⟩
    · have c42 : ¬ (¬ (H35.1 11 47 0 = (0 : Int))) := hc
      clear hc
      refine J.run 5 rfl (show 0 ≤ n ∧ n < 16 from ⟨by omega, by omega⟩) ?_
      try dsimp only
      refine J.gn fun H43 hH43 => ?_
      have hT44 : gT H43 := by rw [hH43]; exact gT.upd hT36 (show 0 ≤ b ∧ b ≤ 13 from ⟨by omega, by omega⟩) (fun z => absurd z (by decide))
      have hE45 : jEx [47] [82] H43 H := by rw [hH43]; exact jEx.row hE37 (by decide)
      have zg46 : H43.1 11 47 0 = H35.1 11 47 0 := by subst hH43; rfl
      have g46 : H43.2.2.1 82 0 (n) = b := by subst hH43; exact if_pos rfl
      have g47 : H43.1 11 12 0 = H35.1 11 12 0 := by subst hH43; rfl
      have zg47 : H43.1 11 47 0 = H43.1 11 47 0 := rfl
      clear hH43
      exact J.retv rfl rfl rfl ⟨_, rfl, rfl, hT44, hE45, rfl, (show H43.1 11 47 0 = pK n b by unfold pK; split <;> (try split) <;> omega)⟩
theorem r_power {p0 p1 : Int32} (hI : lIn F L xs po fz gz g C ph w H hp) : ∃ H' hp', X 649 156 (0, lv_args 0 [.ref (ph 11 0), .int p0, .int p1], [], hp, w.2.2) (.inl none, hp', w.2.2) ∧ lIn F L xs po fz gz g C ph w H' hp' ∧ H'.1 11 47 0 = pK p0.toInt p1.toInt := by
  have has : ([jT, .inl p0.toInt, .inl p1.toInt] : List jV).map (jm ph) = [.ref (ph 11 0), .int p0, .int p1] := by
    simp only [List.map_cons, List.map_nil, i32m]
    rfl
  have hG := hI.1.2.1
  obtain ⟨v, H', hp', hX, hI', rfl, he, hp⟩ := l_ref (d := 649) (K := 156) (Q := fun v H' => v = none ∧ H'.2.2.1 79 0 = H.2.2.1 79 0 ∧ H'.1 11 47 0 = pK p0.toInt p1.toInt) hI has (J.post (g_powerX (d := 648) (w := wNo w) hG.1 (i32R p0) (i32R p1)) (by
    rintro o w' H' ⟨v, rfl, hw, t0, e, rfl, q⟩
    exact ⟨_, rfl, hw, hG.ex t0 e (by decide), rfl, e.r 79 (by decide), q⟩)) (by rintro v H' ⟨rfl, -⟩ p1 p2; rfl)
  exact ⟨_, hp', hX, hI'.eqg (fun n a b => by rw [he]; exact (hI.2.1 n a b).2), hp⟩
end TM
