/-! the small methods of the law (printed by gen_small.py) -/
section TF
variable {d : Nat} {ph : Nat → Nat → Nat} {w : jW} {H : jH} {hp : List xC} {F : cF} {L : Nat} {xs : Nat → Int32} {po : Nat} {g : Nat → Int64}
theorem s_submit {p0 p1 p2 p3 : Int32} {k a : Int} {c : Nat} (hR : lRy ph w H hp L xs po g) (hx : w.1 10 (fX F)) (hJ : J true d 71 w (0, jargs 0 [.inr (some (10, fX F)), .inl p0.toInt, .inl p1.toInt, .inl p2.toInt, .inl p3.toInt], [], H) (cOut H k c a)) (hh : k ≠ 0 → xhnd 174 9 c = some (Int32.ofInt k)) : sOut (d + 1) 174 ph w hp L xs po [.ref (fX F), .int p0, .int p1, .int p2, .int p3, .ref (po + 1)] k a := by
  have has : ([.inr (some (10, fX F)), .inl p0.toInt, .inl p1.toInt, .inl p2.toInt, .inl p3.toInt] : List jV).map (jm ph) = [.ref (fX F), .int p0, .int p1, .int p2, .int p3] := by
    simp only [List.map_cons, List.map_nil, i32m]
    show Value.ref (ph 10 (fX F)) :: _ = _
    rw [hR.1.1.2.2.2.2.1 10 _ rfl]
  obtain ⟨fs, h10⟩ := hR.at10 hx
  obtain ⟨w', H', ph', hp', hX, hR', e11, r1, r2⟩ := l_call hR has hJ
  rcases hX with ⟨hX, rfl⟩ | ⟨hX, hk⟩
  · refine ⟨w', H', ph', _, _, ?_, hR'.set (g' := vp_updL g 0 (Int32.ofInt a).toInt64), fun _ => rfl, e11, r1, r2⟩
    refine X.run 7 rfl ?_
    refine X.inv rfl rfl rfl rfl rfl h10 rfl rfl rfl rfl hX ?_
    refine X.run 1 rfl ?_
    refine X.las rfl rfl hR'.2.2.1 rfl ?_
    refine X.run 2 rfl ?_
    exact X.ret (q := (xmts[174]?).get rfl) ⟨rfl, rfl, rfl, rfl⟩ rfl
  · refine ⟨w', H', ph', hp', g, ?_, hR', fun z => absurd z hk, e11, r1, r2⟩
    refine X.run 7 rfl ?_
    exact X.invX rfl rfl rfl rfl rfl h10 rfl rfl rfl rfl hX (hh hk)
theorem s_fault {p0 : Int32} {k a : Int} {c : Nat} (hR : lRy ph w H hp L xs po g) (hx : w.1 10 (fX F)) (hJ : J true d 72 w (0, jargs 0 [.inr (some (10, fX F)), .inl p0.toInt], [], H) (cOut H k c a)) (hh : k ≠ 0 → xhnd 175 4 c = some (Int32.ofInt k)) : sOut (d + 1) 175 ph w hp L xs po [.ref (fX F), .int p0, .ref (po + 1)] k a := by
  have has : ([.inr (some (10, fX F)), .inl p0.toInt] : List jV).map (jm ph) = [.ref (fX F), .int p0] := by
    simp only [List.map_cons, List.map_nil, i32m]
    show Value.ref (ph 10 (fX F)) :: _ = _
    rw [hR.1.1.2.2.2.2.1 10 _ rfl]
  obtain ⟨fs, h10⟩ := hR.at10 hx
  obtain ⟨w', H', ph', hp', hX, hR', e11, r1, r2⟩ := l_call hR has hJ
  rcases hX with ⟨hX, rfl⟩ | ⟨hX, hk⟩
  · refine ⟨w', H', ph', _, _, ?_, hR'.set (g' := vp_updL g 0 (Int32.ofInt a).toInt64), fun _ => rfl, e11, r1, r2⟩
    refine X.run 4 rfl ?_
    refine X.inv rfl rfl rfl rfl rfl h10 rfl rfl rfl rfl hX ?_
    refine X.run 1 rfl ?_
    refine X.las rfl rfl hR'.2.2.1 rfl ?_
    refine X.run 2 rfl ?_
    exact X.ret (q := (xmts[175]?).get rfl) ⟨rfl, rfl, rfl, rfl⟩ rfl
  · refine ⟨w', H', ph', hp', g, ?_, hR', fun z => absurd z hk, e11, r1, r2⟩
    refine X.run 4 rfl ?_
    exact X.invX rfl rfl rfl rfl rfl h10 rfl rfl rfl rfl hX (hh hk)
theorem s_deliver {p0 p1 : Int32} {k a : Int} {c : Nat} (hR : lRy ph w H hp L xs po g) (hx : w.1 10 (fX F)) (hJ : J true d 73 w (0, jargs 0 [.inr (some (10, fX F)), .inl p0.toInt, .inl p1.toInt], [], H) (cOut H k c a)) (hh : k ≠ 0 → xhnd 176 5 c = some (Int32.ofInt k)) : sOut (d + 1) 176 ph w hp L xs po [.ref (fX F), .int p0, .int p1, .ref (po + 1)] k a := by
  have has : ([.inr (some (10, fX F)), .inl p0.toInt, .inl p1.toInt] : List jV).map (jm ph) = [.ref (fX F), .int p0, .int p1] := by
    simp only [List.map_cons, List.map_nil, i32m]
    show Value.ref (ph 10 (fX F)) :: _ = _
    rw [hR.1.1.2.2.2.2.1 10 _ rfl]
  obtain ⟨fs, h10⟩ := hR.at10 hx
  obtain ⟨w', H', ph', hp', hX, hR', e11, r1, r2⟩ := l_call hR has hJ
  rcases hX with ⟨hX, rfl⟩ | ⟨hX, hk⟩
  · refine ⟨w', H', ph', _, _, ?_, hR'.set (g' := vp_updL g 0 (Int32.ofInt a).toInt64), fun _ => rfl, e11, r1, r2⟩
    refine X.run 5 rfl ?_
    refine X.inv rfl rfl rfl rfl rfl h10 rfl rfl rfl rfl hX ?_
    refine X.run 1 rfl ?_
    refine X.las rfl rfl hR'.2.2.1 rfl ?_
    refine X.run 2 rfl ?_
    exact X.ret (q := (xmts[176]?).get rfl) ⟨rfl, rfl, rfl, rfl⟩ rfl
  · refine ⟨w', H', ph', hp', g, ?_, hR', fun z => absurd z hk, e11, r1, r2⟩
    refine X.run 5 rfl ?_
    exact X.invX rfl rfl rfl rfl rfl h10 rfl rfl rfl rfl hX (hh hk)
theorem s_spread {p0 p1 p2 : Int32} {k a : Int} {c : Nat} (hR : lRy ph w H hp L xs po g) (hx : w.1 10 (fX F)) (hJ : J true d 74 w (0, jargs 0 [.inr (some (10, fX F)), .inl p0.toInt, .inl p1.toInt, .inl p2.toInt], [], H) (cOut H k c a)) (hh : k ≠ 0 → xhnd 177 7 c = some (Int32.ofInt k)) : sOut (d + 1) 177 ph w hp L xs po [.ref (fX F), .int p0, .int p1, .int p2, .ref (po + 1)] k a := by
  have has : ([.inr (some (10, fX F)), .inl p0.toInt, .inl p1.toInt, .inl p2.toInt] : List jV).map (jm ph) = [.ref (fX F), .int p0, .int p1, .int p2] := by
    simp only [List.map_cons, List.map_nil, i32m]
    show Value.ref (ph 10 (fX F)) :: _ = _
    rw [hR.1.1.2.2.2.2.1 10 _ rfl]
  obtain ⟨fs, h10⟩ := hR.at10 hx
  obtain ⟨w', H', ph', hp', hX, hR', e11, r1, r2⟩ := l_call hR has hJ
  rcases hX with ⟨hX, rfl⟩ | ⟨hX, hk⟩
  · refine ⟨w', H', ph', _, _, ?_, hR'.set (g' := vp_updL g 0 (Int32.ofInt a).toInt64), fun _ => rfl, e11, r1, r2⟩
    refine X.run 6 rfl ?_
    refine X.inv rfl rfl rfl rfl rfl h10 rfl rfl rfl rfl hX ?_
    refine X.run 1 rfl ?_
    refine X.las rfl rfl hR'.2.2.1 rfl ?_
    refine X.run 2 rfl ?_
    exact X.ret (q := (xmts[177]?).get rfl) ⟨rfl, rfl, rfl, rfl⟩ rfl
  · refine ⟨w', H', ph', hp', g, ?_, hR', fun z => absurd z hk, e11, r1, r2⟩
    refine X.run 6 rfl ?_
    exact X.invX rfl rfl rfl rfl rfl h10 rfl rfl rfl rfl hX (hh hk)
theorem s_expire {p0 : Int32} {k a : Int} {c : Nat} (hR : lRy ph w H hp L xs po g) (hx : w.1 10 (fX F)) (hJ : J true d 75 w (0, jargs 0 [.inr (some (10, fX F)), .inl p0.toInt], [], H) (cOut H k c a)) (hh : k ≠ 0 → xhnd 178 4 c = some (Int32.ofInt k)) : sOut (d + 1) 178 ph w hp L xs po [.ref (fX F), .int p0, .ref (po + 1)] k a := by
  have has : ([.inr (some (10, fX F)), .inl p0.toInt] : List jV).map (jm ph) = [.ref (fX F), .int p0] := by
    simp only [List.map_cons, List.map_nil, i32m]
    show Value.ref (ph 10 (fX F)) :: _ = _
    rw [hR.1.1.2.2.2.2.1 10 _ rfl]
  obtain ⟨fs, h10⟩ := hR.at10 hx
  obtain ⟨w', H', ph', hp', hX, hR', e11, r1, r2⟩ := l_call hR has hJ
  rcases hX with ⟨hX, rfl⟩ | ⟨hX, hk⟩
  · refine ⟨w', H', ph', _, _, ?_, hR'.set (g' := vp_updL g 0 (Int32.ofInt a).toInt64), fun _ => rfl, e11, r1, r2⟩
    refine X.run 4 rfl ?_
    refine X.inv rfl rfl rfl rfl rfl h10 rfl rfl rfl rfl hX ?_
    refine X.run 1 rfl ?_
    refine X.las rfl rfl hR'.2.2.1 rfl ?_
    refine X.run 2 rfl ?_
    exact X.ret (q := (xmts[178]?).get rfl) ⟨rfl, rfl, rfl, rfl⟩ rfl
  · refine ⟨w', H', ph', hp', g, ?_, hR', fun z => absurd z hk, e11, r1, r2⟩
    refine X.run 4 rfl ?_
    exact X.invX rfl rfl rfl rfl rfl h10 rfl rfl rfl rfl hX (hh hk)
theorem s_forge {p0 p1 p2 p3 p4 p5 : Int32} {k a : Int} {c : Nat} (hR : lRy ph w H hp L xs po g) (hx : w.1 10 (fX F)) (hJ : J true d 76 w (0, jargs 0 [.inr (some (10, fX F)), .inl p0.toInt, .inl p1.toInt, .inl p2.toInt, .inl p3.toInt, .inl p4.toInt, .inl p5.toInt], [], H) (cOut H k c a)) (hh : k ≠ 0 → xhnd 179 13 c = some (Int32.ofInt k)) : sOut (d + 1) 179 ph w hp L xs po [.ref (fX F), .int p0, .int p1, .int p2, .int p3, .int p4, .int p5, .ref (po + 1)] k a := by
  have has : ([.inr (some (10, fX F)), .inl p0.toInt, .inl p1.toInt, .inl p2.toInt, .inl p3.toInt, .inl p4.toInt, .inl p5.toInt] : List jV).map (jm ph) = [.ref (fX F), .int p0, .int p1, .int p2, .int p3, .int p4, .int p5] := by
    simp only [List.map_cons, List.map_nil, i32m]
    show Value.ref (ph 10 (fX F)) :: _ = _
    rw [hR.1.1.2.2.2.2.1 10 _ rfl]
  obtain ⟨fs, h10⟩ := hR.at10 hx
  obtain ⟨w', H', ph', hp', hX, hR', e11, r1, r2⟩ := l_call hR has hJ
  rcases hX with ⟨hX, rfl⟩ | ⟨hX, hk⟩
  · refine ⟨w', H', ph', _, _, ?_, hR'.set (g' := vp_updL g 0 (Int32.ofInt a).toInt64), fun _ => rfl, e11, r1, r2⟩
    refine X.run 9 rfl ?_
    refine X.inv rfl rfl rfl rfl rfl h10 rfl rfl rfl rfl hX ?_
    refine X.run 1 rfl ?_
    refine X.las rfl rfl hR'.2.2.1 rfl ?_
    refine X.run 2 rfl ?_
    exact X.ret (q := (xmts[179]?).get rfl) ⟨rfl, rfl, rfl, rfl⟩ rfl
  · refine ⟨w', H', ph', hp', g, ?_, hR', fun z => absurd z hk, e11, r1, r2⟩
    refine X.run 9 rfl ?_
    exact X.invX rfl rfl rfl rfl rfl h10 rfl rfl rfl rfl hX (hh hk)
theorem s_block {p0 p1 p2 p3 p4 : Int32} {k a : Int} {c : Nat} (hR : lRy ph w H hp L xs po g) (hx : w.1 10 (fX F)) (hJ : J true d 77 w (0, jargs 0 [.inr (some (10, fX F)), .inl p0.toInt, .inl p1.toInt, .inl p2.toInt, .inl p3.toInt, .inl p4.toInt], [], H) (cOut H k c a)) (hh : k ≠ 0 → xhnd 180 11 c = some (Int32.ofInt k)) : sOut (d + 1) 180 ph w hp L xs po [.ref (fX F), .int p0, .int p1, .int p2, .int p3, .int p4, .ref (po + 1)] k a := by
  have has : ([.inr (some (10, fX F)), .inl p0.toInt, .inl p1.toInt, .inl p2.toInt, .inl p3.toInt, .inl p4.toInt] : List jV).map (jm ph) = [.ref (fX F), .int p0, .int p1, .int p2, .int p3, .int p4] := by
    simp only [List.map_cons, List.map_nil, i32m]
    show Value.ref (ph 10 (fX F)) :: _ = _
    rw [hR.1.1.2.2.2.2.1 10 _ rfl]
  obtain ⟨fs, h10⟩ := hR.at10 hx
  obtain ⟨w', H', ph', hp', hX, hR', e11, r1, r2⟩ := l_call hR has hJ
  rcases hX with ⟨hX, rfl⟩ | ⟨hX, hk⟩
  · refine ⟨w', H', ph', _, _, ?_, hR'.set (g' := vp_updL g 0 (Int32.ofInt a).toInt64), fun _ => rfl, e11, r1, r2⟩
    refine X.run 8 rfl ?_
    refine X.inv rfl rfl rfl rfl rfl h10 rfl rfl rfl rfl hX ?_
    refine X.run 1 rfl ?_
    refine X.las rfl rfl hR'.2.2.1 rfl ?_
    refine X.run 2 rfl ?_
    exact X.ret (q := (xmts[180]?).get rfl) ⟨rfl, rfl, rfl, rfl⟩ rfl
  · refine ⟨w', H', ph', hp', g, ?_, hR', fun z => absurd z hk, e11, r1, r2⟩
    refine X.run 8 rfl ?_
    exact X.invX rfl rfl rfl rfl rfl h10 rfl rfl rfl rfl hX (hh hk)
theorem s_sync {p0 p1 : Int32} {k a : Int} {c : Nat} (hR : lRy ph w H hp L xs po g) (hx : w.1 10 (fX F)) (hJ : J true d 78 w (0, jargs 0 [.inr (some (10, fX F)), .inl p0.toInt, .inl p1.toInt], [], H) (cOut H k c a)) (hh : k ≠ 0 → xhnd 181 5 c = some (Int32.ofInt k)) : sOut (d + 1) 181 ph w hp L xs po [.ref (fX F), .int p0, .int p1, .ref (po + 1)] k a := by
  have has : ([.inr (some (10, fX F)), .inl p0.toInt, .inl p1.toInt] : List jV).map (jm ph) = [.ref (fX F), .int p0, .int p1] := by
    simp only [List.map_cons, List.map_nil, i32m]
    show Value.ref (ph 10 (fX F)) :: _ = _
    rw [hR.1.1.2.2.2.2.1 10 _ rfl]
  obtain ⟨fs, h10⟩ := hR.at10 hx
  obtain ⟨w', H', ph', hp', hX, hR', e11, r1, r2⟩ := l_call hR has hJ
  rcases hX with ⟨hX, rfl⟩ | ⟨hX, hk⟩
  · refine ⟨w', H', ph', _, _, ?_, hR'.set (g' := vp_updL g 0 (Int32.ofInt a).toInt64), fun _ => rfl, e11, r1, r2⟩
    refine X.run 5 rfl ?_
    refine X.inv rfl rfl rfl rfl rfl h10 rfl rfl rfl rfl hX ?_
    refine X.run 1 rfl ?_
    refine X.las rfl rfl hR'.2.2.1 rfl ?_
    refine X.run 2 rfl ?_
    exact X.ret (q := (xmts[181]?).get rfl) ⟨rfl, rfl, rfl, rfl⟩ rfl
  · refine ⟨w', H', ph', hp', g, ?_, hR', fun z => absurd z hk, e11, r1, r2⟩
    refine X.run 5 rfl ?_
    exact X.invX rfl rfl rfl rfl rfl h10 rfl rfl rfl rfl hX (hh hk)
theorem s_start {p0 : Int32} {k a : Int} {c : Nat} (hR : lRy ph w H hp L xs po g) (hx : w.1 10 (fX F)) (hJ : J true d 80 w (0, jargs 0 [.inr (some (10, fX F)), .inl p0.toInt], [], H) (cOut H k c a)) (hh : k ≠ 0 → xhnd 183 4 c = some (Int32.ofInt k)) : sOut (d + 1) 183 ph w hp L xs po [.ref (fX F), .int p0, .ref (po + 1)] k a := by
  have has : ([.inr (some (10, fX F)), .inl p0.toInt] : List jV).map (jm ph) = [.ref (fX F), .int p0] := by
    simp only [List.map_cons, List.map_nil, i32m]
    show Value.ref (ph 10 (fX F)) :: _ = _
    rw [hR.1.1.2.2.2.2.1 10 _ rfl]
  obtain ⟨fs, h10⟩ := hR.at10 hx
  obtain ⟨w', H', ph', hp', hX, hR', e11, r1, r2⟩ := l_call hR has hJ
  rcases hX with ⟨hX, rfl⟩ | ⟨hX, hk⟩
  · refine ⟨w', H', ph', _, _, ?_, hR'.set (g' := vp_updL g 0 (Int32.ofInt a).toInt64), fun _ => rfl, e11, r1, r2⟩
    refine X.run 4 rfl ?_
    refine X.inv rfl rfl rfl rfl rfl h10 rfl rfl rfl rfl hX ?_
    refine X.run 1 rfl ?_
    refine X.las rfl rfl hR'.2.2.1 rfl ?_
    refine X.run 2 rfl ?_
    exact X.ret (q := (xmts[183]?).get rfl) ⟨rfl, rfl, rfl, rfl⟩ rfl
  · refine ⟨w', H', ph', hp', g, ?_, hR', fun z => absurd z hk, e11, r1, r2⟩
    refine X.run 4 rfl ?_
    exact X.invX rfl rfl rfl rfl rfl h10 rfl rfl rfl rfl hX (hh hk)
theorem s_told {p0 p1 : Int32} {k a : Int} {c : Nat} (hR : lRy ph w H hp L xs po g) (hx : w.1 10 (fX F)) (hJ : J true d 81 w (0, jargs 0 [.inr (some (10, fX F)), .inl p0.toInt, .inl p1.toInt], [], H) (cOut H k c a)) (hh : k ≠ 0 → xhnd 184 5 c = some (Int32.ofInt k)) : sOut (d + 1) 184 ph w hp L xs po [.ref (fX F), .int p0, .int p1, .ref (po + 1)] k a := by
  have has : ([.inr (some (10, fX F)), .inl p0.toInt, .inl p1.toInt] : List jV).map (jm ph) = [.ref (fX F), .int p0, .int p1] := by
    simp only [List.map_cons, List.map_nil, i32m]
    show Value.ref (ph 10 (fX F)) :: _ = _
    rw [hR.1.1.2.2.2.2.1 10 _ rfl]
  obtain ⟨fs, h10⟩ := hR.at10 hx
  obtain ⟨w', H', ph', hp', hX, hR', e11, r1, r2⟩ := l_call hR has hJ
  rcases hX with ⟨hX, rfl⟩ | ⟨hX, hk⟩
  · refine ⟨w', H', ph', _, _, ?_, hR'.set (g' := vp_updL g 0 (Int32.ofInt a).toInt64), fun _ => rfl, e11, r1, r2⟩
    refine X.run 5 rfl ?_
    refine X.inv rfl rfl rfl rfl rfl h10 rfl rfl rfl rfl hX ?_
    refine X.run 1 rfl ?_
    refine X.las rfl rfl hR'.2.2.1 rfl ?_
    refine X.run 2 rfl ?_
    exact X.ret (q := (xmts[184]?).get rfl) ⟨rfl, rfl, rfl, rfl⟩ rfl
  · refine ⟨w', H', ph', hp', g, ?_, hR', fun z => absurd z hk, e11, r1, r2⟩
    refine X.run 5 rfl ?_
    exact X.invX rfl rfl rfl rfl rfl h10 rfl rfl rfl rfl hX (hh hk)
theorem s_message {p0 p1 : Int32} {k a : Int} {c : Nat} (hR : lRy ph w H hp L xs po g) (hx : w.1 10 (fX F)) (hJ : J true d 82 w (0, jargs 0 [.inr (some (10, fX F)), .inl p0.toInt, .inl p1.toInt], [], H) (cOut H k c a)) (hh : k ≠ 0 → xhnd 185 5 c = some (Int32.ofInt k)) : sOut (d + 1) 185 ph w hp L xs po [.ref (fX F), .int p0, .int p1, .ref (po + 1)] k a := by
  have has : ([.inr (some (10, fX F)), .inl p0.toInt, .inl p1.toInt] : List jV).map (jm ph) = [.ref (fX F), .int p0, .int p1] := by
    simp only [List.map_cons, List.map_nil, i32m]
    show Value.ref (ph 10 (fX F)) :: _ = _
    rw [hR.1.1.2.2.2.2.1 10 _ rfl]
  obtain ⟨fs, h10⟩ := hR.at10 hx
  obtain ⟨w', H', ph', hp', hX, hR', e11, r1, r2⟩ := l_call hR has hJ
  rcases hX with ⟨hX, rfl⟩ | ⟨hX, hk⟩
  · refine ⟨w', H', ph', _, _, ?_, hR'.set (g' := vp_updL g 0 (Int32.ofInt a).toInt64), fun _ => rfl, e11, r1, r2⟩
    refine X.run 5 rfl ?_
    refine X.inv rfl rfl rfl rfl rfl h10 rfl rfl rfl rfl hX ?_
    refine X.run 1 rfl ?_
    refine X.las rfl rfl hR'.2.2.1 rfl ?_
    refine X.run 2 rfl ?_
    exact X.ret (q := (xmts[185]?).get rfl) ⟨rfl, rfl, rfl, rfl⟩ rfl
  · refine ⟨w', H', ph', hp', g, ?_, hR', fun z => absurd z hk, e11, r1, r2⟩
    refine X.run 5 rfl ?_
    exact X.invX rfl rfl rfl rfl rfl h10 rfl rfl rfl rfl hX (hh hk)
theorem s_of {p0 p1 : Int32} {k a : Int} {c : Nat} (hR : lRy ph w H hp L xs po g) (hx : w.1 10 (fX F)) (hJ : J true d 83 w (0, jargs 0 [.inr (some (10, fX F)), .inl p0.toInt, .inl p1.toInt], [], H) (cOut H k c a)) (hh : k ≠ 0 → xhnd 186 5 c = some (Int32.ofInt k)) : sOut (d + 1) 186 ph w hp L xs po [.ref (fX F), .int p0, .int p1, .ref (po + 1)] k a := by
  have has : ([.inr (some (10, fX F)), .inl p0.toInt, .inl p1.toInt] : List jV).map (jm ph) = [.ref (fX F), .int p0, .int p1] := by
    simp only [List.map_cons, List.map_nil, i32m]
    show Value.ref (ph 10 (fX F)) :: _ = _
    rw [hR.1.1.2.2.2.2.1 10 _ rfl]
  obtain ⟨fs, h10⟩ := hR.at10 hx
  obtain ⟨w', H', ph', hp', hX, hR', e11, r1, r2⟩ := l_call hR has hJ
  rcases hX with ⟨hX, rfl⟩ | ⟨hX, hk⟩
  · refine ⟨w', H', ph', _, _, ?_, hR'.set (g' := vp_updL g 0 (Int32.ofInt a).toInt64), fun _ => rfl, e11, r1, r2⟩
    refine X.run 5 rfl ?_
    refine X.inv rfl rfl rfl rfl rfl h10 rfl rfl rfl rfl hX ?_
    refine X.run 1 rfl ?_
    refine X.las rfl rfl hR'.2.2.1 rfl ?_
    refine X.run 2 rfl ?_
    exact X.ret (q := (xmts[186]?).get rfl) ⟨rfl, rfl, rfl, rfl⟩ rfl
  · refine ⟨w', H', ph', hp', g, ?_, hR', fun z => absurd z hk, e11, r1, r2⟩
    refine X.run 5 rfl ?_
    exact X.invX rfl rfl rfl rfl rfl h10 rfl rfl rfl rfl hX (hh hk)
theorem s_account {p0 p1 p2 : Int32} {k a : Int} {c : Nat} (hR : lRy ph w H hp L xs po g) (hx : w.1 10 (fX F)) (hJ : J true d 84 w (0, jargs 0 [.inr (some (10, fX F)), .inl p0.toInt, .inl p1.toInt, .inl p2.toInt], [], H) (cOut H k c a)) (hh : k ≠ 0 → xhnd 187 7 c = some (Int32.ofInt k)) : sOut (d + 1) 187 ph w hp L xs po [.ref (fX F), .int p0, .int p1, .int p2, .ref (po + 1)] k a := by
  have has : ([.inr (some (10, fX F)), .inl p0.toInt, .inl p1.toInt, .inl p2.toInt] : List jV).map (jm ph) = [.ref (fX F), .int p0, .int p1, .int p2] := by
    simp only [List.map_cons, List.map_nil, i32m]
    show Value.ref (ph 10 (fX F)) :: _ = _
    rw [hR.1.1.2.2.2.2.1 10 _ rfl]
  obtain ⟨fs, h10⟩ := hR.at10 hx
  obtain ⟨w', H', ph', hp', hX, hR', e11, r1, r2⟩ := l_call hR has hJ
  rcases hX with ⟨hX, rfl⟩ | ⟨hX, hk⟩
  · refine ⟨w', H', ph', _, _, ?_, hR'.set (g' := vp_updL g 0 (Int32.ofInt a).toInt64), fun _ => rfl, e11, r1, r2⟩
    refine X.run 6 rfl ?_
    refine X.inv rfl rfl rfl rfl rfl h10 rfl rfl rfl rfl hX ?_
    refine X.run 1 rfl ?_
    refine X.las rfl rfl hR'.2.2.1 rfl ?_
    refine X.run 2 rfl ?_
    exact X.ret (q := (xmts[187]?).get rfl) ⟨rfl, rfl, rfl, rfl⟩ rfl
  · refine ⟨w', H', ph', hp', g, ?_, hR', fun z => absurd z hk, e11, r1, r2⟩
    refine X.run 6 rfl ?_
    exact X.invX rfl rfl rfl rfl rfl h10 rfl rfl rfl rfl hX (hh hk)
theorem s_sum {p0 p1 : Int32} {k a : Int} {c : Nat} (hR : lRy ph w H hp L xs po g) (hx : w.1 10 (fX F)) (hJ : J true d 85 w (0, jargs 0 [.inr (some (10, fX F)), .inl p0.toInt, .inl p1.toInt], [], H) (cOut H k c a)) (hh : k ≠ 0 → xhnd 188 5 c = some (Int32.ofInt k)) : sOut (d + 1) 188 ph w hp L xs po [.ref (fX F), .int p0, .int p1, .ref (po + 1)] k a := by
  have has : ([.inr (some (10, fX F)), .inl p0.toInt, .inl p1.toInt] : List jV).map (jm ph) = [.ref (fX F), .int p0, .int p1] := by
    simp only [List.map_cons, List.map_nil, i32m]
    show Value.ref (ph 10 (fX F)) :: _ = _
    rw [hR.1.1.2.2.2.2.1 10 _ rfl]
  obtain ⟨fs, h10⟩ := hR.at10 hx
  obtain ⟨w', H', ph', hp', hX, hR', e11, r1, r2⟩ := l_call hR has hJ
  rcases hX with ⟨hX, rfl⟩ | ⟨hX, hk⟩
  · refine ⟨w', H', ph', _, _, ?_, hR'.set (g' := vp_updL g 0 (Int32.ofInt a).toInt64), fun _ => rfl, e11, r1, r2⟩
    refine X.run 5 rfl ?_
    refine X.inv rfl rfl rfl rfl rfl h10 rfl rfl rfl rfl hX ?_
    refine X.run 1 rfl ?_
    refine X.las rfl rfl hR'.2.2.1 rfl ?_
    refine X.run 2 rfl ?_
    exact X.ret (q := (xmts[188]?).get rfl) ⟨rfl, rfl, rfl, rfl⟩ rfl
  · refine ⟨w', H', ph', hp', g, ?_, hR', fun z => absurd z hk, e11, r1, r2⟩
    refine X.run 5 rfl ?_
    exact X.invX rfl rfl rfl rfl rfl h10 rfl rfl rfl rfl hX (hh hk)
theorem s_follow {p0 : Int32} {k a : Int} {c : Nat} (hR : lRy ph w H hp L xs po g) (hx : w.1 10 (fX F)) (hJ : J true d 86 w (0, jargs 0 [.inr (some (10, fX F)), .inl p0.toInt], [], H) (cOut H k c a)) (hh : k ≠ 0 → xhnd 189 4 c = some (Int32.ofInt k)) : sOut (d + 1) 189 ph w hp L xs po [.ref (fX F), .int p0, .ref (po + 1)] k a := by
  have has : ([.inr (some (10, fX F)), .inl p0.toInt] : List jV).map (jm ph) = [.ref (fX F), .int p0] := by
    simp only [List.map_cons, List.map_nil, i32m]
    show Value.ref (ph 10 (fX F)) :: _ = _
    rw [hR.1.1.2.2.2.2.1 10 _ rfl]
  obtain ⟨fs, h10⟩ := hR.at10 hx
  obtain ⟨w', H', ph', hp', hX, hR', e11, r1, r2⟩ := l_call hR has hJ
  rcases hX with ⟨hX, rfl⟩ | ⟨hX, hk⟩
  · refine ⟨w', H', ph', _, _, ?_, hR'.set (g' := vp_updL g 0 (Int32.ofInt a).toInt64), fun _ => rfl, e11, r1, r2⟩
    refine X.run 4 rfl ?_
    refine X.inv rfl rfl rfl rfl rfl h10 rfl rfl rfl rfl hX ?_
    refine X.run 1 rfl ?_
    refine X.las rfl rfl hR'.2.2.1 rfl ?_
    refine X.run 2 rfl ?_
    exact X.ret (q := (xmts[189]?).get rfl) ⟨rfl, rfl, rfl, rfl⟩ rfl
  · refine ⟨w', H', ph', hp', g, ?_, hR', fun z => absurd z hk, e11, r1, r2⟩
    refine X.run 4 rfl ?_
    exact X.invX rfl rfl rfl rfl rfl h10 rfl rfl rfl rfl hX (hh hk)
theorem s_count {p0 : Int32} {k a : Int} {c : Nat} (hR : lRy ph w H hp L xs po g) (hx : w.1 10 (fX F)) (hJ : J true d 87 w (0, jargs 0 [.inr (some (10, fX F)), .inl p0.toInt], [], H) (cOut H k c a)) (hh : k ≠ 0 → xhnd 190 4 c = some (Int32.ofInt k)) : sOut (d + 1) 190 ph w hp L xs po [.ref (fX F), .int p0, .ref (po + 1)] k a := by
  have has : ([.inr (some (10, fX F)), .inl p0.toInt] : List jV).map (jm ph) = [.ref (fX F), .int p0] := by
    simp only [List.map_cons, List.map_nil, i32m]
    show Value.ref (ph 10 (fX F)) :: _ = _
    rw [hR.1.1.2.2.2.2.1 10 _ rfl]
  obtain ⟨fs, h10⟩ := hR.at10 hx
  obtain ⟨w', H', ph', hp', hX, hR', e11, r1, r2⟩ := l_call hR has hJ
  rcases hX with ⟨hX, rfl⟩ | ⟨hX, hk⟩
  · refine ⟨w', H', ph', _, _, ?_, hR'.set (g' := vp_updL g 0 (Int32.ofInt a).toInt64), fun _ => rfl, e11, r1, r2⟩
    refine X.run 4 rfl ?_
    refine X.inv rfl rfl rfl rfl rfl h10 rfl rfl rfl rfl hX ?_
    refine X.run 1 rfl ?_
    refine X.las rfl rfl hR'.2.2.1 rfl ?_
    refine X.run 2 rfl ?_
    exact X.ret (q := (xmts[190]?).get rfl) ⟨rfl, rfl, rfl, rfl⟩ rfl
  · refine ⟨w', H', ph', hp', g, ?_, hR', fun z => absurd z hk, e11, r1, r2⟩
    refine X.run 4 rfl ?_
    exact X.invX rfl rfl rfl rfl rfl h10 rfl rfl rfl rfl hX (hh hk)
end TF
