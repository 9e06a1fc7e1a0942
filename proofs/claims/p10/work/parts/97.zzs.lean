/-! the class: a new ledger -/
section CL
variable {d : Nat} {w w' : jW} {H H' H1 H2 : jH}
abbrev lKs : List Nat := [0, 3, 8, 21, 22, 23, 24, 32, 33, 34, 35, 36, 37, 38, 39, 42, 43]
theorem tSt_k {T : cP} {m pw k p : Nat} (h : tSt T m pw k p) : T k p ∨ (k = 43 ∧ p = pw) ∨ (p = m ∧ k ∈ [32, 33, 34, 35, 36, 37, 38, 39, 8]) := by
  rcases h with (((((((((h | h) | h) | h) | h) | h) | h) | h) | h) | h) | h
  · exact Or.inl h
  · exact Or.inr (Or.inl h)
  all_goals exact Or.inr (Or.inr ⟨h.2, by rw [h.1]; decide⟩)
set_option maxRecDepth 8000 in
theorem i_led {l : Nat} (h3 : w.1 3 l) (hl0 : 0 < l) (hfr : ∀ k, w.1 k l → k = 3) (hz : ∀ j, H.1 3 j l = 0) : J false (d + 2) 10 w (0, jargs 0 [.inr (some (3, l))], [], H) (jN fun r w' H' => r = none ∧ jwM w w' ∧ w'.2.1 ≤ w.2.1 + 40 ∧ w'.2.2 ≤ w.2.2 + 6000 ∧ (∀ k q, w'.1 k q → w.1 k q ∨ k ∈ 0 :: 8 :: bK) ∧ ∃ T : cP, cT T w' H' ∧ (∀ k p, T k p → k ∈ lKs) ∧ (T 3 l ∧ ∀ p, T 3 p → p = l) ∧ (∀ p, T 0 p → H'.2.1 0 2 p = none ∧ H'.1 0 1 p = 0 ∧ H'.1 0 0 p = 0 ∧ H'.2.1 0 6 p ≠ some (H'.2.2.2.2 3 4 l)) ∧ H'.1 3 1 l = 1 ∧ H'.1 3 3 l = 0 ∧ ∃ g, H'.2.2.2.1 21 l 0 = some g) := by
  have n0 : ∀ k, k ≠ 3 → ¬ w.1 k l := fun k hk h => hk (hfr k h)
  refine J.run0 1 rfl ?_
  try dsimp only
  refine J.obj rfl rfl rfl rfl ?_
  refine J.run0 2 rfl ?_
  try dsimp only
  refine J.nrr rfl rfl rfl rfl rfl rfl rfl rfl rfl rfl rfl rfl (by decide) h3 (n0 _ (by decide)) (jstP.of rfl) ?_
  refine J.run0 2 rfl ?_
  try dsimp only
  refine J.nrr rfl rfl rfl rfl rfl rfl rfl rfl rfl rfl rfl rfl (by decide) (Or.inl h3) (nA (n0 _ (by decide)) (by decide)) (jstP.of rfl) ?_
  refine J.run0 1 rfl ?_
  try dsimp only
  refine J.gn fun H1 hH1 => ?_
  have k1 : jK [] [21, 22] H1 H := by
    rw [hH1]
    refine jK.rows ?_ (by decide)
    refine jK.rows ?_ (by decide)
    exact jK.refl _ _ _
  have b1 : ∀ i, H1.2.2.2.1 21 l i = none ∧ H1.2.2.2.1 22 l i = none := by
    rw [hH1]
    intro i
    exact ⟨congrFun (if_pos rfl) i, congrFun (if_pos rfl) i⟩
  clear hH1
  generalize hw1 : jwA (jwA w 21 l (Int.toNat 300)) 22 l (Int.toNat 1500) = w1
  have d1 : w1.1 3 l ∧ w1.1 21 l ∧ w1.1 22 l := by
    rw [← hw1]
    exact ⟨Or.inl (Or.inl h3), Or.inl (Or.inr ⟨rfl, rfl⟩), Or.inr ⟨rfl, rfl⟩⟩
  have c1 : jwM w w1 ∧ w1.2.1 = w.2.1 + 2 ∧ w1.2.2 = w.2.2 + 1800 := by
    rw [← hw1]
    exact ⟨fun k p h => Or.inl (Or.inl h), rfl, rfl⟩
  have n1 : ∀ k, k ∉ [3, 21, 22] → ¬ w1.1 k l := by
    intro k hk
    rw [← hw1]
    exact nA (nA (n0 k fun z => hk (by rw [z]; decide)) fun z => hk (by rw [z]; decide)) fun z => hk (by rw [z]; decide)
  have uw1 : ∀ k q, w1.1 k q → w.1 k q ∨ k ∈ 0 :: 8 :: bK := by
    intro k q
    rw [← hw1]
    rintro ((h | h) | h)
    · exact Or.inl h
    all_goals
      right
      rw [h.1]
      decide
  clear hw1
  refine J.nw rfl rfl rfl rfl rfl rfl rfl (jstP.of rfl) fun H2 hN2 hwc2 => ?_
  have hf2 : ∀ k, ¬ w1.1 k w1.2.1 := fun k h => by have := (hwc2.2 k _ h).1; omega
  have hl2 : l < w1.2.1 := (hwc2.2 3 l d1.1).1
  refine J.run0 1 rfl ?_
  try dsimp only
  refine J.ini rfl rfl rfl (Or.inr rfl) rfl rfl rfl rfl rfl (jstP.of rfl) (c_stInit (Or.inr ⟨rfl, rfl⟩) hwc2.1 (fun k h => by
    rcases h with h | h
    · exact absurd h (hf2 k)
    · exact h.1) (fun j => (hN2.2.1 j).1)) ?_
  rintro r w3 H3 ⟨rfl, hM3, c3, s3, st3, ⟨pw3, p31, p32, p33, p34, p35, p36⟩, z3, i3, i342, o3, r3, w3', uw3⟩
  have k3 : jK [8, 42] (43 :: sR) H3 H1 := st_k hN2 p36 i3 o3 r3 w3'
  have m3 : jwM w1 w3 := fun k p h => hM3 k p (Or.inl h)
  have e3 : w3.2.1 = w1.2.1 + 10 := by rw [c3]; show w1.2.1 + 1 + 9 = _; omega
  have e3' : w3.2.2 = w1.2.2 + 630 := by rw [s3]; show w1.2.2 + 14 + 616 = _; omega
  have zi3 : ∀ j, H3.1 8 j w1.2.1 = 0 := fun j => by rw [i3 8 (by decide)]; exact (hN2.2.1 j).1
  have t1 : cT (tSt (fun _ _ => False) w1.2.1 pw3) w3 H3 := by
    obtain ⟨s8, s0, a32, a33, a34, a35, a36, a37, a38, a39⟩ := st3
    refine cT.st ⟨fun _ _ z => z.elim, fun _ _ _ _ _ z => z.elim, fun _ _ _ _ _ _ z => z.elim, fun _ _ _ _ _ z => z.elim, fun _ _ _ _ _ _ _ _ z => z.elim, fun _ _ _ _ z => z.elim, fun _ _ _ z => z.elim⟩ (fun k h1 h2 => ?_) s8 s0 p33 p32 (fun i => by rw [z3 34 (by decide) i]; decide) (fun i => by rw [z3 36 (by decide) i]; decide) (by rw [zi3]; decide) (by rw [zi3]; decide) p31
    rcases (show k = 32 ∨ k = 33 ∨ k = 34 ∨ k = 35 ∨ k = 36 ∨ k = 37 ∨ k = 38 ∨ k = 39 by omega) with rfl | rfl | rfl | rfl | rfl | rfl | rfl | rfl
    · exact a32
    · exact a33
    · exact a34
    · exact a35
    · exact a36
    · exact a37
    · exact a38
    · exact a39
  have tk1 : ∀ k p, tSt (fun _ _ => False) w1.2.1 pw3 k p → k ∈ 43 :: 8 :: sR := fun k p h => by
    rcases tSt_k h with h | h | h
    · exact h.elim
    · rw [h.1]; decide
    · have h9 : ∀ k, k ∈ [32, 33, 34, 35, 36, 37, 38, 39, 8] → k ∈ 43 :: 8 :: sR := by decide
      exact h9 k h.2
  have tw1 : ∀ k p, tSt (fun _ _ => False) w1.2.1 pw3 k p → w3.1 k p := fun k p h => (t1.1 k p h).1
  have t8 : tSt (fun _ _ => False) w1.2.1 pw3 8 w1.2.1 := tSt.new
  generalize tSt (fun _ _ => False) w1.2.1 pw3 = T1 at t1 tk1 tw1 t8
  have n3 : ∀ k, k ∉ [3, 21, 22] → k ∉ 43 :: sR → ¬ w3.1 k l := by
    intro k hk h9 h
    rcases uw3 k l h with (h | h) | h
    · exact n1 k hk h
    · omega
    · exact h9 h
  refine J.run 3 rfl ⟨m3 _ _ d1.1, hwc2.1⟩ ?_
  try dsimp only
  refine J.nri rfl rfl rfl rfl rfl rfl rfl rfl rfl rfl (by decide) (m3 _ _ d1.1) (n3 _ (by decide) (by decide)) (jstP.of rfl) ?_
  refine J.run0 2 rfl ?_
  try dsimp only
  refine J.nri rfl rfl rfl rfl rfl rfl rfl rfl rfl rfl (by decide) (Or.inl (m3 _ _ d1.1)) (nA (n3 _ (by decide) (by decide)) (by decide)) (jstP.of rfl) ?_
  refine J.gn fun H4 hH4 => ?_
  have k4 : jK [3] [23, 24] H4 H3 := by
    rw [hH4]
    refine jK.row ?_ (by decide)
    refine jK.row ?_ (by decide)
    refine jK.own ?_ (by decide)
    exact jK.refl _ _ _
  have g4 : H4.2.2.2.2 3 4 l = w1.2.1 ∧ H4.1 = H3.1 := by
    rw [hH4]
    exact ⟨if_pos rfl, rfl⟩
  have r4 : ∀ i, H4.2.2.1 23 l i = 0 := by
    rw [hH4]
    intro i
    exact congrFun (if_pos rfl) i
  clear hH4
  have x4 : cEx T1 [] H4 H3 := cEx.jk k4 fun k p h => by
    have h9 : ∀ k, k ∈ 43 :: 8 :: sR → k ∉ [3] ∧ k ∉ [23, 24] := by decide
    exact h9 k (tk1 k p h)
  generalize hw4 : jwA (jwA w3 23 l (Int.toNat 12)) 24 l (Int.toNat 1500) = w4
  have d4 : w4.1 23 l ∧ w4.1 24 l := by
    rw [← hw4]
    exact ⟨Or.inl (Or.inr ⟨rfl, rfl⟩), Or.inr ⟨rfl, rfl⟩⟩
  have c4 : jwM w3 w4 ∧ w4.2.1 = w3.2.1 + 2 ∧ w4.2.2 = w3.2.2 + 1512 := by
    rw [← hw4]
    exact ⟨fun k p h => Or.inl (Or.inl h), rfl, rfl⟩
  have uw4 : ∀ k q, w4.1 k q → w3.1 k q ∨ k ∈ 0 :: 8 :: bK := by
    intro k q
    rw [← hw4]
    rintro ((h | h) | h)
    · exact Or.inl h
    all_goals
      right
      rw [h.1]
      decide
  clear hw4
  have m4 : jwM w1 w4 := fun k p h => c4.1 k p (m3 k p h)
  refine J.nw rfl rfl rfl rfl rfl rfl rfl (jstP.of rfl) fun H5 hN5 hwc5 => ?_
  have hf5 : ∀ k, ¬ w4.1 k w4.2.1 := fun k h => by have := (hwc5.2 k _ h).1; omega
  have tn5 : ∀ k p, T1 k p → w4.1 k p ∧ p ≠ w4.2.1 := fun k p h => ⟨c4.1 _ _ (tw1 k p h), fun z => hf5 k (z ▸ c4.1 _ _ (tw1 k p h))⟩
  have x5 : cEx T1 [] H5 H4 := cEx.nw cEx.refl hN5 fun z => (tn5 _ _ z).2 rfl
  refine J.run0 1 rfl ?_
  try dsimp only
  refine J.ini rfl rfl rfl (Or.inr rfl) rfl rfl rfl rfl rfl (jstP.of rfl) (c_stInit (Or.inr ⟨rfl, rfl⟩) hwc5.1 (fun k h => by
    rcases h with h | h
    · exact absurd h (hf5 k)
    · exact h.1) (fun j => (hN5.2.1 j).1)) ?_
  rintro r w6 H6 ⟨rfl, hM6, c6, s6, st6, ⟨pw, p61, p62, p63, p64, p65, p66⟩, z6, i6, i642, o6, r6, w6', u6⟩
  have x6 : cEx T1 [] H6 H5 := stEx (w := jwA w4 8 w4.2.1 (jfn 8)) (s := w4.2.1) (pw := pw) (fun k p h => ⟨Or.inl (tn5 k p h).1, (tn5 k p h).2⟩) p64 p66 i6 i642 o6 r6 w6'
  have k6 : jK [8, 42] (43 :: sR) H6 H4 := st_k hN5 p66 i6 o6 r6 w6'
  have m6 : jwM w4 w6 := fun k p h => hM6 k p (Or.inl h)
  have e6 : w6.2.1 = w4.2.1 + 10 := by rw [c6]; show w4.2.1 + 1 + 9 = _; omega
  have e6' : w6.2.2 = w4.2.2 + 630 := by rw [s6]; show w4.2.2 + 14 + 616 = _; omega
  have zi6 : ∀ j, H6.1 8 j w4.2.1 = 0 := fun j => by rw [i6 8 (by decide)]; exact (hN5.2.1 j).1
  refine J.run0 2 rfl ?_
  try dsimp only
  refine J.inv rfl rfl rfl rfl rfl rfl ((jD_w rfl).mpr st6.1) rfl rfl rfl rfl rfl (c_bf st6 ⟨zi6 _, zi6 _, zi6 _⟩ (z6 _ (by decide)) (z6 _ (by decide))) ?_
  rintro r w7 H7 ⟨rfl, rfl, s7, g7, ra7, bn7⟩
  have x7 : cEx T1 [] H7 H6 := g7.ex fun k p h => (tn5 k p h).2
  refine J.run0 1 rfl ?_
  try dsimp only
  have p71 : H7.2.2.2.2 8 12 w4.2.1 = pw := by rw [g7.2.1]; exact p61
  refine J.inv rfl rfl rfl rfl rfl rfl ((jD_w rfl).mpr st6.1) rfl rfl rfl rfl rfl (c_settle (pw := pw) (st6.mv fun _ _ h => h) s7 ⟨p71, p62, p63⟩ (fun j _ _ => by rw [g7.2.2.2 43 pw fun z => absurd z.2 (by decide)]; exact p65 j) (by rw [g7.2.2.1 8 13 _ fun z => absurd z.2.2 (by decide)]; exact zi6 13)) ?_
  rintro r w8 H8 ⟨rfl, rfl, e81, e82, e83, e84, st8⟩
  have x8 : cEx T1 [] H8 H7 := ⟨fun c j p ht => ⟨fun _ => e83 c j p fun z => (tn5 _ _ ht).2 z.2.1, fun _ => by rw [e81], fun _ => by rw [e82]⟩, fun k p ht => ⟨fun _ => e84 k p fun z => p64 (by rw [z.1, z.2] at ht; exact Or.inl (tn5 _ _ ht).1), fun _ => by rw [e82]⟩⟩
  have k8 : jK [8, 42] (43 :: sR) H8 H4 := by
    refine jK.trans (cs := [8]) (ks := 43 :: sR) ?_ (jK.trans (g7.k.mono (cs' := [8, 42]) (ks' := 43 :: sR) (by decide) (by decide)) k6 (by decide) (by decide)) (by decide) (fun _ h => h)
    refine ⟨fun c hn => ⟨funext fun j => funext fun p => e83 c j p fun z => hn (by rw [z.1]; decide), by rw [e81], by rw [e82]⟩, fun k hn => ⟨funext fun p => e84 k p fun z => hn (by rw [z.1]; exact List.mem_cons_self), by rw [e82]⟩⟩
  have p81 : H8.2.2.2.2 8 12 w4.2.1 = pw := by rw [e82]; exact p71
  have h3' : w8.1 3 l := m6 _ _ (m4 _ _ d1.1)
  have h21 : w8.1 21 l := m6 _ _ (m4 _ _ d1.2.1)
  refine J.run 3 rfl ⟨h3', h21⟩ ?_
  try dsimp only
  refine J.nw rfl rfl rfl rfl rfl rfl rfl (jstP.push trivial (jstP.push (Or.inr ((jD_w rfl).mpr h21)) (jstP.of rfl))) fun H9 hN9 hwc9 => ?_
  refine J.run0 5 rfl ?_
  try dsimp only
  refine J.nd (kd := 42) rfl rfl (Or.inl rfl) (by decide) (jstP.push trivial (jstP.push trivial (jstP.push trivial (jstP.push (Or.inl rfl) (jstP.push (Or.inl rfl) (jstP.push trivial (jstP.push (Or.inr ((jD_w rfl).mpr (Or.inl h21))) (jstP.of rfl)))))))) fun H10 hN10 hwc10 => ?_
  have k10 : jK [0, 42] [42] H10 H8 := (hNd_k hN10).trans ((hN_k hN9).mono (cs' := [0, 42]) (ks' := [42]) (by decide) (fun _ h => (nomatch h))) (by decide) (by decide)
  have p10 : H10.2.2.2.2 8 12 w4.2.1 = pw := by rw [(k10.1 8 (by decide)).2.2]; exact p81
  refine J.run 3 rfl ⟨Or.inl (Or.inl st6.1), by rw [p10]; exact p62⟩ ?_
  try dsimp only
  try dsimp only
  rw [p10]
  refine J.ini rfl rfl rfl (Or.inl rfl) rfl rfl rfl rfl rfl (jstP.push (Or.inl rfl) (jstP.push trivial (jstP.push (Or.inr ((jD_w rfl).mpr (Or.inl (Or.inl h21)))) (jstP.of rfl)))) (c_blkInit0 (Or.inl (Or.inr ⟨rfl, rfl⟩)) hwc10.1 p62) ?_
  rintro r w11 H11 ⟨rfl, rfl, k11, q1, q2, q3, q4, q5, q6, q7⟩
  refine J.run 4 rfl ⟨⟨Or.inl (Or.inl h21), Or.inl (Or.inr ⟨rfl, rfl⟩), show (0 : Int) ≤ 0 by decide, show (0 : Int) < 300 by decide⟩, Or.inl (Or.inl h3')⟩ ?_
  try dsimp only
  refine J.gn fun H12 hH12 => ?_
  have k12 : jK [3] [21] H12 H11 := by
    rw [hH12]
    refine jK.int ?_ (by decide)
    refine jK.rows ?_ (by decide)
    exact jK.refl _ _ _
  have u1 : H12.1 3 1 l = 1 := by rw [hH12]; exact if_pos rfl
  have u2 : ∀ j, j ≠ 1 → H12.1 3 j l = H11.1 3 j l := fun j hj => by
    rw [hH12]
    show jupF H11.1 3 1 l _ 3 j l = _
    exact jupF_ne fun z => hj z.2.1
  have u3 : H12.2.2.2.1 21 l = jup (H11.2.2.2.1 21 l) 0 (some w8.2.1) := by
    rw [hH12]
    exact if_pos rfl
  have u4 : H12.2.2.2.2 = H11.2.2.2.2 := by rw [hH12]
  clear hH12
  have kf : jK [0, 3, 42] [21, 42] H12 H8 := k12.trans (k11.trans (k10.mono (cs' := [0, 3, 42]) (ks' := [21, 42]) (by decide) (by decide)) (by decide) (fun _ h => (nomatch h))) (by decide) (by decide)
  have tn8 : ∀ k p, T1 k p → w8.1 k p := fun k p h => m6 _ _ (tn5 k p h).1
  have xf : cEx T1 [] H12 H8 := cEx.jk kf fun k p h => by
    have h9 : ∀ k, k ∈ 43 :: 8 :: sR → k ∉ [0, 3, 42] ∧ k ∉ [21, 42] := by decide
    exact h9 k (tk1 k p h)
  have xa : cEx T1 [] H12 H3 := xf.t (x8.t (x7.t (x6.t (x5.t x4))))
  have x1 : ∀ j, j ≠ 1 → H12.1 3 j l = 0 := fun j hj => by
    rw [u2 j hj, (k11.1 3 (by decide)).1, (k10.1 3 (by decide)).1, (k8.1 3 (by decide)).1, g4.2, (k3.1 3 (by decide)).1, (k1.1 3 (fun h => (nomatch h))).1]
    exact hz j
  have x2 : H12.2.2.2.2 3 4 l = w1.2.1 := by
    rw [u4, (k11.1 3 (by decide)).2.2, (k10.1 3 (by decide)).2.2, (k8.1 3 (by decide)).2.2]
    exact g4.1
  have f0 := k12.1 0 (by decide)
  have f42 := k12.1 42 (by decide)
  have f42' := k11.1 42 (by decide)
  have mf : jwM w (jwA (jwA w8 0 w8.2.1 (jfn 0)) 42 (jwA w8 0 w8.2.1 (jfn 0)).2.1 (Int.toNat 0)) := fun k p h => Or.inl (Or.inl (m6 _ _ (m4 _ _ (c1.1 _ _ h))))
  have m8 : jwM w8 (jwA (jwA w8 0 w8.2.1 (jfn 0)) 42 (jwA w8 0 w8.2.1 (jfn 0)).2.1 (Int.toNat 0)) := fun k p h => Or.inl (Or.inl h)
  obtain ⟨v1, v2, v3, v4⟩ := st8
  have y0 : w8.2.1 ≠ 0 := by have := hwc9.1; omega
  have p12 : H12.2.2.2.2 8 12 w4.2.1 = pw := by rw [(kf.1 8 (by decide)).2.2]; exact p81
  have y1 : H12.1 0 0 w8.2.1 = 0 := by rw [f0.1]; exact q1
  have y2 : H12.1 0 1 w8.2.1 = 0 := by rw [f0.1]; exact q2
  have y3 : H12.2.1 0 2 w8.2.1 = none := by rw [f0.2.1]; exact q3
  have y5 : H12.2.2.2.2 0 4 w8.2.1 = (jwA w8 0 w8.2.1 (jfn 0)).2.1 := by rw [f0.2.2]; exact q5
  have y6 : H12.2.2.2.2 0 5 w8.2.1 = pw := by rw [f0.2.2]; exact q6
  have y7 : H12.2.1 0 6 w8.2.1 = some w4.2.1 := by rw [f0.2.1]; exact q7
  have b21 : ∀ i q, H12.2.2.2.1 21 l i = some q → q = w8.2.1 := fun i q z => by
    rw [u3] at z
    unfold jup at z
    by_cases hi : i = 0
    · rw [if_pos hi] at z
      cases z
      rfl
    · rw [if_neg hi, (k11.2 21 (by decide)).2, (k10.2 21 (by decide)).2, (k8.2 21 (by decide)).2, (k4.2 21 (by decide)).2, (k3.2 21 (by decide)).2, (b1 i).1] at z
      cases z
  have b22 : ∀ i, H12.2.2.2.1 22 l i = none := fun i => by
    rw [(kf.2 22 (by decide)).2, (k8.2 22 (by decide)).2, (k4.2 22 (by decide)).2, (k3.2 22 (by decide)).2]
    exact (b1 i).2
  have b23 : ∀ i, H12.2.2.1 23 l i = 0 := fun i => by
    rw [(kf.2 23 (by decide)).1, (k8.2 23 (by decide)).1]
    exact r4 i
  have r42 : ∀ i, H12.2.2.1 42 (w8.2.1 + 1) i = 0 := fun i => by
    rw [(k12.2 42 (by decide)).1, (k11.2 42 (fun h => (nomatch h))).1]
    exact hN10.2.2.2.2.2.2 i
  have l42 : H12.1 42 0 (w8.2.1 + 1) = 0 := by
    rw [f42.1, f42'.1]
    exact hN10.2.1 rfl
  have hs34 : ∀ i, 0 ≤ H12.2.2.1 34 w4.2.1 i ∧ H12.2.2.1 34 w4.2.1 i ≤ 15 := fun i => by
    rw [(kf.2 34 (by decide)).1, e84 34 _ fun z => absurd z.1 (by decide)]
    exact bn7 i
  have hs36 : ∀ i, 0 ≤ H12.2.2.1 36 w4.2.1 i ∧ H12.2.2.1 36 w4.2.1 i ≤ 199 := fun i => by
    have : H12.2.2.1 36 w4.2.1 i = 0 := by
      rw [(kf.2 36 (by decide)).1, e84 36 _ fun z => absurd z.1 (by decide)]
      have h9 : H7.2.2.1 36 w4.2.1 = H6.2.2.1 36 w4.2.1 := ra7
      rw [h9]
      exact z6 36 (by decide) i
    omega
  have hv4 : H12.1 8 4 w4.2.1 = 16 := by
    rw [(kf.1 8 (by decide)).1, e83 8 4 _ fun z => absurd z.2.2 (by decide)]
    exact s7.1.1
  have hv8 : H12.1 8 8 w4.2.1 = 0 := by
    rw [(kf.1 8 (by decide)).1, e83 8 8 _ fun z => absurd z.2.2 (by decide)]
    exact s7.1.2.1
  have hlp : 0 < l := hl0
  generalize hwf : jwA (jwA w8 0 w8.2.1 (jfn 0)) 42 (jwA w8 0 w8.2.1 (jfn 0)).2.1 (Int.toNat 0) = wf
  have df : wf.1 0 w8.2.1 ∧ wf.1 42 (w8.2.1 + 1) ∧ jwM w8 wf ∧ jwM w wf ∧ wf.2.1 = w8.2.1 + 2 ∧ wf.2.2 = w8.2.2 + 7 ∧ ∀ k q, wf.1 k q → w8.1 k q ∨ k = 0 ∨ k = 42 := by
    rw [← hwf]
    refine ⟨Or.inl (Or.inr ⟨rfl, rfl⟩), Or.inr ⟨rfl, rfl⟩, m8, mf, rfl, rfl, fun k q h => ?_⟩
    rcases h with (h | h) | h
    · exact Or.inl h
    · exact Or.inr (Or.inl h.1)
    · exact Or.inr (Or.inr h.1)
  clear hwf mf m8
  obtain ⟨df0, df42, m8, mf, wf1, wf2, wfu⟩ := df
  have t2 : cT T1 wf H12 := t1.same xa fun k p h => m8 _ _ (m6 _ _ (c4.1 _ _ h))
  have t3 : cT (tSt T1 w4.2.1 pw) wf H12 := by
    obtain ⟨s8, s0, a32, a33, a34, a35, a36, a37, a38, a39⟩ := st6
    refine cT.st t2 (fun k h1 h2 => m8 _ _ ?_) (m8 _ _ s8) s0 (m8 _ _ p63) p62 hs34 hs36 (by rw [hv4]; decide) (by rw [hv8]; decide) p12
    rcases (show k = 32 ∨ k = 33 ∨ k = 34 ∨ k = 35 ∨ k = 36 ∨ k = 37 ∨ k = 38 ∨ k = 39 by omega) with rfl | rfl | rfl | rfl | rfl | rfl | rfl | rfl
    · exact a32
    · exact a33
    · exact a34
    · exact a35
    · exact a36
    · exact a37
    · exact a38
    · exact a39
  have t3p : tSt T1 w4.2.1 pw 43 pw := Or.inl (Or.inl (Or.inl (Or.inl (Or.inl (Or.inl (Or.inl (Or.inl (Or.inl tA.new))))))))
  have t38 : tSt T1 w4.2.1 pw 8 w4.2.1 := tSt.new
  have t31 : tSt T1 w4.2.1 pw 8 w1.2.1 := tSt.sub _ _ t8
  have tk3 : ∀ k p, tSt T1 w4.2.1 pw k p → k ∈ 43 :: 8 :: sR := fun k p h => by
    rcases tSt_k h with h | h | h
    · exact tk1 k p h
    · rw [h.1]; decide
    · have h9 : ∀ k, k ∈ [32, 33, 34, 35, 36, 37, 38, 39, 8] → k ∈ 43 :: 8 :: sR := by decide
      exact h9 k h.2
  generalize tSt T1 w4.2.1 pw = T3 at t3 t3p t38 t31 tk3
  have t4 : cT (tA T3 42 (w8.2.1 + 1)) wf H12 := cT.add t3 df42 (Nat.succ_pos _) (fun j k z => absurd z fun z => jno_ok (n := 1) (c := 42) rfl z) (fun j k q z => absurd z fun z => jno_ok (n := 2) (c := 42) rfl z) (fun j k z => absurd z fun z => jno_ok (n := 3) (c := 42) rfl z) rfl (fun j hj => cvi_of (c := 42) (f := fun j => H12.1 42 j (w8.2.1 + 1)) (by
    intro z hz
    simp only [cvt, List.mem_cons, List.not_mem_nil, or_false] at hz
    rcases hz with rfl | rfl | rfl | rfl | rfl | rfl | rfl | rfl | rfl | rfl | rfl | rfl | rfl | rfl | rfl | rfl | rfl | rfl | rfl | rfl | rfl | rfl | rfl | rfl | rfl | rfl | rfl | rfl | rfl | rfl | rfl | rfl
    all_goals first | exact fun e => absurd e (by decide) | exact fun _ => (show 0 ≤ H12.1 42 0 (w8.2.1 + 1) ∧ H12.1 42 0 (w8.2.1 + 1) ≤ 12 by omega)) hj) (fun i => (show 0 ≤ H12.2.2.1 42 (w8.2.1 + 1) i ∧ H12.2.2.1 42 (w8.2.1 + 1) i ≤ 1499 by have := r42 i; omega))
  have t5 : cT (tA (tA T3 42 (w8.2.1 + 1)) 0 w8.2.1) wf H12 := by
    refine cT.add t4 df0 hwc9.1 (fun j k z => absurd z fun z => jno_ok (n := 1) (c := 0) rfl z) (fun j k q z hq => ?_) (fun j k z => ?_) rfl (fun j hj => cvi_of (c := 0) (f := fun j => H12.1 0 j w8.2.1) (by
      intro z hz
      simp only [cvt, List.mem_cons, List.not_mem_nil, or_false] at hz
      rcases hz with rfl | rfl | rfl | rfl | rfl | rfl | rfl | rfl | rfl | rfl | rfl | rfl | rfl | rfl | rfl | rfl | rfl | rfl | rfl | rfl | rfl | rfl | rfl | rfl | rfl | rfl | rfl | rfl | rfl | rfl | rfl | rfl
      all_goals first | exact fun e => absurd e (by decide) | exact fun _ => (show 0 ≤ H12.1 0 0 w8.2.1 ∧ H12.1 0 0 w8.2.1 ≤ 299 by omega) | exact fun _ => (show 0 ≤ H12.1 0 1 w8.2.1 ∧ H12.1 0 1 w8.2.1 ≤ 299 by omega)) hj) (fun i => trivial)
    · rcases jft02 z with ⟨rfl, rfl⟩ | ⟨rfl, rfl⟩
      · rw [y3] at hq; cases hq
      · rw [y7] at hq; cases hq; exact Or.inl t38
    · rcases jft03 z with ⟨rfl, rfl⟩ | ⟨rfl, rfl⟩
      · rw [y5]; exact ⟨Nat.succ_pos _, tA.new⟩
      · rw [y6]; exact ⟨p62, Or.inl t3p⟩
  have t6 := cT.row (c := 21) (m := l) t5 (by decide) (by decide) rfl (m8 _ _ h21) hlp (fun t' n tk i q hf hq => by
    have h9 : jrk 21 = some (0 + 3, 300, 0) := rfl
    rw [h9] at hf
    have e : tk = 0 := by cases hf; rfl
    rw [e, b21 i q hq]
    exact tA.new) (fun i => trivial)
  have t7 := cT.rn (c := 22) (m := l) t6 (by decide) (by decide) rfl (m8 _ _ (m6 _ _ (m4 _ _ d1.2.2))) hlp b22 (fun i => trivial)
  have t9 := cT.ri (c := 23) (m := l) t7 (by decide) (by decide) rfl rfl (m8 _ _ (m6 _ _ d4.1)) hlp (fun i => (show 0 ≤ H12.2.2.1 23 l i ∧ H12.2.2.1 23 l i ≤ 1499 by have := b23 i; omega))
  have t10 := cT.ri (c := 24) (m := l) t9 (by decide) (by decide) rfl rfl (m8 _ _ (m6 _ _ d4.2)) hlp (fun i => trivial)
  have tF : cT (tA (tA (tA (tA (tA (tA (tA T3 42 (w8.2.1 + 1)) 0 w8.2.1) 21 l) 22 l) 23 l) 24 l) 3 l) wf H12 := by
    refine cT.add t10 (m8 _ _ h3') hlp (fun j k z => ?_) (fun j k q z => absurd z fun z => jno_ok (n := 2) (c := 3) rfl z) (fun j k z => ?_) rfl (fun j hj => cvi_of (c := 3) (f := fun j => H12.1 3 j l) (by
      intro z hz
      simp only [cvt, List.mem_cons, List.not_mem_nil, or_false] at hz
      rcases hz with rfl | rfl | rfl | rfl | rfl | rfl | rfl | rfl | rfl | rfl | rfl | rfl | rfl | rfl | rfl | rfl | rfl | rfl | rfl | rfl | rfl | rfl | rfl | rfl | rfl | rfl | rfl | rfl | rfl | rfl | rfl | rfl
      all_goals first | exact fun e => absurd e (by decide) | exact fun _ => (show 1 ≤ H12.1 3 1 l ∧ H12.1 3 1 l ≤ 300 by omega) | exact fun _ => (show 0 ≤ H12.1 3 3 l ∧ H12.1 3 3 l ≤ 1500 by have := x1 3 (by decide); omega)) hj) (fun i => trivial)
    · have hl : j < 8 := (jft_lt z).2
      rcases j with _ | _ | _ | _ | _ | _ | _ | _ | j
      · cases z; exact Or.inl (Or.inl (Or.inl tA.new))
      · cases z
      · cases z; exact Or.inl (Or.inl tA.new)
      · cases z
      · cases z
      · cases z; exact Or.inl tA.new
      · cases z; exact tA.new
      · cases z
      · omega
    · have hj : j = 4 ∧ k = 8 := by
        have hl : j < 8 := (jft_lt z).2
        rcases j with _ | _ | _ | _ | _ | _ | _ | _ | j
        all_goals first | (cases z; exact ⟨rfl, rfl⟩) | (cases z; done) | omega
      obtain ⟨rfl, rfl⟩ := hj
      have h9 : H12.2.2.2.2 3 4 l = w1.2.1 := x2
      rw [h9]
      exact ⟨hwc2.1, Or.inl (Or.inl (Or.inl (Or.inl (Or.inl (Or.inl t31)))))⟩
  have hno : ∀ {k p}, T3 k p → k ≠ 0 ∧ k ≠ 3 := fun {k p} h => by
    have h9 : ∀ k, k ∈ 43 :: 8 :: sR → k ≠ 0 ∧ k ≠ 3 := by decide
    exact h9 k (tk3 k p h)
  refine J.retv rfl rfl rfl ⟨_, rfl, rfl, mf, ?_, ?_, fun k q h => ?_, _, tF, fun k p h => ?_, ⟨tA.new, fun p h => ?_⟩, fun p h => ?_, u1, x1 3 (by decide), w8.2.1, ?_⟩
  · omega
  · omega
  · have hsub : ∀ k, k ∈ 43 :: sR → k ∈ 0 :: 8 :: bK := by decide
    rcases wfu k q h with h | h | h
    · rcases u6 k q h with (h | h) | h
      · rcases uw4 k q h with h | h
        · rcases uw3 k q h with (h | h) | h
          · exact uw1 k q h
          · right; rw [h.1]; decide
          · exact Or.inr (hsub k h)
        · exact Or.inr h
      · right; rw [h.1]; decide
      · exact Or.inr (hsub k h)
    · right; rw [h]; decide
    · right; rw [h]; decide
  · have hsub : ∀ k, k ∈ 43 :: 8 :: sR → k ∈ lKs := by decide
    rcases h with ((((((h | h) | h) | h) | h) | h) | h) | h
    · exact hsub k (tk3 k p h)
    all_goals
      rw [h.1]
      decide
  · rcases h with ((((((h | h) | h) | h) | h) | h) | h) | h
    · exact absurd rfl (hno h).2
    · exact absurd h.1 (by decide)
    · exact absurd h.1 (by decide)
    · exact absurd h.1 (by decide)
    · exact absurd h.1 (by decide)
    · exact absurd h.1 (by decide)
    · exact absurd h.1 (by decide)
    · exact h.2
  · have hp : p = w8.2.1 := by
      rcases h with ((((((h | h) | h) | h) | h) | h) | h) | h
      · exact absurd rfl (hno h).1
      · exact absurd h.1 (by decide)
      · exact h.2
      · exact absurd h.1 (by decide)
      · exact absurd h.1 (by decide)
      · exact absurd h.1 (by decide)
      · exact absurd h.1 (by decide)
      · exact absurd h.1 (by decide)
    subst hp
    refine ⟨y3, y2, y1, ?_⟩
    have h9 : H12.2.2.2.2 3 4 l = w1.2.1 := x2
    have h8 : H12.2.1 0 6 w8.2.1 = some w4.2.1 := y7
    rw [h9, h8]
    intro z
    have := Option.some.inj z
    omega
  · rw [u3]
    exact if_pos rfl
end CL
