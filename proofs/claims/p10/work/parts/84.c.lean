/-! the class: a new ledger -/
section CW
variable {b : Bool} {d : Nat} {w : jW} {H : jH}
theorem st_k {H1 H2 : jH} {s pw : Nat} (hN1 : jNew H1 H 8 s) (p6 : ∀ k p, ¬ (k = 43 ∧ p = pw) → ¬ (p = s ∧ k ∈ sR) → H2.2.2.1 k p = H1.2.2.1 k p) (i2 : ∀ c, c ≠ 42 → H2.1 c = H1.1 c) (o2 : H2.2.1 = H1.2.1) (r2 : H2.2.2.2.1 = H1.2.2.2.1) (w2' : ∀ c j p, ¬ (c = 8 ∧ p = s ∧ j = 12) → H2.2.2.2.2 c j p = H1.2.2.2.2 c j p) : jK [8, 42] (43 :: sR) H2 H := by
  refine ⟨fun c hn => ⟨?_, ?_, ?_⟩, fun k hn => ⟨?_, ?_⟩⟩
  · rw [i2 c fun z => hn (by rw [z]; decide)]
    funext j p
    exact (hN1.1 c j p fun z => hn (by rw [z.1]; decide)).1
  · rw [o2]
    funext j p
    exact (hN1.1 c j p fun z => hn (by rw [z.1]; decide)).2.1
  · funext j p
    rw [w2' c j p fun z => hn (by rw [z.1]; decide)]
    exact (hN1.1 c j p fun z => hn (by rw [z.1]; decide)).2.2
  · funext p
    rw [p6 k p (fun z => hn (by rw [z.1]; exact List.mem_cons_self)) (fun z => hn (List.mem_cons_of_mem _ z.2)), hN1.2.2.1]
  · rw [r2, hN1.2.2.2]
theorem hN_k {H1 : jH} {c p : Nat} (hN : jNew H1 H c p) : jK [c] [] H1 H := jK.new (jK.refl _ _ _) hN List.mem_cons_self
theorem hNd_k {H1 : jH} {kd p : Nat} {n : Int} (hN : jNd H1 H kd p n) : jK [42] [kd] H1 H := by
  obtain ⟨x1, x2, x3, x4, x5, x6, x7⟩ := hN
  exact ⟨fun c hn => ⟨funext fun j => funext fun p => x1 c j p fun z => hn (by rw [z.1]; exact List.mem_cons_self), by rw [x3], by rw [x4]⟩, fun k hn => ⟨funext fun p => x6 k p fun z => hn (by rw [z.1]; exact List.mem_cons_self), by rw [x5]⟩⟩
/-- rows of the ledger -/
abbrev lR : List Nat := [21, 22, 23, 24]
set_option maxRecDepth 8000 in
theorem c_ledInit {l : Nat} (h3 : w.1 3 l) (hfr : ∀ k, w.1 k l → k = 3) (hz : ∀ j, H.1 3 j l = 0) : J b (d + 2) 10 w (0, jargs 0 [.inr (some (3, l))], [], H) (jN fun r w' H' => r = none ∧ jwM w w' ∧ w'.2.1 ≤ w.2.1 + 40 ∧ w'.2.2 ≤ w.2.2 + 6000 ∧ jK [0, 3, 8, 42] bK H' H ∧ (∀ k q, w'.1 k q → w.1 k q ∨ k ∈ 0 :: 8 :: bK) ∧ ∃ T G S, 0 < G ∧ ∀ (F : cF) (z : zT), fL F = l → fT F = T → fG F = G → zB z = 1 → cBk F w' z H' (fun _ => G) (fun _ => S)) := by
  have n0 : ∀ k, k ≠ 3 → ¬ w.1 k l := fun k hk h => hk (hfr k h)
  refine J.run0 1 rfl ?_
  try dsimp only
  refine J.obj rfl rfl rfl rfl ?_
  refine J.run0 2 rfl ?_
  try dsimp only
  refine J.nrr rfl rfl rfl rfl rfl rfl rfl rfl rfl rfl rfl rfl (by decide) h3 (n0 _ (by decide)) (jstP.of rfl) ?_
  refine J.run0 2 rfl ?_
  try dsimp only
  refine J.nrr rfl rfl rfl rfl rfl rfl rfl rfl rfl rfl rfl rfl (by decide) (Or.inl h3) (nA (n0 _ (by decide)) (by decide)) (jstP.of rfl) ?_
  refine J.run0 1 rfl ?_
  try dsimp only
  refine J.gn fun H1 hH1 => ?_
  have k1 : jK [] lR H1 H := by
    rw [hH1]
    refine jK.rows ?_ (by decide)
    refine jK.rows ?_ (by decide)
    exact jK.refl _ _ _
  clear hH1
  generalize hw1 : jwA (jwA w 21 l (Int.toNat 300)) 22 l (Int.toNat 1500) = w1
  have d1 : w1.1 3 l ∧ w1.1 21 l ∧ w1.1 22 l := by
    rw [← hw1]
    exact ⟨Or.inl (Or.inl h3), Or.inl (Or.inr ⟨rfl, rfl⟩), Or.inr ⟨rfl, rfl⟩⟩
  have c1 : jwM w w1 ∧ w1.2.1 = w.2.1 + 2 ∧ w1.2.2 = w.2.2 + 1800 := by
    rw [← hw1]
    exact ⟨fun k p h => Or.inl (Or.inl h), rfl, rfl⟩
  have n1 : ∀ k, k ∉ [3, 21, 22] → ¬ w1.1 k l := by
    intro k hk
    rw [← hw1]
    exact nA (nA (n0 k fun z => hk (by rw [z]; decide)) fun z => hk (by rw [z]; decide)) fun z => hk (by rw [z]; decide)
  have uw1 : ∀ k q, w1.1 k q → w.1 k q ∨ k ∈ 0 :: 8 :: bK := by
    intro k q
    rw [← hw1]
    rintro ((h | h) | h)
    · exact Or.inl h
    all_goals
      right
      rw [h.1]
      decide
  clear hw1
  refine J.nw rfl rfl rfl rfl rfl rfl rfl (jstP.of rfl) fun H2 hN2 hwc2 => ?_
  have hf2 : ∀ k, ¬ w1.1 k w1.2.1 := fun k h => by have := (hwc2.2 k _ h).1; omega
  have hl2 : l < w1.2.1 := (hwc2.2 3 l d1.1).1
  refine J.run0 1 rfl ?_
  try dsimp only
  refine J.ini rfl rfl rfl (Or.inr rfl) rfl rfl rfl rfl rfl (jstP.of rfl) (c_stInit (Or.inr ⟨rfl, rfl⟩) hwc2.1 (fun k h => by
    rcases h with h | h
    · exact absurd h (hf2 k)
    · exact h.1) (fun j => (hN2.2.1 j).1)) ?_
  rintro r w3 H3 ⟨rfl, hM3, c3, s3, st3, ⟨pw3, p31, p32, p33, p34, p35, p36⟩, z3, i3, i342, o3, r3, w3', uw3⟩
  have k3 : jK [8, 42] (43 :: sR) H3 H1 := st_k hN2 p36 i3 o3 r3 w3'
  have m3 : jwM w1 w3 := fun k p h => hM3 k p (Or.inl h)
  have e3 : w3.2.1 = w1.2.1 + 10 := by rw [c3]; show w1.2.1 + 1 + 9 = _; omega
  have e3' : w3.2.2 = w1.2.2 + 630 := by rw [s3]; show w1.2.2 + 14 + 616 = _; omega
  have n3 : ∀ k, k ∉ [3, 21, 22] → k ∉ 43 :: sR → ¬ w3.1 k l := by
    intro k hk h9 h
    rcases uw3 k l h with (h | h) | h
    · exact n1 k hk h
    · omega
    · exact h9 h
  refine J.run 3 rfl ⟨m3 _ _ d1.1, hwc2.1⟩ ?_
  try dsimp only
  refine J.nri rfl rfl rfl rfl rfl rfl rfl rfl rfl rfl (by decide) (m3 _ _ d1.1) (n3 _ (by decide) (by decide)) (jstP.of rfl) ?_
  refine J.run0 2 rfl ?_
  try dsimp only
  refine J.nri rfl rfl rfl rfl rfl rfl rfl rfl rfl rfl (by decide) (Or.inl (m3 _ _ d1.1)) (nA (n3 _ (by decide) (by decide)) (by decide)) (jstP.of rfl) ?_
  refine J.gn fun H4 hH4 => ?_
  have k4 : jK [3] lR H4 H3 := by
    rw [hH4]
    refine jK.row ?_ (by decide)
    refine jK.row ?_ (by decide)
    refine jK.own ?_ (by decide)
    exact jK.refl _ _ _
  have g4 : H4.2.2.2.2 3 4 l = w1.2.1 ∧ H4.1 = H3.1 := by
    rw [hH4]
    exact ⟨if_pos rfl, rfl⟩
  clear hH4
  generalize hw4 : jwA (jwA w3 23 l (Int.toNat 12)) 24 l (Int.toNat 1500) = w4
  have d4 : w4.1 23 l ∧ w4.1 24 l := by
    rw [← hw4]
    exact ⟨Or.inl (Or.inr ⟨rfl, rfl⟩), Or.inr ⟨rfl, rfl⟩⟩
  have c4 : jwM w3 w4 ∧ w4.2.1 = w3.2.1 + 2 ∧ w4.2.2 = w3.2.2 + 1512 := by
    rw [← hw4]
    exact ⟨fun k p h => Or.inl (Or.inl h), rfl, rfl⟩
  have uw4 : ∀ k q, w4.1 k q → w3.1 k q ∨ k ∈ 0 :: 8 :: bK := by
    intro k q
    rw [← hw4]
    rintro ((h | h) | h)
    · exact Or.inl h
    all_goals
      right
      rw [h.1]
      decide
  clear hw4
  have m4 : jwM w1 w4 := fun k p h => c4.1 k p (m3 k p h)
  refine J.nw rfl rfl rfl rfl rfl rfl rfl (jstP.of rfl) fun H5 hN5 hwc5 => ?_
  have hf5 : ∀ k, ¬ w4.1 k w4.2.1 := fun k h => by have := (hwc5.2 k _ h).1; omega
  refine J.run0 1 rfl ?_
  try dsimp only
  refine J.ini rfl rfl rfl (Or.inr rfl) rfl rfl rfl rfl rfl (jstP.of rfl) (c_stInit (Or.inr ⟨rfl, rfl⟩) hwc5.1 (fun k h => by
    rcases h with h | h
    · exact absurd h (hf5 k)
    · exact h.1) (fun j => (hN5.2.1 j).1)) ?_
  rintro r w6 H6 ⟨rfl, hM6, c6, s6, st6, ⟨pw, p61, p62, p63, p64, p65, p66⟩, z6, i6, i642, o6, r6, w6', u6⟩
  have k6 : jK [8, 42] (43 :: sR) H6 H4 := st_k hN5 p66 i6 o6 r6 w6'
  have m6 : jwM w4 w6 := fun k p h => hM6 k p (Or.inl h)
  have e6 : w6.2.1 = w4.2.1 + 10 := by rw [c6]; show w4.2.1 + 1 + 9 = _; omega
  have e6' : w6.2.2 = w4.2.2 + 630 := by rw [s6]; show w4.2.2 + 14 + 616 = _; omega
  have zi6 : ∀ j, H6.1 8 j w4.2.1 = 0 := fun j => by rw [i6 8 (by decide)]; exact (hN5.2.1 j).1
  refine J.run0 2 rfl ?_
  try dsimp only
  refine J.inv rfl rfl rfl rfl rfl rfl ((jD_w rfl).mpr st6.1) rfl rfl rfl rfl rfl (c_beFirst st6 ⟨zi6 _, zi6 _, zi6 _⟩ (z6 _ (by decide))) ?_
  rintro r w7 H7 ⟨rfl, rfl, s7, g7⟩
  refine J.run0 1 rfl ?_
  try dsimp only
  have p71 : H7.2.2.2.2 8 12 w4.2.1 = pw := by rw [g7.2.1]; exact p61
  refine J.inv rfl rfl rfl rfl rfl rfl ((jD_w rfl).mpr st6.1) rfl rfl rfl rfl rfl (c_settle (pw := pw) (st6.mv fun _ _ h => h) s7 ⟨p71, p62, p63⟩ (fun j _ _ => by rw [g7.2.2.2 43 pw fun z => absurd z.2 (by decide)]; exact p65 j) (by rw [g7.2.2.1 8 13 _ fun z => absurd z.2.2 (by decide)]; exact zi6 13)) ?_
  rintro r w8 H8 ⟨rfl, rfl, e81, e82, e83, e84, st8⟩
  have s8 : cSt1 H8 w4.2.1 := by
    unfold cSt1
    rw [e83 8 4 _ fun z => absurd z.2.2 (by decide), e83 8 8 _ fun z => absurd z.2.2 (by decide), e83 8 9 _ fun z => absurd z.2.2 (by decide), e83 8 11 _ fun z => absurd z.2.2 (by decide), e84 32 _ fun z => absurd z.1 (by decide), e84 33 _ fun z => absurd z.1 (by decide), e84 34 _ fun z => absurd z.1 (by decide), e84 35 _ fun z => absurd z.1 (by decide), e84 39 _ fun z => absurd z.1 (by decide)]
    exact s7
  have k8 : jK [8, 42] (43 :: sR) H8 H4 := by
    refine jK.trans (cs := [8]) (ks := 43 :: sR) ?_ (jK.trans (g7.k.mono (cs' := [8, 42]) (ks' := 43 :: sR) (by decide) (by decide)) k6 (by decide) (by decide)) (by decide) (fun _ h => h)
    refine ⟨fun c hn => ⟨funext fun j => funext fun p => e83 c j p fun z => hn (by rw [z.1]; decide), by rw [e81], by rw [e82]⟩, fun k hn => ⟨funext fun p => e84 k p fun z => hn (by rw [z.1]; exact List.mem_cons_self), by rw [e82]⟩⟩
  have p81 : H8.2.2.2.2 8 12 w4.2.1 = pw := by rw [e82]; exact p71
  have h3' : w8.1 3 l := m6 _ _ (m4 _ _ d1.1)
  have h21 : w8.1 21 l := m6 _ _ (m4 _ _ d1.2.1)
  refine J.run 3 rfl ⟨h3', h21⟩ ?_
  try dsimp only
  refine J.nw rfl rfl rfl rfl rfl rfl rfl (jstP.push trivial (jstP.push (Or.inr ((jD_w rfl).mpr h21)) (jstP.of rfl))) fun H9 hN9 hwc9 => ?_
  refine J.run0 5 rfl ?_
  try dsimp only
  refine J.nd (kd := 42) rfl rfl (Or.inl rfl) (by decide) (jstP.push trivial (jstP.push trivial (jstP.push trivial (jstP.push (Or.inl rfl) (jstP.push (Or.inl rfl) (jstP.push trivial (jstP.push (Or.inr ((jD_w rfl).mpr (Or.inl h21))) (jstP.of rfl)))))))) fun H10 hN10 hwc10 => ?_
  have k10 : jK [0, 42] [42] H10 H8 := (hNd_k hN10).trans ((hN_k hN9).mono (cs' := [0, 42]) (ks' := [42]) (by decide) (fun _ h => (nomatch h))) (by decide) (by decide)
  have p10 : H10.2.2.2.2 8 12 w4.2.1 = pw := by rw [(k10.1 8 (by decide)).2.2]; exact p81
  refine J.run 3 rfl ⟨Or.inl (Or.inl st6.1), by rw [p10]; exact p62⟩ ?_
  try dsimp only
  try dsimp only
  rw [p10]
  refine J.ini rfl rfl rfl (Or.inl rfl) rfl rfl rfl rfl rfl (jstP.push (Or.inl rfl) (jstP.push trivial (jstP.push (Or.inr ((jD_w rfl).mpr (Or.inl (Or.inl h21)))) (jstP.of rfl)))) (c_blkInit0 (Or.inl (Or.inr ⟨rfl, rfl⟩)) hwc10.1 p62) ?_
  rintro r w11 H11 ⟨rfl, rfl, k11, q1, q2, q3, q4, q5, q6, q7⟩
  refine J.run 4 rfl ⟨⟨Or.inl (Or.inl h21), Or.inl (Or.inr ⟨rfl, rfl⟩), show (0 : Int) ≤ 0 by decide, show (0 : Int) < 300 by decide⟩, Or.inl (Or.inl h3')⟩ ?_
  try dsimp only
  refine J.gn fun H12 hH12 => ?_
  have k12 : jK [3] [21] H12 H11 := by
    rw [hH12]
    refine jK.int ?_ (by decide)
    refine jK.rows ?_ (by decide)
    exact jK.refl _ _ _
  have u1 : H12.1 3 1 l = 1 := by rw [hH12]; exact if_pos rfl
  have u2 : ∀ j, j ≠ 1 → H12.1 3 j l = H11.1 3 j l := fun j hj => by
    rw [hH12]
    show jupF H11.1 3 1 l _ 3 j l = _
    exact jupF_ne fun z => hj z.2.1
  have u3 : H12.2.2.2.1 21 l 0 = some w8.2.1 := by
    rw [hH12]
    show jsetR H11.2.2.2.1 21 l (jup (H11.2.2.2.1 21 l) 0 (some w8.2.1)) 21 l 0 = _
    rw [jsetR_eq]
    exact if_pos rfl
  have u4 : H12.2.2.2.2 = H11.2.2.2.2 := by rw [hH12]
  clear hH12
  have kf : jK [0, 3, 42] [21, 42] H12 H8 := k12.trans (k11.trans (k10.mono (cs' := [0, 3, 42]) (ks' := [21, 42]) (by decide) (by decide)) (by decide) (fun _ h => (nomatch h))) (by decide) (by decide)
  have ka : jK [0, 3, 8, 42] bK H12 H := kf.trans (k8.trans (k4.trans (k3.trans (k1.mono (cs' := [0, 3, 8, 42]) (ks' := bK) (fun _ h => (nomatch h)) (by decide)) (by decide) (by decide)) (by decide) (by decide)) (by decide) (by decide)) (by decide) (by decide)
  have x1 : ∀ j, j ≠ 1 → H12.1 3 j l = 0 := fun j hj => by
    rw [u2 j hj, (k11.1 3 (by decide)).1, (k10.1 3 (by decide)).1, (k8.1 3 (by decide)).1, g4.2, (k3.1 3 (by decide)).1, (k1.1 3 (fun h => (nomatch h))).1]
    exact hz j
  have x2 : H12.2.2.2.2 3 4 l = w1.2.1 := by
    rw [u4, (k11.1 3 (by decide)).2.2, (k10.1 3 (by decide)).2.2, (k8.1 3 (by decide)).2.2]
    exact g4.1
  have f0 := k12.1 0 (by decide)
  have f42 := k12.1 42 (by decide)
  have f42' := k11.1 42 (by decide)
  have mf : jwM w (jwA (jwA w8 0 w8.2.1 (jfn 0)) 42 (jwA w8 0 w8.2.1 (jfn 0)).2.1 (Int.toNat 0)) := fun k p h => Or.inl (Or.inl (m6 _ _ (m4 _ _ (c1.1 _ _ h))))
  have m8 : jwM w8 (jwA (jwA w8 0 w8.2.1 (jfn 0)) 42 (jwA w8 0 w8.2.1 (jfn 0)).2.1 (Int.toNat 0)) := fun k p h => Or.inl (Or.inl h)
  obtain ⟨v1, v2, v3, v4⟩ := st8
  rw [p81] at v2 v3 v4
  have hS1 : cSt1 H12 w4.2.1 := by
    unfold cSt1
    rw [(kf.1 8 (by decide)).1, (kf.2 32 (by decide)).1, (kf.2 33 (by decide)).1, (kf.2 34 (by decide)).1, (kf.2 35 (by decide)).1, (kf.2 39 (by decide)).1]
    exact s8
  have p12 : H12.2.2.2.2 8 12 w4.2.1 = pw := by rw [(kf.1 8 (by decide)).2.2]; exact p81
  have r43 := (kf.2 43 (by decide)).1
  refine J.retv rfl rfl rfl ⟨_, rfl, rfl, mf, ?_, ?_, ka, fun k q h => ?_, w1.2.1, w8.2.1, w4.2.1, hwc9.1, fun F z eL eT eG eB => ?_⟩
  · show w8.2.1 + 1 + 1 ≤ _
    omega
  · show w8.2.2 + jfn 0 + 0 ≤ _
    have : jfn 0 = 7 := rfl
    omega
  · have hsub : ∀ k, k ∈ 43 :: sR → k ∈ 0 :: 8 :: bK := by decide
    rcases h with (h | h) | h
    · rcases u6 k q h with (h | h) | h
      · rcases uw4 k q h with h | h
        · rcases uw3 k q h with (h | h) | h
          · exact uw1 k q h
          · right; rw [h.1]; decide
          · exact Or.inr (hsub k h)
        · exact Or.inr h
      · right; rw [h.1]; decide
      · exact Or.inr (hsub k h)
    · right; rw [h.1]; decide
    · right; rw [h.1]; decide
  · unfold cBk
    rw [eL, eT, eG, eB]
    refine ⟨⟨m8 _ _ h3', m8 _ _ h21, m8 _ _ (m6 _ _ (m4 _ _ d1.2.2)), m8 _ _ (m6 _ _ d4.1), m8 _ _ (m6 _ _ d4.2)⟩, ⟨u1, x1 _ (by decide), x2, rfl⟩, st3.mv fun k p h => m8 _ _ (m6 _ _ (c4.1 _ _ h)), fun i hi => ?_, fun i j hi hj => ⟨fun _ => by omega, fun _ => by omega⟩⟩
    obtain rfl : i = 0 := by omega
    have hne : w4.2.1 ≠ w1.2.1 := by omega
    have dG : (jwA (jwA w8 0 w8.2.1 (jfn 0)) 42 (jwA w8 0 w8.2.1 (jfn 0)).2.1 (Int.toNat 0)).1 0 w8.2.1 := Or.inl (Or.inr ⟨rfl, rfl⟩)
    have y1 : H12.1 0 0 w8.2.1 = 0 := by rw [f0.1]; exact q1
    have y2 : H12.1 0 1 w8.2.1 = 0 := by rw [f0.1]; exact q2
    have y3 : H12.2.1 0 2 w8.2.1 = none := by rw [f0.2.1]; exact q3
    have y4 : H12.1 0 3 w8.2.1 = -1 := by rw [f0.1]; exact q4
    have y5 : H12.2.2.2.2 0 4 w8.2.1 = (jwA w8 0 w8.2.1 (jfn 0)).2.1 := by rw [f0.2.2]; exact q5
    have y6 : H12.2.2.2.2 0 5 w8.2.1 = pw := by rw [f0.2.2]; exact q6
    have y7 : H12.2.1 0 6 w8.2.1 = some w4.2.1 := by rw [f0.2.1]; exact q7
    refine ⟨u3, hne, ⟨dG, hwc9.1, y1, y2, y3, y4⟩, ⟨?_, ?_, ?_⟩, ⟨?_, ?_, fun n x y => ?_⟩, y7, st6.mv m8, hS1, ?_, ?_, ?_, fun n x y => ?_⟩
    · rw [y5]; exact hwc10.1
    · rw [y5]; exact Or.inr ⟨rfl, rfl⟩
    · rw [y5, f42.1, f42'.1]; exact hN10.2.1 rfl
    · rw [y6]; exact v2
    · rw [y6]; exact m8 _ _ v3
    · rw [y6, r43]; exact v4 n x y
    · rw [(kf.1 8 (by decide)).1]; exact v1
    · show 0 < H12.2.2.2.2 8 12 w4.2.1
      rw [p12]; exact v2
    · show (jwA (jwA w8 0 w8.2.1 (jfn 0)) 42 (jwA w8 0 w8.2.1 (jfn 0)).2.1 (Int.toNat 0)).1 43 (H12.2.2.2.2 8 12 w4.2.1)
      rw [p12]; exact m8 _ _ v3
    · show H12.2.2.1 43 (H12.2.2.2.2 8 12 w4.2.1) n = 100
      rw [p12, r43]; exact v4 n x y
end CW
