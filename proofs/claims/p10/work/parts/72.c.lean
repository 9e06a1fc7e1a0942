section CI
variable {b : Bool} {d : Nat} {w : jW} {H : jH}
theorem cSt1.ol {H' : jH} {X : Nat → Nat → Prop} {s : Nat} (h : cSt1 H s) (h0 : cSt0 w H s) (hO : jOl w X H' H) (hs : ∀ k, k = 8 ∨ k ∈ sR → ¬ X k s) : cSt1 H' s := by
  obtain ⟨⟨c1, c2, c3, c4⟩, e1, e2, e3⟩ := h
  have o8 := (hO 8 s h0.1 (hs 8 (Or.inl rfl))).1
  have r1 := (hO 32 s h0.2.2.1 (hs _ (Or.inr (by decide)))).2.1
  have r2 := (hO 33 s h0.2.2.2.1 (hs _ (Or.inr (by decide)))).2.1
  have r3 := (hO 34 s h0.2.2.2.2.1 (hs _ (Or.inr (by decide)))).2.1
  have r4 := (hO 35 s h0.2.2.2.2.2.1 (hs _ (Or.inr (by decide)))).2.1
  have r5 := (hO 39 s h0.2.2.2.2.2.2.2.2.2 (hs _ (Or.inr (by decide)))).2.1
  unfold cSt1
  rw [(o8 4).1, (o8 8).1, (o8 9).1, (o8 11).1, r1, r2, r3, r4, r5]
  exact ⟨⟨c1, c2, c3, c4⟩, e1, e2, e3⟩
theorem cX_no {F : cF} {k p : Nat} (h : k ∉ 3 :: 21 :: 8 :: sR) : ¬ cX F k p := fun z => by
  rcases z with z | z
  · have := z.2
    simp only [List.mem_cons, List.not_mem_nil, or_false] at h this
    omega
  · have := z.2
    simp only [List.mem_cons, List.not_mem_nil, or_false] at h this
    omega
theorem cX_st {F : cF} {k p : Nat} (h : k = 8 ∨ k ∈ sR) (hp : p ≠ fT F) : ¬ cX F k p := fun z => by
  rcases z with z | z
  · have := z.2
    simp only [List.mem_cons, List.not_mem_nil, or_false] at h this
    omega
  · exact hp z.1
theorem jOl.k {X : Nat → Nat → Prop} {H' : jH} {cs ks : List Nat} (hK : jK cs ks H' H) (hX : ∀ k p, w.1 k p → ¬ X k p → k ∉ cs ∧ k ∉ ks) : jOl w X H' H := fun k p hw hx => by
  have h := hX k p hw hx
  have a := hK.1 k h.1
  have c := hK.2 k h.2
  exact ⟨fun j => by rw [a.1, a.2.1, a.2.2]; exact ⟨rfl, rfl, rfl⟩, by rw [c.1], by rw [c.2]⟩
theorem c_ledAdd {F : cF} {z z' : zT} {bp sp : Nat → Nat} {tx n : Nat} (hBk : cBk F w z H bp sp) (hT1 : cSt1 H (fT F)) (hB : 1 ≤ zB z ∧ zB z < 300) (hz' : zB z' = zB z + 1) (htx : w.1 42 tx ∧ 0 < tx ∧ H.1 42 0 tx = 0) (hn : n = zP (zB z)) :
    J b (d + 1) 21 w (0, jargs 0 [.inr (some (3, fL F)), .inr (some (0, bp (zB z - 1))), .inl (n : Int), .inr (some (42, tx)), .inr (some (43, H.2.2.2.2 8 12 (sp (zB z - 1)))), .inl 1], [], H) (jN fun r w' H' => r = some (.inl (zB z : Int)) ∧ jwM w w' ∧ w'.2.1 = w.2.1 + 11 ∧ w'.2.2 = w.2.2 + 637 ∧ jK [0, 3, 8, 42] bK H' H ∧ ∃ bp' sp', cBk F w' z' H' bp' sp' ∧ ∀ i, i < zB z → bp' i = bp i) := by
  obtain ⟨⟨a1, a2, a3, a4, a5⟩, ⟨b1, b2, b3, b4⟩, c, dd, e⟩ := hBk
  have hpB := dd (zB z - 1) (by omega)
  obtain ⟨-, -, ⟨f1, f2, f3, f4, f5, f6⟩, -, -, fs, k0, k1, l1, l2, l3, l4⟩ := hpB
  refine J.run0 3 rfl ?_
  try dsimp only
  refine J.ifc rfl rfl rfl ⟨by decide, by decide⟩ (fun hc => absurd hc (show ¬ (1 : Int) = 0 by decide)) (fun _ => ?_)
  refine J.nw rfl rfl rfl rfl rfl rfl rfl (jstP.of rfl) fun H1 hN1 hwc => ?_
  have hfr0 : ∀ k, ¬ w.1 k w.2.1 := fun k h => by have := (hwc.2 k _ h).1; omega
  refine J.run0 1 rfl ?_
  try dsimp only
  refine J.ini rfl rfl rfl (Or.inr rfl) rfl rfl rfl rfl rfl (jstP.of rfl) (c_stInit (Or.inr ⟨rfl, rfl⟩) hwc.1 (fun k h => by
    rcases h with h | h
    · exact absurd h (hfr0 k)
    · exact h.1) (fun j => (hN1.2.1 j).1)) ?_
  rintro r w2 H2 ⟨rfl, hM2, c2, s2, st2, ⟨pw, p1, p2, p3, p4, p5, p6⟩, z2, i2, i42, o2, r2, w2', -⟩
  have hMw : jwM w w2 := fun k p h => hM2 k p (Or.inl h)
  have hpw : ¬ w.1 43 pw := fun h => p4 (Or.inl h)
  have hold : ∀ k p, w.1 k p → p ≠ w.2.1 := fun k p h e => hfr0 k (e ▸ h)
  have oa : jOl w (cX F) H2 H := fun k p hw _ => by
    have hp := hold k p hw
    refine ⟨fun j => ⟨?_, ?_, ?_⟩, ?_, ?_⟩
    · rw [← (hN1.1 k j p fun z => hp z.2).1]
      by_cases hk : k = 42
      · subst hk
        exact i42 j p (Or.inl hw)
      · rw [i2 k hk]
    · rw [o2]; exact (hN1.1 k j p fun z => hp z.2).2.1
    · rw [w2' k j p fun z => hp z.2.1]; exact (hN1.1 k j p fun z => hp z.2).2.2
    · rw [p6 k p (fun z => hpw (by rw [← z.1, ← z.2]; exact hw)) (fun z => hp z.1), hN1.2.2.1]
    · rw [r2, hN1.2.2.2]
  have ka : jK [8, 42] (43 :: sR) H2 H := by
    refine ⟨fun c hn => ⟨?_, ?_, ?_⟩, fun k hn => ⟨?_, ?_⟩⟩
    · rw [i2 c fun z => hn (by rw [z]; decide)]
      funext j p
      exact (hN1.1 c j p fun z => hn (by rw [z.1]; decide)).1
    · rw [o2]
      funext j p
      exact (hN1.1 c j p fun z => hn (by rw [z.1]; decide)).2.1
    · funext j p
      rw [w2' c j p fun z => hn (by rw [z.1]; decide)]
      exact (hN1.1 c j p fun z => hn (by rw [z.1]; decide)).2.2
    · funext p
      rw [p6 k p (fun z => hn (by rw [z.1]; exact List.mem_cons_self)) (fun z => hn (List.mem_cons_of_mem _ z.2)), hN1.2.2.1]
    · rw [r2, hN1.2.2.2]
  have hne : w.2.1 ≠ fT F := fun z => hold 8 _ c.1 z.symm
  have t1 : H2.2.2.2.2 3 4 (fL F) = fT F := by rw [(ka.1 3 (by decide)).2.2]; exact b3
  refine J.run 4 rfl ⟨hMw _ _ a1, by rw [t1]; exact c.2.1⟩ ?_
  try dsimp only
  try dsimp only
  rw [t1]
  have hT2 : cSt1 H2 (fT F) := hT1.ol (X := fun _ _ => False) c (fun k p hw _ => by
    refine ⟨fun j => ⟨?_, ?_, ?_⟩, ?_, ?_⟩
    · rw [← (hN1.1 k j p fun z => hold k p hw z.2).1]
      by_cases hk : k = 42
      · subst hk
        exact i42 j p (Or.inl hw)
      · rw [i2 k hk]
    · rw [o2]; exact (hN1.1 k j p fun z => hold k p hw z.2).2.1
    · rw [w2' k j p fun z => hold k p hw z.2.1]; exact (hN1.1 k j p fun z => hold k p hw z.2).2.2
    · rw [p6 k p (fun z => hpw (by rw [← z.1, ← z.2]; exact hw)) (fun z => hold k p hw z.1), hN1.2.2.1]
    · rw [r2, hN1.2.2.2]) (fun _ _ z => z)
  refine J.inv rfl rfl rfl rfl rfl rfl ((jD_w rfl).mpr st2.1) rfl rfl rfl rfl rfl (c_beLike st2 (c.mv hMw) hne hT2) ?_
  rintro r w3 H3 ⟨rfl, rfl, s3, g3⟩
  refine J.run0 1 rfl ?_
  try dsimp only
  have p13 : H3.2.2.2.2 8 12 w.2.1 = pw := by rw [g3.2.1]; exact p1
  refine J.inv rfl rfl rfl rfl rfl rfl ((jD_w rfl).mpr st2.1) rfl rfl rfl rfl rfl (c_settle (pw := pw) (st2.mv fun _ _ h => h) s3 ⟨p13, p2, p3⟩ (fun j _ _ => by rw [g3.2.2.2 43 pw fun z => absurd z.2 (by decide)]; exact p5 j) (by rw [g3.2.2.1 8 13 _ fun z => absurd z.2.2 (by decide), i2 8 (by decide)]; exact (hN1.2.1 13).1)) ?_
  rintro r w4 H4 ⟨rfl, rfl, e1, e2, e3, e4, st4⟩
  have s4 : cSt1 H4 w.2.1 := by
    unfold cSt1
    rw [e3 8 4 _ fun z => absurd z.2.2 (by decide), e3 8 8 _ fun z => absurd z.2.2 (by decide), e3 8 9 _ fun z => absurd z.2.2 (by decide), e3 8 11 _ fun z => absurd z.2.2 (by decide), e4 32 _ fun z => absurd z.1 (by decide), e4 33 _ fun z => absurd z.1 (by decide), e4 34 _ fun z => absurd z.1 (by decide), e4 35 _ fun z => absurd z.1 (by decide), e4 39 _ fun z => absurd z.1 (by decide)]
    exact s3
  have ob : jOl w (cX F) H4 H := by
    refine jOl.trans (fun k p hw _ => ?_) oa
    have hp := hold k p hw
    refine ⟨fun j => ⟨?_, ?_, ?_⟩, ?_, ?_⟩
    · rw [e3 k j p fun z => hp z.2.1, g3.2.2.1 k j p fun z => hp z.2.1]
    · rw [e1, g3.1]
    · rw [e2, g3.2.1]
    · rw [e4 k p fun z => hpw (by rw [← z.1, ← z.2]; exact hw), g3.2.2.2 k p fun z => hp z.1]
    · rw [e2, g3.2.1]
  have kb : jK [8, 42] (43 :: sR) H4 H := by
    refine jK.trans (cs := [8]) (ks := 43 :: sR) ?_ (jK.trans (g3.k.mono (cs' := [8, 42]) (ks' := 43 :: sR) (by decide) (by decide)) ka (by decide) (by decide)) (by decide) (fun _ h => h)
    refine ⟨fun c hn => ⟨funext fun j => funext fun p => e3 c j p fun z => hn (by rw [z.1]; decide), by rw [e1], by rw [e2]⟩, fun k hn => ⟨funext fun p => e4 k p fun z => hn (by rw [z.1]; exact List.mem_cons_self), by rw [e2]⟩⟩
  have h21 : w4.1 21 (fL F) := hMw _ _ a2
  have h3 : w4.1 3 (fL F) := hMw _ _ a1
  refine J.run 4 rfl ⟨⟨h3, h21⟩, h3⟩ ?_
  try dsimp only
  have t4 : H4.1 3 1 (fL F) = (zB z : Int) := by rw [(kb.1 3 (by decide)).1]; exact b1
  try dsimp only
  rw [t4]
  refine J.nw rfl rfl rfl rfl rfl rfl rfl (jstP.push trivial (jstP.push (Or.inr ((jD_w rfl).mpr h21)) (jstP.of rfl))) fun H5 hN5 hwc5 => ?_
  have hb5 : ∀ k, ¬ w4.1 k w4.2.1 := fun k h => by have := (hwc5.2 k _ h).1; omega
  have t5 : H5.1 3 1 (fL F) = (zB z : Int) := by rw [(hN5.1 3 1 _ fun z => absurd z.1 (by decide)).1]; exact t4
  refine J.run 8 rfl (Or.inl h3) ?_
  try dsimp only
  try dsimp only
  rw [t5]
  refine J.ini rfl rfl rfl (Or.inl rfl) rfl rfl rfl rfl rfl (jstP.push (Or.inl rfl) (jstP.push trivial (jstP.push (Or.inr ((jD_w rfl).mpr (Or.inl h21))) (jstP.of rfl)))) (c_blkInit (Or.inr ⟨rfl, rfl⟩) (Or.inl (hMw _ _ f1)) htx.2.1 l2) ?_
  rintro r w6 H6 ⟨rfl, rfl, k6, q6, m1, m2, m3, m4, m5, m6, m7⟩
  have t6 : H6.1 3 1 (fL F) = (zB z : Int) := by rw [(k6.1 3 (by decide)).1]; exact t5
  refine J.run 11 rfl ⟨⟨Or.inl h21, Or.inr ⟨rfl, rfl⟩, show (0 : Int) ≤ (zB z : Int) by omega, show (zB z : Int) < 300 by omega⟩, Or.inl h3, Or.inl h3, Or.inl h3⟩ ?_
  try dsimp only
  refine J.gn fun H7 hH7 => ?_
  have k7 : jK [3] [21] H7 H6 := by
    rw [hH7]
    refine jK.int ?_ (by decide)
    refine jK.rows ?_ (by decide)
    exact jK.refl _ _ _
  have u1 : H7.1 3 1 (fL F) = (zB z : Int) + 1 := by rw [hH7, ← t6]; exact if_pos rfl
  have u2 : ∀ j, j ≠ 1 → H7.1 3 j (fL F) = H6.1 3 j (fL F) := fun j hj => by
    rw [hH7]
    show jupF H6.1 3 1 (fL F) _ 3 j (fL F) = _
    exact jupF_ne fun z => hj z.2.1
  have u3 : H7.2.2.2.1 21 (fL F) = jup (H6.2.2.2.1 21 (fL F)) (zB z : Int) (some w4.2.1) := by rw [hH7]; exact if_pos rfl
  have u4 : H7.2.2.2.2 = H6.2.2.2.2 := by rw [hH7]
  have u5 : H7.2.1 = H6.2.1 ∧ H7.2.2.1 = H6.2.2.1 := by rw [hH7]; exact ⟨rfl, rfl⟩
  have u6 : ∀ c j p, p ≠ fL F → H7.1 c j p = H6.1 c j p := fun c j p hp => by
    rw [hH7]
    show jupF H6.1 3 1 (fL F) _ c j p = _
    exact jupF_ne fun z => hp z.2.2
  have u7 : ∀ k p, p ≠ fL F → H7.2.2.2.1 k p = H6.2.2.2.1 k p := fun k p hp => by
    rw [hH7]
    show jsetR H6.2.2.2.1 21 (fL F) _ k p = _
    exact jsetR_ne fun z => hp z.2
  clear hH7
  have kc : jK [0, 3, 8, 42] bK H7 H := by
    refine k7.trans (k6.trans (jK.new (jK.mono kb (cs' := [0, 3, 8, 42]) (ks' := bK) (by decide) (by decide)) hN5 (by decide)) (by decide) (fun _ h => by cases h)) (by decide) (by decide)
  have hMf : jwM w (jwA w4 0 w4.2.1 (jfn 0)) := fun k p h => Or.inl (hMw k p h)
  have oc : jOl w (cX F) H7 H := by
    have o65 : jOl w (cX F) H6 H5 := fun k p hw _ => by
      have hp : p ≠ w4.2.1 := fun z => hb5 k (z ▸ hMw k p hw)
      by_cases hk : k = 0
      · subst hk
        exact ⟨fun j => q6 j p hp, by rw [(k6.2 0 (fun h => by cases h)).1], by rw [(k6.2 0 (fun h => by cases h)).2]⟩
      · have a := k6.1 k fun z => hk (List.mem_singleton.mp z)
        have cc := k6.2 k fun h => by cases h
        exact ⟨fun j => by rw [a.1, a.2.1, a.2.2]; exact ⟨rfl, rfl, rfl⟩, by rw [cc.1], by rw [cc.2]⟩
    have o54 : jOl w (cX F) H5 H4 := jOl.new hN5 fun k h => hb5 k (hMw k _ h)
    have o76 : jOl w (cX F) H7 H6 := by
      intro k p hw hx
      by_cases hp : p = fL F
      · have hk : k ∉ [3, 21] := fun z => hx (Or.inl ⟨hp, z⟩)
        have a := k7.1 k fun z => hk (List.mem_cons.mpr (Or.inl (List.mem_singleton.mp z)))
        have cc := k7.2 k fun z => hk (List.mem_cons_of_mem _ z)
        exact ⟨fun j => by rw [a.1, a.2.1, a.2.2]; exact ⟨rfl, rfl, rfl⟩, by rw [cc.1], by rw [cc.2]⟩
      · exact ⟨fun j => ⟨u6 k j p hp, by rw [u5.1], by rw [u4]⟩, by rw [u5.2], u7 k p hp⟩
    exact o76.trans (o65.trans (o54.trans ob))
  have g74 : ∀ c, c ∉ [0, 3] → H7.1 c = H4.1 c ∧ H7.2.1 c = H4.2.1 c ∧ H7.2.2.2.2 c = H4.2.2.2.2 c := fun c hc => by
    have a := k7.1 c fun z => hc (by rw [List.mem_singleton.mp z]; decide)
    have a' := k6.1 c fun z => hc (by rw [List.mem_singleton.mp z]; decide)
    have hc0 : c ≠ 0 := fun z => hc (by rw [z]; decide)
    refine ⟨?_, ?_, ?_⟩
    · rw [a.1, a'.1]; funext j p; exact (hN5.1 c j p fun z => hc0 z.1).1
    · rw [a.2.1, a'.2.1]; funext j p; exact (hN5.1 c j p fun z => hc0 z.1).2.1
    · rw [a.2.2, a'.2.2]; funext j p; exact (hN5.1 c j p fun z => hc0 z.1).2.2
  have g74r : H7.2.2.1 = H4.2.2.1 := by
    rw [u5.2]
    funext k
    rw [(k6.2 k fun h => by cases h).1, hN5.2.2.1]
  have g73 : ∀ j, j ≠ 1 → H7.1 3 j (fL F) = H.1 3 j (fL F) := fun j hj => by
    rw [u2 j hj, (k6.1 3 (by decide)).1, (hN5.1 3 j _ fun z => absurd z.1 (by decide)).1, (kb.1 3 (by decide)).1]
  have g73w : H7.2.2.2.2 3 4 (fL F) = fT F := by
    rw [u4, (k6.1 3 (by decide)).2.2, (hN5.1 3 4 _ fun z => absurd z.1 (by decide)).2.2, (kb.1 3 (by decide)).2.2]
    exact b3
  have gbl : ∀ i : Nat, H7.2.2.2.1 21 (fL F) (i : Int) = if i = zB z then some w4.2.1 else H.2.2.2.1 21 (fL F) (i : Int) := fun i => by
    rw [u3, (k6.2 21 fun h => by cases h).2, hN5.2.2.2, (kb.2 21 (by decide)).2]
    unfold jup
    by_cases hi : i = zB z
    · rw [if_pos (by omega), if_pos hi]
    · rw [if_neg (by omega), if_neg hi]
  have hlt4 : w.2.1 < w4.2.1 := by
    rw [c2]
    show w.2.1 < w.2.1 + 1 + 9
    omega
  have mo : ∀ i, i < zB z → va_up bp (zB z) w4.2.1 i = bp i := fun i hi => if_neg (by omega)
  have so : ∀ i, i < zB z → va_up sp (zB z) w.2.1 i = sp i := fun i hi => if_neg (by omega)
  have mn : va_up bp (zB z) w4.2.1 (zB z) = w4.2.1 := if_pos rfl
  have sn : va_up sp (zB z) w.2.1 (zB z) = w.2.1 := if_pos rfl
  have e0 : ∀ j, H7.1 0 j w4.2.1 = H6.1 0 j w4.2.1 ∧ H7.2.1 0 j w4.2.1 = H6.2.1 0 j w4.2.1 ∧ H7.2.2.2.2 0 j w4.2.1 = H6.2.2.2.2 0 j w4.2.1 := fun j => by
    have a := k7.1 0 (by decide)
    rw [a.1, a.2.1, a.2.2]
    exact ⟨rfl, rfl, rfl⟩
  refine J.reti rfl rfl rfl ⟨_, rfl, ?_, hMf, ?_, ?_, kc, va_up bp (zB z) w4.2.1, va_up sp (zB z) w.2.1, ⟨⟨hMf _ _ a1, hMf _ _ a2, hMf _ _ a3, hMf _ _ a4, hMf _ _ a5⟩, ⟨?_, ?_, g73w, ?_⟩, c.mv hMf, fun i hi => ?_, fun i j hi hj => ⟨fun h => ?_, fun h => ?_⟩⟩, mo⟩
  · show some (Sum.inl (jupF H6.1 3 1 (fL F) (H6.1 3 1 (fL F) + 1) 3 1 (fL F) - 1)) = some (Sum.inl (zB z : Int))
    rw [jupF_eq, t6]
    congr 2
    omega
  · show w4.2.1 + 1 = _
    rw [c2]
    show w.2.1 + 1 + 9 + 1 = _
    omega
  · show w4.2.2 + jfn 0 = _
    rw [s2]
    show w.2.2 + jfn 8 + 616 + jfn 0 = _
    have x1 : jfn 8 = 14 := rfl
    have x2 : jfn 0 = 7 := rfl
    omega
  · rw [u1, hz']
    omega
  · rw [g73 3 (by decide)]
    exact b2
  · rw [mo 0 (by omega)]
    exact b4
  · rw [hz'] at hi
    by_cases hiB : i = zB z
    · subst hiB
      rw [gbl, if_pos rfl, mn, sn]
      refine ⟨rfl, hne, ⟨?_, ?_, ?_, ?_, ?_, ?_⟩, ?_, ?_, ?_, ?_, ?_, ?_⟩
      · rw [mn]; exact Or.inr ⟨rfl, rfl⟩
      · rw [mn]; exact hwc5.1
      · rw [mn, (e0 0).1]; exact m1
      · rw [mn, (e0 1).1, m2, (hN5.1 0 1 _ fun z => hb5 0 (z.2 ▸ hMw _ _ f1)).1, (kb.1 0 (by decide)).1, f4]
        omega
      · rw [mn, (e0 2).2.1, m3, if_neg (by omega), mo _ (by omega)]
      · rw [mn, (e0 3).1, m4, if_neg (by omega), hn]
      · rw [mn, (e0 4).2.2, m5]
        refine ⟨htx.2.1, hMf _ _ htx.1, ?_⟩
        rw [((oc 42 tx htx.1 (cX_no (by decide))).1 0).1]
        exact htx.2.2
      · rw [mn, (e0 5).2.2, m6]
        refine ⟨l2, hMf _ _ l3, ?_⟩
        rw [(oc 43 _ l3 (cX_no (by decide))).2.1]
        exact l4
      · rw [mn, sn, (e0 6).2.1]; exact m7
      · rw [sn]; exact st2.mv fun _ _ h => Or.inl h
      · rw [sn]
        unfold cSt1
        rw [(g74 8 (by decide)).1, g74r]
        exact s4
      · rw [sn]
        obtain ⟨y1, y2, y3, y4⟩ := st4
        unfold cSt2
        rw [(g74 8 (by decide)).1, (g74 8 (by decide)).2.2, g74r]
        exact ⟨y1, y2, Or.inl y3, y4⟩
    · have hi' : i < zB z := by omega
      have hd := dd i hi'
      rw [gbl, if_neg hiB, mo i hi', so i hi']
      refine ⟨hd.1, hd.2.1, (hd.2.2.ol hMf oc (cX_no (by decide)) (fun p => cX_no (by decide)) (fun p => cX_no (by decide)) fun k hk => cX_st hk hd.2.1).congr (mo i hi') (fun _ => mo _ (by omega)) (so i hi')⟩
  · rw [hz'] at hi hj
    by_cases h1 : i = zB z
    · by_cases h2 : j = zB z
      · omega
      · rw [h1, mn, mo j (by omega)] at h
        have h9 := (hwc.2 0 _ (dd j (by omega)).2.2.1.1).1
        omega
    · by_cases h2 : j = zB z
      · rw [h2, mn, mo i (by omega)] at h
        have h9 := (hwc.2 0 _ (dd i (by omega)).2.2.1.1).1
        omega
      · rw [mo i (by omega), mo j (by omega)] at h
        exact (e i j (by omega) (by omega)).1 h
  · rw [hz'] at hi hj
    by_cases h1 : i = zB z
    · by_cases h2 : j = zB z
      · omega
      · rw [h1, sn, so j (by omega)] at h
        have h9 := (hwc.2 8 _ (dd j (by omega)).2.2.2.2.2.2.1.1).1
        omega
    · by_cases h2 : j = zB z
      · rw [h2, sn, so i (by omega)] at h
        have h9 := (hwc.2 8 _ (dd i (by omega)).2.2.2.2.2.2.1.1).1
        omega
      · rw [so i (by omega), so j (by omega)] at h
        exact (e i j (by omega) (by omega)).2 h
end CI
