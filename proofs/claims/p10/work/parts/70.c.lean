/-! the class: a new BLOCK -/
section CG
variable {b : Bool} {d : Nat} {w : jW} {H : jH}
theorem nA {c p s k q : Nat} (h : ¬ w.1 k q) (hne : k ≠ c) : ¬ (jwA w c p s).1 k q := fun z => by
  rcases z with z | z
  · exact h z
  · exact hne z.1
/-- the same but for new rows of a STATE and its POWERS -/
theorem c_stInit {s : Nat} (h8 : w.1 8 s) (h0 : 0 < s) (hfr : ∀ k, w.1 k s → k = 8) (hz : ∀ j, H.1 8 j s = 0) : J b d 52 w (0, jargs 0 [.inr (some (8, s))], [], H) (jN fun r w' H' => r = none ∧ jwM w w' ∧ w'.2.1 = w.2.1 + 9 ∧ w'.2.2 = w.2.2 + 616 ∧ cSt0 w' H' s ∧ (∃ pw, H'.2.2.2.2 8 12 s = pw ∧ 0 < pw ∧ w'.1 43 pw ∧ ¬ w.1 43 pw ∧ (∀ j, H'.2.2.1 43 pw j = 0) ∧ (∀ k p, ¬ (k = 43 ∧ p = pw) → ¬ (p = s ∧ k ∈ sR) → H'.2.2.1 k p = H.2.2.1 k p)) ∧ (∀ k, k ∈ sR → ∀ j, H'.2.2.1 k s j = 0) ∧ (∀ c, c ≠ 42 → H'.1 c = H.1 c) ∧ (∀ j p, w.1 42 p → H'.1 42 j p = H.1 42 j p) ∧ H'.2.1 = H.2.1 ∧ H'.2.2.2.1 = H.2.2.2.1 ∧ (∀ c j p, ¬ (c = 8 ∧ p = s ∧ j = 12) → H'.2.2.2.2 c j p = H.2.2.2.2 c j p) ∧ ∀ k p, w'.1 k p → w.1 k p ∨ k ∈ 43 :: sR) := by
  have n0 : ∀ k, k ≠ 8 → ¬ w.1 k s := fun k hk h => hk (hfr k h)
  refine J.run0 1 rfl ?_
  try dsimp only
  refine J.obj rfl rfl rfl rfl ?_
  refine J.run0 2 rfl ?_
  try dsimp only
  refine J.nri rfl rfl rfl rfl rfl rfl rfl rfl rfl rfl (by decide) h8 (n0 _ (by decide)) (jstP.of rfl) ?_
  refine J.run0 2 rfl ?_
  try dsimp only
  refine J.nri rfl rfl rfl rfl rfl rfl rfl rfl rfl rfl (by decide) (Or.inl h8) (nA (n0 _ (by decide)) (by decide)) (jstP.of rfl) ?_
  refine J.run0 2 rfl ?_
  try dsimp only
  refine J.nri rfl rfl rfl rfl rfl rfl rfl rfl rfl rfl (by decide) (Or.inl (Or.inl h8)) (nA (nA (n0 _ (by decide)) (by decide)) (by decide)) (jstP.of rfl) ?_
  refine J.run0 2 rfl ?_
  try dsimp only
  refine J.nri rfl rfl rfl rfl rfl rfl rfl rfl rfl rfl (by decide) (Or.inl (Or.inl (Or.inl h8))) (nA (nA (nA (n0 _ (by decide)) (by decide)) (by decide)) (by decide)) (jstP.of rfl) ?_
  refine J.run0 2 rfl ?_
  try dsimp only
  refine J.nri rfl rfl rfl rfl rfl rfl rfl rfl rfl rfl (by decide) (Or.inl (Or.inl (Or.inl (Or.inl h8)))) (nA (nA (nA (nA (n0 _ (by decide)) (by decide)) (by decide)) (by decide)) (by decide)) (jstP.of rfl) ?_
  refine J.run0 2 rfl ?_
  try dsimp only
  refine J.nri rfl rfl rfl rfl rfl rfl rfl rfl rfl rfl (by decide) (Or.inl (Or.inl (Or.inl (Or.inl (Or.inl h8))))) (nA (nA (nA (nA (nA (n0 _ (by decide)) (by decide)) (by decide)) (by decide)) (by decide)) (by decide)) (jstP.of rfl) ?_
  refine J.run0 2 rfl ?_
  try dsimp only
  refine J.nri rfl rfl rfl rfl rfl rfl rfl rfl rfl rfl (by decide) (Or.inl (Or.inl (Or.inl (Or.inl (Or.inl (Or.inl h8)))))) (nA (nA (nA (nA (nA (nA (n0 _ (by decide)) (by decide)) (by decide)) (by decide)) (by decide)) (by decide)) (by decide)) (jstP.of rfl) ?_
  refine J.run0 2 rfl ?_
  try dsimp only
  refine J.nri rfl rfl rfl rfl rfl rfl rfl rfl rfl rfl (by decide) (Or.inl (Or.inl (Or.inl (Or.inl (Or.inl (Or.inl (Or.inl h8))))))) (nA (nA (nA (nA (nA (nA (nA (n0 _ (by decide)) (by decide)) (by decide)) (by decide)) (by decide)) (by decide)) (by decide)) (by decide)) (jstP.of rfl) ?_
  refine J.run0 2 rfl ?_
  try dsimp only
  try dsimp only
  refine J.gn fun H1 hH1 => ?_
  have r1 : ∀ k, k ∈ sR → ∀ j, H1.2.2.1 k s j = 0 := by
    intro k hk j
    rw [hH1]
    simp only [List.mem_cons, List.not_mem_nil, or_false] at hk
    rcases hk with rfl | rfl | rfl | rfl | rfl | rfl | rfl | rfl
    all_goals exact congrFun (if_pos rfl) j
  have r2 : ∀ k p, ¬ (p = s ∧ k ∈ sR) → H1.2.2.1 k p = H.2.2.1 k p := by
    intro k p hn
    have hne : ∀ k', k' ∈ sR → ¬ (k = k' ∧ p = s) := fun k' hk' z => hn ⟨z.2, z.1 ▸ hk'⟩
    rw [hH1]
    show jsetR (jsetR (jsetR (jsetR (jsetR (jsetR (jsetR (jsetR H.2.2.1 32 s fun _ => 0) 33 s fun _ => 0) 34 s fun _ => 0) 35 s fun _ => 0) 36 s fun _ => 0) 37 s fun _ => 0) 38 s fun _ => 0) 39 s (fun _ => 0) k p = _
    rw [jsetR_ne (hne _ (by decide)), jsetR_ne (hne _ (by decide)), jsetR_ne (hne _ (by decide)), jsetR_ne (hne _ (by decide)), jsetR_ne (hne _ (by decide)), jsetR_ne (hne _ (by decide)), jsetR_ne (hne _ (by decide)), jsetR_ne (hne _ (by decide))]
  have r3 : H1.1 = H.1 ∧ H1.2.1 = H.2.1 ∧ H1.2.2.2 = H.2.2.2 := by rw [hH1]; exact ⟨rfl, rfl, rfl⟩
  clear hH1
  generalize hw1 : jwA (jwA (jwA (jwA (jwA (jwA (jwA (jwA w 32 s (Int.toNat 200)) 33 s (Int.toNat 96)) 34 s (Int.toNat 96)) 35 s (Int.toNat 96)) 36 s (Int.toNat 32)) 37 s (Int.toNat 32)) 38 s (Int.toNat 32)) 39 s (Int.toNat 16) = w1
  have hM : jwM w w1 := fun k p h => by rw [← hw1]; exact Or.inl (Or.inl (Or.inl (Or.inl (Or.inl (Or.inl (Or.inl (Or.inl h)))))))
  have hS : cSt0 w1 H1 s := by
    rw [← hw1]
    refine ⟨Or.inl (Or.inl (Or.inl (Or.inl (Or.inl (Or.inl (Or.inl (Or.inl h8))))))), h0, ?_, ?_, ?_, ?_, ?_, ?_, ?_, ?_⟩
    · exact Or.inl (Or.inl (Or.inl (Or.inl (Or.inl (Or.inl (Or.inl (Or.inr ⟨rfl, rfl⟩)))))))
    · exact Or.inl (Or.inl (Or.inl (Or.inl (Or.inl (Or.inl (Or.inr ⟨rfl, rfl⟩))))))
    · exact Or.inl (Or.inl (Or.inl (Or.inl (Or.inl (Or.inr ⟨rfl, rfl⟩)))))
    · exact Or.inl (Or.inl (Or.inl (Or.inl (Or.inr ⟨rfl, rfl⟩))))
    · exact Or.inl (Or.inl (Or.inl (Or.inr ⟨rfl, rfl⟩)))
    · exact Or.inl (Or.inl (Or.inr ⟨rfl, rfl⟩))
    · exact Or.inl (Or.inr ⟨rfl, rfl⟩)
    · exact Or.inr ⟨rfl, rfl⟩
  have hU : ∀ k p, w1.1 k p → w.1 k p ∨ k ∈ sR := by
    intro k p
    rw [← hw1]
    rintro ((((((((h | h) | h) | h) | h) | h) | h) | h) | h)
    · exact Or.inl h
    all_goals
      right
      rw [h.1]
      decide
  have hc : w1.2.1 = w.2.1 + 8 ∧ w1.2.2 = w.2.2 + 600 := by
    rw [← hw1]
    exact ⟨rfl, rfl⟩
  refine J.nd (kd := 43) rfl rfl (Or.inr ⟨rfl, rfl⟩) (by decide) (jstP.of rfl) fun H2 hN2 hwc => ?_
  obtain ⟨x1, x2, x3, x4, x5, x6, x7⟩ := hN2
  refine J.run 1 rfl ⟨Or.inl hS.1, hwc.1⟩ ?_
  try dsimp only
  refine J.gn fun H3 hH3 => ?_
  have y1 : H3.1 = H2.1 ∧ H3.2.1 = H2.2.1 ∧ H3.2.2.1 = H2.2.2.1 ∧ H3.2.2.2.1 = H2.2.2.2.1 := by rw [hH3]; exact ⟨rfl, rfl, rfl, rfl⟩
  have y2 : H3.2.2.2.2 8 12 s = w1.2.1 := by rw [hH3]; exact if_pos rfl
  have y3 : ∀ c j p, ¬ (c = 8 ∧ p = s ∧ j = 12) → H3.2.2.2.2 c j p = H.2.2.2.2 c j p := fun c j p hn => by
    rw [hH3]
    show jupF H2.2.2.2.2 8 12 s w1.2.1 c j p = _
    rw [jupF_ne fun z => hn ⟨z.1, z.2.2, z.2.1⟩, x4, r3.2.2]
  clear hH3
  have hs1 : s < w1.2.1 := (hwc.2 8 s hS.1).1
  refine J.retv rfl rfl rfl ⟨_, rfl, rfl, fun k p h => Or.inl (hM k p h), ?_, ?_, ?_, ⟨w1.2.1, y2, hwc.1, Or.inr ⟨rfl, rfl⟩, fun h => ?_, fun j => ?_, fun k p n1 n2 => ?_⟩, fun k hk j => ?_, fun c hc2 => ?_, fun j p hp => ?_, ?_, ?_, y3, fun k p h => ?_⟩
  · show w1.2.1 + 1 = _
    omega
  · show w1.2.2 + Int.toNat 16 = _
    have : Int.toNat 16 = 16 := rfl
    omega
  · exact hS.mv fun k p h => Or.inl h
  · have := (hwc.2 43 w1.2.1 (hM _ _ h)).1
    omega
  · rw [y1.2.2.1]; exact x7 j
  · rw [y1.2.2.1, x6 k p n1]; exact r2 k p n2
  · rw [y1.2.2.1, x6 k s fun z => ?_]
    · exact r1 k hk j
    · rw [z.1] at hk; revert hk; decide
  · rw [y1.1]
    funext j p
    rw [x1 c j p fun z => hc2 z.1, r3.1]
  · rw [y1.1, x1 42 j p fun z => ?_, r3.1]
    have := (hwc.2 42 p (hM _ _ hp)).1
    omega
  · rw [y1.2.1, x3, r3.2.1]
  · rw [y1.2.2.2, x5, r3.2.2]
  · rcases h with h | h
    · rcases hU k p h with h | h
      · exact Or.inl h
      · exact Or.inr (List.mem_cons_of_mem _ h)
    · right
      rw [h.1]
      exact List.mem_cons_self
theorem c_blkInit {p par s tx cl : Nat} {x0 x3 : Int} (h0 : w.1 0 p) (hpar : w.1 0 par) (htx : 0 < tx) (hcl : 0 < cl) : J b d 0 w (0, jargs 0 [.inr (some (0, p)), .inl x0, .inr (some (0, par)), .inl x3, .inr (some (42, tx)), .inr (some (43, cl)), .inr (some (8, s))], [], H) (jN fun r w' H' => r = none ∧ w' = w ∧ jK [0] [] H' H ∧ (∀ j q, q ≠ p → H'.1 0 j q = H.1 0 j q ∧ H'.2.1 0 j q = H.2.1 0 j q ∧ H'.2.2.2.2 0 j q = H.2.2.2.2 0 j q) ∧ H'.1 0 0 p = x0 ∧ H'.1 0 1 p = H.1 0 1 par + 1 ∧ H'.2.1 0 2 p = some par ∧ H'.1 0 3 p = x3 ∧ H'.2.2.2.2 0 4 p = tx ∧ H'.2.2.2.2 0 5 p = cl ∧ H'.2.1 0 6 p = some s) := by
  refine J.run0 1 rfl ?_
  try dsimp only
  refine J.obj rfl rfl rfl rfl ?_
  refine J.run 5 rfl h0 ?_
  try dsimp only
  refine J.run0 1 rfl ?_
  try dsimp only
  refine J.run 4 rfl hpar ?_
  try dsimp only
  refine J.run 16 rfl ⟨h0, h0, h0, ⟨h0, htx⟩, ⟨h0, hcl⟩, h0⟩ ?_
  try dsimp only
  refine J.gn fun H1 hH1 => ?_
  have q0 : jK [0] [] H1 H := by
    rw [hH1]
    refine jK.ref ?_ (by decide)
    refine jK.own ?_ (by decide)
    refine jK.own ?_ (by decide)
    refine jK.int ?_ (by decide)
    refine jK.ref ?_ (by decide)
    refine jK.int ?_ (by decide)
    refine jK.int ?_ (by decide)
    exact jK.refl _ _ _
  have q9 : ∀ j q, q ≠ p → H1.1 0 j q = H.1 0 j q ∧ H1.2.1 0 j q = H.2.1 0 j q ∧ H1.2.2.2.2 0 j q = H.2.2.2.2 0 j q := fun j q h => by
    rw [hH1]
    try dsimp only
    refine ⟨?_, ?_, ?_⟩
    · rw [jupF_ne fun z => h z.2.2, jupF_ne fun z => h z.2.2, jupF_ne fun z => h z.2.2]
    · rw [jupF_ne fun z => h z.2.2, jupF_ne fun z => h z.2.2]
    · rw [jupF_ne fun z => h z.2.2, jupF_ne fun z => h z.2.2]
  have q1 : H1.1 0 0 p = x0 := by rw [hH1]; exact if_pos rfl
  have q2 : H1.1 0 1 p = H.1 0 1 par + 1 := by rw [hH1]; exact if_pos rfl
  have q3 : H1.2.1 0 2 p = some par := by rw [hH1]; exact if_pos rfl
  have q4 : H1.1 0 3 p = x3 := by rw [hH1]; exact if_pos rfl
  have q5 : H1.2.2.2.2 0 4 p = tx := by rw [hH1]; exact if_pos rfl
  have q6 : H1.2.2.2.2 0 5 p = cl := by rw [hH1]; exact if_pos rfl
  have q7 : H1.2.1 0 6 p = some s := by rw [hH1]; exact if_pos rfl
  exact J.retv rfl rfl rfl ⟨_, rfl, rfl, rfl, q0, q9, q1, q2, q3, q4, q5, q6, q7⟩
/-- what was there is as it was, but for X -/
def jOl (w : jW) (X : Nat → Nat → Prop) (H' H : jH) : Prop := ∀ k p, w.1 k p → ¬ X k p → (∀ j, H'.1 k j p = H.1 k j p ∧ H'.2.1 k j p = H.2.1 k j p ∧ H'.2.2.2.2 k j p = H.2.2.2.2 k j p) ∧ H'.2.2.1 k p = H.2.2.1 k p ∧ H'.2.2.2.1 k p = H.2.2.2.1 k p
theorem jOl.trans {X : Nat → Nat → Prop} {H1 H2 H3 : jH} (h : jOl w X H1 H2) (h' : jOl w X H2 H3) : jOl w X H1 H3 := fun k p hw hx => by
  have a := h k p hw hx
  have c := h' k p hw hx
  exact ⟨fun j => ⟨(a.1 j).1.trans (c.1 j).1, (a.1 j).2.1.trans (c.1 j).2.1, (a.1 j).2.2.trans (c.1 j).2.2⟩, a.2.1.trans c.2.1, a.2.2.trans c.2.2⟩
theorem jOl.new {X : Nat → Nat → Prop} {H' : jH} {c p0 : Nat} (hN : jNew H' H c p0) (hp : ∀ k, ¬ w.1 k p0) : jOl w X H' H := fun k p hw _ => by
  refine ⟨fun j => hN.1 k j p fun z => hp k (z.2 ▸ hw), by rw [hN.2.2.1], by rw [hN.2.2.2]⟩
theorem cBlk.ol {w' : jW} {H' : jH} {X : Nat → Nat → Prop} {bp sp : Nat → Nat} {n : Nat} (h : cBlk w H bp sp n) (hw : jwM w w') (hO : jOl w X H' H) (h0 : ¬ X 0 (bp n)) (h42 : ∀ p, ¬ X 42 p) (h43 : ∀ p, ¬ X 43 p) (hs : ∀ k, k = 8 ∨ k ∈ sR → ¬ X k (sp n)) : cBlk w' H' bp sp n := by
  obtain ⟨⟨f1, f2, f3, f4, f5, f6⟩, ⟨g1, g2, g3⟩, ⟨i1, i2, i3⟩, j, k1, ⟨⟨c1, c2, c3, c4⟩, e1, e2, e3⟩, l1, l2, l3, l4⟩ := h
  have o0 := (hO 0 (bp n) f1 h0).1
  have o42 := hO 42 _ g2 (h42 _)
  have o43 := hO 43 _ i2 (h43 _)
  have o8 := (hO 8 (sp n) k1.1 (hs 8 (Or.inl rfl))).1
  have op := hO 43 _ l3 (h43 _)
  have r1 := (hO 32 (sp n) k1.2.2.1 (hs _ (Or.inr (by decide)))).2.1
  have r2 := (hO 33 (sp n) k1.2.2.2.1 (hs _ (Or.inr (by decide)))).2.1
  have r3 := (hO 34 (sp n) k1.2.2.2.2.1 (hs _ (Or.inr (by decide)))).2.1
  have r4 := (hO 35 (sp n) k1.2.2.2.2.2.1 (hs _ (Or.inr (by decide)))).2.1
  have r5 := (hO 39 (sp n) k1.2.2.2.2.2.2.2.2.2 (hs _ (Or.inr (by decide)))).2.1
  unfold cBlk cSt1 cSt2
  rw [(o0 0).1, (o0 1).1, (o0 2).2.1, (o0 3).1, (o0 4).2.2, (o0 5).2.2, (o0 6).2.1, (o42.1 0).1, o43.2.1, (o8 4).1, (o8 8).1, (o8 9).1, (o8 11).1, (o8 13).1, (o8 12).2.2, op.2.1, r1, r2, r3, r4, r5]
  exact ⟨⟨hw _ _ f1, f2, f3, f4, f5, f6⟩, ⟨g1, hw _ _ g2, g3⟩, ⟨i1, hw _ _ i2, i3⟩, j, k1.mv hw, ⟨⟨c1, c2, c3, c4⟩, e1, e2, e3⟩, l1, l2, hw _ _ l3, l4⟩
theorem cBlk.congr {bp bp' sp sp' : Nat → Nat} {n : Nat} (h : cBlk w H bp sp n) (e1 : bp' n = bp n) (e2 : n ≠ 0 → bp' (n - 1) = bp (n - 1)) (e3 : sp' n = sp n) : cBlk w H bp' sp' n := by
  unfold cBlk at h ⊢
  rw [e1, e3]
  by_cases hn : n = 0
  · rw [if_pos hn] at h ⊢
    rw [if_pos hn] at h ⊢
    exact h
  · rw [if_neg hn] at h ⊢
    rw [if_neg hn] at h ⊢
    rw [e2 hn]
    exact h
end CG
