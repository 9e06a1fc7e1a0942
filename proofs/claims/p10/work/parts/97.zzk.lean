/-! the class: what is made, in the code -/
section CO
variable {F : cG} {s b t : Int} {T : cP} {d : Nat} {w : jW} {H : jH} {Post : jO → jW → jH → Prop}
theorem nn (i : Nat) : i ∉ ([] : List Nat) := fun z => nomatch z
theorem s_st {par tx cl : Nat} {x3 x5 : Int} (hI : cJ F T w H) (hc : ∀ w1 H1 m pw, cJ F (tSt T m pw) w1 H1 → cEx T [] H1 H → w1.2.1 = w.2.1 + 10 → w1.2.2 = w.2.2 + 630 → (∀ k p, T k p → p ≠ m) → J false (d + 1) 21 w1 (15, (6, .inr none) :: jargs 0 [.inr (some (3, F.2.1)), .inr (some (0, par)), .inl x3, .inr (some (42, tx)), .inr (some (43, cl)), .inl x5], [.inr (some (8, m))], H1) Post) : J false (d + 1) 21 w (8, (6, .inr none) :: jargs 0 [.inr (some (3, F.2.1)), .inr (some (0, par)), .inl x3, .inr (some (42, tx)), .inr (some (43, cl)), .inl x5], [], H) Post := by
  refine J.nw rfl rfl rfl rfl rfl rfl rfl (jstP.of rfl) fun H1 hN1 hwc => ?_
  have lt : ∀ k p, T k p → p < w.2.1 := fun k p z => (hwc.2 _ _ (hI.is z)).1
  have hn : ¬ T 8 w.2.1 := cnew hI hwc
  refine J.run0 1 rfl ?_
  try dsimp only
  refine J.ini rfl rfl rfl (by decide) rfl rfl rfl rfl rfl (jstP.of rfl) (c_stInit (Or.inr ⟨rfl, rfl⟩) hwc.1 (fun k h => by
    rcases h with h | h
    · exact absurd (hwc.2 _ _ h).1 (Nat.lt_irrefl _)
    · exact h.1) (fun j => (hN1.2.1 j).1)) ?_
  rintro r w2 H2 ⟨rfl, hm, c1, c2, st0, ⟨pw, pe, p0, p43, pn, pz, pr⟩, rz, v1, v42, n1, b1, o1, hU⟩
  have ew : ∀ k p, T k p → (jwA w 8 w.2.1 (jfn 8)).1 k p := fun k p z => Or.inl (hI.is z)
  have e2 : cEx T [] H2 H1 := by
    refine ⟨fun c j p ht => ⟨fun _ => ?_, fun _ => by rw [n1], fun _ => o1 c j p fun z => ?_⟩, fun k p ht => ⟨fun _ => pr k p (fun z => ?_) fun z => ?_, fun _ => by rw [b1]⟩⟩
    · by_cases h42 : c = 42
      · subst h42; exact v42 j p (ew _ _ ht)
      · rw [v1 c h42]
    · have := lt _ _ ht
      rw [z.2.1] at this
      exact Nat.lt_irrefl _ this
    · rw [z.1, z.2] at ht
      exact pn (ew _ _ ht)
    · have := lt _ _ ht
      rw [z.1] at this
      exact Nat.lt_irrefl _ this
  have e : cEx T [] H2 H := cEx.trans e2 (cEx.nw cEx.refl hN1 hn) (fun _ _ z => z) rfl
  have i0 : cJ F T w2 H2 := cJ.same hI e (fun _ _ z => hm _ _ (Or.inl z))
  obtain ⟨s8, s0, a32, a33, a34, a35, a36, a37, a38, a39⟩ := st0
  have i1 : cJ F (tSt T w.2.1 pw) w2 H2 := cI.st8 i0 (fun k h1 h2 => by
      rcases (show k = 32 ∨ k = 33 ∨ k = 34 ∨ k = 35 ∨ k = 36 ∨ k = 37 ∨ k = 38 ∨ k = 39 by omega) with rfl | rfl | rfl | rfl | rfl | rfl | rfl | rfl
      · exact a32
      · exact a33
      · exact a34
      · exact a35
      · exact a36
      · exact a37
      · exact a38
      · exact a39) s8 s0 p43 p0 (fun k h1 h2 => by
      rcases (show k = 32 ∨ k = 33 ∨ k = 34 ∨ k = 35 ∨ k = 36 ∨ k = 37 ∨ k = 38 ∨ k = 39 by omega) with rfl | rfl | rfl | rfl | rfl | rfl | rfl | rfl
      all_goals exact rz _ (by decide)) (fun j => by rw [v1 8 (by decide)]; exact (hN1.2.1 j).1) pe
  exact hc _ _ _ _ i1 e (by rw [c1]; rfl) (by rw [c2]; rfl) (fun k p z => Nat.ne_of_lt (lt _ _ z))
theorem s_blk {par tx cl : Nat} {o : Option Nat} {x3 x5 : Int} (hI : cJ F T w H) (hb : H.1 3 1 F.2.1 < 300) (tpar : T 0 par) (ttx : T 42 tx) (tcl : T 43 cl) (to : ∀ q, o = some q → T 8 q ∧ q ≠ H.2.2.2.2 3 4 F.2.1) (hc : ∀ w1 H1 q, cJ F (tA T 0 q) w1 H1 → cEx T [301, 40021] H1 H → w1.2.1 = w.2.1 + 1 → w1.2.2 = w.2.2 + 7 → H1.1 3 1 F.2.1 = H.1 3 1 F.2.1 + 1 → J false (d + 1) 21 w1 (68, (6, .inr (o.map fun q => (8, q))) :: jargs 0 [.inr (some (3, F.2.1)), .inr (some (0, par)), .inl x3, .inr (some (42, tx)), .inr (some (43, cl)), .inl x5], [], H1) Post) : J false (d + 1) 21 w (31, (6, .inr (o.map fun q => (8, q))) :: jargs 0 [.inr (some (3, F.2.1)), .inr (some (0, par)), .inl x3, .inr (some (42, tx)), .inr (some (43, cl)), .inl x5], [], H) Post := by
  have t3 := hI.top.2.1
  have t21 : T 21 F.2.1 := hI.r 3 0 21 _ rfl t3
  have hb0 : 1 ≤ H.1 3 1 F.2.1 ∧ H.1 3 1 F.2.1 ≤ 300 := hI.v 3 1 _ t3
  rcases o with _ | s
  · skip
    refine J.run 4 rfl ⟨⟨hI.is t3, hI.is t21⟩, hI.is t3⟩ ?_
    try dsimp only
    refine J.nw rfl rfl rfl rfl rfl rfl rfl (jstP.push trivial (jstP.push (Or.inr ((jD_w rfl).mpr (hI.is t21))) (jstP.of rfl))) fun H1 hN1 hwc => ?_
    have hn : ¬ T 0 w.2.1 := cnew hI hwc
    have w3 : (jwA w 0 w.2.1 (jfn 0)).1 3 F.2.1 := Or.inl (hI.is t3)
    have w21 : (jwA w 0 w.2.1 (jfn 0)).1 21 F.2.1 := Or.inl (hI.is t21)
    refine J.run 8 rfl w3 ?_
    try dsimp only
    refine J.ini rfl rfl rfl (by decide) rfl rfl rfl rfl rfl (jstP.push (Or.inl rfl) (jstP.push trivial (jstP.push (Or.inr ((jD_w rfl).mpr w21)) (jstP.of rfl)))) (i_blk (T := T) (o := none) (Or.inr ⟨rfl, rfl⟩) (Or.inl (hI.is tpar)) (hI.pos ttx) (hI.pos tcl) hn (fun z => hn (z ▸ tpar))) ?_
    rintro r w2 H2 ⟨rfl, rfl, e2, n0, n1, n2, n4, n5, n6⟩
    have e : cEx T [] H2 H := cEx.trans e2 (cEx.nw cEx.refl hN1 hn) (fun _ _ z => z) rfl
    have z1 : H1.1 3 1 F.2.1 = H.1 3 1 F.2.1 := (hN1.1 3 1 _ fun z => absurd z.1 (by decide)).1
    have z2 : H2.1 3 1 F.2.1 = H.1 3 1 F.2.1 := (e.1 3 1 _ t3).1 (nn _)
    have z3 : H2.2.2.2.2 3 4 F.2.1 = H.2.2.2.2 3 4 F.2.1 := (e.1 3 4 _ t3).2.2 (nn _)
    have z4 : H1.1 0 1 par = H.1 0 1 par := (hN1.1 0 1 par fun z => hn (z.2 ▸ tpar)).1
    have z5 : H2.1 0 1 par = H.1 0 1 par := (e.1 0 1 par tpar).1 (nn _)
    have hp := hI.bl tpar
    have hv : 0 ≤ H.1 0 1 par ∧ H.1 0 1 par ≤ 299 := hI.v 0 1 par tpar
    have i0 : cJ F T (jwA w 0 w.2.1 (jfn 0)) H2 := cJ.same hI e (fun _ _ z => Or.inl z)
    have i1 := cI.blk (m := w.2.1) i0 (Or.inr ⟨rfl, rfl⟩) hwc.1 (by rw [n0, z1, z2]) (by rw [z2]; omega) (by rw [n1, z4, z2]; omega) (fun q z => by rw [n2] at z; cases z; exact ⟨tpar, by rw [n1, z4, z5]; omega⟩) (by rw [n4]; exact ⟨hI.pos ttx, ttx⟩) (by rw [n5]; exact ⟨hI.pos tcl, tcl⟩) (fun q z => by rw [n6] at z; rw [z3]; exact to q z)
    refine J.run 7 rfl ⟨(show (jwA w 0 w.2.1 (jfn 0)).1 21 F.2.1 ∧ (jwA w 0 w.2.1 (jfn 0)).1 0 w.2.1 ∧ 0 ≤ H.1 3 1 F.2.1 ∧ H.1 3 1 F.2.1 < 300 from ⟨w21, Or.inr ⟨rfl, rfl⟩, by omega, by omega⟩), w3, w3⟩ ?_
    try dsimp only
    refine J.gn fun H3 hH3 => ?_
    have i2 : cI F (H2.1 7 4 F.2.2.1) (H2.1 3 1 F.2.1 + 1) (H2.1 3 3 F.2.1) (tA T 0 w.2.1) (jwA w 0 w.2.1 (jfn 0)) H3 := by
      have j1 := cI.wB (k := 21) (p := F.2.1) (i := H.1 3 1 F.2.1) (x := some w.2.1) i1 rfl (Or.inl t21) (fun q z => by cases z; exact tA.new) (Or.inr fun z => nomatch z)
      have j2 := cI.wi (c := 3) (j := 1) (p := F.2.1) (x := H2.1 3 1 F.2.1 + 1) j1 (show 1 ≤ H2.1 3 1 F.2.1 + 1 ∧ H2.1 3 1 F.2.1 + 1 ≤ 300 by omega) rfl
      rw [hH3]
      exact j2
    have g1 : H3.1 3 1 F.2.1 = H2.1 3 1 F.2.1 + 1 := by rw [hH3]; exact if_pos rfl
    have g2 : H3.1 7 4 F.2.2.1 = H2.1 7 4 F.2.2.1 := by rw [hH3]; rfl
    have g3 : H3.1 3 3 F.2.1 = H2.1 3 3 F.2.1 := by rw [hH3]; rfl
    have e3 : cEx T [301, 40021] H3 H2 := by
      rw [hH3]
      exact cEx.wi5 (cEx.wB5 cEx.refl (by decide)) (by decide)
    have i3 : cJ F (tA T 0 w.2.1) (jwA w 0 w.2.1 (jfn 0)) H3 := by
      show cI F (H3.1 7 4 F.2.2.1) (H3.1 3 1 F.2.1) (H3.1 3 3 F.2.1) _ _ H3
      rw [g1, g2, g3]; exact i2
    exact hc _ _ _ i3 (cEx.trans e3 (cEx.trans e cEx.refl (fun _ _ z => z) rfl) (fun _ _ z => z) (by decide)) rfl rfl (by rw [g1, z2])
  · skip
    refine J.run 4 rfl ⟨⟨hI.is t3, hI.is t21⟩, hI.is t3⟩ ?_
    try dsimp only
    refine J.nw rfl rfl rfl rfl rfl rfl rfl (jstP.push trivial (jstP.push (Or.inr ((jD_w rfl).mpr (hI.is t21))) (jstP.of rfl))) fun H1 hN1 hwc => ?_
    have hn : ¬ T 0 w.2.1 := cnew hI hwc
    have w3 : (jwA w 0 w.2.1 (jfn 0)).1 3 F.2.1 := Or.inl (hI.is t3)
    have w21 : (jwA w 0 w.2.1 (jfn 0)).1 21 F.2.1 := Or.inl (hI.is t21)
    refine J.run 8 rfl w3 ?_
    try dsimp only
    refine J.ini rfl rfl rfl (by decide) rfl rfl rfl rfl rfl (jstP.push (Or.inl rfl) (jstP.push trivial (jstP.push (Or.inr ((jD_w rfl).mpr w21)) (jstP.of rfl)))) (i_blk (T := T) (o := some s) (Or.inr ⟨rfl, rfl⟩) (Or.inl (hI.is tpar)) (hI.pos ttx) (hI.pos tcl) hn (fun z => hn (z ▸ tpar))) ?_
    rintro r w2 H2 ⟨rfl, rfl, e2, n0, n1, n2, n4, n5, n6⟩
    have e : cEx T [] H2 H := cEx.trans e2 (cEx.nw cEx.refl hN1 hn) (fun _ _ z => z) rfl
    have z1 : H1.1 3 1 F.2.1 = H.1 3 1 F.2.1 := (hN1.1 3 1 _ fun z => absurd z.1 (by decide)).1
    have z2 : H2.1 3 1 F.2.1 = H.1 3 1 F.2.1 := (e.1 3 1 _ t3).1 (nn _)
    have z3 : H2.2.2.2.2 3 4 F.2.1 = H.2.2.2.2 3 4 F.2.1 := (e.1 3 4 _ t3).2.2 (nn _)
    have z4 : H1.1 0 1 par = H.1 0 1 par := (hN1.1 0 1 par fun z => hn (z.2 ▸ tpar)).1
    have z5 : H2.1 0 1 par = H.1 0 1 par := (e.1 0 1 par tpar).1 (nn _)
    have hp := hI.bl tpar
    have hv : 0 ≤ H.1 0 1 par ∧ H.1 0 1 par ≤ 299 := hI.v 0 1 par tpar
    have i0 : cJ F T (jwA w 0 w.2.1 (jfn 0)) H2 := cJ.same hI e (fun _ _ z => Or.inl z)
    have i1 := cI.blk (m := w.2.1) i0 (Or.inr ⟨rfl, rfl⟩) hwc.1 (by rw [n0, z1, z2]) (by rw [z2]; omega) (by rw [n1, z4, z2]; omega) (fun q z => by rw [n2] at z; cases z; exact ⟨tpar, by rw [n1, z4, z5]; omega⟩) (by rw [n4]; exact ⟨hI.pos ttx, ttx⟩) (by rw [n5]; exact ⟨hI.pos tcl, tcl⟩) (fun q z => by rw [n6] at z; rw [z3]; exact to q z)
    refine J.run 7 rfl ⟨(show (jwA w 0 w.2.1 (jfn 0)).1 21 F.2.1 ∧ (jwA w 0 w.2.1 (jfn 0)).1 0 w.2.1 ∧ 0 ≤ H.1 3 1 F.2.1 ∧ H.1 3 1 F.2.1 < 300 from ⟨w21, Or.inr ⟨rfl, rfl⟩, by omega, by omega⟩), w3, w3⟩ ?_
    try dsimp only
    refine J.gn fun H3 hH3 => ?_
    have i2 : cI F (H2.1 7 4 F.2.2.1) (H2.1 3 1 F.2.1 + 1) (H2.1 3 3 F.2.1) (tA T 0 w.2.1) (jwA w 0 w.2.1 (jfn 0)) H3 := by
      have j1 := cI.wB (k := 21) (p := F.2.1) (i := H.1 3 1 F.2.1) (x := some w.2.1) i1 rfl (Or.inl t21) (fun q z => by cases z; exact tA.new) (Or.inr fun z => nomatch z)
      have j2 := cI.wi (c := 3) (j := 1) (p := F.2.1) (x := H2.1 3 1 F.2.1 + 1) j1 (show 1 ≤ H2.1 3 1 F.2.1 + 1 ∧ H2.1 3 1 F.2.1 + 1 ≤ 300 by omega) rfl
      rw [hH3]
      exact j2
    have g1 : H3.1 3 1 F.2.1 = H2.1 3 1 F.2.1 + 1 := by rw [hH3]; exact if_pos rfl
    have g2 : H3.1 7 4 F.2.2.1 = H2.1 7 4 F.2.2.1 := by rw [hH3]; rfl
    have g3 : H3.1 3 3 F.2.1 = H2.1 3 3 F.2.1 := by rw [hH3]; rfl
    have e3 : cEx T [301, 40021] H3 H2 := by
      rw [hH3]
      exact cEx.wi5 (cEx.wB5 cEx.refl (by decide)) (by decide)
    have i3 : cJ F (tA T 0 w.2.1) (jwA w 0 w.2.1 (jfn 0)) H3 := by
      show cI F (H3.1 7 4 F.2.2.1) (H3.1 3 1 F.2.1) (H3.1 3 3 F.2.1) _ _ H3
      rw [g1, g2, g3]; exact i2
    exact hc _ _ _ i3 (cEx.trans e3 (cEx.trans e cEx.refl (fun _ _ z => z) rfl) (fun _ _ z => z) (by decide)) rfl rfl (by rw [g1, z2])
theorem cEx.nd {H2 : jH} {kd p : Nat} {n : Int} (hN : jNd H2 H kd p n) (lt : ∀ k q, T k q → q ≠ p) : cEx T [] H2 H := by
  obtain ⟨x1, x2, x3, x4, x5, x6, x7⟩ := hN
  exact ⟨fun c j q ht => ⟨fun _ => x1 c j q fun z => lt _ _ ht z.2, fun _ => by rw [x3], fun _ => by rw [x4]⟩, fun k q ht => ⟨fun _ => x6 k q fun z => lt _ _ ht z.2, fun _ => by rw [x5]⟩⟩
theorem s_hun {x : Int} (hI : cJ F T w H) (hc : ∀ w1 H1 q, cJ F (tA T 43 q) w1 H1 → cEx T [] H1 H → w1.2.1 = w.2.1 + 1 → w1.2.2 = w.2.2 + 16 → J false d 22 w1 (4, jargs 0 [.inl x], [.inr (some (43, q))], H1) Post) : J false d 22 w (2, jargs 0 [.inl x], [.inl 16], H) Post := by
  refine J.nd (kd := 43) rfl rfl (Or.inr ⟨rfl, rfl⟩) (by decide) (jstP.of rfl) fun H2 hN2 hwc => ?_
  have e := cEx.nd (T := T) hN2 (fun k q z => Nat.ne_of_lt (hwc.2 _ _ (hI.is z)).1)
  have i0 : cJ F T (jwA w 43 w.2.1 (16 : Int).toNat) H2 := cJ.same hI e (fun _ _ z => Or.inl z)
  have i1 : cJ F (tA T 43 w.2.1) _ H2 := cI.row43 i0 (Or.inr ⟨rfl, rfl⟩) hwc.1
  exact hc _ _ _ i1 e rfl rfl
theorem s_rowOf {one two n : Int} (hI : cJ F T w H) (hn : 0 ≤ n ∧ n ≤ 2) (hc : ∀ w1 H1 q, cJ F (tA T 42 q) w1 H1 → cEx T [] H1 H → w1.2.1 = w.2.1 + 1 → w1.2.2 ≤ w.2.2 + 2 → H1.1 42 0 q = n → J false d 110 w1 (25, (2, .inl n) :: jargs 0 [.inl one, .inl two], [.inr (some (42, q))], H1) Post) : J false d 110 w (23, (2, .inl n) :: jargs 0 [.inl one, .inl two], [.inl n], H) Post := by
  refine J.nd (kd := 42) rfl rfl (Or.inl rfl) ⟨hn.1, by omega⟩ (jstP.of rfl) fun H2 hN2 hwc => ?_
  have e := cEx.nd (T := T) hN2 (fun k q z => Nat.ne_of_lt (hwc.2 _ _ (hI.is z)).1)
  have i0 : cJ F T (jwA w 42 w.2.1 n.toNat) H2 := cJ.same hI e (fun _ _ z => Or.inl z)
  have l2 : H2.1 42 0 w.2.1 = n := hN2.2.1 rfl
  have i1 : cJ F (tA T 42 w.2.1) _ H2 := cI.row42 i0 (Or.inr ⟨rfl, rfl⟩) hwc.1 (by rw [l2]; omega) (fun i => by rw [hN2.2.2.2.2.2.2 i]; omega)
  exact hc _ _ _ i1 e rfl (by show w.2.2 + n.toNat ≤ w.2.2 + 2; omega) l2
theorem s_trn1 {acc cu : Int} {one two : Nat} (hI : cJ F T w H) (t1 : T 5 one) (h1 : 0 ≤ acc ∧ acc ≤ 199) (h2 : -1 ≤ cu ∧ cu ≤ 15) (hc : ∀ w1 H1 q, cJ F (tA T 9 q) w1 H1 → cEx T [] H1 H → w1.2.1 = w.2.1 + 1 → w1.2.2 = w.2.2 + 6 → J false (d + 1) 16 w1 (36, (4, .inl cu) :: jargs 0 [.inr (some (3, F.2.1)), .inl acc, .inr (some (5, one)), .inr (some (5, two))], [.inr (some (9, q)), .inr (some (3, F.2.1))], H1) Post) : J false (d + 1) 16 w (19, (4, .inl cu) :: jargs 0 [.inr (some (3, F.2.1)), .inl acc, .inr (some (5, one)), .inr (some (5, two))], [.inr (some (3, F.2.1))], H) Post := by
  refine J.nw rfl rfl rfl rfl rfl rfl rfl (jstP.of rfl) fun H1 hN1 hwc => ?_
  have hn : ¬ T 9 w.2.1 := cnew hI hwc
  refine J.run 8 rfl (Or.inl (hI.is t1)) ?_
  try dsimp only
  refine J.ini rfl rfl rfl (by decide) rfl rfl rfl rfl rfl (jstP.of rfl) (i_trans (T := T) (Or.inr ⟨rfl, rfl⟩) hn) ?_
  rintro r w2 H2 ⟨rfl, rfl, e2, q0, q1, q2, q4⟩
  have e : cEx T [] H2 H := cEx.trans e2 (cEx.nw cEx.refl hN1 hn) (fun _ _ z => z) rfl
  have i0 : cJ F T (jwA w 9 w.2.1 (jfn 9)) H2 := cJ.same hI e (fun _ _ z => Or.inl z)
  have i1 : cJ F (tA T 9 w.2.1) _ H2 := cI.trn i0 (Or.inr ⟨rfl, rfl⟩) hwc.1 (by rw [q0]; decide) (by rw [q1]; exact h1) (by rw [q2]; decide) (by rw [q4]; exact h2) (by rw [q0, q2]; exact ⟨fun z => absurd z (by decide), fun _ z => absurd z (by decide)⟩)
  exact hc _ _ _ i1 e rfl rfl
theorem s_trn2 {kd a bb v : Int} (hI : cJ F T w H) (h0 : 0 ≤ kd ∧ kd ≤ 3) (h1 : 0 ≤ a ∧ a ≤ 199) (h2 : 0 ≤ bb ∧ bb ≤ 199) (h3 : 1 ≤ kd → bb ≤ 15) (hc : ∀ w1 H1 q, cJ F (tA T 9 q) w1 H1 → cEx T [] H1 H → w1.2.1 = w.2.1 + 1 → w1.2.2 = w.2.2 + 6 → J false (d + 1) 71 w1 (198, jargs 0 [.inr (some (10, F.1)), .inl kd, .inl a, .inl bb, .inl v], [.inr (some (9, q)), .inr (some (3, F.2.1))], H1) Post) : J false (d + 1) 71 w (184, jargs 0 [.inr (some (10, F.1)), .inl kd, .inl a, .inl bb, .inl v], [.inr (some (3, F.2.1))], H) Post := by
  refine J.nw rfl rfl rfl rfl rfl rfl rfl (jstP.of rfl) fun H1 hN1 hwc => ?_
  have hn : ¬ T 9 w.2.1 := cnew hI hwc
  refine J.run0 7 rfl ?_
  try dsimp only
  refine J.ini rfl rfl rfl (by decide) rfl rfl rfl rfl rfl (jstP.of rfl) (i_trans (T := T) (Or.inr ⟨rfl, rfl⟩) hn) ?_
  rintro r w2 H2 ⟨rfl, rfl, e2, q0, q1, q2, q4⟩
  have e : cEx T [] H2 H := cEx.trans e2 (cEx.nw cEx.refl hN1 hn) (fun _ _ z => z) rfl
  have i0 : cJ F T (jwA w 9 w.2.1 (jfn 9)) H2 := cJ.same hI e (fun _ _ z => Or.inl z)
  have i1 : cJ F (tA T 9 w.2.1) _ H2 := cI.trn i0 (Or.inr ⟨rfl, rfl⟩) hwc.1 (by rw [q0]; omega) (by rw [q1]; exact h1) (by rw [q2]; omega) (by rw [q4]; decide) (by rw [q0, q2]; omega)
  exact hc _ _ _ i1 e rfl rfl
theorem cJ.tx1 (h : cJ F T w H) (hn : H.2.2.2.1 22 F.2.1 (H.1 3 3 F.2.1) ≠ none) (hr : H.1 3 3 F.2.1 < 1500) : cJ F T w (jupF H.1 3 3 F.2.1 (H.1 3 3 F.2.1 + 1), H.2) := by
  have h0 : 0 ≤ H.1 3 3 F.2.1 ∧ H.1 3 3 F.2.1 ≤ 1500 := h.v 3 3 _ h.top.2.1
  have h1 : cI F (H.1 7 4 F.2.2.1) (H.1 3 1 F.2.1) (H.1 3 3 F.2.1 + 1) T w H := by
    obtain ⟨q, r0, r1, r2, r3, r4, r5, r6, r7, r8, r9⟩ := h
    refine ⟨q, r0, r1, r2, r3, r4, r5, fun i a b => ?_, r7, r8, r9⟩
    by_cases hi : i = H.1 3 3 F.2.1
    · rw [hi]; exact hn
    · exact r6 i a (by omega)
  have h2 := cI.wi (c := 3) (j := 3) (p := F.2.1) (x := H.1 3 3 F.2.1 + 1) h1 (show 0 ≤ H.1 3 3 F.2.1 + 1 ∧ H.1 3 3 F.2.1 + 1 ≤ 1500 by omega) rfl
  show cI F (jupF H.1 3 3 F.2.1 (H.1 3 3 F.2.1 + 1) 7 4 F.2.2.1) (jupF H.1 3 3 F.2.1 (H.1 3 3 F.2.1 + 1) 3 1 F.2.1) (jupF H.1 3 3 F.2.1 (H.1 3 3 F.2.1 + 1) 3 3 F.2.1) T w _
  rw [jupF_id (by decide), jupF_id (by decide), jupF_eq]
  exact h2
end CO
