/-! the class: new post, client, log, NODE -/
section CX
variable {b : Bool} {d : Nat} {w : jW} {H : jH}
abbrev pR : List Nat := [28, 29, 30, 31]
theorem c_postInit {p : Nat} (h7 : w.1 7 p) (hfr : ∀ k, w.1 k p → k = 7) : J b d 45 w (0, jargs 0 [.inr (some (7, p))], [], H) (jN fun r w' H' => r = none ∧ jwM w w' ∧ w'.2.1 = w.2.1 + 4 ∧ w'.2.2 = w.2.2 + 13865 ∧ (w'.1 28 p ∧ w'.1 29 p ∧ w'.1 30 p ∧ w'.1 31 p) ∧ jK [] pR H' H ∧ (∀ i, H'.2.2.2.1 28 p i = none ∧ H'.2.2.2.1 29 p i = none ∧ H'.2.2.2.1 30 p i = none ∧ H'.2.2.1 31 p i = 0) ∧ ∀ k q, w'.1 k q → w.1 k q ∨ k ∈ pR) := by
  have n0 : ∀ k, k ≠ 7 → ¬ w.1 k p := fun k hk h => hk (hfr k h)
  refine J.run0 1 rfl ?_
  try dsimp only
  refine J.obj rfl rfl rfl rfl ?_
  refine J.run0 2 rfl ?_
  try dsimp only
  refine J.nrr rfl rfl rfl rfl rfl rfl rfl rfl rfl rfl rfl rfl (by decide) h7 (n0 _ (by decide)) (jstP.of rfl) ?_
  refine J.run0 2 rfl ?_
  try dsimp only
  refine J.nrr rfl rfl rfl rfl rfl rfl rfl rfl rfl rfl rfl rfl (by decide) (Or.inl h7) (nA (n0 _ (by decide)) (by decide)) (jstP.of rfl) ?_
  refine J.run0 2 rfl ?_
  try dsimp only
  refine J.nrr rfl rfl rfl rfl rfl rfl rfl rfl rfl rfl rfl rfl (by decide) (Or.inl (Or.inl h7)) (nA (nA (n0 _ (by decide)) (by decide)) (by decide)) (jstP.of rfl) ?_
  refine J.run0 2 rfl ?_
  try dsimp only
  refine J.nri rfl rfl rfl rfl rfl rfl rfl rfl rfl rfl (by decide) (Or.inl (Or.inl (Or.inl h7))) (nA (nA (nA (n0 _ (by decide)) (by decide)) (by decide)) (by decide)) (jstP.of rfl) ?_
  refine J.gn fun H1 hH1 => ?_
  have k1 : jK [] pR H1 H := by
    rw [hH1]
    refine jK.row ?_ (by decide)
    refine jK.rows ?_ (by decide)
    refine jK.rows ?_ (by decide)
    refine jK.rows ?_ (by decide)
    exact jK.refl _ _ _
  have v1 : ∀ i, H1.2.2.2.1 28 p i = none ∧ H1.2.2.2.1 29 p i = none ∧ H1.2.2.2.1 30 p i = none ∧ H1.2.2.1 31 p i = 0 := by
    rw [hH1]
    intro i
    exact ⟨congrFun (if_pos rfl) i, congrFun (if_pos rfl) i, congrFun (if_pos rfl) i, congrFun (if_pos rfl) i⟩
  clear hH1
  refine J.retv rfl rfl rfl ⟨_, rfl, rfl, fun k q h => Or.inl (Or.inl (Or.inl (Or.inl h))), rfl, rfl, ⟨Or.inl (Or.inl (Or.inl (Or.inr ⟨rfl, rfl⟩))), Or.inl (Or.inl (Or.inr ⟨rfl, rfl⟩)), Or.inl (Or.inr ⟨rfl, rfl⟩), Or.inr ⟨rfl, rfl⟩⟩, k1, v1, fun k q h => ?_⟩
  rcases h with (((h | h) | h) | h) | h
  · exact Or.inl h
  all_goals
    right
    rw [h.1]
    decide
theorem c_cliInit {c g : Nat} (h1 : w.1 1 c) (hfr : ∀ k, w.1 k c → k = 1) (hg : 0 < g) : J b d 3 w (0, jargs 0 [.inr (some (1, c)), .inr (some (0, g))], [], H) (jN fun r w' H' => r = none ∧ jwM w w' ∧ w'.2.1 = w.2.1 + 1 ∧ w'.2.2 = w.2.2 + 16 ∧ w'.1 20 c ∧ jK [1] [20] H' H ∧ H'.2.2.2.2 1 0 c = g ∧ ∀ k q, w'.1 k q → w.1 k q ∨ k = 20) := by
  refine J.run0 1 rfl ?_
  try dsimp only
  refine J.obj rfl rfl rfl rfl ?_
  refine J.run0 2 rfl ?_
  try dsimp only
  refine J.nrr rfl rfl rfl rfl rfl rfl rfl rfl rfl rfl rfl rfl (by decide) h1 (fun h => absurd (hfr _ h) (by decide)) (jstP.of rfl) ?_
  refine J.run 3 rfl ⟨Or.inl h1, hg⟩ ?_
  try dsimp only
  refine J.gn fun H1 hH1 => ?_
  have k1 : jK [1] [20] H1 H := by
    rw [hH1]
    refine jK.own ?_ (by decide)
    refine jK.rows ?_ (by decide)
    exact jK.refl _ _ _
  have v1 : H1.2.2.2.2 1 0 c = g := by rw [hH1]; exact if_pos rfl
  clear hH1
  refine J.retv rfl rfl rfl ⟨_, rfl, rfl, fun k q h => Or.inl h, rfl, rfl, Or.inr ⟨rfl, rfl⟩, k1, v1, fun k q h => ?_⟩
  rcases h with h | h
  · exact Or.inl h
  · exact Or.inr h.1
theorem c_logInit {l : Nat} (h4 : w.1 4 l) (hfr : ∀ k, w.1 k l → k = 4) : J b d 23 w (0, jargs 0 [.inr (some (4, l))], [], H) (jN fun r w' H' => r = none ∧ w' = jwA w 25 l 96 ∧ H'.1 = H.1 ∧ H'.2.1 = H.2.1 ∧ H'.2.2.1 = H.2.2.1 ∧ H'.2.2.2.2 = H.2.2.2.2 ∧ ∀ k, k ≠ 25 → H'.2.2.2.1 k = H.2.2.2.1 k) := by
  refine J.run0 1 rfl ?_
  try dsimp only
  refine J.obj rfl rfl rfl rfl ?_
  refine J.run0 2 rfl ?_
  try dsimp only
  refine J.nrr rfl rfl rfl rfl rfl rfl rfl rfl rfl rfl rfl rfl (by decide) h4 (fun h => absurd (hfr _ h) (by decide)) (jstP.of rfl) ?_
  refine J.gn fun H1 hH1 => ?_
  have v1 : H1.1 = H.1 ∧ H1.2.1 = H.2.1 ∧ H1.2.2.1 = H.2.2.1 ∧ H1.2.2.2.2 = H.2.2.2.2 := by rw [hH1]; exact ⟨rfl, rfl, rfl, rfl⟩
  have v2 : ∀ k, k ≠ 25 → H1.2.2.2.1 k = H.2.2.2.1 k := fun k hk => by
    rw [hH1]
    exact jsetR_k hk
  clear hH1
  exact J.retv rfl rfl rfl ⟨_, rfl, rfl, rfl, v1.1, v1.2.1, v1.2.2.1, v1.2.2.2, v2⟩
abbrev nR : List Nat := [26, 27, 25]
set_option maxRecDepth 8000 in
theorem c_nodeInit {P n g : Nat} (h6 : w.1 6 P) (h0 : 0 < P) (hfr : ∀ k, w.1 k P → k = 6) (hg : 0 < g) (hz : ∀ j, H.1 6 j P = 0) : J b (d + 1) 30 w (0, jargs 0 [.inr (some (6, P)), .inl (n : Int), .inr (some (0, g))], [], H) (jN fun r w' H' => r = none ∧ jwM w w' ∧ w'.2.1 = w.2.1 + 4 ∧ w'.2.2 ≤ w.2.2 + 500 ∧ jK [4, 6] nR H' H ∧ (∀ P' L', P' ≠ P → L' ≠ w.2.1 → nSame H' H P' L') ∧ (∀ kd, cNd w' (1, 0, 0, 0, []) kd H' n P w.2.1 g 0) ∧ (H'.1 6 6 P = -1 ∧ H'.1 6 7 P = -1) ∧ ∀ k q, w'.1 k q → w.1 k q ∨ k ∈ 4 :: nR) := by
  have n0 : ∀ k, k ≠ 6 → ¬ w.1 k P := fun k hk h => hk (hfr k h)
  refine J.run0 1 rfl ?_
  try dsimp only
  refine J.obj rfl rfl rfl rfl ?_
  refine J.run 16 rfl ⟨h6, h6, h6, h6, h6⟩ ?_
  try dsimp only
  refine J.gn fun H1 hH1 => ?_
  have f1 : nFld H1 H P [4, 5, 6, 7, 12] := by
    rw [hH1]
    refine nFld.int ?_ (by decide)
    refine nFld.int ?_ (by decide)
    refine nFld.int ?_ (by decide)
    refine nFld.int ?_ (by decide)
    refine nFld.int ?_ (by decide)
    exact nFld.refl _ _ _
  have v1 : H1.1 6 4 P = -1 ∧ H1.1 6 5 P = -1 ∧ H1.1 6 6 P = -1 ∧ H1.1 6 7 P = -1 ∧ H1.1 6 12 P = 13 := by
    rw [hH1]
    exact ⟨if_pos rfl, if_pos rfl, if_pos rfl, if_pos rfl, if_pos rfl⟩
  clear hH1
  refine J.nw rfl rfl rfl rfl rfl rfl rfl (jstP.of rfl) fun H2 hN2 hwc2 => ?_
  have hf2 : ∀ k, ¬ w.1 k w.2.1 := fun k h => by have := (hwc2.2 k _ h).1; omega
  have hP2 : P < w.2.1 := (hwc2.2 6 P h6).1
  refine J.run0 1 rfl ?_
  try dsimp only
  refine J.ini rfl rfl rfl (Or.inr rfl) rfl rfl rfl rfl rfl (jstP.of rfl) (c_logInit (Or.inr ⟨rfl, rfl⟩) (fun k h => by
    rcases h with h | h
    · exact absurd h (hf2 k)
    · exact h.1)) ?_
  rintro r w3 H3 ⟨rfl, rfl, x1, x2, x3, x4, x5⟩
  have n3 : ∀ k, k ≠ 6 → k ≠ 4 → k ≠ 25 → ¬ (jwA (jwA w 4 w.2.1 (jfn 4)) 25 w.2.1 96).1 k P := fun k h1 h2 h3 => nA (nA (n0 k h1) h2) h3
  refine J.run 3 rfl ⟨Or.inl (Or.inl h6), hwc2.1⟩ ?_
  try dsimp only
  refine J.nri rfl rfl rfl rfl rfl rfl rfl rfl rfl rfl (by decide) (Or.inl (Or.inl h6)) (n3 _ (by decide) (by decide) (by decide)) (jstP.of rfl) ?_
  refine J.run0 2 rfl ?_
  try dsimp only
  refine J.nri rfl rfl rfl rfl rfl rfl rfl rfl rfl rfl (by decide) (Or.inl (Or.inl (Or.inl h6))) (nA (n3 _ (by decide) (by decide) (by decide)) (by decide)) (jstP.of rfl) ?_
  refine J.run 6 rfl ⟨Or.inl (Or.inl (Or.inl (Or.inl h6))), Or.inl (Or.inl (Or.inl (Or.inl h6))), hg⟩ ?_
  try dsimp only
  refine J.gn fun H4 hH4 => ?_
  have k4 : jK [6] nR H4 H3 := by
    rw [hH4]
    refine jK.own ?_ (by decide)
    refine jK.int ?_ (by decide)
    refine jK.row ?_ (by decide)
    refine jK.row ?_ (by decide)
    refine jK.own ?_ (by decide)
    exact jK.refl _ _ _
  have v4 : H4.1 6 0 P = n ∧ H4.2.2.2.2 6 1 P = g ∧ H4.2.2.2.2 6 13 P = w.2.1 := by
    rw [hH4]
    exact ⟨if_pos rfl, if_pos rfl, if_pos rfl⟩
  have v5 : ∀ j, j ≠ 0 → H4.1 6 j P = H3.1 6 j P := fun j hj => by
    rw [hH4]
    show jupF H3.1 6 0 P _ 6 j P = _
    exact jupF_ne fun z => hj z.2.1
  have v6 : ∀ i, H4.2.2.1 26 P i = 0 ∧ H4.2.2.1 27 P i = 0 := fun i => by
    rw [hH4]
    exact ⟨congrFun (if_pos rfl) i, congrFun (if_pos rfl) i⟩
  have v7 : ∀ P', P' ≠ P → ∀ j, H4.1 6 j P' = H3.1 6 j P' ∧ H4.2.2.2.2 6 j P' = H3.2.2.2.2 6 j P' := fun P' hP' j => by
    rw [hH4]
    refine ⟨show jupF H3.1 6 0 P _ 6 j P' = _ from jupF_ne fun z => hP' z.2.2, ?_⟩
    show jupF (jupF H3.2.2.2.2 6 13 P _) 6 1 P _ 6 j P' = _
    rw [jupF_ne fun z => hP' z.2.2, jupF_ne fun z => hP' z.2.2]
  have v8 : ∀ P', P' ≠ P → H4.2.2.1 26 P' = H3.2.2.1 26 P' ∧ H4.2.2.1 27 P' = H3.2.2.1 27 P' := fun P' hP' => by
    rw [hH4]
    constructor
    · show jsetR (jsetR H3.2.2.1 26 P fun _ => 0) 27 P (fun _ => 0) 26 P' = _
      rw [jsetR_ne fun z => hP' z.2, jsetR_ne fun z => hP' z.2]
    · show jsetR (jsetR H3.2.2.1 26 P fun _ => 0) 27 P (fun _ => 0) 27 P' = _
      rw [jsetR_ne fun z => hP' z.2, jsetR_ne fun z => hP' z.2]
  clear hH4
  have hN6 : ∀ j p, H2.1 6 j p = H1.1 6 j p ∧ H2.2.2.2.2 6 j p = H1.2.2.2.2 6 j p := fun j p => by
    have a := hN2.1 6 j p fun z => absurd z.1 (by decide)
    exact ⟨a.1, a.2.2⟩
  have i6 : ∀ j, j ≠ 0 → H4.1 6 j P = H1.1 6 j P := fun j hj => by rw [v5 j hj, x1, (hN6 j P).1]
  have z6 : ∀ j, j ∉ [0, 4, 5, 6, 7, 12] → H4.1 6 j P = 0 := fun j hj => by
    rw [i6 j fun z => hj (by rw [z]; decide), f1.2 6 j P fun z => hj (List.mem_cons_of_mem _ z.2.2)]
    exact hz j
  have k3 : jK [4] nR H3 H2 := ⟨fun c _ => by rw [x1, x2, x4]; exact ⟨rfl, rfl, rfl⟩, fun k hk => ⟨by rw [x3], x5 k fun z => hk (by rw [z]; decide)⟩⟩
  have i4 : ∀ j, H4.1 4 j w.2.1 = 0 := fun j => by
    rw [(k4.1 4 (by decide)).1, x1]
    exact (hN2.2.1 j).1
  refine J.retv rfl rfl rfl ⟨_, rfl, rfl, fun k q h => Or.inl (Or.inl (Or.inl (Or.inl h))), rfl, ?_, ?_, fun P' L' hP' hL' => ?_, fun kd => ?_, ?_, fun k q h => ?_⟩
  · show w.2.2 + jfn 4 + 96 + 188 + 188 ≤ _
    have : jfn 4 = 3 := rfl
    omega
  · exact k4.trans (k3.trans ((hN_k hN2).trans (f1.k.mono (cs' := [4, 6]) (ks' := nR) (by decide) (fun _ h => (nomatch h))) (by decide) (fun _ h => (nomatch h))) (by decide) (fun _ h => h)) (by decide) (fun _ h => h)
  · refine ⟨fun j => ⟨?_, ?_⟩, fun j => ?_, ?_, ?_⟩
    · rw [(v7 P' hP' j).1, x1, (hN6 j P').1]
      exact f1.2 6 j P' fun z => hP' z.2.1
    · rw [(v7 P' hP' j).2, x4, (hN6 j P').2, f1.1]
    · rw [(k4.1 4 (by decide)).1, x1, (hN2.1 4 j L' fun z => hL' z.2).1]
      exact f1.2 4 j L' fun z => absurd z.1 (by decide)
    · rw [(v8 P' hP').1, x3, hN2.2.2.1, f1.1]
    · rw [(v8 P' hP').2, x3, hN2.2.2.1, f1.1]
  · have m0 : ∀ k, mb 0 k = false := fun k => by
      unfold mb
      show (0#32).getLsbD k = false
      simp
    refine ⟨⟨Or.inl (Or.inl (Or.inl (Or.inl h6))), h0, Or.inl (Or.inr ⟨rfl, rfl⟩), Or.inr ⟨rfl, rfl⟩, Or.inl (Or.inl (Or.inl (Or.inr ⟨rfl, rfl⟩))), hwc2.1, Or.inl (Or.inl (Or.inr ⟨rfl, rfl⟩))⟩, ⟨v4.1, v4.2.1, z6 2 (by decide), z6 3 (by decide), z6 8 (by decide), z6 9 (by decide), z6 10 (by decide), z6 11 (by decide), ?_⟩, ⟨Or.inl ?_, ?_, ?_, ?_, fun _ => ⟨?_, ?_, ?_, ?_⟩⟩, ⟨v4.2.2, i4 1, i4 2⟩, z6 16 (by decide), fun i _ => ?_, fun i _ => ?_⟩
    · rw [i6 12 (by decide)]; exact v1.2.2.2.2
    · rw [i6 4 (by decide)]; exact v1.1
    · rw [i6 5 (by decide), v1.2.1]; decide
    · rw [i6 6 (by decide), v1.2.2.1]; decide
    · rw [i6 7 (by decide), v1.2.2.2.1]; decide
    · rw [i6 4 (by decide)]; exact v1.1
    · rw [i6 5 (by decide)]; exact v1.2.1
    · rw [i6 6 (by decide)]; exact v1.2.2.1
    · rw [i6 7 (by decide)]; exact v1.2.2.2.1
    · rw [(v6 _).1, m0]; rfl
    · rw [(v6 _).2, m0]
      simp
  · rw [i6 6 (by decide), i6 7 (by decide)]
    exact ⟨v1.2.2.1, v1.2.2.2.1⟩
  · rcases h with (((h | h) | h) | h) | h
    · exact Or.inl h
    all_goals
      right
      rw [h.1]
      decide
end CX
