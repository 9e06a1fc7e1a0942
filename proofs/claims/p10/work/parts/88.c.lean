/-! the class's constructor: all -/
section DA
variable {b : Bool} {d : Nat} {w : jW} {H : jH}
theorem c_begin_l {F : cF} : ∀ (m i : Nat) (w : jW) (H : jH), i + m = 16 → cRest F w (zc i) H → (i ≤ 1 → H.1 6 6 (fN F 1) = -1 ∧ H.1 6 7 (fN F 1) = -1) → J b (d + 6) 70 w (90, [(1, .inl (i : Int)), (0, .inr (some (10, fX F)))], [], H) (jN fun r w' H' => r = none ∧ cRest F w' (zc 16) H') := by
  intro m
  induction m with
  | zero =>
    intro i w H hi hR hc
    obtain rfl : i = 16 := by omega
    refine J.run0 2 rfl ?_
    try dsimp only
    exact J.icmp rfl rfl rfl ⟨⟨by decide, by decide⟩, by decide, by decide⟩ (fun _ => J.retv rfl rfl rfl ⟨_, rfl, rfl, hR⟩) (fun hc => absurd (show (16 : Int) ≤ (16 : Nat) by decide) hc)
  | succ m ih =>
    intro i w H hi hR hc
    obtain ⟨je, ⟨mp, bp, sp, hP⟩, hje⟩ := hR
    have hn : i < 16 := by omega
    obtain ⟨r1, r2, r3, r4⟩ := zc_nr i
    have hz := zc_inv i (by omega)
    obtain ⟨⟨t1, t2, -⟩, u1, u2, -⟩ := hP.1
    have hN := hP.2.2.2.1 i hn
    rw [zc_hi i i (Nat.le_refl _)] at hN
    refine J.run0 2 rfl ?_
    try dsimp only
    refine J.icmp rfl rfl rfl ⟨⟨by omega, by omega⟩, by decide, by decide⟩ (fun hc => absurd (show (16 : Int) ≤ (i : Int) from hc) (by omega)) (fun _ => ?_)
    have i16 : (0 : Int) ≤ i ∧ (i : Int) < 16 := by omega
    refine J.run 5 rfl ⟨⟨t1, t2⟩, t2, i16⟩ ?_
    try dsimp only
    try dsimp only
    rw [u1 i hn]
    refine J.inv rfl rfl rfl rfl rfl rfl ((jD_w rfl).mpr hN.1.1) rfl rfl rfl rfl rfl (c_enter hN.1.1) ?_
    rintro r w1 H1 ⟨rfl, rfl, f0, g2, g3, g8, g9⟩
    have f1 : nFld H1 H (fN F i) [3, 8, 9] := ⟨f0.1, fun c j p hno => by
      by_cases h : c = 6 ∧ p = fN F i ∧ j = 2
      · rw [h.1, h.2.1, h.2.2, g2]
        exact hN.2.1.2.2.1.symm
      · refine f0.2 c j p fun z => ?_
        have hj := z.2.2
        simp only [List.mem_cons, List.not_mem_nil, or_false] at hj
        rcases hj with hj | hj
        · exact h ⟨z.1, z.2.1, hj⟩
        · exact hno ⟨z.1, z.2.1, by simp only [List.mem_cons, List.not_mem_nil, or_false]; exact hj⟩⟩
    have hP1 : cPic F w1 (zc i) H1 (va_up je i 1) mp bp sp := by
      have h9 := hP.up (v' := (1, 0, 0, 0, [])) (j' := 1) hn (f1.k.mono (by decide) (fun _ h => h)) (fun P' L' h1 _ => f1.same h1) (hN.fld (v' := (1, 0, 0, 0, [])) (q' := bp (nh (zc i) i - 1)) f1 (by decide) rfl rfl g3 g8 g9 (by
        rw [f1.at 4 (by decide), f1.at 5 (by decide), f1.at 6 (by decide), f1.at 7 (by decide)]
        exact hN.2.2.1) |> fun h => by rw [r4] at h; exact h)
      have e : zN (zc i) i (1, 0, 0, 0, []) = zc i := by
        have h8 := zN_self (zc i) i
        rw [zc_hi i i (Nat.le_refl _)] at h8
        exact h8
      rw [e] at h9
      exact h9
    have u1' : H1.2.2.2.1 40 (fX F) (i : Int) = some (fN F i) := hP1.1.2.1 i hn
    refine J.run 5 rfl ⟨⟨t1, t2⟩, t2, i16⟩ ?_
    try dsimp only
    try dsimp only
    rw [u1']
    have hoth : ∀ m, m < 16 → m ≠ i → va_up je i 1 m = 0 ∨ 120 < nh (zc i) m := fun m hm hmn => by
      rw [show va_up je i 1 m = je m from if_neg hmn]
      exact hje m hm
    have hcc : i = 1 → H1.1 6 6 (fN F 1) = -1 ∧ H1.1 6 7 (fN F 1) = -1 := fun h => by
      rw [f1.2 6 6 _ fun z => absurd z.2.2 (by decide), f1.2 6 7 _ fun z => absurd z.2.2 (by decide)]
      exact hc (by omega)
    refine J.inv rfl rfl rfl rfl rfl rfl ((jD_w rfl).mpr t1) rfl rfl rfl rfl rfl (c_first hn hP1 (if_pos rfl) hoth hcc) ?_
    rintro r w2 H2 ⟨rfl, hR2, -, hfr2⟩
    refine J.run0 2 rfl ?_
    try dsimp only
    refine ih (i + 1) w2 H2 (by omega) hR2 fun h => ?_
    obtain rfl : i = 0 := by omega
    have h9 := hfr2 rfl
    rw [h9.1, h9.2, f1.2 6 6 _ fun z => absurd z.2.2 (by decide), f1.2 6 7 _ fun z => absurd z.2.2 (by decide)]
    exact hc (by omega)
abbrev iK : List Nat := [28, 29, 30, 31, 40, 20, 26, 27, 25]
set_option maxRecDepth 8000 in
theorem c_init {x : Nat} (h10 : w.1 10 x) (hfr : ∀ k, w.1 k x → k = 10) : J b (d + 6) 70 w (0, jargs 0 [.inr (some (10, x))], [], H) (jN fun r w' H' => r = none ∧ ∃ F : cF, fX F = x ∧ fO F 17 = w.2.1 + 200 ∧ fO F 16 = w.2.2 + 40000 ∧ cRest F w' (zc 16) H') := by
  refine J.run0 1 rfl ?_
  try dsimp only
  refine J.obj rfl rfl rfl rfl ?_
  refine J.run0 1 rfl ?_
  try dsimp only
  refine J.nw rfl rfl rfl rfl rfl rfl rfl (jstP.of rfl) fun H1 hN1 hwc1 => ?_
  have hf1 : ∀ k, ¬ w.1 k w.2.1 := fun k h => by have := (hwc1.2 k _ h).1; omega
  have hx1 : x ≠ w.2.1 := fun z => hf1 10 (z ▸ h10)
  refine J.run0 1 rfl ?_
  try dsimp only
  refine J.ini rfl rfl rfl (Or.inl rfl) rfl rfl rfl rfl rfl (jstP.of rfl) (c_ledInit (d := d + 3) (Or.inr ⟨rfl, rfl⟩) (fun k h => by
    rcases h with h | h
    · exact absurd h (hf1 k)
    · exact h.1) (fun j => (hN1.2.1 j).1)) ?_
  rintro r w2 H2 ⟨rfl, hM2, c2, s2, k2, u2, T, G, S, hG, hBk⟩
  have c2' : w2.2.1 ≤ w.2.1 + 41 := Nat.le_trans c2 (by show w.2.1 + 1 + 40 ≤ _; omega)
  have s2' : w2.2.2 ≤ w.2.2 + 6010 := Nat.le_trans s2 (by show w.2.2 + jfn 3 + 6000 ≤ _; have : jfn 3 ≤ 10 := (by decide); omega)
  have a2 : w2.1 10 x := hM2 _ _ (Or.inl h10)
  have n2 : ∀ k, k ∉ 10 :: 0 :: 8 :: bK → ¬ w2.1 k x := fun k hk h => by
    rcases u2 k x h with (h | h) | h
    · exact hk (by rw [hfr k h]; exact List.mem_cons_self)
    · exact hx1 h.2
    · exact hk (List.mem_cons_of_mem _ h)
  refine J.run 2 rfl ⟨a2, hwc1.1⟩ ?_
  try dsimp only
  refine J.gn fun H3 hH3 => ?_
  have k3 : jK [10] [] H3 H2 := by
    rw [hH3]
    refine jK.own ?_ (by decide)
    exact jK.refl _ _ _
  have v3 : H3.2.2.2.2 10 0 x = w.2.1 := by rw [hH3]; exact if_pos rfl
  clear hH3
  refine J.nw rfl rfl rfl rfl rfl rfl rfl (jstP.of rfl) fun H4 hN4 hwc4 => ?_
  have hf4 : ∀ k, ¬ w2.1 k w2.2.1 := fun k h => by have := (hwc4.2 k _ h).1; omega
  refine J.run0 1 rfl ?_
  try dsimp only
  refine J.ini rfl rfl rfl (Or.inr rfl) rfl rfl rfl rfl rfl (jstP.of rfl) (c_postInit (Or.inr ⟨rfl, rfl⟩) (fun k h => by
    rcases h with h | h
    · exact absurd h (hf4 k)
    · exact h.1)) ?_
  rintro r w5 H5 ⟨rfl, hM5, c5, s5, d5, k5, v5, u5⟩
  have hM25 : jwM w2 w5 := fun k p h => hM5 k p (Or.inl h)
  have hxp : x ≠ w2.2.1 := fun z => hf4 10 (z ▸ a2)
  have n5 : ¬ w5.1 40 x := fun h => by
    rcases u5 _ _ h with (h | h) | h
    · exact n2 _ (by decide) h
    · exact hxp h.2
    · exact absurd h (by decide)
  refine J.run 3 rfl ⟨hM25 _ _ a2, hwc4.1⟩ ?_
  try dsimp only
  refine J.nrr rfl rfl rfl rfl rfl rfl rfl rfl rfl rfl rfl rfl (by decide) (hM25 _ _ a2) n5 (jstP.of rfl) ?_
  refine J.run0 1 rfl ?_
  try dsimp only
  refine J.gn fun H6 hH6 => ?_
  have k6 : jK [10] [40] H6 H5 := by
    rw [hH6]
    refine jK.rows ?_ (by decide)
    refine jK.own ?_ (by decide)
    exact jK.refl _ _ _
  have v6 : H6.2.2.2.2 10 1 x = w2.2.1 ∧ H6.2.2.2.2 10 0 x = w.2.1 := by
    have e : H5.2.2.2.2 10 0 x = w.2.1 := by rw [(k5.1 10 (fun h => (nomatch h))).2.2, (hN4.1 10 0 x fun z => absurd z.1 (by decide)).2.2]; exact v3
    rw [hH6]
    refine ⟨if_pos rfl, ?_⟩
    rw [← e]
    show jupF H5.2.2.2.2 10 1 x w2.2.1 10 0 x = _
    exact jupF_ne fun z => absurd z.2.1 (by decide)
  clear hH6
  refine J.nw rfl rfl rfl rfl rfl rfl rfl (jstP.of rfl) fun H7 hN7 hwc7 => ?_
  generalize hw6 : jwA w5 40 x (Int.toNat 16) = w6 at *
  have hM56 : jwM w5 w6 := fun k p h => by rw [← hw6]; exact Or.inl h
  have dn6 : w6.1 40 x := by rw [← hw6]; exact Or.inr ⟨rfl, rfl⟩
  have c6 : w6.2.1 = w5.2.1 + 1 ∧ w6.2.2 = w5.2.2 + 16 := by rw [← hw6]; exact ⟨rfl, rfl⟩
  clear hw6
  have hf7 : ∀ k, ¬ w6.1 k w6.2.1 := fun k h => by have := (hwc7.2 k _ h).1; omega
  have hM26 : jwM w2 w6 := fun k p h => hM56 k p (hM25 k p h)
  have el : H7.2.2.2.2 10 0 x = w.2.1 := by rw [(hN7.1 10 0 x fun z => absurd z.1 (by decide)).2.2]; exact v6.2
  have hB0 := hBk (x, w.2.1, 0, 0, T, G, id, id) zfresh rfl rfl rfl rfl
  have h3 : w2.1 3 w.2.1 := hB0.1.1
  have h21 : w2.1 21 w.2.1 := hB0.1.2.1
  have hb2 : H2.2.2.2.1 21 w.2.1 0 = some G := (hB0.2.2.2.1 0 (by decide)).1
  have k62 : jK [10, 7] (40 :: pR) H6 H2 := k6.trans (k5.trans ((hN_k hN4).trans (k3.mono (cs' := [10, 7]) (ks' := 40 :: pR) (by decide) (fun _ h => (nomatch h))) (by decide) (fun _ h => (nomatch h))) (fun _ h => (nomatch h)) (by decide)) (by decide) (by decide)
  have hb7 : H7.2.2.2.1 21 w.2.1 0 = some G := by rw [hN7.2.2.2, (k62.2 21 (by decide)).2]; exact hb2
  refine J.run 3 rfl ⟨Or.inl (hM26 _ _ a2), by rw [el]; exact hwc1.1⟩ ?_
  try dsimp only
  try dsimp only
  rw [el]
  refine J.inv rfl rfl rfl rfl rfl rfl ((jD_w rfl).mpr (Or.inl (hM26 _ _ h3))) rfl rfl rfl rfl rfl (c_genesis (Or.inl (hM26 _ _ h3)) (Or.inl (hM26 _ _ h21)) hb7) ?_
  rintro r w7 H7' ⟨rfl, rfl, rfl⟩
  refine J.ini rfl rfl rfl (Or.inl rfl) rfl rfl rfl rfl rfl (jstP.of rfl) (c_cliInit (Or.inr ⟨rfl, rfl⟩) (fun k h => by
    rcases h with h | h
    · exact absurd h (hf7 k)
    · exact h.1) hG) ?_
  rintro r w8 H8 ⟨rfl, hM8, c8, s8, d8, k8, v8, -⟩
  have hM68 : jwM w6 w8 := fun k p h => hM8 k p (Or.inl h)
  have hM28 : jwM w2 w8 := fun k p h => hM68 k p (hM26 k p h)
  refine J.run 3 rfl ⟨hM28 _ _ a2, hwc7.1⟩ ?_
  try dsimp only
  refine J.gn fun H9 hH9 => ?_
  have k9 : jK [10] [] H9 H8 := by
    rw [hH9]
    refine jK.own ?_ (by decide)
    exact jK.refl _ _ _
  have v9 : H9.2.2.2.2 10 3 x = w6.2.1 ∧ H9.2.2.2.2 10 1 x = w2.2.1 ∧ H9.2.2.2.2 10 0 x = w.2.1 := by
    have e : ∀ j, H8.2.2.2.2 10 j x = H6.2.2.2.2 10 j x := fun j => by rw [(k8.1 10 (by decide)).2.2, (hN7.1 10 j x fun z => absurd z.1 (by decide)).2.2]
    rw [hH9]
    refine ⟨if_pos rfl, ?_, ?_⟩
    · refine Eq.trans ?_ ((e _).trans v6.1)
      show jupF H8.2.2.2.2 10 3 x w6.2.1 10 1 x = _
      exact jupF_ne fun z => absurd z.2.1 (by decide)
    · refine Eq.trans ?_ ((e _).trans v6.2)
      show jupF H8.2.2.2.2 10 3 x w6.2.1 10 0 x = _
      exact jupF_ne fun z => absurd z.2.1 (by decide)
  clear hH9
  have k86 : jK [1] [20] H8 H6 := k8.trans ((hN_k hN7).mono (cs' := [1]) (ks' := [20]) (fun _ h => h) (fun _ h => (nomatch h))) (fun _ h => h) (fun _ h => h)
  have k92 : jK [10, 7, 1] (20 :: 40 :: pR) H9 H2 := k9.trans (k86.trans (k62.mono (cs' := [10, 7, 1]) (ks' := 20 :: 40 :: pR) (by decide) (by decide)) (by decide) (by decide)) (by decide) (fun _ h => (nomatch h))
  have hb9 : H9.2.2.2.1 21 w.2.1 0 = some G := by rw [(k92.2 21 (by decide)).2]; exact hb2
  have rm : w8.2.1 ≤ w.2.1 + 60 ∧ w8.2.2 ≤ w.2.2 + 21000 := by
    have q1 : w8.2.1 = w6.2.1 + 1 + 1 := c8
    have q2 : w8.2.2 = w6.2.2 + jfn 1 + 16 := s8
    have q3 : w5.2.1 = w2.2.1 + 1 + 4 := c5
    have q4 : w5.2.2 = w2.2.2 + jfn 7 + 13865 := s5
    have q5 : jfn 1 ≤ 10 := by decide
    have q6 : jfn 7 ≤ 10 := by decide
    obtain ⟨q7, q8⟩ := c6
    clear c8 s8 c5 s5 c2 s2
    constructor <;> omega
  refine c_nodes_l (d := d + 4) (x := x) (l := w.2.1) (g := G) (H0 := H9) (w0 := w8) (hM28 _ _ a2) (hM68 _ _ dn6) ⟨v9.2.2, hwc1.1⟩ ⟨hM28 _ _ h3, hM28 _ _ h21, hb9⟩ hG (fun w' H' P L hM r1 r2 hK hNs => ?_) 16 0 w8 H9 (fun _ => 0) (fun _ => 0) rfl (fun _ _ h => h) (Nat.le_refl _) (Nat.le_refl _) (jK.refl _ _ _) ⟨fun m hm => absurd hm (Nat.not_lt_zero _), fun m m' hm => absurd hm (Nat.not_lt_zero _)⟩
  refine J.run0 2 rfl ?_
  try dsimp only
  obtain ⟨F, e1, e2, e3, e4, e5, e6, e7, e8, e9, e10⟩ : ∃ F : cF, fX F = x ∧ fL F = w.2.1 ∧ fP F = w2.2.1 ∧ fC F = w6.2.1 ∧ fT F = T ∧ fG F = G ∧ fN F = P ∧ (∀ n, n < 16 → fO F n = L n) ∧ fO F 17 = w.2.1 + 200 ∧ fO F 16 = w.2.2 + 40000 := ⟨(x, w.2.1, w2.2.1, w6.2.1, T, G, P, fun n => if n = 17 then w.2.1 + 200 else if n = 16 then w.2.2 + 40000 else L n), rfl, rfl, rfl, rfl, rfl, rfl, rfl, fun n hn => by
    show (if n = 17 then _ else if n = 16 then _ else L n) = L n
    rw [if_neg (by omega), if_neg (by omega)], rfl, rfl⟩
  have hM2' : jwM w2 w' := fun k p h => hM k p (hM28 k p h)
  have hM5' : jwM w5 w' := fun k p h => hM k p (hM68 k p (hM56 k p h))
  have hM8' : jwM w8 w' := hM
  have K : jK [10, 7, 1, 4, 6] iK H' H2 := hK.trans (k92.mono (cs' := [10, 7, 1, 4, 6]) (ks' := iK) (by decide) (by decide)) (by decide) (by decide)
  have x10 := hK.1 10 (by decide)
  have x7 : H'.1 7 = H4.1 7 := by
    rw [(hK.1 7 (by decide)).1, (k9.1 7 (by decide)).1, (k86.1 7 (by decide)).1, (k6.1 7 (by decide)).1, (k5.1 7 (fun h => (nomatch h))).1]
  have xr : ∀ k, k ∈ pR → H'.2.2.1 k = H5.2.2.1 k ∧ H'.2.2.2.1 k = H5.2.2.2.1 k := fun k hk => by
    have d1 : ∀ k, k ∈ pR → k ∉ 40 :: nR ∧ k ∉ [20] ∧ k ∉ [40] := by decide
    obtain ⟨a, a', a''⟩ := d1 k hk
    rw [(hK.2 k a).1, (k9.2 k (fun h => (nomatch h))).1, (k86.2 k a').1, (k6.2 k a'').1, (hK.2 k a).2, (k9.2 k (fun h => (nomatch h))).2, (k86.2 k a').2, (k6.2 k a'').2]
    exact ⟨rfl, rfl⟩
  have hP : cPic F w' zfresh H' (fun _ => 0) (fun _ => 0) (fun _ => G) (fun _ => S) := by
    refine ⟨?_, ?_, (hBk F zfresh e2 e5 e6 rfl).mv hM2' rfl K (by decide) (by decide), fun n hn => ?_, ?_⟩
    · unfold cTop
      rw [e1, e2, e3, e4, e6, e7, x10.2.2]
      refine ⟨⟨hM2' _ _ a2, hM _ _ (hM68 _ _ dn6), v9.2.2, v9.2.1, v9.1, hwc1.1, hwc4.1, hwc7.1⟩, fun n hn => (hNs.1 n hn).1, fun n m hn hm h => (hNs.2 n m hn hm).1 h, fun n m hn hm h => ?_, hM _ _ (hM8 _ _ (Or.inr ⟨rfl, rfl⟩)), hM _ _ d8, ?_⟩
      · rw [e8 n hn, e8 m hm] at h
        exact (hNs.2 n m hn hm).2 h
      · rw [(hK.1 1 (by decide)).2.2, (k9.1 1 (by decide)).2.2]
        exact v8
    · unfold cMs
      rw [e3, x7, (xr 28 (by decide)).2, (xr 29 (by decide)).2, (xr 30 (by decide)).2, (xr 31 (by decide)).1]
      refine ⟨⟨hM5' _ _ (hM5 _ _ (Or.inr ⟨rfl, rfl⟩)), hM5' _ _ d5.1, hM5' _ _ d5.2.1, hM5' _ _ d5.2.2.1, hM5' _ _ d5.2.2.2⟩, (hN4.2.1 _).1, fun i hi => absurd hi (Nat.not_lt_zero _), ⟨fun i j hi => absurd hi (Nat.not_lt_zero _), fun i _ => (v5 _).1, fun i _ => (v5 _).2.1⟩, fun h hh => ⟨(v5 _).2.1, (v5 _).2.2.1, (v5 _).2.2.2⟩⟩
    · rw [e7, e8 n hn]
      exact (hNs.1 n hn).2.1 _
    · unfold cRoom
      rw [e9, e10]
      obtain ⟨q1, q2⟩ := rm
      constructor
      · show w'.2.1 ≤ w.2.1 + 200 + 2 * 0 + 20 * 1
        omega
      · show w'.2.2 ≤ w.2.2 + 40000 + 20 * 0 + 1000 * 1
        omega
  have h9 := c_begin_l (b := b) (d := d) (F := F) 16 0 w' H' rfl ⟨fun _ => 0, ⟨_, _, _, hP⟩, fun m _ => Or.inl rfl⟩ (fun _ => by rw [e7]; exact (hNs.1 1 (by decide)).2.2)
  rw [e1] at h9
  refine J.post h9 ?_
  rintro o w9 H10 ⟨v, rfl, rfl, hR⟩
  exact ⟨_, rfl, rfl, F, e1, e9, e10, hR⟩
end DA
