/-! the class: what a NODE does (4) -/
section CN2
variable {b : Bool} {d : Nat} {w : jW} {H : jH}
theorem c_prevote {F : cF} {z : zT} {n : Nat} {je mp bp sp : Nat → Nat} (hz : zInv z) (hP : cPic F w z H je mp bp sp) (hn : n < 16) (hh : nh z n ≤ 120) : J b (d + 4) 93 w (0, jargs 0 [.inr (some (10, fX F)), .inr (some (6, fN F n))], [], H) (jN fun r w' H' => (r = some (.inl 0) ∧ w' = w ∧ H' = H ∧ ¬ (zprop z n = true ∧ ns z n = 0)) ∨ (r = some (.inl 1) ∧ (zprop z n = true ∧ ns z n = 0) ∧ cInv F w' (zsend (zst z n 1 (ne z n)) n 1) H' je ∧ jCl H' H)) := by
  have hN := hP.2.2.2.1 n hn
  have hnd := hP.node hz hn
  have hT := hP.1
  have hM := hP.2.1
  have h4 := hz.2.2.2.1 n hn
  have hB3 := hz.1.2
  obtain ⟨⟨t1, t2, t3, t4, t5, t6, t7, t8⟩, -⟩ := hP.1
  have es : H.1 6 3 (fN F n) = (ns z n : Int) := hN.2.1.2.2.2.1
  refine J.run 2 rfl hN.1.1 ?_
  try dsimp only
  try dsimp only
  rw [es]
  by_cases hs0 : ns z n = 0
  rotate_left
  · refine J.ifc rfl rfl rfl ⟨by omega, by omega⟩ (fun _ => ?_) (fun hc => absurd (show ¬ (ns z n : Int) = 0 by omega) hc)
    refine J.run0 1 rfl ?_
    try dsimp only
    refine J.run0 4 rfl ?_
    try dsimp only
    exact J.retb rfl rfl rfl (by decide) ⟨_, rfl, Or.inl ⟨rfl, rfl, rfl, fun h => hs0 h.2⟩⟩
  refine J.ifc rfl rfl rfl ⟨by omega, by omega⟩ (fun hc => absurd (show (ns z n : Int) = 0 by omega) hc) (fun _ => ?_)
  refine J.run 4 rfl hN.1.1 ?_
  try dsimp only
  try dsimp only
  rw [hN.2.1.2.2.1]
  refine J.inv rfl rfl rfl rfl rfl rfl ((jD_w rfl).mpr t1) rfl rfl rfl rfl rfl (c_proposalOf (d := d + 1) hz hT hM hn hN hnd.1 hnd.2.1 hnd.2.2.1 hnd.2.2.2.1 hh) ?_
  rintro r w H ⟨rfl, rfl, hr⟩
  rcases hr with ⟨hp, rfl⟩ | ⟨hp, i, hi, hi0, hih, rfl⟩
  · refine J.run0 1 rfl ?_
    try dsimp only
    refine J.run0 4 rfl ?_
    try dsimp only
    exact J.retb rfl rfl rfl (by decide) ⟨_, rfl, Or.inl ⟨rfl, rfl, rfl, fun h => by rw [hp] at h; exact absurd h.1 (by decide)⟩⟩
  have hBz := zprop_B hz hn hp
  have hgd := hP.good hz hn hBz.1
  obtain ⟨⟨m1, m2, m3⟩, ⟨g1, g2, g3, g4, g5, g6, g7⟩, -⟩ := hM.2.2.1 i hi
  have hlk := hN.2.2.1.1
  have fin : ∀ lv, lv = [(2, .inr (some (5, mp i))), (0, .inr (some (10, fX F))), (1, .inr (some (6, fN F n)))] → J b (d + 4) 93 w (46, lv, [], H) (jN fun r w' H' => (r = some (.inl 0) ∧ w' = w ∧ H' = H ∧ ¬ (zprop z n = true ∧ ns z n = 0)) ∨ (r = some (.inl 1) ∧ (zprop z n = true ∧ ns z n = 0) ∧ cInv F w' (zsend (zst z n 1 (ne z n)) n 1) H' je ∧ jCl H' H)) := by
    rintro lv rfl
    refine J.run0 2 rfl ?_
    try dsimp only
    refine J.run 6 rfl m1 ?_
    try dsimp only
    try dsimp only
    rw [g7]
    refine J.icmp rfl rfl rfl ⟨⟨by decide, by decide⟩, by decide, by decide⟩ (fun _ => ?_) (fun hc => absurd rfl hc)
    refine J.run 3 rfl hN.1.1 ?_
    try dsimp only
    refine J.gn fun H1 hH1 => ?_
    have f1 : nFld H1 H (fN F n) [3] := by
      rw [hH1]
      refine nFld.int ?_ (by decide)
      exact nFld.refl _ _ _
    have s1 : H1.1 6 3 (fN F n) = 1 := by rw [hH1]; exact if_pos rfl
    clear hH1
    have ej : va_up je n (je n) = je := by
      funext k
      unfold va_up
      by_cases hk : k = n
      · rw [if_pos hk, hk]
      · rw [if_neg hk]
    have hP1 : cPic F w (zst z n 1 (ne z n)) H1 je mp bp sp := by
      have h9 := hP.up (j' := je n) (v' := (nh z n, 1, ne z n, nr z n, nK z n)) hn (f1.k.mono (by decide) (fun _ h => h)) (fun P' L' h1 _ => f1.same h1) (hN.fld f1 (by decide) rfl rfl s1 (by rw [f1.at 8 (by decide)]; exact hN.2.1.2.2.2.2.1) (by rw [f1.at 9 (by decide)]; exact hN.2.1.2.2.2.2.2.1) (by rw [f1.at 4 (by decide), f1.at 5 (by decide), f1.at 6 (by decide), f1.at 7 (by decide)]; exact hN.2.2.1))
      rw [ej] at h9
      exact h9
    have hz1 : zInv (zst z n 1 (ne z n)) := hz.st hn (by omega) h4.2.2.1 (by omega)
    have hzm : zmove z n = some (zsend (zst z n 1 (ne z n)) n 1) ∨ (zprop z n = true ∧ 11 ≤ zcnt z n 2) := by
      by_cases h11 : zprop z n = true ∧ 11 ≤ zcnt z n 2
      · exact Or.inr h11
      · refine Or.inl ?_
        unfold zmove
        rw [if_neg h11, if_pos ⟨hp, hs0⟩]
    have hzs : zInv (zsend (zst z n 1 (ne z n)) n 1) := by
      have e := zst_node z n 1 (ne z n)
      refine hz1.send hn (by omega) ?_ ?_ ?_ (fun h => by omega)
      · rw [e.1]; exact hBz.1
      · rw [e.1]; exact hh
      · rw [e.2.1]
        have : nr (zst z n 1 (ne z n)) n = nr z n := by unfold zst nr; rw [zN_at]
        rw [this]
        omega
    have k1 := f1.k
    have tl : H1.2.2.2.2 10 0 (fX F) = fL F := by rw [(k1.1 10 (by decide)).2.2]; exact t3
    have tb : H1.1 5 5 (mp i) = (nh z n : Int) := by rw [(k1.1 5 (by decide)).1, g6, hih]
    refine J.run0 4 rfl ?_
    try dsimp only
    refine J.ifc rfl rfl rfl ⟨by decide, by decide⟩ (fun hc => absurd hc (show ¬ (1 : Int) = 0 by decide)) (fun _ => ?_)
    refine J.run 5 rfl ⟨⟨t1, by rw [tl]; exact t6⟩, m1⟩ ?_
    try dsimp only
    try dsimp only
    rw [tl, tb]
    have hBk1 := hP1.2.2.1
    have en : nh (zst z n 1 (ne z n)) n = nh z n := (zst_node z n 1 (ne z n)).1
    have hgd1 := hP1.good hz1 hn (by rw [en]; exact hBz.1)
    have hnd1 := hP1.node hz1 hn
    rw [en] at hgd1 hnd1
    have hN1 := hP1.2.2.2.1 n hn
    rw [en] at hN1
    refine J.inv rfl rfl rfl rfl rfl rfl ((jD_w rfl).mpr hBk1.1.1) rfl rfl rfl rfl rfl (c_ledGet (B := zB z) hBk1.1.1 hBk1.1.2.1 hBk1.2.1.1 (by omega) hBz.1 hgd1.1) ?_
    rintro r w' H' ⟨rfl, rfl, rfl⟩
    refine J.inv rfl rfl rfl rfl rfl rfl ((jD_w rfl).mpr hN1.1.1) rfl rfl rfl rfl rfl (c_isGood hN1.1.1 hN1.2.1.2.1 hnd1.1.1 hnd1.1.2.1 hgd1.2.1 hgd1.2.2.1 hgd1.2.2.2 hnd1.1.2.1 hnd1.2.2.2.2 hnd1.2.2.2.2 (show 0 ≤ (nh z n : Int) - 1 ∧ (nh z n : Int) - 1 ≤ 1000 by omega)) ?_
    rintro r w' H' ⟨rfl, rfl, rfl⟩
    refine J.ifc rfl rfl rfl ⟨by decide, by decide⟩ (fun hc => absurd hc (show ¬ (1 : Int) = 0 by decide)) (fun _ => ?_)
    refine J.run 3 rfl m1 ?_
    try dsimp only
    try dsimp only
    rw [tb]
    refine J.run0 1 rfl ?_
    try dsimp only
    have h9 := c_send (b := b) (d := d) (w := w') (H := H') (kd := 1) hz1 hzs hn hP1 (by rw [en]; exact hh) (by
      have : nr (zst z n 1 (ne z n)) n = nr z n := by unfold zst nr; rw [zN_at]
      rw [this]
      omega)
    rw [en] at h9
    refine J.inv rfl rfl rfl rfl rfl rfl ((jD_w rfl).mpr t1) rfl rfl rfl rfl rfl h9 ?_
    rintro r w3 H3 ⟨rfl, ⟨mp', hP3, -⟩, hC3, -⟩
    refine J.run0 1 rfl ?_
    try dsimp only
    exact J.retb rfl rfl rfl (by decide) ⟨_, rfl, Or.inr ⟨rfl, ⟨hp, hs0⟩, ⟨mp', bp, sp, hP3⟩, hC3.trans (k1.cl rfl rfl)⟩⟩
  refine J.run0 1 rfl ?_
  try dsimp only
  refine J.run0 3 rfl ?_
  try dsimp only
  refine J.run 3 rfl hN.1.1 ?_
  try dsimp only
  have hlkb : -2147483648 ≤ H.1 6 4 (fN F n) ∧ H.1 6 4 (fN F n) ≤ 2147483647 := by
    have h9 : H.1 6 4 (fN F n) = -1 ∨ H.1 6 4 (fN F n) = (nh z n : Int) := hlk
    omega
  refine J.icmp rfl rfl rfl ⟨hlkb, by decide, by decide⟩ (fun _ => fin _ rfl) (fun hc => ?_)
  have hc' : ¬ H.1 6 4 (fN F n) = -1 := hc
  have hlk2 : H.1 6 4 (fN F n) = (nh z n : Int) := by
    rcases hlk with h | h
    · exact absurd h hc'
    · exact h
  refine J.run 4 rfl ⟨hN.1.1, m1⟩ ?_
  try dsimp only
  try dsimp only
  rw [hlk2, g6, hih]
  refine J.icmp rfl rfl rfl ⟨⟨by omega, by omega⟩, by omega, by omega⟩ (fun hc => absurd rfl hc) (fun _ => fin _ rfl)
end CN2
