/-! the class: what a NODE does (2) -/
section CL2
variable {b : Bool} {d : Nat} {w : jW} {H : jH}
theorem c_propose {F : cF} {z : zT} {n : Nat} {je mp bp sp : Nat → Nat} (hz : zInv z) (hP : cPic F w z H je mp bp sp) (hn : n < 16) (hh : nh z n ≤ 120) (hje : je n = 1) (hr : nr z n = 0) (hs0 : ns z n = 0) (he0 : ne z n = 0) (hb : nh z n ≤ 120 → zP (nh z n) = n → zB z = nh z n) (hc : zP (nh z n) = n → H.1 6 6 (fN F n) = -1 ∧ H.1 6 7 (fN F n) = -1) :
    J b (d + 4) 90 w (0, jargs 0 [.inr (some (10, fX F)), .inr (some (6, fN F n))], [], H) (jN fun r w' H' => r = some (.inl 1) ∧ cInv F w' (zbegin z n) H' (va_up je n 0) ∧ jCl H' H ∧ (zP (nh z n) ≠ n → w' = w ∧ nFld H' H (fN F n) [9])) := by
  have hN := hP.2.2.2.1 n hn
  have h4 := hz.2.2.2.1 n hn
  have hM6 := hz.1.1
  have hBz := hz.1.2
  refine J.run 2 rfl hN.1.1 ?_
  try dsimp only
  try dsimp only
  rw [hN.2.1.2.2.2.2.2.1, hje]
  refine J.ifc rfl rfl rfl ⟨by decide, by decide⟩ (fun _ => ?_) (fun hc => absurd (show ¬ (1 : Int) = 0 by decide) hc)
  refine J.run 3 rfl ⟨hN.1.1, Or.inl rfl⟩ ?_
  try dsimp only
  refine J.gn fun H1 hH1 => ?_
  have f1 : nFld H1 H (fN F n) [9] := by
    rw [hH1]
    refine nFld.int ?_ (by decide)
    exact nFld.refl _ _ _
  have g1 : H1.1 6 9 (fN F n) = 0 := by rw [hH1]; exact if_pos rfl
  clear hH1
  have hP1 : cPic F w (zst z n 0 0) H1 (va_up je n 0) mp bp sp := by
    refine hP.up hn (f1.k.mono (by decide) (fun _ h => h)) (fun P' L' h1 _ => f1.same h1) (hN.fld f1 (by decide) rfl rfl ?_ ?_ g1 ?_)
    · rw [f1.at 3 (by decide), hN.2.1.2.2.2.1]
      show (ns z n : Int) = 0
      omega
    · rw [f1.at 8 (by decide), hN.2.1.2.2.2.2.1]
      show (ne z n : Int) = 0
      omega
    · rw [f1.at 4 (by decide), f1.at 5 (by decide), f1.at 6 (by decide), f1.at 7 (by decide)]
      exact ⟨hN.2.2.1.1, hN.2.2.1.2.1, hN.2.2.1.2.2.1, hN.2.2.1.2.2.2.1, fun _ => hN.2.2.1.2.2.2.2 he0⟩
  have hz1 : zInv (zst z n 0 0) := hz.st hn (by omega) (by omega) (by omega)
  have en : nh (zst z n 0 0) n = nh z n := (zst_node z n 0 0).1
  have hnd := hP1.node hz1 hn
  rw [en] at hnd
  have hN1 := hP1.2.2.2.1 n hn
  rw [en] at hN1
  have hc0 : zP (nh z n) = n → H1.1 6 6 (fN F n) = -1 ∧ H1.1 6 7 (fN F n) = -1 := by
    rw [f1.at 6 (by decide), f1.at 7 (by decide)]
    exact hc
  obtain ⟨⟨t1, t2, t3, t4, t5, t6, t7, t8⟩, -⟩ := hP1.1
  have hM1 := hP1.2.1
  have fin : ∀ lv, zbegin z n = zst z n 0 0 → J b (d + 4) 90 w (86, lv, [], H1) (jN fun r w' H' => r = some (.inl 1) ∧ cInv F w' (zbegin z n) H' (va_up je n 0) ∧ jCl H' H ∧ (zP (nh z n) ≠ n → w' = w ∧ nFld H' H (fN F n) [9])) := by
    intro lv hzb
    refine J.run0 1 rfl ?_
    try dsimp only
    refine J.retb rfl rfl rfl (by decide) ⟨_, rfl, rfl, ?_, f1.k.cl rfl rfl, fun _ => ⟨rfl, f1⟩⟩
    rw [hzb]
    exact ⟨mp, bp, sp, hP1⟩
  refine J.run 2 rfl ⟨t1, by rw [t4]; exact t7⟩ ?_
  try dsimp only
  try dsimp only
  rw [t4]
  refine J.inv rfl rfl rfl rfl rfl rfl ((jD_w rfl).mpr hM1.1.1) rfl rfl rfl rfl rfl (c_postFull (M := zM z) hM1.1.1 hM1.2.1 hM6) ?_
  rintro r w' H' ⟨rfl, rfl, rfl⟩
  by_cases hfull : zM z = 6000
  · rw [if_pos hfull]
    refine J.ifc rfl rfl rfl ⟨by decide, by decide⟩ (fun _ => ?_) (fun hc => absurd (show ¬ (1 : Int) = 0 by decide) hc)
    refine fin _ ?_
    unfold zbegin
    rw [if_neg (by have : zM z = z.1 := rfl; omega)]
  rw [if_neg hfull]
  refine J.ifc rfl rfl rfl ⟨by decide, by decide⟩ (fun hc => absurd rfl hc) (fun _ => ?_)
  refine J.run 3 rfl hN1.1.1 ?_
  try dsimp only
  try dsimp only
  rw [hN1.2.1.2.2.1]
  refine J.inv rfl rfl rfl rfl rfl rfl ((jD_w rfl).mpr hN1.1.1) rfl rfl rfl rfl rfl (c_prop hN1.1.1 hN1.2.1.2.1 hnd.1.1 hnd.1.2.1 hnd.2.1 hnd.2.2.1 hnd.2.2.2.1 hnd.1.2.2 (by omega)) ?_
  rintro r w' H' ⟨rfl, rfl, rfl⟩
  have hzp := zP_lt (nh z n)
  refine J.run 2 rfl hN1.1.1 ?_
  try dsimp only
  try dsimp only
  rw [hN1.2.1.1]
  refine J.icmp rfl rfl rfl ⟨⟨by omega, by omega⟩, by omega, by omega⟩ (fun hc2 => ?_) (fun hc2 => ?_)
  · have hc2' : ¬ (zP (nh z n) : Int) = n := hc2
    refine fin _ ?_
    unfold zbegin
    rw [if_neg (by omega)]
  have hc2' : zP (nh z n) = n := by have : (zP (nh z n) : Int) = n := Classical.not_not.mp hc2; omega
  have hBh : zB z = nh z n := hb hh hc2'
  have hc1 := hc0 hc2'
  refine J.run 3 rfl hN1.1.1 ?_
  try dsimp only
  try dsimp only
  rw [hc1.1]
  refine J.icmp rfl rfl rfl ⟨⟨by decide, by decide⟩, by decide, by decide⟩ (fun _ => ?_) (fun hc => absurd rfl hc)
  have tl : H'.2.2.2.2 10 0 (fX F) = fL F := t3
  refine J.run 2 rfl ⟨t1, by rw [tl]; exact t6⟩ ?_
  try dsimp only
  try dsimp only
  rw [tl]
  have tq : H'.2.2.2.2 6 1 (fN F n) = bp (nh z n - 1) := hN1.2.1.2.1
  refine J.run 2 rfl ⟨hN1.1.1, by rw [tq]; exact hnd.1.1⟩ ?_
  try dsimp only
  try dsimp only
  rw [tq]
  refine J.run 2 rfl hN1.1.1 ?_
  try dsimp only
  try dsimp only
  rw [hN1.2.1.1]
  have hBk1 : cBk F w' (zst z n 0 0) H' bp sp := hP1.2.2.1
  have eB : zB (zst z n 0 0) = zB z := rfl
  by_cases h300 : zB z = 300
  · refine J.inv rfl rfl rfl rfl rfl rfl ((jD_w rfl).mpr hBk1.1.1) rfl rfl rfl rfl rfl (c_addBest0 hBk1 h300) ?_
    rintro r w2 H2 ⟨rfl, rfl, rfl⟩
    refine J.run0 3 rfl ?_
    try dsimp only
    refine J.icmp rfl rfl rfl ⟨⟨by decide, by decide⟩, by decide, by decide⟩ (fun _ => ?_) (fun hc => absurd rfl hc)
    refine fin _ ?_
    unfold zbegin
    rw [if_neg (by have : zB z = z.2.2.1 := rfl; omega)]
  have hcond : nh z n ≤ 120 ∧ zP (nh z n) = n ∧ z.1 < 6000 ∧ z.2.2.1 < 300 := ⟨hh, hc2', by have : zM z = z.1 := rfl; omega, by have : zB z = z.2.2.1 := rfl; omega⟩
  have hzb : zbegin z n = zsend (z.1, z.2.1, z.2.2.1 + 1, va_up z.2.2.2 n (nh z n, 0, 0, nr z n, nK z n)) n 0 := if_pos hcond
  have hzy := zInv.begin1 hz hn hr hh hc2' hcond.2.2.2 hBh
  have hzs : zInv (zsend (z.1, z.2.1, z.2.2.1 + 1, va_up z.2.2.2 n (nh z n, 0, 0, nr z n, nK z n)) n 0) := by
    rw [← hzb]
    exact hz.begin hn hr hb
  have h9 := c_addBest (b := b) (d := d + 1) (w := w') (H := H') (z' := (z.1, z.2.1, z.2.2.1 + 1, va_up z.2.2.2 n (nh z n, 0, 0, nr z n, nK z n))) (n := n) hBk1 (by rw [eB]; omega) rfl (by rw [eB, hBh]; exact hc2'.symm)
  rw [eB] at h9
  rw [hBh] at h9
  refine J.inv rfl rfl rfl rfl rfl rfl ((jD_w rfl).mpr hBk1.1.1) rfl rfl rfl rfl rfl h9 ?_
  rintro r w2 H2 ⟨rfl, hM2, c2, s2, K2, bp', sp', hBk2, hbp⟩
  refine J.run0 3 rfl ?_
  try dsimp only
  refine J.icmp rfl rfl rfl ⟨⟨by omega, by omega⟩, by decide, by decide⟩ (fun hc => absurd (show (nh z n : Int) = -1 from hc) (by omega)) (fun _ => ?_)
  have r6 := K2.1 6 (by decide)
  have tc : H2.1 6 7 (fN F n) = -1 := by rw [r6.1]; exact hc1.2
  refine J.run 6 rfl (hM2 _ _ hN1.1.1) ?_
  try dsimp only
  try dsimp only
  rw [tc]
  have hPy : cPic F w2 (z.1, z.2.1, z.2.2.1 + 1, va_up z.2.2.2 n (nh z n, 0, 0, nr z n, nK z n)) H2 (va_up je n 0) mp bp' sp' := by
    refine ⟨hP1.1.mv hM2 K2 (by decide) (by decide), hM1.mv hM2 ⟨rfl, rfl⟩ K2 (by decide) (by decide), hBk2, fun m hm => ?_, ?_⟩
    · have hNm := hP1.2.2.2.1 m hm
      have e : bp' (nh (zst z n 0 0) m - 1) = bp (nh (zst z n 0 0) m - 1) := hbp _ (by have := (hz1.2.2.2.1 m hm).1; have : zB (zst z n 0 0) = nh z n := hBh; omega)
      rw [← e] at hNm
      exact hNm.mv hM2 (nSame.of K2 (by decide) (by decide)) fun _ _ => rfl
    · obtain ⟨r1, r2⟩ := hP1.2.2.2.2
      have e1 : zM (zst z n 0 0) = z.1 := rfl
      have e2 : zB (zst z n 0 0) = z.2.2.1 := rfl
      refine ⟨?_, ?_⟩
      · show w2.2.1 ≤ fO F 17 + 2 * z.1 + 20 * (z.2.2.1 + 1)
        omega
      · show w2.2.2 ≤ fO F 16 + 20 * z.1 + 1000 * (z.2.2.1 + 1)
        omega
  have hat : va_up z.2.2.2 n (nh z n, 0, 0, nr z n, nK z n) n = (nh z n, 0, 0, nr z n, nK z n) := if_pos rfl
  have enh : nh (z.1, z.2.1, z.2.2.1 + 1, va_up z.2.2.2 n (nh z n, 0, 0, nr z n, nK z n)) n = nh z n := by
    show (va_up z.2.2.2 n (nh z n, 0, 0, nr z n, nK z n) n).1 = _
    rw [hat]
  have enr : nr (z.1, z.2.1, z.2.2.1 + 1, va_up z.2.2.2 n (nh z n, 0, 0, nr z n, nK z n)) n = nr z n := by
    show (va_up z.2.2.2 n (nh z n, 0, 0, nr z n, nK z n) n).2.2.2.1 = _
    rw [hat]
  have h8 := c_send (b := b) (d := d) (w := w2) (H := H2) (kd := 0) hzy hzs hn hPy (by rw [enh]; exact hh) (by rw [enr]; omega)
  rw [enh] at h8
  refine J.inv rfl rfl rfl rfl rfl rfl ((jD_w rfl).mpr (hM2 _ _ t1)) rfl rfl rfl rfl rfl h8 ?_
  rintro r w3 H3 ⟨rfl, ⟨mp', hP3, -⟩, hC3, -⟩
  refine J.run0 1 rfl ?_
  try dsimp only
  refine J.retb rfl rfl rfl (by decide) ⟨_, rfl, rfl, ?_, hC3.trans ((K2.cl rfl rfl).trans (f1.k.cl rfl rfl)), fun h => absurd hc2' h⟩
  rw [hzb]
  exact ⟨mp', bp', sp', hP3⟩
end CL2
