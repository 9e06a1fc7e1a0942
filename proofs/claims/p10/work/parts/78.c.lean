/-! the class: what a NODE does (5) -/
section CO2
variable {b : Bool} {d : Nat} {w : jW} {H : jH}
theorem va_up_self2 (je : Nat → Nat) (n : Nat) : va_up je n (je n) = je := by
  funext k
  unfold va_up
  by_cases hk : k = n
  · rw [if_pos hk, hk]
  · rw [if_neg hk]
theorem zN_self (z : zT) (n : Nat) : zN z n (z.2.2.2 n) = z := by
  unfold zN
  have e : va_up z.2.2.2 n (z.2.2.2 n) = z.2.2.2 := by
    funext k
    unfold va_up
    by_cases hk : k = n
    · rw [if_pos hk, hk]
    · rw [if_neg hk]
  rw [e]
theorem zsend_msg (z : zT) (n kd i : Nat) (hi : i < zM z) : (zsend z n kd).2.1 i = z.2.1 i := by
  unfold zsend
  split
  · rfl
  · exact if_neg (by have : i < z.1 := hi; omega)
/-- what the look at rule (e) ends with -/
abbrev rE (z : zT) (n : Nat) : Prop := zprop z n = true ∧ 0 < ns z n ∧ ne z n = 0 ∧ 11 ≤ zcnt z n 1
abbrev rEz (z : zT) (n : Nat) : zT := if ns z n = 1 then zsend (zst z n 2 1) n 2 else zst z n (ns z n) 1
theorem c_renew {F : cF} {z : zT} {n : Nat} {je mp bp sp : Nat → Nat} (hz : zInv z) (hP : cPic F w z H je mp bp sp) (hn : n < 16) (hh : nh z n ≤ 120) : J b (d + 4) 94 w (0, jargs 0 [.inr (some (10, fX F)), .inr (some (6, fN F n))], [], H) (jN fun r w' H' => (r = some (.inl 0) ∧ w' = w ∧ H' = H ∧ ¬ rE z n) ∨ (r = some (.inl 1) ∧ rE z n ∧ cInv F w' (rEz z n) H' je ∧ jCl H' H)) := by
  have hN := hP.2.2.2.1 n hn
  have hnd := hP.node hz hn
  have hT := hP.1
  have hM := hP.2.1
  have h4 := hz.2.2.2.1 n hn
  have hB3 := hz.1.2
  obtain ⟨⟨t1, t2, t3, t4, t5, t6, t7, t8⟩, -⟩ := hP.1
  have es : H.1 6 3 (fN F n) = (ns z n : Int) := hN.2.1.2.2.2.1
  have ee : H.1 6 8 (fN F n) = (ne z n : Int) := hN.2.1.2.2.2.2.1
  have nul : ∀ lv : jL, lv = jargs 0 [.inr (some (10, fX F)), .inr (some (6, fN F n))] → ¬ rE z n → J b (d + 4) 94 w (27, lv, [.inr none], H) (jN fun r w' H' => (r = some (.inl 0) ∧ w' = w ∧ H' = H ∧ ¬ rE z n) ∨ (r = some (.inl 1) ∧ rE z n ∧ cInv F w' (rEz z n) H' je ∧ jCl H' H)) := by
    rintro lv rfl hno
    refine J.run0 3 rfl ?_
    try dsimp only
    refine J.run0 1 rfl ?_
    try dsimp only
    exact J.retb rfl rfl rfl (by decide) ⟨_, rfl, Or.inl ⟨rfl, rfl, rfl, hno⟩⟩
  refine J.run 2 rfl hN.1.1 ?_
  try dsimp only
  try dsimp only
  rw [es]
  refine J.ifc rfl rfl rfl ⟨by omega, by omega⟩ (fun hc => ?_) (fun hc => ?_)
  · have hc' : (ns z n : Int) = 0 := hc
    refine J.run0 2 rfl ?_
    try dsimp only
    exact nul _ rfl fun h => by have := h.2.1; omega
  have hc' : ¬ (ns z n : Int) = 0 := hc
  refine J.run 2 rfl hN.1.1 ?_
  try dsimp only
  try dsimp only
  rw [ee]
  refine J.ifc rfl rfl rfl ⟨by omega, by omega⟩ (fun hc2 => ?_) (fun hc2 => ?_)
  rotate_left
  · have hc2' : ¬ (ne z n : Int) = 0 := hc2
    refine J.run0 2 rfl ?_
    try dsimp only
    exact nul _ rfl fun h => by have := h.2.2.1; omega
  have hc2' : (ne z n : Int) = 0 := hc2
  refine J.run 4 rfl hN.1.1 ?_
  try dsimp only
  try dsimp only
  rw [hN.2.1.2.2.1]
  refine J.inv rfl rfl rfl rfl rfl rfl ((jD_w rfl).mpr t1) rfl rfl rfl rfl rfl (c_proposalOf (d := d + 1) hz hT hM hn hN hnd.1 hnd.2.1 hnd.2.2.1 hnd.2.2.2.1 hh) ?_
  rintro r w H ⟨rfl, rfl, hr⟩
  rcases hr with ⟨hp, rfl⟩ | ⟨hp, i, hi, hi0, hih, rfl⟩
  · exact nul _ rfl fun h => absurd h.1 (by rw [hp]; decide)
  have hBz := zprop_B hz hn hp
  have hgd := hP.good hz hn hBz.1
  obtain ⟨⟨m1, m2, m3⟩, ⟨g1, g2, g3, g4, g5, g6, g7⟩, -⟩ := hM.2.2.1 i hi
  refine J.run0 3 rfl ?_
  try dsimp only
  refine J.run 5 rfl ⟨⟨t1, by rw [t3]; exact t6⟩, m1⟩ ?_
  try dsimp only
  try dsimp only
  rw [t3, g6, hih]
  refine J.inv rfl rfl rfl rfl rfl rfl ((jD_w rfl).mpr hP.2.2.1.1.1) rfl rfl rfl rfl rfl (c_ledGet hP.2.2.1.1.1 hP.2.2.1.1.2.1 hP.2.2.1.2.1.1 (by omega) hBz.1 hgd.1) ?_
  rintro r w H ⟨rfl, rfl, rfl⟩
  refine J.inv rfl rfl rfl rfl rfl rfl ((jD_w rfl).mpr hN.1.1) rfl rfl rfl rfl rfl (c_isGood hN.1.1 hN.2.1.2.1 hnd.1.1 hnd.1.2.1 hgd.2.1 hgd.2.2.1 hgd.2.2.2 hnd.1.2.1 hnd.2.2.2.2 hnd.2.2.2.2 (show 0 ≤ (nh z n : Int) - 1 ∧ (nh z n : Int) - 1 ≤ 1000 by omega)) ?_
  rintro r w H ⟨rfl, rfl, rfl⟩
  refine J.ifc rfl rfl rfl ⟨by decide, by decide⟩ (fun hc => absurd hc (show ¬ (1 : Int) = 0 by decide)) (fun _ => ?_)
  refine J.run 8 rfl ⟨hN.1.1, m1⟩ ?_
  try dsimp only
  try dsimp only
  rw [hN.2.1.2.2.1, g6, hih]
  refine J.inv rfl rfl rfl rfl rfl rfl ((jD_w rfl).mpr t1) rfl rfl rfl rfl rfl (c_heardFrom (d := d + 2) (kd := 1) hz hT hM hn hN hnd.1 hh (by omega) (by omega)) ?_
  rintro r w H ⟨rfl, rfl, bits, rfl, hbits⟩
  have hcnt := mcnt_z hz hn hbits
  refine J.inv rfl rfl rfl rfl rfl rfl ((jD_w rfl).mpr hN.1.1) rfl rfl rfl rfl rfl (c_isMost (d := d + 1) hN.1.1 hN.2.1.2.1 hnd.1.1 hnd.1.2.1 hnd.2.1 hnd.2.2.1 hnd.2.2.2.1) ?_
  rintro r w H ⟨rfl, rfl, rfl⟩
  rw [hcnt]
  by_cases h11 : 11 ≤ zcnt z n 1
  rotate_left
  · rw [if_neg h11]
    refine J.ifc rfl rfl rfl ⟨by decide, by decide⟩ (fun hc => absurd rfl hc) (fun _ => ?_)
    refine J.run0 1 rfl ?_
    try dsimp only
    exact J.retb rfl rfl rfl (by decide) ⟨_, rfl, Or.inl ⟨rfl, rfl, rfl, fun h => h11 h.2.2.2⟩⟩
  rw [if_pos h11]
  refine J.ifc rfl rfl rfl ⟨by decide, by decide⟩ (fun _ => ?_) (fun hc => absurd (show ¬ (1 : Int) = 0 by decide) hc)
  have hE : rE z n := ⟨hp, by omega, by omega, h11⟩
  refine J.run 3 rfl ⟨hN.1.1, Or.inr rfl⟩ ?_
  try dsimp only
  refine J.gn fun H1 hH1 => ?_
  have f1 : nFld H1 H (fN F n) [3, 4, 5, 6, 7, 8] := by
    rw [hH1]
    refine nFld.int ?_ (by decide)
    exact nFld.refl _ _ _
  have v8 : H1.1 6 8 (fN F n) = 1 := by rw [hH1]; exact if_pos rfl
  have v0 : ∀ j, j ≠ 8 → H1.1 6 j (fN F n) = H.1 6 j (fN F n) := fun j hj => by
    rw [hH1]
    show jupF H.1 6 8 (fN F n) 1 6 j (fN F n) = _
    exact jupF_ne fun z => hj z.2.1
  clear hH1
  have es1 : H1.1 6 3 (fN F n) = (ns z n : Int) := by rw [v0 3 (by decide)]; exact es
  have k1 := f1.k
  have tb : H1.1 5 5 (mp i) = (nh z n : Int) := by rw [(k1.1 5 (by decide)).1, g6, hih]
  refine J.run 3 rfl hN.1.1 ?_
  try dsimp only
  try dsimp only
  rw [es1]
  refine J.icmp rfl rfl rfl ⟨⟨by omega, by omega⟩, by decide, by decide⟩ (fun hc3 => ?_) (fun hc3 => ?_)
  · -- STEP 2: the CANDIDATE alone
    have hc3' : ¬ (ns z n : Int) = 1 := hc3
    have er1 : H1.1 6 2 (fN F n) = 0 := by rw [v0 2 (by decide)]; exact hN.2.1.2.2.1
    refine J.run 9 rfl ⟨m1, hN.1.1, hN.1.1, hN.1.1⟩ ?_
    try dsimp only
    refine J.gn fun H2 hH2 => ?_
    have f2 : nFld H2 H (fN F n) [3, 4, 5, 6, 7, 8] := by
      rw [hH2]
      iterate 2 refine nFld.int ?_ (by decide)
      exact f1
    have c6 : H2.1 6 6 (fN F n) = (nh z n : Int) := by rw [hH2, ← tb]; exact if_pos rfl
    have c7 : H2.1 6 7 (fN F n) = 0 := by
      rw [hH2]
      show jupF (jupF H1.1 6 6 (fN F n) _) 6 7 (fN F n) (jupF H1.1 6 6 (fN F n) _ 6 2 (fN F n)) 6 7 (fN F n) = 0
      rw [jupF_eq, jupF_ne fun z => absurd z.2.1 (by decide)]
      exact er1
    have o2 : ∀ j, j ≠ 6 → j ≠ 7 → H2.1 6 j (fN F n) = H1.1 6 j (fN F n) := fun j h6 h7 => by
      rw [hH2]
      show jupF (jupF H1.1 6 6 (fN F n) _) 6 7 (fN F n) _ 6 j (fN F n) = _
      rw [jupF_ne fun z => h7 z.2.1, jupF_ne fun z => h6 z.2.1]
    clear hH2
    have ez : rEz z n = zst z n (ns z n) 1 := if_neg (by omega)
    refine J.retb rfl rfl rfl (by decide) ⟨_, rfl, Or.inr ⟨rfl, hE, ?_, f2.k.cl rfl rfl⟩⟩
    rw [ez]
    have h9 := hP.up (j' := je n) (v' := (nh z n, ns z n, 1, nr z n, nK z n)) hn (f2.k.mono (by decide) (fun _ h => h)) (fun P' L' h1 _ => f2.same h1) (hN.fld f2 (by decide) rfl rfl (by rw [o2 3 (by decide) (by decide)]; exact es1) (by rw [o2 8 (by decide) (by decide)]; exact v8) (by rw [o2 9 (by decide) (by decide), v0 9 (by decide)]; exact hN.2.1.2.2.2.2.2.1) ⟨by rw [o2 4 (by decide) (by decide), v0 4 (by decide)]; exact hN.2.2.1.1, by rw [o2 5 (by decide) (by decide), v0 5 (by decide)]; exact hN.2.2.1.2.1, by rw [c6]; omega, by rw [c7]; decide, fun h => absurd h (show ¬ ((1 : Nat) = 0) by decide)⟩)
    rw [va_up_self2] at h9
    exact ⟨mp, bp, sp, h9⟩
  · -- STEP 1: LOCK, precommit
    have hc3' : ns z n = 1 := by have : (ns z n : Int) = 1 := Classical.not_not.mp hc3; omega
    have er1 : H1.1 6 2 (fN F n) = 0 := by rw [v0 2 (by decide)]; exact hN.2.1.2.2.1
    refine J.run 11 rfl ⟨m1, hN.1.1, hN.1.1, hN.1.1, hN.1.1⟩ ?_
    try dsimp only
    refine J.gn fun H2 hH2 => ?_
    have f2 : nFld H2 H (fN F n) [3, 4, 5, 6, 7, 8] := by
      rw [hH2]
      iterate 3 refine nFld.int ?_ (by decide)
      exact f1
    have c4 : H2.1 6 4 (fN F n) = (nh z n : Int) := by rw [hH2, ← tb]; exact if_pos rfl
    have c5 : H2.1 6 5 (fN F n) = 0 := by
      rw [hH2]
      show jupF (jupF H1.1 6 4 (fN F n) _) 6 5 (fN F n) (jupF H1.1 6 4 (fN F n) _ 6 2 (fN F n)) 6 5 (fN F n) = 0
      rw [jupF_eq, jupF_ne fun z => absurd z.2.1 (by decide)]
      exact er1
    have c3 : H2.1 6 3 (fN F n) = 2 := by rw [hH2]; exact if_pos rfl
    have o2 : ∀ j, j ≠ 3 → j ≠ 4 → j ≠ 5 → H2.1 6 j (fN F n) = H1.1 6 j (fN F n) := fun j h3 h4 h5 => by
      rw [hH2]
      show jupF (jupF (jupF H1.1 6 4 (fN F n) _) 6 5 (fN F n) _) 6 3 (fN F n) _ 6 j (fN F n) = _
      rw [jupF_ne fun z => h3 z.2.1, jupF_ne fun z => h5 z.2.1, jupF_ne fun z => h4 z.2.1]
    clear hH2
    have k2 := f2.k
    have tb2 : H2.1 5 5 (mp i) = (nh z n : Int) := by rw [(k2.1 5 (by decide)).1, g6, hih]
    have hP2 : cPic F w (zst z n 2 1) H2 je mp bp sp := by
      have h9 := hP.up (j' := je n) (v' := (nh z n, 2, 1, nr z n, nK z n)) hn (f2.k.mono (by decide) (fun _ h => h)) (fun P' L' h1 _ => f2.same h1) (hN.fld f2 (by decide) rfl rfl c3 (by rw [o2 8 (by decide) (by decide) (by decide)]; exact v8) (by rw [o2 9 (by decide) (by decide) (by decide), v0 9 (by decide)]; exact hN.2.1.2.2.2.2.2.1) ⟨Or.inr c4, by rw [c5]; decide, by rw [o2 6 (by decide) (by decide) (by decide), v0 6 (by decide)]; exact hN.2.2.1.2.2.1, by rw [o2 7 (by decide) (by decide) (by decide), v0 7 (by decide)]; exact hN.2.2.1.2.2.2.1, fun h => absurd h (show ¬ ((1 : Nat) = 0) by decide)⟩)
      rw [va_up_self2] at h9
      exact h9
    have en := zst_node z n 2 1
    have enr : nr (zst z n 2 1) n = nr z n := by unfold zst nr; rw [zN_at]
    have hz2 : zInv (zst z n 2 1) := hz.st hn (by omega) (by omega) (by omega)
    have hzs : zInv (zsend (zst z n 2 1) n 2) := by
      refine hz2.send hn (by omega) (by rw [en.1]; exact hBz.1) (by rw [en.1]; exact hh) (by rw [enr, en.2.1]; omega) (fun h => by omega)
    refine J.run 6 rfl m1 ?_
    try dsimp only
    try dsimp only
    rw [tb2]
    have h9 := c_send (b := b) (d := d) (w := w) (H := H2) (kd := 2) hz2 hzs hn hP2 (by rw [en.1]; exact hh) (by rw [enr]; omega)
    rw [en.1] at h9
    refine J.inv rfl rfl rfl rfl rfl rfl ((jD_w rfl).mpr t1) rfl rfl rfl rfl rfl h9 ?_
    rintro r w3 H3 ⟨rfl, ⟨mp', hP3, hmp⟩, hC3, -⟩
    have ez : rEz z n = zsend (zst z n 2 1) n 2 := if_pos hc3'
    have hN3 := hP3.2.2.2.1 n hn
    have ens := zsend_node (zst z n 2 1) n 2
    have hzi := zsend_msg (zst z n 2 1) n 2 i hi
    obtain ⟨⟨m1', -, -⟩, ⟨-, -, -, -, -, g6', -⟩, -⟩ := hP3.2.1.2.2.1 i (Nat.lt_of_lt_of_le hi (zM_send (zst z n 2 1) n 2))
    rw [hmp i hi] at m1' g6'
    have tb3 : H3.1 5 5 (mp i) = (nh z n : Int) := by
      rw [g6']
      have : zh (zsend (zst z n 2 1) n 2) i = zh z i := by unfold zh; rw [hzi]; rfl
      rw [this, hih]
    have er3 : H3.1 6 2 (fN F n) = 0 := hN3.2.1.2.2.1
    refine J.run 9 rfl ⟨m1', hN3.1.1, hN3.1.1, hN3.1.1⟩ ?_
    try dsimp only
    refine J.gn fun H4 hH4 => ?_
    have f4 : nFld H4 H3 (fN F n) [6, 7] := by
      rw [hH4]
      iterate 2 refine nFld.int ?_ (by decide)
      exact nFld.refl _ _ _
    have c6 : H4.1 6 6 (fN F n) = (nh z n : Int) := by rw [hH4, ← tb3]; exact if_pos rfl
    have c7 : H4.1 6 7 (fN F n) = 0 := by
      rw [hH4]
      show jupF (jupF H3.1 6 6 (fN F n) _) 6 7 (fN F n) (jupF H3.1 6 6 (fN F n) _ 6 2 (fN F n)) 6 7 (fN F n) = 0
      rw [jupF_eq, jupF_ne fun z => absurd z.2.1 (by decide)]
      exact er3
    clear hH4
    refine J.retb rfl rfl rfl (by decide) ⟨_, rfl, Or.inr ⟨rfl, hE, ?_, (f4.k.cl rfl rfl).trans (hC3.trans (k2.cl rfl rfl))⟩⟩
    rw [ez]
    have h8 := hP3.up (j' := je n) (v' := (zsend (zst z n 2 1) n 2).2.2.2 n) hn (f4.k.mono (by decide) (fun _ h => h)) (fun P' L' h1 _ => f4.same h1) (hN3.fld f4 (by decide) rfl rfl (by rw [f4.at 3 (by decide)]; exact hN3.2.1.2.2.2.1) (by rw [f4.at 8 (by decide)]; exact hN3.2.1.2.2.2.2.1) (by rw [f4.at 9 (by decide)]; exact hN3.2.1.2.2.2.2.2.1) ⟨by rw [f4.at 4 (by decide)]; exact hN3.2.2.1.1, by rw [f4.at 5 (by decide)]; exact hN3.2.2.1.2.1, by rw [c6]; omega, by rw [c7]; decide, fun h => by
      have h1 := (zsend_node (zst z n 2 1) n 2).2.2
      have h2 := (zst_node z n 2 1).2.2
      have h3 : ne (zsend (zst z n 2 1) n 2) n = 0 := h
      omega⟩)
    rw [va_up_self2, zN_self] at h8
    exact ⟨mp', bp, sp, h8⟩
theorem c_pfn {F : cF} {z : zT} {n : Nat} {je mp bp sp : Nat → Nat} (hz : zInv z) (hP : cPic F w z H je mp bp sp) (hn : n < 16) (hh : nh z n ≤ 120) : J b (d + 3) 95 w (0, jargs 0 [.inr (some (10, fX F)), .inr (some (6, fN F n))], [], H) (jN fun r w' H' => r = some (.inl 0) ∧ w' = w ∧ H' = H) := by
  have hN := hP.2.2.2.1 n hn
  have hnd := hP.node hz hn
  have hT := hP.1
  have hM := hP.2.1
  have h4 := hz.2.2.2.1 n hn
  obtain ⟨⟨t1, t2, t3, t4, t5, t6, t7, t8⟩, -⟩ := hP.1
  have es : H.1 6 3 (fN F n) = (ns z n : Int) := hN.2.1.2.2.2.1
  refine J.run 3 rfl hN.1.1 ?_
  try dsimp only
  try dsimp only
  rw [es]
  refine J.icmp rfl rfl rfl ⟨⟨by omega, by omega⟩, by decide, by decide⟩ (fun _ => ?_) (fun _ => ?_)
  · refine J.run0 1 rfl ?_
    try dsimp only
    exact J.retb rfl rfl rfl (by decide) ⟨_, rfl, rfl, rfl, rfl⟩
  refine J.run 7 rfl hN.1.1 ?_
  try dsimp only
  try dsimp only
  rw [hN.2.1.2.2.1]
  refine J.inv rfl rfl rfl rfl rfl rfl ((jD_w rfl).mpr t1) rfl rfl rfl rfl rfl (c_heardFrom (d := d + 1) (kd := 1) (bl := -1) hz hT hM hn hN hnd.1 hh (by omega) (by decide)) ?_
  rintro r w H ⟨rfl, rfl, bits, rfl, hbits⟩
  have hcnt := mcnt_no (show (-1 : Int) ≠ (nh z n : Int) by omega) hbits
  refine J.inv rfl rfl rfl rfl rfl rfl ((jD_w rfl).mpr hN.1.1) rfl rfl rfl rfl rfl (c_isMost (d := d) hN.1.1 hN.2.1.2.1 hnd.1.1 hnd.1.2.1 hnd.2.1 hnd.2.2.1 hnd.2.2.2.1) ?_
  rintro r w H ⟨rfl, rfl, rfl⟩
  rw [hcnt, if_neg (by decide)]
  refine J.ifc rfl rfl rfl ⟨by decide, by decide⟩ (fun hc => absurd rfl hc) (fun _ => ?_)
  refine J.run0 1 rfl ?_
  try dsimp only
  exact J.retb rfl rfl rfl (by decide) ⟨_, rfl, rfl, rfl, rfl⟩
end CO2
