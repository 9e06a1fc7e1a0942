section JMF
variable {d : Nat} {w : jW} {H : jH}
set_option maxRecDepth 8000 in
theorem j_mv217 {z : zT} {n : Nat} {t p : Int} (hz : zInv z) (hI : rInv z H) (hn : n < 16) (hno : ¬ (zprop z n = true ∧ 11 ≤ zcnt z n 2)) :
    J true (d + 7) 143 w (217, [(3, .inl t), (4, .inl p), (2, .inl 0), (0, jT), (1, .inl (n : Int))], [], H) (jN (qMove z n w)) := by
  have hn' : (0 : Int) ≤ n ∧ (n : Int) < 16 := by omega
  have h4 := hz.2.2.2.1 n hn
  have hM := hz.1.1
  have hN := hI.2.2 n hn
  have er : H.2.2.1 73 0 n = 0 := hN.1.2.1
  have es : H.2.2.1 74 0 n = (ns z n : Int) := hN.1.2.2.1
  refine J.run 8 rfl hn' ?_
  try dsimp only
  try dsimp only
  rw [er]
  refine J.inv rfl rfl rfl rfl rfl rfl jDr rfl rfl rfl rfl rfl (j_proposalZ (d := d + 4) hz hI hn) ?_
  rintro r w' H' ⟨rfl, rfl, hr⟩
  have tail : ∀ y : Int, r = some (.inl y) → ((zprop z n = false ∧ y = -1) ∨ zprop z n = true ∧ ∃ x : Nat, x < zM z ∧ y = x ∧ H'.2.2.1 67 0 x = (nh z n : Int) ∧ H'.2.2.1 68 0 x = -1) → J true (d + 7) 143 w' (230, [(3, .inl 0), (4, .inl p), (2, .inl 0), (0, jT), (1, .inl (n : Int))], [.inl y], H') (jN (qMove z n w')) := by
    intro y _ hy
    have hy' : -1 ≤ y ∧ y < 6000 := by
      rcases hy with ⟨_, rfl⟩ | ⟨_, x, hx, rfl, _⟩ <;> omega
    have hy2 : (zprop z n = false ∧ y = -1) ∨ zprop z n = true ∧ ∃ x : Nat, x < zM z ∧ y = x ∧ H'.2.2.1 67 0 x = (nh z n : Int) := by
      rcases hy with h | ⟨h, x, a, b, c, _⟩
      · exact Or.inl h
      · exact Or.inr ⟨h, x, a, b, c⟩
    refine J.run 5 rfl hn' ?_
    try dsimp only
    refine J.ifc rfl rfl rfl ⟨show -2147483648 ≤ H'.2.2.1 74 0 n by omega, show H'.2.2.1 74 0 n ≤ 2147483647 by omega⟩ (fun hc => ?_) (fun hc => ?_)
    · have hc' : ¬ H'.2.2.1 74 0 n = 0 := hc
      exact j_mv382 (d := d + 1) hz hI hn hno (fun h => by omega) hy2
    have hc' : H'.2.2.1 74 0 n = 0 := Classical.not_not.mp hc
    refine J.run0 1 rfl ?_
    try dsimp only
    refine J.ifc rfl rfl rfl ⟨by omega, by omega⟩ (fun hc2 => ?_) (fun hc2 => ?_)
    · have hc2' : y < 0 := hc2
      refine j_mv382 (d := d + 1) hz hI hn hno (fun h => ?_) hy2
      rcases hy with ⟨h1, _⟩ | ⟨_, x, _, rfl, _⟩
      · rw [h1] at h; exact absurd h.1 (by decide)
      · omega
    have hc2' : ¬ y < 0 := hc2
    rcases hy with ⟨_, rfl⟩ | ⟨hp, x, hx, rfl, hmb, hbf⟩
    · exact absurd (show (-1 : Int) < 0 by decide) hc2'
    have hx' : (0 : Int) ≤ x ∧ (x : Int) < 6000 := by omega
    have hBz := zprop_B hz hn hp
    refine J.run 11 rfl ⟨hx', hx'⟩ ?_
    try dsimp only
    try dsimp only
    rw [hmb, hbf]
    refine J.ifc rfl rfl rfl ⟨by decide, by decide⟩ (fun _ => ?_) (fun hc3 => absurd (show (-1 : Int) < 0 by decide) hc3)
    refine J.run0 2 rfl ?_
    try dsimp only
    refine J.run0 2 rfl ?_
    try dsimp only
    refine J.ifc rfl rfl rfl ⟨by decide, by decide⟩ (fun hc4 => absurd hc4 (show ¬ (1 : Int) = 0 by decide)) (fun _ => ?_)
    refine J.run0 3 rfl ?_
    try dsimp only
    refine J.inv rfl rfl rfl rfl rfl rfl jDr rfl rfl rfl rfl rfl (j_isGoodZ (d := d + 3) hz hI hn hBz.1) ?_
    rintro r w'' H1 ⟨rfl, rfl, hI1, -⟩
    refine J.ifc rfl rfl rfl ⟨by decide, by decide⟩ (fun hc5 => absurd hc5 (show ¬ (1 : Int) = 0 by decide)) (fun _ => ?_)
    have hN1 := hI1.2.2 n hn
    have hlk : H1.2.2.1 75 0 n = -1 ∨ H1.2.2.1 75 0 n = nh z n := hN1.1.2.2.2.1
    have hb3 := hz.1.2.2
    have fin : J true (d + 7) 143 w'' (346, [(7, .inl 1), (6, .inl (-1)), (5, .inl (nh z n : Int)), (4, .inl (x : Int)), (3, .inl 0), (2, .inl 0), (0, jT), (1, .inl (n : Int))], [], H1) (jN (qMove z n w'')) := by
      refine J.run0 2 rfl ?_
      try dsimp only
      refine J.run 11 rfl hn' ?_
      try dsimp only
      refine J.gen fun H2 hH2 => ?_
      have hE2 : jEx [] kV H2 H1 := by
        rw [hH2]
        refine jEx.row ?_ (by decide)
        exact jEx.refl _ _ _
      have hO2 : ∀ n', n' ≠ n → n' < 16 → rOth H2 H1 n' := by
        intro n' a b
        rw [hH2]
        exact rOth.up (rOth.refl _ _) (Or.inl (by omega)) (Or.inr (by decide)) (Or.inr (by decide))
      have g1 : H2.2.2.1 74 0 n = ((1 : Nat) : Int) := by rw [hH2]; show jup (H1.2.2.1 74 0) n 1 n = 1; exact if_pos rfl
      have g2 : H2.2.2.1 115 0 n = (ne z n : Int) := by rw [show H2.2.2.1 115 0 n = H1.2.2.1 115 0 n by rw [hH2]; rfl]; exact hN1.2.1.2.2.2.2
      have g3 : H2.2.2.1 75 0 n = H1.2.2.1 75 0 n := by rw [hH2]; rfl
      have g4 : H2.2.2.1 76 0 n = H1.2.2.1 76 0 n := by rw [hH2]; rfl
      have g5 : H2.2.2.1 77 0 n = H1.2.2.1 77 0 n := by rw [hH2]; rfl
      have g6 : H2.2.2.1 78 0 n = H1.2.2.1 78 0 n := by rw [hH2]; rfl
      clear hH2
      have hz2 : zInv (zst z n 1 (ne z n)) := hz.st hn (by omega) h4.2.2.1 (by omega)
      have hI2 : rInv (zst z n 1 (ne z n)) H2 := hI1.mv hz hn hE2 g1 g2 (by rw [g3]; exact hlk) (by rw [g4]; exact hN1.1.2.2.2.2.1) (by rw [g5]; exact hN1.1.2.2.2.2.2.1) (by rw [g6]; exact hN1.1.2.2.2.2.2.2.1) (by rw [g3, g4, g5, g6]; exact hN1.1.2.2.2.2.2.2.2.1) hO2
      refine J.ifc rfl rfl rfl ⟨by decide, by decide⟩ (fun hc6 => absurd hc6 (show ¬ (1 : Int) = 0 by decide)) (fun _ => ?_)
      refine J.run0 2 rfl ?_
      try dsimp only
      refine J.run0 1 rfl ?_
      try dsimp only
      have h9 := j_sent (d := d + 2) (w := w'') (kd := 1) hz2 hI2 hn
      rw [(zst_node z n 1 (ne z n)).1] at h9
      refine J.inv rfl rfl rfl rfl rfl rfl jDr rfl rfl rfl rfl rfl h9 ?_
      rintro r w3 H3 ⟨⟨y, rfl⟩, rfl, hI3⟩
      refine J.run0 2 rfl ?_
      try dsimp only
      refine J.retb rfl rfl rfl (by decide) ⟨_, rfl, rfl, Or.inl ⟨rfl, _, ?_, hI3⟩⟩
      unfold zmove
      rw [if_neg hno, if_pos ⟨hp, by omega⟩]
    refine J.run 4 rfl hn' ?_
    try dsimp only
    refine J.ifc rfl rfl rfl ⟨show -2147483648 ≤ H1.2.2.1 75 0 n by omega, show H1.2.2.1 75 0 n ≤ 2147483647 by omega⟩ (fun _ => fin) (fun hc7 => ?_)
    have hc7' : ¬ H1.2.2.1 75 0 n < 0 := hc7
    refine J.run 5 rfl hn' ?_
    try dsimp only
    exact J.icmp rfl rfl rfl ⟨⟨show -2147483648 ≤ H1.2.2.1 75 0 n by omega, show H1.2.2.1 75 0 n ≤ 2147483647 by omega⟩, by omega, by omega⟩ (fun _ => fin) (fun hc8 => absurd (show H1.2.2.1 75 0 n = (nh z n : Int) by omega) hc8)
  rcases hr with ⟨h1, rfl⟩ | ⟨h1, x, hx, rfl, hmb, hbf⟩
  · exact tail (-1) rfl (Or.inl ⟨h1, rfl⟩)
  · exact tail x rfl (Or.inr ⟨h1, x, hx, rfl, hmb, hbf⟩)
set_option maxRecDepth 8000 in
/-- from the end of the look at rule (a) to that at the others -/
theorem j_mv111 {z : zT} {n : Nat} {p : Int} (hz : zInv z) (hI : rInv z H) (hn : n < 16) (hno : ¬ (zprop z n = true ∧ 11 ≤ zcnt z n 2)) :
    J true (d + 7) 143 w (111, [(4, .inl p), (3, .inl 0), (2, .inl 0), (0, jT), (1, .inl (n : Int))], [], H) (jN (qMove z n w)) := by
  have hn' : (0 : Int) ≤ n ∧ (n : Int) < 16 := by omega
  have er : H.2.2.1 73 0 n = 0 := (hI.2.2 n hn).1.2.1
  refine J.run0 2 rfl ?_
  try dsimp only
  refine J.run0 2 rfl ?_
  try dsimp only
  refine J.icmp rfl rfl rfl ⟨⟨by decide, by decide⟩, by decide, by decide⟩ (fun _ => ?_) (fun hc => absurd (show (0 : Int) < 0 + 1 by decide) hc)
  refine J.run0 2 rfl ?_
  try dsimp only
  refine J.run 5 rfl hn' ?_
  try dsimp only
  refine J.icmp rfl rfl rfl ⟨⟨by decide, by decide⟩, show -2147483648 ≤ H.2.2.1 73 0 n by omega, show H.2.2.1 73 0 n ≤ 2147483647 by omega⟩ (fun _ => ?_) (fun hc => absurd (show (0 : Int) ≤ H.2.2.1 73 0 n by omega) hc)
  exact j_mv217 hz hI hn hno
set_option maxRecDepth 8000 in
theorem j_mv_most {z : zT} {n : Nat} (hz : zInv z) (hI : rInv z H) (hn : n < 16) (Post : jO → jW → jH → Prop) (hnext : J true d 143 w (42, [(3, .inl (H.2.2.1 113 0 n)), (2, .inl 0), (0, jT), (1, .inl (n : Int))], [], H) Post) :
    ∀ (m : Nat) (i t : Int), i + m = H.2.2.1 113 0 n → 0 ≤ i → t = 0 → J true d 143 w (4, [(3, .inl i), (2, .inl t), (0, jT), (1, .inl (n : Int))], [], H) Post := by
  intro m
  have hn' : (0 : Int) ≤ n ∧ (n : Int) < 16 := by omega
  have hN := hI.nowm hz hn
  have hM := hN.2.1
  induction m with
  | zero =>
    intro i t hi h0 ht
    obtain rfl : i = H.2.2.1 113 0 n := by omega
    subst ht
    refine J.run 5 rfl hn' ?_
    try dsimp only
    exact J.icmp rfl rfl rfl ⟨⟨by omega, by omega⟩, show -2147483648 ≤ H.2.2.1 113 0 n by omega, show H.2.2.1 113 0 n ≤ 2147483647 by omega⟩ (fun _ => hnext) (fun hc => absurd (show H.2.2.1 113 0 n ≤ H.2.2.1 113 0 n by omega) hc)
  | succ m ih =>
    intro i t hi h0 ht
    have hlt : i < H.2.2.1 113 0 n := by omega
    obtain ⟨x0, x1, x2, x3, x4, x5, x6⟩ := hN.2.2 i h0 hlt
    have b1 : 0 ≤ 6000 * (n : Int) + i ∧ 6000 * (n : Int) + i < 96000 := by omega
    have e0 : H.2.2.1 66 0 (H.2.2.1 112 0 (6000 * (n : Int) + i)) = 0 := by
      have e1 := (hI.2.2 n hn).2.2.2.2.1
      have e2 := (hI.2.2 n hn).2.2.2.2.2
      have hl2 : i.toNat < (vNow (z.2.2.2 n) (zh z)).length := by omega
      have h1 := e2 i.toNat _ (List.getElem?_eq_getElem hl2)
      rw [show ((i.toNat : Nat) : Int) = i by omega] at h1
      rw [h1]
      exact (hI.1.2 _ ((hz.2.2.2.1 n hn).2.2.2.2.1 _ (mem_vNow.mp (List.getElem_mem hl2)).1)).2.2.2.1
    refine J.run 5 rfl hn' ?_
    try dsimp only
    refine J.icmp rfl rfl rfl ⟨⟨by omega, by omega⟩, show -2147483648 ≤ H.2.2.1 113 0 n by omega, show H.2.2.1 113 0 n ≤ 2147483647 by omega⟩ (fun hc => absurd (show H.2.2.1 113 0 n ≤ i from hc) (by omega)) (fun _ => ?_)
    refine J.run 12 rfl ⟨b1, x0⟩ ?_
    try dsimp only
    refine J.max rfl rfl rfl (show jR t from ⟨by omega, by omega⟩) (show jR (H.2.2.1 66 0 (H.2.2.1 112 0 (6000 * (n : Int) + i))) from ⟨by omega, by omega⟩) ?_
    refine J.run0 3 rfl ?_
    try dsimp only
    refine ih (i + 1) _ (by omega) (by omega) ?_
    show (if t < H.2.2.1 66 0 (H.2.2.1 112 0 (6000 * (n : Int) + i)) then H.2.2.1 66 0 (H.2.2.1 112 0 (6000 * (n : Int) + i)) else t) = 0
    rw [if_neg (by omega)]
    exact ht
set_option maxRecDepth 8000 in
theorem j_isMoved {z : zT} {n : Nat} (hz : zInv z) (hI : rInv z H) (hn : n < 16) : J true (d + 7) 143 w (0, jargs 0 [jT, .inl n], [], H) (jN (qMove z n w)) := by
  have hn' : (0 : Int) ≤ n ∧ (n : Int) < 16 := by omega
  have hM := hz.1.1
  have hM2 := (hI.nowm hz hn).2.1
  refine J.run0 4 rfl ?_
  try dsimp only
  refine j_mv_most hz hI hn _ ?_ (H.2.2.1 113 0 n).toNat 0 0 (by omega) (by omega) rfl
  refine J.run0 2 rfl ?_
  try dsimp only
  refine J.run0 2 rfl ?_
  try dsimp only
  refine J.icmp rfl rfl rfl ⟨⟨by decide, by decide⟩, by decide, by decide⟩ (fun hc => absurd (show (0 : Int) < 0 from hc) (by decide)) (fun _ => ?_)
  refine J.run0 3 rfl ?_
  try dsimp only
  refine J.inv rfl rfl rfl rfl rfl rfl jDr rfl rfl rfl rfl rfl (j_proposalZ (d := d + 4) hz hI hn) ?_
  rintro r w' H' ⟨rfl, rfl, hr⟩
  rcases hr with ⟨h1, rfl⟩ | ⟨h1, x, hx, rfl, hmb, hbf⟩
  · refine J.run0 2 rfl ?_
    try dsimp only
    refine J.ifc rfl rfl rfl ⟨by decide, by decide⟩ (fun _ => ?_) (fun hc => absurd (show (-1 : Int) < 0 by decide) hc)
    exact j_mv111 hz hI hn fun h => by rw [h1] at h; exact absurd h.1 (by decide)
  have hx' : (0 : Int) ≤ x ∧ (x : Int) < 6000 := by omega
  have hBz := zprop_B hz hn h1
  refine J.run0 2 rfl ?_
  try dsimp only
  refine J.ifc rfl rfl rfl ⟨by omega, by omega⟩ (fun hc => absurd (show (x : Int) < 0 from hc) (by omega)) (fun _ => ?_)
  refine J.run 6 rfl hx' ?_
  try dsimp only
  try dsimp only
  rw [hmb]
  refine J.inv rfl rfl rfl rfl rfl rfl jDr rfl rfl rfl rfl rfl (j_isGoodZ (d := d + 3) hz hI hn hBz.1) ?_
  rintro r w'' H1 ⟨rfl, rfl, hI1, hs1⟩
  have mb : ∀ {H2 : jH}, rInv z H2 → H2.2.2.1 67 0 x = (nh z n : Int) := by
    intro H2 h
    rw [(h.1.2 x hx).2.2.2.2.1, ← (hI.1.2 x hx).2.2.2.2.1, hmb]
  refine J.ifc rfl rfl rfl ⟨by decide, by decide⟩ (fun hc => absurd hc (show ¬ (1 : Int) = 0 by decide)) (fun _ => ?_)
  refine J.run 8 rfl hx' ?_
  try dsimp only
  try dsimp only
  rw [mb hI1]
  refine J.inv rfl rfl rfl rfl rfl rfl jDr rfl rfl rfl rfl rfl (j_isMostZ (d := d + 5) (kd := 2) hz hI1 hn (by omega)) ?_
  rintro r w3 H2 ⟨rfl, rfl, hI2, hs2⟩
  by_cases h11 : 11 ≤ zcnt z n 2
  · rw [if_pos h11]
    refine J.ifc rfl rfl rfl ⟨by decide, by decide⟩ (fun _ => ?_) (fun hc => absurd (show ¬ (1 : Int) = 0 by decide) hc)
    refine J.run 6 rfl hx' ?_
    try dsimp only
    try dsimp only
    rw [mb hI2]
    refine J.inv rfl rfl rfl rfl rfl rfl jDr rfl rfl rfl rfl rfl (j_decided hz hI2 hn hBz.1 hBz.2 (by rw [hs2]; exact hs1)) ?_
    rintro r w4 H3 ⟨rfl, rfl, hI3⟩
    refine J.run0 1 rfl ?_
    try dsimp only
    refine J.retb rfl rfl rfl (by decide) ⟨_, rfl, rfl, Or.inl ⟨rfl, _, ?_, hI3⟩⟩
    unfold zmove
    rw [if_pos ⟨h1, h11⟩]
  · rw [if_neg h11]
    refine J.ifc rfl rfl rfl ⟨by decide, by decide⟩ (fun hc => absurd rfl hc) (fun _ => ?_)
    refine J.run0 1 rfl ?_
    try dsimp only
    exact j_mv111 hz hI2 hn fun h => h11 h.2
theorem j_act {n : Nat} (hn : n < 16) : ∀ (f : Nat) (z : zT) (H : jH), zInv z → rInv z H → zmu z n < f → J true (d + 8) 141 w (0, [(0, jT), (1, .inl (n : Int))], [], H) (jN fun r w' H' => r = none ∧ w' = w ∧ rInv (zact f z n) H') := by
  intro f
  have hn' : (0 : Int) ≤ n ∧ (n : Int) < 16 := by omega
  induction f with
  | zero => intro z H _ _ h; omega
  | succ f ih =>
    intro z H hz hI hmu
    have hh := hI.height hz hn
    have b1 : H.2.2.1 79 0 n = 0 := (hI.2.2 n hn).2.1.1
    have b2 : H.2.2.1 80 0 n = 0 := (hI.2.2 n hn).2.1.2.1
    refine J.run 4 rfl hn' ?_
    try dsimp only
    refine J.ifc rfl rfl rfl ⟨show -2147483648 ≤ H.2.2.1 79 0 n by omega, show H.2.2.1 79 0 n ≤ 2147483647 by omega⟩ (fun hc => absurd b1 hc) (fun _ => ?_)
    refine J.run 4 rfl hn' ?_
    try dsimp only
    refine J.ifc rfl rfl rfl ⟨show -2147483648 ≤ H.2.2.1 80 0 n by omega, show H.2.2.1 80 0 n ≤ 2147483647 by omega⟩ (fun hc => absurd b2 hc) (fun _ => ?_)
    refine J.run0 2 rfl ?_
    try dsimp only
    refine J.inv rfl rfl rfl rfl rfl rfl jDr rfl rfl rfl rfl rfl (j_height hn' hh.1) ?_
    rintro r w' H' ⟨rfl, rfl, rfl⟩
    rw [hh.2.1, show (nh z n : Int) - 1 + 1 = (nh z n : Int) by omega]
    refine J.run0 1 rfl ?_
    try dsimp only
    refine J.icmp rfl rfl rfl ⟨⟨by omega, by omega⟩, by decide, by decide⟩ (fun hc => ?_) (fun hc => ?_)
    · have hc' : (120 : Int) < nh z n := hc
      refine J.retv rfl rfl rfl ⟨_, rfl, rfl, rfl, ?_⟩
      unfold zact
      rw [if_neg (by omega)]
      exact hI
    have hc' : ¬ (120 : Int) < nh z n := hc
    refine J.run0 2 rfl ?_
    try dsimp only
    refine J.inv rfl rfl rfl rfl rfl rfl jDr rfl rfl rfl rfl rfl (j_isMoved hz hI hn) ?_
    rintro r w' H' ⟨rfl, hr⟩
    rcases hr with ⟨rfl, z', hm, hI'⟩ | ⟨rfl, hm, hI'⟩
    · refine J.ifc rfl rfl rfl ⟨by decide, by decide⟩ (fun hc => absurd hc (show ¬ (1 : Int) = 0 by decide)) (fun _ => ?_)
      refine J.run0 1 rfl ?_
      try dsimp only
      have h9 := ih z' H' (hz.move hn hm) hI' (by have := zmu_move hz hn hm; omega)
      unfold zact
      rw [if_pos (by omega), hm]
      exact h9
    · refine J.ifc rfl rfl rfl ⟨by decide, by decide⟩ (fun _ => ?_) (fun hc => absurd rfl hc)
      refine J.retv rfl rfl rfl ⟨_, rfl, rfl, rfl, ?_⟩
      unfold zact
      rw [if_pos (by omega), hm]
      exact hI'
theorem zmu_le {z : zT} (n : Nat) : zmu z n ≤ 365 := by
  unfold zmu
  split <;> omega
theorem j_came {z : zT} {m n : Nat} (hz : zInv z) (hI : rInv z H) (hn : n < 16) (hm : m < zM z) : J true (d + 9) 148 w (0, jargs 0 [jT, .inl m, .inl n], [], H) (jN fun r w' H' => r = some (.inl ((zM (zcame z m n) : Int) - zM z)) ∧ w' = w ∧ rInv (zcame z m n) H') := by
  have hn' : (0 : Int) ≤ n ∧ (n : Int) < 16 := by omega
  have hM := hz.1.1
  have hm' : (0 : Int) ≤ m ∧ (m : Int) < 6000 := by omega
  have hh := hI.height hz hn
  have hN := hI.2.2 n hn
  have b2 : H.2.2.1 80 0 n = 0 := hN.2.1.2.1
  have c3 := hN.2.2.1.2.2 m (by omega)
  have i2 : 0 ≤ 6000 * (n : Int) + (m : Int) ∧ 6000 * (n : Int) + (m : Int) < 96000 := by omega
  refine J.run 7 rfl hn' ?_
  try dsimp only
  refine J.ifc rfl rfl rfl ⟨show -2147483648 ≤ H.2.2.1 80 0 n by omega, show H.2.2.1 80 0 n ≤ 2147483647 by omega⟩ (fun hc => absurd b2 hc) (fun _ => ?_)
  refine J.run 8 rfl i2 ?_
  try dsimp only
  by_cases hk : m ∈ nK z n
  · have c4 : H.2.2.1 114 0 (6000 * (n : Int) + m) = 1 := by rw [c3, if_pos hk]
    refine J.ifc rfl rfl rfl ⟨show -2147483648 ≤ H.2.2.1 114 0 (6000 * (n : Int) + m) by omega, show H.2.2.1 114 0 (6000 * (n : Int) + m) ≤ 2147483647 by omega⟩ (fun hc => absurd (show H.2.2.1 114 0 (6000 * (n : Int) + m) = 0 from hc) (by omega)) (fun _ => ?_)
    refine J.run0 1 rfl ?_
    try dsimp only
    refine J.reti rfl rfl rfl ⟨_, rfl, ?_, rfl, ?_⟩
    · unfold zcame
      rw [if_pos hk, Int.sub_self]
    · unfold zcame
      rw [if_pos hk]
      exact hI
  · have c4 : H.2.2.1 114 0 (6000 * (n : Int) + m) = 0 := by rw [c3, if_neg hk]
    refine J.ifc rfl rfl rfl ⟨show -2147483648 ≤ H.2.2.1 114 0 (6000 * (n : Int) + m) by omega, show H.2.2.1 114 0 (6000 * (n : Int) + m) ≤ 2147483647 by omega⟩ (fun _ => ?_) (fun hc => absurd c4 hc)
    refine J.run0 3 rfl ?_
    try dsimp only
    have hlen := nK_len2 hz hn hm hk
    have hmz := hz.2.1 m hm
    refine J.inv rfl rfl rfl rfl rfl rfl jDr rfl rfl rfl rfl rfl (j_know (v := z.2.2.2 n) (ht := zh z) hn (by omega) hk (show (nK z n).length < 6000 by omega) hN (hI.1.2 m hm).2.2.1 (by omega) ⟨hh.2.2.1, show nh z n ≤ 300 by omega⟩ (by rw [hh.2.1]; show (nh z n : Int) - 1 + 1 = (nh z n : Int); omega)) ?_
    rintro r w' H1 ⟨rfl, rfl, hE1, hN1, hO1⟩
    have hzk := hz.know hn hm hk
    have hI1 : rInv (zknow z n m) H1 := by
      refine ⟨hI.1.ex hE1 ⟨rfl, rfl⟩ (by decide) (by decide), hI.2.1.ex hE1 rfl (by decide) (by decide), fun m' hm' => ?_⟩
      by_cases hmn : m' = n
      · subst hmn
        show rNd ((zN z m' (nh z m', ns z m', ne z m', nr z m', nK z m' ++ [m])).2.2.2 m') (zh z) H1 m'
        rw [zN_at]
        exact hN1
      · show rNd ((zN z n (nh z n, ns z n, ne z n, nr z n, nK z n ++ [m])).2.2.2 m') (zh z) H1 m'
        rw [zN_ne z _ hmn]
        have h6 := nK_len hz hm'
        exact (hI.2.2 m' hm').oth (hO1 m' hmn hm') (fun _ _ => rfl) (by show (nK z m').length ≤ 6000; omega)
    refine J.run0 2 rfl ?_
    try dsimp only
    refine J.inv rfl rfl rfl rfl rfl rfl jDr rfl rfl rfl rfl rfl (j_act (d := d) hn 500 (zknow z n m) H1 hzk hI1 (by have := zmu_le (z := zknow z n m) n; omega)) ?_
    rintro r w' H2 ⟨rfl, rfl, hI2⟩
    have eM : H.1 11 19 0 = (zM z : Int) := hI.1.1.1
    have eM2 : H2.1 11 19 0 = (zM (zact 500 (zknow z n m) n) : Int) := hI2.1.1.1
    refine J.run0 4 rfl ?_
    try dsimp only
    refine J.reti rfl rfl rfl ⟨_, rfl, ?_, rfl, ?_⟩
    · unfold zcame
      rw [if_neg hk, ← eM, ← eM2]
    · unfold zcame
      rw [if_neg hk]
      exact hI2
end JMF
