section JME
variable {d : Nat} {w : jW} {H : jH}
abbrev kV : List Nat := [74, 115, 77, 78, 75, 76]
theorem rInv.mv {z : zT} {n s e : Nat} {H1 : jH} (hI : rInv z H) (hz : zInv z) (hn : n < 16) (hE : jEx [] kV H1 H) (q1 : H1.2.2.1 74 0 n = s) (q2 : H1.2.2.1 115 0 n = e) (q3 : H1.2.2.1 75 0 n = -1 ∨ H1.2.2.1 75 0 n = nh z n) (q4 : -1 ≤ H1.2.2.1 76 0 n ∧ H1.2.2.1 76 0 n < 32) (q5 : -1 ≤ H1.2.2.1 77 0 n ∧ H1.2.2.1 77 0 n < 300) (q6 : -1 ≤ H1.2.2.1 78 0 n ∧ H1.2.2.1 78 0 n < 32) (q7 : e = 0 → H1.2.2.1 75 0 n = -1 ∧ H1.2.2.1 76 0 n = -1 ∧ H1.2.2.1 77 0 n = -1 ∧ H1.2.2.1 78 0 n = -1) (hO : ∀ n', n' ≠ n → n' < 16 → rOth H1 H n') : rInv (zst z n s e) H1 := by
  have hM := hz.1.1
  refine ⟨hI.1.ex hE ⟨rfl, rfl⟩ (by decide) (by decide), hI.2.1.ex hE rfl (by decide) (by decide), fun m hm => ?_⟩
  by_cases hmn : m = n
  · subst hmn
    show rNd ((zN z m (nh z m, s, e, nr z m, nK z m)).2.2.2 m) (zh z) H1 m
    rw [zN_at]
    obtain ⟨⟨a1, a2, a3, a4, a5, a6, a7⟩, ⟨b1, b2, b3, b4, b5⟩, ⟨c1, c2, c3⟩, ⟨d1, d2⟩, e1, e2⟩ := hI.2.2 m hm
    refine ⟨⟨?_, ?_, q1, q3, q4, q5, q6, q7, ?_⟩, ⟨?_, ?_, ?_, ?_, q2⟩, ⟨?_, ?_, ?_⟩, ⟨?_, ?_⟩, ?_, ?_⟩
    · rw [hE.r 72 (by decide)]; exact a1
    · rw [hE.r 73 (by decide)]; exact a2
    · rw [hE.r 84 (by decide)]; exact a7.2.2
    · rw [hE.r 79 (by decide)]; exact b1
    · rw [hE.r 80 (by decide)]; exact b2
    · rw [hE.r 82 (by decide)]; exact b3
    · rw [hE.r 83 (by decide)]; exact b4
    · rw [hE.r 71 (by decide)]; exact c1
    · rw [hE.r 70 (by decide)]; exact c2
    · rw [hE.r 114 (by decide)]; exact c3
    · rw [hE.r 111 (by decide)]; exact d1
    · rw [hE.r 110 (by decide)]; exact d2
    · rw [hE.r 113 (by decide)]; exact e1
    · rw [hE.r 112 (by decide)]; exact e2
  · show rNd ((zN z n (nh z n, s, e, nr z n, nK z n)).2.2.2 m) (zh z) H1 m
    rw [zN_ne z _ hmn]
    have h6 := nK_len hz hm
    exact (hI.2.2 m hm).oth (hO m hmn hm) (fun _ _ => rfl) (by show (nK z m).length ≤ 6000; omega)
/-- what a look at the rules ends with -/
def qMove (z : zT) (n : Nat) (w : jW) : Option jV → jW → jH → Prop := fun r w' H' => w' = w ∧ ((r = some (.inl 1) ∧ ∃ z', zmove z n = some z' ∧ rInv z' H') ∨ (r = some (.inl 0) ∧ zmove z n = none ∧ rInv z H'))
set_option maxRecDepth 8000 in
theorem j_mv519 {z : zT} {n : Nat} {p : Int} (hz : zInv z) (hI : rInv z H) (hn : n < 16) (hm : zmove z n = none) :
    J true (d + 2) 143 w (519, [(4, .inl p), (3, .inl 0), (2, .inl 0), (0, jT), (1, .inl (n : Int))], [], H) (jN (qMove z n w)) := by
  have hn' : (0 : Int) ≤ n ∧ (n : Int) < 16 := by omega
  have h4 := hz.2.2.2.1 n hn
  have es : H.2.2.1 74 0 n = (ns z n : Int) := (hI.2.2 n hn).1.2.2.1
  refine J.run 5 rfl hn' ?_
  try dsimp only
  refine J.icmp rfl rfl rfl ⟨⟨show -2147483648 ≤ H.2.2.1 74 0 n by omega, show H.2.2.1 74 0 n ≤ 2147483647 by omega⟩, by decide, by decide⟩ (fun _ => ?_) (fun _ => ?_)
  · refine J.run0 1 rfl ?_
    try dsimp only
    exact J.retb rfl rfl rfl (by decide) ⟨_, rfl, rfl, Or.inr ⟨rfl, hm, hI⟩⟩
  · refine J.run0 5 rfl ?_
    try dsimp only
    refine J.inv rfl rfl rfl rfl rfl rfl jDr rfl rfl rfl rfl rfl (j_isMostNone (kd := 1) hz hI hn (by omega)) ?_
    rintro r w' H' ⟨rfl, rfl, hI'⟩
    refine J.ifc rfl rfl rfl ⟨by decide, by decide⟩ (fun _ => ?_) (fun hc => absurd rfl hc)
    refine J.run0 1 rfl ?_
    try dsimp only
    exact J.retb rfl rfl rfl (by decide) ⟨_, rfl, rfl, Or.inr ⟨rfl, hm, hI'⟩⟩
set_option maxRecDepth 8000 in
theorem j_mv382 {z : zT} {n : Nat} {p : Int} (hz : zInv z) (hI : rInv z H) (hn : n < 16) (hno : ¬ (zprop z n = true ∧ 11 ≤ zcnt z n 2)) (hs : ¬ (zprop z n = true ∧ ns z n = 0)) (hp : (zprop z n = false ∧ p = -1) ∨ zprop z n = true ∧ ∃ x : Nat, x < zM z ∧ p = x ∧ H.2.2.1 67 0 x = (nh z n : Int)) :
    J true (d + 6) 143 w (382, [(4, .inl p), (3, .inl 0), (2, .inl 0), (0, jT), (1, .inl (n : Int))], [], H) (jN (qMove z n w)) := by
  have hn' : (0 : Int) ≤ n ∧ (n : Int) < 16 := by omega
  have h4 := hz.2.2.2.1 n hn
  have hM := hz.1.1
  have hN := hI.2.2 n hn
  have es : H.2.2.1 74 0 n = (ns z n : Int) := hN.1.2.2.1
  have eo : H.2.2.1 115 0 n = (ne z n : Int) := hN.2.1.2.2.2.2
  have none_of : ¬ (zprop z n = true ∧ 0 < ns z n ∧ ne z n = 0 ∧ 11 ≤ zcnt z n 1) → zmove z n = none := by
    intro h
    unfold zmove
    rw [if_neg hno, if_neg hs, if_neg h]
  refine J.run 4 rfl hn' ?_
  try dsimp only
  refine J.ifc rfl rfl rfl ⟨show -2147483648 ≤ H.2.2.1 74 0 n by omega, show H.2.2.1 74 0 n ≤ 2147483647 by omega⟩ (fun hc => ?_) (fun hc => ?_)
  · have hc' : H.2.2.1 74 0 n ≤ 0 := hc
    exact j_mv519 hz hI hn (none_of fun h => by omega)
  have hc' : ¬ H.2.2.1 74 0 n ≤ 0 := hc
  refine J.run 4 rfl hn' ?_
  try dsimp only
  refine J.ifc rfl rfl rfl ⟨show -2147483648 ≤ H.2.2.1 115 0 n by omega, show H.2.2.1 115 0 n ≤ 2147483647 by omega⟩ (fun hc2 => ?_) (fun hc2 => ?_)
  · have hc2' : ¬ H.2.2.1 115 0 n = 0 := hc2
    exact j_mv519 hz hI hn (none_of fun h => by omega)
  have hc2' : H.2.2.1 115 0 n = 0 := Classical.not_not.mp hc2
  rcases hp with ⟨hp, rfl⟩ | ⟨hp, x, hx, rfl, hmb⟩
  · refine J.run0 1 rfl ?_
    try dsimp only
    refine J.ifc rfl rfl rfl ⟨by decide, by decide⟩ (fun _ => ?_) (fun hc3 => absurd (show (-1 : Int) < 0 by decide) hc3)
    exact j_mv519 hz hI hn (none_of fun h => by rw [hp] at h; exact absurd h.1 (by decide))
  have hx' : (0 : Int) ≤ x ∧ (x : Int) < 6000 := by omega
  have hBz := zprop_B hz hn hp
  refine J.run0 1 rfl ?_
  try dsimp only
  refine J.ifc rfl rfl rfl ⟨by omega, by omega⟩ (fun hc3 => absurd (show (x : Int) < 0 from hc3) (by omega)) (fun _ => ?_)
  refine J.run 6 rfl hx' ?_
  try dsimp only
  try dsimp only
  rw [hmb]
  refine J.inv rfl rfl rfl rfl rfl rfl jDr rfl rfl rfl rfl rfl (j_isGoodZ hz hI hn hBz.1) ?_
  rintro r w' H1 ⟨rfl, rfl, hI1, -⟩
  have hmb1 : H1.2.2.1 67 0 x = (nh z n : Int) := by
    have h9 := (hI1.1.2 x hx).2.2.2.2.1
    have h8 := (hI.1.2 x hx).2.2.2.2.1
    rw [h9, ← h8, hmb]
  refine J.ifc rfl rfl rfl ⟨by decide, by decide⟩ (fun hc4 => absurd hc4 (show ¬ (1 : Int) = 0 by decide)) (fun _ => ?_)
  refine J.run 8 rfl hx' ?_
  try dsimp only
  try dsimp only
  rw [hmb1]
  refine J.inv rfl rfl rfl rfl rfl rfl jDr rfl rfl rfl rfl rfl (j_isMostZ (kd := 1) hz hI1 hn (by omega)) ?_
  rintro r w' H2 ⟨rfl, rfl, hI2, -⟩
  by_cases h11 : 11 ≤ zcnt z n 1
  rotate_left
  · rw [if_neg h11]
    refine J.ifc rfl rfl rfl ⟨by decide, by decide⟩ (fun _ => ?_) (fun hc5 => absurd rfl hc5)
    exact j_mv519 hz hI2 hn (none_of fun h => h11 h.2.2.2)
  rw [if_pos h11]
  refine J.ifc rfl rfl rfl ⟨by decide, by decide⟩ (fun hc5 => absurd hc5 (show ¬ (1 : Int) = 0 by decide)) (fun _ => ?_)
  have hmb2 : H2.2.2.1 67 0 x = (nh z n : Int) := by
    have h9 := (hI2.1.2 x hx).2.2.2.2.1
    have h8 := (hI.1.2 x hx).2.2.2.2.1
    rw [h9, ← h8, hmb]
  have hN2 := hI2.2.2 n hn
  have es2 : H2.2.2.1 74 0 n = (ns z n : Int) := hN2.1.2.2.1
  have hmove : zmove z n = some (if ns z n = 1 then zsend (zst z n 2 1) n 2 else zst z n (ns z n) 1) := by
    unfold zmove
    rw [if_neg hno, if_neg hs, if_pos ⟨hp, by omega, by omega, h11⟩]
  refine J.run 23 rfl ⟨⟨Or.inr rfl, hn'⟩, hx', hn', hn', hn'⟩ ?_
  try dsimp only
  refine J.gen fun H3 hH3 => ?_
  have hE3 : jEx [] kV H3 H2 := by
    rw [hH3]
    iterate 3 refine jEx.row ?_ (by decide)
    exact jEx.refl _ _ _
  have hO3 : ∀ n', n' ≠ n → n' < 16 → rOth H3 H2 n' := by
    intro n' a b
    rw [hH3]
    iterate 3 refine rOth.up ?_ (Or.inl (by omega)) (Or.inr (by decide)) (Or.inr (by decide))
    exact rOth.refl _ _
  have g1 : H3.2.2.1 115 0 n = ((1 : Nat) : Int) := by rw [hH3]; show jup (H2.2.2.1 115 0) n 1 n = 1; exact if_pos rfl
  have g2 : H3.2.2.1 77 0 n = (nh z n : Int) := by rw [hH3]; show jup (H2.2.2.1 77 0) n (H2.2.2.1 67 0 x) n = _; rw [hmb2]; exact if_pos rfl
  have g3 : H3.2.2.1 78 0 n = 0 := by rw [hH3]; show jup (H2.2.2.1 78 0) n 0 n = 0; exact if_pos rfl
  have g4 : H3.2.2.1 74 0 n = (ns z n : Int) := by rw [hH3]; exact es2
  have g5 : H3.2.2.1 67 0 x = (nh z n : Int) := by rw [hH3]; exact hmb2
  have g6 : H3.2.2.1 75 0 n = H2.2.2.1 75 0 n := by rw [hH3]; rfl
  have g7 : H3.2.2.1 76 0 n = H2.2.2.1 76 0 n := by rw [hH3]; rfl
  have gst : (Sum.inl (H2.2.2.1 74 0 n) : jV) = Sum.inl (ns z n : Int) := by rw [es2]
  clear hH3
  refine J.icmp rfl rfl rfl ⟨⟨show -2147483648 ≤ H2.2.2.1 74 0 n by omega, show H2.2.2.1 74 0 n ≤ 2147483647 by omega⟩, by decide, by decide⟩ (fun hc6 => ?_) (fun hc6 => ?_)
  · have hc6' : ¬ H2.2.2.1 74 0 n = 1 := hc6
    have hI3 : rInv (zst z n (ns z n) 1) H3 := hI2.mv hz hn hE3 g4 g1 (by rw [g6]; exact hN2.1.2.2.2.1) (by rw [g7]; exact hN2.1.2.2.2.2.1) (by rw [g2]; omega) (by rw [g3]; decide) (fun h => (nomatch h)) hO3
    refine J.run0 1 rfl ?_
    try dsimp only
    refine J.retb rfl rfl rfl (by decide) ⟨_, rfl, rfl, Or.inl ⟨rfl, _, hmove, ?_⟩⟩
    rw [if_neg (by omega)]
    exact hI3
  · have hc6' : H2.2.2.1 74 0 n = 1 := Classical.not_not.mp hc6
    refine J.run 27 rfl ⟨hx', hn', hn', hn', hx'⟩ ?_
    try dsimp only
    try dsimp only
    refine J.gen fun H4 hH4 => ?_
    have hE4 : jEx [] kV H4 H3 := by
      rw [hH4]
      iterate 3 refine jEx.row ?_ (by decide)
      exact jEx.refl _ _ _
    have hO4 : ∀ n', n' ≠ n → n' < 16 → rOth H4 H3 n' := by
      intro n' a b
      rw [hH4]
      iterate 3 refine rOth.up ?_ (Or.inl (by omega)) (Or.inr (by decide)) (Or.inr (by decide))
      exact rOth.refl _ _
    have k1 : H4.2.2.1 75 0 n = (nh z n : Int) := by rw [hH4]; show jup (H3.2.2.1 75 0) n (H3.2.2.1 67 0 x) n = _; rw [g5]; exact if_pos rfl
    have k2 : H4.2.2.1 76 0 n = 0 := by rw [hH4]; show jup (H3.2.2.1 76 0) n 0 n = 0; exact if_pos rfl
    have k3 : H4.2.2.1 74 0 n = ((2 : Nat) : Int) := by rw [hH4]; show jup (H3.2.2.1 74 0) n 2 n = 2; exact if_pos rfl
    have k4 : H4.2.2.1 115 0 n = ((1 : Nat) : Int) := by rw [hH4]; exact g1
    have k5 : H4.2.2.1 77 0 n = (nh z n : Int) := by rw [hH4]; exact g2
    have k6 : H4.2.2.1 78 0 n = 0 := by rw [hH4]; exact g3
    have hz4 : zInv (zst z n 2 1) := hz.st hn (by omega) (by omega) (by omega)
    have hI4 : rInv (zst z n 2 1) H4 := hI2.mv hz hn (hE4.trans hE3 (by decide) (by decide)) k3 k4 (Or.inr k1) (by rw [k2]; decide) (by rw [k5]; omega) (by rw [k6]; decide) (fun h => (nomatch h)) fun n' a b => (hO4 n' a b).trans (hO3 n' a b)
    have h9 := j_sent (d := d + 1) (w := w') (kd := 2) hz4 hI4 hn
    rw [(zst_node z n 2 1).1, ← g5] at h9
    rw [hH4] at h9
    rw [hH4]
    refine J.inv rfl rfl rfl rfl rfl rfl jDr rfl rfl rfl rfl rfl h9 ?_
    rintro r w' H5 ⟨⟨y, rfl⟩, rfl, hI5⟩
    refine J.run0 1 rfl ?_
    try dsimp only
    refine J.run0 1 rfl ?_
    try dsimp only
    refine J.retb rfl rfl rfl (by decide) ⟨_, rfl, rfl, Or.inl ⟨rfl, _, hmove, ?_⟩⟩
    rw [if_pos (by omega)]
    exact hI5
end JME
