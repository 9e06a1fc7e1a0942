/-! the reference's constructor: its NODES begin -/
section SB
variable {d : Nat} {w : jW} {H : jH}
set_option maxRecDepth 8000 in
/-- a NODE that knows nothing and has said nothing is not moved -/
theorem j_isMoved0 {z : zT} {n : Nat} (hz : zInv z) (hI : rInv z H) (hn : n < 16) (hp : zprop z n = false) (hs : ns z n = 0) : J true (d + 7) 143 w (0, jargs 0 [jT, .inl n], [], H) (jN fun r w' H' => r = some (.inl 0) ∧ w' = w ∧ H' = H) := by
  have hn' : (0 : Int) ≤ n ∧ (n : Int) < 16 := by omega
  have hM2 := (hI.nowm hz hn).2.1
  have er : H.2.2.1 73 0 n = 0 := (hI.2.2 n hn).1.2.1
  have es : H.2.2.1 74 0 n = 0 := by
    have h9 : H.2.2.1 74 0 n = (ns z n : Int) := (hI.2.2 n hn).1.2.2.1
    omega
  refine J.run0 4 rfl ?_
  try dsimp only
  refine j_mv_most hz hI hn _ ?_ (H.2.2.1 113 0 n).toNat 0 0 (by omega) (by omega) rfl
  refine J.run0 2 rfl ?_
  try dsimp only
  refine J.run0 2 rfl ?_
  try dsimp only
  refine J.icmp rfl rfl rfl ⟨⟨by decide, by decide⟩, by decide, by decide⟩ (fun hc => absurd (show (0 : Int) < 0 from hc) (by decide)) (fun _ => ?_)
  refine J.run0 3 rfl ?_
  try dsimp only
  refine J.inv rfl rfl rfl rfl rfl rfl jDr rfl rfl rfl rfl rfl (j_proposalZ (d := d + 4) hz hI hn) ?_
  rintro r w H ⟨rfl, rfl, hr⟩
  rcases hr with ⟨h1, rfl⟩ | ⟨h1, -⟩
  rotate_left
  · rw [hp] at h1; cases h1
  refine J.run0 2 rfl ?_
  try dsimp only
  refine J.ifc rfl rfl rfl ⟨by decide, by decide⟩ (fun _ => ?_) (fun hc => absurd (show (-1 : Int) < 0 by decide) hc)
  refine J.run0 2 rfl ?_
  try dsimp only
  refine J.run0 2 rfl ?_
  try dsimp only
  refine J.icmp rfl rfl rfl ⟨⟨by decide, by decide⟩, by decide, by decide⟩ (fun _ => ?_) (fun hc => absurd (show (0 : Int) < 0 + 1 by decide) hc)
  refine J.run0 2 rfl ?_
  try dsimp only
  refine J.run 5 rfl hn' ?_
  try dsimp only
  refine J.icmp rfl rfl rfl ⟨⟨by decide, by decide⟩, show -2147483648 ≤ H.2.2.1 73 0 n by omega, show H.2.2.1 73 0 n ≤ 2147483647 by omega⟩ (fun _ => ?_) (fun hc => absurd (show (0 : Int) ≤ H.2.2.1 73 0 n by omega) hc)
  refine J.run 8 rfl hn' ?_
  try dsimp only
  try dsimp only
  rw [er]
  refine J.inv rfl rfl rfl rfl rfl rfl jDr rfl rfl rfl rfl rfl (j_proposalZ (d := d + 4) hz hI hn) ?_
  rintro r w H ⟨rfl, rfl, hr⟩
  rcases hr with ⟨h1, rfl⟩ | ⟨h1, -⟩
  rotate_left
  · rw [hp] at h1; cases h1
  refine J.run 5 rfl hn' ?_
  try dsimp only
  refine J.ifc rfl rfl rfl ⟨show -2147483648 ≤ H.2.2.1 74 0 n by omega, show H.2.2.1 74 0 n ≤ 2147483647 by omega⟩ (fun hc => absurd es hc) (fun _ => ?_)
  refine J.run0 1 rfl ?_
  try dsimp only
  refine J.ifc rfl rfl rfl ⟨by decide, by decide⟩ (fun _ => ?_) (fun hc => absurd (show (-1 : Int) < 0 by decide) hc)
  refine J.run 4 rfl hn' ?_
  try dsimp only
  refine J.ifc rfl rfl rfl ⟨show -2147483648 ≤ H.2.2.1 74 0 n by omega, show H.2.2.1 74 0 n ≤ 2147483647 by omega⟩ (fun _ => ?_) (fun hc => absurd (show H.2.2.1 74 0 n ≤ 0 by omega) hc)
  refine J.run 5 rfl hn' ?_
  try dsimp only
  refine J.icmp rfl rfl rfl ⟨⟨show -2147483648 ≤ H.2.2.1 74 0 n by omega, show H.2.2.1 74 0 n ≤ 2147483647 by omega⟩, by decide, by decide⟩ (fun _ => ?_) (fun hc => absurd (show ¬ H.2.2.1 74 0 n = 1 by omega) hc)
  refine J.run0 1 rfl ?_
  try dsimp only
  exact J.retb rfl rfl rfl (by decide) ⟨_, rfl, rfl, rfl, rfl⟩
theorem j_act0 {z : zT} {n : Nat} (hz : zInv z) (hI : rInv z H) (hn : n < 16) (hp : zprop z n = false) (hs : ns z n = 0) : J true (d + 8) 141 w (0, [(0, jT), (1, .inl (n : Int))], [], H) (jN fun r w' H' => r = none ∧ w' = w ∧ H' = H) := by
  have hn' : (0 : Int) ≤ n ∧ (n : Int) < 16 := by omega
  have hh := hI.height hz hn
  have b1 : H.2.2.1 79 0 n = 0 := (hI.2.2 n hn).2.1.1
  have b2 : H.2.2.1 80 0 n = 0 := (hI.2.2 n hn).2.1.2.1
  refine J.run 4 rfl hn' ?_
  try dsimp only
  refine J.ifc rfl rfl rfl ⟨show -2147483648 ≤ H.2.2.1 79 0 n by omega, show H.2.2.1 79 0 n ≤ 2147483647 by omega⟩ (fun hc => absurd b1 hc) (fun _ => ?_)
  refine J.run 4 rfl hn' ?_
  try dsimp only
  refine J.ifc rfl rfl rfl ⟨show -2147483648 ≤ H.2.2.1 80 0 n by omega, show H.2.2.1 80 0 n ≤ 2147483647 by omega⟩ (fun hc => absurd b2 hc) (fun _ => ?_)
  refine J.run0 2 rfl ?_
  try dsimp only
  refine J.inv rfl rfl rfl rfl rfl rfl jDr rfl rfl rfl rfl rfl (j_height hn' hh.1) ?_
  rintro r w H ⟨rfl, rfl, rfl⟩
  have h4 := hz.2.2.2.1 n hn
  rw [hh.2.1, show (nh z n : Int) - 1 + 1 = (nh z n : Int) by omega]
  refine J.run0 1 rfl ?_
  try dsimp only
  refine J.icmp rfl rfl rfl ⟨⟨by omega, by omega⟩, by decide, by decide⟩ (fun _ => J.retv rfl rfl rfl ⟨_, rfl, rfl, rfl, rfl⟩) (fun _ => ?_)
  refine J.run0 2 rfl ?_
  try dsimp only
  refine J.inv rfl rfl rfl rfl rfl rfl jDr rfl rfl rfl rfl rfl (j_isMoved0 hz hI hn hp hs) ?_
  rintro r w H ⟨rfl, rfl, rfl⟩
  refine J.ifc rfl rfl rfl ⟨by decide, by decide⟩ (fun _ => ?_) (fun hc => absurd rfl hc)
  exact J.retv rfl rfl rfl ⟨_, rfl, rfl, rfl, rfl⟩
set_option maxRecDepth 20000 in
theorem r_begin : ∀ (m i : Nat) (H : jH), i + m = 16 → rInv (zc i) H → J true (d + 9) 113 w (610, [(1, .inl (i : Int)), (0, jT)], [], H) (jN fun r w' H' => r = none ∧ w' = w ∧ rInv (zc 16) H') := by
  intro m
  induction m with
  | zero =>
    intro i H hi hI
    obtain rfl : i = 16 := by omega
    refine J.run0 2 rfl ?_
    try dsimp only
    exact J.icmp rfl rfl rfl ⟨⟨by decide, by decide⟩, by decide, by decide⟩ (fun _ => J.retv rfl rfl rfl ⟨_, rfl, rfl, rfl, hI⟩) (fun hc => absurd (show (16 : Int) ≤ (16 : Nat) by decide) hc)
  | succ m ih =>
    intro i H hi hI
    have hn : i < 16 := by omega
    have hz := zc_inv i (by omega)
    obtain ⟨r1, r2, r3, r4⟩ := zc_nr i
    have e11 : zP 1 = 1 := by decide
    have hl : H.2.2.1 72 0 i = 0 := by
      have h9 : H.2.2.1 72 0 i = (nh (zc i) i : Int) - 1 := (hI.2.2 i hn).1.1
      omega
    have hzb := hz.begin hn r1 fun _ => zc_B
    refine J.run0 2 rfl ?_
    try dsimp only
    refine J.icmp rfl rfl rfl ⟨⟨by omega, by omega⟩, by decide, by decide⟩ (fun hc => absurd (show (16 : Int) ≤ (i : Int) from hc) (by omega)) (fun _ => ?_)
    refine J.run0 3 rfl ?_
    try dsimp only
    refine J.inv rfl rfl rfl rfl rfl rfl jDr rfl rfl rfl rfl rfl (j_begins (d := d + 3) hz hI hn r1 (fun _ => zc_B) ((hI.2.2 i hn).1.2.2.2.2.2.2.2.1 r3) (by rw [hl]; exact hI.2.1.2.2.2.2.1)) ?_
    rintro r w H1 ⟨rfl, rfl, hI1⟩
    refine J.run0 2 rfl ?_
    try dsimp only
    by_cases h0 : i = 0
    · subst h0
      have hI0 : rInv (zbegin zfresh 0) H1 := hI1
      have hp0 : zprop (zbegin zfresh 0) 0 = false := by rw [zb_0]; rfl
      have hs0 : ns (zbegin zfresh 0) 0 = 0 := by rw [zb_0]; rfl
      refine J.inv rfl rfl rfl rfl rfl rfl jDr rfl rfl rfl rfl rfl (j_act0 (n := 0) hzb hI0 (by omega) hp0 hs0) ?_
      rintro r w H1 ⟨rfl, rfl, rfl⟩
      refine J.run0 2 rfl ?_
      try dsimp only
      refine ih 1 H1 (by omega) (by rw [zc_1]; exact hI0)
    · refine J.inv rfl rfl rfl rfl rfl rfl jDr rfl rfl rfl rfl rfl (j_act hn 500 (zbegin (zc i) i) H1 hzb hI1 (by have := zmu_le (z := zbegin (zc i) i) i; omega)) ?_
      rintro r w H2 ⟨rfl, rfl, hI2⟩
      refine J.run0 2 rfl ?_
      try dsimp only
      exact ih (i + 1) H2 (by omega) hI2
end SB
