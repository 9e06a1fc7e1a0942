/-! the reference's calls on a new object: submit, forge, block, of, account, sum -/
section SV
variable {d : Nat} {w : jW} {H : jH}
theorem rInv.stt {z : zT} {H' : jH} (hI : rInv z H) (hz : zInv z) (hL : rLed H') (hE : jEx sF sK H' H) (hd : -1 ≤ H'.1 11 48 0 ∧ H'.1 11 48 0 < 300) : rInv z H' := by
  have x5 := hI.2.1.2.2.2.2.1
  have e : H'.2.2.1 61 0 = H.2.2.1 61 0 := hE.r 61 (by decide)
  refine hI.snd (b := 0) hz (by have := hz.1.2.1; omega) ⟨hL, hE.mono (by decide) (by decide), hd, ?_, fun x _ => by rw [e]⟩
  rw [e]
  exact x5
theorem j_snd16 {i : Nat} (hI : rInv (zc 16) H) (hi : i < 2) : J true (d + 2) 125 w (0, jargs 0 [jT, .inl (i : Int)], [], H) (jN fun r w' H' => r = some (.inl 1) ∧ w' = w ∧ rInv (zc 16) H') := by
  have hz := zc_inv 16 (Nat.le_refl _)
  obtain ⟨x1, x2, x3, x4, x5, x6, x7, x8, x9⟩ := hI.2.1
  rw [zB16] at x2 x3 x4
  have i2 : (0 : Int) ≤ i ∧ (i : Int) < ((2 : Nat) : Int) := by omega
  refine J.post (j_isSound x7 x2 i2 x9 ?_) ?_
  · rcases x3 (i : Int) i2.1 i2.2 with h | h
    · refine Or.inr ⟨h, ?_⟩
      have h9 : i = 0 ∨ i = 1 := by omega
      rcases h9 with rfl | rfl
      · have h8 : H.2.2.1 61 0 0 = 0 := h
        rw [x5] at h8
        cases h8
      · exact ⟨by decide, x4 _ (by decide) (by decide)⟩
    · exact Or.inl h
  · rintro o w' H' ⟨r, rfl, rfl, rfl, hS⟩
    exact ⟨_, rfl, rfl, rfl, hI.snd hz (by rw [zB16]; exact i2.2) hS⟩
theorem j_st16 {i : Nat} (hI : rInv (zc 16) H) (hi : i < 2) : J true (d + 1) 116 w (0, jargs 0 [jT, .inl (i : Int)], [], H) (jN fun r w' H' => r = none ∧ w' = w ∧ rInv (zc 16) H') := by
  have hz := zc_inv 16 (Nat.le_refl _)
  obtain ⟨x1, x2, x3, x4, x5, x6, x7, x8, x9⟩ := hI.2.1
  rw [zB16] at x2
  have i2 : (0 : Int) ≤ i ∧ (i : Int) < ((2 : Nat) : Int) := by omega
  refine J.post (j_state x7 x2 i2 x9) ?_
  rintro o w' H' ⟨r, rfl, rfl, rfl, hL, hE, hd⟩
  exact ⟨_, rfl, rfl, rfl, hI.stt hz hL hE (by rw [hd]; omega)⟩
set_option maxRecDepth 8000 in
theorem j_of {x what : Int} (hI : rInv (zc 16) H) (bm : jR x) (bx : jR what) : J true (d + 10) 161 w (0, jargs 0 [jT, .inl x, .inl what], [], H) (jN (rOut w (ofK x what) (ofA x what))) := by
  have eth : H.1 11 47 0 = 0 := hI.1.1.2
  have esz : H.1 11 12 0 = 2 := by rw [hI.2.1.1, zB16]; rfl
  unfold ofK
  refine J.run0 5 rfl ?_
  try dsimp only
  try dsimp only
  rw [esz]
  refine J.run0 2 rfl ?_
  try dsimp only
  refine J.ins rfl rfl rfl rfl rfl rfl rfl rfl rfl (j_in bm ⟨by decide, by decide⟩ ⟨by decide, by decide⟩) ?_
  rintro r w H ⟨rfl, rfl, rfl⟩
  by_cases h : 0 ≤ x ∧ x ≤ 1
  rotate_left
  · rw [if_neg (show ¬ (0 ≤ x ∧ x ≤ 2 - 1) by omega), if_neg h]
    refine J.ifc rfl rfl rfl ⟨by decide, by decide⟩ (fun hc => absurd rfl hc) (fun _ => ?_)
    refine J.run0 2 rfl ?_
    try dsimp only
    refine J.run0 3 rfl ?_
    try dsimp only
    refine J.ifc rfl rfl rfl ⟨show -2147483648 ≤ (1 : Int) by decide, show (1 : Int) ≤ 2147483647 by decide⟩ (fun hc => absurd (show (1 : Int) ≤ 0 from hc) (by decide)) (fun _ => ?_)
    refine J.run0 1 rfl ?_
    try dsimp only
    exact J.reti rfl rfl rfl ⟨_, rfl, rfl, rfl, _, rfl, fun hk => absurd hk (by decide)⟩
  rw [if_pos (show 0 ≤ x ∧ x ≤ 2 - 1 by omega), if_pos h]
  refine J.ifc rfl rfl rfl ⟨by decide, by decide⟩ (fun _ => ?_) (fun hc => absurd (show ¬ (1 : Int) = 0 by decide) hc)
  refine J.run0 3 rfl ?_
  try dsimp only
  refine J.ins rfl rfl rfl rfl rfl rfl rfl rfl rfl (j_in bx ⟨by decide, by decide⟩ ⟨by decide, by decide⟩) ?_
  rintro r w H ⟨rfl, rfl, rfl⟩
  by_cases hx : 0 ≤ what ∧ what ≤ 32
  rotate_left
  · rw [if_neg hx, if_neg hx]
    refine J.ifc rfl rfl rfl ⟨by decide, by decide⟩ (fun hc => absurd rfl hc) (fun _ => ?_)
    refine J.run0 2 rfl ?_
    try dsimp only
    refine J.run0 3 rfl ?_
    try dsimp only
    refine J.ifc rfl rfl rfl ⟨show -2147483648 ≤ (2 : Int) by decide, show (2 : Int) ≤ 2147483647 by decide⟩ (fun hc => absurd (show (2 : Int) ≤ 0 from hc) (by decide)) (fun _ => ?_)
    refine J.run0 1 rfl ?_
    try dsimp only
    exact J.reti rfl rfl rfl ⟨_, rfl, rfl, rfl, _, rfl, fun hk => absurd hk (by decide)⟩
  rw [if_pos hx, if_pos hx]
  refine J.ifc rfl rfl rfl ⟨by decide, by decide⟩ (fun _ => ?_) (fun hc => absurd (show ¬ (1 : Int) = 0 by decide) hc)
  refine J.run0 1 rfl ?_
  try dsimp only
  refine J.run0 3 rfl ?_
  try dsimp only
  refine J.ifc rfl rfl rfl ⟨show -2147483648 ≤ (0 : Int) by decide, show (0 : Int) ≤ 2147483647 by decide⟩ (fun _ => ?_) (fun hc => absurd (show (0 : Int) ≤ 0 by decide) hc)
  refine J.heq (show _ = hV H 47 0 from rfl) ?_
  rw [hV_same H 47 eth]
  obtain ⟨i, rfl⟩ : ∃ i : Nat, x = (i : Int) := ⟨x.toNat, by omega⟩
  have hi : i < 2 := by omega
  have i0 : (0 : Int) ≤ i ∧ (i : Int) < 300 := by omega
  obtain ⟨x1, x2, x3, x4, x5, x6, x7, x8, x9⟩ := hI.2.1
  rw [zB16] at x2
  obtain ⟨g1, g2, g3, g4⟩ := x2.2 (i : Int) i0.1 (by omega)
  refine J.run0 1 rfl ?_
  try dsimp only
  refine J.ifc rfl rfl rfl bx (fun hc => ?_) (fun hc => ?_)
  rotate_left
  · have hc' : what = 0 := Classical.not_not.mp hc
    refine J.run 4 rfl i0 ?_
    try dsimp only
    refine J.reti rfl rfl rfl ⟨_, rfl, rfl, eth, _, rfl, fun _ => ?_⟩
    rw [hc']
    exact g1
  have c0 : ¬ what = 0 := hc
  refine J.run0 2 rfl ?_
  try dsimp only
  refine J.icmp rfl rfl rfl ⟨bx, by decide, by decide⟩ (fun hc => ?_) (fun hc => ?_)
  rotate_left
  · have hc' : what = 1 := Classical.not_not.mp hc
    refine J.run 4 rfl i0 ?_
    try dsimp only
    refine J.reti rfl rfl rfl ⟨_, rfl, rfl, eth, _, rfl, fun _ => ?_⟩
    rw [hc']
    exact g2
  have c1 : ¬ what = 1 := hc
  refine J.run0 2 rfl ?_
  try dsimp only
  refine J.icmp rfl rfl rfl ⟨bx, by decide, by decide⟩ (fun hc => ?_) (fun hc => ?_)
  rotate_left
  · have hc' : what = 2 := Classical.not_not.mp hc
    refine J.run 4 rfl i0 ?_
    try dsimp only
    refine J.reti rfl rfl rfl ⟨_, rfl, rfl, eth, _, rfl, fun _ => ?_⟩
    rw [hc']
    show H.2.2.1 57 0 (i : Int) = _
    rw [x8.2.2 i (by rw [zB16]; exact hi)]
    have h9 : i = 0 ∨ i = 1 := by omega
    rcases h9 with rfl | rfl
    · rfl
    · rfl
  have c2 : ¬ what = 2 := hc
  refine J.run0 2 rfl ?_
  try dsimp only
  refine J.icmp rfl rfl rfl ⟨bx, by decide, by decide⟩ (fun hc => ?_) (fun hc => ?_)
  rotate_left
  · have hc' : what = 3 := Classical.not_not.mp hc
    refine J.run0 2 rfl ?_
    try dsimp only
    refine J.inv rfl rfl rfl rfl rfl rfl jDr rfl rfl rfl rfl rfl (j_snd16 (d := d + 7) hI hi) ?_
    rintro r w H' ⟨rfl, rfl, hI'⟩
    refine J.ifc rfl rfl rfl ⟨by decide, by decide⟩ (fun hc => absurd hc (show ¬ (1 : Int) = 0 by decide)) (fun _ => ?_)
    refine J.run0 2 rfl ?_
    try dsimp only
    refine J.reti rfl rfl rfl ⟨_, rfl, rfl, hI'.1.1.2, _, rfl, fun _ => ?_⟩
    rw [hc']
    rfl
  have c3 : ¬ what = 3 := hc
  refine J.run0 2 rfl ?_
  try dsimp only
  refine J.icmp rfl rfl rfl ⟨bx, by decide, by decide⟩ (fun hc => ?_) (fun hc => ?_)
  rotate_left
  · have hc' : what = 4 := Classical.not_not.mp hc
    refine J.run 4 rfl i0 ?_
    try dsimp only
    refine J.reti rfl rfl rfl ⟨_, rfl, rfl, eth, _, rfl, fun _ => ?_⟩
    rw [hc']
    exact g3
  have c4 : ¬ what = 4 := hc
  refine J.run0 2 rfl ?_
  try dsimp only
  refine J.icmp rfl rfl rfl ⟨bx, by decide, by decide⟩ (fun hc => ?_) (fun hc => ?_)
  · have hc' : 16 < what := hc
    refine J.run 10 rfl ⟨show 0 ≤ 16 * (i : Int) + what - 17 by omega, show 16 * (i : Int) + what - 17 < 4800 by omega⟩ ?_
    try dsimp only
    refine J.reti rfl rfl rfl ⟨_, rfl, rfl, eth, _, rfl, fun _ => ?_⟩
    show H.2.2.1 60 0 (16 * (i : Int) + what - 17) = _
    rw [show 16 * (i : Int) + what - 17 = 16 * (i : Int) + (what - 17) by omega, g4 (what - 17) (by omega) (by omega)]
    unfold ofA
    rw [if_neg c0, if_neg c1, if_neg c2, if_neg c3, if_neg c4, if_neg (by omega)]
  · have hc' : ¬ 16 < what := hc
    refine J.run 7 rfl i0 ?_
    try dsimp only
    try dsimp only
    rw [g3]
    refine J.icmp rfl rfl rfl ⟨⟨by omega, by omega⟩, by decide, by decide⟩ (fun _ => ?_) (fun hc2 => absurd (show (0 : Int) ≤ what - 5 by omega) hc2)
    refine J.run0 1 rfl ?_
    try dsimp only
    refine J.reti rfl rfl rfl ⟨_, rfl, rfl, eth, _, rfl, fun _ => ?_⟩
    unfold ofA
    rw [if_neg c0, if_neg c1, if_neg c2, if_neg c3, if_neg c4, if_pos (by omega)]
set_option maxRecDepth 8000 in
theorem j_account {x a what : Int} (hI : rInv (zc 16) H) (bm : jR x) (ba : jR a) (bx : jR what) : J true (d + 10) 162 w (0, jargs 0 [jT, .inl x, .inl a, .inl what], [], H) (jN (rOut w (accK x a what) (accA a what))) := by
  have esz : H.1 11 12 0 = 2 := by rw [hI.2.1.1, zB16]; rfl
  unfold accK
  refine J.run0 5 rfl ?_
  try dsimp only
  try dsimp only
  rw [esz]
  refine J.run0 2 rfl ?_
  try dsimp only
  refine J.ins rfl rfl rfl rfl rfl rfl rfl rfl rfl (j_in bm ⟨by decide, by decide⟩ ⟨by decide, by decide⟩) ?_
  rintro r w H ⟨rfl, rfl, rfl⟩
  have no : ∀ {k : Int}, k = 1 → J true (d + 10) 162 w (26, jargs 0 [jT, .inl x, .inl a, .inl what], [jT], H) (jN (rOut w k (accA a what))) := by
    intro k hk
    subst hk
    refine J.run0 2 rfl ?_
    try dsimp only
    refine J.run0 3 rfl ?_
    try dsimp only
    refine J.ifc rfl rfl rfl ⟨show -2147483648 ≤ (1 : Int) by decide, show (1 : Int) ≤ 2147483647 by decide⟩ (fun hc => absurd (show (1 : Int) ≤ 0 from hc) (by decide)) (fun _ => ?_)
    refine J.run0 1 rfl ?_
    try dsimp only
    exact J.reti rfl rfl rfl ⟨_, rfl, rfl, rfl, _, rfl, fun hk => absurd hk (by decide)⟩
  by_cases h1 : 0 ≤ x ∧ x ≤ 1
  rotate_left
  · rw [if_neg (show ¬ (0 ≤ x ∧ x ≤ 2 - 1) by omega)]
    refine J.ifc rfl rfl rfl ⟨by decide, by decide⟩ (fun _ => ?_) (fun hc => absurd rfl hc)
    exact no (if_neg fun z => h1 z.1)
  rw [if_pos (show 0 ≤ x ∧ x ≤ 2 - 1 by omega)]
  refine J.ifc rfl rfl rfl ⟨by decide, by decide⟩ (fun hc => absurd hc (show ¬ (1 : Int) = 0 by decide)) (fun _ => ?_)
  refine J.run0 3 rfl ?_
  try dsimp only
  refine J.ins rfl rfl rfl rfl rfl rfl rfl rfl rfl (j_in ba ⟨by decide, by decide⟩ ⟨by decide, by decide⟩) ?_
  rintro r w H ⟨rfl, rfl, rfl⟩
  by_cases h2 : 0 ≤ a ∧ a ≤ 199
  rotate_left
  · rw [if_neg h2]
    refine J.ifc rfl rfl rfl ⟨by decide, by decide⟩ (fun hc => absurd rfl hc) (fun _ => ?_)
    exact no (if_neg fun z => h2 z.2)
  rw [if_pos h2, if_pos (⟨h1, h2⟩ : isA x a)]
  clear no
  refine J.ifc rfl rfl rfl ⟨by decide, by decide⟩ (fun _ => ?_) (fun hc => absurd (show ¬ (1 : Int) = 0 by decide) hc)
  obtain ⟨i, rfl⟩ : ∃ i : Nat, x = (i : Int) := ⟨x.toNat, by omega⟩
  have hi : i < 2 := by omega
  refine J.run0 2 rfl ?_
  try dsimp only
  refine J.inv rfl rfl rfl rfl rfl rfl jDr rfl rfl rfl rfl rfl (j_snd16 (d := d + 7) hI hi) ?_
  rintro r w H1 ⟨rfl, rfl, hI1⟩
  have eth : H1.1 11 47 0 = 0 := hI1.1.1.2
  refine J.ifc rfl rfl rfl ⟨by decide, by decide⟩ (fun _ => ?_) (fun hc => absurd (show ¬ (1 : Int) = 0 by decide) hc)
  refine J.run0 3 rfl ?_
  try dsimp only
  refine J.ins rfl rfl rfl rfl rfl rfl rfl rfl rfl (j_in bx ⟨by decide, by decide⟩ ⟨by decide, by decide⟩) ?_
  rintro r w H1 ⟨rfl, rfl, rfl⟩
  by_cases hx : 0 ≤ what ∧ what ≤ 17
  rotate_left
  · rw [if_neg hx, if_neg hx]
    refine J.ifc rfl rfl rfl ⟨by decide, by decide⟩ (fun hc => absurd rfl hc) (fun _ => ?_)
    refine J.run0 2 rfl ?_
    try dsimp only
    refine J.run0 3 rfl ?_
    try dsimp only
    refine J.ifc rfl rfl rfl ⟨show -2147483648 ≤ (3 : Int) by decide, show (3 : Int) ≤ 2147483647 by decide⟩ (fun hc => absurd (show (3 : Int) ≤ 0 from hc) (by decide)) (fun _ => ?_)
    refine J.run0 1 rfl ?_
    try dsimp only
    exact J.reti rfl rfl rfl ⟨_, rfl, rfl, rfl, _, rfl, fun hk => absurd hk (by decide)⟩
  rw [if_pos hx, if_pos hx]
  refine J.ifc rfl rfl rfl ⟨by decide, by decide⟩ (fun _ => ?_) (fun hc => absurd (show ¬ (1 : Int) = 0 by decide) hc)
  refine J.run0 1 rfl ?_
  try dsimp only
  refine J.run0 3 rfl ?_
  try dsimp only
  refine J.ifc rfl rfl rfl ⟨show -2147483648 ≤ (0 : Int) by decide, show (0 : Int) ≤ 2147483647 by decide⟩ (fun _ => ?_) (fun hc => absurd (show (0 : Int) ≤ 0 by decide) hc)
  refine J.heq (show _ = hV H1 47 0 from rfl) ?_
  rw [hV_same H1 47 eth]
  refine J.run0 2 rfl ?_
  try dsimp only
  refine J.inv rfl rfl rfl rfl rfl rfl jDr rfl rfl rfl rfl rfl (j_st16 (d := d + 8) hI1 hi) ?_
  rintro r w H2 ⟨rfl, rfl, hI2⟩
  have eth2 : H2.1 11 47 0 = 0 := hI2.1.1.2
  obtain ⟨l1, l2, l3, l4, l5⟩ := hI2.2.1.2.2.2.2.2.2.1
  refine J.run0 1 rfl ?_
  try dsimp only
  refine J.ifc rfl rfl rfl bx (fun hc => ?_) (fun hc => ?_)
  rotate_left
  · have hc' : what = 0 := Classical.not_not.mp hc
    refine J.run 4 rfl ⟨h2.1, show a < 200 by omega⟩ ?_
    try dsimp only
    refine J.reti rfl rfl rfl ⟨_, rfl, rfl, eth2, _, rfl, fun _ => ?_⟩
    rw [hc']
    exact l1 a h2.1 (by omega)
  have c0 : ¬ what = 0 := hc
  refine J.run0 2 rfl ?_
  try dsimp only
  refine J.icmp rfl rfl rfl ⟨bx, by decide, by decide⟩ (fun hc => ?_) (fun hc => ?_)
  · have hc' : 17 ≤ what := hc
    refine J.run0 4 rfl ?_
    try dsimp only
    refine J.run0 3 rfl ?_
    try dsimp only
    try dsimp only
    rw [l4]
    refine J.icmp rfl rfl rfl ⟨⟨by decide, by decide⟩, by decide, by decide⟩ (fun _ => ?_) (fun hc => absurd (show (0 : Int) ≤ 0 by decide) hc)
    refine J.run0 1 rfl ?_
    try dsimp only
    refine J.reti rfl rfl rfl ⟨_, rfl, rfl, eth2, _, rfl, fun _ => ?_⟩
    unfold accA
    rw [if_neg c0, if_pos (by omega)]
  · have hc' : ¬ 17 ≤ what := hc
    refine J.run 10 rfl ⟨show 0 ≤ 16 * a + what - 1 by omega, show 16 * a + what - 1 < 3200 by omega⟩ ?_
    try dsimp only
    refine J.reti rfl rfl rfl ⟨_, rfl, rfl, eth2, _, rfl, fun _ => ?_⟩
    show H2.2.2.1 100 0 (16 * a + what - 1) = _
    rw [l2 _ (by omega) (by omega)]
    unfold accA
    rw [if_neg c0, if_neg (show ¬ what = 17 by omega)]
    by_cases h9 : a = what - 1
    · rw [if_pos h9, if_pos (show (16 * a + what - 1) / 16 = (16 * a + what - 1) % 16 by omega)]
    · rw [if_neg h9, if_neg (show ¬ (16 * a + what - 1) / 16 = (16 * a + what - 1) % 16 by omega)]
end SV
