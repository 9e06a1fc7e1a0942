/-! the reference's calls on a new object: follow, sync -/
section SZ
variable {d : Nat} {w : jW} {H : jH}
theorem jcnt_0 {g : Int → Int} (h : ∀ j, 0 ≤ j → j < 16 → g j = 0) : jcnt g 16 = 0 := by
  have h9 := jcnt_count (g := g) (p := fun _ => false) 16 fun k hk => h k (by omega) (by omega)
  rw [h9]
  rfl
theorem rInv.looks {z : zT} {x : Int} (hI : rInv z H) (hz : zInv z) : rInv z (hV H 46 x) := by
  have hE : jEx [46] [] (hV H 46 x) H := (jEx.refl _ _ _).num (by decide)
  refine ⟨hI.1.ex hE ⟨rfl, rfl⟩ (by decide) (by decide), hI.2.1.ex hE rfl (by decide) (by decide), fun m hm => ?_⟩
  have h6 := nK_len hz hm
  have hM := hz.1.1
  exact (hI.2.2 m hm).oth (rOth.ex hE (by decide)) (fun _ _ => rfl) (by show (nK z m).length ≤ 6000; omega)
/-- as j_snd16, j_st16, with LOOKS -/
theorem j_sndL {i : Nat} (hI : rInv (zc 16) H) (hi : i < 2) : J true (d + 2) 125 w (0, jargs 0 [jT, .inl (i : Int)], [], H) (jN fun r w' H' => r = some (.inl 1) ∧ w' = w ∧ rInv (zc 16) H' ∧ H'.1 11 46 0 = H.1 11 46 0 ∧ H'.2.2.1 81 0 = H.2.2.1 81 0) := by
  have hz := zc_inv 16 (Nat.le_refl _)
  obtain ⟨x1, x2, x3, x4, x5, x6, x7, x8, x9⟩ := hI.2.1
  rw [zB16] at x2 x3 x4
  have i2 : (0 : Int) ≤ i ∧ (i : Int) < ((2 : Nat) : Int) := by omega
  refine J.post (j_isSound x7 x2 i2 x9 ?_) ?_
  · rcases x3 (i : Int) i2.1 i2.2 with h | h
    · refine Or.inr ⟨h, ?_⟩
      have h9 : i = 0 ∨ i = 1 := by omega
      rcases h9 with rfl | rfl
      · have h8 : H.2.2.1 61 0 0 = 0 := h
        rw [x5] at h8
        cases h8
      · exact ⟨by decide, x4 _ (by decide) (by decide)⟩
    · exact Or.inl h
  · rintro o w' H' ⟨r, rfl, rfl, rfl, hS⟩
    exact ⟨_, rfl, rfl, rfl, hI.snd hz (by rw [zB16]; exact i2.2) hS, hS.2.1.v _ (by decide), hS.2.1.r _ (by decide)⟩
theorem j_stL {i : Nat} (hI : rInv (zc 16) H) (hi : i < 2) : J true (d + 1) 116 w (0, jargs 0 [jT, .inl (i : Int)], [], H) (jN fun r w' H' => r = none ∧ w' = w ∧ rInv (zc 16) H' ∧ H'.1 11 46 0 = H.1 11 46 0 ∧ H'.2.2.1 81 0 = H.2.2.1 81 0) := by
  have hz := zc_inv 16 (Nat.le_refl _)
  obtain ⟨x1, x2, x3, x4, x5, x6, x7, x8, x9⟩ := hI.2.1
  rw [zB16] at x2
  have i2 : (0 : Int) ≤ i ∧ (i : Int) < ((2 : Nat) : Int) := by omega
  refine J.post (j_state x7 x2 i2 x9) ?_
  rintro o w' H' ⟨r, rfl, rfl, rfl, hL, hE, hd⟩
  exact ⟨_, rfl, rfl, rfl, hI.stt hz hL hE (by rw [hd]; omega), hE.v _ (by decide), hE.r _ (by decide)⟩
theorem j_sent_l {x q bo : Int} {Post : jO → jW → jH → Prop} (hI : rInv (zc 16) H) (hb : ∀ j : Int, 0 ≤ j → j < 16 → H.2.2.1 60 0 (16 * x + j) = 100) (hx : 0 ≤ x ∧ x < 300) (hs : ∀ j : Int, 0 ≤ j → j < 16 → H.2.2.1 81 0 j = 0) (hnext : ∀ lv : jL, lv = [(9, .inl 16), (7, .inl 1600), (5, .inl 1600), (10, .inl 100), (8, .inl 1), (6, .inl 0), (4, .inl 0), (0, jT), (1, .inl x), (2, .inl q), (3, .inl bo)] → J true (d + 1) 164 w (210, lv, [], H) Post) : ∀ (m n : Nat) (lv : jL), n + m = 16 → ((n = 0 ∧ lv = [(9, .inl 0), (8, .inl 1), (7, .inl 0), (6, .inl 0), (5, .inl 0), (4, .inl 0), (0, jT), (1, .inl x), (2, .inl q), (3, .inl bo)]) ∨ lv = [(9, .inl (n : Int)), (7, .inl (100 * (n : Int))), (5, .inl (100 * (n : Int))), (10, .inl 100), (8, .inl 1), (6, .inl 0), (4, .inl 0), (0, jT), (1, .inl x), (2, .inl q), (3, .inl bo)]) → J true (d + 1) 164 w (122, lv, [], H) Post := by
  intro m
  induction m with
  | zero =>
    intro n lv hn hlv
    obtain rfl : n = 16 := by omega
    rcases hlv with ⟨h, -⟩ | rfl
    · omega
    refine J.run0 2 rfl ?_
    try dsimp only
    exact J.icmp rfl rfl rfl ⟨⟨by decide, by decide⟩, by decide, by decide⟩ (fun _ => hnext _ rfl) (fun hc => absurd (show (16 : Int) ≤ (16 : Nat) by decide) hc)
  | succ m ih =>
    intro n lv hn hlv
    have n0 : (0 : Int) ≤ n ∧ (n : Int) < 16 := by omega
    have hL := hI.2.1.2.2.2.2.2.2.1
    have e1 : 100 * ((n + 1 : Nat) : Int) = 100 * (n : Int) + 100 := by omega
    rcases hlv with ⟨h0, rfl⟩ | rfl
    · subst h0
      refine J.run0 2 rfl ?_
      try dsimp only
      refine J.icmp rfl rfl rfl ⟨⟨by decide, by decide⟩, by decide, by decide⟩ (fun hc => absurd (show (16 : Int) ≤ 0 from hc) (by decide)) (fun _ => ?_)
      refine J.run0 1 rfl ?_
      try dsimp only
      refine J.ifc rfl rfl rfl ⟨by decide, by decide⟩ (fun hc => absurd hc (show ¬ (1 : Int) = 0 by decide)) (fun _ => ?_)
      refine J.run0 2 rfl ?_
      try dsimp only
      refine J.inv rfl rfl rfl rfl rfl rfl jDr rfl rfl rfl rfl rfl (j_power hL ⟨by decide, by decide⟩) ?_
      rintro r w H ⟨rfl, rfl, rfl⟩
      refine J.run0 1 rfl ?_
      try dsimp only
      refine J.run 10 rfl ⟨show 0 ≤ 16 * x + 0 by omega, show 16 * x + 0 < 4800 by omega⟩ ?_
      try dsimp only
      try dsimp only
      rw [hb 0 (by decide) (by decide)]
      refine J.run 10 rfl ⟨show (0 : Int) ≤ 0 by decide, show (0 : Int) < 16 by decide⟩ ?_
      try dsimp only
      try dsimp only
      rw [hs 0 (by decide) (by decide)]
      refine J.ifc rfl rfl rfl ⟨by decide, by decide⟩ (fun _ => ?_) (fun hc => absurd rfl hc)
      refine J.run0 2 rfl ?_
      try dsimp only
      exact ih 1 _ (by omega) (Or.inr rfl)
    · refine J.run0 2 rfl ?_
      try dsimp only
      refine J.icmp rfl rfl rfl ⟨⟨by omega, by omega⟩, by decide, by decide⟩ (fun hc => absurd (show (16 : Int) ≤ (n : Int) from hc) (by omega)) (fun _ => ?_)
      refine J.run0 1 rfl ?_
      try dsimp only
      refine J.ifc rfl rfl rfl ⟨by decide, by decide⟩ (fun hc => absurd hc (show ¬ (1 : Int) = 0 by decide)) (fun _ => ?_)
      refine J.run0 2 rfl ?_
      try dsimp only
      refine J.inv rfl rfl rfl rfl rfl rfl jDr rfl rfl rfl rfl rfl (j_power hL n0) ?_
      rintro r w H ⟨rfl, rfl, rfl⟩
      refine J.run0 1 rfl ?_
      try dsimp only
      refine J.run 10 rfl ⟨show 0 ≤ 16 * x + (n : Int) by omega, show 16 * x + (n : Int) < 4800 by omega⟩ ?_
      try dsimp only
      try dsimp only
      rw [hb n n0.1 n0.2]
      refine J.run 10 rfl n0 ?_
      try dsimp only
      try dsimp only
      rw [hs n n0.1 n0.2]
      refine J.ifc rfl rfl rfl ⟨by decide, by decide⟩ (fun _ => ?_) (fun hc => absurd rfl hc)
      refine J.run0 2 rfl ?_
      try dsimp only
      have h9 := ih (n + 1) _ (by omega) (Or.inr rfl)
      rw [e1] at h9
      exact h9
/-- nobody's precommit is seen: the two MESSAGES are passed over -/
theorem j_sent_m {x q bo : Int} {Post : jO → jW → jH → Prop} (hI : rInv (zc 16) H) (hnext : J true d 164 w (84, [(4, .inl 2), (0, jT), (1, .inl x), (2, .inl q), (3, .inl bo)], [], H) Post) : J true d 164 w (7, [(4, .inl 0), (0, jT), (1, .inl x), (2, .inl q), (3, .inl bo)], [], H) Post := by
  have em : H.1 11 19 0 = 2 := by rw [hI.1.1.1, zM16]; rfl
  have k0 := (hI.m16 (i := 0) (by decide)).1
  have k1 := (hI.m16 (i := 1) (by decide)).1
  refine J.run0 3 rfl ?_
  try dsimp only
  try dsimp only
  rw [em]
  refine J.icmp rfl rfl rfl ⟨⟨by decide, by decide⟩, by decide, by decide⟩ (fun hc => absurd (show (2 : Int) ≤ 0 from hc) (by decide)) (fun _ => ?_)
  refine J.run 5 rfl ⟨show (0 : Int) ≤ 0 by decide, show (0 : Int) < 6000 by decide⟩ ?_
  try dsimp only
  try dsimp only
  rw [show H.2.2.1 63 0 0 = ((0 : Nat) : Int) from k0]
  refine J.icmp rfl rfl rfl ⟨⟨by decide, by decide⟩, by decide, by decide⟩ (fun _ => ?_) (fun hc => absurd (show ¬ ((0 : Nat) : Int) = 2 by decide) hc)
  refine J.run0 2 rfl ?_
  try dsimp only
  refine J.run0 3 rfl ?_
  try dsimp only
  try dsimp only
  rw [em]
  refine J.icmp rfl rfl rfl ⟨⟨by decide, by decide⟩, by decide, by decide⟩ (fun hc => absurd (show (2 : Int) ≤ 0 + 1 from hc) (by decide)) (fun _ => ?_)
  refine J.run 5 rfl ⟨show (0 : Int) ≤ 0 + 1 by decide, show (0 + 1 : Int) < 6000 by decide⟩ ?_
  try dsimp only
  try dsimp only
  rw [show H.2.2.1 63 0 (0 + 1) = ((1 : Nat) : Int) from k1]
  refine J.icmp rfl rfl rfl ⟨⟨by decide, by decide⟩, by decide, by decide⟩ (fun _ => ?_) (fun hc => absurd (show ¬ ((1 : Nat) : Int) = 2 by decide) hc)
  refine J.run0 2 rfl ?_
  try dsimp only
  refine J.run0 3 rfl ?_
  try dsimp only
  try dsimp only
  rw [em]
  exact J.icmp rfl rfl rfl ⟨⟨by decide, by decide⟩, by decide, by decide⟩ (fun _ => hnext) (fun hc => absurd (show (2 : Int) ≤ 0 + 1 + 1 by decide) hc)
set_option maxRecDepth 8000 in
theorem j_isSent {x q bo : Int} (hI : rInv (zc 16) H) (hx : 0 ≤ x ∧ x ≤ 1) : J true (d + 3) 164 w (0, jargs 0 [jT, .inl x, .inl q, .inl bo], [], H) (jN fun r w' H' => r = some (.inl 0) ∧ w' = w ∧ rInv (zc 16) H' ∧ H'.1 11 46 0 = H.1 11 46 0) := by
  have hz := zc_inv 16 (Nat.le_refl _)
  refine J.run0 1 rfl ?_
  try dsimp only
  refine J.inv rfl rfl rfl rfl rfl rfl jDr rfl rfl rfl rfl rfl j_clear ?_
  rintro r w' H1 ⟨rfl, rfl, g1, rfl, hg1⟩
  have hI1 : rInv (zc 16) (hR H 81 g1) := hI.seen hz g1
  have s1 : ∀ j : Int, 0 ≤ j → j < 16 → (hR H 81 g1).2.2.1 81 0 j = 0 := fun j a b => by
    show jsetR H.2.2.1 81 0 g1 81 0 j = 0
    rw [jsetR_eq]
    exact hg1 j a b
  have l1 : (hR H 81 g1).1 11 46 0 = H.1 11 46 0 := rfl
  generalize hR H 81 g1 = H1 at hI1 s1 l1 ⊢
  refine J.run0 2 rfl ?_
  try dsimp only
  refine j_sent_m hI1 ?_
  have et : H1.1 11 45 0 = 0 := hI1.2.1.2.2.2.2.2.2.2.1.2.1
  refine J.run0 11 rfl ?_
  try dsimp only
  try dsimp only
  rw [show H1.1 11 45 0 = ((0 : Nat) : Int) from et]
  refine J.inv rfl rfl rfl rfl rfl rfl jDr rfl rfl rfl rfl rfl (j_sndL (d := d) hI1 (by decide)) ?_
  rintro r w' H2 ⟨rfl, rfl, hI2, l2, e2⟩
  have et2 : H2.1 11 45 0 = 0 := hI2.2.1.2.2.2.2.2.2.2.1.2.1
  refine J.run0 2 rfl ?_
  try dsimp only
  refine J.ifc rfl rfl rfl ⟨by decide, by decide⟩ (fun hc => absurd hc (show ¬ (1 : Int) = 0 by decide)) (fun _ => ?_)
  refine J.run0 3 rfl ?_
  try dsimp only
  try dsimp only
  rw [show H2.1 11 45 0 = ((0 : Nat) : Int) from et2]
  refine J.inv rfl rfl rfl rfl rfl rfl jDr rfl rfl rfl rfl rfl (j_stL (d := d + 1) hI2 (by decide)) ?_
  rintro r w' H3 ⟨rfl, rfl, hI3, l3, e3⟩
  have hB := hI3.2.1.2.1
  rw [zB16] at hB
  refine J.run0 2 rfl ?_
  try dsimp only
  refine j_sent_l (d := d + 2) hI3 (hB.2 x hx.1 (by omega)).2.2.2 (by omega) (fun j a b => by rw [e3, e2]; exact s1 j a b) (fun lv hlv => ?_) 16 0 _ rfl (Or.inl ⟨rfl, rfl⟩)
  subst hlv
  refine J.run0 6 rfl ?_
  try dsimp only
  refine J.icmp rfl rfl rfl ⟨⟨by decide, by decide⟩, by decide, by decide⟩ (fun _ => ?_) (fun hc => absurd (show (3 : Int) * 0 ≤ 2 * 1600 by decide) hc)
  refine J.run0 1 rfl ?_
  try dsimp only
  exact J.retb rfl rfl rfl (by decide) ⟨_, rfl, rfl, rfl, hI3, by rw [l3, l2, l1]⟩
theorem j_isEnough {x bo : Int} (hx : 0 ≤ x ∧ x ≤ 1) : ∀ (m q : Nat) (H : jH), q + m = 32 → rInv (zc 16) H → J true (d + 4) 165 w (2, [(3, .inl (q : Int)), (0, jT), (1, .inl x), (2, .inl bo)], [], H) (jN fun r w' H' => r = some (.inl 0) ∧ w' = w ∧ rInv (zc 16) H' ∧ H'.1 11 46 0 = H.1 11 46 0) := by
  intro m
  induction m with
  | zero =>
    intro q H hq hI
    obtain rfl : q = 32 := by omega
    refine J.run0 2 rfl ?_
    try dsimp only
    refine J.icmp rfl rfl rfl ⟨⟨by decide, by decide⟩, by decide, by decide⟩ (fun _ => ?_) (fun hc => absurd (show (32 : Int) ≤ (32 : Nat) by decide) hc)
    refine J.run0 1 rfl ?_
    try dsimp only
    exact J.retb rfl rfl rfl (by decide) ⟨_, rfl, rfl, rfl, hI, rfl⟩
  | succ m ih =>
    intro q H hq hI
    refine J.run0 2 rfl ?_
    try dsimp only
    refine J.icmp rfl rfl rfl ⟨⟨by omega, by omega⟩, by decide, by decide⟩ (fun hc => absurd (show (32 : Int) ≤ (q : Int) from hc) (by omega)) (fun _ => ?_)
    refine J.run0 4 rfl ?_
    try dsimp only
    refine J.inv rfl rfl rfl rfl rfl rfl jDr rfl rfl rfl rfl rfl (j_isSent (d := d) hI hx) ?_
    rintro r w' H1 ⟨rfl, rfl, hI1, l1⟩
    refine J.ifc rfl rfl rfl ⟨by decide, by decide⟩ (fun _ => ?_) (fun hc => absurd rfl hc)
    refine J.run0 2 rfl ?_
    try dsimp only
    have h9 := ih (q + 1) H1 (by omega) hI1
    rw [l1] at h9
    exact h9
set_option maxRecDepth 8000 in
theorem j_looks {x : Int} (hI : rInv (zc 16) H) (hx : 0 ≤ x ∧ x ≤ 1) : J true (d + 5) 166 w (0, jargs 0 [jT, .inl x], [], H) (jN fun r w' H' => r = some (.inl 0) ∧ w' = w ∧ rInv (zc 16) H' ∧ H'.1 11 46 0 = H.1 11 46 0 + 1) := by
  have hz := zc_inv 16 (Nat.le_refl _)
  refine J.run0 6 rfl ?_
  try dsimp only
  refine J.heq (show _ = hV H 46 (H.1 11 46 0 + 1) from rfl) ?_
  have hI1 : rInv (zc 16) (hV H 46 (H.1 11 46 0 + 1)) := hI.looks hz
  have l1 : (hV H 46 (H.1 11 46 0 + 1)).1 11 46 0 = H.1 11 46 0 + 1 := rfl
  generalize hV H 46 (H.1 11 46 0 + 1) = H1 at hI1 l1 ⊢
  have hB := hI1.2.1.2.1
  rw [zB16] at hB
  have et : H1.1 11 45 0 = 0 := hI1.2.1.2.2.2.2.2.2.2.1.2.1
  refine J.run 4 rfl ⟨hx.1, show x < 300 by omega⟩ ?_
  try dsimp only
  try dsimp only
  rw [(hB.2 x hx.1 (by omega)).1]
  refine J.run0 4 rfl ?_
  try dsimp only
  try dsimp only
  rw [et]
  refine J.run 1 rfl ⟨show (0 : Int) ≤ 0 by decide, show (0 : Int) < 300 by decide⟩ ?_
  try dsimp only
  try dsimp only
  rw [(hB.2 0 (by decide) (by decide)).1]
  refine J.run0 4 rfl ?_
  try dsimp only
  by_cases h1 : x = 1
  rotate_left
  · refine J.icmp rfl rfl rfl ⟨⟨by omega, by omega⟩, by decide, by decide⟩ (fun _ => ?_) (fun hc => absurd (show x - 0 < 1 by omega) hc)
    refine J.run0 1 rfl ?_
    try dsimp only
    exact J.retb rfl rfl rfl (by decide) ⟨_, rfl, rfl, rfl, hI1, l1⟩
  refine J.icmp rfl rfl rfl ⟨⟨by omega, by omega⟩, by decide, by decide⟩ (fun hc => absurd (show x - 0 < 1 from hc) (by omega)) (fun _ => ?_)
  refine J.run0 2 rfl ?_
  try dsimp only
  refine J.icmp rfl rfl rfl ⟨⟨by omega, by omega⟩, by decide, by decide⟩ (fun hc => absurd (show 40 < x - 0 from hc) (by omega)) (fun _ => ?_)
  refine J.run0 3 rfl ?_
  try dsimp only
  refine J.inv rfl rfl rfl rfl rfl rfl jDr rfl rfl rfl rfl rfl (J.run0 2 rfl (j_isEnough (d := d) hx 32 0 H1 rfl hI1)) ?_
  rintro r w' H2 ⟨rfl, rfl, hI2, l2⟩
  refine J.ifc rfl rfl rfl ⟨by decide, by decide⟩ (fun hc => absurd rfl hc) (fun _ => ?_)
  refine J.run0 1 rfl ?_
  try dsimp only
  exact J.retb rfl rfl rfl (by decide) ⟨_, rfl, rfl, rfl, hI2, by rw [l2, l1]⟩
theorem j_follows {x : Int} (hI : rInv (zc 16) H) (hx : 0 ≤ x ∧ x ≤ 1) : J true (d + 6) 167 w (0, jargs 0 [jT, .inl x], [], H) (jN fun r w' H' => r = some (.inl 0) ∧ w' = w ∧ rInv (zc 16) H' ∧ H'.1 11 46 0 = H.1 11 46 0 + 1) := by
  refine J.run0 2 rfl ?_
  try dsimp only
  refine J.inv rfl rfl rfl rfl rfl rfl jDr rfl rfl rfl rfl rfl (j_looks (d := d) hI hx) ?_
  rintro r w' H1 ⟨rfl, rfl, hI1, l1⟩
  refine J.ifc rfl rfl rfl ⟨by decide, by decide⟩ (fun _ => ?_) (fun hc => absurd rfl hc)
  have hB := hI1.2.1.2.1
  rw [zB16] at hB
  have et : H1.1 11 45 0 = 0 := hI1.2.1.2.2.2.2.2.2.2.1.2.1
  refine J.run 4 rfl ⟨hx.1, show x < 300 by omega⟩ ?_
  try dsimp only
  try dsimp only
  rw [(hB.2 x hx.1 (by omega)).1]
  refine J.run0 4 rfl ?_
  try dsimp only
  try dsimp only
  rw [et]
  refine J.run 1 rfl ⟨show (0 : Int) ≤ 0 by decide, show (0 : Int) < 300 by decide⟩ ?_
  try dsimp only
  try dsimp only
  rw [(hB.2 0 (by decide) (by decide)).1]
  refine J.run0 4 rfl ?_
  try dsimp only
  refine J.icmp rfl rfl rfl ⟨⟨by omega, by omega⟩, by decide, by decide⟩ (fun _ => ?_) (fun hc => absurd (show x - 0 < 2 by omega) hc)
  refine J.run0 1 rfl ?_
  try dsimp only
  exact J.retb rfl rfl rfl (by decide) ⟨_, rfl, rfl, rfl, hI1, l1⟩
theorem j_follow {x : Int} (hI : rInv (zc 16) H) (bm : jR x) : J true (d + 10) 168 w (0, jargs 0 [jT, .inl x], [], H) (jN (rOut w (if 0 ≤ x ∧ x ≤ 1 then 0 else 1) (-1))) := by
  have hz := zc_inv 16 (Nat.le_refl _)
  have eth : H.1 11 47 0 = 0 := hI.1.1.2
  have esz : H.1 11 12 0 = 2 := by rw [hI.2.1.1, zB16]; rfl
  refine J.run0 5 rfl ?_
  try dsimp only
  try dsimp only
  rw [esz]
  refine J.run0 2 rfl ?_
  try dsimp only
  refine J.ins rfl rfl rfl rfl rfl rfl rfl rfl rfl (j_in bm ⟨by decide, by decide⟩ ⟨by decide, by decide⟩) ?_
  rintro r w H ⟨rfl, rfl, rfl⟩
  by_cases h : 0 ≤ x ∧ x ≤ 1
  rotate_left
  · rw [if_neg (show ¬ (0 ≤ x ∧ x ≤ 2 - 1) by omega), if_neg h]
    refine J.ifc rfl rfl rfl ⟨by decide, by decide⟩ (fun _ => ?_) (fun hc => absurd rfl hc)
    refine J.run0 1 rfl ?_
    try dsimp only
    refine J.run0 3 rfl ?_
    try dsimp only
    refine J.ifc rfl rfl rfl ⟨show -2147483648 ≤ (1 : Int) by decide, show (1 : Int) ≤ 2147483647 by decide⟩ (fun hc => absurd (show (1 : Int) ≤ 0 from hc) (by decide)) (fun _ => ?_)
    refine J.run0 1 rfl ?_
    try dsimp only
    exact J.reti rfl rfl rfl ⟨_, rfl, rfl, rfl, _, rfl, fun hk => absurd hk (by decide)⟩
  rw [if_pos (show 0 ≤ x ∧ x ≤ 2 - 1 by omega), if_pos h]
  refine J.ifc rfl rfl rfl ⟨by decide, by decide⟩ (fun hc => absurd hc (show ¬ (1 : Int) = 0 by decide)) (fun _ => ?_)
  refine J.run0 2 rfl ?_
  try dsimp only
  refine J.run0 3 rfl ?_
  try dsimp only
  refine J.ifc rfl rfl rfl ⟨show -2147483648 ≤ (0 : Int) by decide, show (0 : Int) ≤ 2147483647 by decide⟩ (fun _ => ?_) (fun hc => absurd (show (0 : Int) ≤ 0 by decide) hc)
  refine J.heq (show _ = hV H 47 0 from rfl) ?_
  rw [hV_same H 47 eth]
  refine J.run0 5 rfl ?_
  try dsimp only
  refine J.heq (show _ = hV H 46 0 from rfl) ?_
  have hI1 : rInv (zc 16) (hV H 46 0) := hI.looks hz
  have l1 : (hV H 46 0).1 11 46 0 = 0 := rfl
  generalize hV H 46 0 = H1 at hI1 l1 ⊢
  refine J.inv rfl rfl rfl rfl rfl rfl jDr rfl rfl rfl rfl rfl (j_follows (d := d + 3) hI1 h) ?_
  rintro r w' H2 ⟨rfl, rfl, hI2, l2⟩
  refine J.ifc rfl rfl rfl ⟨by decide, by decide⟩ (fun _ => ?_) (fun hc => absurd rfl hc)
  refine J.run0 2 rfl ?_
  try dsimp only
  try dsimp only
  rw [l2, l1]
  refine J.run0 1 rfl ?_
  try dsimp only
  exact J.reti rfl rfl rfl ⟨_, rfl, rfl, hI2.1.1.2, _, rfl, fun _ => rfl⟩
theorem j_certain {x : Int} {n : Nat} (hn : n < 16) : ∀ (m q : Nat) (H : jH) (lv : jL), q + m = 32 → rInv (zc 16) H → (lv = [(3, .inl (q : Int)), (0, jT), (1, .inl (n : Int)), (2, .inl x)] ∨ lv = [(3, .inl (q : Int)), (4, .inl 2), (0, jT), (1, .inl (n : Int)), (2, .inl x)]) → J true (d + 1) 155 w (2, lv, [], H) (jN fun r w' H' => r = some (.inl 0) ∧ w' = w ∧ rInv (zc 16) H') := by
  intro m
  induction m with
  | zero =>
    intro q H lv hq hI hlv
    obtain rfl : q = 32 := by omega
    rcases hlv with rfl | rfl
    all_goals
      refine J.run0 2 rfl ?_
      try dsimp only
      refine J.icmp rfl rfl rfl ⟨⟨by decide, by decide⟩, by decide, by decide⟩ (fun _ => ?_) (fun hc => absurd (show (32 : Int) ≤ (32 : Nat) by decide) hc)
      refine J.run0 1 rfl ?_
      try dsimp only
      exact J.retb rfl rfl rfl (by decide) ⟨_, rfl, rfl, rfl, hI⟩
  | succ m ih =>
    intro q H lv hq hI hlv
    have hz := zc_inv 16 (Nat.le_refl _)
    have n0 : (0 : Int) ≤ n ∧ (n : Int) < 16 := by omega
    rcases hlv with rfl | rfl
    all_goals
      refine J.run0 2 rfl ?_
      try dsimp only
      refine J.icmp rfl rfl rfl ⟨⟨by omega, by omega⟩, by decide, by decide⟩ (fun hc => absurd (show (32 : Int) ≤ (q : Int) from hc) (by omega)) (fun _ => ?_)
      refine J.run0 1 rfl ?_
      try dsimp only
      refine J.inv rfl rfl rfl rfl rfl rfl jDr rfl rfl rfl rfl rfl j_clear ?_
      rintro r w' H1 ⟨rfl, rfl, g1, rfl, hg1⟩
      have hI1 : rInv (zc 16) (hR H 81 g1) := hI.seen hz g1
      have s1 : ∀ j : Int, 0 ≤ j → j < 16 → (hR H 81 g1).2.2.1 81 0 j = 0 := fun j a b => by
        show jsetR H.2.2.1 81 0 g1 81 0 j = 0
        rw [jsetR_eq]
        exact hg1 j a b
      generalize hR H 81 g1 = H1 at hI1 s1 ⊢
      have em : H1.1 11 19 0 = 2 := by rw [hI1.1.1.1, zM16]; rfl
      have k0 := (hI1.m16 (i := 0) (by decide)).1
      have k1 := (hI1.m16 (i := 1) (by decide)).1
      have hPw := (hI1.n16 hn).2.2.2.1
      refine J.run0 2 rfl ?_
      try dsimp only
      refine J.run0 3 rfl ?_
      try dsimp only
      try dsimp only
      rw [em]
      refine J.icmp rfl rfl rfl ⟨⟨by decide, by decide⟩, by decide, by decide⟩ (fun hc => absurd (show (2 : Int) ≤ 0 from hc) (by decide)) (fun _ => ?_)
      refine J.run 5 rfl ⟨show (0 : Int) ≤ 0 by decide, show (0 : Int) < 6000 by decide⟩ ?_
      try dsimp only
      try dsimp only
      rw [show H1.2.2.1 63 0 0 = ((0 : Nat) : Int) from k0]
      refine J.icmp rfl rfl rfl ⟨⟨by decide, by decide⟩, by decide, by decide⟩ (fun _ => ?_) (fun hc => absurd (show ¬ ((0 : Nat) : Int) = 2 by decide) hc)
      refine J.run0 2 rfl ?_
      try dsimp only
      refine J.run0 3 rfl ?_
      try dsimp only
      try dsimp only
      rw [em]
      refine J.icmp rfl rfl rfl ⟨⟨by decide, by decide⟩, by decide, by decide⟩ (fun hc => absurd (show (2 : Int) ≤ 0 + 1 from hc) (by decide)) (fun _ => ?_)
      refine J.run 5 rfl ⟨show (0 : Int) ≤ 0 + 1 by decide, show (0 + 1 : Int) < 6000 by decide⟩ ?_
      try dsimp only
      try dsimp only
      rw [show H1.2.2.1 63 0 (0 + 1) = ((1 : Nat) : Int) from k1]
      refine J.icmp rfl rfl rfl ⟨⟨by decide, by decide⟩, by decide, by decide⟩ (fun _ => ?_) (fun hc => absurd (show ¬ ((1 : Nat) : Int) = 2 by decide) hc)
      refine J.run0 2 rfl ?_
      try dsimp only
      refine J.run0 3 rfl ?_
      try dsimp only
      try dsimp only
      rw [em]
      refine J.icmp rfl rfl rfl ⟨⟨by decide, by decide⟩, by decide, by decide⟩ (fun _ => ?_) (fun hc => absurd (show (2 : Int) ≤ 0 + 1 + 1 by decide) hc)
      refine J.run0 2 rfl ?_
      try dsimp only
      refine J.inv rfl rfl rfl rfl rfl rfl jDr rfl rfl rfl rfl rfl (j_share n0 hPw.1 hPw.2 (fun j a b => Or.inl (s1 j a b))) ?_
      rintro r w' H2 ⟨rfl, rfl, rfl⟩
      rw [jcnt_0 s1, if_neg (by decide), if_neg (by decide)]
      refine J.run0 1 rfl ?_
      try dsimp only
      refine J.icmp rfl rfl rfl ⟨⟨by decide, by decide⟩, by decide, by decide⟩ (fun _ => ?_) (fun hc => absurd (show ¬ (0 : Int) = 2 by decide) hc)
      refine J.run0 2 rfl ?_
      try dsimp only
      exact ih (q + 1) _ _ (by omega) hI1 (Or.inr rfl)
set_option maxRecDepth 8000 in
theorem j_sync {n x : Int} (hI : rInv (zc 16) H) (bn : jR n) (bm : jR x) : J true (d + 10) 154 w (0, jargs 0 [jT, .inl n, .inl x], [], H) (jN (rOut w (if isY n x then 0 else 1) 1)) := by
  have hz := zc_inv 16 (Nat.le_refl _)
  have eth : H.1 11 47 0 = 0 := hI.1.1.2
  have esz : H.1 11 12 0 = 2 := by rw [hI.2.1.1, zB16]; rfl
  have no : ¬ isY n x → J true (d + 10) 154 w (29, jargs 0 [jT, .inl n, .inl x], [jT], H) (jN (rOut w (if isY n x then 0 else 1) 1)) := by
    intro hno
    rw [if_neg hno]
    refine J.run0 1 rfl ?_
    try dsimp only
    refine J.run0 3 rfl ?_
    try dsimp only
    refine J.ifc rfl rfl rfl ⟨show -2147483648 ≤ (1 : Int) by decide, show (1 : Int) ≤ 2147483647 by decide⟩ (fun hc => absurd (show (1 : Int) ≤ 0 from hc) (by decide)) (fun _ => ?_)
    refine J.run0 1 rfl ?_
    try dsimp only
    exact J.reti rfl rfl rfl ⟨_, rfl, rfl, rfl, _, rfl, fun hk => absurd hk (by decide)⟩
  refine J.run0 4 rfl ?_
  try dsimp only
  refine J.ins rfl rfl rfl rfl rfl rfl rfl rfl rfl (j_in bn ⟨by decide, by decide⟩ ⟨by decide, by decide⟩) ?_
  rintro r w H ⟨rfl, rfl, rfl⟩
  by_cases h1 : 0 ≤ n ∧ n ≤ 15
  rotate_left
  · rw [if_neg h1]
    exact J.ifc rfl rfl rfl ⟨by decide, by decide⟩ (fun _ => no fun z => h1 z.1) (fun hc => absurd rfl hc)
  rw [if_pos h1]
  refine J.ifc rfl rfl rfl ⟨by decide, by decide⟩ (fun hc => absurd hc (show ¬ (1 : Int) = 0 by decide)) (fun _ => ?_)
  refine J.run0 4 rfl ?_
  try dsimp only
  try dsimp only
  rw [esz]
  refine J.run0 2 rfl ?_
  try dsimp only
  refine J.ins rfl rfl rfl rfl rfl rfl rfl rfl rfl (j_in bm ⟨by decide, by decide⟩ ⟨by decide, by decide⟩) ?_
  rintro r w H ⟨rfl, rfl, rfl⟩
  by_cases h2 : 0 ≤ x ∧ x ≤ 1
  rotate_left
  · rw [if_neg (show ¬ (0 ≤ x ∧ x ≤ 2 - 1) by omega)]
    exact J.ifc rfl rfl rfl ⟨by decide, by decide⟩ (fun _ => no fun z => h2 z.2) (fun hc => absurd rfl hc)
  rw [if_pos (show 0 ≤ x ∧ x ≤ 2 - 1 by omega), if_pos (⟨h1, h2⟩ : isY n x)]
  clear no
  refine J.ifc rfl rfl rfl ⟨by decide, by decide⟩ (fun hc => absurd hc (show ¬ (1 : Int) = 0 by decide)) (fun _ => ?_)
  refine J.run0 2 rfl ?_
  try dsimp only
  refine J.run0 3 rfl ?_
  try dsimp only
  refine J.ifc rfl rfl rfl ⟨show -2147483648 ≤ (0 : Int) by decide, show (0 : Int) ≤ 2147483647 by decide⟩ (fun _ => ?_) (fun hc => absurd (show (0 : Int) ≤ 0 by decide) hc)
  refine J.heq (show _ = hV H 47 0 from rfl) ?_
  rw [hV_same H 47 eth]
  obtain ⟨m, rfl⟩ : ∃ m : Nat, n = (m : Int) := ⟨n.toNat, by omega⟩
  have hm : m < 16 := by omega
  have n0 : (0 : Int) ≤ m ∧ (m : Int) < 16 := by omega
  have hN := hI.n16 hm
  have fin : ∀ H1 : jH, rInv (zc 16) H1 → J true (d + 10) 154 w (89, jargs 0 [jT, .inl (m : Int), .inl x], [], H1) (jN (rOut w 0 1)) := by
    intro H1 hI1
    have hh := hI1.height hz hm
    rw [zh16] at hh
    refine J.run0 2 rfl ?_
    try dsimp only
    refine J.inv rfl rfl rfl rfl rfl rfl jDr rfl rfl rfl rfl rfl (j_height n0 hh.1) ?_
    rintro r w H1 ⟨rfl, rfl, rfl⟩
    refine J.reti rfl rfl rfl ⟨_, rfl, rfl, hI1.1.1.2, _, rfl, fun _ => ?_⟩
    rw [hh.2.1]
    rfl
  refine J.run 4 rfl n0 ?_
  try dsimp only
  try dsimp only
  rw [show H.2.2.1 79 0 m = 0 from hN.2.1.1]
  refine J.ifc rfl rfl rfl ⟨by decide, by decide⟩ (fun hc => absurd rfl hc) (fun _ => ?_)
  refine J.run 4 rfl n0 ?_
  try dsimp only
  try dsimp only
  rw [show H.2.2.1 80 0 m = 0 from hN.2.1.2.1]
  refine J.ifc rfl rfl rfl ⟨by decide, by decide⟩ (fun hc => absurd rfl hc) (fun _ => ?_)
  refine J.run0 3 rfl ?_
  try dsimp only
  by_cases hx1 : x = 1
  rotate_left
  · obtain rfl : x = 0 := by omega
    have hB := hI.2.1.2.1
    rw [zB16] at hB
    have hl : H.2.2.1 72 0 m = 0 := by
      rw [hN.1.1, v16_h]
      rfl
    have hg : J true (d + 9) 135 w (0, jargs 0 [jT, .inl (m : Int), .inl 0], [], H) (jN fun r w' H' => r = some (.inl 0) ∧ w' = w ∧ H' = H) := by
      refine J.run 8 rfl ⟨⟨show (0 : Int) ≤ 0 by decide, show (0 : Int) < 300 by decide⟩, n0⟩ ?_
      try dsimp only
      try dsimp only
      rw [(hB.2 0 (by decide) (by decide)).2.1, hl]
      refine J.icmp rfl rfl rfl ⟨⟨by decide, by decide⟩, by decide, by decide⟩ (fun _ => ?_) (fun hc => absurd (show ¬ (0 : Int) - 1 = 0 by decide) hc)
      refine J.run0 1 rfl ?_
      try dsimp only
      exact J.retb rfl rfl rfl (by decide) ⟨_, rfl, rfl, rfl, rfl⟩
    refine J.inv rfl rfl rfl rfl rfl rfl jDr rfl rfl rfl rfl rfl hg ?_
    rintro r w H ⟨rfl, rfl, rfl⟩
    exact J.ifc rfl rfl rfl ⟨by decide, by decide⟩ (fun _ => fin H hI) (fun hc => absurd rfl hc)
  subst hx1
  have hg := j_isGoodZ (d := d + 6) (w := w) hz hI hm (by rw [zh16, zB16]; decide)
  rw [zh16] at hg
  refine J.inv rfl rfl rfl rfl rfl rfl jDr rfl rfl rfl rfl rfl hg ?_
  rintro r w H1 ⟨rfl, rfl, hI1, -⟩
  refine J.ifc rfl rfl rfl ⟨by decide, by decide⟩ (fun hc => absurd hc (show ¬ (1 : Int) = 0 by decide)) (fun _ => ?_)
  refine J.run0 3 rfl ?_
  try dsimp only
  refine J.inv rfl rfl rfl rfl rfl rfl jDr rfl rfl rfl rfl rfl (J.run0 2 rfl (j_certain (d := d + 8) hm 32 0 H1 _ rfl hI1 (Or.inl rfl))) ?_
  rintro r w H2 ⟨rfl, rfl, hI2⟩
  exact J.ifc rfl rfl rfl ⟨by decide, by decide⟩ (fun _ => fin H2 hI2) (fun hc => absurd rfl hc)
end SZ
