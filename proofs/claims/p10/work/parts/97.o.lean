/-! the reference's calls on a new object: submit, forge, block -/
section SX
variable {d : Nat} {w : jW} {H : jH}
set_option maxRecDepth 8000 in
theorem j_submit {kind a x v : Int} (hI : rInv (zc 16) H) (b1 : jR kind) (b2 : jR a) (b3 : jR x) (b4 : jR v) : J true (d + 10) 145 w (0, jargs 0 [jT, .inl kind, .inl a, .inl x, .inl v], [], H) (jN (rOut w (if isT kind a x v then 0 else 1) 0)) := by
  have eth : H.1 11 47 0 = 0 := hI.1.1.2
  have esz : H.1 11 19 0 = 2 := by rw [hI.1.1.1, zM16]; rfl
  have et : H.1 11 4 0 = 0 := hI.2.1.2.2.2.2.2.2.2.1.1
  have bad : ¬ isT kind a x v → J true (d + 10) 145 w (105, jargs 0 [jT, .inl kind, .inl a, .inl x, .inl v], [], H) (jN (rOut w (if isT kind a x v then 0 else 1) 0)) := by
    intro hno
    rw [if_neg hno]
    refine J.run0 2 rfl ?_
    try dsimp only
    refine J.run0 3 rfl ?_
    try dsimp only
    refine J.ifc rfl rfl rfl ⟨by decide, by decide⟩ (fun hc => absurd hc (show ¬ (1 : Int) = 0 by decide)) (fun _ => ?_)
    refine J.run0 2 rfl ?_
    try dsimp only
    refine J.run0 3 rfl ?_
    try dsimp only
    refine J.ifc rfl rfl rfl ⟨show -2147483648 ≤ (1 : Int) by decide, show (1 : Int) ≤ 2147483647 by decide⟩ (fun hc => absurd (show (1 : Int) ≤ 0 from hc) (by decide)) (fun _ => ?_)
    refine J.run0 1 rfl ?_
    try dsimp only
    exact J.reti rfl rfl rfl ⟨_, rfl, rfl, rfl, _, rfl, fun hk => absurd hk (by decide)⟩
  have good : isT kind a x v → J true (d + 10) 145 w (109, jargs 0 [jT, .inl kind, .inl a, .inl x, .inl v], [], H) (jN (rOut w (if isT kind a x v then 0 else 1) 0)) := by
    intro hyes
    rw [if_pos hyes]
    refine J.run0 1 rfl ?_
    try dsimp only
    refine J.run0 3 rfl ?_
    try dsimp only
    refine J.ifc rfl rfl rfl ⟨by decide, by decide⟩ (fun _ => ?_) (fun hc => absurd rfl hc)
    refine J.run0 3 rfl ?_
    try dsimp only
    try dsimp only
    rw [et]
    refine J.icmp rfl rfl rfl ⟨⟨by decide, by decide⟩, by decide, by decide⟩ (fun _ => ?_) (fun hc => absurd (show ¬ (0 : Int) = 1500 by decide) hc)
    refine J.run0 1 rfl ?_
    try dsimp only
    refine J.run0 3 rfl ?_
    try dsimp only
    refine J.ifc rfl rfl rfl ⟨show -2147483648 ≤ (0 : Int) by decide, show (0 : Int) ≤ 2147483647 by decide⟩ (fun _ => ?_) (fun hc => absurd (show (0 : Int) ≤ 0 by decide) hc)
    refine J.heq (show _ = hV H 47 0 from rfl) ?_
    rw [hV_same H 47 eth]
    have hT : 0 ≤ H.1 11 4 0 ∧ H.1 11 4 0 < 1500 := by omega
    refine J.run 34 rfl ⟨hT, hT, hT, hT⟩ ?_
    try dsimp only
    refine J.reti rfl rfl rfl ⟨_, rfl, rfl, eth, _, rfl, fun _ => ?_⟩
    show H.1 11 4 0 + 1 - 1 = 0
    rw [et]
    rfl
  refine J.run0 3 rfl ?_
  try dsimp only
  refine J.ins rfl rfl rfl rfl rfl rfl rfl rfl rfl (j_in b1 ⟨by decide, by decide⟩ ⟨by decide, by decide⟩) ?_
  rintro r w H ⟨rfl, rfl, rfl⟩
  by_cases hk : 0 ≤ kind ∧ kind ≤ 4
  rotate_left
  · rw [if_neg hk]
    exact J.ifc rfl rfl rfl ⟨by decide, by decide⟩ (fun _ => bad fun z => hk z.1) (fun hc => absurd rfl hc)
  rw [if_pos hk]
  refine J.ifc rfl rfl rfl ⟨by decide, by decide⟩ (fun hc => absurd hc (show ¬ (1 : Int) = 0 by decide)) (fun _ => ?_)
  refine J.run0 3 rfl ?_
  try dsimp only
  refine J.ins rfl rfl rfl rfl rfl rfl rfl rfl rfl (j_in b2 ⟨by decide, by decide⟩ ⟨by decide, by decide⟩) ?_
  rintro r w H ⟨rfl, rfl, rfl⟩
  by_cases ha : 0 ≤ a ∧ a ≤ 199
  rotate_left
  · rw [if_neg ha]
    exact J.ifc rfl rfl rfl ⟨by decide, by decide⟩ (fun _ => bad fun z => ha z.2.1) (fun hc => absurd rfl hc)
  rw [if_pos ha]
  refine J.ifc rfl rfl rfl ⟨by decide, by decide⟩ (fun hc => absurd hc (show ¬ (1 : Int) = 0 by decide)) (fun _ => ?_)
  -- the last part: PROVE
  have s71 : (kind = 0 → 0 ≤ x ∧ x ≤ 199) → (kind ≠ 0 → kind ≠ 4 → 0 ≤ x ∧ x ≤ 15) → (kind < 3 → 1 ≤ v ∧ v ≤ 1000000) → J true (d + 10) 145 w (71, jargs 0 [jT, .inl kind, .inl a, .inl x, .inl v], [], H) (jN (rOut w (if isT kind a x v then 0 else 1) 0)) := by
    intro q1 q2 q3
    refine J.run0 2 rfl ?_
    try dsimp only
    refine J.icmp rfl rfl rfl ⟨b1, by decide, by decide⟩ (fun hc => good ?_) (fun hc => ?_)
    · have hc' : ¬ kind = 4 := hc
      exact ⟨hk, ha, fun z => absurd z hc', q1, q2, q3⟩
    have k4 : kind = 4 := Classical.not_not.mp hc
    refine J.run0 4 rfl ?_
    try dsimp only
    try dsimp only
    rw [esz]
    refine J.run0 2 rfl ?_
    try dsimp only
    refine J.ins rfl rfl rfl rfl rfl rfl rfl rfl rfl (j_in b3 ⟨by decide, by decide⟩ ⟨by decide, by decide⟩) ?_
    rintro r w H ⟨rfl, rfl, rfl⟩
    by_cases h1 : 0 ≤ x ∧ x ≤ 1
    rotate_left
    · rw [if_neg (show ¬ (0 ≤ x ∧ x ≤ 2 - 1) by omega)]
      exact J.ifc rfl rfl rfl ⟨by decide, by decide⟩ (fun _ => bad fun z => h1 (z.2.2.1 k4).1) (fun hc => absurd rfl hc)
    rw [if_pos (show 0 ≤ x ∧ x ≤ 2 - 1 by omega)]
    refine J.ifc rfl rfl rfl ⟨by decide, by decide⟩ (fun hc => absurd hc (show ¬ (1 : Int) = 0 by decide)) (fun _ => ?_)
    refine J.run0 4 rfl ?_
    try dsimp only
    try dsimp only
    rw [esz]
    refine J.run0 2 rfl ?_
    try dsimp only
    refine J.ins rfl rfl rfl rfl rfl rfl rfl rfl rfl (j_in b4 ⟨by decide, by decide⟩ ⟨by decide, by decide⟩) ?_
    rintro r w H ⟨rfl, rfl, rfl⟩
    by_cases h2 : 0 ≤ v ∧ v ≤ 1
    · rw [if_pos (show 0 ≤ v ∧ v ≤ 2 - 1 by omega)]
      exact J.ifc rfl rfl rfl ⟨by decide, by decide⟩ (fun _ => good ⟨hk, ha, fun _ => ⟨h1, h2⟩, q1, q2, q3⟩) (fun hc => absurd (show ¬ (1 : Int) = 0 by decide) hc)
    · rw [if_neg (show ¬ (0 ≤ v ∧ v ≤ 2 - 1) by omega)]
      exact J.ifc rfl rfl rfl ⟨by decide, by decide⟩ (fun hc => absurd rfl hc) (fun _ => bad fun z => h2 (z.2.2.1 k4).2)
  have s54 : (kind = 0 → 0 ≤ x ∧ x ≤ 199) → (kind ≠ 0 → kind ≠ 4 → 0 ≤ x ∧ x ≤ 15) → J true (d + 10) 145 w (54, jargs 0 [jT, .inl kind, .inl a, .inl x, .inl v], [], H) (jN (rOut w (if isT kind a x v then 0 else 1) 0)) := by
    intro q1 q2
    refine J.run0 2 rfl ?_
    try dsimp only
    refine J.icmp rfl rfl rfl ⟨b1, by decide, by decide⟩ (fun hc => s71 q1 q2 fun z => ?_) (fun hc => ?_)
    · have : 3 ≤ kind := hc
      omega
    have hc' : ¬ 3 ≤ kind := hc
    refine J.run0 3 rfl ?_
    try dsimp only
    refine J.ins rfl rfl rfl rfl rfl rfl rfl rfl rfl (j_in b4 ⟨by decide, by decide⟩ ⟨by decide, by decide⟩) ?_
    rintro r w H ⟨rfl, rfl, rfl⟩
    by_cases h2 : 1 ≤ v ∧ v ≤ 1000000
    · rw [if_pos h2]
      exact J.ifc rfl rfl rfl ⟨by decide, by decide⟩ (fun hc => absurd hc (show ¬ (1 : Int) = 0 by decide)) (fun _ => s71 q1 q2 fun _ => h2)
    · rw [if_neg h2]
      exact J.ifc rfl rfl rfl ⟨by decide, by decide⟩ (fun _ => bad fun z => h2 (z.2.2.2.2.2 (by omega))) (fun hc => absurd rfl hc)
  have s35 : (kind = 0 → 0 ≤ x ∧ x ≤ 199) → J true (d + 10) 145 w (35, jargs 0 [jT, .inl kind, .inl a, .inl x, .inl v], [], H) (jN (rOut w (if isT kind a x v then 0 else 1) 0)) := by
    intro q1
    refine J.run0 1 rfl ?_
    try dsimp only
    refine J.ifc rfl rfl rfl b1 (fun hc => s54 q1 fun z _ => ?_) (fun hc => ?_)
    · have : kind ≤ 0 := hc
      omega
    have c0 : ¬ kind ≤ 0 := hc
    refine J.run0 2 rfl ?_
    try dsimp only
    refine J.icmp rfl rfl rfl ⟨b1, by decide, by decide⟩ (fun hc => s54 q1 fun _ z => ?_) (fun hc => ?_)
    · have : 4 ≤ kind := hc
      omega
    have c1 : ¬ 4 ≤ kind := hc
    refine J.run0 3 rfl ?_
    try dsimp only
    refine J.ins rfl rfl rfl rfl rfl rfl rfl rfl rfl (j_in b3 ⟨by decide, by decide⟩ ⟨by decide, by decide⟩) ?_
    rintro r w H ⟨rfl, rfl, rfl⟩
    by_cases h2 : 0 ≤ x ∧ x ≤ 15
    · rw [if_pos h2]
      exact J.ifc rfl rfl rfl ⟨by decide, by decide⟩ (fun hc => absurd hc (show ¬ (1 : Int) = 0 by decide)) (fun _ => s54 q1 fun _ _ => h2)
    · rw [if_neg h2]
      exact J.ifc rfl rfl rfl ⟨by decide, by decide⟩ (fun _ => bad fun z => h2 (z.2.2.2.2.1 (by omega) (by omega))) (fun hc => absurd rfl hc)
  refine J.run0 1 rfl ?_
  try dsimp only
  refine J.ifc rfl rfl rfl b1 (fun hc => s35 fun z => absurd z hc) (fun hc => ?_)
  have k0 : kind = 0 := Classical.not_not.mp hc
  refine J.run0 3 rfl ?_
  try dsimp only
  refine J.ins rfl rfl rfl rfl rfl rfl rfl rfl rfl (j_in b3 ⟨by decide, by decide⟩ ⟨by decide, by decide⟩) ?_
  rintro r w H ⟨rfl, rfl, rfl⟩
  by_cases h2 : 0 ≤ x ∧ x ≤ 199
  · rw [if_pos h2]
    exact J.ifc rfl rfl rfl ⟨by decide, by decide⟩ (fun hc => absurd hc (show ¬ (1 : Int) = 0 by decide)) (fun _ => s35 fun _ => h2)
  · rw [if_neg h2]
    exact J.ifc rfl rfl rfl ⟨by decide, by decide⟩ (fun _ => bad fun z => h2 (z.2.2.2.1 k0)) (fun hc => absurd rfl hc)
set_option maxRecDepth 8000 in
theorem j_forge {n kind height round block before : Int} (hI : rInv (zc 16) H) (bn : jR n) (b1 : jR kind) (b2 : jR height) (b3 : jR round) (b4 : jR block) (b5 : jR before) : J true (d + 10) 152 w (0, jargs 0 [jT, .inl n, .inl kind, .inl height, .inl round, .inl block, .inl before], [], H) (jN (rOut w (if isF kind height round block before then 2 else 1) 0)) := by
  have esz : H.1 11 12 0 = 2 := by rw [hI.2.1.1, zB16]; rfl
  have bad : ¬ isF kind height round block before → J true (d + 10) 152 w (64, jargs 0 [jT, .inl n, .inl kind, .inl height, .inl round, .inl block, .inl before], [], H) (jN (rOut w (if isF kind height round block before then 2 else 1) 0)) := by
    intro hno
    rw [if_neg hno]
    refine J.run0 2 rfl ?_
    try dsimp only
    refine J.run0 3 rfl ?_
    try dsimp only
    refine J.ifc rfl rfl rfl ⟨by decide, by decide⟩ (fun hc => absurd hc (show ¬ (1 : Int) = 0 by decide)) (fun _ => ?_)
    refine J.run0 2 rfl ?_
    try dsimp only
    refine J.run0 3 rfl ?_
    try dsimp only
    refine J.ifc rfl rfl rfl ⟨show -2147483648 ≤ (1 : Int) by decide, show (1 : Int) ≤ 2147483647 by decide⟩ (fun hc => absurd (show (1 : Int) ≤ 0 from hc) (by decide)) (fun _ => ?_)
    refine J.run0 2 rfl ?_
    try dsimp only
    exact J.reti rfl rfl rfl ⟨_, rfl, rfl, rfl, _, rfl, fun hk => absurd hk (by decide)⟩
  have good : isF kind height round block before → J true (d + 10) 152 w (68, jargs 0 [jT, .inl n, .inl kind, .inl height, .inl round, .inl block, .inl before], [], H) (jN (rOut w (if isF kind height round block before then 2 else 1) 0)) := by
    intro hyes
    rw [if_pos hyes]
    refine J.run0 1 rfl ?_
    try dsimp only
    refine J.run0 3 rfl ?_
    try dsimp only
    refine J.ifc rfl rfl rfl ⟨by decide, by decide⟩ (fun _ => ?_) (fun hc => absurd rfl hc)
    have two : J true (d + 10) 152 w (110, (7, .inl 0) :: jargs 0 [jT, .inl n, .inl kind, .inl height, .inl round, .inl block, .inl before], [jT], H) (jN (rOut w 2 0)) := by
      refine J.run0 2 rfl ?_
      try dsimp only
      refine J.run0 3 rfl ?_
      try dsimp only
      refine J.ifc rfl rfl rfl ⟨show -2147483648 ≤ (2 : Int) by decide, show (2 : Int) ≤ 2147483647 by decide⟩ (fun hc => absurd (show (2 : Int) ≤ 0 from hc) (by decide)) (fun _ => ?_)
      refine J.run0 2 rfl ?_
      try dsimp only
      exact J.reti rfl rfl rfl ⟨_, rfl, rfl, rfl, _, rfl, fun hk => absurd hk (by decide)⟩
    refine J.run0 3 rfl ?_
    try dsimp only
    refine J.ins rfl rfl rfl rfl rfl rfl rfl rfl rfl (j_in bn ⟨by decide, by decide⟩ ⟨by decide, by decide⟩) ?_
    rintro r w H ⟨rfl, rfl, rfl⟩
    by_cases hn : 0 ≤ n ∧ n ≤ 15
    rotate_left
    · rw [if_neg hn]
      exact J.ifc rfl rfl rfl ⟨by decide, by decide⟩ (fun _ => two) (fun hc => absurd rfl hc)
    rw [if_pos hn]
    refine J.ifc rfl rfl rfl ⟨by decide, by decide⟩ (fun hc => absurd hc (show ¬ (1 : Int) = 0 by decide)) (fun _ => ?_)
    obtain ⟨m, rfl⟩ : ∃ m : Nat, n = (m : Int) := ⟨n.toNat, by omega⟩
    have hN := hI.n16 (n := m) (by omega)
    refine J.run 4 rfl ⟨hn.1, show (m : Int) < 16 by omega⟩ ?_
    try dsimp only
    try dsimp only
    rw [show H.2.2.1 79 0 m = 0 from hN.2.1.1]
    exact J.ifc rfl rfl rfl ⟨by decide, by decide⟩ (fun _ => two) (fun hc => absurd rfl hc)
  refine J.run0 3 rfl ?_
  try dsimp only
  refine J.ins rfl rfl rfl rfl rfl rfl rfl rfl rfl (j_in b1 ⟨by decide, by decide⟩ ⟨by decide, by decide⟩) ?_
  rintro r w H ⟨rfl, rfl, rfl⟩
  by_cases h1 : 0 ≤ kind ∧ kind ≤ 2
  rotate_left
  · rw [if_neg h1]
    exact J.ifc rfl rfl rfl ⟨by decide, by decide⟩ (fun _ => bad fun z => h1 z.1) (fun hc => absurd rfl hc)
  rw [if_pos h1]
  refine J.ifc rfl rfl rfl ⟨by decide, by decide⟩ (fun hc => absurd hc (show ¬ (1 : Int) = 0 by decide)) (fun _ => ?_)
  refine J.run0 3 rfl ?_
  try dsimp only
  refine J.ins rfl rfl rfl rfl rfl rfl rfl rfl rfl (j_in b2 ⟨by decide, by decide⟩ ⟨by decide, by decide⟩) ?_
  rintro r w H ⟨rfl, rfl, rfl⟩
  by_cases h2 : 1 ≤ height ∧ height ≤ 120
  rotate_left
  · rw [if_neg h2]
    exact J.ifc rfl rfl rfl ⟨by decide, by decide⟩ (fun _ => bad fun z => h2 z.2.1) (fun hc => absurd rfl hc)
  rw [if_pos h2]
  refine J.ifc rfl rfl rfl ⟨by decide, by decide⟩ (fun hc => absurd hc (show ¬ (1 : Int) = 0 by decide)) (fun _ => ?_)
  refine J.run0 3 rfl ?_
  try dsimp only
  refine J.ins rfl rfl rfl rfl rfl rfl rfl rfl rfl (j_in b3 ⟨by decide, by decide⟩ ⟨by decide, by decide⟩) ?_
  rintro r w H ⟨rfl, rfl, rfl⟩
  by_cases h3 : 0 ≤ round ∧ round ≤ 31
  rotate_left
  · rw [if_neg h3]
    exact J.ifc rfl rfl rfl ⟨by decide, by decide⟩ (fun _ => bad fun z => h3 z.2.2.1) (fun hc => absurd rfl hc)
  rw [if_pos h3]
  refine J.ifc rfl rfl rfl ⟨by decide, by decide⟩ (fun hc => absurd hc (show ¬ (1 : Int) = 0 by decide)) (fun _ => ?_)
  refine J.run0 4 rfl ?_
  try dsimp only
  try dsimp only
  rw [esz]
  refine J.run0 2 rfl ?_
  try dsimp only
  refine J.ins rfl rfl rfl rfl rfl rfl rfl rfl rfl (j_in b4 ⟨by decide, by decide⟩ ⟨by decide, by decide⟩) ?_
  rintro r w H ⟨rfl, rfl, rfl⟩
  by_cases h4 : -1 ≤ block ∧ block ≤ 1
  rotate_left
  · rw [if_neg (show ¬ (-1 ≤ block ∧ block ≤ 2 - 1) by omega)]
    exact J.ifc rfl rfl rfl ⟨by decide, by decide⟩ (fun _ => bad fun z => h4 z.2.2.2.1) (fun hc => absurd rfl hc)
  rw [if_pos (show -1 ≤ block ∧ block ≤ 2 - 1 by omega)]
  refine J.ifc rfl rfl rfl ⟨by decide, by decide⟩ (fun hc => absurd hc (show ¬ (1 : Int) = 0 by decide)) (fun _ => ?_)
  refine J.run0 3 rfl ?_
  try dsimp only
  have last : ∀ t : Int, jR t → t = (if kind = 0 then 31 else -1) → J true (d + 10) 152 w (58, jargs 0 [jT, .inl n, .inl kind, .inl height, .inl round, .inl block, .inl before], [.inl t, .inl (-1), .inl before], H) (jN (rOut w (if isF kind height round block before then 2 else 1) 0)) := by
    intro t ht et
    refine J.ins rfl rfl rfl rfl rfl rfl rfl rfl rfl (j_in b5 ⟨by decide, by decide⟩ ht) ?_
    rintro r w H ⟨rfl, rfl, rfl⟩
    by_cases h5 : -1 ≤ before ∧ before ≤ t
    · rw [if_pos h5]
      exact J.ifc rfl rfl rfl ⟨by decide, by decide⟩ (fun _ => good ⟨h1, h2, h3, h4, h5.1, by rw [← et]; exact h5.2⟩) (fun hc => absurd (show ¬ (1 : Int) = 0 by decide) hc)
    · rw [if_neg h5]
      exact J.ifc rfl rfl rfl ⟨by decide, by decide⟩ (fun hc => absurd rfl hc) (fun _ => bad fun z => h5 ⟨z.2.2.2.2.1, by rw [et]; exact z.2.2.2.2.2⟩)
  refine J.ifc rfl rfl rfl b1 (fun hc => ?_) (fun hc => ?_)
  · have hc' : ¬ kind = 0 := hc
    refine J.run0 1 rfl ?_
    try dsimp only
    exact last (-1) ⟨by decide, by decide⟩ (by rw [if_neg hc'])
  · have hc' : kind = 0 := Classical.not_not.mp hc
    refine J.run0 2 rfl ?_
    try dsimp only
    exact last 31 ⟨by decide, by decide⟩ (by rw [if_pos hc'])
set_option maxRecDepth 8000 in
theorem j_block {n parent one two claim : Int} (hI : rInv (zc 16) H) (bn : jR n) (b1 : jR parent) (b2 : jR one) (b3 : jR two) (b4 : jR claim) : J true (d + 10) 153 w (0, jargs 0 [jT, .inl n, .inl parent, .inl one, .inl two, .inl claim], [], H) (jN (rOut w (if isB parent one two claim then 2 else 1) 0)) := by
  have esz : H.1 11 12 0 = 2 := by rw [hI.2.1.1, zB16]; rfl
  have et : H.1 11 4 0 = 0 := hI.2.1.2.2.2.2.2.2.2.1.1
  have bad : ¬ isB parent one two claim → J true (d + 10) 153 w (55, jargs 0 [jT, .inl n, .inl parent, .inl one, .inl two, .inl claim], [], H) (jN (rOut w (if isB parent one two claim then 2 else 1) 0)) := by
    intro hno
    rw [if_neg hno]
    refine J.run0 2 rfl ?_
    try dsimp only
    refine J.run0 3 rfl ?_
    try dsimp only
    refine J.ifc rfl rfl rfl ⟨by decide, by decide⟩ (fun hc => absurd hc (show ¬ (1 : Int) = 0 by decide)) (fun _ => ?_)
    refine J.run0 2 rfl ?_
    try dsimp only
    refine J.run0 3 rfl ?_
    try dsimp only
    refine J.ifc rfl rfl rfl ⟨show -2147483648 ≤ (1 : Int) by decide, show (1 : Int) ≤ 2147483647 by decide⟩ (fun hc => absurd (show (1 : Int) ≤ 0 from hc) (by decide)) (fun _ => ?_)
    refine J.run0 1 rfl ?_
    try dsimp only
    exact J.reti rfl rfl rfl ⟨_, rfl, rfl, rfl, _, rfl, fun hk => absurd hk (by decide)⟩
  have good : isB parent one two claim → J true (d + 10) 153 w (59, jargs 0 [jT, .inl n, .inl parent, .inl one, .inl two, .inl claim], [], H) (jN (rOut w (if isB parent one two claim then 2 else 1) 0)) := by
    intro hyes
    rw [if_pos hyes]
    refine J.run0 1 rfl ?_
    try dsimp only
    refine J.run0 3 rfl ?_
    try dsimp only
    refine J.ifc rfl rfl rfl ⟨by decide, by decide⟩ (fun _ => ?_) (fun hc => absurd rfl hc)
    have last : J true (d + 10) 153 w (101, (6, .inl 0) :: jargs 0 [jT, .inl n, .inl parent, .inl one, .inl two, .inl claim], [jT], H) (jN (rOut w 2 0)) := by
      refine J.run0 2 rfl ?_
      try dsimp only
      refine J.run0 3 rfl ?_
      try dsimp only
      refine J.ifc rfl rfl rfl ⟨show -2147483648 ≤ (2 : Int) by decide, show (2 : Int) ≤ 2147483647 by decide⟩ (fun hc => absurd (show (2 : Int) ≤ 0 from hc) (by decide)) (fun _ => ?_)
      refine J.run0 1 rfl ?_
      try dsimp only
      exact J.reti rfl rfl rfl ⟨_, rfl, rfl, rfl, _, rfl, fun hk => absurd hk (by decide)⟩
    refine J.run0 3 rfl ?_
    try dsimp only
    refine J.ins rfl rfl rfl rfl rfl rfl rfl rfl rfl (j_in bn ⟨by decide, by decide⟩ ⟨by decide, by decide⟩) ?_
    rintro r w H ⟨rfl, rfl, rfl⟩
    by_cases hn : 0 ≤ n ∧ n ≤ 15
    rotate_left
    · rw [if_neg hn]
      exact J.ifc rfl rfl rfl ⟨by decide, by decide⟩ (fun _ => last) (fun hc => absurd rfl hc)
    rw [if_pos hn]
    refine J.ifc rfl rfl rfl ⟨by decide, by decide⟩ (fun hc => absurd hc (show ¬ (1 : Int) = 0 by decide)) (fun _ => ?_)
    obtain ⟨m, rfl⟩ : ∃ m : Nat, n = (m : Int) := ⟨n.toNat, by omega⟩
    have hN := hI.n16 (n := m) (by omega)
    refine J.run 4 rfl ⟨hn.1, show (m : Int) < 16 by omega⟩ ?_
    try dsimp only
    try dsimp only
    rw [show H.2.2.1 79 0 m = 0 from hN.2.1.1]
    exact J.ifc rfl rfl rfl ⟨by decide, by decide⟩ (fun _ => last) (fun hc => absurd rfl hc)
  refine J.run0 4 rfl ?_
  try dsimp only
  try dsimp only
  rw [esz]
  refine J.run0 2 rfl ?_
  try dsimp only
  refine J.ins rfl rfl rfl rfl rfl rfl rfl rfl rfl (j_in b1 ⟨by decide, by decide⟩ ⟨by decide, by decide⟩) ?_
  rintro r w H ⟨rfl, rfl, rfl⟩
  by_cases h1 : 0 ≤ parent ∧ parent ≤ 1
  rotate_left
  · rw [if_neg (show ¬ (0 ≤ parent ∧ parent ≤ 2 - 1) by omega)]
    exact J.ifc rfl rfl rfl ⟨by decide, by decide⟩ (fun _ => bad fun z => h1 z.1) (fun hc => absurd rfl hc)
  rw [if_pos (show 0 ≤ parent ∧ parent ≤ 2 - 1 by omega)]
  refine J.ifc rfl rfl rfl ⟨by decide, by decide⟩ (fun hc => absurd hc (show ¬ (1 : Int) = 0 by decide)) (fun _ => ?_)
  refine J.run0 4 rfl ?_
  try dsimp only
  try dsimp only
  rw [et]
  refine J.run0 2 rfl ?_
  try dsimp only
  refine J.ins rfl rfl rfl rfl rfl rfl rfl rfl rfl (j_in b2 ⟨by decide, by decide⟩ ⟨by decide, by decide⟩) ?_
  rintro r w H ⟨rfl, rfl, rfl⟩
  by_cases h2 : one = -1
  rotate_left
  · rw [if_neg (show ¬ (-1 ≤ one ∧ one ≤ 0 - 1) by omega)]
    exact J.ifc rfl rfl rfl ⟨by decide, by decide⟩ (fun _ => bad fun z => h2 z.2.1) (fun hc => absurd rfl hc)
  rw [if_pos (show -1 ≤ one ∧ one ≤ 0 - 1 by omega)]
  refine J.ifc rfl rfl rfl ⟨by decide, by decide⟩ (fun hc => absurd hc (show ¬ (1 : Int) = 0 by decide)) (fun _ => ?_)
  refine J.run0 4 rfl ?_
  try dsimp only
  try dsimp only
  rw [et]
  refine J.run0 2 rfl ?_
  try dsimp only
  refine J.ins rfl rfl rfl rfl rfl rfl rfl rfl rfl (j_in b3 ⟨by decide, by decide⟩ ⟨by decide, by decide⟩) ?_
  rintro r w H ⟨rfl, rfl, rfl⟩
  by_cases h3 : two = -1
  rotate_left
  · rw [if_neg (show ¬ (-1 ≤ two ∧ two ≤ 0 - 1) by omega)]
    exact J.ifc rfl rfl rfl ⟨by decide, by decide⟩ (fun _ => bad fun z => h3 z.2.2.1) (fun hc => absurd rfl hc)
  rw [if_pos (show -1 ≤ two ∧ two ≤ 0 - 1 by omega)]
  refine J.ifc rfl rfl rfl ⟨by decide, by decide⟩ (fun hc => absurd hc (show ¬ (1 : Int) = 0 by decide)) (fun _ => ?_)
  refine J.run0 3 rfl ?_
  try dsimp only
  refine J.ins rfl rfl rfl rfl rfl rfl rfl rfl rfl (j_in b4 ⟨by decide, by decide⟩ ⟨by decide, by decide⟩) ?_
  rintro r w H ⟨rfl, rfl, rfl⟩
  by_cases h4 : -1 ≤ claim ∧ claim ≤ 65535
  · rw [if_pos h4]
    exact J.ifc rfl rfl rfl ⟨by decide, by decide⟩ (fun _ => good ⟨h1, h2, h3, h4⟩) (fun hc => absurd (show ¬ (1 : Int) = 0 by decide) hc)
  · rw [if_neg h4]
    exact J.ifc rfl rfl rfl ⟨by decide, by decide⟩ (fun hc => absurd rfl hc) (fun _ => bad fun z => h4 z.2.2.2)
end SX
