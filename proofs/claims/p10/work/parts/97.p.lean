/-! the reference's calls on a new object: count -/
section SY
variable {d : Nat} {w : jW} {H : jH}
theorem j_above0 : J true d 123 w (0, jargs 0 [jT, .inl 0, .inl 0], [], H) (jN fun r w' H' => r = some (.inl 1) ∧ w' = w ∧ H' = H) := by
  refine J.run0 2 rfl ?_
  try dsimp only
  refine J.run0 1 rfl ?_
  try dsimp only
  refine J.ifc rfl rfl rfl ⟨by decide, by decide⟩ (fun hc => absurd (show (0 : Int) < 0 from hc) (by decide)) (fun _ => ?_)
  refine J.run0 2 rfl ?_
  try dsimp only
  refine J.icmp rfl rfl rfl ⟨⟨by decide, by decide⟩, by decide, by decide⟩ (fun _ => ?_) (fun hc => absurd rfl hc)
  refine J.run0 1 rfl ?_
  try dsimp only
  refine J.ifc rfl rfl rfl ⟨by decide, by decide⟩ (fun hc => absurd (show (0 : Int) < 0 from hc) (by decide)) (fun _ => ?_)
  refine J.run0 2 rfl ?_
  try dsimp only
  exact J.retb rfl rfl rfl (by decide) ⟨_, rfl, rfl, rfl, rfl⟩
theorem j_pairs_in {n : Nat} {what : Int} {Post : jO → jW → jH → Prop} (hf : ∀ j : Nat, j < 16 → H.2.2.1 79 0 j = 0) (hl : ∀ j : Nat, j < 16 → H.2.2.1 72 0 j = 0) (hn : n < 16) (hnext : J true (d + 1) 169 w (257, [(6, .inl (n : Int)), (5, .inl (n : Int)), (4, .inl 0), (3, .inl 0), (2, .inl 0), (0, jT), (1, .inl what)], [], H) Post) : ∀ (m k : Nat), k + m = n → J true (d + 1) 169 w (189, [(6, .inl (k : Int)), (5, .inl (n : Int)), (4, .inl 0), (3, .inl 0), (2, .inl 0), (0, jT), (1, .inl what)], [], H) Post := by
  intro m
  induction m with
  | zero =>
    intro k hk
    obtain rfl : k = n := by omega
    refine J.run0 2 rfl ?_
    try dsimp only
    exact J.icmp rfl rfl rfl ⟨⟨by omega, by omega⟩, by omega, by omega⟩ (fun _ => hnext) (fun hc => absurd (show (k : Int) ≤ k by omega) hc)
  | succ m ih =>
    intro k hk
    have k0 : (0 : Int) ≤ k ∧ (k : Int) < 16 := by omega
    have n0 : (0 : Int) ≤ n ∧ (n : Int) < 16 := by omega
    refine J.run0 2 rfl ?_
    try dsimp only
    refine J.icmp rfl rfl rfl ⟨⟨by omega, by omega⟩, by omega, by omega⟩ (fun hc => absurd (show (n : Int) ≤ (k : Int) from hc) (by omega)) (fun _ => ?_)
    refine J.run 4 rfl k0 ?_
    try dsimp only
    try dsimp only
    rw [hf k (by omega)]
    refine J.ifc rfl rfl rfl ⟨by decide, by decide⟩ (fun hc => absurd rfl hc) (fun _ => ?_)
    refine J.run 9 rfl ⟨k0, n0⟩ ?_
    try dsimp only
    try dsimp only
    rw [hl k (by omega), hl n hn]
    refine J.inv rfl rfl rfl rfl rfl rfl jDr rfl rfl rfl rfl rfl j_above0 ?_
    rintro r w H ⟨rfl, rfl, rfl⟩
    refine J.ifc rfl rfl rfl ⟨by decide, by decide⟩ (fun _ => ?_) (fun hc => absurd (show ¬ (1 : Int) = 0 by decide) hc)
    refine J.run0 2 rfl ?_
    try dsimp only
    exact ih (k + 1) (by omega)
theorem j_pairs {what : Int} {Post : jO → jW → jH → Prop} (hf : ∀ j : Nat, j < 16 → H.2.2.1 79 0 j = 0) (hl : ∀ j : Nat, j < 16 → H.2.2.1 72 0 j = 0) (hh : H.2.2.1 56 0 0 = 0) (ht : H.1 11 45 0 = 0) (hnext : ∀ lv : jL, (∃ x, lv = [(5, .inl 16), (6, .inl x), (4, .inl 0), (3, .inl 0), (2, .inl 0), (0, jT), (1, .inl what)]) → J true (d + 1) 169 w (263, lv, [], H) Post) : ∀ (m n : Nat) (lv : jL), n + m = 16 → ((lv = [(5, .inl (n : Int)), (4, .inl 0), (3, .inl 0), (2, .inl 0), (0, jT), (1, .inl what)] ∧ n = 0) ∨ ∃ x, lv = [(5, .inl (n : Int)), (6, .inl x), (4, .inl 0), (3, .inl 0), (2, .inl 0), (0, jT), (1, .inl what)]) → J true (d + 1) 169 w (98, lv, [], H) Post := by
  intro m
  induction m with
  | zero =>
    intro n lv hn hlv
    obtain rfl : n = 16 := by omega
    rcases hlv with ⟨-, h⟩ | ⟨x, rfl⟩
    · omega
    refine J.run0 2 rfl ?_
    try dsimp only
    exact J.icmp rfl rfl rfl ⟨⟨by decide, by decide⟩, by decide, by decide⟩ (fun _ => hnext _ ⟨x, rfl⟩) (fun hc => absurd (show (16 : Int) ≤ (16 : Nat) by decide) hc)
  | succ m ih =>
    intro n lv hn hlv
    have hn16 : n < 16 := by omega
    have n0 : (0 : Int) ≤ n ∧ (n : Int) < 16 := by omega
    have z3 : (0 : Int) ≤ 0 ∧ (0 : Int) < 300 := by decide
    have l3 : 0 ≤ H.2.2.1 72 0 n ∧ H.2.2.1 72 0 n < 300 := by rw [hl n hn16]; exact z3
    rcases hlv with ⟨rfl, -⟩ | ⟨x, rfl⟩
    all_goals
      refine J.run0 2 rfl ?_
      try dsimp only
      refine J.icmp rfl rfl rfl ⟨⟨by omega, by omega⟩, by decide, by decide⟩ (fun hc => absurd (show (16 : Int) ≤ (n : Int) from hc) (by omega)) (fun _ => ?_)
      refine J.run 4 rfl n0 ?_
      try dsimp only
      try dsimp only
      rw [hf n hn16]
      refine J.ifc rfl rfl rfl ⟨by decide, by decide⟩ (fun _ => ?_) (fun hc => absurd rfl hc)
      refine J.run 7 rfl n0 ?_
      try dsimp only
      try dsimp only
      rw [ht, hl n hn16]
      refine J.inv rfl rfl rfl rfl rfl rfl jDr rfl rfl rfl rfl rfl j_above0 ?_
      rintro r w H ⟨rfl, rfl, rfl⟩
      refine J.ifc rfl rfl rfl ⟨by decide, by decide⟩ (fun _ => ?_) (fun hc => absurd (show ¬ (1 : Int) = 0 by decide) hc)
      refine J.run 6 rfl n0 ?_
      try dsimp only
      try dsimp only
      rw [hl n hn16]
      refine J.run 2 rfl z3 ?_
      try dsimp only
      try dsimp only
      rw [hh]
      refine J.icmp rfl rfl rfl ⟨⟨by decide, by decide⟩, by decide, by decide⟩ (fun _ => ?_) (fun hc => absurd (show (0 : Int) ≤ 0 by decide) hc)
      refine J.run0 2 rfl ?_
      try dsimp only
      refine j_pairs_in hf hl hn16 ?_ n 0 (by omega)
      refine J.run0 2 rfl ?_
      try dsimp only
      exact ih (n + 1) _ (by omega) (Or.inr ⟨_, rfl⟩)
/-- what doubles looks at -/
def dH (H : jH) : Prop := H.1 11 19 0 = 2 ∧ H.1 11 47 0 = 0 ∧ (∀ j : Nat, j < 16 → H.2.2.1 79 0 j = 0) ∧ H.2.2.1 64 0 0 = 1 ∧ H.2.2.1 64 0 1 = 1 ∧ H.2.2.1 63 0 0 = 0 ∧ H.2.2.1 63 0 1 = 1
abbrev dT (f : Bool) : jL := match f with
  | true => [(1, .inl 0), (0, jT)]
  | false => [(5, .inl 1), (1, .inl 0), (0, jT)]
theorem j_dbl_ne {n : Nat} {Post : jO → jW → jH → Prop} (f : Bool) (hD : dH H) (hn : n < 16) (h1 : n ≠ 1) (hnext : J true d 158 w (172, (4, .inl 2) :: (3, .inl 0) :: (2, .inl (n : Int)) :: dT f, [], H) Post) : J true d 158 w (15, (4, .inl 0) :: (3, .inl 0) :: (2, .inl (n : Int)) :: dT f, [], H) Post := by
  obtain ⟨e1, e2, e3, e4, e5, e6, e7⟩ := hD
  have n0 : (0 : Int) ≤ n ∧ (n : Int) < 16 := by omega
  cases f
  all_goals
    refine J.run0 3 rfl ?_
    try dsimp only
    try dsimp only
    rw [e1]
    refine J.icmp rfl rfl rfl ⟨⟨by decide, by decide⟩, by decide, by decide⟩ (fun hc => absurd (show (2 : Int) ≤ 0 from hc) (by decide)) (fun _ => ?_)
    refine J.run 4 rfl n0 ?_
    try dsimp only
    try dsimp only
    rw [e3 n hn]
    refine J.ifc rfl rfl rfl ⟨by decide, by decide⟩ (fun hc => absurd rfl hc) (fun _ => ?_)
    refine J.run 5 rfl ⟨show (0 : Int) ≤ 0 by decide, show (0 : Int) < 6000 by decide⟩ ?_
    try dsimp only
    try dsimp only
    rw [e4]
    refine J.icmp rfl rfl rfl ⟨⟨by decide, by decide⟩, by omega, by omega⟩ (fun hc => absurd (show (1 : Int) = n from hc) (by omega)) (fun _ => ?_)
    refine J.run0 1 rfl ?_
    try dsimp only
    refine J.run0 2 rfl ?_
    try dsimp only
    refine J.run0 3 rfl ?_
    try dsimp only
    try dsimp only
    rw [e1]
    refine J.icmp rfl rfl rfl ⟨⟨by decide, by decide⟩, by decide, by decide⟩ (fun hc => absurd (show (2 : Int) ≤ 0 + 1 from hc) (by decide)) (fun _ => ?_)
    refine J.run 4 rfl n0 ?_
    try dsimp only
    try dsimp only
    rw [e3 n hn]
    refine J.ifc rfl rfl rfl ⟨by decide, by decide⟩ (fun hc => absurd rfl hc) (fun _ => ?_)
    refine J.run 5 rfl ⟨show (0 : Int) ≤ 0 + 1 by decide, show (0 + 1 : Int) < 6000 by decide⟩ ?_
    try dsimp only
    try dsimp only
    rw [show H.2.2.1 64 0 (0 + 1) = 1 from e5]
    refine J.icmp rfl rfl rfl ⟨⟨by decide, by decide⟩, by omega, by omega⟩ (fun hc => absurd (show (1 : Int) = n from hc) (by omega)) (fun _ => ?_)
    refine J.run0 1 rfl ?_
    try dsimp only
    refine J.run0 2 rfl ?_
    try dsimp only
    refine J.run0 3 rfl ?_
    try dsimp only
    try dsimp only
    rw [e1]
    exact J.icmp rfl rfl rfl ⟨⟨by decide, by decide⟩, by decide, by decide⟩ (fun _ => hnext) (fun hc => absurd (show (2 : Int) ≤ 0 + 1 + 1 by decide) hc)
theorem j_dbl_l (hD : dH H) : ∀ (m n : Nat) (lv : jL), 2 ≤ n → n + m = 16 → (lv = [(2, .inl (n : Int)), (4, .inl 2), (5, .inl 1), (3, .inl 2), (1, .inl 0), (0, jT)] ∨ lv = [(2, .inl (n : Int)), (4, .inl 2), (3, .inl 0), (5, .inl 1), (1, .inl 0), (0, jT)]) → J true d 158 w (4, lv, [], H) (jN fun r w' H' => r = some (.inl 0) ∧ w' = w ∧ H'.1 11 47 0 = 0) := by
  intro m
  induction m with
  | zero =>
    intro n lv h2 hn hlv
    obtain rfl : n = 16 := by omega
    rcases hlv with rfl | rfl
    all_goals
      refine J.run0 2 rfl ?_
      try dsimp only
      refine J.icmp rfl rfl rfl ⟨⟨by decide, by decide⟩, by decide, by decide⟩ (fun _ => ?_) (fun hc => absurd (show (16 : Int) ≤ (16 : Nat) by decide) hc)
      refine J.run0 1 rfl ?_
      try dsimp only
      exact J.reti rfl rfl rfl ⟨_, rfl, rfl, rfl, hD.2.1⟩
  | succ m ih =>
    intro n lv h2 hn hlv
    rcases hlv with rfl | rfl
    all_goals
      refine J.run0 2 rfl ?_
      try dsimp only
      refine J.icmp rfl rfl rfl ⟨⟨by omega, by omega⟩, by decide, by decide⟩ (fun hc => absurd (show (16 : Int) ≤ (n : Int) from hc) (by omega)) (fun _ => ?_)
      refine J.run0 4 rfl ?_
      try dsimp only
      refine j_dbl_ne false hD (by omega) (by omega) ?_
      refine J.run0 2 rfl ?_
      try dsimp only
      exact ih (n + 1) _ (by omega) (by omega) (Or.inr rfl)
set_option maxRecDepth 8000 in
theorem j_doubles (hD : dH H) : J true d 158 w (0, jargs 0 [jT], [], H) (jN fun r w' H' => r = some (.inl 0) ∧ w' = w ∧ H'.1 11 47 0 = 0) := by
  have hD0 := hD
  obtain ⟨e1, e2, e3, e4, e5, e6, e7⟩ := hD
  refine J.run0 4 rfl ?_
  try dsimp only
  refine J.run0 2 rfl ?_
  try dsimp only
  refine J.icmp rfl rfl rfl ⟨⟨by decide, by decide⟩, by decide, by decide⟩ (fun hc => absurd (show (16 : Int) ≤ 0 from hc) (by decide)) (fun _ => ?_)
  refine J.run0 4 rfl ?_
  try dsimp only
  refine j_dbl_ne (n := 0) true hD0 (by decide) (by decide) ?_
  refine J.run0 2 rfl ?_
  try dsimp only
  refine J.run0 2 rfl ?_
  try dsimp only
  refine J.icmp rfl rfl rfl ⟨⟨by decide, by decide⟩, by decide, by decide⟩ (fun hc => absurd (show (16 : Int) ≤ ((0 : Nat) : Int) + 1 from hc) (by decide)) (fun _ => ?_)
  refine J.run0 4 rfl ?_
  try dsimp only
  -- NODE 1, MESSAGE 0
  refine J.run0 3 rfl ?_
  try dsimp only
  try dsimp only
  rw [e1]
  refine J.icmp rfl rfl rfl ⟨⟨by decide, by decide⟩, by decide, by decide⟩ (fun hc => absurd (show (2 : Int) ≤ 0 from hc) (by decide)) (fun _ => ?_)
  refine J.run 4 rfl ⟨show (0 : Int) ≤ ((0 : Nat) : Int) + 1 by decide, show ((0 : Nat) : Int) + 1 < 16 by decide⟩ ?_
  try dsimp only
  try dsimp only
  rw [show H.2.2.1 79 0 (((0 : Nat) : Int) + 1) = 0 from e3 1 (by decide)]
  refine J.ifc rfl rfl rfl ⟨by decide, by decide⟩ (fun hc => absurd rfl hc) (fun _ => ?_)
  refine J.run 5 rfl ⟨show (0 : Int) ≤ 0 by decide, show (0 : Int) < 6000 by decide⟩ ?_
  try dsimp only
  try dsimp only
  rw [e4]
  refine J.icmp rfl rfl rfl ⟨⟨by decide, by decide⟩, by decide, by decide⟩ (fun _ => ?_) (fun hc => absurd (show (1 : Int) = ((0 : Nat) : Int) + 1 by decide) hc)
  refine J.run 8 rfl ⟨show (0 : Int) ≤ 0 by decide, show (0 : Int) < 6000 by decide⟩ ?_
  try dsimp only
  refine J.gn fun H1 hH1 => ?_
  have hD1 : dH H1 := by rw [hH1]; exact hD0
  have o1 : H1.2.2.1 109 0 0 = 0 := by rw [hH1]; rfl
  clear hH1
  obtain ⟨e1, e2, e3, e4, e5, e6, e7⟩ := hD1
  refine J.run0 4 rfl ?_
  try dsimp only
  refine J.icmp rfl rfl rfl ⟨⟨by decide, by decide⟩, by decide, by decide⟩ (fun _ => ?_) (fun hc => absurd (show (0 : Int) + 1 - 1 ≤ 0 by decide) hc)
  refine J.run0 2 rfl ?_
  try dsimp only
  -- MESSAGE 1
  refine J.run0 3 rfl ?_
  try dsimp only
  try dsimp only
  rw [e1]
  refine J.icmp rfl rfl rfl ⟨⟨by decide, by decide⟩, by decide, by decide⟩ (fun hc => absurd (show (2 : Int) ≤ 0 + 1 from hc) (by decide)) (fun _ => ?_)
  refine J.run 4 rfl ⟨show (0 : Int) ≤ ((0 : Nat) : Int) + 1 by decide, show ((0 : Nat) : Int) + 1 < 16 by decide⟩ ?_
  try dsimp only
  try dsimp only
  rw [show H1.2.2.1 79 0 (((0 : Nat) : Int) + 1) = 0 from e3 1 (by decide)]
  refine J.ifc rfl rfl rfl ⟨by decide, by decide⟩ (fun hc => absurd rfl hc) (fun _ => ?_)
  refine J.run 5 rfl ⟨show (0 : Int) ≤ 0 + 1 by decide, show (0 + 1 : Int) < 6000 by decide⟩ ?_
  try dsimp only
  try dsimp only
  rw [show H1.2.2.1 64 0 (0 + 1) = 1 from e5]
  refine J.icmp rfl rfl rfl ⟨⟨by decide, by decide⟩, by decide, by decide⟩ (fun _ => ?_) (fun hc => absurd (show (1 : Int) = ((0 : Nat) : Int) + 1 by decide) hc)
  refine J.run 8 rfl ⟨show (0 : Int) ≤ 0 + 1 by decide, show (0 + 1 : Int) < 6000 by decide⟩ ?_
  try dsimp only
  refine J.gn fun H2 hH2 => ?_
  have hD2 : dH H2 := by rw [hH2]; exact ⟨e1, e2, e3, e4, e5, e6, e7⟩
  have o2 : H2.2.2.1 109 0 0 = 0 := by
    rw [hH2]
    show jup (H1.2.2.1 109 0) (0 + 1) (0 + 1) 0 = 0
    unfold jup
    rw [if_neg (by decide)]
    exact o1
  clear hH2
  have hD2' := hD2
  obtain ⟨e1, e2, e3, e4, e5, e6, e7⟩ := hD2
  refine J.run0 4 rfl ?_
  try dsimp only
  refine J.icmp rfl rfl rfl ⟨⟨by decide, by decide⟩, by decide, by decide⟩ (fun hc => absurd (show (0 : Int) + 1 + 1 - 1 ≤ 0 from hc) (by decide)) (fun _ => ?_)
  refine J.run 6 rfl ⟨show (0 : Int) ≤ 0 by decide, show (0 : Int) < 6000 by decide⟩ ?_
  try dsimp only
  try dsimp only
  rw [o2]
  refine J.run 5 rfl ⟨⟨show (0 : Int) ≤ 0 by decide, show (0 : Int) < 6000 by decide⟩, show (0 : Int) ≤ 0 + 1 by decide, show (0 + 1 : Int) < 6000 by decide⟩ ?_
  try dsimp only
  try dsimp only
  rw [e6, show H2.2.2.1 63 0 (0 + 1) = 1 from e7]
  refine J.icmp rfl rfl rfl ⟨⟨by decide, by decide⟩, by decide, by decide⟩ (fun _ => ?_) (fun hc => absurd (show ¬ (0 : Int) = 1 by decide) hc)
  refine J.run0 2 rfl ?_
  try dsimp only
  refine J.run0 4 rfl ?_
  try dsimp only
  refine J.icmp rfl rfl rfl ⟨⟨by decide, by decide⟩, by decide, by decide⟩ (fun _ => ?_) (fun hc => absurd (show (0 : Int) + 1 + 1 - 1 ≤ 0 + 1 by decide) hc)
  refine J.run0 2 rfl ?_
  try dsimp only
  refine J.run0 3 rfl ?_
  try dsimp only
  try dsimp only
  rw [e1]
  refine J.icmp rfl rfl rfl ⟨⟨by decide, by decide⟩, by decide, by decide⟩ (fun _ => ?_) (fun hc => absurd (show (2 : Int) ≤ 0 + 1 + 1 by decide) hc)
  refine J.run0 2 rfl ?_
  try dsimp only
  exact j_dbl_l hD2' 14 2 _ (by decide) rfl (Or.inl rfl)
set_option maxRecDepth 8000 in
theorem j_count {what : Int} (hI : rInv (zc 16) H) (bx : jR what) : J true (d + 10) 169 w (0, jargs 0 [jT, .inl what], [], H) (jN (rOut w (cntK what) (cntA what))) := by
  have eth : H.1 11 47 0 = 0 := hI.1.1.2
  have em : H.1 11 19 0 = 2 := by rw [hI.1.1.1, zM16]; rfl
  have eb : H.1 11 12 0 = 2 := by rw [hI.2.1.1, zB16]; rfl
  obtain ⟨ett, etr, -⟩ := hI.2.1.2.2.2.2.2.2.2.1
  have hf : ∀ j : Nat, j < 16 → H.2.2.1 79 0 j = 0 := fun j hj => (hI.n16 hj).2.1.1
  have hl : ∀ j : Nat, j < 16 → H.2.2.1 72 0 j = 0 := fun j hj => by
    rw [(hI.n16 hj).1.1, v16_h]
    rfl
  have hh : H.2.2.1 56 0 0 = 0 := by
    have h9 := hI.2.1.2.1.2 0 (by decide) (by rw [zB16]; decide)
    exact h9.1
  have hD : dH H := ⟨em, eth, hf, (hI.m16 (i := 0) (by decide)).2.1, (hI.m16 (i := 1) (by decide)).2.1, (hI.m16 (i := 0) (by decide)).1, (hI.m16 (i := 1) (by decide)).1⟩
  unfold cntK
  refine J.run0 4 rfl ?_
  try dsimp only
  refine J.ins rfl rfl rfl rfl rfl rfl rfl rfl rfl (j_in bx ⟨by decide, by decide⟩ ⟨by decide, by decide⟩) ?_
  rintro r w H ⟨rfl, rfl, rfl⟩
  by_cases hx : 0 ≤ what ∧ what ≤ 8
  rotate_left
  · rw [if_neg hx, if_neg hx]
    refine J.ifc rfl rfl rfl ⟨by decide, by decide⟩ (fun _ => ?_) (fun hc => absurd rfl hc)
    refine J.run0 1 rfl ?_
    try dsimp only
    refine J.run0 3 rfl ?_
    try dsimp only
    refine J.ifc rfl rfl rfl ⟨show -2147483648 ≤ (1 : Int) by decide, show (1 : Int) ≤ 2147483647 by decide⟩ (fun hc => absurd (show (1 : Int) ≤ 0 from hc) (by decide)) (fun _ => ?_)
    refine J.run0 1 rfl ?_
    try dsimp only
    exact J.reti rfl rfl rfl ⟨_, rfl, rfl, rfl, _, rfl, fun hk => absurd hk (by decide)⟩
  rw [if_pos hx, if_pos hx]
  refine J.ifc rfl rfl rfl ⟨by decide, by decide⟩ (fun hc => absurd hc (show ¬ (1 : Int) = 0 by decide)) (fun _ => ?_)
  refine J.run0 2 rfl ?_
  try dsimp only
  refine J.run0 3 rfl ?_
  try dsimp only
  refine J.ifc rfl rfl rfl ⟨show -2147483648 ≤ (0 : Int) by decide, show (0 : Int) ≤ 2147483647 by decide⟩ (fun _ => ?_) (fun hc => absurd (show (0 : Int) ≤ 0 by decide) hc)
  refine J.heq (show _ = hV H 47 0 from rfl) ?_
  rw [hV_same H 47 eth]
  have a0 : ¬ (what = 1 ∨ what = 2) → cntA what = 0 := fun h => if_neg h
  refine J.run0 1 rfl ?_
  try dsimp only
  refine J.ifc rfl rfl rfl bx (fun hc => ?_) (fun hc => ?_)
  rotate_left
  · have hc' : what = 0 := Classical.not_not.mp hc
    refine J.run0 2 rfl ?_
    try dsimp only
    refine J.reti rfl rfl rfl ⟨_, rfl, rfl, eth, _, rfl, fun _ => ?_⟩
    rw [a0 (by omega)]
    exact ett
  have c0 : ¬ what = 0 := hc
  refine J.run0 2 rfl ?_
  try dsimp only
  refine J.icmp rfl rfl rfl ⟨bx, by decide, by decide⟩ (fun hc => ?_) (fun hc => ?_)
  rotate_left
  · have hc' : what = 1 := Classical.not_not.mp hc
    refine J.run0 2 rfl ?_
    try dsimp only
    refine J.reti rfl rfl rfl ⟨_, rfl, rfl, eth, _, rfl, fun _ => ?_⟩
    rw [show cntA what = 2 from if_pos (Or.inl hc')]
    exact em
  have c1 : ¬ what = 1 := hc
  refine J.run0 2 rfl ?_
  try dsimp only
  refine J.icmp rfl rfl rfl ⟨bx, by decide, by decide⟩ (fun hc => ?_) (fun hc => ?_)
  rotate_left
  · have hc' : what = 2 := Classical.not_not.mp hc
    refine J.run0 2 rfl ?_
    try dsimp only
    refine J.reti rfl rfl rfl ⟨_, rfl, rfl, eth, _, rfl, fun _ => ?_⟩
    rw [show cntA what = 2 from if_pos (Or.inr hc')]
    exact eb
  have c2 : ¬ what = 2 := hc
  rw [a0 (by omega)]
  refine J.run0 2 rfl ?_
  try dsimp only
  refine J.icmp rfl rfl rfl ⟨bx, by decide, by decide⟩ (fun hc => ?_) (fun hc => ?_)
  rotate_left
  · refine J.run0 1 rfl ?_
    try dsimp only
    refine J.inv rfl rfl rfl rfl rfl rfl jDr rfl rfl rfl rfl rfl (j_faulty (d := d + 9) (g := fun _ => false) (fun n hn => hf n hn)) ?_
    rintro r w H ⟨rfl, rfl, rfl⟩
    exact J.reti rfl rfl rfl ⟨_, rfl, rfl, eth, _, rfl, fun _ => rfl⟩
  refine J.run0 2 rfl ?_
  try dsimp only
  refine J.icmp rfl rfl rfl ⟨bx, by decide, by decide⟩ (fun hc => ?_) (fun hc => ?_)
  rotate_left
  · refine J.run0 2 rfl ?_
    try dsimp only
    exact J.reti rfl rfl rfl ⟨_, rfl, rfl, eth, _, rfl, fun _ => etr⟩
  refine J.run0 2 rfl ?_
  try dsimp only
  refine J.icmp rfl rfl rfl ⟨bx, by decide, by decide⟩ (fun hc => ?_) (fun hc => ?_)
  rotate_left
  · refine J.run0 1 rfl ?_
    try dsimp only
    refine J.inv rfl rfl rfl rfl rfl rfl jDr rfl rfl rfl rfl rfl (j_doubles (d := d + 9) hD) ?_
    rintro r w H' ⟨rfl, rfl, h9⟩
    exact J.reti rfl rfl rfl ⟨_, rfl, rfl, h9, _, rfl, fun _ => rfl⟩
  refine J.run0 8 rfl ?_
  try dsimp only
  refine j_pairs (d := d + 9) hf hl hh etr (fun lv hlv => ?_) 16 0 _ rfl (Or.inl ⟨rfl, rfl⟩)
  obtain ⟨y, rfl⟩ := hlv
  refine J.run0 2 rfl ?_
  try dsimp only
  refine J.icmp rfl rfl rfl ⟨bx, by decide, by decide⟩ (fun hc => ?_) (fun hc => ?_)
  rotate_left
  · refine J.run0 2 rfl ?_
    try dsimp only
    exact J.reti rfl rfl rfl ⟨_, rfl, rfl, eth, _, rfl, fun _ => rfl⟩
  refine J.run0 2 rfl ?_
  try dsimp only
  refine J.icmp rfl rfl rfl ⟨bx, by decide, by decide⟩ (fun hc => ?_) (fun hc => ?_)
  rotate_left
  · refine J.run0 2 rfl ?_
    try dsimp only
    exact J.reti rfl rfl rfl ⟨_, rfl, rfl, eth, _, rfl, fun _ => rfl⟩
  refine J.run0 1 rfl ?_
  try dsimp only
  exact J.reti rfl rfl rfl ⟨_, rfl, rfl, eth, _, rfl, fun _ => rfl⟩
end SY
