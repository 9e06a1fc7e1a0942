/-! the reference's calls on a new object: sum -/
section SW
variable {d : Nat} {w : jW} {H : jH}
def bdg (i : Nat) : Bool := decide (i / 16 = i % 16)
theorem bdg_16 : (List.range 3200).countP bdg = 16 := by decide +kernel
theorem j_bonds (hL : rLed H) : J true d 120 w (0, jargs 0 [jT], [], H) (jN fun r w' H' => r = some (.inl 16) ∧ w' = w ∧ H' = H) := by
  have loop : ∀ (m i : Nat), i + m = 3200 → J true d 120 w (4, [(2, .inl (i : Int)), (1, .inl (((List.range i).countP bdg : Nat) : Int)), (0, jT)], [], H) (jN fun r w' H' => r = some (.inl (((List.range 3200).countP bdg : Nat) : Int)) ∧ w' = w ∧ H' = H) := by
    intro m
    induction m with
    | zero =>
      intro i hi
      obtain rfl : i = 3200 := by omega
      refine J.run0 2 rfl ?_
      try dsimp only
      refine J.icmp rfl rfl rfl ⟨⟨by decide, by decide⟩, by decide, by decide⟩ (fun _ => ?_) (fun hc => absurd (show (3200 : Int) ≤ (3200 : Nat) by decide) hc)
      refine J.run0 1 rfl ?_
      try dsimp only
      exact J.reti rfl rfl rfl ⟨_, rfl, rfl, rfl, rfl⟩
    | succ m ih =>
      intro i hi
      have i0 : (0 : Int) ≤ i ∧ (i : Int) < 3200 := by omega
      refine J.run0 2 rfl ?_
      try dsimp only
      refine J.icmp rfl rfl rfl ⟨⟨by omega, by omega⟩, by decide, by decide⟩ (fun hc => absurd (show (3200 : Int) ≤ (i : Int) from hc) (by omega)) (fun _ => ?_)
      refine J.run 4 rfl i0 ?_
      try dsimp only
      try dsimp only
      rw [hL.2.1 i i0.1 i0.2]
      have e := range_succ_c bdg i
      by_cases hgi : i / 16 = i % 16
      · have hg : bdg i = true := decide_eq_true hgi
        rw [if_pos hg] at e
        rw [if_pos (show (i : Int) / 16 = (i : Int) % 16 by omega)]
        refine J.ifc rfl rfl rfl ⟨by decide, by decide⟩ (fun hc => absurd (show (100 : Int) ≤ 0 from hc) (by decide)) (fun _ => ?_)
        refine J.run0 1 rfl ?_
        try dsimp only
        refine J.run0 2 rfl ?_
        try dsimp only
        have h9 := ih (i + 1) (by omega)
        rw [e] at h9
        exact h9
      · have hg : ¬ bdg i = true := fun z => hgi (of_decide_eq_true z)
        rw [if_neg hg] at e
        rw [if_neg (show ¬ (i : Int) / 16 = (i : Int) % 16 by omega)]
        refine J.ifc rfl rfl rfl ⟨by decide, by decide⟩ (fun _ => ?_) (fun hc => absurd (show (0 : Int) ≤ 0 by decide) hc)
        refine J.run0 2 rfl ?_
        try dsimp only
        have h9 := ih (i + 1) (by omega)
        rw [e] at h9
        exact h9
  refine J.run0 4 rfl ?_
  try dsimp only
  have h9 := loop 3200 0 rfl
  rw [bdg_16] at h9
  exact h9
abbrev mLv (i : Nat) (c : Int) (bits x what : Int) : jL := [(5, .inl (i : Int)), (4, .inl c), (3, .inl bits), (0, jT), (1, .inl x), (2, .inl what)]
theorem j_sum_1 {x what : Int} {Post : jO → jW → jH → Prop} (hL : rLed H) (hn : J true d 163 w (116, mLv 16 0 0 x what, [], H) Post) : ∀ (m i : Nat), i + m = 16 → J true d 163 w (86, mLv i 0 0 x what, [], H) Post := by
  intro m
  induction m with
  | zero =>
    intro i hi
    obtain rfl : i = 16 := by omega
    refine J.run0 2 rfl ?_
    try dsimp only
    exact J.icmp rfl rfl rfl ⟨⟨by decide, by decide⟩, by decide, by decide⟩ (fun _ => hn) (fun hc => absurd (show (16 : Int) ≤ (16 : Nat) by decide) hc)
  | succ m ih =>
    intro i hi
    have i0 : (0 : Int) ≤ i ∧ (i : Int) < 16 := by omega
    refine J.run0 2 rfl ?_
    try dsimp only
    refine J.icmp rfl rfl rfl ⟨⟨by omega, by omega⟩, by decide, by decide⟩ (fun hc => absurd (show (16 : Int) ≤ (i : Int) from hc) (by omega)) (fun _ => ?_)
    refine J.run 4 rfl i0 ?_
    try dsimp only
    try dsimp only
    rw [(hL.2.2.1 i i0.1 i0.2).2]
    refine J.ifc rfl rfl rfl ⟨by decide, by decide⟩ (fun _ => ?_) (fun hc => absurd rfl hc)
    refine J.run0 2 rfl ?_
    try dsimp only
    exact ih (i + 1) (by omega)
abbrev qLv (i : Nat) (c : Int) (x what : Int) (f : Bool) : jL := match f with
  | true => [(5, .inl (i : Int)), (4, .inl c), (3, .inl 0), (0, jT), (1, .inl x), (2, .inl what)]
  | false => [(4, .inl c), (5, .inl (i : Int)), (3, .inl 0), (0, jT), (1, .inl x), (2, .inl what)]
theorem j_sum_2 {x what : Int} {Post : jO → jW → jH → Prop} (hL : rLed H) (hn : J true d 163 w (186, mLv 200 200000 0 x what, [], H) Post) : ∀ (m i : Nat), i + m = 200 → J true d 163 w (160, mLv i (1000 * (i : Int)) 0 x what, [], H) Post := by
  intro m
  induction m with
  | zero =>
    intro i hi
    obtain rfl : i = 200 := by omega
    refine J.run0 2 rfl ?_
    try dsimp only
    exact J.icmp rfl rfl rfl ⟨⟨by decide, by decide⟩, by decide, by decide⟩ (fun _ => hn) (fun hc => absurd (show (200 : Int) ≤ (200 : Nat) by decide) hc)
  | succ m ih =>
    intro i hi
    have i0 : (0 : Int) ≤ i ∧ (i : Int) < 200 := by omega
    refine J.run0 2 rfl ?_
    try dsimp only
    refine J.icmp rfl rfl rfl ⟨⟨by omega, by omega⟩, by decide, by decide⟩ (fun hc => absurd (show (200 : Int) ≤ (i : Int) from hc) (by omega)) (fun _ => ?_)
    refine J.run 5 rfl i0 ?_
    try dsimp only
    try dsimp only
    rw [show H.2.2.1 99 0 (i : Int) = 1000 from hL.1 i i0.1 i0.2]
    refine J.run0 4 rfl ?_
    try dsimp only
    have h9 := ih (i + 1) (by omega)
    rw [show 1000 * ((i + 1 : Nat) : Int) = 1000 * (i : Int) + 1000 by omega] at h9
    exact h9
theorem j_sum_3 {x what : Int} {Post : jO → jW → jH → Prop} (hL : rLed H) (hn : J true d 163 w (215, mLv 3200 201600 0 x what, [], H) Post) : ∀ (m i : Nat), i + m = 3200 → J true d 163 w (189, mLv i (200000 + 100 * (((List.range i).countP bdg : Nat) : Int)) 0 x what, [], H) Post := by
  intro m
  induction m with
  | zero =>
    intro i hi
    obtain rfl : i = 3200 := by omega
    rw [bdg_16]
    refine J.run0 2 rfl ?_
    try dsimp only
    exact J.icmp rfl rfl rfl ⟨⟨by decide, by decide⟩, by decide, by decide⟩ (fun _ => hn) (fun hc => absurd (show (3200 : Int) ≤ (3200 : Nat) by decide) hc)
  | succ m ih =>
    intro i hi
    have i0 : (0 : Int) ≤ i ∧ (i : Int) < 3200 := by omega
    refine J.run0 2 rfl ?_
    try dsimp only
    refine J.icmp rfl rfl rfl ⟨⟨by omega, by omega⟩, by decide, by decide⟩ (fun hc => absurd (show (3200 : Int) ≤ (i : Int) from hc) (by omega)) (fun _ => ?_)
    refine J.run 5 rfl i0 ?_
    try dsimp only
    try dsimp only
    rw [hL.2.1 i i0.1 i0.2]
    have e := range_succ_c bdg i
    have h9 := ih (i + 1) (by omega)
    refine J.run0 4 rfl ?_
    try dsimp only
    by_cases hgi : i / 16 = i % 16
    · have hg : bdg i = true := decide_eq_true hgi
      rw [if_pos hg] at e
      rw [e] at h9
      rw [if_pos (show (i : Int) / 16 = (i : Int) % 16 by omega)]
      rw [show 200000 + 100 * (((List.range i).countP bdg + 1 : Nat) : Int) = 200000 + 100 * (((List.range i).countP bdg : Nat) : Int) + 100 by omega] at h9
      exact h9
    · have hg : ¬ bdg i = true := fun z => hgi (of_decide_eq_true z)
      rw [if_neg hg] at e
      rw [e] at h9
      rw [if_neg (show ¬ (i : Int) / 16 = (i : Int) % 16 by omega)]
      rw [show 200000 + 100 * (((List.range i).countP bdg + 0 : Nat) : Int) = 200000 + 100 * (((List.range i).countP bdg : Nat) : Int) + 0 by omega] at h9
      exact h9
set_option maxRecDepth 8000 in
theorem j_sum {x what : Int} (hI : rInv (zc 16) H) (bm : jR x) (bx : jR what) : J true (d + 10) 163 w (0, jargs 0 [jT, .inl x, .inl what], [], H) (jN (rOut w (sumK x what) (sumA what))) := by
  have esz : H.1 11 12 0 = 2 := by rw [hI.2.1.1, zB16]; rfl
  unfold sumK
  refine J.run0 5 rfl ?_
  try dsimp only
  try dsimp only
  rw [esz]
  refine J.run0 2 rfl ?_
  try dsimp only
  refine J.ins rfl rfl rfl rfl rfl rfl rfl rfl rfl (j_in bm ⟨by decide, by decide⟩ ⟨by decide, by decide⟩) ?_
  rintro r w H ⟨rfl, rfl, rfl⟩
  by_cases h1 : 0 ≤ x ∧ x ≤ 1
  rotate_left
  · rw [if_neg (show ¬ (0 ≤ x ∧ x ≤ 2 - 1) by omega), if_neg h1]
    refine J.ifc rfl rfl rfl ⟨by decide, by decide⟩ (fun hc => absurd rfl hc) (fun _ => ?_)
    refine J.run0 2 rfl ?_
    try dsimp only
    refine J.run0 3 rfl ?_
    try dsimp only
    refine J.ifc rfl rfl rfl ⟨show -2147483648 ≤ (1 : Int) by decide, show (1 : Int) ≤ 2147483647 by decide⟩ (fun hc => absurd (show (1 : Int) ≤ 0 from hc) (by decide)) (fun _ => ?_)
    refine J.run0 1 rfl ?_
    try dsimp only
    exact J.reti rfl rfl rfl ⟨_, rfl, rfl, rfl, _, rfl, fun hk => absurd hk (by decide)⟩
  rw [if_pos (show 0 ≤ x ∧ x ≤ 2 - 1 by omega), if_pos h1]
  refine J.ifc rfl rfl rfl ⟨by decide, by decide⟩ (fun _ => ?_) (fun hc => absurd (show ¬ (1 : Int) = 0 by decide) hc)
  obtain ⟨i, rfl⟩ : ∃ i : Nat, x = (i : Int) := ⟨x.toNat, by omega⟩
  have hi : i < 2 := by omega
  refine J.run0 2 rfl ?_
  try dsimp only
  refine J.inv rfl rfl rfl rfl rfl rfl jDr rfl rfl rfl rfl rfl (j_snd16 (d := d + 7) hI hi) ?_
  rintro r w H1 ⟨rfl, rfl, hI1⟩
  have eth : H1.1 11 47 0 = 0 := hI1.1.1.2
  refine J.ifc rfl rfl rfl ⟨by decide, by decide⟩ (fun _ => ?_) (fun hc => absurd (show ¬ (1 : Int) = 0 by decide) hc)
  refine J.run0 3 rfl ?_
  try dsimp only
  refine J.ins rfl rfl rfl rfl rfl rfl rfl rfl rfl (j_in bx ⟨by decide, by decide⟩ ⟨by decide, by decide⟩) ?_
  rintro r w H1 ⟨rfl, rfl, rfl⟩
  by_cases hx : 0 ≤ what ∧ what ≤ 20
  rotate_left
  · rw [if_neg hx, if_neg hx]
    refine J.ifc rfl rfl rfl ⟨by decide, by decide⟩ (fun hc => absurd rfl hc) (fun _ => ?_)
    refine J.run0 2 rfl ?_
    try dsimp only
    refine J.run0 3 rfl ?_
    try dsimp only
    refine J.ifc rfl rfl rfl ⟨show -2147483648 ≤ (3 : Int) by decide, show (3 : Int) ≤ 2147483647 by decide⟩ (fun hc => absurd (show (3 : Int) ≤ 0 from hc) (by decide)) (fun _ => ?_)
    refine J.run0 1 rfl ?_
    try dsimp only
    exact J.reti rfl rfl rfl ⟨_, rfl, rfl, rfl, _, rfl, fun hk => absurd hk (by decide)⟩
  rw [if_pos hx, if_pos hx]
  refine J.ifc rfl rfl rfl ⟨by decide, by decide⟩ (fun _ => ?_) (fun hc => absurd (show ¬ (1 : Int) = 0 by decide) hc)
  refine J.run0 1 rfl ?_
  try dsimp only
  refine J.run0 3 rfl ?_
  try dsimp only
  refine J.ifc rfl rfl rfl ⟨show -2147483648 ≤ (0 : Int) by decide, show (0 : Int) ≤ 2147483647 by decide⟩ (fun _ => ?_) (fun hc => absurd (show (0 : Int) ≤ 0 by decide) hc)
  refine J.heq (show _ = hV H1 47 0 from rfl) ?_
  rw [hV_same H1 47 eth]
  refine J.run0 2 rfl ?_
  try dsimp only
  refine J.inv rfl rfl rfl rfl rfl rfl jDr rfl rfl rfl rfl rfl (j_st16 (d := d + 8) hI1 hi) ?_
  rintro r w H2 ⟨rfl, rfl, hI2⟩
  have eth2 : H2.1 11 47 0 = 0 := hI2.1.1.2
  have hL := hI2.2.1.2.2.2.2.2.2.1
  refine J.run0 2 rfl ?_
  try dsimp only
  refine J.icmp rfl rfl rfl ⟨bx, by decide, by decide⟩ (fun hc => ?_) (fun hc => ?_)
  rotate_left
  · have hc' : ¬ 16 ≤ what := hc
    refine J.run0 2 rfl ?_
    try dsimp only
    refine J.inv rfl rfl rfl rfl rfl rfl jDr rfl rfl rfl rfl rfl (j_power (d := d + 9) hL ⟨hx.1, show what < 16 by omega⟩) ?_
    rintro r w H2 ⟨rfl, rfl, rfl⟩
    refine J.reti rfl rfl rfl ⟨_, rfl, rfl, eth2, _, rfl, fun _ => ?_⟩
    unfold sumA
    rw [if_pos (by omega)]
  have c16 : 16 ≤ what := hc
  have esum : sumA what = if what = 19 then 16 else if what = 20 then 201600 else 0 := by
    unfold sumA
    rw [if_neg (by omega)]
  rw [esum]
  refine J.run0 4 rfl ?_
  try dsimp only
  try dsimp only
  rw [hL.2.2.2.2]
  refine J.run0 3 rfl ?_
  try dsimp only
  refine j_sum_1 hL ?_ 16 0 rfl
  refine J.run0 2 rfl ?_
  try dsimp only
  refine J.icmp rfl rfl rfl ⟨bx, by decide, by decide⟩ (fun hc => ?_) (fun hc => ?_)
  rotate_left
  · have hc' : what = 16 := Classical.not_not.mp hc
    refine J.run0 1 rfl ?_
    try dsimp only
    refine J.reti rfl rfl rfl ⟨_, rfl, rfl, eth2, _, rfl, fun _ => ?_⟩
    rw [hc']
    rfl
  have d16 : ¬ what = 16 := hc
  refine J.run0 2 rfl ?_
  try dsimp only
  refine J.icmp rfl rfl rfl ⟨bx, by decide, by decide⟩ (fun hc => ?_) (fun hc => ?_)
  rotate_left
  · have hc' : what = 17 := Classical.not_not.mp hc
    refine J.run0 2 rfl ?_
    try dsimp only
    refine J.reti rfl rfl rfl ⟨_, rfl, rfl, eth2, _, rfl, fun _ => ?_⟩
    rw [hc']
    exact hL.2.2.2.2
  have d17 : ¬ what = 17 := hc
  refine J.run0 2 rfl ?_
  try dsimp only
  refine J.icmp rfl rfl rfl ⟨bx, by decide, by decide⟩ (fun hc => ?_) (fun hc => ?_)
  rotate_left
  · have hc' : what = 18 := Classical.not_not.mp hc
    refine J.run0 2 rfl ?_
    try dsimp only
    refine J.reti rfl rfl rfl ⟨_, rfl, rfl, eth2, _, rfl, fun _ => ?_⟩
    rw [hc']
    exact hL.2.2.2.1
  have d18 : ¬ what = 18 := hc
  refine J.run0 2 rfl ?_
  try dsimp only
  refine J.icmp rfl rfl rfl ⟨bx, by decide, by decide⟩ (fun hc => ?_) (fun hc => ?_)
  rotate_left
  · have hc' : what = 19 := Classical.not_not.mp hc
    refine J.run0 1 rfl ?_
    try dsimp only
    refine J.inv rfl rfl rfl rfl rfl rfl jDr rfl rfl rfl rfl rfl (j_bonds (d := d + 9) hL) ?_
    rintro r w H2 ⟨rfl, rfl, rfl⟩
    refine J.reti rfl rfl rfl ⟨_, rfl, rfl, eth2, _, rfl, fun _ => ?_⟩
    rw [if_pos hc']
  have d19 : ¬ what = 19 := hc
  rw [if_neg d19, if_pos (by omega)]
  refine J.run0 2 rfl ?_
  try dsimp only
  refine j_sum_2 hL ?_ 200 0 rfl
  refine J.run0 2 rfl ?_
  try dsimp only
  refine j_sum_3 hL ?_ 3200 0 rfl
  refine J.run0 2 rfl ?_
  try dsimp only
  refine J.run0 3 rfl ?_
  try dsimp only
  try dsimp only
  rw [hL.2.2.2.1]
  refine J.icmp rfl rfl rfl ⟨⟨by decide, by decide⟩, by decide, by decide⟩ (fun _ => ?_) (fun hc => absurd (show (0 : Int) ≤ 0 by decide) hc)
  refine J.run0 1 rfl ?_
  try dsimp only
  exact J.reti rfl rfl rfl ⟨_, rfl, rfl, eth2, _, rfl, fun _ => rfl⟩
end SW
