/-! the class's calls on a new object: count -/
section SQ
variable {b : Bool} {d : Nat} {w : jW} {H : jH} {F : cF} {je mp bp sp : Nat → Nat}
theorem zh16_m {l : Nat} (hl : l < 2) : zh (zc 16) l = 1 := by
  have h9 : l = 0 ∨ l = 1 := by omega
  unfold zh
  rcases h9 with rfl | rfl
  · rw [zE_16.2.1]
  · rw [zE_16.2.2.1]
theorem nxt16 (h i : Nat) : nxt (zM (zc 16)) (zh (zc 16)) h i = nxt 2 (fun _ => 1) h i := by
  rw [zM16]
  exact nxt_congr fun l hl => zh16_m hl
theorem lx16 (h : Nat) : lx (zM (zc 16)) (zh (zc 16)) h = lx 2 (fun _ => 1) h := by
  rw [zM16]
  exact lx_congr fun l hl => zh16_m hl
theorem cPic.nx16 (hP : cPic F w (zc 16) H je mp bp sp) : H.2.1 5 7 (mp 0) = some (mp 1) ∧ H.2.1 5 7 (mp 1) = none := by
  have h0 := (hP.2.1.2.2.1 0 (by rw [zM16]; decide)).2.2
  have h1 := (hP.2.1.2.2.1 1 (by rw [zM16]; decide)).2.2
  rw [zh16_m (by decide), nxt16] at h0 h1
  exact ⟨h0, h1⟩
theorem c_inLine0 {q : Nat} (h0 : w.1 0 q) (hh : H.1 0 1 q = 0) (hn : H.1 0 0 q = 0) : J b (d + 1) 2 w (0, jargs 0 [.inr (some (0, q)), .inr (some (0, q))], [], H) (jN fun r w' H' => r = some (.inl 1) ∧ w' = w ∧ H' = H) := by
  refine J.run 4 rfl ⟨h0, h0⟩ ?_
  try dsimp only
  try dsimp only
  rw [hh]
  refine J.icmp rfl rfl rfl ⟨⟨by decide, by decide⟩, by decide, by decide⟩ (fun hc => absurd (show (0 : Int) < 0 from hc) (by decide)) (fun _ => ?_)
  refine J.run0 2 rfl ?_
  try dsimp only
  refine J.run 5 rfl ⟨h0, h0⟩ ?_
  try dsimp only
  try dsimp only
  rw [hh]
  refine J.icmp rfl rfl rfl ⟨⟨by decide, by decide⟩, by decide, by decide⟩ (fun hc => absurd (show (0 : Int) < 0 from hc) (by decide)) (fun _ => ?_)
  refine J.run0 2 rfl ?_
  try dsimp only
  refine J.run 4 rfl h0 ?_
  try dsimp only
  try dsimp only
  rw [hh]
  have h9 : J b d 1 w (0, jargs 0 [.inr (some (0, q)), .inl 0], [], H) (jN fun r w' H' => r = some (.inr (some (0, q))) ∧ w' = w ∧ H' = H) := by
    refine J.run0 2 rfl ?_
    try dsimp only
    refine J.run 5 rfl h0 ?_
    try dsimp only
    try dsimp only
    rw [hh]
    refine J.icmp rfl rfl rfl ⟨⟨by decide, by decide⟩, by decide, by decide⟩ (fun hc => absurd rfl hc) (fun _ => ?_)
    refine J.run0 1 rfl ?_
    try dsimp only
    exact J.reta rfl rfl rfl ⟨_, rfl, rfl, rfl, rfl⟩
  refine J.inv rfl rfl rfl rfl rfl rfl ((jD_w rfl).mpr h0) rfl rfl rfl rfl rfl h9 ?_
  rintro r w H ⟨rfl, rfl, rfl⟩
  refine J.run 7 rfl ⟨h0, h0⟩ ?_
  try dsimp only
  try dsimp only
  rw [hn]
  refine J.icmp rfl rfl rfl ⟨⟨by decide, by decide⟩, by decide, by decide⟩ (fun hc => absurd rfl hc) (fun _ => ?_)
  refine J.run0 2 rfl ?_
  try dsimp only
  exact J.retb rfl rfl rfl (by decide) ⟨_, rfl, rfl, rfl, rfl⟩
theorem c_split_in {i : Nat} (hP : cPic F w (zc 16) H je mp bp sp) (hi : i < 16) {Post : jO → jW → jH → Prop} (hn : J b (d + 2) 106 w (77, [(3, .inl 16), (2, .inl (i : Int)), (1, .inl 0), (0, .inr (some (10, fX F)))], [], H) Post) : ∀ (m j : Nat), j + m = 16 → J b (d + 2) 106 w (14, [(3, .inl (j : Int)), (2, .inl (i : Int)), (1, .inl 0), (0, .inr (some (10, fX F)))], [], H) Post := by
  obtain ⟨⟨t1, t2, -⟩, tn, ti, -⟩ := hP.1
  have hG := (hP.b16 (i := 0) (by decide)).2
  intro m
  induction m with
  | zero =>
    intro j hj
    obtain rfl : j = 16 := by omega
    refine J.run0 2 rfl ?_
    try dsimp only
    exact J.icmp rfl rfl rfl ⟨⟨by decide, by decide⟩, by decide, by decide⟩ (fun _ => hn) (fun hc => absurd (show (16 : Int) ≤ (16 : Nat) by decide) hc)
  | succ m ih =>
    intro j hj
    have hj16 : j < 16 := by omega
    have ni := hP.n16 hi
    have nj := hP.n16 hj16
    refine J.run0 2 rfl ?_
    try dsimp only
    refine J.icmp rfl rfl rfl ⟨⟨by omega, by omega⟩, by decide, by decide⟩ (fun hc => absurd (show (16 : Int) ≤ (j : Int) from hc) (by omega)) (fun _ => ?_)
    refine J.run 4 rfl ⟨⟨t1, t2⟩, t2, show (0 : Int) ≤ i by omega, show (i : Int) < 16 by omega⟩ ?_
    try dsimp only
    try dsimp only
    rw [tn i hi]
    refine J.run 1 rfl ni.1.1 ?_
    try dsimp only
    try dsimp only
    rw [show H.1 6 10 (fN F i) = 0 from ni.2.1.2.2.2.2.2.2.1]
    refine J.ifc rfl rfl rfl ⟨by decide, by decide⟩ (fun hc => absurd rfl hc) (fun _ => ?_)
    refine J.run 4 rfl ⟨⟨t1, t2⟩, t2, show (0 : Int) ≤ j by omega, show (j : Int) < 16 by omega⟩ ?_
    try dsimp only
    try dsimp only
    rw [tn j hj16]
    refine J.run 1 rfl nj.1.1 ?_
    try dsimp only
    try dsimp only
    rw [show H.1 6 10 (fN F j) = 0 from nj.2.1.2.2.2.2.2.2.1]
    refine J.ifc rfl rfl rfl ⟨by decide, by decide⟩ (fun hc => absurd rfl hc) (fun _ => ?_)
    refine J.run 4 rfl ⟨⟨t1, t2⟩, t2, show (0 : Int) ≤ i by omega, show (i : Int) < 16 by omega⟩ ?_
    try dsimp only
    try dsimp only
    rw [tn i hi]
    have eli : H.2.2.2.2 6 1 (fN F i) = bp 0 := ni.2.1.2.1
    have elj : H.2.2.2.2 6 1 (fN F j) = bp 0 := nj.2.1.2.1
    refine J.run 1 rfl ⟨ni.1.1, by rw [eli]; exact hG.1.2.1⟩ ?_
    try dsimp only
    try dsimp only
    rw [eli]
    refine J.run 4 rfl ⟨⟨t1, t2⟩, t2, show (0 : Int) ≤ j by omega, show (j : Int) < 16 by omega⟩ ?_
    try dsimp only
    try dsimp only
    rw [tn j hj16]
    refine J.run 1 rfl ⟨nj.1.1, by rw [elj]; exact hG.1.2.1⟩ ?_
    try dsimp only
    try dsimp only
    rw [elj]
    refine J.inv rfl rfl rfl rfl rfl rfl ((jD_w rfl).mpr hG.1.1) rfl rfl rfl rfl rfl (c_inLine0 hG.1.1 hG.1.2.2.2.1 hG.1.2.2.1) ?_
    rintro r w H ⟨rfl, rfl, rfl⟩
    refine J.ifc rfl rfl rfl ⟨by decide, by decide⟩ (fun _ => ?_) (fun hc => absurd (show ¬ (1 : Int) = 0 by decide) hc)
    refine J.run0 2 rfl ?_
    try dsimp only
    exact ih (j + 1) (by omega)
theorem c_split (hP : cPic F w (zc 16) H je mp bp sp) : J b (d + 2) 106 w (0, jargs 0 [.inr (some (10, fX F))], [], H) (jN fun r w' H' => r = some (.inl 0) ∧ w' = w ∧ H' = H) := by
  have out : ∀ (m i : Nat) (lv : jL), i + m = 16 → (lv = [(2, .inl (i : Int)), (1, .inl 0), (0, .inr (some (10, fX F)))] ∨ lv = [(2, .inl (i : Int)), (3, .inl 16), (1, .inl 0), (0, .inr (some (10, fX F)))]) → J b (d + 2) 106 w (4, lv, [], H) (jN fun r w' H' => r = some (.inl 0) ∧ w' = w ∧ H' = H) := by
    intro m
    induction m with
    | zero =>
      intro i lv hi hlv
      obtain rfl : i = 16 := by omega
      rcases hlv with rfl | rfl
      all_goals
        refine J.run0 2 rfl ?_
        try dsimp only
        refine J.icmp rfl rfl rfl ⟨⟨by decide, by decide⟩, by decide, by decide⟩ (fun _ => ?_) (fun hc => absurd (show (16 : Int) ≤ (16 : Nat) by decide) hc)
        refine J.run0 1 rfl ?_
        try dsimp only
        exact J.reti rfl rfl rfl ⟨_, rfl, rfl, rfl, rfl⟩
    | succ m ih =>
      intro i lv hi hlv
      have hi16 : i < 16 := by omega
      rcases hlv with rfl | rfl
      all_goals
        refine J.run0 2 rfl ?_
        try dsimp only
        refine J.icmp rfl rfl rfl ⟨⟨by omega, by omega⟩, by decide, by decide⟩ (fun hc => absurd (show (16 : Int) ≤ (i : Int) from hc) (by omega)) (fun _ => ?_)
        refine J.run0 4 rfl ?_
        try dsimp only
        refine c_split_in hP hi16 ?_ m (i + 1) (by omega)
        refine J.run0 2 rfl ?_
        try dsimp only
        exact ih (i + 1) _ (by omega) (Or.inr rfl)
  refine J.run0 4 rfl ?_
  try dsimp only
  exact out 16 0 _ rfl (Or.inl rfl)
theorem c_off (hP : cPic F w (zc 16) H je mp bp sp) : J b (d + 2) 107 w (0, jargs 0 [.inr (some (10, fX F))], [], H) (jN fun r w' H' => r = some (.inl 0) ∧ w' = w ∧ H' = H) := by
  obtain ⟨⟨t1, t2, t3, t4, t5, t6, t7, t8⟩, tn, ti, -, u1, u2, u3⟩ := hP.1
  have hG := (hP.b16 (i := 0) (by decide)).2
  have eg : bp 0 = fG F := hP.2.2.1.2.1.2.2.2
  have u3 := u3.trans eg.symm
  have loop : ∀ (m i : Nat), i + m = 16 → J b (d + 2) 107 w (4, fLv F i 0, [], H) (jN fun r w' H' => r = some (.inl 0) ∧ w' = w ∧ H' = H) := by
    intro m
    induction m with
    | zero =>
      intro i hi
      obtain rfl : i = 16 := by omega
      refine J.run0 2 rfl ?_
      try dsimp only
      refine J.icmp rfl rfl rfl ⟨⟨by decide, by decide⟩, by decide, by decide⟩ (fun _ => ?_) (fun hc => absurd (show (16 : Int) ≤ (16 : Nat) by decide) hc)
      refine J.run0 1 rfl ?_
      try dsimp only
      exact J.reti rfl rfl rfl ⟨_, rfl, rfl, rfl, rfl⟩
    | succ m ih =>
      intro i hi
      have hi16 : i < 16 := by omega
      have ni := hP.n16 hi16
      refine J.run0 2 rfl ?_
      try dsimp only
      refine J.icmp rfl rfl rfl ⟨⟨by omega, by omega⟩, by decide, by decide⟩ (fun hc => absurd (show (16 : Int) ≤ (i : Int) from hc) (by omega)) (fun _ => ?_)
      refine J.run 4 rfl ⟨⟨t1, t2⟩, t2, show (0 : Int) ≤ i by omega, show (i : Int) < 16 by omega⟩ ?_
      try dsimp only
      try dsimp only
      rw [tn i hi16]
      refine J.run 1 rfl ni.1.1 ?_
      try dsimp only
      try dsimp only
      rw [show H.1 6 10 (fN F i) = 0 from ni.2.1.2.2.2.2.2.2.1]
      refine J.ifc rfl rfl rfl ⟨by decide, by decide⟩ (fun hc => absurd rfl hc) (fun _ => ?_)
      refine J.run 4 rfl ⟨⟨t1, t2⟩, t2, show (0 : Int) ≤ i by omega, show (i : Int) < 16 by omega⟩ ?_
      try dsimp only
      try dsimp only
      rw [tn i hi16]
      have eli : H.2.2.2.2 6 1 (fN F i) = bp 0 := ni.2.1.2.1
      refine J.run 1 rfl ⟨ni.1.1, by rw [eli]; exact hG.1.2.1⟩ ?_
      try dsimp only
      try dsimp only
      rw [eli]
      refine J.run 2 rfl ⟨t1, by rw [t5]; exact t8⟩ ?_
      try dsimp only
      try dsimp only
      rw [t5]
      refine J.run 1 rfl ⟨u1, by rw [u3]; exact hG.1.2.1⟩ ?_
      try dsimp only
      try dsimp only
      rw [u3]
      refine J.inv rfl rfl rfl rfl rfl rfl ((jD_w rfl).mpr hG.1.1) rfl rfl rfl rfl rfl (c_inLine0 hG.1.1 hG.1.2.2.2.1 hG.1.2.2.1) ?_
      rintro r w H ⟨rfl, rfl, rfl⟩
      refine J.ifc rfl rfl rfl ⟨by decide, by decide⟩ (fun _ => ?_) (fun hc => absurd (show ¬ (1 : Int) = 0 by decide) hc)
      refine J.run0 2 rfl ?_
      try dsimp only
      exact ih (i + 1) (by omega)
  refine J.run0 4 rfl ?_
  try dsimp only
  exact loop 16 0 rfl
theorem c_great (hP : cPic F w (zc 16) H je mp bp sp) : J true d 108 w (0, jargs 0 [.inr (some (10, fX F))], [], H) (jN fun r w' H' => r = some (.inl 0) ∧ w' = w ∧ H' = H) := by
  obtain ⟨⟨t1, t2, t3, t4, t5, t6, t7, t8⟩, tn, ti, -⟩ := hP.1
  have hG := (hP.b16 (i := 0) (by decide)).2
  have loop : ∀ (m i : Nat), i + m = 16 → J true d 108 w (4, fLv F i 0, [], H) (jN fun r w' H' => r = some (.inl 0) ∧ w' = w ∧ H' = H) := by
    intro m
    induction m with
    | zero =>
      intro i hi
      obtain rfl : i = 16 := by omega
      refine J.run0 2 rfl ?_
      try dsimp only
      refine J.icmp rfl rfl rfl ⟨⟨by decide, by decide⟩, by decide, by decide⟩ (fun _ => ?_) (fun hc => absurd (show (16 : Int) ≤ (16 : Nat) by decide) hc)
      refine J.run0 1 rfl ?_
      try dsimp only
      exact J.reti rfl rfl rfl ⟨_, rfl, rfl, rfl, rfl⟩
    | succ m ih =>
      intro i hi
      have hi16 : i < 16 := by omega
      have ni := hP.n16 hi16
      refine J.run0 2 rfl ?_
      try dsimp only
      refine J.icmp rfl rfl rfl ⟨⟨by omega, by omega⟩, by decide, by decide⟩ (fun hc => absurd (show (16 : Int) ≤ (i : Int) from hc) (by omega)) (fun _ => ?_)
      refine J.run 4 rfl ⟨⟨t1, t2⟩, t2, show (0 : Int) ≤ i by omega, show (i : Int) < 16 by omega⟩ ?_
      try dsimp only
      try dsimp only
      rw [tn i hi16]
      refine J.run 1 rfl ni.1.1 ?_
      try dsimp only
      try dsimp only
      rw [show H.1 6 10 (fN F i) = 0 from ni.2.1.2.2.2.2.2.2.1]
      refine J.ifc rfl rfl rfl ⟨by decide, by decide⟩ (fun hc => absurd rfl hc) (fun _ => ?_)
      refine J.run 5 rfl ⟨⟨t1, t2⟩, t2, show (0 : Int) ≤ i by omega, show (i : Int) < 16 by omega⟩ ?_
      try dsimp only
      try dsimp only
      rw [tn i hi16]
      have eli : H.2.2.2.2 6 1 (fN F i) = bp 0 := ni.2.1.2.1
      refine J.run 1 rfl ⟨ni.1.1, by rw [eli]; exact hG.1.2.1⟩ ?_
      try dsimp only
      try dsimp only
      rw [eli]
      refine J.run 1 rfl hG.1.1 ?_
      try dsimp only
      try dsimp only
      rw [show H.1 0 1 (bp 0) = 0 from hG.1.2.2.2.1]
      refine J.max rfl rfl rfl ⟨by decide, by decide⟩ ⟨by decide, by decide⟩ ?_
      rw [if_neg (by decide)]
      refine J.run0 1 rfl ?_
      try dsimp only
      refine J.run0 2 rfl ?_
      try dsimp only
      exact ih (i + 1) (by omega)
  refine J.run0 4 rfl ?_
  try dsimp only
  exact loop 16 0 rfl
set_option maxRecDepth 8000 in
theorem c_doubles (hP : cPic F w (zc 16) H je mp bp sp) : J b (d + 2) 109 w (0, jargs 0 [.inr (some (10, fX F))], [], H) (jN fun r w' H' => r = some (.inl 0) ∧ w' = w ∧ H' = H) := by
  obtain ⟨⟨t1, t2, t3, t4, t5, t6, t7, t8⟩, -⟩ := hP.1
  have hM := hP.2.1
  have es : H.1 7 4 (fP F) = 2 := by rw [hM.2.1, zM16]; rfl
  obtain ⟨n0, n1⟩ := hP.nx16
  obtain ⟨a5, a1, a2, a3, a4, -, a6, -⟩ := hP.m16 (i := 0) (by decide)
  obtain ⟨b5, b1, b2, b3, b4, -, b6, -⟩ := hP.m16 (i := 1) (by decide)
  refine J.run0 4 rfl ?_
  try dsimp only
  -- MESSAGE 0
  refine J.run 3 rfl ⟨t1, by rw [t4]; exact t7⟩ ?_
  try dsimp only
  try dsimp only
  rw [t4]
  refine J.run 1 rfl hM.1.1 ?_
  try dsimp only
  try dsimp only
  rw [es]
  refine J.icmp rfl rfl rfl ⟨⟨by decide, by decide⟩, by decide, by decide⟩ (fun hc => absurd (show (2 : Int) ≤ 0 from hc) (by decide)) (fun _ => ?_)
  refine J.run 3 rfl ⟨t1, by rw [t4]; exact t7⟩ ?_
  try dsimp only
  try dsimp only
  rw [t4]
  refine J.inv rfl rfl rfl rfl rfl rfl ((jD_w rfl).mpr hM.1.1) rfl rfl rfl rfl rfl (c_pg hP ⟨by decide, by decide⟩) ?_
  rintro r w H ⟨rfl, rfl, rfl⟩
  rw [if_pos (by decide)]
  refine J.run 6 rfl a5 ?_
  try dsimp only
  try dsimp only
  rw [show H.1 5 2 (mp (Int.toNat 0)) = 1 from a3]
  refine J.inv rfl rfl rfl rfl rfl rfl ((jD_w rfl).mpr t1) rfl rfl rfl rfl rfl (c_isFaulty hP ⟨by decide, by decide⟩) ?_
  rintro r w H ⟨rfl, rfl, rfl⟩
  refine J.ifc rfl rfl rfl ⟨by decide, by decide⟩ (fun hc => absurd rfl hc) (fun _ => ?_)
  refine J.run 2 rfl a5 ?_
  try dsimp only
  try dsimp only
  rw [show H.2.1 5 7 (mp (Int.toNat 0)) = some (mp 1) from n0]
  refine J.run0 1 rfl ?_
  try dsimp only
  refine J.run 6 rfl ⟨b5, a5⟩ ?_
  try dsimp only
  try dsimp only
  rw [b3, show H.1 5 2 (mp (Int.toNat 0)) = 1 from a3]
  refine J.icmp rfl rfl rfl ⟨⟨by decide, by decide⟩, by decide, by decide⟩ (fun hc => absurd rfl hc) (fun _ => ?_)
  refine J.run 4 rfl ⟨b5, a5⟩ ?_
  try dsimp only
  try dsimp only
  rw [b2, show H.1 5 1 (mp (Int.toNat 0)) = ((0 : Nat) : Int) from a2]
  refine J.icmp rfl rfl rfl ⟨⟨by decide, by decide⟩, by decide, by decide⟩ (fun _ => ?_) (fun hc => absurd (show ¬ ((1 : Nat) : Int) = ((0 : Nat) : Int) by decide) hc)
  refine J.run 2 rfl b5 ?_
  try dsimp only
  try dsimp only
  rw [n1]
  refine J.run0 2 rfl ?_
  try dsimp only
  refine J.run0 2 rfl ?_
  try dsimp only
  refine J.run0 2 rfl ?_
  try dsimp only
  -- MESSAGE 1
  refine J.run 3 rfl ⟨t1, by rw [t4]; exact t7⟩ ?_
  try dsimp only
  try dsimp only
  rw [t4]
  refine J.run 1 rfl hM.1.1 ?_
  try dsimp only
  try dsimp only
  rw [es]
  refine J.icmp rfl rfl rfl ⟨⟨by decide, by decide⟩, by decide, by decide⟩ (fun hc => absurd (show (2 : Int) ≤ 0 + 1 from hc) (by decide)) (fun _ => ?_)
  refine J.run 3 rfl ⟨t1, by rw [t4]; exact t7⟩ ?_
  try dsimp only
  try dsimp only
  rw [t4]
  refine J.inv rfl rfl rfl rfl rfl rfl ((jD_w rfl).mpr hM.1.1) rfl rfl rfl rfl rfl (c_pg hP ⟨by decide, by decide⟩) ?_
  rintro r w H ⟨rfl, rfl, rfl⟩
  rw [if_pos (by decide)]
  refine J.run 6 rfl b5 ?_
  try dsimp only
  try dsimp only
  rw [show H.1 5 2 (mp (Int.toNat (0 + 1))) = 1 from b3]
  refine J.inv rfl rfl rfl rfl rfl rfl ((jD_w rfl).mpr t1) rfl rfl rfl rfl rfl (c_isFaulty hP ⟨by decide, by decide⟩) ?_
  rintro r w H ⟨rfl, rfl, rfl⟩
  refine J.ifc rfl rfl rfl ⟨by decide, by decide⟩ (fun hc => absurd rfl hc) (fun _ => ?_)
  refine J.run 2 rfl b5 ?_
  try dsimp only
  try dsimp only
  rw [show H.2.1 5 7 (mp (Int.toNat (0 + 1))) = none from n1]
  refine J.run0 1 rfl ?_
  try dsimp only
  refine J.run0 2 rfl ?_
  try dsimp only
  refine J.run0 2 rfl ?_
  try dsimp only
  refine J.run 3 rfl ⟨t1, by rw [t4]; exact t7⟩ ?_
  try dsimp only
  try dsimp only
  rw [t4]
  refine J.run 1 rfl hM.1.1 ?_
  try dsimp only
  try dsimp only
  rw [es]
  refine J.icmp rfl rfl rfl ⟨⟨by decide, by decide⟩, by decide, by decide⟩ (fun _ => ?_) (fun hc => absurd (show (2 : Int) ≤ 0 + 1 + 1 by decide) hc)
  refine J.run0 1 rfl ?_
  try dsimp only
  exact J.reti rfl rfl rfl ⟨_, rfl, rfl, rfl, rfl⟩
def cntA (what : Int) : Int := if what = 1 ∨ what = 2 then 2 else 0
def cntK (what : Int) : Int := if 0 ≤ what ∧ what ≤ 8 then 0 else 1
set_option maxRecDepth 8000 in
theorem c_count {what : Int} (hF : fRm F) (hP : cPic F w (zc 16) H je mp bp sp) (bx : jR what) : J true (d + 6) 87 w (0, jargs 0 [.inr (some (10, fX F)), .inl what], [], H) (cOut H (cntK what) 12 (cntA what)) := by
  have hw := hP.sm hF
  obtain ⟨⟨t1, t2, t3, t4, t5, t6, t7, t8⟩, tn, ti, -, u1, u2, u3⟩ := hP.1
  have hG := (hP.b16 (i := 0) (by decide)).2
  have eg : bp 0 = fG F := hP.2.2.1.2.1.2.2.2
  have u3 := u3.trans eg.symm
  unfold cntK
  refine J.run0 1 rfl ?_
  try dsimp only
  by_cases hx : 0 ≤ what ∧ what ≤ 8
  rotate_left
  · rw [if_neg hx]
    refine J.tsw rfl rfl rfl bx (if_pos (by omega)) ?_
    exact c_thr hw (by decide) rfl rfl rfl rfl
  rw [if_pos hx]
  have hwh : what = 0 ∨ what = 1 ∨ what = 2 ∨ what = 3 ∨ what = 4 ∨ what = 5 ∨ what = 6 ∨ what = 7 ∨ what = 8 := by omega
  rcases hwh with rfl | rfl | rfl | rfl | rfl | rfl | rfl | rfl | rfl
  · refine J.tsw rfl rfl rfl bx rfl ?_
    refine J.run 2 rfl ⟨t1, by rw [t3]; exact t6⟩ ?_
    try dsimp only
    try dsimp only
    rw [t3]
    refine J.run 1 rfl hP.2.2.1.1.1 ?_
    try dsimp only
    try dsimp only
    rw [hP.2.2.1.2.1.2.1]
    exact J.reti rfl rfl rfl (cOut.ok hw (jCl.refl _))
  · refine J.tsw rfl rfl rfl bx rfl ?_
    refine J.run 2 rfl ⟨t1, by rw [t4]; exact t7⟩ ?_
    try dsimp only
    try dsimp only
    rw [t4]
    refine J.run 1 rfl hP.2.1.1.1 ?_
    try dsimp only
    try dsimp only
    rw [hP.2.1.2.1, zM16]
    exact J.reti rfl rfl rfl (cOut.ok hw (jCl.refl _))
  · refine J.tsw rfl rfl rfl bx rfl ?_
    refine J.run 2 rfl ⟨t1, by rw [t3]; exact t6⟩ ?_
    try dsimp only
    try dsimp only
    rw [t3]
    refine J.run 1 rfl hP.2.2.1.1.1 ?_
    try dsimp only
    try dsimp only
    rw [hP.2.2.1.2.1.1, zB16]
    exact J.reti rfl rfl rfl (cOut.ok hw (jCl.refl _))
  · refine J.tsw rfl rfl rfl bx rfl ?_
    refine J.run0 1 rfl ?_
    try dsimp only
    refine J.inv rfl rfl rfl rfl rfl rfl ((jD_w rfl).mpr t1) rfl rfl rfl rfl rfl (c_faultyNodes (g := fun _ => false) hP.1 (fun n hn => (hP.n16 hn).1.1) (fun n hn => (hP.n16 hn).2.1.2.2.2.2.2.2.1)) ?_
    rintro r w H ⟨rfl, rfl, rfl⟩
    exact J.reti rfl rfl rfl (cOut.ok hw (jCl.refl _))
  · refine J.tsw rfl rfl rfl bx rfl ?_
    refine J.run 2 rfl ⟨t1, by rw [t5]; exact t8⟩ ?_
    try dsimp only
    try dsimp only
    rw [t5]
    refine J.run 1 rfl ⟨u1, by rw [u3]; exact hG.1.2.1⟩ ?_
    try dsimp only
    try dsimp only
    rw [u3]
    refine J.run 1 rfl hG.1.1 ?_
    try dsimp only
    try dsimp only
    rw [show H.1 0 0 (bp 0) = 0 from hG.1.2.2.1]
    exact J.reti rfl rfl rfl (cOut.ok hw (jCl.refl _))
  · refine J.tsw rfl rfl rfl bx rfl ?_
    refine J.run0 1 rfl ?_
    try dsimp only
    refine J.inv rfl rfl rfl rfl rfl rfl ((jD_w rfl).mpr t1) rfl rfl rfl rfl rfl (c_split (d := d + 3) hP) ?_
    rintro r w H ⟨rfl, rfl, rfl⟩
    exact J.reti rfl rfl rfl (cOut.ok hw (jCl.refl _))
  · refine J.tsw rfl rfl rfl bx rfl ?_
    refine J.run0 1 rfl ?_
    try dsimp only
    refine J.inv rfl rfl rfl rfl rfl rfl ((jD_w rfl).mpr t1) rfl rfl rfl rfl rfl (c_off (d := d + 3) hP) ?_
    rintro r w H ⟨rfl, rfl, rfl⟩
    exact J.reti rfl rfl rfl (cOut.ok hw (jCl.refl _))
  · refine J.tsw rfl rfl rfl bx rfl ?_
    refine J.run0 1 rfl ?_
    try dsimp only
    refine J.inv rfl rfl rfl rfl rfl rfl ((jD_w rfl).mpr t1) rfl rfl rfl rfl rfl (c_great (d := d + 5) hP) ?_
    rintro r w H ⟨rfl, rfl, rfl⟩
    exact J.reti rfl rfl rfl (cOut.ok hw (jCl.refl _))
  · refine J.tsw rfl rfl rfl bx rfl ?_
    refine J.run0 1 rfl ?_
    try dsimp only
    refine J.inv rfl rfl rfl rfl rfl rfl ((jD_w rfl).mpr t1) rfl rfl rfl rfl rfl (c_doubles (d := d + 3) hP) ?_
    rintro r w H ⟨rfl, rfl, rfl⟩
    exact J.reti rfl rfl rfl (cOut.ok hw (jCl.refl _))
end SQ
