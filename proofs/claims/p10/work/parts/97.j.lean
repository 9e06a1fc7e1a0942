/-! the class's calls on a new object: follow, sync -/
section SR
variable {b : Bool} {d : Nat} {w : jW} {H : jH} {F : cF} {je mp bp sp : Nat → Nat}
theorem c_firstQ {p h q : Nat} (h7 : w.1 7 p) (hr : w.1 29 p) (hh : h ≤ 120) (hq : q < 32) : J b d 48 w (0, jargs 0 [.inr (some (7, p)), .inl (h : Int), .inl (q : Int)], [], H) (jN fun r w' H' => r = some (.inr ((H.2.2.2.1 29 p ((h : Int) * 32 + q)).map fun q => (5, q))) ∧ w' = w ∧ H' = H) := by
  refine J.run0 1 rfl ?_
  try dsimp only
  refine J.ifc rfl rfl rfl ⟨by omega, by omega⟩ (fun hc => absurd (show (h : Int) < 0 from hc) (by omega)) (fun _ => ?_)
  refine J.run0 2 rfl ?_
  try dsimp only
  refine J.icmp rfl rfl rfl ⟨⟨by omega, by omega⟩, by decide, by decide⟩ (fun hc => absurd (show (120 : Int) < h from hc) (by omega)) (fun _ => ?_)
  refine J.run0 1 rfl ?_
  try dsimp only
  refine J.ifc rfl rfl rfl ⟨by omega, by omega⟩ (fun hc => absurd (show (q : Int) < 0 from hc) (by omega)) (fun _ => ?_)
  refine J.run0 2 rfl ?_
  try dsimp only
  refine J.icmp rfl rfl rfl ⟨⟨by omega, by omega⟩, by decide, by decide⟩ (fun _ => ?_) (fun hc => absurd (show (q : Int) < 32 by omega) hc)
  refine J.run 8 rfl ⟨⟨h7, hr⟩, hr, show (0 : Int) ≤ (h : Int) * 32 + q by omega, show (h : Int) * 32 + q < 3872 by omega⟩ ?_
  try dsimp only
  exact J.reta rfl rfl rfl ⟨_, rfl, rfl, rfl, rfl⟩
/-- nobody precommitted -/
theorem c_precom {i q : Nat} (hP : cPic F w (zc 16) H je mp bp sp) (hi : i < 2) (hq : q < 32) : J b (d + 1) 51 w (0, jargs 0 [.inr (some (7, fP F)), .inr (some (0, bp i)), .inl (q : Int)], [], H) (jN fun r w' H' => r = some (.inl 0) ∧ w' = w ∧ H' = H) := by
  have hM := hP.2.1
  have hG := (hP.b16 hi).2
  obtain ⟨n0, n1⟩ := hP.nx16
  obtain ⟨a5, a1, a2, a3, a4, -, a6, -⟩ := hP.m16 (i := 0) (by decide)
  obtain ⟨b5, b1, b2, b3, b4, -, b6, -⟩ := hP.m16 (i := 1) (by decide)
  have fin : ∀ lv : jL, lv.lookup 3 = some (.inl 0) → J b (d + 1) 51 w (59, lv, [], H) (jN fun r w' H' => r = some (.inl 0) ∧ w' = w ∧ H' = H) → True := fun _ _ _ => trivial
  refine J.run 5 rfl hG.1.1 ?_
  try dsimp only
  try dsimp only
  rw [show H.1 0 1 (bp i) = (i : Int) from hG.1.2.2.2.1]
  refine J.run0 1 rfl ?_
  try dsimp only
  refine J.inv rfl rfl rfl rfl rfl rfl ((jD_w rfl).mpr hM.1.1) rfl rfl rfl rfl rfl (c_firstQ hM.1.1 hM.1.2.2.1 (by omega) hq) ?_
  rintro r w H ⟨rfl, rfl, rfl⟩
  have hnone : H.2.2.2.1 29 (fP F) ((i : Int) * 32 + q) = none → J b (d + 1) 51 w (11, [(3, .inl 0), (0, .inr (some (7, fP F))), (1, .inr (some (0, bp i))), (2, .inl (q : Int))], [.inr ((H.2.2.2.1 29 (fP F) ((i : Int) * 32 + q)).map fun q => (5, q))], H) (jN fun r w' H' => r = some (.inl 0) ∧ w' = w ∧ H' = H) := by
    intro e
    rw [e]
    refine J.run0 3 rfl ?_
    try dsimp only
    refine J.run0 1 rfl ?_
    try dsimp only
    exact J.reti rfl rfl rfl ⟨_, rfl, rfl, rfl, rfl⟩
  by_cases hq0 : q = 0
  rotate_left
  · exact hnone (hM.2.2.2.1.2.2 _ (by omega))
  subst hq0
  have ef := (hM.2.2.2.2 i (by omega)).1
  rw [nxt16] at ef
  have h9 : i = 0 ∨ i = 1 := by omega
  rcases h9 with rfl | rfl
  · exact hnone ef
  rw [show H.2.2.2.1 29 (fP F) (((1 : Nat) : Int) * 32 + ((0 : Nat) : Int)) = some (mp 0) from ef]
  refine J.run0 1 rfl ?_
  try dsimp only
  refine J.run 5 rfl a5 ?_
  try dsimp only
  try dsimp only
  rw [a2]
  refine J.icmp rfl rfl rfl ⟨⟨by decide, by decide⟩, by decide, by decide⟩ (fun _ => ?_) (fun hc => absurd (show ¬ ((0 : Nat) : Int) = 2 by decide) hc)
  refine J.run 2 rfl a5 ?_
  try dsimp only
  try dsimp only
  rw [n0]
  refine J.run0 2 rfl ?_
  try dsimp only
  refine J.run 5 rfl b5 ?_
  try dsimp only
  try dsimp only
  rw [b2]
  refine J.icmp rfl rfl rfl ⟨⟨by decide, by decide⟩, by decide, by decide⟩ (fun _ => ?_) (fun hc => absurd (show ¬ ((1 : Nat) : Int) = 2 by decide) hc)
  refine J.run 2 rfl b5 ?_
  try dsimp only
  try dsimp only
  rw [n1]
  refine J.run0 2 rfl ?_
  try dsimp only
  refine J.run0 2 rfl ?_
  try dsimp only
  refine J.run0 1 rfl ?_
  try dsimp only
  exact J.reti rfl rfl rfl ⟨_, rfl, rfl, rfl, rfl⟩
theorem mcnt_0 : mcnt 0 16 = 0 := by decide +kernel
theorem mcnt_a : mcnt 65535 16 = 16 := by decide +kernel
theorem c_mostClaim {q cl : Nat} (h0 : w.1 0 q) (hc0 : 0 < H.2.2.2.2 0 5 q) (h43 : w.1 43 (H.2.2.2.2 0 5 q)) (hc : ∀ n, 0 ≤ n → n < 16 → H.2.2.1 43 (H.2.2.2.2 0 5 q) n = 100) : J b (d + 1) 8 w (0, jargs 0 [.inr (some (0, q)), .inl 0], [], H) (jN fun r w' H' => r = some (.inl 0) ∧ w' = w ∧ H' = H) := by
  refine J.run 4 rfl ⟨h0, hc0⟩ ?_
  try dsimp only
  refine J.ins4 rfl rfl rfl (Or.inr (Or.inl rfl)) rfl rfl rfl rfl rfl (jstP.of rfl) (c_weigh h43 hc) ?_
  rintro r w H ⟨rfl, rfl, rfl⟩
  rw [mcnt_0]
  refine J.run 5 rfl ⟨h0, hc0⟩ ?_
  try dsimp only
  refine J.ins4 rfl rfl rfl (Or.inr (Or.inl rfl)) rfl rfl rfl rfl rfl (jstP.of rfl) (c_weigh h43 hc) ?_
  rintro r w H ⟨rfl, rfl, rfl⟩
  rw [mcnt_a]
  refine J.run0 1 rfl ?_
  try dsimp only
  refine J.icmp rfl rfl rfl ⟨⟨by decide, by decide⟩, by decide, by decide⟩ (fun _ => ?_) (fun hc => absurd (show 3 * (100 * ((0 : Nat) : Int)) ≤ 2 * (100 * ((16 : Nat) : Int)) by decide) hc)
  refine J.run0 1 rfl ?_
  try dsimp only
  exact J.retb rfl rfl rfl (by decide) ⟨_, rfl, rfl, rfl, rfl⟩
theorem c_sameRow {p q : Nat} (hp : w.1 43 p) (hq : w.1 43 q) (vp : ∀ n, 0 ≤ n → n < 16 → H.2.2.1 43 p n = 100) (vq : ∀ n, 0 ≤ n → n < 16 → H.2.2.1 43 q n = 100) : J b d 112 w (0, jargs 0 [.inr (some (43, p)), .inr (some (43, q))], [], H) (jN fun r w' H' => r = some (.inl 1) ∧ w' = w ∧ H' = H) := by
  have loop : ∀ (m i : Nat), i + m = 16 → J b d 112 w (2, [(2, .inl (i : Int)), (0, .inr (some (43, p))), (1, .inr (some (43, q)))], [], H) (jN fun r w' H' => r = some (.inl 1) ∧ w' = w ∧ H' = H) := by
    intro m
    induction m with
    | zero =>
      intro i hi
      obtain rfl : i = 16 := by omega
      refine J.run0 2 rfl ?_
      try dsimp only
      refine J.icmp rfl rfl rfl ⟨⟨by decide, by decide⟩, by decide, by decide⟩ (fun _ => ?_) (fun hc => absurd (show (16 : Int) ≤ (16 : Nat) by decide) hc)
      refine J.run0 1 rfl ?_
      try dsimp only
      exact J.retb rfl rfl rfl (by decide) ⟨_, rfl, rfl, rfl, rfl⟩
    | succ m ih =>
      intro i hi
      have i0 : (0 : Int) ≤ i ∧ (i : Int) < 16 := by omega
      refine J.run0 2 rfl ?_
      try dsimp only
      refine J.icmp rfl rfl rfl ⟨⟨by omega, by omega⟩, by decide, by decide⟩ (fun hc => absurd (show (16 : Int) ≤ (i : Int) from hc) (by omega)) (fun _ => ?_)
      refine J.run 6 rfl ⟨⟨hp, i0⟩, hq, i0⟩ ?_
      try dsimp only
      try dsimp only
      rw [vp i i0.1 i0.2, vq i i0.1 i0.2]
      refine J.icmp rfl rfl rfl ⟨⟨by decide, by decide⟩, by decide, by decide⟩ (fun _ => ?_) (fun hc => absurd rfl hc)
      refine J.run0 2 rfl ?_
      try dsimp only
      exact ih (i + 1) (by omega)
  refine J.run0 2 rfl ?_
  try dsimp only
  exact loop 16 0 rfl
theorem c_trust_l {i : Nat} (hP : cPic F w (zc 16) H je mp bp sp) (hi : i < 2) {rise : Int} : ∀ (m q : Nat) (lv : jL), q + m = 32 → (lv = [(4, .inl (q : Int)), (3, .inl rise), (0, .inr (some (1, fC F))), (1, .inr (some (0, bp i))), (2, .inr (some (7, fP F)))] ∨ ∃ x, lv = [(4, .inl (q : Int)), (5, .inl x), (3, .inl rise), (0, .inr (some (1, fC F))), (1, .inr (some (0, bp i))), (2, .inr (some (7, fP F)))]) → J b (d + 3) 6 w (90, lv, [], H) (jN fun r w' H' => r = some (.inl 0) ∧ w' = w ∧ H' = H) := by
  have hM := hP.2.1
  obtain ⟨⟨g1, -⟩, -, ⟨g10, g11, g12⟩, -⟩ := (hP.b16 hi).2
  intro m
  induction m with
  | zero =>
    intro q lv hq hlv
    obtain rfl : q = 32 := by omega
    rcases hlv with rfl | ⟨x, rfl⟩
    all_goals
      refine J.run0 2 rfl ?_
      try dsimp only
      refine J.icmp rfl rfl rfl ⟨⟨by decide, by decide⟩, by decide, by decide⟩ (fun _ => ?_) (fun hc => absurd (show (32 : Int) ≤ (32 : Nat) by decide) hc)
      refine J.run0 1 rfl ?_
      try dsimp only
      exact J.retb rfl rfl rfl (by decide) ⟨_, rfl, rfl, rfl, rfl⟩
  | succ m ih =>
    intro q lv hq hlv
    rcases hlv with rfl | ⟨x, rfl⟩
    all_goals
      refine J.run0 2 rfl ?_
      try dsimp only
      refine J.icmp rfl rfl rfl ⟨⟨by omega, by omega⟩, by decide, by decide⟩ (fun hc => absurd (show (32 : Int) ≤ (q : Int) from hc) (by omega)) (fun _ => ?_)
      refine J.run0 3 rfl ?_
      try dsimp only
      refine J.inv rfl rfl rfl rfl rfl rfl ((jD_w rfl).mpr hM.1.1) rfl rfl rfl rfl rfl (c_precom (d := d + 1) hP hi (show q < 32 by omega)) ?_
      rintro r w H ⟨rfl, rfl, rfl⟩
      refine J.run0 3 rfl ?_
      try dsimp only
      refine J.ins rfl rfl rfl rfl rfl rfl rfl rfl rfl (c_mostClaim (d := d + 1) (cl := 0) g1 g10 g11 g12) ?_
      rintro r w H ⟨rfl, rfl, rfl⟩
      refine J.ifc rfl rfl rfl ⟨by decide, by decide⟩ (fun _ => ?_) (fun hc => absurd rfl hc)
      refine J.run0 2 rfl ?_
      try dsimp only
      exact ih (q + 1) _ (by omega) (Or.inr ⟨_, rfl⟩)
theorem c_mayTrust {i : Nat} (hP : cPic F w (zc 16) H je mp bp sp) (hi : i < 2) : J b (d + 3) 6 w (0, jargs 0 [.inr (some (1, fC F)), .inr (some (0, bp i)), .inr (some (7, fP F))], [], H) (jN fun r w' H' => r = some (.inl 0) ∧ w' = w ∧ H' = H) := by
  obtain ⟨-, -, -, -, u1, u2, u3⟩ := hP.1
  have eg : bp 0 = fG F := hP.2.2.1.2.1.2.2.2
  have u3' : H.2.2.2.2 1 0 (fC F) = bp 0 := u3.trans eg.symm
  obtain ⟨⟨g1, g2, g3, g4, g5, g6⟩, ⟨g7, g8, g9⟩, ⟨g10, g11, g12⟩, g13, g14, g15, g16⟩ := (hP.b16 hi).2
  have hG := (hP.b16 (i := 0) (by decide)).2
  refine J.run 2 rfl g1 ?_
  try dsimp only
  try dsimp only
  rw [g4]
  refine J.run 2 rfl ⟨u1, by rw [u3']; exact hG.1.2.1⟩ ?_
  try dsimp only
  try dsimp only
  rw [u3']
  refine J.run 1 rfl hG.1.1 ?_
  try dsimp only
  try dsimp only
  rw [show H.1 0 1 (bp 0) = ((0 : Nat) : Int) from hG.1.2.2.2.1]
  refine J.run0 4 rfl ?_
  try dsimp only
  have h9 : i = 0 ∨ i = 1 := by omega
  rcases h9 with rfl | rfl
  · refine J.icmp rfl rfl rfl ⟨⟨by decide, by decide⟩, by decide, by decide⟩ (fun _ => ?_) (fun hc => absurd (show ((0 : Nat) : Int) - ((0 : Nat) : Int) < 1 by decide) hc)
    refine J.run0 1 rfl ?_
    try dsimp only
    exact J.retb rfl rfl rfl (by decide) ⟨_, rfl, rfl, rfl, rfl⟩
  refine J.icmp rfl rfl rfl ⟨⟨by decide, by decide⟩, by decide, by decide⟩ (fun hc => absurd (show ((1 : Nat) : Int) - ((0 : Nat) : Int) < 1 from hc) (by decide)) (fun _ => ?_)
  refine J.run0 2 rfl ?_
  try dsimp only
  refine J.icmp rfl rfl rfl ⟨⟨by decide, by decide⟩, by decide, by decide⟩ (fun hc => absurd (show (40 : Int) < ((1 : Nat) : Int) - ((0 : Nat) : Int) from hc) (by decide)) (fun _ => ?_)
  refine J.run 2 rfl ⟨u1, by rw [u3']; exact hG.1.2.1⟩ ?_
  try dsimp only
  try dsimp only
  rw [u3']
  refine J.run 1 rfl hG.1.1 ?_
  try dsimp only
  try dsimp only
  rw [hG.2.2.2.1]
  refine J.run0 1 rfl ?_
  try dsimp only
  refine J.run0 2 rfl ?_
  try dsimp only
  refine J.icmp rfl rfl rfl ⟨⟨by decide, by decide⟩, by decide, by decide⟩ (fun hc => absurd (show ((1 : Nat) : Int) - ((0 : Nat) : Int) = 1 by decide) hc) (fun _ => ?_)
  refine J.run 2 rfl g1 ?_
  try dsimp only
  try dsimp only
  rw [g5, if_neg (by decide)]
  refine J.run0 1 rfl ?_
  try dsimp only
  refine J.run 2 rfl g1 ?_
  try dsimp only
  try dsimp only
  rw [g5, if_neg (by decide)]
  refine J.run 1 rfl hG.1.1 ?_
  try dsimp only
  try dsimp only
  rw [show H.1 0 0 (bp (1 - 1)) = ((0 : Nat) : Int) from hG.1.2.2.1]
  refine J.run 2 rfl ⟨u1, by rw [u3']; exact hG.1.2.1⟩ ?_
  try dsimp only
  try dsimp only
  rw [u3']
  refine J.run 1 rfl hG.1.1 ?_
  try dsimp only
  try dsimp only
  rw [show H.1 0 0 (bp 0) = ((0 : Nat) : Int) from hG.1.2.2.1]
  refine J.icmp rfl rfl rfl ⟨⟨by decide, by decide⟩, by decide, by decide⟩ (fun hc => absurd rfl hc) (fun _ => ?_)
  refine J.run 2 rfl ⟨g1, g10⟩ ?_
  try dsimp only
  refine J.run 2 rfl ⟨u1, by rw [u3']; exact hG.1.2.1⟩ ?_
  try dsimp only
  try dsimp only
  rw [u3']
  refine J.run 1 rfl hG.1.1 ?_
  try dsimp only
  try dsimp only
  rw [hG.2.2.2.1]
  refine J.run 1 rfl ⟨hG.2.2.2.2.1.1, hG.2.2.2.2.2.2.2.1⟩ ?_
  try dsimp only
  refine J.ins4 rfl rfl rfl (Or.inr (Or.inl rfl)) rfl rfl rfl rfl rfl (jstP.of rfl) (c_sameRow g11 hG.2.2.2.2.2.2.2.2.1 g12 hG.2.2.2.2.2.2.2.2.2) ?_
  rintro r w H ⟨rfl, rfl, rfl⟩
  refine J.ifc rfl rfl rfl ⟨by decide, by decide⟩ (fun _ => ?_) (fun hc => absurd (show ¬ (1 : Int) = 0 by decide) hc)
  refine J.run0 2 rfl ?_
  try dsimp only
  exact c_trust_l hP hi 32 0 _ rfl (Or.inl rfl)
theorem c_cliCert {i : Nat} (hP : cPic F w (zc 16) H je mp bp sp) (hi : i < 2) : J b (d + 2) 7 w (0, jargs 0 [.inr (some (0, bp i)), .inr (some (7, fP F))], [], H) (jN fun r w' H' => r = some (.inl 0) ∧ w' = w ∧ H' = H) := by
  have hM := hP.2.1
  obtain ⟨⟨g1, -⟩, -, ⟨g10, g11, g12⟩, -⟩ := (hP.b16 hi).2
  have loop : ∀ (m q : Nat), q + m = 32 → J b (d + 2) 7 w (2, [(2, .inl (q : Int)), (0, .inr (some (0, bp i))), (1, .inr (some (7, fP F)))], [], H) (jN fun r w' H' => r = some (.inl 0) ∧ w' = w ∧ H' = H) := by
    intro m
    induction m with
    | zero =>
      intro q hq
      obtain rfl : q = 32 := by omega
      refine J.run0 2 rfl ?_
      try dsimp only
      refine J.icmp rfl rfl rfl ⟨⟨by decide, by decide⟩, by decide, by decide⟩ (fun _ => ?_) (fun hc => absurd (show (32 : Int) ≤ (32 : Nat) by decide) hc)
      refine J.run0 1 rfl ?_
      try dsimp only
      exact J.retb rfl rfl rfl (by decide) ⟨_, rfl, rfl, rfl, rfl⟩
    | succ m ih =>
      intro q hq
      refine J.run0 2 rfl ?_
      try dsimp only
      refine J.icmp rfl rfl rfl ⟨⟨by omega, by omega⟩, by decide, by decide⟩ (fun hc => absurd (show (32 : Int) ≤ (q : Int) from hc) (by omega)) (fun _ => ?_)
      refine J.run0 4 rfl ?_
      try dsimp only
      refine J.inv rfl rfl rfl rfl rfl rfl ((jD_w rfl).mpr hM.1.1) rfl rfl rfl rfl rfl (c_precom (d := d) hP hi (show q < 32 by omega)) ?_
      rintro r w H ⟨rfl, rfl, rfl⟩
      refine J.ins rfl rfl rfl rfl rfl rfl rfl rfl rfl (c_mostClaim (d := d) (cl := 0) g1 g10 g11 g12) ?_
      rintro r w H ⟨rfl, rfl, rfl⟩
      refine J.ifc rfl rfl rfl ⟨by decide, by decide⟩ (fun _ => ?_) (fun hc => absurd rfl hc)
      refine J.run0 2 rfl ?_
      try dsimp only
      exact ih (q + 1) (by omega)
  refine J.run0 2 rfl ?_
  try dsimp only
  exact loop 32 0 rfl
theorem c_halfWay {i : Nat} (hP : cPic F w (zc 16) H je mp bp sp) (hi : i < 2) : J b d 5 w (0, jargs 0 [.inr (some (1, fC F)), .inr (some (0, bp i))], [], H) (jN fun r w' H' => True) → True := fun _ => trivial
set_option maxRecDepth 8000 in
theorem c_follow {x : Int} (hF : fRm F) (hP : cPic F w (zc 16) H je mp bp sp) (bm : jR x) : J b (d + 6) 86 w (0, jargs 0 [.inr (some (10, fX F)), .inl x], [], H) (cOut H (if 0 ≤ x ∧ x ≤ 1 then 0 else 1) 14 (-1)) := by
  have hw := hP.sm hF
  obtain ⟨⟨t1, t2, t3, t4, t5, t6, t7, t8⟩, tn, ti, -, u1, u2, u3⟩ := hP.1
  by_cases h : 0 ≤ x ∧ x ≤ 1
  rotate_left
  · rw [if_neg h]
    refine J.run 3 rfl ⟨t1, by rw [t3]; exact t6⟩ ?_
    try dsimp only
    try dsimp only
    rw [t3]
    refine J.inv rfl rfl rfl rfl rfl rfl ((jD_w rfl).mpr hP.2.2.1.1.1) rfl rfl rfl rfl rfl (c_lg hP bm) ?_
    rintro r w H ⟨rfl, rfl, rfl⟩
    rw [if_neg h]
    refine J.run0 3 rfl ?_
    try dsimp only
    exact c_thr hw (by decide) rfl rfl rfl rfl
  rw [if_pos h]
  refine J.run 3 rfl ⟨t1, by rw [t3]; exact t6⟩ ?_
  try dsimp only
  try dsimp only
  rw [t3]
  refine J.inv rfl rfl rfl rfl rfl rfl ((jD_w rfl).mpr hP.2.2.1.1.1) rfl rfl rfl rfl rfl (c_lg hP bm) ?_
  rintro r w H ⟨rfl, rfl, rfl⟩
  rw [if_pos h]
  obtain ⟨i, rfl⟩ : ∃ i : Nat, x = (i : Int) := ⟨x.toNat, by omega⟩
  rw [Int.toNat_natCast]
  have hi : i < 2 := by omega
  have g1 := (hP.b16 hi).2.1.1
  refine J.run0 3 rfl ?_
  try dsimp only
  refine J.run 2 rfl ⟨t1, by rw [t5]; exact t8⟩ ?_
  try dsimp only
  try dsimp only
  rw [t5]
  refine J.run 3 rfl ⟨t1, by rw [t4]; exact t7⟩ ?_
  try dsimp only
  try dsimp only
  rw [t4]
  have h9 : J b (d + 5) 4 w (0, jargs 0 [.inr (some (1, fC F)), .inr (some (0, bp i)), .inr (some (7, fP F))], [], H) (jN fun r w' H' => r = some (.inl (-1)) ∧ w' = w ∧ jK [] [20] H' H) := by
    refine J.run 9 rfl ⟨⟨u1, u2⟩, u2, g1, show (0 : Int) ≤ 0 by decide, show (0 : Int) < 16 by decide⟩ ?_
    try dsimp only
    refine J.gn fun H1 hH1 => ?_
    have k1 : jK [] [20] H1 H := by
      rw [hH1]
      refine jK.rows ?_ (by decide)
      exact jK.refl _ _ _
    have e1 : H1.2.2.2.1 20 (fC F) (1 - 1) = some (bp i) := by
      rw [hH1]
      show jsetR H.2.2.2.1 20 (fC F) (jup (H.2.2.2.1 20 (fC F)) 0 (some (bp i))) 20 (fC F) (1 - 1) = _
      rw [jsetR_eq]
      exact if_pos rfl
    clear hH1
    have hP1 : cPic F w (zc 16) H1 je mp bp sp := by
      obtain ⟨p1, p2, p3, p4, p5⟩ := hP
      exact ⟨p1.mv (fun _ _ h => h) k1 (by decide) (by decide), p2.mv (fun _ _ h => h) ⟨rfl, rfl⟩ k1 (by decide) (by decide), p3.mv (fun _ _ h => h) rfl k1 (by decide) (by decide), fun n hn => (p4 n hn).mv (fun _ _ h => h) (nSame.of k1 (by decide) (by decide)) (fun _ _ => rfl), p5⟩
    refine J.run0 2 rfl ?_
    try dsimp only
    refine J.icmp rfl rfl rfl ⟨⟨by decide, by decide⟩, by decide, by decide⟩ (fun hc => absurd (show (100000 : Int) ≤ 1 from hc) (by decide)) (fun _ => ?_)
    refine J.run 6 rfl ⟨⟨u1, u2⟩, u2, show (0 : Int) ≤ 1 - 1 by decide, show (1 - 1 : Int) < 16 by decide⟩ ?_
    try dsimp only
    try dsimp only
    rw [e1]
    refine J.run0 4 rfl ?_
    try dsimp only
    refine J.inv rfl rfl rfl rfl rfl rfl ((jD_w rfl).mpr u1) rfl rfl rfl rfl rfl (c_mayTrust (d := d + 1) hP1 hi) ?_
    rintro r w H1 ⟨rfl, rfl, rfl⟩
    refine J.ifc rfl rfl rfl ⟨by decide, by decide⟩ (fun _ => ?_) (fun hc => absurd rfl hc)
    refine J.run0 2 rfl ?_
    try dsimp only
    refine J.icmp rfl rfl rfl ⟨⟨by decide, by decide⟩, by decide, by decide⟩ (fun hc => absurd (show (16 : Int) ≤ 1 from hc) (by decide)) (fun _ => ?_)
    refine J.run0 2 rfl ?_
    try dsimp only
    refine J.ins rfl rfl rfl rfl rfl rfl rfl rfl rfl (c_cliCert (d := d + 2) hP1 hi) ?_
    rintro r w H1 ⟨rfl, rfl, rfl⟩
    refine J.ifc rfl rfl rfl ⟨by decide, by decide⟩ (fun _ => ?_) (fun hc => absurd rfl hc)
    refine J.run0 1 rfl ?_
    try dsimp only
    refine J.run0 5 rfl ?_
    try dsimp only
    exact J.reti rfl rfl rfl ⟨_, rfl, rfl, rfl, k1⟩
  refine J.inv rfl rfl rfl rfl rfl rfl ((jD_w rfl).mpr u1) rfl rfl rfl rfl rfl h9 ?_
  rintro r w' H' ⟨rfl, rfl, k1⟩
  exact J.reti rfl rfl rfl (cOut.ok hw (k1.cl rfl rfl))
theorem c_cert {i n : Nat} (hP : cPic F w (zc 16) H je mp bp sp) (hi : i < 2) (hn : n < 16) : J b (d + 3) 102 w (0, jargs 0 [.inr (some (10, fX F)), .inr (some (0, bp i)), .inr (some (6, fN F n))], [], H) (jN fun r w' H' => r = some (.inl 0) ∧ w' = w ∧ H' = H) := by
  have hM := hP.2.1
  obtain ⟨⟨t1, t2, t3, t4, t5, t6, t7, t8⟩, -⟩ := hP.1
  have hN := hP.n16 hn
  have hG := (hP.b16 (i := 0) (by decide)).2
  have loop : ∀ (m q : Nat), q + m = 32 → J b (d + 3) 102 w (2, [(3, .inl (q : Int)), (0, .inr (some (10, fX F))), (1, .inr (some (0, bp i))), (2, .inr (some (6, fN F n)))], [], H) (jN fun r w' H' => r = some (.inl 0) ∧ w' = w ∧ H' = H) := by
    intro m
    induction m with
    | zero =>
      intro q hq
      obtain rfl : q = 32 := by omega
      refine J.run0 2 rfl ?_
      try dsimp only
      refine J.icmp rfl rfl rfl ⟨⟨by decide, by decide⟩, by decide, by decide⟩ (fun _ => ?_) (fun hc => absurd (show (32 : Int) ≤ (32 : Nat) by decide) hc)
      refine J.run0 1 rfl ?_
      try dsimp only
      exact J.retb rfl rfl rfl (by decide) ⟨_, rfl, rfl, rfl, rfl⟩
    | succ m ih =>
      intro q hq
      refine J.run0 2 rfl ?_
      try dsimp only
      refine J.icmp rfl rfl rfl ⟨⟨by omega, by omega⟩, by decide, by decide⟩ (fun hc => absurd (show (32 : Int) ≤ (q : Int) from hc) (by omega)) (fun _ => ?_)
      refine J.run 3 rfl ⟨t1, by rw [t4]; exact t7⟩ ?_
      try dsimp only
      try dsimp only
      rw [t4]
      refine J.run0 2 rfl ?_
      try dsimp only
      refine J.inv rfl rfl rfl rfl rfl rfl ((jD_w rfl).mpr hM.1.1) rfl rfl rfl rfl rfl (c_precom (d := d + 1) hP hi (show q < 32 by omega)) ?_
      rintro r w H ⟨rfl, rfl, rfl⟩
      refine J.inv rfl rfl rfl rfl rfl rfl ((jD_w rfl).mpr hN.1.1) rfl rfl rfl rfl rfl (c_isMost (d := d) hN.1.1 hN.2.1.2.1 hG.1.2.1 hG.1.1 hG.2.2.2.1 hG.2.2.2.2.1.1 hG.2.2.2.2.2.2) ?_
      rintro r w H ⟨rfl, rfl, rfl⟩
      rw [mcnt_0, if_neg (by decide)]
      refine J.ifc rfl rfl rfl ⟨by decide, by decide⟩ (fun _ => ?_) (fun hc => absurd rfl hc)
      refine J.run0 2 rfl ?_
      try dsimp only
      exact ih (q + 1) (by omega)
  refine J.run0 2 rfl ?_
  try dsimp only
  exact loop 32 0 rfl
abbrev isY (n x : Int) : Prop := (0 ≤ n ∧ n ≤ 15) ∧ 0 ≤ x ∧ x ≤ 1
set_option maxRecDepth 8000 in
theorem c_sync {n x : Int} (hF : fRm F) (hP : cPic F w (zc 16) H je mp bp sp) (bn : jR n) (bm : jR x) : J b (d + 6) 78 w (0, jargs 0 [.inr (some (10, fX F)), .inl n, .inl x], [], H) (cOut H (if isY n x then 0 else 1) 14 1) := by
  have hw := hP.sm hF
  obtain ⟨⟨t1, t2, t3, t4, t5, t6, t7, t8⟩, tn, -⟩ := hP.1
  refine J.run 3 rfl ⟨t1, by rw [t3]; exact t6⟩ ?_
  try dsimp only
  try dsimp only
  rw [t3]
  refine J.inv rfl rfl rfl rfl rfl rfl ((jD_w rfl).mpr hP.2.2.1.1.1) rfl rfl rfl rfl rfl (c_lg hP bm) ?_
  rintro r w H ⟨rfl, rfl, rfl⟩
  by_cases hx : 0 ≤ x ∧ x ≤ 1
  rotate_left
  · rw [if_neg hx, if_neg (fun z => hx z.2)]
    refine J.run0 2 rfl ?_
    try dsimp only
    refine J.ins rfl rfl rfl rfl rfl rfl rfl rfl rfl (c_isNode bn) ?_
    rintro r w H ⟨rfl, rfl, rfl⟩
    by_cases h : 0 ≤ n ∧ n ≤ 15
    · rw [if_pos h]
      refine J.ifc rfl rfl rfl ⟨by decide, by decide⟩ (fun hc => absurd hc (show ¬ (1 : Int) = 0 by decide)) (fun _ => ?_)
      refine J.run0 2 rfl ?_
      try dsimp only
      exact c_thr hw (by decide) rfl rfl rfl rfl
    · rw [if_neg h]
      refine J.ifc rfl rfl rfl ⟨by decide, by decide⟩ (fun _ => ?_) (fun hc => absurd rfl hc)
      exact c_thr hw (by decide) rfl rfl rfl rfl
  rw [if_pos hx]
  refine J.run0 2 rfl ?_
  try dsimp only
  refine J.ins rfl rfl rfl rfl rfl rfl rfl rfl rfl (c_isNode bn) ?_
  rintro r w H ⟨rfl, rfl, rfl⟩
  by_cases h : 0 ≤ n ∧ n ≤ 15
  rotate_left
  · rw [if_neg h, if_neg (fun z => h z.1)]
    refine J.ifc rfl rfl rfl ⟨by decide, by decide⟩ (fun _ => ?_) (fun hc => absurd rfl hc)
    exact c_thr hw (by decide) rfl rfl rfl rfl
  rw [if_pos h, if_pos ⟨h, hx⟩]
  refine J.ifc rfl rfl rfl ⟨by decide, by decide⟩ (fun hc => absurd hc (show ¬ (1 : Int) = 0 by decide)) (fun _ => ?_)
  refine J.run0 2 rfl ?_
  try dsimp only
  obtain ⟨m, rfl⟩ : ∃ m : Nat, n = (m : Int) := ⟨n.toNat, by omega⟩
  obtain ⟨i, rfl⟩ : ∃ i : Nat, x = (i : Int) := ⟨x.toNat, by omega⟩
  rw [Int.toNat_natCast]
  have hm : m < 16 := by omega
  have hi : i < 2 := by omega
  have hN := hP.n16 hm
  have hG := (hP.b16 (i := 0) (by decide)).2
  have gx := (hP.b16 hi).2
  have ht0 : H.1 0 1 (bp 0) = 0 := hG.1.2.2.2.1
  refine J.run 4 rfl ⟨⟨t1, t2⟩, t2, h.1, show (m : Int) < 16 by omega⟩ ?_
  try dsimp only
  try dsimp only
  rw [tn m hm]
  refine J.run0 2 rfl ?_
  try dsimp only
  have fin : J b (d + 6) 78 w (77, [(4, .inr (some (6, fN F m))), (3, .inr (some (0, bp i))), (0, .inr (some (10, fX F))), (1, .inl (m : Int)), (2, .inl (i : Int))], [], H) (cOut H 0 14 1) := by
    refine J.run0 1 rfl ?_
    try dsimp only
    refine J.inv rfl rfl rfl rfl rfl rfl ((jD_w rfl).mpr hN.1.1) rfl rfl rfl rfl rfl (c_height hN.1.1 hN.2.1.2.1 hG.1.2.1 hG.1.1) ?_
    rintro r w H ⟨rfl, rfl, rfl⟩
    refine J.reti rfl rfl rfl ?_
    rw [ht0]
    exact cOut.ok hw (jCl.refl _)
  refine J.inv rfl rfl rfl rfl rfl rfl ((jD_w rfl).mpr hN.1.1) rfl rfl rfl rfl rfl (c_acts (hh := 0) hN.1.1 hN.2.1.2.1 hG.1.2.1 hG.1.1 hN.2.1.2.2.2.2.2.2.1 hN.2.1.2.2.2.2.2.2.2.1 ht0 (by decide)) ?_
  rintro r w H ⟨rfl, rfl, rfl⟩
  rw [if_pos (by decide)]
  refine J.ifc rfl rfl rfl ⟨by decide, by decide⟩ (fun hc => absurd hc (show ¬ (1 : Int) = 0 by decide)) (fun _ => ?_)
  refine J.run0 2 rfl ?_
  try dsimp only
  have h9 : i = 0 ∨ i = 1 := by omega
  rcases h9 with rfl | rfl
  · have hg : J b (d + 5) 36 w (0, jargs 0 [.inr (some (6, fN F m)), .inr (some (0, bp 0))], [], H) (jN fun r w' H' => r = some (.inl 0) ∧ w' = w ∧ H' = H) := by
      refine J.run0 2 rfl ?_
      try dsimp only
      refine J.run 2 rfl hG.1.1 ?_
      try dsimp only
      try dsimp only
      rw [hG.2.2.2.1]
      refine J.run0 1 rfl ?_
      try dsimp only
      refine J.run 2 rfl hG.1.1 ?_
      try dsimp only
      try dsimp only
      rw [show H.2.1 0 2 (bp 0) = none from hG.1.2.2.2.2.1]
      refine J.run0 1 rfl ?_
      try dsimp only
      refine J.run0 1 rfl ?_
      try dsimp only
      exact J.retb rfl rfl rfl (by decide) ⟨_, rfl, rfl, rfl, rfl⟩
    refine J.inv rfl rfl rfl rfl rfl rfl ((jD_w rfl).mpr hN.1.1) rfl rfl rfl rfl rfl hg ?_
    rintro r w H ⟨rfl, rfl, rfl⟩
    refine J.ifc rfl rfl rfl ⟨by decide, by decide⟩ (fun _ => ?_) (fun hc => absurd rfl hc)
    exact fin
  · refine J.inv rfl rfl rfl rfl rfl rfl ((jD_w rfl).mpr hN.1.1) rfl rfl rfl rfl rfl (c_isGood (x := 0) hN.1.1 hN.2.1.2.1 hG.1.2.1 hG.1.1 gx.1.1 gx.2.2.2.1 gx.1.2.2.2.2.1 hG.1.1 hG.1.2.2.1 hG.1.2.2.1 (by decide)) ?_
    rintro r w H ⟨rfl, rfl, rfl⟩
    refine J.ifc rfl rfl rfl ⟨by decide, by decide⟩ (fun hc => absurd hc (show ¬ (1 : Int) = 0 by decide)) (fun _ => ?_)
    refine J.run0 3 rfl ?_
    try dsimp only
    refine J.inv rfl rfl rfl rfl rfl rfl ((jD_w rfl).mpr t1) rfl rfl rfl rfl rfl (c_cert (d := d + 2) hP hi hm) ?_
    rintro r w H ⟨rfl, rfl, rfl⟩
    refine J.ifc rfl rfl rfl ⟨by decide, by decide⟩ (fun _ => ?_) (fun hc => absurd rfl hc)
    exact fin
end SR
