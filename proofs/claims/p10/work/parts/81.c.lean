/-! spread: the class's -/
section CT
variable {b : Bool} {d : Nat} {w : jW} {H : jH}
theorem zRest.row {z : zT} (h : zRest z) (hz : zInv z) (mask : Int) {m : Nat} (hm : m < zM z) : ∀ k : Nat, k ≤ 16 → zRest (zrow mask m k z)
  | 0, _ => h
  | k + 1, hk => by
    have ih := h.row hz mask hm k (by omega)
    have hi := hz.row mask hm k (by omega)
    unfold zrow
    split
    · exact ih.came hi (by omega) (Nat.lt_of_lt_of_le hm (zM_row mask m k z))
    · exact ih
/-- the places of MESSAGES -/
theorem cPic.at {F : cF} {z : zT} {je mp bp sp : Nat → Nat} {i p5 : Nat} (hP : cPic F w z H je mp bp sp) (hi : i < zM z) (h5 : H.2.2.2.1 28 (fP F) (i : Int) = some p5) : mp i = p5 := by
  have := (hP.2.1.2.2.1 i hi).1.2.2
  rw [h5] at this
  exact (Option.some.inj this).symm
abbrev sLv (F : cF) (n p5 : Nat) (c m many mask : Int) : jL := [(6, .inl (n : Int)), (5, .inr (some (5, p5))), (4, .inl c), (0, .inr (some (10, fX F))), (1, .inl m), (2, .inl many), (3, .inl mask)]
theorem c_row {F : cF} {z0 : zT} {j p5 : Nat} {c m many mask : Int} {H0 : jH} {Post : jO → jW → jH → Prop} (hz0 : zInv z0) (hr0 : zRest z0) (hj : j < zM z0) (hnext : ∀ w' H', cRest F w' (zrow mask j 16 z0) H' → jCl H' H0 → J b (d + 6) 74 w' (135, sLv F 16 p5 c m many mask, [], H') Post) :
    ∀ (l n : Nat) (w : jW) (H : jH), n + l = 16 → cRest F w (zrow mask j n z0) H → jCl H H0 → H.2.2.2.1 28 (fP F) (j : Int) = some p5 → J b (d + 6) 74 w (85, sLv F n p5 c m many mask, [], H) Post := by
  intro l
  induction l with
  | zero =>
    intro n w H hn hR hC h5
    obtain rfl : n = 16 := by omega
    refine J.run0 2 rfl ?_
    try dsimp only
    exact J.icmp rfl rfl rfl ⟨⟨by decide, by decide⟩, by decide, by decide⟩ (fun _ => hnext w H hR hC) (fun hc => absurd (show (16 : Int) ≤ (16 : Nat) by decide) hc)
  | succ l ih =>
    intro n w H hn hR hC h5
    have hzn := hz0.row mask hj n (by omega)
    have hrn := hr0.row hz0 mask hj n (by omega)
    have hjn : j < zM (zrow mask j n z0) := Nat.lt_of_lt_of_le hj (zM_row mask j n z0)
    have hn16 : n < 16 := by omega
    refine J.run0 2 rfl ?_
    try dsimp only
    refine J.icmp rfl rfl rfl ⟨⟨by omega, by omega⟩, by decide, by decide⟩ (fun hc => absurd (show (16 : Int) ≤ n from hc) (by omega)) (fun _ => ?_)
    refine J.run0 6 rfl ?_
    try dsimp only
    try dsimp only
    rw [mb_ushr mask (show n < 32 by omega)]
    have go : ∀ w' H', cRest F w' (zrow mask j (n + 1) z0) H' → jCl H' H → J b (d + 6) 74 w' (129, sLv F n p5 c m many mask, [], H') Post := by
      intro w' H' hR' hC'
      refine J.run0 2 rfl ?_
      try dsimp only
      exact ih (n + 1) w' H' (by omega) hR' (hC'.trans hC) (hC'.2.2 _ _ _ (by omega) h5)
    by_cases hm : mb mask n = true
    rotate_left
    · rw [if_neg hm]
      refine J.icmp rfl rfl rfl ⟨⟨by decide, by decide⟩, by decide, by decide⟩ (fun _ => ?_) (fun hc => absurd (show ¬ (0 : Int) = 1 by decide) hc)
      refine go w H ?_ (jCl.refl _)
      unfold zrow
      rw [if_neg hm]
      exact hR
    rw [if_pos hm]
    have hrow : zrow mask j (n + 1) z0 = zcame (zrow mask j n z0) j n := by
      show (if mb mask n = true then _ else _) = _
      rw [if_pos hm]
    obtain ⟨je, ⟨mp, bp, sp, hP⟩, hje⟩ := hR
    have hat5 := hP.at hjn h5
    obtain ⟨⟨t1, t2, t3, t4, t5, t6, t7, t8⟩, tn, -⟩ := hP.1
    refine J.icmp rfl rfl rfl ⟨⟨by decide, by decide⟩, by decide, by decide⟩ (fun hc => absurd rfl hc) (fun _ => ?_)
    refine J.run 6 rfl ⟨⟨t1, t2⟩, t2, show (0 : Int) ≤ n by omega, show (n : Int) < 16 by omega⟩ ?_
    try dsimp only
    try dsimp only
    rw [tn n hn16]
    have h9 := c_comesAnew (b := b) (d := d + 3) hzn hP hn16 hjn
    rw [hat5] at h9
    refine J.inv rfl rfl rfl rfl rfl rfl ((jD_w rfl).mpr t1) rfl rfl rfl rfl rfl h9 ?_
    rintro r w1 H1 ⟨rfl, ⟨hk, rfl, rfl⟩ | ⟨hk, rfl, hP1, hC1⟩⟩
    · refine J.ifc rfl rfl rfl ⟨by decide, by decide⟩ (fun _ => ?_) (fun hc => absurd rfl hc)
      refine go w1 H1 ?_ (jCl.refl _)
      rw [hrow]
      unfold zcame
      rw [if_pos hk]
      exact ⟨je, ⟨mp, bp, sp, hP⟩, hje⟩
    have hR1 : cRest F w1 (zknow (zrow mask j n z0) n j) H1 := ⟨je, ⟨mp, bp, sp, hP1⟩, fun q hq => by
      have e : nh (zknow (zrow mask j n z0) n j) q = nh (zrow mask j n z0) q := by
        by_cases hqn : q = n
        · subst hqn
          unfold zknow nh
          rw [zN_at]
        · unfold zknow nh
          rw [zN_ne _ _ hqn]
      rw [e]
      exact hje q hq⟩
    by_cases hh : zh (zrow mask j n z0) j = nh (zrow mask j n z0) n
    · rw [if_pos hh]
      refine J.ifc rfl rfl rfl ⟨by decide, by decide⟩ (fun hc => absurd hc (show ¬ (1 : Int) = 0 by decide)) (fun _ => ?_)
      obtain ⟨⟨-, -, -, -, -, -, -, -⟩, tn1, -⟩ := hP1.1
      refine J.run 5 rfl ⟨⟨t1, t2⟩, t2, show (0 : Int) ≤ n by omega, show (n : Int) < 16 by omega⟩ ?_
      try dsimp only
      try dsimp only
      rw [tn1 n hn16]
      refine J.inv rfl rfl rfl rfl rfl rfl ((jD_w rfl).mpr t1) rfl rfl rfl rfl rfl (c_doAll (d := d) (hzn.know hn16 hjn hk) hR1 hn16) ?_
      rintro r w2 H2 ⟨rfl, hR2, hC2⟩
      refine go w2 H2 ?_ (hC2.trans hC1)
      rw [hrow]
      unfold zcame
      rw [if_neg hk]
      exact hR2
    · rw [if_neg hh]
      refine J.ifc rfl rfl rfl ⟨by decide, by decide⟩ (fun _ => ?_) (fun hc => absurd rfl hc)
      refine go w1 H1 ?_ hC1
      rw [hrow, hrn.far hn16 hk hh]
      exact hR1
theorem c_spread_l {F : cF} {m many : Nat} {mask : Int} {H0 : jH} (hmany : many ≤ 100) (hm : m ≤ 6000) : ∀ (f k : Nat) (w : jW) (H : jH) (z : zT) (lv : jL), k + f = many → zInv z → zRest z → cRest F w z H → jCl H H0 → (lv = [(4, .inl (k : Int)), (0, .inr (some (10, fX F))), (1, .inl (m : Int)), (2, .inl (many : Int)), (3, .inl mask)] ∨ ∃ (x : Int) (y : Nat), lv = [(4, .inl (k : Int)), (6, .inl x), (5, .inr (some (5, y))), (0, .inr (some (10, fX F))), (1, .inl (m : Int)), (2, .inl (many : Int)), (3, .inl mask)]) →
    J b (d + 6) 74 w (49, lv, [], H) (jN fun r w' H' => r = some (.inl ((zspr mask m f k z).1 : Int)) ∧ (∃ z', zInv z' ∧ cRest F w' z' H') ∧ jCl H' H0) := by
  intro f
  induction f with
  | zero =>
    intro k w H z lv hk hz hr hR hC hlv
    rcases hlv with rfl | ⟨x, y, rfl⟩
    all_goals
      refine J.run0 2 rfl ?_
      try dsimp only
      refine J.icmp rfl rfl rfl ⟨⟨by omega, by omega⟩, by omega, by omega⟩ (fun _ => ?_) (fun hc => absurd (show (many : Int) ≤ k by omega) hc)
      refine J.run0 1 rfl ?_
      try dsimp only
      exact J.reti rfl rfl rfl ⟨_, rfl, rfl, ⟨z, hz, hR⟩, hC⟩
  | succ f ih =>
    intro k w H z lv hk hz hr hR hC hlv
    obtain ⟨je, ⟨mp, bp, sp, hP⟩, hje⟩ := hR
    obtain ⟨⟨t1, t2, t3, t4, t5, t6, t7, t8⟩, -⟩ := hP.1
    have hM := hP.2.1
    have hM6 := hz.1.1
    have esz : H.1 7 4 (fP F) = (zM z : Int) := hM.2.1
    rcases hlv with rfl | ⟨x, y, rfl⟩
    all_goals
      refine J.run0 2 rfl ?_
      try dsimp only
      refine J.icmp rfl rfl rfl ⟨⟨by omega, by omega⟩, by omega, by omega⟩ (fun hc => absurd (show (many : Int) ≤ k from hc) (by omega)) (fun _ => ?_)
      refine J.run 5 rfl ⟨t1, by rw [t4]; exact t7⟩ ?_
      try dsimp only
      try dsimp only
      rw [t4]
      refine J.run 1 rfl hM.1.1 ?_
      try dsimp only
      try dsimp only
      rw [esz]
      refine J.icmp rfl rfl rfl ⟨⟨by omega, by omega⟩, by omega, by omega⟩ (fun hc => ?_) (fun hc => ?_)
      · have hc' : (zM z : Int) ≤ (m : Int) + k := hc
        refine J.run0 1 rfl ?_
        try dsimp only
        refine J.reti rfl rfl rfl ⟨_, rfl, ?_, ⟨z, hz, je, ⟨mp, bp, sp, hP⟩, hje⟩, hC⟩
        unfold zspr
        rw [if_neg (by omega)]
      · have hc' : ¬ (zM z : Int) ≤ (m : Int) + k := hc
        have hlt : m + k < zM z := by omega
        refine J.run 2 rfl ⟨t1, by rw [t4]; exact t7⟩ ?_
        try dsimp only
        try dsimp only
        rw [t4]
        refine J.run0 3 rfl ?_
        try dsimp only
        have h5 := (hM.2.2.1 (m + k) hlt).1.2.2
        have h9 := c_postGet (b := b) (d := d + 5) hM.1.1 hM.1.2.1 hM.2.1 hM6 hlt h5
        rw [show ((m + k : Nat) : Int) = (m : Int) + (k : Int) by omega] at h9
        refine J.inv rfl rfl rfl rfl rfl rfl ((jD_w rfl).mpr hM.1.1) rfl rfl rfl rfl rfl h9 ?_
        rintro r w1 H1 ⟨rfl, rfl, rfl⟩
        refine J.run0 3 rfl ?_
        try dsimp only
        refine c_row (j := m + k) (H0 := H0) hz hr hlt (fun w' H' hR' hC' => ?_) 16 0 w1 H1 rfl ⟨je, ⟨mp, bp, sp, hP⟩, hje⟩ hC h5
        refine J.run0 2 rfl ?_
        try dsimp only
        have e : zspr mask m (f + 1) k z = zspr mask m f (k + 1) (zrow mask (m + k) 16 z) := by
          show (if m + k < zM z then _ else _) = _
          rw [if_pos hlt]
        rw [e]
        exact ih (k + 1) w' H' (zrow mask (m + k) 16 z) _ (by omega) (hz.row mask hlt 16 (by omega)) (hr.row hz mask hlt 16 (by omega)) hR' hC' (Or.inr ⟨_, _, rfl⟩)
end CT
