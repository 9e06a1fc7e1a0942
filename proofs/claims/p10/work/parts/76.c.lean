/-! the class: what a NODE does (3) -/
section CM2
variable {b : Bool} {d : Nat} {w : jW} {H : jH}
/-- the BLOCK of the HEIGHT, once there is a proposal -/
theorem cPic.good {F : cF} {z : zT} {je mp bp sp : Nat → Nat} {n : Nat} (hz : zInv z) (hP : cPic F w z H je mp bp sp) (hn : n < 16) (hB : nh z n < zB z) : H.2.2.2.1 21 (fL F) (nh z n : Int) = some (bp (nh z n)) ∧ w.1 0 (bp (nh z n)) ∧ H.2.1 0 6 (bp (nh z n)) = some (sp (nh z n)) ∧ H.2.1 0 2 (bp (nh z n)) = some (bp (nh z n - 1)) := by
  have hd := hP.2.2.1.2.2.2.1 (nh z n) hB
  have h1 := (hz.2.2.2.1 n hn).1.1
  refine ⟨hd.1, hd.2.2.1.1, hd.2.2.2.2.2.1, ?_⟩
  rw [hd.2.2.1.2.2.2.2.1, if_neg (by omega)]
theorem c_decide_l {F : cF} {n : Nat} {rd : Int} (hrd : rd = 0 ∨ rd = 1) : ∀ (m i : Nat) (lv : jL), 1 ≤ i → i + m = 32 → ((∃ x, lv = [(3, .inl (i : Int)), (4, .inr x), (2, .inl rd), (0, .inr (some (10, fX F))), (1, .inr (some (6, fN F n)))]) ∨ (∃ y, lv = [(3, .inl (i : Int)), (4, .inr none), (5, y), (2, .inl rd), (0, .inr (some (10, fX F))), (1, .inr (some (6, fN F n)))]) ∨ ∃ x y, lv = [(3, .inl (i : Int)), (5, y), (4, x), (2, .inl rd), (0, .inr (some (10, fX F))), (1, .inr (some (6, fN F n)))]) → J b d 91 w (14, lv, [], H) (jN fun r w' H' => r = some (.inl 0) ∧ w' = w ∧ H' = H) := by
  intro m
  induction m with
  | zero =>
    intro i lv h1 hi hlv
    obtain rfl : i = 32 := by omega
    rcases hlv with ⟨x, rfl⟩ | ⟨y, rfl⟩ | ⟨x, y, rfl⟩
    all_goals
      refine J.run0 2 rfl ?_
      try dsimp only
      refine J.icmp rfl rfl rfl ⟨⟨by decide, by decide⟩, by decide, by decide⟩ (fun _ => ?_) (fun hc => absurd (show (32 : Int) ≤ (32 : Nat) by decide) hc)
      refine J.run0 1 rfl ?_
      try dsimp only
      exact J.retb rfl rfl rfl (by decide) ⟨_, rfl, rfl, rfl, rfl⟩
  | succ m ih =>
    intro i lv h1 hi hlv
    have hbit : mb rd i = false := by
      rcases hrd with rfl | rfl
      · unfold mb
        show (0#32).getLsbD i = false
        simp
      · unfold mb
        show (1#32).getLsbD i = false
        rw [BitVec.getLsbD_one]
        have : ¬ i = 0 := by omega
        simp [this]
    rcases hlv with ⟨x, rfl⟩ | ⟨y, rfl⟩ | ⟨x, y, rfl⟩
    · refine J.run0 2 rfl ?_
      try dsimp only
      refine J.icmp rfl rfl rfl ⟨⟨by omega, by omega⟩, by decide, by decide⟩ (fun hc => absurd (show (32 : Int) ≤ i from hc) (by omega)) (fun _ => ?_)
      refine J.run0 6 rfl ?_
      try dsimp only
      try dsimp only
      rw [mb_ushr rd (show i < 32 by omega), if_neg (by rw [hbit]; decide)]
      refine J.icmp rfl rfl rfl ⟨⟨by decide, by decide⟩, by decide, by decide⟩ (fun _ => ?_) (fun hc => absurd (show ¬ (0 : Int) = 1 by decide) hc)
      refine J.run0 1 rfl ?_
      try dsimp only
      refine J.run0 3 rfl ?_
      try dsimp only
      refine J.run0 2 rfl ?_
      try dsimp only
      exact ih (i + 1) _ (by omega) (by omega) (Or.inl ⟨none, rfl⟩)
    all_goals
      refine J.run0 2 rfl ?_
      try dsimp only
      refine J.icmp rfl rfl rfl ⟨⟨by omega, by omega⟩, by decide, by decide⟩ (fun hc => absurd (show (32 : Int) ≤ i from hc) (by omega)) (fun _ => ?_)
      refine J.run0 6 rfl ?_
      try dsimp only
      try dsimp only
      rw [mb_ushr rd (show i < 32 by omega), if_neg (by rw [hbit]; decide)]
      refine J.icmp rfl rfl rfl ⟨⟨by decide, by decide⟩, by decide, by decide⟩ (fun _ => ?_) (fun hc => absurd (show ¬ (0 : Int) = 1 by decide) hc)
      refine J.run0 1 rfl ?_
      try dsimp only
      refine J.run0 3 rfl ?_
      try dsimp only
      refine J.run0 2 rfl ?_
      try dsimp only
      exact ih (i + 1) _ (by omega) (by omega) (Or.inr (Or.inl ⟨_, rfl⟩))
theorem c_decide {F : cF} {z : zT} {n : Nat} {je mp bp sp : Nat → Nat} (hz : zInv z) (hP : cPic F w z H je mp bp sp) (hn : n < 16) (hh : nh z n ≤ 120) : J b (d + 3) 91 w (0, jargs 0 [.inr (some (10, fX F)), .inr (some (6, fN F n))], [], H) (jN fun r w' H' => (r = some (.inl 0) ∧ w' = w ∧ H' = H ∧ ¬ (zprop z n = true ∧ 11 ≤ zcnt z n 2)) ∨ (r = some (.inl 1) ∧ w' = w ∧ (zprop z n = true ∧ 11 ≤ zcnt z n 2) ∧ cPic F w (zN z n (nh z n + 1, 0, 0, 0, nK z n)) H' (va_up je n 1) mp bp sp ∧ H'.1 6 6 (fN F n) = -1 ∧ H'.1 6 7 (fN F n) = -1 ∧ jCl H' H)) := by
  have hN := hP.2.2.2.1 n hn
  have hnd := hP.node hz hn
  have hT := hP.1
  obtain ⟨⟨t1, t2, t3, t4, t5, t6, t7, t8⟩, -⟩ := hP.1
  refine J.run 3 rfl ⟨t1, by rw [t4]; exact t7⟩ ?_
  try dsimp only
  try dsimp only
  rw [t4]
  refine J.inv rfl rfl rfl rfl rfl rfl ((jD_w rfl).mpr hN.1.1) rfl rfl rfl rfl rfl (c_height hN.1.1 hN.2.1.2.1 hnd.1.1 hnd.1.2.1) ?_
  rintro r w H ⟨rfl, rfl, rfl⟩
  rw [hnd.1.2.2]
  have hM := hP.2.1
  refine J.inv rfl rfl rfl rfl rfl rfl ((jD_w rfl).mpr hM.1.1) rfl rfl rfl rfl rfl (c_roundsOf hM.1.1 hM.1.2.2.2.2 hh) ?_
  rintro r w H ⟨rfl, rfl, rfl⟩
  rw [(hM.2.2.2.2 (nh z n) hh).2.2]
  have tail : ∀ (rd : Int) (lv : jL), rd = 0 ∨ rd = 1 → (¬ (zprop z n = true ∧ 11 ≤ zcnt z n 2)) → ((∃ x, lv = [(3, .inl ((1 : Nat) : Int)), (4, .inr x), (2, .inl rd), (0, .inr (some (10, fX F))), (1, .inr (some (6, fN F n)))]) ∨ (∃ y, lv = [(3, .inl ((1 : Nat) : Int)), (4, .inr none), (5, y), (2, .inl rd), (0, .inr (some (10, fX F))), (1, .inr (some (6, fN F n)))]) ∨ ∃ x y, lv = [(3, .inl ((1 : Nat) : Int)), (5, y), (4, x), (2, .inl rd), (0, .inr (some (10, fX F))), (1, .inr (some (6, fN F n)))]) → J b (d + 3) 91 w (14, lv, [], H) (jN fun r w' H' => (r = some (.inl 0) ∧ w' = w ∧ H' = H ∧ ¬ (zprop z n = true ∧ 11 ≤ zcnt z n 2)) ∨ (r = some (.inl 1) ∧ w' = w ∧ (zprop z n = true ∧ 11 ≤ zcnt z n 2) ∧ cPic F w (zN z n (nh z n + 1, 0, 0, 0, nK z n)) H' (va_up je n 1) mp bp sp ∧ H'.1 6 6 (fN F n) = -1 ∧ H'.1 6 7 (fN F n) = -1 ∧ jCl H' H)) := by
    intro rd lv hrd hno hlv
    refine J.post (c_decide_l hrd 31 1 lv (by omega) (by omega) hlv) ?_
    rintro o w' H' ⟨r, rfl, rfl, e1, e2⟩
    exact ⟨_, rfl, Or.inl ⟨rfl, e1, e2, hno⟩⟩
  refine J.run0 3 rfl ?_
  try dsimp only
  refine J.run0 2 rfl ?_
  try dsimp only
  refine J.icmp rfl rfl rfl ⟨⟨by decide, by decide⟩, by decide, by decide⟩ (fun hc => absurd (show (32 : Int) ≤ 0 from hc) (by decide)) (fun _ => ?_)
  refine J.run0 6 rfl ?_
  try dsimp only
  try dsimp only
  by_cases hx : (nxt (zM z) (zh z) (nh z n) 0).isSome = true
  rotate_left
  · have hno : ¬ (zprop z n = true ∧ 11 ≤ zcnt z n 2) := fun h => by
      have hp := h.1
      unfold zprop at hp
      obtain ⟨l, hl, hc⟩ := List.any_eq_true.mp hp
      simp only [Bool.and_eq_true, beq_iff_eq] at hc
      cases hx2 : nxt (zM z) (zh z) (nh z n) 0 with
      | some j => rw [hx2] at hx; exact hx rfl
      | none => exact nxt_none hx2 l (by omega) ((hz.2.2.2.1 n hn).2.2.2.2.1 l hl) hc.2
    rw [if_neg hx, show jand (jushr 0 0) 1 = 0 by decide]
    refine J.icmp rfl rfl rfl ⟨⟨by decide, by decide⟩, by decide, by decide⟩ (fun _ => ?_) (fun hc => absurd (show ¬ (0 : Int) = 1 by decide) hc)
    refine J.run0 1 rfl ?_
    try dsimp only
    refine J.run0 3 rfl ?_
    try dsimp only
    refine J.run0 2 rfl ?_
    try dsimp only
    exact tail 0 _ (Or.inl rfl) hno (Or.inl ⟨none, rfl⟩)
  rw [if_pos hx, show jand (jushr 1 0) 1 = 1 by decide]
  refine J.icmp rfl rfl rfl ⟨⟨by decide, by decide⟩, by decide, by decide⟩ (fun hc => absurd rfl hc) (fun _ => ?_)
  refine J.run0 3 rfl ?_
  try dsimp only
  refine J.inv rfl rfl rfl rfl rfl rfl ((jD_w rfl).mpr t1) rfl rfl rfl rfl rfl (c_proposalOf (d := d) hz hT hM hn hN hnd.1 hnd.2.1 hnd.2.2.1 hnd.2.2.2.1 hh) ?_
  rintro r w H ⟨rfl, rfl, hr⟩
  rcases hr with ⟨hp, rfl⟩ | ⟨hp, i, hi, hi0, hih, rfl⟩
  · refine J.run0 1 rfl ?_
    try dsimp only
    refine J.run0 3 rfl ?_
    try dsimp only
    refine J.run0 2 rfl ?_
    try dsimp only
    exact tail 1 _ (Or.inr rfl) (fun h => by rw [hp] at h; exact absurd h.1 (by decide)) (Or.inl ⟨none, rfl⟩)
  have hBz := zprop_B hz hn hp
  have hgd := hP.good hz hn hBz.1
  obtain ⟨⟨m1, m2, m3⟩, ⟨g1, g2, g3, g4, g5, g6, g7⟩, -⟩ := hM.2.2.1 i hi
  have hB3 := hz.1.2
  refine J.run0 1 rfl ?_
  try dsimp only
  refine J.run0 3 rfl ?_
  try dsimp only
  refine J.run 4 rfl ⟨⟨t1, by rw [t3]; exact t6⟩, m1⟩ ?_
  try dsimp only
  try dsimp only
  rw [t3, g6, hih]
  refine J.inv rfl rfl rfl rfl rfl rfl ((jD_w rfl).mpr hP.2.2.1.1.1) rfl rfl rfl rfl rfl (c_ledGet hP.2.2.1.1.1 hP.2.2.1.1.2.1 hP.2.2.1.2.1.1 (by omega) hBz.1 hgd.1) ?_
  rintro r w H ⟨rfl, rfl, rfl⟩
  refine J.run0 3 rfl ?_
  try dsimp only
  refine J.inv rfl rfl rfl rfl rfl rfl ((jD_w rfl).mpr hN.1.1) rfl rfl rfl rfl rfl (c_isGood hN.1.1 hN.2.1.2.1 hnd.1.1 hnd.1.2.1 hgd.2.1 hgd.2.2.1 hgd.2.2.2 hnd.1.2.1 hnd.2.2.2.2 hnd.2.2.2.2 (show 0 ≤ (nh z n : Int) - 1 ∧ (nh z n : Int) - 1 ≤ 1000 by have := (hz.2.2.2.1 n hn).1; omega)) ?_
  rintro r w H ⟨rfl, rfl, rfl⟩
  refine J.ifc rfl rfl rfl ⟨by decide, by decide⟩ (fun hc => absurd hc (show ¬ (1 : Int) = 0 by decide)) (fun _ => ?_)
  refine J.run 7 rfl m1 ?_
  try dsimp only
  try dsimp only
  rw [g6, hih]
  refine J.inv rfl rfl rfl rfl rfl rfl ((jD_w rfl).mpr t1) rfl rfl rfl rfl rfl (c_heardFrom (d := d + 1) (kd := 2) hz hT hM hn hN hnd.1 hh (by omega) (by omega)) ?_
  rintro r w H ⟨rfl, rfl, bits, rfl, hbits⟩
  have hcnt := mcnt_z hz hn hbits
  refine J.inv rfl rfl rfl rfl rfl rfl ((jD_w rfl).mpr hN.1.1) rfl rfl rfl rfl rfl (c_isMost hN.1.1 hN.2.1.2.1 hnd.1.1 hnd.1.2.1 hnd.2.1 hnd.2.2.1 hnd.2.2.2.1) ?_
  rintro r w H ⟨rfl, rfl, rfl⟩
  rw [hcnt]
  by_cases h11 : 11 ≤ zcnt z n 2
  · rw [if_pos h11]
    refine J.ifc rfl rfl rfl ⟨by decide, by decide⟩ (fun hc => absurd hc (show ¬ (1 : Int) = 0 by decide)) (fun _ => ?_)
    refine J.run0 2 rfl ?_
    try dsimp only
    refine J.inv rfl rfl rfl rfl rfl rfl ((jD_w rfl).mpr hN.1.1) rfl rfl rfl rfl rfl (c_adopt hz hP hn hBz.1) ?_
    rintro r w' H' ⟨rfl, rfl, hP', e1, e2, e3⟩
    refine J.run0 1 rfl ?_
    try dsimp only
    exact J.retb rfl rfl rfl (by decide) ⟨_, rfl, Or.inr ⟨rfl, rfl, ⟨hp, h11⟩, hP', e1, e2, e3⟩⟩
  · rw [if_neg h11]
    refine J.ifc rfl rfl rfl ⟨by decide, by decide⟩ (fun _ => ?_) (fun hc => absurd rfl hc)
    refine J.run0 2 rfl ?_
    try dsimp only
    exact tail 1 _ (Or.inr rfl) (fun h => h11 h.2) (Or.inr (Or.inr ⟨_, _, rfl⟩))
end CM2
