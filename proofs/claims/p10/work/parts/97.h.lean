/-! the class's calls on a new object: account, sum, block, forge -/
section SP
variable {b : Bool} {d : Nat} {w : jW} {H : jH} {F : cF} {je mp bp sp : Nat → Nat}
theorem c_returnsOf {s : Nat} {a : Int} (h8 : w.1 8 s) (hr : H.1 8 8 s = 0) : J b d 67 w (0, jargs 0 [.inr (some (8, s)), .inl a], [], H) (jN fun r w' H' => r = some (.inl 0) ∧ w' = w ∧ H' = H) := by
  refine J.run0 4 rfl ?_
  try dsimp only
  refine J.run 3 rfl h8 ?_
  try dsimp only
  try dsimp only
  rw [hr]
  refine J.icmp rfl rfl rfl ⟨⟨by decide, by decide⟩, by decide, by decide⟩ (fun _ => ?_) (fun hc => absurd (show (0 : Int) ≤ 0 by decide) hc)
  refine J.run0 1 rfl ?_
  try dsimp only
  exact J.reti rfl rfl rfl ⟨_, rfl, rfl, rfl, rfl⟩
theorem c_placeOf_l {s : Nat} {a n : Int} (h0 : cSt0 w H s) (h1 : cSt1 H s) (ba : jR a) (bn : jR n) : ∀ (m i : Nat), i + m = 16 → (∀ j : Int, 0 ≤ j → j < i → ¬ (j = a ∧ j = n)) → J b d 61 w (2, [(3, .inl (i : Int)), (0, .inr (some (8, s))), (1, .inl a), (2, .inl n)], [], H) (jN fun r w' H' => ((a = n ∧ 0 ≤ a ∧ a < 16 ∧ r = some (.inl a)) ∨ (¬ (a = n ∧ 0 ≤ a ∧ a < 16) ∧ r = some (.inl (-1)))) ∧ w' = w ∧ H' = H) := by
  obtain ⟨a1, a2, a3, a4, a5, a6, a7, a8, a9, a10⟩ := h0
  obtain ⟨⟨b1, b2, b3, b4⟩, c1, c2, c3⟩ := h1
  intro m
  induction m with
  | zero =>
    intro i hi hno
    obtain rfl : i = 16 := by omega
    refine J.run 3 rfl a1 ?_
    try dsimp only
    try dsimp only
    rw [b1]
    refine J.icmp rfl rfl rfl ⟨⟨by decide, by decide⟩, by decide, by decide⟩ (fun _ => ?_) (fun hc => absurd (show (16 : Int) ≤ (16 : Nat) by decide) hc)
    refine J.run0 1 rfl ?_
    try dsimp only
    refine J.reti rfl rfl rfl ⟨_, rfl, Or.inr ⟨fun z => ?_, rfl⟩, rfl, rfl⟩
    exact hno a z.2.1 (by omega) ⟨rfl, z.1⟩
  | succ m ih =>
    intro i hi hno
    have i0 : (0 : Int) ≤ i ∧ (i : Int) < 16 := by omega
    have e := c2 i i0.1 i0.2
    refine J.run 3 rfl a1 ?_
    try dsimp only
    try dsimp only
    rw [b1]
    refine J.icmp rfl rfl rfl ⟨⟨by omega, by omega⟩, by decide, by decide⟩ (fun hc => absurd (show (16 : Int) ≤ (i : Int) from hc) (by omega)) (fun _ => ?_)
    have nxt : ¬ ((i : Int) = a ∧ (i : Int) = n) → J b d 61 w (32, [(3, .inl (i : Int)), (0, .inr (some (8, s))), (1, .inl a), (2, .inl n)], [], H) (jN fun r w' H' => ((a = n ∧ 0 ≤ a ∧ a < 16 ∧ r = some (.inl a)) ∨ (¬ (a = n ∧ 0 ≤ a ∧ a < 16) ∧ r = some (.inl (-1)))) ∧ w' = w ∧ H' = H) := fun hne => by
      refine J.run0 2 rfl ?_
      try dsimp only
      refine ih (i + 1) (by omega) fun j x y z => ?_
      by_cases hj : j = (i : Int)
      · exact hne ⟨by omega, by omega⟩
      · exact hno j x (by omega) z
    refine J.run 5 rfl ⟨⟨a1, a4⟩, a4, i0.1, show (i : Int) < 96 by omega⟩ ?_
    try dsimp only
    try dsimp only
    rw [e.1]
    refine J.icmp rfl rfl rfl ⟨⟨by omega, by omega⟩, ba⟩ (fun hc => nxt fun z => hc z.1) (fun hc => ?_)
    have hc' : (i : Int) = a := Classical.not_not.mp hc
    refine J.run 5 rfl ⟨⟨a1, a5⟩, a5, i0.1, show (i : Int) < 96 by omega⟩ ?_
    try dsimp only
    try dsimp only
    rw [e.2.1]
    refine J.icmp rfl rfl rfl ⟨⟨by omega, by omega⟩, bn⟩ (fun hc2 => nxt fun z => hc2 z.2) (fun hc2 => ?_)
    have hc2' : (i : Int) = n := Classical.not_not.mp hc2
    refine J.run0 1 rfl ?_
    try dsimp only
    exact J.reti rfl rfl rfl ⟨_, rfl, Or.inl ⟨by omega, by omega, by omega, by rw [hc']⟩, rfl, rfl⟩
theorem c_bondOf {s : Nat} {a n : Int} (h0 : cSt0 w H s) (h1 : cSt1 H s) (ba : jR a) (bn : jR n) (hn : 0 ≤ n ∧ n < 16) : J b (d + 1) 66 w (0, jargs 0 [.inr (some (8, s)), .inl a, .inl n], [], H) (jN fun r w' H' => r = some (.inl (if a = n then 100 else 0)) ∧ w' = w ∧ H' = H) := by
  refine J.run0 3 rfl ?_
  try dsimp only
  refine J.inv rfl rfl rfl rfl rfl rfl ((jD_w rfl).mpr h0.1) rfl rfl rfl rfl rfl (J.run0 2 rfl (c_placeOf_l h0 h1 ba bn 16 0 rfl (fun j x y => by omega))) ?_
  rintro r w H ⟨⟨h, h2, h3, rfl⟩ | ⟨h, rfl⟩, rfl, rfl⟩
  · rw [if_pos h]
    refine J.run0 3 rfl ?_
    try dsimp only
    refine J.icmp rfl rfl rfl ⟨ba, by decide, by decide⟩ (fun _ => ?_) (fun hc => absurd (show ¬ a = -1 by omega) hc)
    refine J.run 4 rfl ⟨⟨h0.1, h0.2.2.2.2.2.1⟩, h0.2.2.2.2.2.1, h2, show a < 96 by omega⟩ ?_
    try dsimp only
    refine J.reti rfl rfl rfl ⟨_, rfl, ?_, rfl, rfl⟩
    show some (Sum.inl (H.2.2.1 35 s a)) = _
    rw [(h1.2.2.1 a h2 h3).2.2]
  · rw [if_neg (by omega)]
    refine J.run0 3 rfl ?_
    try dsimp only
    refine J.icmp rfl rfl rfl ⟨⟨by decide, by decide⟩, by decide, by decide⟩ (fun hc => absurd rfl hc) (fun _ => ?_)
    refine J.run0 2 rfl ?_
    try dsimp only
    exact J.reti rfl rfl rfl ⟨_, rfl, rfl, rfl, rfl⟩
def accA (a what : Int) : Int := if what = 0 then 1000 else if what = 17 then 0 else if a = what - 1 then 100 else 0
abbrev isA (x a : Int) : Prop := (0 ≤ x ∧ x ≤ 1) ∧ 0 ≤ a ∧ a ≤ 199
def accK (x a what : Int) : Int := if isA x a then (if 0 ≤ what ∧ what ≤ 17 then 0 else 3) else 1
set_option maxRecDepth 8000 in
theorem c_account {x a what : Int} (hF : fRm F) (hP : cPic F w (zc 16) H je mp bp sp) (bm : jR x) (ba : jR a) (bx : jR what) : J b (d + 6) 84 w (0, jargs 0 [.inr (some (10, fX F)), .inl x, .inl a, .inl what], [], H) (cOut H (accK x a what) (if isA x a then 12 else 14) (accA a what)) := by
  have hw := hP.sm hF
  obtain ⟨⟨t1, t2, t3, t4, t5, t6, t7, t8⟩, -⟩ := hP.1
  unfold accK
  by_cases h : isA x a
  rotate_left
  · rw [if_neg h, if_neg h]
    refine J.run 3 rfl ⟨t1, by rw [t3]; exact t6⟩ ?_
    try dsimp only
    try dsimp only
    rw [t3]
    refine J.inv rfl rfl rfl rfl rfl rfl ((jD_w rfl).mpr hP.2.2.1.1.1) rfl rfl rfl rfl rfl (c_lg hP bm) ?_
    rintro r w H ⟨rfl, rfl, rfl⟩
    by_cases h1 : 0 ≤ x ∧ x ≤ 1
    · rw [if_pos h1]
      refine J.run0 4 rfl ?_
      try dsimp only
      refine J.ifc rfl rfl rfl ba (fun _ => c_thr hw (by decide) rfl rfl rfl rfl) (fun hc => ?_)
      have hc' : ¬ a < 0 := hc
      refine J.run0 2 rfl ?_
      try dsimp only
      exact J.icmp rfl rfl rfl ⟨ba, by decide, by decide⟩ (fun hc2 => absurd (show a < 200 from hc2) (fun z => h ⟨h1, by omega, by omega⟩)) (fun _ => c_thr hw (by decide) rfl rfl rfl rfl)
    · rw [if_neg h1]
      refine J.run0 3 rfl ?_
      try dsimp only
      exact c_thr hw (by decide) rfl rfl rfl rfl
  rw [if_pos h, if_pos h]
  refine J.run 3 rfl ⟨t1, by rw [t3]; exact t6⟩ ?_
  try dsimp only
  try dsimp only
  rw [t3]
  refine J.inv rfl rfl rfl rfl rfl rfl ((jD_w rfl).mpr hP.2.2.1.1.1) rfl rfl rfl rfl rfl (c_lg hP bm) ?_
  rintro r w H ⟨rfl, rfl, rfl⟩
  rw [if_pos h.1]
  obtain ⟨⟨hx0, hx1⟩, ha0, ha1⟩ := h
  obtain ⟨i, rfl⟩ : ∃ i : Nat, x = (i : Int) := ⟨x.toNat, by omega⟩
  rw [Int.toNat_natCast]
  have hi : i < 2 := by omega
  obtain ⟨⟨g1, g2, g3, g4, g5, g6⟩, ⟨g7, g8, g9⟩, ⟨g10, g11, g12⟩, g13, g14, g15, g16⟩ := (hP.b16 hi).2
  refine J.run0 4 rfl ?_
  try dsimp only
  refine J.ifc rfl rfl rfl ba (fun hc => absurd (show a < 0 from hc) (by omega)) (fun _ => ?_)
  refine J.run0 2 rfl ?_
  try dsimp only
  refine J.icmp rfl rfl rfl ⟨ba, by decide, by decide⟩ (fun _ => ?_) (fun hc2 => absurd (show a < 200 by omega) hc2)
  refine J.run 2 rfl g1 ?_
  try dsimp only
  try dsimp only
  rw [g13]
  refine J.run0 2 rfl ?_
  try dsimp only
  by_cases hx : 0 ≤ what ∧ what ≤ 17
  rotate_left
  · rw [if_neg hx]
    refine J.ifc rfl rfl rfl bx (fun _ => c_thr hw (by decide) rfl rfl rfl rfl) (fun hc => ?_)
    have hc' : ¬ what < 0 := hc
    refine J.run0 2 rfl ?_
    try dsimp only
    exact J.icmp rfl rfl rfl ⟨bx, by decide, by decide⟩ (fun hc2 => absurd (show what ≤ 17 from hc2) (by omega)) (fun _ => c_thr hw (by decide) rfl rfl rfl rfl)
  rw [if_pos hx]
  refine J.ifc rfl rfl rfl bx (fun hc => absurd (show what < 0 from hc) (by omega)) (fun _ => ?_)
  refine J.run0 2 rfl ?_
  try dsimp only
  refine J.icmp rfl rfl rfl ⟨bx, by decide, by decide⟩ (fun _ => ?_) (fun hc2 => absurd (show what ≤ 17 by omega) hc2)
  refine J.run0 1 rfl ?_
  try dsimp only
  refine J.ifc rfl rfl rfl bx (fun hc => ?_) (fun hc => ?_)
  rotate_left
  · have hc' : what = 0 := Classical.not_not.mp hc
    refine J.run 2 rfl g1 ?_
    try dsimp only
    try dsimp only
    rw [g13]
    refine J.run 3 rfl ⟨⟨g14.1, g14.2.2.1⟩, g14.2.2.1, ha0, show a < 200 by omega⟩ ?_
    try dsimp only
    refine J.reti rfl rfl rfl ?_
    show cOut H 0 12 (accA a what) (.inl (some (.inl (H.2.2.1 32 (sp i) a)))) w H
    rw [g15.2.1 a ha0 (by omega), hc']
    exact cOut.ok hw (jCl.refl _)
  have hc' : ¬ what = 0 := hc
  refine J.run0 2 rfl ?_
  try dsimp only
  refine J.icmp rfl rfl rfl ⟨bx, by decide, by decide⟩ (fun hc2 => ?_) (fun hc2 => ?_)
  · have hc2' : ¬ what = 17 := hc2
    refine J.run 2 rfl g1 ?_
    try dsimp only
    try dsimp only
    rw [g13]
    refine J.run0 4 rfl ?_
    try dsimp only
    refine J.inv rfl rfl rfl rfl rfl rfl ((jD_w rfl).mpr g14.1) rfl rfl rfl rfl rfl (c_bondOf g14 g15 ba ⟨by omega, by omega⟩ ⟨by omega, by omega⟩) ?_
    rintro r w H ⟨rfl, rfl, rfl⟩
    refine J.reti rfl rfl rfl ?_
    have e : accA a what = if a = what - 1 then 100 else 0 := by
      unfold accA
      rw [if_neg hc', if_neg hc2']
    rw [e]
    exact cOut.ok hw (jCl.refl _)
  · have hc2' : what = 17 := Classical.not_not.mp hc2
    refine J.run 2 rfl g1 ?_
    try dsimp only
    try dsimp only
    rw [g13]
    refine J.run0 1 rfl ?_
    try dsimp only
    refine J.inv rfl rfl rfl rfl rfl rfl ((jD_w rfl).mpr g14.1) rfl rfl rfl rfl rfl (c_returnsOf g14.1 g15.1.2.1) ?_
    rintro r w H ⟨rfl, rfl, rfl⟩
    refine J.run0 1 rfl ?_
    try dsimp only
    refine J.reti rfl rfl rfl ?_
    rw [hc2']
    exact cOut.ok hw (jCl.refl _)
theorem c_every_1 {s : Nat} {Post : jO → jW → jH → Prop} (h0 : cSt0 w H s) (h1 : cSt1 H s) (hn : J b d 68 w (29, [(2, .inl 200), (1, .inl 200000), (0, .inr (some (8, s)))], [], H) Post) : ∀ (m i : Nat), i + m = 200 → J b d 68 w (7, [(2, .inl (i : Int)), (1, .inl (1000 * (i : Int))), (0, .inr (some (8, s)))], [], H) Post := by
  intro m
  induction m with
  | zero =>
    intro i hi
    obtain rfl : i = 200 := by omega
    refine J.run0 2 rfl ?_
    try dsimp only
    exact J.icmp rfl rfl rfl ⟨⟨by decide, by decide⟩, by decide, by decide⟩ (fun _ => hn) (fun hc => absurd (show (200 : Int) ≤ (200 : Nat) by decide) hc)
  | succ m ih =>
    intro i hi
    refine J.run0 2 rfl ?_
    try dsimp only
    refine J.icmp rfl rfl rfl ⟨⟨by omega, by omega⟩, by decide, by decide⟩ (fun hc => absurd (show (200 : Int) ≤ (i : Int) from hc) (by omega)) (fun _ => ?_)
    refine J.run 5 rfl ⟨⟨h0.1, h0.2.2.1⟩, h0.2.2.1, show (0 : Int) ≤ i by omega, show (i : Int) < 200 by omega⟩ ?_
    try dsimp only
    try dsimp only
    rw [show H.2.2.1 32 s (i : Int) = 1000 from h1.2.1 i (by omega) (by omega)]
    refine J.run0 4 rfl ?_
    try dsimp only
    have h9 := ih (i + 1) (by omega)
    rw [show 1000 * ((i + 1 : Nat) : Int) = 1000 * (i : Int) + 1000 by omega] at h9
    exact h9
theorem c_every_2 {s : Nat} {Post : jO → jW → jH → Prop} (h0 : cSt0 w H s) (h1 : cSt1 H s) (hn : J b d 68 w (54, [(2, .inl 16), (1, .inl 201600), (0, .inr (some (8, s)))], [], H) Post) : ∀ (m i : Nat), i + m = 16 → J b d 68 w (31, [(2, .inl (i : Int)), (1, .inl (200000 + 100 * (i : Int))), (0, .inr (some (8, s)))], [], H) Post := by
  intro m
  induction m with
  | zero =>
    intro i hi
    obtain rfl : i = 16 := by omega
    refine J.run 3 rfl h0.1 ?_
    try dsimp only
    try dsimp only
    rw [h1.1.1]
    exact J.icmp rfl rfl rfl ⟨⟨by decide, by decide⟩, by decide, by decide⟩ (fun _ => hn) (fun hc => absurd (show (16 : Int) ≤ (16 : Nat) by decide) hc)
  | succ m ih =>
    intro i hi
    refine J.run 3 rfl h0.1 ?_
    try dsimp only
    try dsimp only
    rw [h1.1.1]
    refine J.icmp rfl rfl rfl ⟨⟨by omega, by omega⟩, by decide, by decide⟩ (fun hc => absurd (show (16 : Int) ≤ (i : Int) from hc) (by omega)) (fun _ => ?_)
    refine J.run 5 rfl ⟨⟨h0.1, h0.2.2.2.2.2.1⟩, h0.2.2.2.2.2.1, show (0 : Int) ≤ i by omega, show (i : Int) < 96 by omega⟩ ?_
    try dsimp only
    try dsimp only
    rw [show H.2.2.1 35 s (i : Int) = 100 from (h1.2.2.1 i (by omega) (by omega)).2.2]
    refine J.run0 4 rfl ?_
    try dsimp only
    have h9 := ih (i + 1) (by omega)
    rw [show 200000 + 100 * ((i + 1 : Nat) : Int) = 200000 + 100 * (i : Int) + 100 by omega] at h9
    exact h9
theorem c_everything {s : Nat} (h0 : cSt0 w H s) (h1 : cSt1 H s) : J b d 68 w (0, jargs 0 [.inr (some (8, s))], [], H) (jN fun r w' H' => r = some (.inl 201600) ∧ w' = w ∧ H' = H) := by
  refine J.run 2 rfl h0.1 ?_
  try dsimp only
  try dsimp only
  rw [h1.1.2.2.2]
  refine J.run0 3 rfl ?_
  try dsimp only
  refine c_every_1 h0 h1 ?_ 200 0 rfl
  refine J.run0 2 rfl ?_
  try dsimp only
  refine c_every_2 h0 h1 ?_ 16 0 rfl
  refine J.run0 2 rfl ?_
  try dsimp only
  refine J.run 3 rfl h0.1 ?_
  try dsimp only
  try dsimp only
  rw [h1.1.2.1]
  refine J.icmp rfl rfl rfl ⟨⟨by decide, by decide⟩, by decide, by decide⟩ (fun _ => ?_) (fun hc => absurd (show (0 : Int) ≤ 0 by decide) hc)
  refine J.run0 1 rfl ?_
  try dsimp only
  exact J.reti rfl rfl rfl ⟨_, rfl, rfl, rfl, rfl⟩
def sumA (what : Int) : Int := if what < 16 then 100 else if what = 19 then 16 else if what = 20 then 201600 else 0
def sumK (x what : Int) : Int := if 0 ≤ x ∧ x ≤ 1 then (if 0 ≤ what ∧ what ≤ 20 then 0 else 3) else 1
set_option maxRecDepth 8000 in
theorem c_sum {x what : Int} (hF : fRm F) (hP : cPic F w (zc 16) H je mp bp sp) (bm : jR x) (bx : jR what) : J b (d + 6) 85 w (0, jargs 0 [.inr (some (10, fX F)), .inl x, .inl what], [], H) (cOut H (sumK x what) (if 0 ≤ x ∧ x ≤ 1 then 12 else 14) (sumA what)) := by
  have hw := hP.sm hF
  obtain ⟨⟨t1, t2, t3, t4, t5, t6, t7, t8⟩, -⟩ := hP.1
  unfold sumK
  by_cases h : 0 ≤ x ∧ x ≤ 1
  rotate_left
  · rw [if_neg h, if_neg h]
    refine J.run 3 rfl ⟨t1, by rw [t3]; exact t6⟩ ?_
    try dsimp only
    try dsimp only
    rw [t3]
    refine J.inv rfl rfl rfl rfl rfl rfl ((jD_w rfl).mpr hP.2.2.1.1.1) rfl rfl rfl rfl rfl (c_lg hP bm) ?_
    rintro r w H ⟨rfl, rfl, rfl⟩
    rw [if_neg h]
    refine J.run0 3 rfl ?_
    try dsimp only
    exact c_thr hw (by decide) rfl rfl rfl rfl
  rw [if_pos h, if_pos h]
  refine J.run 3 rfl ⟨t1, by rw [t3]; exact t6⟩ ?_
  try dsimp only
  try dsimp only
  rw [t3]
  refine J.inv rfl rfl rfl rfl rfl rfl ((jD_w rfl).mpr hP.2.2.1.1.1) rfl rfl rfl rfl rfl (c_lg hP bm) ?_
  rintro r w H ⟨rfl, rfl, rfl⟩
  rw [if_pos h]
  obtain ⟨i, rfl⟩ : ∃ i : Nat, x = (i : Int) := ⟨x.toNat, by omega⟩
  rw [Int.toNat_natCast]
  have hi : i < 2 := by omega
  obtain ⟨⟨g1, g2, g3, g4, g5, g6⟩, ⟨g7, g8, g9⟩, ⟨g10, g11, g12⟩, g13, g14, g15, g16⟩ := (hP.b16 hi).2
  refine J.run0 3 rfl ?_
  try dsimp only
  refine J.run 2 rfl g1 ?_
  try dsimp only
  try dsimp only
  rw [g13]
  refine J.run0 2 rfl ?_
  try dsimp only
  by_cases hx : 0 ≤ what ∧ what ≤ 20
  rotate_left
  · rw [if_neg hx]
    refine J.ifc rfl rfl rfl bx (fun _ => c_thr hw (by decide) rfl rfl rfl rfl) (fun hc => ?_)
    have hc' : ¬ what < 0 := hc
    refine J.run0 2 rfl ?_
    try dsimp only
    exact J.icmp rfl rfl rfl ⟨bx, by decide, by decide⟩ (fun hc2 => absurd (show what ≤ 20 from hc2) (by omega)) (fun _ => c_thr hw (by decide) rfl rfl rfl rfl)
  rw [if_pos hx]
  refine J.ifc rfl rfl rfl bx (fun hc => absurd (show what < 0 from hc) (by omega)) (fun _ => ?_)
  refine J.run0 2 rfl ?_
  try dsimp only
  refine J.icmp rfl rfl rfl ⟨bx, by decide, by decide⟩ (fun _ => ?_) (fun hc2 => absurd (show what ≤ 20 by omega) hc2)
  refine J.run0 1 rfl ?_
  try dsimp only
  by_cases h16 : what < 16
  · refine J.tsw rfl rfl rfl bx (if_pos (by omega)) ?_
    refine J.run 2 rfl g1 ?_
    try dsimp only
    try dsimp only
    rw [g13]
    refine J.run 1 rfl ⟨g14.1, g16.2.1⟩ ?_
    try dsimp only
    refine J.run 2 rfl ⟨g16.2.2.1, hx.1, show what < 16 from h16⟩ ?_
    try dsimp only
    refine J.reti rfl rfl rfl ?_
    show cOut H 0 12 (sumA what) (.inl (some (.inl (H.2.2.1 43 (H.2.2.2.2 8 12 (sp i)) what)))) w H
    rw [g16.2.2.2 what hx.1 h16, show sumA what = 100 from if_pos h16]
    exact cOut.ok hw (jCl.refl _)
  have hwh : what = 16 ∨ what = 17 ∨ what = 18 ∨ what = 19 ∨ what = 20 := by omega
  rcases hwh with rfl | rfl | rfl | rfl | rfl
  · refine J.tsw rfl rfl rfl bx rfl ?_
    refine J.run 2 rfl g1 ?_
    try dsimp only
    try dsimp only
    rw [g13]
    refine J.run 1 rfl g14.1 ?_
    try dsimp only
    try dsimp only
    rw [g15.1.2.2.1]
    exact J.reti rfl rfl rfl (cOut.ok hw (jCl.refl _))
  · refine J.tsw rfl rfl rfl bx rfl ?_
    refine J.run 2 rfl g1 ?_
    try dsimp only
    try dsimp only
    rw [g13]
    refine J.run 1 rfl g14.1 ?_
    try dsimp only
    try dsimp only
    rw [g15.1.2.2.2]
    exact J.reti rfl rfl rfl (cOut.ok hw (jCl.refl _))
  · refine J.tsw rfl rfl rfl bx rfl ?_
    refine J.run 2 rfl g1 ?_
    try dsimp only
    try dsimp only
    rw [g13]
    refine J.run 1 rfl g14.1 ?_
    try dsimp only
    try dsimp only
    rw [g15.1.2.1]
    exact J.reti rfl rfl rfl (cOut.ok hw (jCl.refl _))
  · refine J.tsw rfl rfl rfl bx rfl ?_
    refine J.run 2 rfl g1 ?_
    try dsimp only
    try dsimp only
    rw [g13]
    refine J.run 1 rfl g14.1 ?_
    try dsimp only
    try dsimp only
    rw [g15.1.1]
    exact J.reti rfl rfl rfl (cOut.ok hw (jCl.refl _))
  · refine J.tsw rfl rfl rfl bx rfl ?_
    refine J.run 2 rfl g1 ?_
    try dsimp only
    try dsimp only
    rw [g13]
    refine J.inv rfl rfl rfl rfl rfl rfl ((jD_w rfl).mpr g14.1) rfl rfl rfl rfl rfl (c_everything g14 g15) ?_
    rintro r w H ⟨rfl, rfl, rfl⟩
    exact J.reti rfl rfl rfl (cOut.ok hw (jCl.refl _))
theorem c_isFaulty {n : Int} (hP : cPic F w (zc 16) H je mp bp sp) (bn : jR n) : J b (d + 1) 104 w (0, jargs 0 [.inr (some (10, fX F)), .inl n], [], H) (jN fun r w' H' => r = some (.inl 0) ∧ w' = w ∧ H' = H) := by
  obtain ⟨⟨t1, t2, -⟩, tn, ti, -⟩ := hP.1
  refine J.run0 1 rfl ?_
  try dsimp only
  refine J.ins rfl rfl rfl rfl rfl rfl rfl rfl rfl (c_isNode bn) ?_
  rintro r w H ⟨rfl, rfl, rfl⟩
  by_cases h : 0 ≤ n ∧ n ≤ 15
  rotate_left
  · rw [if_neg h]
    refine J.ifc rfl rfl rfl ⟨by decide, by decide⟩ (fun _ => ?_) (fun hc => absurd rfl hc)
    refine J.run0 1 rfl ?_
    try dsimp only
    exact J.retb rfl rfl rfl (by decide) ⟨_, rfl, rfl, rfl, rfl⟩
  rw [if_pos h]
  refine J.ifc rfl rfl rfl ⟨by decide, by decide⟩ (fun hc => absurd hc (show ¬ (1 : Int) = 0 by decide)) (fun _ => ?_)
  obtain ⟨m, rfl⟩ : ∃ m : Nat, n = (m : Int) := ⟨n.toNat, by omega⟩
  have hm : m < 16 := by omega
  have hN := hP.n16 hm
  refine J.run 4 rfl ⟨⟨t1, t2⟩, t2, h.1, show (m : Int) < 16 by omega⟩ ?_
  try dsimp only
  try dsimp only
  rw [tn m hm]
  refine J.run 1 rfl hN.1.1 ?_
  try dsimp only
  try dsimp only
  rw [show H.1 6 10 (fN F m) = 0 from hN.2.1.2.2.2.2.2.2.1]
  refine J.ifc rfl rfl rfl ⟨by decide, by decide⟩ (fun _ => ?_) (fun hc => absurd rfl hc)
  refine J.run0 1 rfl ?_
  try dsimp only
  exact J.retb rfl rfl rfl (by decide) ⟨_, rfl, rfl, rfl, rfl⟩
theorem c_isT {p : Nat} {x : Int} (h3 : w.1 3 p) (ht : H.1 3 3 p = 0) (bx : jR x) : J b d 14 w (0, jargs 0 [.inr (some (3, p)), .inl x], [], H) (jN fun r w' H' => r = some (.inl (if x = -1 then 1 else 0)) ∧ w' = w ∧ H' = H) := by
  refine J.run0 2 rfl ?_
  try dsimp only
  refine J.icmp rfl rfl rfl ⟨bx, by decide, by decide⟩ (fun hc => ?_) (fun hc => ?_)
  · have hc' : x < -1 := hc
    refine J.run0 1 rfl ?_
    try dsimp only
    refine J.retb rfl rfl rfl (by decide) ⟨_, rfl, ?_, rfl, rfl⟩
    rw [if_neg (by omega)]
  have hc' : ¬ x < -1 := hc
  refine J.run 3 rfl h3 ?_
  try dsimp only
  try dsimp only
  rw [ht]
  refine J.icmp rfl rfl rfl ⟨bx, by decide, by decide⟩ (fun hc2 => ?_) (fun hc2 => ?_)
  · have hc2' : 0 ≤ x := hc2
    refine J.run0 1 rfl ?_
    try dsimp only
    refine J.retb rfl rfl rfl (by decide) ⟨_, rfl, ?_, rfl, rfl⟩
    rw [if_neg (by omega)]
  · have hc2' : ¬ 0 ≤ x := hc2
    refine J.run0 2 rfl ?_
    try dsimp only
    refine J.retb rfl rfl rfl (by decide) ⟨_, rfl, ?_, rfl, rfl⟩
    rw [if_pos (by omega)]
abbrev isB (parent one two claim : Int) : Prop := (0 ≤ parent ∧ parent ≤ 1) ∧ one = -1 ∧ two = -1 ∧ -1 ≤ claim ∧ claim ≤ 65535
set_option maxRecDepth 8000 in
theorem c_block {n parent one two claim : Int} (hF : fRm F) (hP : cPic F w (zc 16) H je mp bp sp) (bn : jR n) (b1 : jR parent) (b2 : jR one) (b3 : jR two) (b4 : jR claim) : J b (d + 6) 77 w (0, jargs 0 [.inr (some (10, fX F)), .inl n, .inl parent, .inl one, .inl two, .inl claim], [], H) (cOut H (if isB parent one two claim then 2 else 1) (if isB parent one two claim then 13 else 12) 0) := by
  have hw := hP.sm hF
  have ht : H.1 3 3 (fL F) = 0 := hP.2.2.1.2.1.2.1
  have h3 := hP.2.2.1.1.1
  obtain ⟨⟨t1, t2, t3, t4, t5, t6, t7, t8⟩, -⟩ := hP.1
  refine J.run 3 rfl ⟨t1, by rw [t3]; exact t6⟩ ?_
  try dsimp only
  try dsimp only
  rw [t3]
  refine J.inv rfl rfl rfl rfl rfl rfl ((jD_w rfl).mpr h3) rfl rfl rfl rfl rfl (c_lg hP b1) ?_
  rintro r w H ⟨rfl, rfl, rfl⟩
  by_cases h1 : 0 ≤ parent ∧ parent ≤ 1
  rotate_left
  · rw [if_neg h1, if_neg (fun z => h1 z.1), if_neg (fun z => h1 z.1)]
    refine J.run0 3 rfl ?_
    try dsimp only
    exact c_thr hw (by decide) rfl rfl rfl rfl
  rw [if_pos h1]
  refine J.run0 3 rfl ?_
  try dsimp only
  refine J.run 3 rfl ⟨t1, by rw [t3]; exact t6⟩ ?_
  try dsimp only
  try dsimp only
  rw [t3]
  refine J.inv rfl rfl rfl rfl rfl rfl ((jD_w rfl).mpr h3) rfl rfl rfl rfl rfl (c_isT h3 ht b2) ?_
  rintro r w H ⟨rfl, rfl, rfl⟩
  by_cases h2 : one = -1
  rotate_left
  · rw [if_neg h2, if_neg (fun z => h2 z.2.1), if_neg (fun z => h2 z.2.1)]
    refine J.ifc rfl rfl rfl ⟨by decide, by decide⟩ (fun _ => ?_) (fun hc => absurd rfl hc)
    exact c_thr hw (by decide) rfl rfl rfl rfl
  rw [if_pos h2]
  refine J.ifc rfl rfl rfl ⟨by decide, by decide⟩ (fun hc => absurd hc (show ¬ (1 : Int) = 0 by decide)) (fun _ => ?_)
  refine J.run 3 rfl ⟨t1, by rw [t3]; exact t6⟩ ?_
  try dsimp only
  try dsimp only
  rw [t3]
  refine J.inv rfl rfl rfl rfl rfl rfl ((jD_w rfl).mpr h3) rfl rfl rfl rfl rfl (c_isT h3 ht b3) ?_
  rintro r w H ⟨rfl, rfl, rfl⟩
  by_cases h4 : two = -1
  rotate_left
  · rw [if_neg h4, if_neg (fun z => h4 z.2.2.1), if_neg (fun z => h4 z.2.2.1)]
    refine J.ifc rfl rfl rfl ⟨by decide, by decide⟩ (fun hc => absurd rfl hc) (fun _ => ?_)
    exact c_thr hw (by decide) rfl rfl rfl rfl
  rw [if_pos h4]
  refine J.ifc rfl rfl rfl ⟨by decide, by decide⟩ (fun _ => ?_) (fun hc => absurd (show ¬ (1 : Int) = 0 by decide) hc)
  by_cases h5 : -1 ≤ claim ∧ claim ≤ 65535
  rotate_left
  · rw [if_neg (fun z => h5 z.2.2.2), if_neg (fun z => h5 z.2.2.2)]
    refine J.run0 2 rfl ?_
    try dsimp only
    refine J.icmp rfl rfl rfl ⟨b4, by decide, by decide⟩ (fun _ => c_thr hw (by decide) rfl rfl rfl rfl) (fun hc => ?_)
    have hc' : ¬ claim < -1 := hc
    refine J.run0 2 rfl ?_
    try dsimp only
    exact J.icmp rfl rfl rfl ⟨b4, by decide, by decide⟩ (fun hc2 => absurd (show claim ≤ 65535 from hc2) (by omega)) (fun _ => c_thr hw (by decide) rfl rfl rfl rfl)
  rw [if_pos ⟨h1, h2, h4, h5⟩, if_pos ⟨h1, h2, h4, h5⟩]
  refine J.run0 2 rfl ?_
  try dsimp only
  refine J.icmp rfl rfl rfl ⟨b4, by decide, by decide⟩ (fun hc => absurd (show claim < -1 from hc) (by omega)) (fun _ => ?_)
  refine J.run0 2 rfl ?_
  try dsimp only
  refine J.icmp rfl rfl rfl ⟨b4, by decide, by decide⟩ (fun _ => ?_) (fun hc2 => absurd (show claim ≤ 65535 by omega) hc2)
  refine J.run0 2 rfl ?_
  try dsimp only
  refine J.inv rfl rfl rfl rfl rfl rfl ((jD_w rfl).mpr t1) rfl rfl rfl rfl rfl (c_isFaulty (d := d + 4) hP bn) ?_
  rintro r w H ⟨rfl, rfl, rfl⟩
  refine J.ifc rfl rfl rfl ⟨by decide, by decide⟩ (fun hc => absurd rfl hc) (fun _ => ?_)
  exact c_thr hw (by decide) rfl rfl rfl rfl
abbrev isF (kind height round block before : Int) : Prop := (0 ≤ kind ∧ kind ≤ 2) ∧ (1 ≤ height ∧ height ≤ 120) ∧ (0 ≤ round ∧ round ≤ 31) ∧ (-1 ≤ block ∧ block ≤ 1) ∧ -1 ≤ before ∧ before ≤ (if kind = 0 then 31 else -1)
set_option maxRecDepth 8000 in
theorem c_forge {n kind height round block before : Int} (hF : fRm F) (hP : cPic F w (zc 16) H je mp bp sp) (bn : jR n) (b1 : jR kind) (b2 : jR height) (b3 : jR round) (b4 : jR block) (b5 : jR before) : J b (d + 6) 76 w (0, jargs 0 [.inr (some (10, fX F)), .inl n, .inl kind, .inl height, .inl round, .inl block, .inl before], [], H) (cOut H (if isF kind height round block before then 2 else 1) (if isF kind height round block before then 13 else 12) 0) := by
  have hw := hP.sm hF
  have h3 := hP.2.2.1.1.1
  obtain ⟨⟨t1, t2, t3, t4, t5, t6, t7, t8⟩, -⟩ := hP.1
  have thr : ∀ {pc : Nat} {lv : jL} {ix : Nat} {q : xMt}, xmts[76]? = some q → xat 76 pc = some (.new ix, 3) → xlk xnws q.1 ix = none → xthr 76 pc = some 12 → ¬ isF kind height round block before → J b (d + 6) 76 w (pc, lv, [], H) (cOut H (if isF kind height round block before then 2 else 1) (if isF kind height round block before then 13 else 12) 0) := fun {pc lv ix q} e1 e2 e3 e4 hno => by
    rw [if_neg hno, if_neg hno]
    exact c_thr hw (by decide) e1 e2 e3 e4
  refine J.run0 1 rfl ?_
  try dsimp only
  refine J.ifc rfl rfl rfl b1 (fun hc => thr rfl rfl rfl rfl fun z => ?_) (fun hc => ?_)
  · have : kind < 0 := hc
    omega
  have k0 : ¬ kind < 0 := hc
  refine J.run0 2 rfl ?_
  try dsimp only
  refine J.icmp rfl rfl rfl ⟨b1, by decide, by decide⟩ (fun hc => thr rfl rfl rfl rfl fun z => ?_) (fun hc => ?_)
  · have : 2 < kind := hc
    omega
  have k1 : ¬ 2 < kind := hc
  refine J.run0 2 rfl ?_
  try dsimp only
  refine J.icmp rfl rfl rfl ⟨b2, by decide, by decide⟩ (fun hc => thr rfl rfl rfl rfl fun z => ?_) (fun hc => ?_)
  · have : height < 1 := hc
    omega
  have k2 : ¬ height < 1 := hc
  refine J.run0 2 rfl ?_
  try dsimp only
  refine J.icmp rfl rfl rfl ⟨b2, by decide, by decide⟩ (fun hc => thr rfl rfl rfl rfl fun z => ?_) (fun hc => ?_)
  · have : 120 < height := hc
    omega
  have k3 : ¬ 120 < height := hc
  refine J.run0 1 rfl ?_
  try dsimp only
  refine J.ifc rfl rfl rfl b3 (fun hc => thr rfl rfl rfl rfl fun z => ?_) (fun hc => ?_)
  · have : round < 0 := hc
    omega
  have k4 : ¬ round < 0 := hc
  refine J.run0 2 rfl ?_
  try dsimp only
  refine J.icmp rfl rfl rfl ⟨b3, by decide, by decide⟩ (fun hc => ?_) (fun hc => thr rfl rfl rfl rfl fun z => ?_)
  rotate_left
  · have : ¬ round < 32 := hc
    omega
  have k5 : round < 32 := hc
  have tail : -1 ≤ block ∧ block ≤ 1 → J b (d + 6) 76 w (70, jargs 0 [.inr (some (10, fX F)), .inl n, .inl kind, .inl height, .inl round, .inl block, .inl before], [], H) (cOut H (if isF kind height round block before then 2 else 1) (if isF kind height round block before then 13 else 12) 0) := by
    intro hb
    refine J.run0 2 rfl ?_
    try dsimp only
    refine J.icmp rfl rfl rfl ⟨b5, by decide, by decide⟩ (fun hc => thr rfl rfl rfl rfl fun z => ?_) (fun hc => ?_)
    · have : before < -1 := hc
      omega
    have k6 : ¬ before < -1 := hc
    refine J.run0 2 rfl ?_
    try dsimp only
    refine J.icmp rfl rfl rfl ⟨b5, by decide, by decide⟩ (fun hc => thr rfl rfl rfl rfl fun z => ?_) (fun hc => ?_)
    · have h1 : 32 ≤ before := hc
      have h2 := z.2.2.2.2.2
      split at h2
      · omega
      · omega
    have k7 : ¬ 32 ≤ before := hc
    have fin : before ≤ (if kind = 0 then 31 else -1) → J b (d + 6) 76 w (103, jargs 0 [.inr (some (10, fX F)), .inl n, .inl kind, .inl height, .inl round, .inl block, .inl before], [], H) (cOut H (if isF kind height round block before then 2 else 1) (if isF kind height round block before then 13 else 12) 0) := by
      intro hbf
      have hyes : isF kind height round block before := ⟨by omega, by omega, by omega, hb, by omega, hbf⟩
      rw [if_pos hyes, if_pos hyes]
      refine J.run0 2 rfl ?_
      try dsimp only
      refine J.inv rfl rfl rfl rfl rfl rfl ((jD_w rfl).mpr t1) rfl rfl rfl rfl rfl (c_isFaulty (d := d + 4) hP bn) ?_
      rintro r w H ⟨rfl, rfl, rfl⟩
      refine J.ifc rfl rfl rfl ⟨by decide, by decide⟩ (fun hc => absurd rfl hc) (fun _ => ?_)
      exact c_thr hw (by decide) rfl rfl rfl rfl
    refine J.run0 1 rfl ?_
    try dsimp only
    refine J.ifc rfl rfl rfl b1 (fun hc => fin ?_) (fun hc => ?_)
    · have hk : kind = 0 := hc
      rw [if_pos hk]
      omega
    have hk : ¬ kind = 0 := hc
    refine J.run0 2 rfl ?_
    try dsimp only
    refine J.icmp rfl rfl rfl ⟨b5, by decide, by decide⟩ (fun hc2 => fin ?_) (fun hc2 => thr rfl rfl rfl rfl fun z => ?_)
    · have h1 : before = -1 := hc2
      rw [if_neg hk]
      omega
    · have h1 : ¬ before = -1 := hc2
      have h2 := z.2.2.2.2.2
      rw [if_neg hk] at h2
      omega
  refine J.run0 2 rfl ?_
  try dsimp only
  refine J.icmp rfl rfl rfl ⟨b4, by decide, by decide⟩ (fun hc => tail ?_) (fun hc => ?_)
  · have : block = -1 := hc
    omega
  have k8 : ¬ block = -1 := hc
  refine J.run 3 rfl ⟨t1, by rw [t3]; exact t6⟩ ?_
  try dsimp only
  try dsimp only
  rw [t3]
  refine J.inv rfl rfl rfl rfl rfl rfl ((jD_w rfl).mpr h3) rfl rfl rfl rfl rfl (c_lg hP b4) ?_
  rintro r w H ⟨rfl, rfl, rfl⟩
  by_cases h1 : 0 ≤ block ∧ block ≤ 1
  · rw [if_pos h1]
    refine J.run0 1 rfl ?_
    try dsimp only
    exact tail (by omega)
  · rw [if_neg h1]
    refine J.run0 1 rfl ?_
    try dsimp only
    exact thr rfl rfl rfl rfl fun z => h1 ⟨by omega, by omega⟩
end SP
