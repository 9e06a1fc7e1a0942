/-! the class: what its constructor makes -/
section CV
variable {b : Bool} {d : Nat} {w : jW} {H : jH}
theorem c_fill_l {s : Nat} (H0 : jH) (h16 : w.1 32 s) : ∀ (m i : Nat) (H : jH) (lv : jL), i + m = 200 → H.1 = H0.1 → H.2.1 = H0.2.1 → H.2.2.2 = H0.2.2.2 → (∀ k p, ¬ (k = 32 ∧ p = s) → H.2.2.1 k p = H0.2.2.1 k p) → (∀ j : Int, 0 ≤ j → j < i → H.2.2.1 32 s j = 1000) → (lv = [(3, .inl 200), (2, .inl (i : Int)), (0, .inr (some (32, s))), (1, .inl 1000)] ∨ lv = [(2, .inl (i : Int)), (3, .inl 200), (0, .inr (some (32, s))), (1, .inl 1000)]) →
    J b d 172 w (5, lv, [], H) (jN fun r w' H' => r = none ∧ w' = w ∧ H'.1 = H0.1 ∧ H'.2.1 = H0.2.1 ∧ H'.2.2.2 = H0.2.2.2 ∧ (∀ k p, ¬ (k = 32 ∧ p = s) → H'.2.2.1 k p = H0.2.2.1 k p) ∧ ∀ j : Int, 0 ≤ j → j < 200 → H'.2.2.1 32 s j = 1000) := by
  intro m
  induction m with
  | zero =>
    intro i H lv hi q1 q2 q3 q4 q5 hlv
    obtain rfl : i = 200 := by omega
    rcases hlv with rfl | rfl
    all_goals
      refine J.run0 2 rfl ?_
      try dsimp only
      refine J.icmp rfl rfl rfl ⟨⟨by decide, by decide⟩, by decide, by decide⟩ (fun _ => ?_) (fun hc => absurd (show (200 : Int) ≤ (200 : Nat) by decide) hc)
      exact J.retv rfl rfl rfl ⟨_, rfl, rfl, rfl, q1, q2, q3, q4, q5⟩
  | succ m ih =>
    intro i H lv hi q1 q2 q3 q4 q5 hlv
    rcases hlv with rfl | rfl
    all_goals
      refine J.run0 2 rfl ?_
      try dsimp only
      refine J.icmp rfl rfl rfl ⟨⟨by omega, by omega⟩, by decide, by decide⟩ (fun hc => absurd (show (200 : Int) ≤ (i : Int) from hc) (by omega)) (fun _ => ?_)
      refine J.run 6 rfl ⟨h16, show (0 : Int) ≤ i by omega, show (i : Int) < 200 by omega⟩ ?_
      try dsimp only
      refine J.gn fun H1 hH1 => ?_
      have z4 : ∀ k p, ¬ (k = 32 ∧ p = s) → H1.2.2.1 k p = H0.2.2.1 k p := fun k p hn => by
        rw [hH1]
        show jsetR H.2.2.1 32 s _ k p = _
        rw [jsetR_ne hn]
        exact q4 k p hn
      have z5 : ∀ j : Int, 0 ≤ j → j < ((i + 1 : Nat) : Int) → H1.2.2.1 32 s j = 1000 := fun j x y => by
        rw [hH1]
        show jsetR H.2.2.1 32 s (jup (H.2.2.1 32 s) (i : Int) 1000) 32 s j = _
        rw [jsetR_eq]
        unfold jup
        by_cases hj : j = i
        · rw [if_pos hj]
        · rw [if_neg hj]
          exact q5 j x (by omega)
      have z1 : H1.1 = H0.1 ∧ H1.2.1 = H0.2.1 ∧ H1.2.2.2 = H0.2.2.2 := by rw [hH1]; exact ⟨q1, q2, q3⟩
      clear hH1
      exact ih (i + 1) H1 _ (by omega) z1.1 z1.2.1 z1.2.2 z4 z5 (Or.inr rfl)
theorem c_fill {s : Nat} (h16 : w.1 32 s) : J b d 172 w (0, jargs 0 [.inr (some (32, s)), .inl 1000], [], H) (jN fun r w' H' => r = none ∧ w' = w ∧ H'.1 = H.1 ∧ H'.2.1 = H.2.1 ∧ H'.2.2.2 = H.2.2.2 ∧ (∀ k p, ¬ (k = 32 ∧ p = s) → H'.2.2.1 k p = H.2.2.1 k p) ∧ ∀ j : Int, 0 ≤ j → j < 200 → H'.2.2.1 32 s j = 1000) := by
  refine J.run 5 rfl ⟨h16, show (0 : Int) ≤ 200 by decide, show (200 : Int) ≤ 2147483647 by decide⟩ ?_
  try dsimp only
  exact c_fill_l H h16 200 0 H _ rfl rfl rfl rfl (fun _ _ _ => rfl) (fun j x y => by omega) (Or.inl rfl)
theorem c_beFirst_l {s : Nat} (H0 : jH) (hst : cSt0 w H0 s) : ∀ (m i : Nat) (H : jH), i + m = 16 → sFr H H0 s → H.1 = H0.1 → H.2.2.1 32 s = H0.2.2.1 32 s → H.2.2.1 39 s = H0.2.2.1 39 s → (∀ j : Int, 0 ≤ j → j < i → H.2.2.1 33 s j = j ∧ H.2.2.1 34 s j = j ∧ H.2.2.1 35 s j = 100) →
    J b d 53 w (12, [(1, .inl (i : Int)), (0, .inr (some (8, s)))], [], H) (jN fun r w' H' => r = none ∧ w' = w ∧ sFr H' H0 s ∧ (H'.1 8 4 s = 16 ∧ ∀ j, j ≠ 4 → H'.1 8 j s = H0.1 8 j s) ∧ H'.2.2.1 32 s = H0.2.2.1 32 s ∧ H'.2.2.1 39 s = H0.2.2.1 39 s ∧ ∀ j : Int, 0 ≤ j → j < 16 → H'.2.2.1 33 s j = j ∧ H'.2.2.1 34 s j = j ∧ H'.2.2.1 35 s j = 100) := by
  obtain ⟨a1, a2, a3, a4, a5, a6, a7, a8, a9, a10⟩ := hst
  intro m
  induction m with
  | zero =>
    intro i H hi q1 q2 q3 q4 q5
    obtain rfl : i = 16 := by omega
    refine J.run0 2 rfl ?_
    try dsimp only
    refine J.icmp rfl rfl rfl ⟨⟨by decide, by decide⟩, by decide, by decide⟩ (fun _ => ?_) (fun hc => absurd (show (16 : Int) ≤ (16 : Nat) by decide) hc)
    refine J.run 3 rfl a1 ?_
    try dsimp only
    refine J.gn fun H1 hH1 => ?_
    have f1 : sFr H1 H0 s := by
      rw [hH1]
      refine sFr.int ?_ (by decide)
      exact q1
    have g1 : H1.1 8 4 s = 16 := by rw [hH1]; exact if_pos rfl
    have g2 : ∀ j, j ≠ 4 → H1.1 8 j s = H0.1 8 j s := fun j hj => by
      rw [hH1, ← q2]
      show jupF H.1 8 4 s _ 8 j s = _
      exact jupF_ne fun z => hj z.2.1
    have g3 : H1.2.2.1 = H.2.2.1 := by rw [hH1]
    clear hH1
    refine J.retv rfl rfl rfl ⟨_, rfl, rfl, rfl, f1, ⟨g1, g2⟩, ?_, ?_, ?_⟩
    · rw [g3]; exact q3
    · rw [g3]; exact q4
    · rw [g3]; exact q5
  | succ m ih =>
    intro i H hi q1 q2 q3 q4 q5
    refine J.run0 2 rfl ?_
    try dsimp only
    refine J.icmp rfl rfl rfl ⟨⟨by omega, by omega⟩, by decide, by decide⟩ (fun hc => absurd (show (16 : Int) ≤ (i : Int) from hc) (by omega)) (fun _ => ?_)
    have i96 : (0 : Int) ≤ i ∧ (i : Int) < 96 := by omega
    refine J.run 17 rfl ⟨⟨a1, a4⟩, ⟨a4, i96⟩, ⟨a1, a5⟩, ⟨a5, i96⟩, ⟨a1, a6⟩, a6, i96⟩ ?_
    try dsimp only
    refine J.gn fun H1 hH1 => ?_
    have f1 : sFr H1 H0 s := by
      rw [hH1]
      refine sFr.row ?_ (by decide)
      refine sFr.row ?_ (by decide)
      refine sFr.row ?_ (by decide)
      exact q1
    have g2 : H1.1 = H0.1 := by rw [hH1]; exact q2
    have g3 : H1.2.2.1 32 s = H0.2.2.1 32 s := by rw [hH1]; exact q3
    have g4 : H1.2.2.1 39 s = H0.2.2.1 39 s := by rw [hH1]; exact q4
    have g5 : H1.2.2.1 33 s = jup (H.2.2.1 33 s) (i : Int) i ∧ H1.2.2.1 34 s = jup (H.2.2.1 34 s) (i : Int) i ∧ H1.2.2.1 35 s = jup (H.2.2.1 35 s) (i : Int) 100 := by
      rw [hH1]
      exact ⟨if_pos rfl, if_pos rfl, if_pos rfl⟩
    clear hH1
    refine ih (i + 1) H1 (by omega) f1 g2 g3 g4 fun j x y => ?_
    rw [g5.1, g5.2.1, g5.2.2]
    unfold jup
    by_cases hj : j = i
    · rw [if_pos hj, if_pos hj, if_pos hj, hj]
      exact ⟨rfl, rfl, rfl⟩
    · rw [if_neg hj, if_neg hj, if_neg hj]
      exact q5 j x (by omega)
theorem c_beFirst {s : Nat} (hst : cSt0 w H s) (hz : H.1 8 8 s = 0 ∧ H.1 8 9 s = 0 ∧ H.1 8 11 s = 0) (hp : ∀ n, H.2.2.1 39 s n = 0) : J b (d + 1) 53 w (0, jargs 0 [.inr (some (8, s))], [], H) (jN fun r w' H' => r = none ∧ w' = w ∧ cSt1 H' s ∧ sFr H' H s) := by
  refine J.run 3 rfl ⟨hst.1, hst.2.2.1⟩ ?_
  try dsimp only
  refine J.ins5 rfl rfl rfl (Or.inl rfl) rfl rfl (by decide) rfl rfl (jstP.of rfl) (c_fill hst.2.2.1) ?_
  rintro r w' H1 ⟨rfl, rfl, q1, q2, q3, q4, q5⟩
  refine J.run0 2 rfl ?_
  try dsimp only
  have f1 : sFr H1 H s := ⟨q2, q3, fun c j p _ => by rw [q1], fun k p hn => q4 k p fun z => hn ⟨z.2, by rw [z.1]; decide⟩⟩
  refine J.post (c_beFirst_l H1 (hst.mv fun _ _ h => h) 16 0 H1 rfl (sFr.refl _ _) rfl rfl rfl (fun j x y => by omega)) ?_
  rintro o w2 H2 ⟨v, rfl, rfl, rfl, g1, ⟨g2, g3⟩, g4, g5, g6⟩
  refine ⟨_, rfl, rfl, rfl, ⟨⟨g2, ?_, ?_, ?_⟩, fun a x y => ?_, fun i x y => g6 i x y, fun n x y => ?_⟩, g1.trans f1⟩
  · rw [g3 _ (by decide), q1]; exact hz.1
  · rw [g3 _ (by decide), q1]; exact hz.2.1
  · rw [g3 _ (by decide), q1]; exact hz.2.2
  · rw [g4]; exact q5 a x y
  · rw [g5, q4 _ _ fun z => absurd z.1 (by decide)]; exact hp n
theorem c_blkInit0 {p s tx cl : Nat} {x0 x3 : Int} (h0 : w.1 0 p) (htx : 0 < tx) (hcl : 0 < cl) : J b d 0 w (0, jargs 0 [.inr (some (0, p)), .inl x0, .inr none, .inl x3, .inr (some (42, tx)), .inr (some (43, cl)), .inr (some (8, s))], [], H) (jN fun r w' H' => r = none ∧ w' = w ∧ jK [0] [] H' H ∧ H'.1 0 0 p = x0 ∧ H'.1 0 1 p = 0 ∧ H'.2.1 0 2 p = none ∧ H'.1 0 3 p = x3 ∧ H'.2.2.2.2 0 4 p = tx ∧ H'.2.2.2.2 0 5 p = cl ∧ H'.2.1 0 6 p = some s) := by
  refine J.run0 1 rfl ?_
  try dsimp only
  refine J.obj rfl rfl rfl rfl ?_
  refine J.run 5 rfl h0 ?_
  try dsimp only
  refine J.run0 3 rfl ?_
  try dsimp only
  refine J.run 16 rfl ⟨h0, h0, h0, ⟨h0, htx⟩, ⟨h0, hcl⟩, h0⟩ ?_
  try dsimp only
  refine J.gn fun H1 hH1 => ?_
  have q0 : jK [0] [] H1 H := by
    rw [hH1]
    refine jK.ref ?_ (by decide)
    refine jK.own ?_ (by decide)
    refine jK.own ?_ (by decide)
    refine jK.int ?_ (by decide)
    refine jK.ref ?_ (by decide)
    refine jK.int ?_ (by decide)
    refine jK.int ?_ (by decide)
    exact jK.refl _ _ _
  have q1 : H1.1 0 0 p = x0 := by rw [hH1]; exact if_pos rfl
  have q2 : H1.1 0 1 p = 0 := by rw [hH1]; exact if_pos rfl
  have q3 : H1.2.1 0 2 p = none := by rw [hH1]; exact if_pos rfl
  have q4 : H1.1 0 3 p = x3 := by rw [hH1]; exact if_pos rfl
  have q5 : H1.2.2.2.2 0 4 p = tx := by rw [hH1]; exact if_pos rfl
  have q6 : H1.2.2.2.2 0 5 p = cl := by rw [hH1]; exact if_pos rfl
  have q7 : H1.2.1 0 6 p = some s := by rw [hH1]; exact if_pos rfl
  exact J.retv rfl rfl rfl ⟨_, rfl, rfl, rfl, q0, q1, q2, q3, q4, q5, q6, q7⟩
end CV
