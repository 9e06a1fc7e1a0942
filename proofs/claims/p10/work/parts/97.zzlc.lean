-- M: X3_hundreds
section
variable {d : Nat} {F : cG} 
set_option maxRecDepth 20000 in
set_option maxHeartbeats 8000000 in
theorem c_X3_hundreds_l0 {bits : Int} {T0 : cP} {w0 : jW} {H0 : jH} (hI0 : cJ F T0 w0 H0)   : ∀ (m : Nat), (∀ (k : Int) (r : Nat) (T : cP) (w : jW) (H : jH) (lv : jL), 16 - k < (m : Int) → (0 ≤ k ∧ k ≤ 16) → (((w.2.1 : Nat) : Int) - 2 * H.1 7 4 F.2.2.1 - 13 * H.1 3 1 F.2.1 - H.1 3 3 F.2.1 ≤ ((w0.2.1 : Nat) : Int) - 2 * H0.1 7 4 F.2.2.1 - 13 * H0.1 3 1 F.2.1 - H0.1 3 3 F.2.1 + (2)) → (((w.2.2 : Nat) : Int) - 18 * H.1 7 4 F.2.2.1 - 700 * H.1 3 1 F.2.1 - 6 * H.1 3 3 F.2.1 ≤ ((w0.2.2 : Nat) : Int) - 18 * H0.1 7 4 F.2.2.1 - 700 * H0.1 3 1 F.2.1 - 6 * H0.1 3 3 F.2.1 + 10 * (2)) → cJ F T w H → (∀ k p, T0 k p → T k p) → cEx T0 [30043] H H0 → T 43 r → ((lv = [(2, .inl k), (1, .inr (some (43, r))), (0, .inl bits)])) → J false d 22 w (7, lv, [], H) (jN fun v w' H' => ∃ T', cJ F T' w' H' ∧ (∀ k p, T0 k p → T' k p) ∧ cEx T0 [30043] H' H0 ∧ ((w'.2.1 : Nat) : Int) - 2 * H'.1 7 4 F.2.2.1 - 13 * H'.1 3 1 F.2.1 - H'.1 3 3 F.2.1 ≤ ((w0.2.1 : Nat) : Int) - 2 * H0.1 7 4 F.2.2.1 - 13 * H0.1 3 1 F.2.1 - H0.1 3 3 F.2.1 + (2) ∧ ((w'.2.2 : Nat) : Int) - 18 * H'.1 7 4 F.2.2.1 - 700 * H'.1 3 1 F.2.1 - 6 * H'.1 3 3 F.2.1 ≤ ((w0.2.2 : Nat) : Int) - 18 * H0.1 7 4 F.2.2.1 - 700 * H0.1 3 1 F.2.1 - 6 * H0.1 3 3 F.2.1 + 10 * (2) ∧ ∃ rq, v = some (.inr (some (43, rq))) ∧ T' 43 rq ∧ True)) := by
  intro m
  induction m with
  | zero =>
    skip
    · intro k r T w H lv hm hi0 hi1 hi2 hI hS hE tv1 hlv
      exfalso
      omega
  | succ m ih =>
    skip
    · intro k r T w H lv hm hi0 hi1 hi2 hI hS hE tv1 hlv
      rcases hlv with rfl
      refine J.run0 2 rfl ?_
      try dsimp only
      refine J.icmp rfl rfl rfl ⟨(show -2147483648 ≤ k ∧ k ≤ 2147483647 from ⟨by omega, by omega⟩), (show -2147483648 ≤ (16 : Int) ∧ (16 : Int) ≤ 2147483647 from ⟨by omega, by omega⟩)⟩ (fun hc => ?_) (fun hc => ?_)
      · have c1 : (16 : Int) ≤ k := hc
        clear hc
        refine J.run0 1 rfl ?_
        try dsimp only
        exact J.retar rfl rfl rfl ⟨_, rfl, T, hI, hS, hE, (show ((w.2.1 : Nat) : Int) - 2 * H.1 7 4 F.2.2.1 - 13 * H.1 3 1 F.2.1 - H.1 3 3 F.2.1 ≤ ((w0.2.1 : Nat) : Int) - 2 * H0.1 7 4 F.2.2.1 - 13 * H0.1 3 1 F.2.1 - H0.1 3 3 F.2.1 + (2) by omega), (show ((w.2.2 : Nat) : Int) - 18 * H.1 7 4 F.2.2.1 - 700 * H.1 3 1 F.2.1 - 6 * H.1 3 3 F.2.1 ≤ ((w0.2.2 : Nat) : Int) - 18 * H0.1 7 4 F.2.2.1 - 700 * H0.1 3 1 F.2.1 - 6 * H0.1 3 3 F.2.1 + 10 * (2) by omega), _, rfl, tv1, trivial⟩
      · have c2 : ¬ ((16 : Int) ≤ k) := hc
        clear hc
        have f3 : -2147483648 ≤ jushr (bits) (k) ∧ jushr (bits) (k) ≤ 2147483647 := jI32 _
        have f4 : -2147483648 ≤ jand (jushr (bits) (k)) ((1 : Int)) ∧ jand (jushr (bits) (k)) ((1 : Int)) ≤ 2147483647 := jI32 _
        refine J.run 10 rfl (show w.1 43 r ∧ 0 ≤ k ∧ k < 16 from ⟨hI.is tv1, by omega, by omega⟩) ?_
        try dsimp only
        refine J.gn fun H5 hH5 => ?_
        have hI6 : cJ F T w H5 := by rw [hH5]; exact cI.wRj hI tv1 trivial
        have hE7 : cEx T0 [30043] H5 H0 := by rw [hH5]; exact cEx.wR hE (by decide)
        have g8 : H5.1 7 4 F.2.2.1 = H.1 7 4 F.2.2.1 := by subst hH5; rfl
        have g9 : H5.1 3 1 F.2.1 = H.1 3 1 F.2.1 := by subst hH5; rfl
        have g10 : H5.1 3 3 F.2.1 = H.1 3 3 F.2.1 := by subst hH5; rfl
        clear hH5
        refine J.run0 2 rfl ?_
        try dsimp only
        exact ih (k + 1) (r) T w H5 _ (show 16 - (k + 1) < _ by omega) (show 0 ≤ (k + 1) ∧ (k + 1) ≤ 16 from ⟨by omega, by omega⟩) (show ((w.2.1 : Nat) : Int) - 2 * H5.1 7 4 F.2.2.1 - 13 * H5.1 3 1 F.2.1 - H5.1 3 3 F.2.1 ≤ ((w0.2.1 : Nat) : Int) - 2 * H0.1 7 4 F.2.2.1 - 13 * H0.1 3 1 F.2.1 - H0.1 3 3 F.2.1 + (2) from by omega) (show ((w.2.2 : Nat) : Int) - 18 * H5.1 7 4 F.2.2.1 - 700 * H5.1 3 1 F.2.1 - 6 * H5.1 3 3 F.2.1 ≤ ((w0.2.2 : Nat) : Int) - 18 * H0.1 7 4 F.2.2.1 - 700 * H0.1 3 1 F.2.1 - 6 * H0.1 3 3 F.2.1 + 10 * (2) from by omega) hI6 hS hE7 tv1 rfl
set_option maxRecDepth 20000 in
set_option maxHeartbeats 8000000 in
theorem c_X3_hundreds {bits : Int} {T : cP} {w : jW} {H : jH} (hI : cJ F T w H)   : J false d 22 w (0, jargs 0 [.inl bits], [], H) (jN fun v w' H' => ∃ T', cJ F T' w' H' ∧ (∀ k p, T k p → T' k p) ∧ cEx T [30043] H' H ∧ ((w'.2.1 : Nat) : Int) - 2 * H'.1 7 4 F.2.2.1 - 13 * H'.1 3 1 F.2.1 - H'.1 3 3 F.2.1 ≤ ((w.2.1 : Nat) : Int) - 2 * H.1 7 4 F.2.2.1 - 13 * H.1 3 1 F.2.1 - H.1 3 3 F.2.1 + (2) ∧ ((w'.2.2 : Nat) : Int) - 18 * H'.1 7 4 F.2.2.1 - 700 * H'.1 3 1 F.2.1 - 6 * H'.1 3 3 F.2.1 ≤ ((w.2.2 : Nat) : Int) - 18 * H.1 7 4 F.2.2.1 - 700 * H.1 3 1 F.2.1 - 6 * H.1 3 3 F.2.1 + 10 * (2) ∧ ∃ rq, v = some (.inr (some (43, rq))) ∧ T' 43 rq ∧ True) := by
  have hE : cEx T [30043] H H := cEx.refl
  have hS : ∀ k p, T k p → T k p := fun _ _ z => z
  refine J.run0 1 rfl ?_
  try dsimp only
  refine s_hun hI fun w12 H11 q18  hI13 ehE15 ca16 cb17  => ?_
  have eM := ehE15
  have g19 : H11.1 7 4 F.2.2.1 = H.1 7 4 F.2.2.1 := (ehE15.1 7 4 F.2.2.1 hI.top.2.2.1).1 (by decide)
  have g20 : H11.1 3 1 F.2.1 = H.1 3 1 F.2.1 := (ehE15.1 3 1 F.2.1 hI.top.2.1).1 (by decide)
  have g21 : H11.1 3 3 F.2.1 = H.1 3 3 F.2.1 := (ehE15.1 3 3 F.2.1 hI.top.2.1).1 (by decide)
  have hE15 : cEx T [30043] H11 H := cEx.trans ehE15 hE hS (by decide)
  have hS14 : ∀ k p, T k p → (tA T 43 q18) k p := fun k p z => Or.inl (hS k p z)
  have t22 : (tA T 43 q18) 43 q18 := tA.new
  try dsimp only [Option.toList, List.append, List.cons_append, List.nil_append, Option.map]
  refine J.run0 3 rfl ?_
  try dsimp only
  exact (c_X3_hundreds_l0 (bits := bits) hI   ((16 - ((0 : Int)) : Int).toNat + 1)) ((0 : Int)) (q18) (tA T 43 q18) w12 H11 _ (show 16 - ((0 : Int)) < _ by omega) (show 0 ≤ ((0 : Int)) ∧ ((0 : Int)) ≤ 16 from ⟨by omega, by omega⟩) (show ((w12.2.1 : Nat) : Int) - 2 * H11.1 7 4 F.2.2.1 - 13 * H11.1 3 1 F.2.1 - H11.1 3 3 F.2.1 ≤ ((w.2.1 : Nat) : Int) - 2 * H.1 7 4 F.2.2.1 - 13 * H.1 3 1 F.2.1 - H.1 3 3 F.2.1 + (2) from by omega) (show ((w12.2.2 : Nat) : Int) - 18 * H11.1 7 4 F.2.2.1 - 700 * H11.1 3 1 F.2.1 - 6 * H11.1 3 3 F.2.1 ≤ ((w.2.2 : Nat) : Int) - 18 * H.1 7 4 F.2.2.1 - 700 * H.1 3 1 F.2.1 - 6 * H.1 3 3 F.2.1 + 10 * (2) from by omega) hI13 hS14 hE15 t22 rfl
end
-- M: X10_rowOf
section
variable {d : Nat} {F : cG} 
set_option maxRecDepth 20000 in
set_option maxHeartbeats 8000000 in
theorem c_X10_rowOf {one : Int} {two : Int} {T : cP} {w : jW} {H : jH} (hI : cJ F T w H)  (hp0 : -1 ≤ one ∧ one ≤ 1499) (hp1 : -1 ≤ two ∧ two ≤ 1499) (hp2 : one < H.1 3 3 F.2.1) (hp3 : two < H.1 3 3 F.2.1) : J false d 110 w (0, jargs 0 [.inl one, .inl two], [], H) (jN fun v w' H' => ∃ T', cJ F T' w' H' ∧ (∀ k p, T k p → T' k p) ∧ cEx T [30042] H' H ∧ ((w'.2.1 : Nat) : Int) - 2 * H'.1 7 4 F.2.2.1 - 13 * H'.1 3 1 F.2.1 - H'.1 3 3 F.2.1 ≤ ((w.2.1 : Nat) : Int) - 2 * H.1 7 4 F.2.2.1 - 13 * H.1 3 1 F.2.1 - H.1 3 3 F.2.1 + (1) ∧ ((w'.2.2 : Nat) : Int) - 18 * H'.1 7 4 F.2.2.1 - 700 * H'.1 3 1 F.2.1 - 6 * H'.1 3 3 F.2.1 ≤ ((w.2.2 : Nat) : Int) - 18 * H.1 7 4 F.2.2.1 - 700 * H.1 3 1 F.2.1 - 6 * H.1 3 3 F.2.1 + 10 * (1) ∧ ∃ rq, v = some (.inr (some (42, rq))) ∧ T' 42 rq ∧ (∀ i, 0 ≤ i → i < H'.1 42 0 rq → 0 ≤ H'.2.2.1 42 rq i ∧ H'.2.2.1 42 rq i < H'.1 3 3 F.2.1)) := by
  have hE : cEx T [30042] H H := cEx.refl
  have hS : ∀ k p, T k p → T k p := fun _ _ z => z
  refine J.run0 2 rfl ?_
  try dsimp only
  refine J.icmp rfl rfl rfl ⟨(show -2147483648 ≤ one ∧ one ≤ 2147483647 from ⟨by omega, by omega⟩), (show -2147483648 ≤ (-1 : Int) ∧ (-1 : Int) ≤ 2147483647 from ⟨by omega, by omega⟩)⟩ (fun hc => ?_) (fun hc => ?_)
  · have c1 : ¬ (one = (-1 : Int)) := hc
    clear hc
    refine J.run0 3 rfl ?_
    try dsimp only
    refine J.icmp rfl rfl rfl ⟨(show -2147483648 ≤ two ∧ two ≤ 2147483647 from ⟨by omega, by omega⟩), (show -2147483648 ≤ (-1 : Int) ∧ (-1 : Int) ≤ 2147483647 from ⟨by omega, by omega⟩)⟩ (fun hc => ?_) (fun hc => ?_)
    · have c2 : ¬ (two = (-1 : Int)) := hc
      clear hc
      refine J.run0 4 rfl ?_
      try dsimp only
      refine s_rowOf hI ⟨by omega, by omega⟩ fun w4 H3 q10  hI5 ehE7 ca8 cb9 p11 => ?_
      have p11' : H3.1 42 0 q10 = ((1 : Int) + (1 : Int)) := p11
      have pM0 := p11
      have eM := ehE7
      have g12 : H3.1 7 4 F.2.2.1 = H.1 7 4 F.2.2.1 := (ehE7.1 7 4 F.2.2.1 hI.top.2.2.1).1 (by decide)
      have g13 : H3.1 3 1 F.2.1 = H.1 3 1 F.2.1 := (ehE7.1 3 1 F.2.1 hI.top.2.1).1 (by decide)
      have g14 : H3.1 3 3 F.2.1 = H.1 3 3 F.2.1 := (ehE7.1 3 3 F.2.1 hI.top.2.1).1 (by decide)
      have hE7 : cEx T [30042] H3 H := cEx.trans ehE7 hE hS (by decide)
      have hS6 : ∀ k p, T k p → (tA T 42 q10) k p := fun k p z => Or.inl (hS k p z)
      have t15 : (tA T 42 q10) 42 q10 := tA.new
      try dsimp only [Option.toList, List.append, List.cons_append, List.nil_append, Option.map]
      refine J.run0 3 rfl ?_
      try dsimp only
      refine J.icmp rfl rfl rfl ⟨(show -2147483648 ≤ one ∧ one ≤ 2147483647 from ⟨by omega, by omega⟩), (show -2147483648 ≤ (-1 : Int) ∧ (-1 : Int) ≤ 2147483647 from ⟨by omega, by omega⟩)⟩ (fun hc => ?_) (fun hc => ?_)
      · have c16 : one = (-1 : Int) := hc
        clear hc
        refine J.run0 2 rfl ?_
        try dsimp only
        refine J.icmp rfl rfl rfl ⟨(show -2147483648 ≤ two ∧ two ≤ 2147483647 from ⟨by omega, by omega⟩), (show -2147483648 ≤ (-1 : Int) ∧ (-1 : Int) ≤ 2147483647 from ⟨by omega, by omega⟩)⟩ (fun hc => ?_) (fun hc => ?_)
        · have c17 : two = (-1 : Int) := hc
          clear hc
          refine J.run0 1 rfl ?_
          try dsimp only
          exact J.retar rfl rfl rfl ⟨_, rfl, (tA T 42 q10), hI5, hS6, hE7, (show ((w4.2.1 : Nat) : Int) - 2 * H3.1 7 4 F.2.2.1 - 13 * H3.1 3 1 F.2.1 - H3.1 3 3 F.2.1 ≤ ((w.2.1 : Nat) : Int) - 2 * H.1 7 4 F.2.2.1 - 13 * H.1 3 1 F.2.1 - H.1 3 3 F.2.1 + (1) by omega), (show ((w4.2.2 : Nat) : Int) - 18 * H3.1 7 4 F.2.2.1 - 700 * H3.1 3 1 F.2.1 - 6 * H3.1 3 3 F.2.1 ≤ ((w.2.2 : Nat) : Int) - 18 * H.1 7 4 F.2.2.1 - 700 * H.1 3 1 F.2.1 - 6 * H.1 3 3 F.2.1 + 10 * (1) by omega), _, rfl, t15, (by intro i h0 h1; first | (exfalso; omega) | (rw [rA, rB]; unfold jup; split <;> (try split) <;> omega) | (rw [rA]; unfold jup; split <;> omega))⟩
        · have c18 : ¬ (two = (-1 : Int)) := hc
          clear hc
          have f19 : 0 ≤ H3.1 42 0 q10 ∧ H3.1 42 0 q10 ≤ 12 := hI5.v 42 0 q10 t15
          refine J.run 6 rfl (show w4.1 42 q10 ∧ 0 ≤ ((1 : Int) + (1 : Int)) - (1 : Int) ∧ ((1 : Int) + (1 : Int)) - (1 : Int) < H3.1 42 0 q10 from ⟨hI5.is t15, by omega, by omega⟩) ?_
          try dsimp only
          refine J.gn fun H20 hH20 => ?_
          have hI21 : cJ F (tA T 42 q10) w4 H20 := by rw [hH20]; exact cI.wRj hI5 t15 (show 0 ≤ two ∧ two ≤ 1499 from ⟨by omega, by omega⟩)
          have hE22 : cEx T [30042] H20 H := by rw [hH20]; exact cEx.wR hE7 (by decide)
          have g23 : H20.1 7 4 F.2.2.1 = H3.1 7 4 F.2.2.1 := by subst hH20; rfl
          have g24 : H20.1 3 1 F.2.1 = H3.1 3 1 F.2.1 := by subst hH20; rfl
          have g25 : H20.1 3 3 F.2.1 = H3.1 3 3 F.2.1 := by subst hH20; rfl
          have g26 : H20.1 42 0 q10 = H3.1 42 0 q10 := by subst hH20; rfl
          first | (have rB := rA; skip) | skip
          have rA : H20.2.2.1 42 q10 = jup (H3.2.2.1 42 q10) (((1 : Int) + (1 : Int)) - (1 : Int)) (two) := by subst hH20; exact if_pos rfl
          clear hH20
          refine J.run0 1 rfl ?_
          try dsimp only
          exact J.retar rfl rfl rfl ⟨_, rfl, (tA T 42 q10), hI21, hS6, hE22, (show ((w4.2.1 : Nat) : Int) - 2 * H20.1 7 4 F.2.2.1 - 13 * H20.1 3 1 F.2.1 - H20.1 3 3 F.2.1 ≤ ((w.2.1 : Nat) : Int) - 2 * H.1 7 4 F.2.2.1 - 13 * H.1 3 1 F.2.1 - H.1 3 3 F.2.1 + (1) by omega), (show ((w4.2.2 : Nat) : Int) - 18 * H20.1 7 4 F.2.2.1 - 700 * H20.1 3 1 F.2.1 - 6 * H20.1 3 3 F.2.1 ≤ ((w.2.2 : Nat) : Int) - 18 * H.1 7 4 F.2.2.1 - 700 * H.1 3 1 F.2.1 - 6 * H.1 3 3 F.2.1 + 10 * (1) by omega), _, rfl, t15, (by intro i h0 h1; first | (exfalso; omega) | (rw [rA, rB]; unfold jup; split <;> (try split) <;> omega) | (rw [rA]; unfold jup; split <;> omega))⟩
      · have c27 : ¬ (one = (-1 : Int)) := hc
        clear hc
        have f28 : 0 ≤ H3.1 42 0 q10 ∧ H3.1 42 0 q10 ≤ 12 := hI5.v 42 0 q10 t15
        refine J.run 4 rfl (show w4.1 42 q10 ∧ 0 ≤ (0 : Int) ∧ (0 : Int) < H3.1 42 0 q10 from ⟨hI5.is t15, by omega, by omega⟩) ?_
        try dsimp only
        refine J.gn fun H29 hH29 => ?_
        have hI30 : cJ F (tA T 42 q10) w4 H29 := by rw [hH29]; exact cI.wRj hI5 t15 (show 0 ≤ one ∧ one ≤ 1499 from ⟨by omega, by omega⟩)
        have hE31 : cEx T [30042] H29 H := by rw [hH29]; exact cEx.wR hE7 (by decide)
        have g32 : H29.1 7 4 F.2.2.1 = H3.1 7 4 F.2.2.1 := by subst hH29; rfl
        have g33 : H29.1 3 1 F.2.1 = H3.1 3 1 F.2.1 := by subst hH29; rfl
        have g34 : H29.1 3 3 F.2.1 = H3.1 3 3 F.2.1 := by subst hH29; rfl
        have g35 : H29.1 42 0 q10 = H3.1 42 0 q10 := by subst hH29; rfl
        first | (have rB := rA; skip) | skip
        have rA : H29.2.2.1 42 q10 = jup (H3.2.2.1 42 q10) ((0 : Int)) (one) := by subst hH29; exact if_pos rfl
        clear hH29
        refine J.run0 2 rfl ?_
        try dsimp only
        refine J.icmp rfl rfl rfl ⟨(show -2147483648 ≤ two ∧ two ≤ 2147483647 from ⟨by omega, by omega⟩), (show -2147483648 ≤ (-1 : Int) ∧ (-1 : Int) ≤ 2147483647 from ⟨by omega, by omega⟩)⟩ (fun hc => ?_) (fun hc => ?_)
        · have c36 : two = (-1 : Int) := hc
          clear hc
          refine J.run0 1 rfl ?_
          try dsimp only
          exact J.retar rfl rfl rfl ⟨_, rfl, (tA T 42 q10), hI30, hS6, hE31, (show ((w4.2.1 : Nat) : Int) - 2 * H29.1 7 4 F.2.2.1 - 13 * H29.1 3 1 F.2.1 - H29.1 3 3 F.2.1 ≤ ((w.2.1 : Nat) : Int) - 2 * H.1 7 4 F.2.2.1 - 13 * H.1 3 1 F.2.1 - H.1 3 3 F.2.1 + (1) by omega), (show ((w4.2.2 : Nat) : Int) - 18 * H29.1 7 4 F.2.2.1 - 700 * H29.1 3 1 F.2.1 - 6 * H29.1 3 3 F.2.1 ≤ ((w.2.2 : Nat) : Int) - 18 * H.1 7 4 F.2.2.1 - 700 * H.1 3 1 F.2.1 - 6 * H.1 3 3 F.2.1 + 10 * (1) by omega), _, rfl, t15, (by intro i h0 h1; first | (exfalso; omega) | (rw [rA, rB]; unfold jup; split <;> (try split) <;> omega) | (rw [rA]; unfold jup; split <;> omega))⟩
        · have c37 : ¬ (two = (-1 : Int)) := hc
          clear hc
          have f38 : 0 ≤ H29.1 42 0 q10 ∧ H29.1 42 0 q10 ≤ 12 := hI30.v 42 0 q10 t15
          refine J.run 6 rfl (show w4.1 42 q10 ∧ 0 ≤ ((1 : Int) + (1 : Int)) - (1 : Int) ∧ ((1 : Int) + (1 : Int)) - (1 : Int) < H29.1 42 0 q10 from ⟨hI30.is t15, by omega, by omega⟩) ?_
          try dsimp only
          refine J.gn fun H39 hH39 => ?_
          have hI40 : cJ F (tA T 42 q10) w4 H39 := by rw [hH39]; exact cI.wRj hI30 t15 (show 0 ≤ two ∧ two ≤ 1499 from ⟨by omega, by omega⟩)
          have hE41 : cEx T [30042] H39 H := by rw [hH39]; exact cEx.wR hE31 (by decide)
          have g42 : H39.1 7 4 F.2.2.1 = H29.1 7 4 F.2.2.1 := by subst hH39; rfl
          have g43 : H39.1 3 1 F.2.1 = H29.1 3 1 F.2.1 := by subst hH39; rfl
          have g44 : H39.1 3 3 F.2.1 = H29.1 3 3 F.2.1 := by subst hH39; rfl
          have g45 : H39.1 42 0 q10 = H29.1 42 0 q10 := by subst hH39; rfl
          first | (have rB := rA; skip) | skip
          have rA : H39.2.2.1 42 q10 = jup (H29.2.2.1 42 q10) (((1 : Int) + (1 : Int)) - (1 : Int)) (two) := by subst hH39; exact if_pos rfl
          clear hH39
          refine J.run0 1 rfl ?_
          try dsimp only
          exact J.retar rfl rfl rfl ⟨_, rfl, (tA T 42 q10), hI40, hS6, hE41, (show ((w4.2.1 : Nat) : Int) - 2 * H39.1 7 4 F.2.2.1 - 13 * H39.1 3 1 F.2.1 - H39.1 3 3 F.2.1 ≤ ((w.2.1 : Nat) : Int) - 2 * H.1 7 4 F.2.2.1 - 13 * H.1 3 1 F.2.1 - H.1 3 3 F.2.1 + (1) by omega), (show ((w4.2.2 : Nat) : Int) - 18 * H39.1 7 4 F.2.2.1 - 700 * H39.1 3 1 F.2.1 - 6 * H39.1 3 3 F.2.1 ≤ ((w.2.2 : Nat) : Int) - 18 * H.1 7 4 F.2.2.1 - 700 * H.1 3 1 F.2.1 - 6 * H.1 3 3 F.2.1 + 10 * (1) by omega), _, rfl, t15, (by intro i h0 h1; first | (exfalso; omega) | (rw [rA, rB]; unfold jup; split <;> (try split) <;> omega) | (rw [rA]; unfold jup; split <;> omega))⟩
    · have c46 : ¬ (¬ (two = (-1 : Int))) := hc
      clear hc
      refine J.run0 5 rfl ?_
      try dsimp only
      refine s_rowOf hI ⟨by omega, by omega⟩ fun w48 H47 q54  hI49 ehE51 ca52 cb53 p55 => ?_
      have p55' : H47.1 42 0 q54 = ((1 : Int) + (0 : Int)) := p55
      have pM0 := p55
      have eM := ehE51
      have g56 : H47.1 7 4 F.2.2.1 = H.1 7 4 F.2.2.1 := (ehE51.1 7 4 F.2.2.1 hI.top.2.2.1).1 (by decide)
      have g57 : H47.1 3 1 F.2.1 = H.1 3 1 F.2.1 := (ehE51.1 3 1 F.2.1 hI.top.2.1).1 (by decide)
      have g58 : H47.1 3 3 F.2.1 = H.1 3 3 F.2.1 := (ehE51.1 3 3 F.2.1 hI.top.2.1).1 (by decide)
      have hE51 : cEx T [30042] H47 H := cEx.trans ehE51 hE hS (by decide)
      have hS50 : ∀ k p, T k p → (tA T 42 q54) k p := fun k p z => Or.inl (hS k p z)
      have t59 : (tA T 42 q54) 42 q54 := tA.new
      try dsimp only [Option.toList, List.append, List.cons_append, List.nil_append, Option.map]
      refine J.run0 3 rfl ?_
      try dsimp only
      refine J.icmp rfl rfl rfl ⟨(show -2147483648 ≤ one ∧ one ≤ 2147483647 from ⟨by omega, by omega⟩), (show -2147483648 ≤ (-1 : Int) ∧ (-1 : Int) ≤ 2147483647 from ⟨by omega, by omega⟩)⟩ (fun hc => ?_) (fun hc => ?_)
      · have c60 : one = (-1 : Int) := hc
        clear hc
        refine J.run0 2 rfl ?_
        try dsimp only
        refine J.icmp rfl rfl rfl ⟨(show -2147483648 ≤ two ∧ two ≤ 2147483647 from ⟨by omega, by omega⟩), (show -2147483648 ≤ (-1 : Int) ∧ (-1 : Int) ≤ 2147483647 from ⟨by omega, by omega⟩)⟩ (fun hc => ?_) (fun hc => ?_)
        · have c61 : two = (-1 : Int) := hc
          clear hc
          refine J.run0 1 rfl ?_
          try dsimp only
          exact J.retar rfl rfl rfl ⟨_, rfl, (tA T 42 q54), hI49, hS50, hE51, (show ((w48.2.1 : Nat) : Int) - 2 * H47.1 7 4 F.2.2.1 - 13 * H47.1 3 1 F.2.1 - H47.1 3 3 F.2.1 ≤ ((w.2.1 : Nat) : Int) - 2 * H.1 7 4 F.2.2.1 - 13 * H.1 3 1 F.2.1 - H.1 3 3 F.2.1 + (1) by omega), (show ((w48.2.2 : Nat) : Int) - 18 * H47.1 7 4 F.2.2.1 - 700 * H47.1 3 1 F.2.1 - 6 * H47.1 3 3 F.2.1 ≤ ((w.2.2 : Nat) : Int) - 18 * H.1 7 4 F.2.2.1 - 700 * H.1 3 1 F.2.1 - 6 * H.1 3 3 F.2.1 + 10 * (1) by omega), _, rfl, t59, (by intro i h0 h1; first | (exfalso; omega) | (rw [rA, rB]; unfold jup; split <;> (try split) <;> omega) | (rw [rA]; unfold jup; split <;> omega))⟩
        · have c62 : ¬ (two = (-1 : Int)) := hc
          clear hc
          have f63 : 0 ≤ H47.1 42 0 q54 ∧ H47.1 42 0 q54 ≤ 12 := hI49.v 42 0 q54 t59
          refine J.run 6 rfl (show w48.1 42 q54 ∧ 0 ≤ ((1 : Int) + (0 : Int)) - (1 : Int) ∧ ((1 : Int) + (0 : Int)) - (1 : Int) < H47.1 42 0 q54 from ⟨hI49.is t59, by omega, by omega⟩) ?_
          try dsimp only
          refine J.gn fun H64 hH64 => ?_
          have hI65 : cJ F (tA T 42 q54) w48 H64 := by rw [hH64]; exact cI.wRj hI49 t59 (show 0 ≤ two ∧ two ≤ 1499 from ⟨by omega, by omega⟩)
          have hE66 : cEx T [30042] H64 H := by rw [hH64]; exact cEx.wR hE51 (by decide)
          have g67 : H64.1 7 4 F.2.2.1 = H47.1 7 4 F.2.2.1 := by subst hH64; rfl
          have g68 : H64.1 3 1 F.2.1 = H47.1 3 1 F.2.1 := by subst hH64; rfl
          have g69 : H64.1 3 3 F.2.1 = H47.1 3 3 F.2.1 := by subst hH64; rfl
          have g70 : H64.1 42 0 q54 = H47.1 42 0 q54 := by subst hH64; rfl
          first | (have rB := rA; skip) | skip
          have rA : H64.2.2.1 42 q54 = jup (H47.2.2.1 42 q54) (((1 : Int) + (0 : Int)) - (1 : Int)) (two) := by subst hH64; exact if_pos rfl
          clear hH64
          refine J.run0 1 rfl ?_
          try dsimp only
          exact J.retar rfl rfl rfl ⟨_, rfl, (tA T 42 q54), hI65, hS50, hE66, (show ((w48.2.1 : Nat) : Int) - 2 * H64.1 7 4 F.2.2.1 - 13 * H64.1 3 1 F.2.1 - H64.1 3 3 F.2.1 ≤ ((w.2.1 : Nat) : Int) - 2 * H.1 7 4 F.2.2.1 - 13 * H.1 3 1 F.2.1 - H.1 3 3 F.2.1 + (1) by omega), (show ((w48.2.2 : Nat) : Int) - 18 * H64.1 7 4 F.2.2.1 - 700 * H64.1 3 1 F.2.1 - 6 * H64.1 3 3 F.2.1 ≤ ((w.2.2 : Nat) : Int) - 18 * H.1 7 4 F.2.2.1 - 700 * H.1 3 1 F.2.1 - 6 * H.1 3 3 F.2.1 + 10 * (1) by omega), _, rfl, t59, (by intro i h0 h1; first | (exfalso; omega) | (rw [rA, rB]; unfold jup; split <;> (try split) <;> omega) | (rw [rA]; unfold jup; split <;> omega))⟩
      · have c71 : ¬ (one = (-1 : Int)) := hc
        clear hc
        have f72 : 0 ≤ H47.1 42 0 q54 ∧ H47.1 42 0 q54 ≤ 12 := hI49.v 42 0 q54 t59
        refine J.run 4 rfl (show w48.1 42 q54 ∧ 0 ≤ (0 : Int) ∧ (0 : Int) < H47.1 42 0 q54 from ⟨hI49.is t59, by omega, by omega⟩) ?_
        try dsimp only
        refine J.gn fun H73 hH73 => ?_
        have hI74 : cJ F (tA T 42 q54) w48 H73 := by rw [hH73]; exact cI.wRj hI49 t59 (show 0 ≤ one ∧ one ≤ 1499 from ⟨by omega, by omega⟩)
        have hE75 : cEx T [30042] H73 H := by rw [hH73]; exact cEx.wR hE51 (by decide)
        have g76 : H73.1 7 4 F.2.2.1 = H47.1 7 4 F.2.2.1 := by subst hH73; rfl
        have g77 : H73.1 3 1 F.2.1 = H47.1 3 1 F.2.1 := by subst hH73; rfl
        have g78 : H73.1 3 3 F.2.1 = H47.1 3 3 F.2.1 := by subst hH73; rfl
        have g79 : H73.1 42 0 q54 = H47.1 42 0 q54 := by subst hH73; rfl
        first | (have rB := rA; skip) | skip
        have rA : H73.2.2.1 42 q54 = jup (H47.2.2.1 42 q54) ((0 : Int)) (one) := by subst hH73; exact if_pos rfl
        clear hH73
        refine J.run0 2 rfl ?_
        try dsimp only
        refine J.icmp rfl rfl rfl ⟨(show -2147483648 ≤ two ∧ two ≤ 2147483647 from ⟨by omega, by omega⟩), (show -2147483648 ≤ (-1 : Int) ∧ (-1 : Int) ≤ 2147483647 from ⟨by omega, by omega⟩)⟩ (fun hc => ?_) (fun hc => ?_)
        · have c80 : two = (-1 : Int) := hc
          clear hc
          refine J.run0 1 rfl ?_
          try dsimp only
          exact J.retar rfl rfl rfl ⟨_, rfl, (tA T 42 q54), hI74, hS50, hE75, (show ((w48.2.1 : Nat) : Int) - 2 * H73.1 7 4 F.2.2.1 - 13 * H73.1 3 1 F.2.1 - H73.1 3 3 F.2.1 ≤ ((w.2.1 : Nat) : Int) - 2 * H.1 7 4 F.2.2.1 - 13 * H.1 3 1 F.2.1 - H.1 3 3 F.2.1 + (1) by omega), (show ((w48.2.2 : Nat) : Int) - 18 * H73.1 7 4 F.2.2.1 - 700 * H73.1 3 1 F.2.1 - 6 * H73.1 3 3 F.2.1 ≤ ((w.2.2 : Nat) : Int) - 18 * H.1 7 4 F.2.2.1 - 700 * H.1 3 1 F.2.1 - 6 * H.1 3 3 F.2.1 + 10 * (1) by omega), _, rfl, t59, (by intro i h0 h1; first | (exfalso; omega) | (rw [rA, rB]; unfold jup; split <;> (try split) <;> omega) | (rw [rA]; unfold jup; split <;> omega))⟩
        · have c81 : ¬ (two = (-1 : Int)) := hc
          clear hc
          have f82 : 0 ≤ H73.1 42 0 q54 ∧ H73.1 42 0 q54 ≤ 12 := hI74.v 42 0 q54 t59
          refine J.run 6 rfl (show w48.1 42 q54 ∧ 0 ≤ ((1 : Int) + (0 : Int)) - (1 : Int) ∧ ((1 : Int) + (0 : Int)) - (1 : Int) < H73.1 42 0 q54 from ⟨hI74.is t59, by omega, by omega⟩) ?_
          try dsimp only
          refine J.gn fun H83 hH83 => ?_
          have hI84 : cJ F (tA T 42 q54) w48 H83 := by rw [hH83]; exact cI.wRj hI74 t59 (show 0 ≤ two ∧ two ≤ 1499 from ⟨by omega, by omega⟩)
          have hE85 : cEx T [30042] H83 H := by rw [hH83]; exact cEx.wR hE75 (by decide)
          have g86 : H83.1 7 4 F.2.2.1 = H73.1 7 4 F.2.2.1 := by subst hH83; rfl
          have g87 : H83.1 3 1 F.2.1 = H73.1 3 1 F.2.1 := by subst hH83; rfl
          have g88 : H83.1 3 3 F.2.1 = H73.1 3 3 F.2.1 := by subst hH83; rfl
          have g89 : H83.1 42 0 q54 = H73.1 42 0 q54 := by subst hH83; rfl
          first | (have rB := rA; skip) | skip
          have rA : H83.2.2.1 42 q54 = jup (H73.2.2.1 42 q54) (((1 : Int) + (0 : Int)) - (1 : Int)) (two) := by subst hH83; exact if_pos rfl
          clear hH83
          refine J.run0 1 rfl ?_
          try dsimp only
          exact J.retar rfl rfl rfl ⟨_, rfl, (tA T 42 q54), hI84, hS50, hE85, (show ((w48.2.1 : Nat) : Int) - 2 * H83.1 7 4 F.2.2.1 - 13 * H83.1 3 1 F.2.1 - H83.1 3 3 F.2.1 ≤ ((w.2.1 : Nat) : Int) - 2 * H.1 7 4 F.2.2.1 - 13 * H.1 3 1 F.2.1 - H.1 3 3 F.2.1 + (1) by omega), (show ((w48.2.2 : Nat) : Int) - 18 * H83.1 7 4 F.2.2.1 - 700 * H83.1 3 1 F.2.1 - 6 * H83.1 3 3 F.2.1 ≤ ((w.2.2 : Nat) : Int) - 18 * H.1 7 4 F.2.2.1 - 700 * H.1 3 1 F.2.1 - 6 * H.1 3 3 F.2.1 + 10 * (1) by omega), _, rfl, t59, (by intro i h0 h1; first | (exfalso; omega) | (rw [rA, rB]; unfold jup; split <;> (try split) <;> omega) | (rw [rA]; unfold jup; split <;> omega))⟩
  · have c90 : ¬ (¬ (one = (-1 : Int))) := hc
    clear hc
    refine J.run0 4 rfl ?_
    try dsimp only
    refine J.icmp rfl rfl rfl ⟨(show -2147483648 ≤ two ∧ two ≤ 2147483647 from ⟨by omega, by omega⟩), (show -2147483648 ≤ (-1 : Int) ∧ (-1 : Int) ≤ 2147483647 from ⟨by omega, by omega⟩)⟩ (fun hc => ?_) (fun hc => ?_)
    · have c91 : ¬ (two = (-1 : Int)) := hc
      clear hc
      refine J.run0 4 rfl ?_
      try dsimp only
      refine s_rowOf hI ⟨by omega, by omega⟩ fun w93 H92 q99  hI94 ehE96 ca97 cb98 p100 => ?_
      have p100' : H92.1 42 0 q99 = ((0 : Int) + (1 : Int)) := p100
      have pM0 := p100
      have eM := ehE96
      have g101 : H92.1 7 4 F.2.2.1 = H.1 7 4 F.2.2.1 := (ehE96.1 7 4 F.2.2.1 hI.top.2.2.1).1 (by decide)
      have g102 : H92.1 3 1 F.2.1 = H.1 3 1 F.2.1 := (ehE96.1 3 1 F.2.1 hI.top.2.1).1 (by decide)
      have g103 : H92.1 3 3 F.2.1 = H.1 3 3 F.2.1 := (ehE96.1 3 3 F.2.1 hI.top.2.1).1 (by decide)
      have hE96 : cEx T [30042] H92 H := cEx.trans ehE96 hE hS (by decide)
      have hS95 : ∀ k p, T k p → (tA T 42 q99) k p := fun k p z => Or.inl (hS k p z)
      have t104 : (tA T 42 q99) 42 q99 := tA.new
      try dsimp only [Option.toList, List.append, List.cons_append, List.nil_append, Option.map]
      refine J.run0 3 rfl ?_
      try dsimp only
      refine J.icmp rfl rfl rfl ⟨(show -2147483648 ≤ one ∧ one ≤ 2147483647 from ⟨by omega, by omega⟩), (show -2147483648 ≤ (-1 : Int) ∧ (-1 : Int) ≤ 2147483647 from ⟨by omega, by omega⟩)⟩ (fun hc => ?_) (fun hc => ?_)
      · have c105 : one = (-1 : Int) := hc
        clear hc
        refine J.run0 2 rfl ?_
        try dsimp only
        refine J.icmp rfl rfl rfl ⟨(show -2147483648 ≤ two ∧ two ≤ 2147483647 from ⟨by omega, by omega⟩), (show -2147483648 ≤ (-1 : Int) ∧ (-1 : Int) ≤ 2147483647 from ⟨by omega, by omega⟩)⟩ (fun hc => ?_) (fun hc => ?_)
        · have c106 : two = (-1 : Int) := hc
          clear hc
          refine J.run0 1 rfl ?_
          try dsimp only
          exact J.retar rfl rfl rfl ⟨_, rfl, (tA T 42 q99), hI94, hS95, hE96, (show ((w93.2.1 : Nat) : Int) - 2 * H92.1 7 4 F.2.2.1 - 13 * H92.1 3 1 F.2.1 - H92.1 3 3 F.2.1 ≤ ((w.2.1 : Nat) : Int) - 2 * H.1 7 4 F.2.2.1 - 13 * H.1 3 1 F.2.1 - H.1 3 3 F.2.1 + (1) by omega), (show ((w93.2.2 : Nat) : Int) - 18 * H92.1 7 4 F.2.2.1 - 700 * H92.1 3 1 F.2.1 - 6 * H92.1 3 3 F.2.1 ≤ ((w.2.2 : Nat) : Int) - 18 * H.1 7 4 F.2.2.1 - 700 * H.1 3 1 F.2.1 - 6 * H.1 3 3 F.2.1 + 10 * (1) by omega), _, rfl, t104, (by intro i h0 h1; first | (exfalso; omega) | (rw [rA, rB]; unfold jup; split <;> (try split) <;> omega) | (rw [rA]; unfold jup; split <;> omega))⟩
        · have c107 : ¬ (two = (-1 : Int)) := hc
          clear hc
          have f108 : 0 ≤ H92.1 42 0 q99 ∧ H92.1 42 0 q99 ≤ 12 := hI94.v 42 0 q99 t104
          refine J.run 6 rfl (show w93.1 42 q99 ∧ 0 ≤ ((0 : Int) + (1 : Int)) - (1 : Int) ∧ ((0 : Int) + (1 : Int)) - (1 : Int) < H92.1 42 0 q99 from ⟨hI94.is t104, by omega, by omega⟩) ?_
          try dsimp only
          refine J.gn fun H109 hH109 => ?_
          have hI110 : cJ F (tA T 42 q99) w93 H109 := by rw [hH109]; exact cI.wRj hI94 t104 (show 0 ≤ two ∧ two ≤ 1499 from ⟨by omega, by omega⟩)
          have hE111 : cEx T [30042] H109 H := by rw [hH109]; exact cEx.wR hE96 (by decide)
          have g112 : H109.1 7 4 F.2.2.1 = H92.1 7 4 F.2.2.1 := by subst hH109; rfl
          have g113 : H109.1 3 1 F.2.1 = H92.1 3 1 F.2.1 := by subst hH109; rfl
          have g114 : H109.1 3 3 F.2.1 = H92.1 3 3 F.2.1 := by subst hH109; rfl
          have g115 : H109.1 42 0 q99 = H92.1 42 0 q99 := by subst hH109; rfl
          first | (have rB := rA; skip) | skip
          have rA : H109.2.2.1 42 q99 = jup (H92.2.2.1 42 q99) (((0 : Int) + (1 : Int)) - (1 : Int)) (two) := by subst hH109; exact if_pos rfl
          clear hH109
          refine J.run0 1 rfl ?_
          try dsimp only
          exact J.retar rfl rfl rfl ⟨_, rfl, (tA T 42 q99), hI110, hS95, hE111, (show ((w93.2.1 : Nat) : Int) - 2 * H109.1 7 4 F.2.2.1 - 13 * H109.1 3 1 F.2.1 - H109.1 3 3 F.2.1 ≤ ((w.2.1 : Nat) : Int) - 2 * H.1 7 4 F.2.2.1 - 13 * H.1 3 1 F.2.1 - H.1 3 3 F.2.1 + (1) by omega), (show ((w93.2.2 : Nat) : Int) - 18 * H109.1 7 4 F.2.2.1 - 700 * H109.1 3 1 F.2.1 - 6 * H109.1 3 3 F.2.1 ≤ ((w.2.2 : Nat) : Int) - 18 * H.1 7 4 F.2.2.1 - 700 * H.1 3 1 F.2.1 - 6 * H.1 3 3 F.2.1 + 10 * (1) by omega), _, rfl, t104, (by intro i h0 h1; first | (exfalso; omega) | (rw [rA, rB]; unfold jup; split <;> (try split) <;> omega) | (rw [rA]; unfold jup; split <;> omega))⟩
      · have c116 : ¬ (one = (-1 : Int)) := hc
        clear hc
        have f117 : 0 ≤ H92.1 42 0 q99 ∧ H92.1 42 0 q99 ≤ 12 := hI94.v 42 0 q99 t104
        refine J.run 4 rfl (show w93.1 42 q99 ∧ 0 ≤ (0 : Int) ∧ (0 : Int) < H92.1 42 0 q99 from ⟨hI94.is t104, by omega, by omega⟩) ?_
        try dsimp only
        refine J.gn fun H118 hH118 => ?_
        have hI119 : cJ F (tA T 42 q99) w93 H118 := by rw [hH118]; exact cI.wRj hI94 t104 (show 0 ≤ one ∧ one ≤ 1499 from ⟨by omega, by omega⟩)
        have hE120 : cEx T [30042] H118 H := by rw [hH118]; exact cEx.wR hE96 (by decide)
        have g121 : H118.1 7 4 F.2.2.1 = H92.1 7 4 F.2.2.1 := by subst hH118; rfl
        have g122 : H118.1 3 1 F.2.1 = H92.1 3 1 F.2.1 := by subst hH118; rfl
        have g123 : H118.1 3 3 F.2.1 = H92.1 3 3 F.2.1 := by subst hH118; rfl
        have g124 : H118.1 42 0 q99 = H92.1 42 0 q99 := by subst hH118; rfl
        first | (have rB := rA; skip) | skip
        have rA : H118.2.2.1 42 q99 = jup (H92.2.2.1 42 q99) ((0 : Int)) (one) := by subst hH118; exact if_pos rfl
        clear hH118
        refine J.run0 2 rfl ?_
        try dsimp only
        refine J.icmp rfl rfl rfl ⟨(show -2147483648 ≤ two ∧ two ≤ 2147483647 from ⟨by omega, by omega⟩), (show -2147483648 ≤ (-1 : Int) ∧ (-1 : Int) ≤ 2147483647 from ⟨by omega, by omega⟩)⟩ (fun hc => ?_) (fun hc => ?_)
        · have c125 : two = (-1 : Int) := hc
          clear hc
          refine J.run0 1 rfl ?_
          try dsimp only
          exact J.retar rfl rfl rfl ⟨_, rfl, (tA T 42 q99), hI119, hS95, hE120, (show ((w93.2.1 : Nat) : Int) - 2 * H118.1 7 4 F.2.2.1 - 13 * H118.1 3 1 F.2.1 - H118.1 3 3 F.2.1 ≤ ((w.2.1 : Nat) : Int) - 2 * H.1 7 4 F.2.2.1 - 13 * H.1 3 1 F.2.1 - H.1 3 3 F.2.1 + (1) by omega), (show ((w93.2.2 : Nat) : Int) - 18 * H118.1 7 4 F.2.2.1 - 700 * H118.1 3 1 F.2.1 - 6 * H118.1 3 3 F.2.1 ≤ ((w.2.2 : Nat) : Int) - 18 * H.1 7 4 F.2.2.1 - 700 * H.1 3 1 F.2.1 - 6 * H.1 3 3 F.2.1 + 10 * (1) by omega), _, rfl, t104, (by intro i h0 h1; first | (exfalso; omega) | (rw [rA, rB]; unfold jup; split <;> (try split) <;> omega) | (rw [rA]; unfold jup; split <;> omega))⟩
        · have c126 : ¬ (two = (-1 : Int)) := hc
          clear hc
          have f127 : 0 ≤ H118.1 42 0 q99 ∧ H118.1 42 0 q99 ≤ 12 := hI119.v 42 0 q99 t104
          refine J.run 6 rfl (show w93.1 42 q99 ∧ 0 ≤ ((0 : Int) + (1 : Int)) - (1 : Int) ∧ ((0 : Int) + (1 : Int)) - (1 : Int) < H118.1 42 0 q99 from ⟨hI119.is t104, by omega, by omega⟩) ?_
          try dsimp only
          refine J.gn fun H128 hH128 => ?_
          have hI129 : cJ F (tA T 42 q99) w93 H128 := by rw [hH128]; exact cI.wRj hI119 t104 (show 0 ≤ two ∧ two ≤ 1499 from ⟨by omega, by omega⟩)
          have hE130 : cEx T [30042] H128 H := by rw [hH128]; exact cEx.wR hE120 (by decide)
          have g131 : H128.1 7 4 F.2.2.1 = H118.1 7 4 F.2.2.1 := by subst hH128; rfl
          have g132 : H128.1 3 1 F.2.1 = H118.1 3 1 F.2.1 := by subst hH128; rfl
          have g133 : H128.1 3 3 F.2.1 = H118.1 3 3 F.2.1 := by subst hH128; rfl
          have g134 : H128.1 42 0 q99 = H118.1 42 0 q99 := by subst hH128; rfl
          first | (have rB := rA; skip) | skip
          have rA : H128.2.2.1 42 q99 = jup (H118.2.2.1 42 q99) (((0 : Int) + (1 : Int)) - (1 : Int)) (two) := by subst hH128; exact if_pos rfl
          clear hH128
          refine J.run0 1 rfl ?_
          try dsimp only
          exact J.retar rfl rfl rfl ⟨_, rfl, (tA T 42 q99), hI129, hS95, hE130, (show ((w93.2.1 : Nat) : Int) - 2 * H128.1 7 4 F.2.2.1 - 13 * H128.1 3 1 F.2.1 - H128.1 3 3 F.2.1 ≤ ((w.2.1 : Nat) : Int) - 2 * H.1 7 4 F.2.2.1 - 13 * H.1 3 1 F.2.1 - H.1 3 3 F.2.1 + (1) by omega), (show ((w93.2.2 : Nat) : Int) - 18 * H128.1 7 4 F.2.2.1 - 700 * H128.1 3 1 F.2.1 - 6 * H128.1 3 3 F.2.1 ≤ ((w.2.2 : Nat) : Int) - 18 * H.1 7 4 F.2.2.1 - 700 * H.1 3 1 F.2.1 - 6 * H.1 3 3 F.2.1 + 10 * (1) by omega), _, rfl, t104, (by intro i h0 h1; first | (exfalso; omega) | (rw [rA, rB]; unfold jup; split <;> (try split) <;> omega) | (rw [rA]; unfold jup; split <;> omega))⟩
    · have c135 : ¬ (¬ (two = (-1 : Int))) := hc
      clear hc
      refine J.run0 5 rfl ?_
      try dsimp only
      refine s_rowOf hI ⟨by omega, by omega⟩ fun w137 H136 q143  hI138 ehE140 ca141 cb142 p144 => ?_
      have p144' : H136.1 42 0 q143 = ((0 : Int) + (0 : Int)) := p144
      have pM0 := p144
      have eM := ehE140
      have g145 : H136.1 7 4 F.2.2.1 = H.1 7 4 F.2.2.1 := (ehE140.1 7 4 F.2.2.1 hI.top.2.2.1).1 (by decide)
      have g146 : H136.1 3 1 F.2.1 = H.1 3 1 F.2.1 := (ehE140.1 3 1 F.2.1 hI.top.2.1).1 (by decide)
      have g147 : H136.1 3 3 F.2.1 = H.1 3 3 F.2.1 := (ehE140.1 3 3 F.2.1 hI.top.2.1).1 (by decide)
      have hE140 : cEx T [30042] H136 H := cEx.trans ehE140 hE hS (by decide)
      have hS139 : ∀ k p, T k p → (tA T 42 q143) k p := fun k p z => Or.inl (hS k p z)
      have t148 : (tA T 42 q143) 42 q143 := tA.new
      try dsimp only [Option.toList, List.append, List.cons_append, List.nil_append, Option.map]
      refine J.run0 3 rfl ?_
      try dsimp only
      refine J.icmp rfl rfl rfl ⟨(show -2147483648 ≤ one ∧ one ≤ 2147483647 from ⟨by omega, by omega⟩), (show -2147483648 ≤ (-1 : Int) ∧ (-1 : Int) ≤ 2147483647 from ⟨by omega, by omega⟩)⟩ (fun hc => ?_) (fun hc => ?_)
      · have c149 : one = (-1 : Int) := hc
        clear hc
        refine J.run0 2 rfl ?_
        try dsimp only
        refine J.icmp rfl rfl rfl ⟨(show -2147483648 ≤ two ∧ two ≤ 2147483647 from ⟨by omega, by omega⟩), (show -2147483648 ≤ (-1 : Int) ∧ (-1 : Int) ≤ 2147483647 from ⟨by omega, by omega⟩)⟩ (fun hc => ?_) (fun hc => ?_)
        · have c150 : two = (-1 : Int) := hc
          clear hc
          refine J.run0 1 rfl ?_
          try dsimp only
          exact J.retar rfl rfl rfl ⟨_, rfl, (tA T 42 q143), hI138, hS139, hE140, (show ((w137.2.1 : Nat) : Int) - 2 * H136.1 7 4 F.2.2.1 - 13 * H136.1 3 1 F.2.1 - H136.1 3 3 F.2.1 ≤ ((w.2.1 : Nat) : Int) - 2 * H.1 7 4 F.2.2.1 - 13 * H.1 3 1 F.2.1 - H.1 3 3 F.2.1 + (1) by omega), (show ((w137.2.2 : Nat) : Int) - 18 * H136.1 7 4 F.2.2.1 - 700 * H136.1 3 1 F.2.1 - 6 * H136.1 3 3 F.2.1 ≤ ((w.2.2 : Nat) : Int) - 18 * H.1 7 4 F.2.2.1 - 700 * H.1 3 1 F.2.1 - 6 * H.1 3 3 F.2.1 + 10 * (1) by omega), _, rfl, t148, (by intro i h0 h1; first | (exfalso; omega) | (rw [rA, rB]; unfold jup; split <;> (try split) <;> omega) | (rw [rA]; unfold jup; split <;> omega))⟩
        · have c151 : ¬ (two = (-1 : Int)) := hc
          clear hc
          have f152 : 0 ≤ H136.1 42 0 q143 ∧ H136.1 42 0 q143 ≤ 12 := hI138.v 42 0 q143 t148
          refine J.run 6 rfl (show w137.1 42 q143 ∧ 0 ≤ ((0 : Int) + (0 : Int)) - (1 : Int) ∧ ((0 : Int) + (0 : Int)) - (1 : Int) < H136.1 42 0 q143 from ⟨hI138.is t148, by omega, by omega⟩) ?_
          try dsimp only
          refine J.gn fun H153 hH153 => ?_
          have hI154 : cJ F (tA T 42 q143) w137 H153 := by rw [hH153]; exact cI.wRj hI138 t148 (show 0 ≤ two ∧ two ≤ 1499 from ⟨by omega, by omega⟩)
          have hE155 : cEx T [30042] H153 H := by rw [hH153]; exact cEx.wR hE140 (by decide)
          have g156 : H153.1 7 4 F.2.2.1 = H136.1 7 4 F.2.2.1 := by subst hH153; rfl
          have g157 : H153.1 3 1 F.2.1 = H136.1 3 1 F.2.1 := by subst hH153; rfl
          have g158 : H153.1 3 3 F.2.1 = H136.1 3 3 F.2.1 := by subst hH153; rfl
          have g159 : H153.1 42 0 q143 = H136.1 42 0 q143 := by subst hH153; rfl
          first | (have rB := rA; skip) | skip
          have rA : H153.2.2.1 42 q143 = jup (H136.2.2.1 42 q143) (((0 : Int) + (0 : Int)) - (1 : Int)) (two) := by subst hH153; exact if_pos rfl
          clear hH153
          refine J.run0 1 rfl ?_
          try dsimp only
          exact J.retar rfl rfl rfl ⟨_, rfl, (tA T 42 q143), hI154, hS139, hE155, (show ((w137.2.1 : Nat) : Int) - 2 * H153.1 7 4 F.2.2.1 - 13 * H153.1 3 1 F.2.1 - H153.1 3 3 F.2.1 ≤ ((w.2.1 : Nat) : Int) - 2 * H.1 7 4 F.2.2.1 - 13 * H.1 3 1 F.2.1 - H.1 3 3 F.2.1 + (1) by omega), (show ((w137.2.2 : Nat) : Int) - 18 * H153.1 7 4 F.2.2.1 - 700 * H153.1 3 1 F.2.1 - 6 * H153.1 3 3 F.2.1 ≤ ((w.2.2 : Nat) : Int) - 18 * H.1 7 4 F.2.2.1 - 700 * H.1 3 1 F.2.1 - 6 * H.1 3 3 F.2.1 + 10 * (1) by omega), _, rfl, t148, (by intro i h0 h1; first | (exfalso; omega) | (rw [rA, rB]; unfold jup; split <;> (try split) <;> omega) | (rw [rA]; unfold jup; split <;> omega))⟩
      · have c160 : ¬ (one = (-1 : Int)) := hc
        clear hc
        have f161 : 0 ≤ H136.1 42 0 q143 ∧ H136.1 42 0 q143 ≤ 12 := hI138.v 42 0 q143 t148
        refine J.run 4 rfl (show w137.1 42 q143 ∧ 0 ≤ (0 : Int) ∧ (0 : Int) < H136.1 42 0 q143 from ⟨hI138.is t148, by omega, by omega⟩) ?_
        try dsimp only
        refine J.gn fun H162 hH162 => ?_
        have hI163 : cJ F (tA T 42 q143) w137 H162 := by rw [hH162]; exact cI.wRj hI138 t148 (show 0 ≤ one ∧ one ≤ 1499 from ⟨by omega, by omega⟩)
        have hE164 : cEx T [30042] H162 H := by rw [hH162]; exact cEx.wR hE140 (by decide)
        have g165 : H162.1 7 4 F.2.2.1 = H136.1 7 4 F.2.2.1 := by subst hH162; rfl
        have g166 : H162.1 3 1 F.2.1 = H136.1 3 1 F.2.1 := by subst hH162; rfl
        have g167 : H162.1 3 3 F.2.1 = H136.1 3 3 F.2.1 := by subst hH162; rfl
        have g168 : H162.1 42 0 q143 = H136.1 42 0 q143 := by subst hH162; rfl
        first | (have rB := rA; skip) | skip
        have rA : H162.2.2.1 42 q143 = jup (H136.2.2.1 42 q143) ((0 : Int)) (one) := by subst hH162; exact if_pos rfl
        clear hH162
        refine J.run0 2 rfl ?_
        try dsimp only
        refine J.icmp rfl rfl rfl ⟨(show -2147483648 ≤ two ∧ two ≤ 2147483647 from ⟨by omega, by omega⟩), (show -2147483648 ≤ (-1 : Int) ∧ (-1 : Int) ≤ 2147483647 from ⟨by omega, by omega⟩)⟩ (fun hc => ?_) (fun hc => ?_)
        · have c169 : two = (-1 : Int) := hc
          clear hc
          refine J.run0 1 rfl ?_
          try dsimp only
          exact J.retar rfl rfl rfl ⟨_, rfl, (tA T 42 q143), hI163, hS139, hE164, (show ((w137.2.1 : Nat) : Int) - 2 * H162.1 7 4 F.2.2.1 - 13 * H162.1 3 1 F.2.1 - H162.1 3 3 F.2.1 ≤ ((w.2.1 : Nat) : Int) - 2 * H.1 7 4 F.2.2.1 - 13 * H.1 3 1 F.2.1 - H.1 3 3 F.2.1 + (1) by omega), (show ((w137.2.2 : Nat) : Int) - 18 * H162.1 7 4 F.2.2.1 - 700 * H162.1 3 1 F.2.1 - 6 * H162.1 3 3 F.2.1 ≤ ((w.2.2 : Nat) : Int) - 18 * H.1 7 4 F.2.2.1 - 700 * H.1 3 1 F.2.1 - 6 * H.1 3 3 F.2.1 + 10 * (1) by omega), _, rfl, t148, (by intro i h0 h1; first | (exfalso; omega) | (rw [rA, rB]; unfold jup; split <;> (try split) <;> omega) | (rw [rA]; unfold jup; split <;> omega))⟩
        · have c170 : ¬ (two = (-1 : Int)) := hc
          clear hc
          have f171 : 0 ≤ H162.1 42 0 q143 ∧ H162.1 42 0 q143 ≤ 12 := hI163.v 42 0 q143 t148
          refine J.run 6 rfl (show w137.1 42 q143 ∧ 0 ≤ ((0 : Int) + (0 : Int)) - (1 : Int) ∧ ((0 : Int) + (0 : Int)) - (1 : Int) < H162.1 42 0 q143 from ⟨hI163.is t148, by omega, by omega⟩) ?_
          try dsimp only
          refine J.gn fun H172 hH172 => ?_
          have hI173 : cJ F (tA T 42 q143) w137 H172 := by rw [hH172]; exact cI.wRj hI163 t148 (show 0 ≤ two ∧ two ≤ 1499 from ⟨by omega, by omega⟩)
          have hE174 : cEx T [30042] H172 H := by rw [hH172]; exact cEx.wR hE164 (by decide)
          have g175 : H172.1 7 4 F.2.2.1 = H162.1 7 4 F.2.2.1 := by subst hH172; rfl
          have g176 : H172.1 3 1 F.2.1 = H162.1 3 1 F.2.1 := by subst hH172; rfl
          have g177 : H172.1 3 3 F.2.1 = H162.1 3 3 F.2.1 := by subst hH172; rfl
          have g178 : H172.1 42 0 q143 = H162.1 42 0 q143 := by subst hH172; rfl
          first | (have rB := rA; skip) | skip
          have rA : H172.2.2.1 42 q143 = jup (H162.2.2.1 42 q143) (((0 : Int) + (0 : Int)) - (1 : Int)) (two) := by subst hH172; exact if_pos rfl
          clear hH172
          refine J.run0 1 rfl ?_
          try dsimp only
          exact J.retar rfl rfl rfl ⟨_, rfl, (tA T 42 q143), hI173, hS139, hE174, (show ((w137.2.1 : Nat) : Int) - 2 * H172.1 7 4 F.2.2.1 - 13 * H172.1 3 1 F.2.1 - H172.1 3 3 F.2.1 ≤ ((w.2.1 : Nat) : Int) - 2 * H.1 7 4 F.2.2.1 - 13 * H.1 3 1 F.2.1 - H.1 3 3 F.2.1 + (1) by omega), (show ((w137.2.2 : Nat) : Int) - 18 * H172.1 7 4 F.2.2.1 - 700 * H172.1 3 1 F.2.1 - 6 * H172.1 3 3 F.2.1 ≤ ((w.2.2 : Nat) : Int) - 18 * H.1 7 4 F.2.2.1 - 700 * H.1 3 1 F.2.1 - 6 * H.1 3 3 F.2.1 + 10 * (1) by omega), _, rfl, t148, (by intro i h0 h1; first | (exfalso; omega) | (rw [rA, rB]; unfold jup; split <;> (try split) <;> omega) | (rw [rA]; unfold jup; split <;> omega))⟩
end
