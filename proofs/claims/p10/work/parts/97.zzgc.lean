-- M: X4_write
section
variable {d : Nat} {F : cG} 
set_option maxRecDepth 20000 in
set_option maxHeartbeats 8000000 in
theorem c_X4_write {a0 : Nat} {e : Nat} {bytes : Int} {T : cP} {w : jW} {H : jH} (hI : cJ F T w H) (ta0 : T 4 a0) (ta1 : T 2 e)  : J false d 27 w (0, jargs 0 [.inr (some (4, a0)), .inr (some (2, e)), .inl bytes], [], H) (jN fun v w' H' => ∃ T', cJ F T' w' H' ∧ (∀ k p, T k p → T' k p) ∧ cEx T [401, 402, 40025] H' H ∧ ((w'.2.1 : Nat) : Int) - 2 * H'.1 7 4 F.2.2.1 - 13 * H'.1 3 1 F.2.1 - H'.1 3 3 F.2.1 ≤ ((w.2.1 : Nat) : Int) - 2 * H.1 7 4 F.2.2.1 - 13 * H.1 3 1 F.2.1 - H.1 3 3 F.2.1 + (0) ∧ ((w'.2.2 : Nat) : Int) - 18 * H'.1 7 4 F.2.2.1 - 700 * H'.1 3 1 F.2.1 - 6 * H'.1 3 3 F.2.1 ≤ ((w.2.2 : Nat) : Int) - 18 * H.1 7 4 F.2.2.1 - 700 * H.1 3 1 F.2.1 - 6 * H.1 3 3 F.2.1 + 10 * (0) ∧ v = none) := by
  have hE : cEx T [401, 402, 40025] H H := cEx.refl
  have hS : ∀ k p, T k p → T k p := fun _ _ z => z
  refine J.run0 2 rfl ?_
  try dsimp only
  refine J.icmpN rfl rfl rfl (fun hc => ?_) (fun hc => ?_)
  · have c1 : jn ((12 : Int)) ≤ jn (bytes) := hc
    clear hc
    have f2 : 0 ≤ H.1 4 1 a0 ∧ H.1 4 1 a0 ≤ 96 := hI.v 4 1 a0 ta0
    refine J.run 3 rfl (hI.is ta0) ?_
    try dsimp only
    refine J.icmp rfl rfl rfl ⟨(show -2147483648 ≤ H.1 4 1 a0 ∧ H.1 4 1 a0 ≤ 2147483647 from ⟨by omega, by omega⟩), (show -2147483648 ≤ (96 : Int) ∧ (96 : Int) ≤ 2147483647 from ⟨by omega, by omega⟩)⟩ (fun hc => ?_) (fun hc => ?_)
    · have c3 : (96 : Int) ≤ H.1 4 1 a0 := hc
      clear hc
      exact J.retv rfl rfl rfl ⟨_, rfl, T, hI, hS, hE, (show ((w.2.1 : Nat) : Int) - 2 * H.1 7 4 F.2.2.1 - 13 * H.1 3 1 F.2.1 - H.1 3 3 F.2.1 ≤ ((w.2.1 : Nat) : Int) - 2 * H.1 7 4 F.2.2.1 - 13 * H.1 3 1 F.2.1 - H.1 3 3 F.2.1 + (0) by omega), (show ((w.2.2 : Nat) : Int) - 18 * H.1 7 4 F.2.2.1 - 700 * H.1 3 1 F.2.1 - 6 * H.1 3 3 F.2.1 ≤ ((w.2.2 : Nat) : Int) - 18 * H.1 7 4 F.2.2.1 - 700 * H.1 3 1 F.2.1 - 6 * H.1 3 3 F.2.1 + 10 * (0) by omega), rfl⟩
    · have c4 : ¬ ((96 : Int) ≤ H.1 4 1 a0) := hc
      clear hc
      refine J.run 6 rfl ⟨⟨(hI.is ta0), hI.is (hI.r 4 0 25 a0 rfl ta0)⟩, (hI.is ta0), (show w.1 25 a0 ∧ w.1 2 e ∧ 0 ≤ H.1 4 1 a0 ∧ H.1 4 1 a0 < 96 from ⟨hI.is (hI.r 4 0 25 a0 rfl ta0), hI.is ta1, by omega, by omega⟩)⟩ ?_
      try dsimp only
      refine J.gn fun H5 hH5 => ?_
      have hI6 : cJ F T w H5 := by rw [hH5]; exact cI.wB hI rfl (hI.r 4 0 25 a0 rfl ta0) (fun _ z => by cases z; exact ta1) (Or.inr (fun z => nomatch z))
      have hE7 : cEx T [401, 402, 40025] H5 H := by rw [hH5]; exact cEx.wB hE (by decide)
      have g8 : H5.1 4 1 a0 = H.1 4 1 a0 := by subst hH5; rfl
      have g9 : H5.1 7 4 F.2.2.1 = H.1 7 4 F.2.2.1 := by subst hH5; rfl
      have g10 : H5.1 3 1 F.2.1 = H.1 3 1 F.2.1 := by subst hH5; rfl
      have g11 : H5.1 3 3 F.2.1 = H.1 3 3 F.2.1 := by subst hH5; rfl
      clear hH5
      have f12 : 0 ≤ H5.1 4 1 a0 ∧ H5.1 4 1 a0 ≤ 96 := hI6.v 4 1 a0 ta0
      refine J.run 6 rfl ⟨(hI6.is ta0), (hI6.is ta0)⟩ ?_
      try dsimp only
      refine J.gn fun H13 hH13 => ?_
      have hI14 : cJ F T w H13 := by rw [hH13]; exact cJ.wi hI6 (show 0 ≤ (H5.1 4 1 a0) + (1 : Int) ∧ (H5.1 4 1 a0) + (1 : Int) ≤ 96 from ⟨by omega, by omega⟩) rfl rfl
      have hE15 : cEx T [401, 402, 40025] H13 H := by rw [hH13]; exact cEx.wi hE7 (by decide)
      have g17 : H13.1 7 4 F.2.2.1 = H5.1 7 4 F.2.2.1 := by subst hH13; rfl
      have g18 : H13.1 3 1 F.2.1 = H5.1 3 1 F.2.1 := by subst hH13; rfl
      have g19 : H13.1 3 3 F.2.1 = H5.1 3 3 F.2.1 := by subst hH13; rfl
      have g20 : H13.1 4 1 a0 = (H5.1 4 1 a0) + (1 : Int) := by subst hH13; exact if_pos rfl
      clear hH13
      exact J.retv rfl rfl rfl ⟨_, rfl, T, hI14, hS, hE15, (show ((w.2.1 : Nat) : Int) - 2 * H13.1 7 4 F.2.2.1 - 13 * H13.1 3 1 F.2.1 - H13.1 3 3 F.2.1 ≤ ((w.2.1 : Nat) : Int) - 2 * H.1 7 4 F.2.2.1 - 13 * H.1 3 1 F.2.1 - H.1 3 3 F.2.1 + (0) by omega), (show ((w.2.2 : Nat) : Int) - 18 * H13.1 7 4 F.2.2.1 - 700 * H13.1 3 1 F.2.1 - 6 * H13.1 3 3 F.2.1 ≤ ((w.2.2 : Nat) : Int) - 18 * H.1 7 4 F.2.2.1 - 700 * H.1 3 1 F.2.1 - 6 * H.1 3 3 F.2.1 + 10 * (0) by omega), rfl⟩
  · have c21 : ¬ (jn ((12 : Int)) ≤ jn (bytes)) := hc
    clear hc
    refine J.run 3 rfl (hI.is ta0) ?_
    try dsimp only
    refine J.gn fun H22 hH22 => ?_
    have hI23 : cJ F T w H22 := by rw [hH22]; exact cJ.wi hI trivial rfl rfl
    have hE24 : cEx T [401, 402, 40025] H22 H := by rw [hH22]; exact cEx.wi hE (by decide)
    have g25 : H22.1 7 4 F.2.2.1 = H.1 7 4 F.2.2.1 := by subst hH22; rfl
    have g26 : H22.1 3 1 F.2.1 = H.1 3 1 F.2.1 := by subst hH22; rfl
    have g27 : H22.1 3 3 F.2.1 = H.1 3 3 F.2.1 := by subst hH22; rfl
    have g28 : H22.1 4 2 a0 = bytes := by subst hH22; exact if_pos rfl
    clear hH22
    refine J.run0 1 rfl ?_
    try dsimp only
    exact J.retv rfl rfl rfl ⟨_, rfl, T, hI23, hS, hE24, (show ((w.2.1 : Nat) : Int) - 2 * H22.1 7 4 F.2.2.1 - 13 * H22.1 3 1 F.2.1 - H22.1 3 3 F.2.1 ≤ ((w.2.1 : Nat) : Int) - 2 * H.1 7 4 F.2.2.1 - 13 * H.1 3 1 F.2.1 - H.1 3 3 F.2.1 + (0) by omega), (show ((w.2.2 : Nat) : Int) - 18 * H22.1 7 4 F.2.2.1 - 700 * H22.1 3 1 F.2.1 - 6 * H22.1 3 3 F.2.1 ≤ ((w.2.2 : Nat) : Int) - 18 * H.1 7 4 F.2.2.1 - 700 * H.1 3 1 F.2.1 - 6 * H.1 3 3 F.2.1 + 10 * (0) by omega), rfl⟩
end
-- M: X6_enter
section
variable {d : Nat} {F : cG} 
set_option maxRecDepth 20000 in
set_option maxHeartbeats 8000000 in
theorem c_X6_enter {a0 : Nat} {r : Int} {T : cP} {w : jW} {H : jH} (hI : cJ F T w H) (ta0 : T 6 a0) (hp0 : 0 ≤ r ∧ r ≤ 31) : J false d 37 w (0, jargs 0 [.inr (some (6, a0)), .inl r], [], H) (jN fun v w' H' => ∃ T', cJ F T' w' H' ∧ (∀ k p, T k p → T' k p) ∧ cEx T [602, 603, 608, 609] H' H ∧ ((w'.2.1 : Nat) : Int) - 2 * H'.1 7 4 F.2.2.1 - 13 * H'.1 3 1 F.2.1 - H'.1 3 3 F.2.1 ≤ ((w.2.1 : Nat) : Int) - 2 * H.1 7 4 F.2.2.1 - 13 * H.1 3 1 F.2.1 - H.1 3 3 F.2.1 + (0) ∧ ((w'.2.2 : Nat) : Int) - 18 * H'.1 7 4 F.2.2.1 - 700 * H'.1 3 1 F.2.1 - 6 * H'.1 3 3 F.2.1 ≤ ((w.2.2 : Nat) : Int) - 18 * H.1 7 4 F.2.2.1 - 700 * H.1 3 1 F.2.1 - 6 * H.1 3 3 F.2.1 + 10 * (0) ∧ v = none) := by
  have hE : cEx T [602, 603, 608, 609] H H := cEx.refl
  have hS : ∀ k p, T k p → T k p := fun _ _ z => z
  refine J.run 3 rfl (hI.is ta0) ?_
  try dsimp only
  refine J.gn fun H1 hH1 => ?_
  have hI2 : cJ F T w H1 := by rw [hH1]; exact cJ.wi hI (show 0 ≤ r ∧ r ≤ 31 from ⟨by omega, by omega⟩) rfl rfl
  have hE3 : cEx T [602, 603, 608, 609] H1 H := by rw [hH1]; exact cEx.wi hE (by decide)
  have g4 : H1.1 7 4 F.2.2.1 = H.1 7 4 F.2.2.1 := by subst hH1; rfl
  have g5 : H1.1 3 1 F.2.1 = H.1 3 1 F.2.1 := by subst hH1; rfl
  have g6 : H1.1 3 3 F.2.1 = H.1 3 3 F.2.1 := by subst hH1; rfl
  have g7 : H1.1 6 2 a0 = r := by subst hH1; exact if_pos rfl
  clear hH1
  refine J.run 3 rfl (hI2.is ta0) ?_
  try dsimp only
  refine J.gn fun H8 hH8 => ?_
  have hI9 : cJ F T w H8 := by rw [hH8]; exact cJ.wi hI2 trivial rfl rfl
  have hE10 : cEx T [602, 603, 608, 609] H8 H := by rw [hH8]; exact cEx.wi hE3 (by decide)
  have g11 : H8.1 7 4 F.2.2.1 = H1.1 7 4 F.2.2.1 := by subst hH8; rfl
  have g12 : H8.1 3 1 F.2.1 = H1.1 3 1 F.2.1 := by subst hH8; rfl
  have g13 : H8.1 3 3 F.2.1 = H1.1 3 3 F.2.1 := by subst hH8; rfl
  have g14 : H8.1 6 2 a0 = H1.1 6 2 a0 := by subst hH8; rfl
  have g15 : H8.1 6 3 a0 = (0 : Int) := by subst hH8; exact if_pos rfl
  clear hH8
  refine J.run 3 rfl ⟨(hI9.is ta0), (show (0 : Int) = 0 ∨ (0 : Int) = 1 by omega)⟩ ?_
  try dsimp only
  refine J.gn fun H16 hH16 => ?_
  have hI17 : cJ F T w H16 := by rw [hH16]; exact cJ.wi hI9 (show 0 ≤ (0 : Int) ∧ (0 : Int) ≤ 1 from ⟨by omega, by omega⟩) rfl rfl
  have hE18 : cEx T [602, 603, 608, 609] H16 H := by rw [hH16]; exact cEx.wi hE10 (by decide)
  have g19 : H16.1 7 4 F.2.2.1 = H8.1 7 4 F.2.2.1 := by subst hH16; rfl
  have g20 : H16.1 3 1 F.2.1 = H8.1 3 1 F.2.1 := by subst hH16; rfl
  have g21 : H16.1 3 3 F.2.1 = H8.1 3 3 F.2.1 := by subst hH16; rfl
  have g22 : H16.1 6 2 a0 = H8.1 6 2 a0 := by subst hH16; rfl
  have g23 : H16.1 6 3 a0 = H8.1 6 3 a0 := by subst hH16; rfl
  have g24 : H16.1 6 8 a0 = (0 : Int) := by subst hH16; exact if_pos rfl
  clear hH16
  refine J.run 3 rfl ⟨(hI17.is ta0), (show (1 : Int) = 0 ∨ (1 : Int) = 1 by omega)⟩ ?_
  try dsimp only
  refine J.gn fun H25 hH25 => ?_
  have hI26 : cJ F T w H25 := by rw [hH25]; exact cJ.wi hI17 (show 0 ≤ (1 : Int) ∧ (1 : Int) ≤ 1 from ⟨by omega, by omega⟩) rfl rfl
  have hE27 : cEx T [602, 603, 608, 609] H25 H := by rw [hH25]; exact cEx.wi hE18 (by decide)
  have g28 : H25.1 7 4 F.2.2.1 = H16.1 7 4 F.2.2.1 := by subst hH25; rfl
  have g29 : H25.1 3 1 F.2.1 = H16.1 3 1 F.2.1 := by subst hH25; rfl
  have g30 : H25.1 3 3 F.2.1 = H16.1 3 3 F.2.1 := by subst hH25; rfl
  have g31 : H25.1 6 2 a0 = H16.1 6 2 a0 := by subst hH25; rfl
  have g32 : H25.1 6 3 a0 = H16.1 6 3 a0 := by subst hH25; rfl
  have g33 : H25.1 6 8 a0 = H16.1 6 8 a0 := by subst hH25; rfl
  have g34 : H25.1 6 9 a0 = (1 : Int) := by subst hH25; exact if_pos rfl
  clear hH25
  exact J.retv rfl rfl rfl ⟨_, rfl, T, hI26, hS, hE27, (show ((w.2.1 : Nat) : Int) - 2 * H25.1 7 4 F.2.2.1 - 13 * H25.1 3 1 F.2.1 - H25.1 3 3 F.2.1 ≤ ((w.2.1 : Nat) : Int) - 2 * H.1 7 4 F.2.2.1 - 13 * H.1 3 1 F.2.1 - H.1 3 3 F.2.1 + (0) by omega), (show ((w.2.2 : Nat) : Int) - 18 * H25.1 7 4 F.2.2.1 - 700 * H25.1 3 1 F.2.1 - 6 * H25.1 3 3 F.2.1 ≤ ((w.2.2 : Nat) : Int) - 18 * H.1 7 4 F.2.2.1 - 700 * H.1 3 1 F.2.1 - 6 * H.1 3 3 F.2.1 + 10 * (0) by omega), rfl⟩
end
-- M: X6_unlock
section
variable {d : Nat} {F : cG} 
set_option maxRecDepth 20000 in
set_option maxHeartbeats 8000000 in
theorem c_X6_unlock {a0 : Nat} {T : cP} {w : jW} {H : jH} (hI : cJ F T w H) (ta0 : T 6 a0)  : J false d 38 w (0, jargs 0 [.inr (some (6, a0))], [], H) (jN fun v w' H' => ∃ T', cJ F T' w' H' ∧ (∀ k p, T k p → T' k p) ∧ cEx T [604, 605, 606, 607] H' H ∧ ((w'.2.1 : Nat) : Int) - 2 * H'.1 7 4 F.2.2.1 - 13 * H'.1 3 1 F.2.1 - H'.1 3 3 F.2.1 ≤ ((w.2.1 : Nat) : Int) - 2 * H.1 7 4 F.2.2.1 - 13 * H.1 3 1 F.2.1 - H.1 3 3 F.2.1 + (0) ∧ ((w'.2.2 : Nat) : Int) - 18 * H'.1 7 4 F.2.2.1 - 700 * H'.1 3 1 F.2.1 - 6 * H'.1 3 3 F.2.1 ≤ ((w.2.2 : Nat) : Int) - 18 * H.1 7 4 F.2.2.1 - 700 * H.1 3 1 F.2.1 - 6 * H.1 3 3 F.2.1 + 10 * (0) ∧ v = none) := by
  have hE : cEx T [604, 605, 606, 607] H H := cEx.refl
  have hS : ∀ k p, T k p → T k p := fun _ _ z => z
  refine J.run 3 rfl (hI.is ta0) ?_
  try dsimp only
  refine J.gn fun H1 hH1 => ?_
  have hI2 : cJ F T w H1 := by rw [hH1]; exact cJ.wi hI trivial rfl rfl
  have hE3 : cEx T [604, 605, 606, 607] H1 H := by rw [hH1]; exact cEx.wi hE (by decide)
  have g4 : H1.1 7 4 F.2.2.1 = H.1 7 4 F.2.2.1 := by subst hH1; rfl
  have g5 : H1.1 3 1 F.2.1 = H.1 3 1 F.2.1 := by subst hH1; rfl
  have g6 : H1.1 3 3 F.2.1 = H.1 3 3 F.2.1 := by subst hH1; rfl
  have g7 : H1.1 6 4 a0 = (-1 : Int) := by subst hH1; exact if_pos rfl
  clear hH1
  refine J.run 3 rfl (hI2.is ta0) ?_
  try dsimp only
  refine J.gn fun H8 hH8 => ?_
  have hI9 : cJ F T w H8 := by rw [hH8]; exact cJ.wi hI2 trivial rfl rfl
  have hE10 : cEx T [604, 605, 606, 607] H8 H := by rw [hH8]; exact cEx.wi hE3 (by decide)
  have g11 : H8.1 7 4 F.2.2.1 = H1.1 7 4 F.2.2.1 := by subst hH8; rfl
  have g12 : H8.1 3 1 F.2.1 = H1.1 3 1 F.2.1 := by subst hH8; rfl
  have g13 : H8.1 3 3 F.2.1 = H1.1 3 3 F.2.1 := by subst hH8; rfl
  have g14 : H8.1 6 4 a0 = H1.1 6 4 a0 := by subst hH8; rfl
  have g15 : H8.1 6 5 a0 = (-1 : Int) := by subst hH8; exact if_pos rfl
  clear hH8
  refine J.run 3 rfl (hI9.is ta0) ?_
  try dsimp only
  refine J.gn fun H16 hH16 => ?_
  have hI17 : cJ F T w H16 := by rw [hH16]; exact cJ.wi hI9 (show (-2147483648) ≤ (-1 : Int) ∧ (-1 : Int) ≤ 2147483647 from ⟨by omega, by omega⟩) rfl rfl
  have hE18 : cEx T [604, 605, 606, 607] H16 H := by rw [hH16]; exact cEx.wi hE10 (by decide)
  have g19 : H16.1 7 4 F.2.2.1 = H8.1 7 4 F.2.2.1 := by subst hH16; rfl
  have g20 : H16.1 3 1 F.2.1 = H8.1 3 1 F.2.1 := by subst hH16; rfl
  have g21 : H16.1 3 3 F.2.1 = H8.1 3 3 F.2.1 := by subst hH16; rfl
  have g22 : H16.1 6 4 a0 = H8.1 6 4 a0 := by subst hH16; rfl
  have g23 : H16.1 6 5 a0 = H8.1 6 5 a0 := by subst hH16; rfl
  have g24 : H16.1 6 6 a0 = (-1 : Int) := by subst hH16; exact if_pos rfl
  clear hH16
  refine J.run 3 rfl (hI17.is ta0) ?_
  try dsimp only
  refine J.gn fun H25 hH25 => ?_
  have hI26 : cJ F T w H25 := by rw [hH25]; exact cJ.wi hI17 (show (-2147483648) ≤ (-1 : Int) ∧ (-1 : Int) ≤ 2147483647 from ⟨by omega, by omega⟩) rfl rfl
  have hE27 : cEx T [604, 605, 606, 607] H25 H := by rw [hH25]; exact cEx.wi hE18 (by decide)
  have g28 : H25.1 7 4 F.2.2.1 = H16.1 7 4 F.2.2.1 := by subst hH25; rfl
  have g29 : H25.1 3 1 F.2.1 = H16.1 3 1 F.2.1 := by subst hH25; rfl
  have g30 : H25.1 3 3 F.2.1 = H16.1 3 3 F.2.1 := by subst hH25; rfl
  have g31 : H25.1 6 4 a0 = H16.1 6 4 a0 := by subst hH25; rfl
  have g32 : H25.1 6 5 a0 = H16.1 6 5 a0 := by subst hH25; rfl
  have g33 : H25.1 6 6 a0 = H16.1 6 6 a0 := by subst hH25; rfl
  have g34 : H25.1 6 7 a0 = (-1 : Int) := by subst hH25; exact if_pos rfl
  clear hH25
  exact J.retv rfl rfl rfl ⟨_, rfl, T, hI26, hS, hE27, (show ((w.2.1 : Nat) : Int) - 2 * H25.1 7 4 F.2.2.1 - 13 * H25.1 3 1 F.2.1 - H25.1 3 3 F.2.1 ≤ ((w.2.1 : Nat) : Int) - 2 * H.1 7 4 F.2.2.1 - 13 * H.1 3 1 F.2.1 - H.1 3 3 F.2.1 + (0) by omega), (show ((w.2.2 : Nat) : Int) - 18 * H25.1 7 4 F.2.2.1 - 700 * H25.1 3 1 F.2.1 - 6 * H25.1 3 3 F.2.1 ≤ ((w.2.2 : Nat) : Int) - 18 * H.1 7 4 F.2.2.1 - 700 * H.1 3 1 F.2.1 - 6 * H.1 3 3 F.2.1 + 10 * (0) by omega), rfl⟩
end
-- M: X6_adopt
section
variable {d : Nat} {F : cG} 
set_option maxRecDepth 20000 in
set_option maxHeartbeats 8000000 in
theorem c_X6_adopt {a0 : Nat} {b : Nat} {T : cP} {w : jW} {H : jH} (hI : cJ F T w H) (ta0 : T 6 a0) (ta1 : T 0 b)  : J false (d + 1) 39 w (0, jargs 0 [.inr (some (6, a0)), .inr (some (0, b))], [], H) (jN fun v w' H' => ∃ T', cJ F T' w' H' ∧ (∀ k p, T k p → T' k p) ∧ cEx T [20601, 401, 402, 604, 605, 606, 607, 602, 603, 608, 609] H' H ∧ ((w'.2.1 : Nat) : Int) - 2 * H'.1 7 4 F.2.2.1 - 13 * H'.1 3 1 F.2.1 - H'.1 3 3 F.2.1 ≤ ((w.2.1 : Nat) : Int) - 2 * H.1 7 4 F.2.2.1 - 13 * H.1 3 1 F.2.1 - H.1 3 3 F.2.1 + (0) ∧ ((w'.2.2 : Nat) : Int) - 18 * H'.1 7 4 F.2.2.1 - 700 * H'.1 3 1 F.2.1 - 6 * H'.1 3 3 F.2.1 ≤ ((w.2.2 : Nat) : Int) - 18 * H.1 7 4 F.2.2.1 - 700 * H.1 3 1 F.2.1 - 6 * H.1 3 3 F.2.1 + 10 * (0) ∧ v = none) := by
  have hE : cEx T [20601, 401, 402, 604, 605, 606, 607, 602, 603, 608, 609] H H := cEx.refl
  have hS : ∀ k p, T k p → T k p := fun _ _ z => z
  refine J.run 3 rfl ⟨(hI.is ta0), (hI.pos ta1)⟩ ?_
  try dsimp only
  refine J.gn fun H1 hH1 => ?_
  have hI2 : cJ F T w H1 := by rw [hH1]; exact cI.wo (k := 0) hI rfl ⟨hI.pos ta1, ta1⟩ (by decide)
  have hE3 : cEx T [20601, 401, 402, 604, 605, 606, 607, 602, 603, 608, 609] H1 H := by rw [hH1]; exact cEx.wo hE (by decide)
  have g4 : H1.1 7 4 F.2.2.1 = H.1 7 4 F.2.2.1 := by subst hH1; rfl
  have g5 : H1.1 3 1 F.2.1 = H.1 3 1 F.2.1 := by subst hH1; rfl
  have g6 : H1.1 3 3 F.2.1 = H.1 3 3 F.2.1 := by subst hH1; rfl
  clear hH1
  refine J.run 2 rfl ⟨(hI2.is ta0), (hI2.o 6 13 4 a0 rfl ta0).1⟩ ?_
  try dsimp only
  refine J.inv rfl rfl rfl rfl rfl rfl ((jD_w rfl).mpr (hI2.is (hI2.o 6 13 4 a0 rfl ta0).2)) rfl rfl rfl rfl rfl (c_X4_clear (a0 := (H1.2.2.2.2 6 13 a0)) hI2 (hI2.o 6 13 4 a0 rfl ta0).2 ) ?_
  rintro v w8 H7 ⟨T9, hI10, shS11, ehE12, hr13, hr13s, hv⟩
  have hr13' : ((w8.2.1 : Nat) : Int) - 2 * H7.1 7 4 F.2.2.1 - 13 * H7.1 3 1 F.2.1 - H7.1 3 3 F.2.1 ≤ ((w.2.1 : Nat) : Int) - 2 * H1.1 7 4 F.2.2.1 - 13 * H1.1 3 1 F.2.1 - H1.1 3 3 F.2.1 + (0) := hr13
  have hr13s' : ((w8.2.2 : Nat) : Int) - 18 * H7.1 7 4 F.2.2.1 - 700 * H7.1 3 1 F.2.1 - 6 * H7.1 3 3 F.2.1 ≤ ((w.2.2 : Nat) : Int) - 18 * H1.1 7 4 F.2.2.1 - 700 * H1.1 3 1 F.2.1 - 6 * H1.1 3 3 F.2.1 + 10 * (0) := hr13s
  have hE12 : cEx T [20601, 401, 402, 604, 605, 606, 607, 602, 603, 608, 609] H7 H := cEx.trans ehE12 hE3 hS (by decide)
  have hS11 : ∀ k p, T k p → T9 k p := fun k p z => shS11 k p (hS k p z)
  have g14 : H7.1 7 4 F.2.2.1 = H1.1 7 4 F.2.2.1 := (ehE12.1 7 4 F.2.2.1 hI2.top.2.2.1).1 (by decide)
  have g15 : H7.1 3 1 F.2.1 = H1.1 3 1 F.2.1 := (ehE12.1 3 1 F.2.1 hI2.top.2.1).1 (by decide)
  have g16 : H7.1 3 3 F.2.1 = H1.1 3 3 F.2.1 := (ehE12.1 3 3 F.2.1 hI2.top.2.1).1 (by decide)
  have t17 : T9 6 a0 := shS11 _ _ ta0
  have t18 : T9 0 b := shS11 _ _ ta1
  obtain rfl := hv
  try dsimp only [Option.toList, List.append, List.cons_append, List.nil_append]
  refine J.run0 1 rfl ?_
  try dsimp only
  refine J.inv rfl rfl rfl rfl rfl rfl ((jD_w rfl).mpr (hI10.is t17)) rfl rfl rfl rfl rfl (c_X6_unlock (a0 := a0) hI10 t17 ) ?_
  rintro v w20 H19 ⟨T21, hI22, shS23, ehE24, hr25, hr25s, hv⟩
  have hr25' : ((w20.2.1 : Nat) : Int) - 2 * H19.1 7 4 F.2.2.1 - 13 * H19.1 3 1 F.2.1 - H19.1 3 3 F.2.1 ≤ ((w8.2.1 : Nat) : Int) - 2 * H7.1 7 4 F.2.2.1 - 13 * H7.1 3 1 F.2.1 - H7.1 3 3 F.2.1 + (0) := hr25
  have hr25s' : ((w20.2.2 : Nat) : Int) - 18 * H19.1 7 4 F.2.2.1 - 700 * H19.1 3 1 F.2.1 - 6 * H19.1 3 3 F.2.1 ≤ ((w8.2.2 : Nat) : Int) - 18 * H7.1 7 4 F.2.2.1 - 700 * H7.1 3 1 F.2.1 - 6 * H7.1 3 3 F.2.1 + 10 * (0) := hr25s
  have hE24 : cEx T [20601, 401, 402, 604, 605, 606, 607, 602, 603, 608, 609] H19 H := cEx.trans ehE24 hE12 hS11 (by decide)
  have hS23 : ∀ k p, T k p → T21 k p := fun k p z => shS23 k p (hS11 k p z)
  have g26 : H19.1 7 4 F.2.2.1 = H7.1 7 4 F.2.2.1 := (ehE24.1 7 4 F.2.2.1 hI10.top.2.2.1).1 (by decide)
  have g27 : H19.1 3 1 F.2.1 = H7.1 3 1 F.2.1 := (ehE24.1 3 1 F.2.1 hI10.top.2.1).1 (by decide)
  have g28 : H19.1 3 3 F.2.1 = H7.1 3 3 F.2.1 := (ehE24.1 3 3 F.2.1 hI10.top.2.1).1 (by decide)
  have t29 : T21 6 a0 := shS23 _ _ t17
  have t30 : T21 0 b := shS23 _ _ t18
  obtain rfl := hv
  try dsimp only [Option.toList, List.append, List.cons_append, List.nil_append]
  refine J.run0 2 rfl ?_
  try dsimp only
  refine J.inv rfl rfl rfl rfl rfl rfl ((jD_w rfl).mpr (hI22.is t29)) rfl rfl rfl rfl rfl (c_X6_enter (a0 := a0) (r := (0 : Int)) hI22 t29 (show 0 ≤ (0 : Int) ∧ (0 : Int) ≤ 31 from ⟨by omega, by omega⟩)) ?_
  rintro v w32 H31 ⟨T33, hI34, shS35, ehE36, hr37, hr37s, hv⟩
  have hr37' : ((w32.2.1 : Nat) : Int) - 2 * H31.1 7 4 F.2.2.1 - 13 * H31.1 3 1 F.2.1 - H31.1 3 3 F.2.1 ≤ ((w20.2.1 : Nat) : Int) - 2 * H19.1 7 4 F.2.2.1 - 13 * H19.1 3 1 F.2.1 - H19.1 3 3 F.2.1 + (0) := hr37
  have hr37s' : ((w32.2.2 : Nat) : Int) - 18 * H31.1 7 4 F.2.2.1 - 700 * H31.1 3 1 F.2.1 - 6 * H31.1 3 3 F.2.1 ≤ ((w20.2.2 : Nat) : Int) - 18 * H19.1 7 4 F.2.2.1 - 700 * H19.1 3 1 F.2.1 - 6 * H19.1 3 3 F.2.1 + 10 * (0) := hr37s
  have hE36 : cEx T [20601, 401, 402, 604, 605, 606, 607, 602, 603, 608, 609] H31 H := cEx.trans ehE36 hE24 hS23 (by decide)
  have hS35 : ∀ k p, T k p → T33 k p := fun k p z => shS35 k p (hS23 k p z)
  have g38 : H31.1 7 4 F.2.2.1 = H19.1 7 4 F.2.2.1 := (ehE36.1 7 4 F.2.2.1 hI22.top.2.2.1).1 (by decide)
  have g39 : H31.1 3 1 F.2.1 = H19.1 3 1 F.2.1 := (ehE36.1 3 1 F.2.1 hI22.top.2.1).1 (by decide)
  have g40 : H31.1 3 3 F.2.1 = H19.1 3 3 F.2.1 := (ehE36.1 3 3 F.2.1 hI22.top.2.1).1 (by decide)
  have t41 : T33 6 a0 := shS35 _ _ t29
  have t42 : T33 0 b := shS35 _ _ t30
  obtain rfl := hv
  try dsimp only [Option.toList, List.append, List.cons_append, List.nil_append]
  exact J.retv rfl rfl rfl ⟨_, rfl, T33, hI34, hS35, hE36, (show ((w32.2.1 : Nat) : Int) - 2 * H31.1 7 4 F.2.2.1 - 13 * H31.1 3 1 F.2.1 - H31.1 3 3 F.2.1 ≤ ((w.2.1 : Nat) : Int) - 2 * H.1 7 4 F.2.2.1 - 13 * H.1 3 1 F.2.1 - H.1 3 3 F.2.1 + (0) by omega), (show ((w32.2.2 : Nat) : Int) - 18 * H31.1 7 4 F.2.2.1 - 700 * H31.1 3 1 F.2.1 - 6 * H31.1 3 3 F.2.1 ≤ ((w.2.2 : Nat) : Int) - 18 * H.1 7 4 F.2.2.1 - 700 * H.1 3 1 F.2.1 - 6 * H.1 3 3 F.2.1 + 10 * (0) by omega), rfl⟩
end
