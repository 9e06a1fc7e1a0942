-- M: X10_precommitForNone
section
variable {d : Nat} {F : cG} 
set_option maxRecDepth 20000 in
set_option maxHeartbeats 8000000 in
theorem c_X10_precommitForNone {x : Nat} {T : cP} {w : jW} {H : jH} (hI : cJ F T w H) (ta0 : T 6 x) (hp0 : H.1 6 11 x = 0) (hp1 : H.1 0 1 (H.2.2.2.2 6 1 x) < 120) : J false (d + 4) 95 w (0, jargs 0 [.inr (some (10, F.1)), .inr (some (6, x))], [], H) (jN fun v w' H' => ∃ T', cJ F T' w' H' ∧ (∀ k p, T k p → T' k p) ∧ cEx T [401, 402, 603, 611, 612, 616, 704, 10209, 10507, 30026, 30027, 30031, 40025, 40028, 40029, 40030] H' H ∧ ((w'.2.1 : Nat) : Int) - 2 * H'.1 7 4 F.2.2.1 - 13 * H'.1 3 1 F.2.1 - H'.1 3 3 F.2.1 ≤ ((w.2.1 : Nat) : Int) - 2 * H.1 7 4 F.2.2.1 - 13 * H.1 3 1 F.2.1 - H.1 3 3 F.2.1 + (H'.1 6 11 x) ∧ ((w'.2.2 : Nat) : Int) - 18 * H'.1 7 4 F.2.2.1 - 700 * H'.1 3 1 F.2.1 - 6 * H'.1 3 3 F.2.1 ≤ ((w.2.2 : Nat) : Int) - 18 * H.1 7 4 F.2.2.1 - 700 * H.1 3 1 F.2.1 - 6 * H.1 3 3 F.2.1 + 10 * (H'.1 6 11 x) ∧ ∃ rv, v = some (.inl rv) ∧ ((rv = 0 ∨ rv = 1) ∧ (rv = 0 → H'.1 6 11 x = 0) ∧ (rv = 0 → H'.1 0 1 (H'.2.2.2.2 6 1 x) < 120))) := by
  have hE : cEx T [401, 402, 603, 611, 612, 616, 704, 10209, 10507, 30026, 30027, 30031, 40025, 40028, 40029, 40030] H H := cEx.refl
  have hS : ∀ k p, T k p → T k p := fun _ _ z => z
  refine J.run 3 rfl (hI.is ta0) ?_
  try dsimp only
  refine J.icmpN rfl rfl rfl (fun hc => ?_) (fun hc => ?_)
  · have c1 : ¬ (jn (H.1 6 3 x) = jn ((1 : Int))) := hc
    clear hc
    refine J.run0 1 rfl ?_
    try dsimp only
    exact J.retb rfl rfl rfl (show (0 : Int) = 0 ∨ (0 : Int) = 1 by omega) ⟨_, rfl, T, hI, hS, hE, (show ((w.2.1 : Nat) : Int) - 2 * H.1 7 4 F.2.2.1 - 13 * H.1 3 1 F.2.1 - H.1 3 3 F.2.1 ≤ ((w.2.1 : Nat) : Int) - 2 * H.1 7 4 F.2.2.1 - 13 * H.1 3 1 F.2.1 - H.1 3 3 F.2.1 + (H.1 6 11 x) by omega), (show ((w.2.2 : Nat) : Int) - 18 * H.1 7 4 F.2.2.1 - 700 * H.1 3 1 F.2.1 - 6 * H.1 3 3 F.2.1 ≤ ((w.2.2 : Nat) : Int) - 18 * H.1 7 4 F.2.2.1 - 700 * H.1 3 1 F.2.1 - 6 * H.1 3 3 F.2.1 + 10 * (H.1 6 11 x) by omega), _, rfl, (show (((0 : Int)) = 0 ∨ ((0 : Int)) = 1) ∧ (((0 : Int)) = 0 → H.1 6 11 x = 0) ∧ (((0 : Int)) = 0 → H.1 0 1 (H.2.2.2.2 6 1 x) < 120) from ⟨by omega, by omega, by omega⟩)⟩
  · have c2 : ¬ (¬ (jn (H.1 6 3 x) = jn ((1 : Int)))) := hc
    clear hc
    have f3 : 0 ≤ H.1 6 2 x ∧ H.1 6 2 x ≤ 31 := hI.v 6 2 x ta0
    refine J.run 7 rfl (hI.is ta0) ?_
    try dsimp only
    refine J.inv rfl rfl rfl rfl rfl rfl ((jD_w rfl).mpr (hI.is hI.top.1)) rfl rfl rfl rfl rfl (c_X10_heardFrom (x := x) (kind := (1 : Int)) (round := H.1 6 2 x) (block := (-1 : Int)) hI ta0 (show -2147483648 ≤ (1 : Int) ∧ (1 : Int) ≤ 2147483647 from ⟨by omega, by omega⟩) (show -2147483648 ≤ (H.1 6 2 x) ∧ (H.1 6 2 x) ≤ 2147483647 from ⟨by omega, by omega⟩)) ?_
    rintro v w H ⟨rfl, rfl, hv⟩
    obtain ⟨x4, rfl, r5⟩ := hv
    try dsimp only [Option.toList, List.append, List.cons_append, List.nil_append]
    refine J.inv rfl rfl rfl rfl rfl rfl ((jD_w rfl).mpr (hI.is ta0)) rfl rfl rfl rfl rfl (c_X6_isMost (a0 := x) (bits := x4) hI ta0 ) ?_
    rintro v w H ⟨rfl, rfl, hv⟩
    obtain ⟨x6, rfl, r7⟩ := hv
    have r7' : x6 = 0 ∨ x6 = 1 := r7
    try dsimp only [Option.toList, List.append, List.cons_append, List.nil_append]
    refine J.ifc rfl rfl rfl (show -2147483648 ≤ x6 ∧ x6 ≤ 2147483647 from ⟨by omega, by omega⟩) (fun hc => ?_) (fun hc => ?_)
    · have c8 : ¬ (x6 = (0 : Int)) := hc
      clear hc
      refine J.run 3 rfl (hI.is ta0) ?_
      try dsimp only
      refine J.gn fun H9 hH9 => ?_
      have hI10 : cJ F T w H9 := by rw [hH9]; exact cJ.wi hI trivial rfl rfl
      have hE11 : cEx T [401, 402, 603, 611, 612, 616, 704, 10209, 10507, 30026, 30027, 30031, 40025, 40028, 40029, 40030] H9 H := by rw [hH9]; exact cEx.wi hE (by decide)
      have g12 : H9.1 6 11 x = H.1 6 11 x := by subst hH9; rfl
      have g13 : H9.1 6 2 x = H.1 6 2 x := by subst hH9; rfl
      have g14 : H9.1 7 4 F.2.2.1 = H.1 7 4 F.2.2.1 := by subst hH9; rfl
      have g15 : H9.1 3 1 F.2.1 = H.1 3 1 F.2.1 := by subst hH9; rfl
      have g16 : H9.1 3 3 F.2.1 = H.1 3 3 F.2.1 := by subst hH9; rfl
      have g17 : H9.1 6 3 x = (2 : Int) := by subst hH9; exact if_pos rfl
      clear hH9
      refine J.run0 5 rfl ?_
      try dsimp only
      have e61 := (hE11.1 6 1 x ta0).2.2 (by decide)
      have e01 := (hE11.1 0 1 (H.2.2.2.2 6 1 x) (hI.o 6 1 0 x rfl ta0).2).1 (by decide)
      have h01 : H9.1 0 1 (H9.2.2.2.2 6 1 x) < 120 := by rw [e61]; omega
      refine J.inv rfl rfl rfl rfl rfl rfl ((jD_w rfl).mpr (hI10.is hI.top.1)) rfl rfl rfl rfl rfl (c_X10_send (x := x) (kind := (2 : Int)) (block := (-1 : Int)) (before := (-1 : Int)) hI10 ta0 (show H9.1 6 11 x = 0 from by omega) (show H9.1 0 1 (H9.2.2.2.2 6 1 x) < 120 from by omega) (show -2147483648 ≤ (-1 : Int) ∧ (-1 : Int) ≤ 2147483647 from ⟨by omega, by omega⟩) (show -2147483648 ≤ (-1 : Int) ∧ (-1 : Int) ≤ 2147483647 from ⟨by omega, by omega⟩)) ?_
      rintro v w19 H18 ⟨T20, hI21, shS22, ehE23, hr24, hr24s, hv⟩
      have hr24' : ((w19.2.1 : Nat) : Int) - 2 * H18.1 7 4 F.2.2.1 - 13 * H18.1 3 1 F.2.1 - H18.1 3 3 F.2.1 ≤ ((w.2.1 : Nat) : Int) - 2 * H9.1 7 4 F.2.2.1 - 13 * H9.1 3 1 F.2.1 - H9.1 3 3 F.2.1 + (H18.1 6 11 x) := hr24
      have hr24s' : ((w19.2.2 : Nat) : Int) - 18 * H18.1 7 4 F.2.2.1 - 700 * H18.1 3 1 F.2.1 - 6 * H18.1 3 3 F.2.1 ≤ ((w.2.2 : Nat) : Int) - 18 * H9.1 7 4 F.2.2.1 - 700 * H9.1 3 1 F.2.1 - 6 * H9.1 3 3 F.2.1 + 10 * (H18.1 6 11 x) := hr24s
      have hE23 : cEx T [401, 402, 603, 611, 612, 616, 704, 10209, 10507, 30026, 30027, 30031, 40025, 40028, 40029, 40030] H18 H := cEx.trans ehE23 hE11 hS (by decide)
      have hS22 : ∀ k p, T k p → T20 k p := fun k p z => shS22 k p (hS k p z)
      have g25 : H18.1 6 2 x = H9.1 6 2 x := (ehE23.1 6 2 x ta0).1 (by decide)
      have g26 : H18.1 3 1 F.2.1 = H9.1 3 1 F.2.1 := (ehE23.1 3 1 F.2.1 hI10.top.2.1).1 (by decide)
      have g27 : H18.1 3 3 F.2.1 = H9.1 3 3 F.2.1 := (ehE23.1 3 3 F.2.1 hI10.top.2.1).1 (by decide)
      have g28 : H18.1 6 3 x = H9.1 6 3 x := (ehE23.1 6 3 x ta0).1 (by decide)
      have t29 : T20 10 F.1 := shS22 _ _ hI.top.1
      have t30 : T20 6 x := shS22 _ _ ta0
      obtain rfl := hv
      try dsimp only [Option.toList, List.append, List.cons_append, List.nil_append]
      refine J.run0 1 rfl ?_
      try dsimp only
      exact J.retb rfl rfl rfl (show (1 : Int) = 0 ∨ (1 : Int) = 1 by omega) ⟨_, rfl, T20, hI21, hS22, hE23, (show ((w19.2.1 : Nat) : Int) - 2 * H18.1 7 4 F.2.2.1 - 13 * H18.1 3 1 F.2.1 - H18.1 3 3 F.2.1 ≤ ((w.2.1 : Nat) : Int) - 2 * H.1 7 4 F.2.2.1 - 13 * H.1 3 1 F.2.1 - H.1 3 3 F.2.1 + (H18.1 6 11 x) by omega), (show ((w19.2.2 : Nat) : Int) - 18 * H18.1 7 4 F.2.2.1 - 700 * H18.1 3 1 F.2.1 - 6 * H18.1 3 3 F.2.1 ≤ ((w.2.2 : Nat) : Int) - 18 * H.1 7 4 F.2.2.1 - 700 * H.1 3 1 F.2.1 - 6 * H.1 3 3 F.2.1 + 10 * (H18.1 6 11 x) by omega), _, rfl, (show (((1 : Int)) = 0 ∨ ((1 : Int)) = 1) ∧ (((1 : Int)) = 0 → H18.1 6 11 x = 0) ∧ (((1 : Int)) = 0 → H18.1 0 1 (H18.2.2.2.2 6 1 x) < 120) from ⟨by omega, by omega, by omega⟩)⟩
    · have c31 : ¬ (¬ (x6 = (0 : Int))) := hc
      clear hc
      refine J.run0 1 rfl ?_
      try dsimp only
      exact J.retb rfl rfl rfl (show (0 : Int) = 0 ∨ (0 : Int) = 1 by omega) ⟨_, rfl, T, hI, hS, hE, (show ((w.2.1 : Nat) : Int) - 2 * H.1 7 4 F.2.2.1 - 13 * H.1 3 1 F.2.1 - H.1 3 3 F.2.1 ≤ ((w.2.1 : Nat) : Int) - 2 * H.1 7 4 F.2.2.1 - 13 * H.1 3 1 F.2.1 - H.1 3 3 F.2.1 + (H.1 6 11 x) by omega), (show ((w.2.2 : Nat) : Int) - 18 * H.1 7 4 F.2.2.1 - 700 * H.1 3 1 F.2.1 - 6 * H.1 3 3 F.2.1 ≤ ((w.2.2 : Nat) : Int) - 18 * H.1 7 4 F.2.2.1 - 700 * H.1 3 1 F.2.1 - 6 * H.1 3 3 F.2.1 + 10 * (H.1 6 11 x) by omega), _, rfl, (show (((0 : Int)) = 0 ∨ ((0 : Int)) = 1) ∧ (((0 : Int)) = 0 → H.1 6 11 x = 0) ∧ (((0 : Int)) = 0 → H.1 0 1 (H.2.2.2.2 6 1 x) < 120) from ⟨by omega, by omega, by omega⟩)⟩
end
