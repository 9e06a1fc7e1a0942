-- M: X10_endWaiting
section
variable {d : Nat} {F : cG} 
set_option maxRecDepth 20000 in
set_option maxHeartbeats 8000000 in
theorem c_X10_endWaiting {x : Nat} {T : cP} {w : jW} {H : jH} (hI : cJ F T w H) (ta0 : T 6 x) (hp0 : H.1 6 11 x = 0) (hp1 : H.1 0 1 (H.2.2.2.2 6 1 x) < 120) : J false (d + 4) 96 w (0, jargs 0 [.inr (some (10, F.1)), .inr (some (6, x))], [], H) (jN fun v w' H' => ∃ T', cJ F T' w' H' ∧ (∀ k p, T k p → T' k p) ∧ cEx T [401, 402, 602, 603, 608, 609, 611, 612, 616, 704, 10209, 10507, 30026, 30027, 30031, 40025, 40028, 40029, 40030] H' H ∧ ((w'.2.1 : Nat) : Int) - 2 * H'.1 7 4 F.2.2.1 - 13 * H'.1 3 1 F.2.1 - H'.1 3 3 F.2.1 ≤ ((w.2.1 : Nat) : Int) - 2 * H.1 7 4 F.2.2.1 - 13 * H.1 3 1 F.2.1 - H.1 3 3 F.2.1 + (H'.1 6 11 x) ∧ ((w'.2.2 : Nat) : Int) - 18 * H'.1 7 4 F.2.2.1 - 700 * H'.1 3 1 F.2.1 - 6 * H'.1 3 3 F.2.1 ≤ ((w.2.2 : Nat) : Int) - 18 * H.1 7 4 F.2.2.1 - 700 * H.1 3 1 F.2.1 - 6 * H.1 3 3 F.2.1 + 10 * (H'.1 6 11 x) ∧ v = none) := by
  have hE : cEx T [401, 402, 602, 603, 608, 609, 611, 612, 616, 704, 10209, 10507, 30026, 30027, 30031, 40025, 40028, 40029, 40030] H H := cEx.refl
  have hS : ∀ k p, T k p → T k p := fun _ _ z => z
  refine J.run 2 rfl (hI.is ta0) ?_
  try dsimp only
  refine J.ifcN rfl rfl rfl (fun hc => ?_) (fun hc => ?_)
  · have c1 : ¬ (jn (H.1 6 3 x) = (0 : Int)) := hc
    clear hc
    refine J.run 3 rfl (hI.is ta0) ?_
    try dsimp only
    refine J.icmpN rfl rfl rfl (fun hc => ?_) (fun hc => ?_)
    · have c2 : ¬ (jn (H.1 6 3 x) = jn ((1 : Int))) := hc
      clear hc
      have f3 : 0 ≤ H.1 6 2 x ∧ H.1 6 2 x ≤ 31 := hI.v 6 2 x ta0
      refine J.run 5 rfl (hI.is ta0) ?_
      try dsimp only
      refine J.icmp rfl rfl rfl ⟨(show -2147483648 ≤ (H.1 6 2 x) + (1 : Int) ∧ (H.1 6 2 x) + (1 : Int) ≤ 2147483647 from ⟨by omega, by omega⟩), (show -2147483648 ≤ (32 : Int) ∧ (32 : Int) ≤ 2147483647 from ⟨by omega, by omega⟩)⟩ (fun hc => ?_) (fun hc => ?_)
      · have c4 : (32 : Int) ≤ (H.1 6 2 x) + (1 : Int) := hc
        clear hc
        exact J.retv rfl rfl rfl ⟨_, rfl, T, hI, hS, hE, (show ((w.2.1 : Nat) : Int) - 2 * H.1 7 4 F.2.2.1 - 13 * H.1 3 1 F.2.1 - H.1 3 3 F.2.1 ≤ ((w.2.1 : Nat) : Int) - 2 * H.1 7 4 F.2.2.1 - 13 * H.1 3 1 F.2.1 - H.1 3 3 F.2.1 + (H.1 6 11 x) by omega), (show ((w.2.2 : Nat) : Int) - 18 * H.1 7 4 F.2.2.1 - 700 * H.1 3 1 F.2.1 - 6 * H.1 3 3 F.2.1 ≤ ((w.2.2 : Nat) : Int) - 18 * H.1 7 4 F.2.2.1 - 700 * H.1 3 1 F.2.1 - 6 * H.1 3 3 F.2.1 + 10 * (H.1 6 11 x) by omega), rfl⟩
      · have c5 : ¬ ((32 : Int) ≤ (H.1 6 2 x) + (1 : Int)) := hc
        clear hc
        refine J.run 7 rfl (hI.is ta0) ?_
        try dsimp only
        refine J.inv rfl rfl rfl rfl rfl rfl ((jD_w rfl).mpr (hI.is hI.top.1)) rfl rfl rfl rfl rfl (c_X10_heardFrom (x := x) (kind := (2 : Int)) (round := H.1 6 2 x) (block := (-2 : Int)) hI ta0 (show -2147483648 ≤ (2 : Int) ∧ (2 : Int) ≤ 2147483647 from ⟨by omega, by omega⟩) (show -2147483648 ≤ (H.1 6 2 x) ∧ (H.1 6 2 x) ≤ 2147483647 from ⟨by omega, by omega⟩)) ?_
        rintro v w H ⟨rfl, rfl, hv⟩
        obtain ⟨x6, rfl, r7⟩ := hv
        try dsimp only [Option.toList, List.append, List.cons_append, List.nil_append]
        refine J.inv rfl rfl rfl rfl rfl rfl ((jD_w rfl).mpr (hI.is ta0)) rfl rfl rfl rfl rfl (c_X6_isMost (a0 := x) (bits := x6) hI ta0 ) ?_
        rintro v w H ⟨rfl, rfl, hv⟩
        obtain ⟨x8, rfl, r9⟩ := hv
        have r9' : x8 = 0 ∨ x8 = 1 := r9
        try dsimp only [Option.toList, List.append, List.cons_append, List.nil_append]
        refine J.ifc rfl rfl rfl (show -2147483648 ≤ x8 ∧ x8 ≤ 2147483647 from ⟨by omega, by omega⟩) (fun hc => ?_) (fun hc => ?_)
        · have c10 : x8 = (0 : Int) := hc
          clear hc
          exact J.retv rfl rfl rfl ⟨_, rfl, T, hI, hS, hE, (show ((w.2.1 : Nat) : Int) - 2 * H.1 7 4 F.2.2.1 - 13 * H.1 3 1 F.2.1 - H.1 3 3 F.2.1 ≤ ((w.2.1 : Nat) : Int) - 2 * H.1 7 4 F.2.2.1 - 13 * H.1 3 1 F.2.1 - H.1 3 3 F.2.1 + (H.1 6 11 x) by omega), (show ((w.2.2 : Nat) : Int) - 18 * H.1 7 4 F.2.2.1 - 700 * H.1 3 1 F.2.1 - 6 * H.1 3 3 F.2.1 ≤ ((w.2.2 : Nat) : Int) - 18 * H.1 7 4 F.2.2.1 - 700 * H.1 3 1 F.2.1 - 6 * H.1 3 3 F.2.1 + 10 * (H.1 6 11 x) by omega), rfl⟩
        · have c11 : ¬ (x8 = (0 : Int)) := hc
          clear hc
          refine J.run 5 rfl (hI.is ta0) ?_
          try dsimp only
          refine J.inv rfl rfl rfl rfl rfl rfl ((jD_w rfl).mpr (hI.is ta0)) rfl rfl rfl rfl rfl (c_X6_enter (a0 := x) (r := (H.1 6 2 x) + (1 : Int)) hI ta0 (show 0 ≤ ((H.1 6 2 x) + (1 : Int)) ∧ ((H.1 6 2 x) + (1 : Int)) ≤ 31 from ⟨by omega, by omega⟩)) ?_
          rintro v w13 H12 ⟨T14, hI15, shS16, ehE17, hr18, hr18s, hv⟩
          have hr18' : ((w13.2.1 : Nat) : Int) - 2 * H12.1 7 4 F.2.2.1 - 13 * H12.1 3 1 F.2.1 - H12.1 3 3 F.2.1 ≤ ((w.2.1 : Nat) : Int) - 2 * H.1 7 4 F.2.2.1 - 13 * H.1 3 1 F.2.1 - H.1 3 3 F.2.1 + (0) := hr18
          have hr18s' : ((w13.2.2 : Nat) : Int) - 18 * H12.1 7 4 F.2.2.1 - 700 * H12.1 3 1 F.2.1 - 6 * H12.1 3 3 F.2.1 ≤ ((w.2.2 : Nat) : Int) - 18 * H.1 7 4 F.2.2.1 - 700 * H.1 3 1 F.2.1 - 6 * H.1 3 3 F.2.1 + 10 * (0) := hr18s
          have hE17 : cEx T [401, 402, 602, 603, 608, 609, 611, 612, 616, 704, 10209, 10507, 30026, 30027, 30031, 40025, 40028, 40029, 40030] H12 H := cEx.trans ehE17 hE hS (by decide)
          have hS16 : ∀ k p, T k p → T14 k p := fun k p z => shS16 k p (hS k p z)
          have g19 : H12.1 6 11 x = H.1 6 11 x := (ehE17.1 6 11 x ta0).1 (by decide)
          have g20 : H12.1 7 4 F.2.2.1 = H.1 7 4 F.2.2.1 := (ehE17.1 7 4 F.2.2.1 hI.top.2.2.1).1 (by decide)
          have g21 : H12.1 3 1 F.2.1 = H.1 3 1 F.2.1 := (ehE17.1 3 1 F.2.1 hI.top.2.1).1 (by decide)
          have g22 : H12.1 3 3 F.2.1 = H.1 3 3 F.2.1 := (ehE17.1 3 3 F.2.1 hI.top.2.1).1 (by decide)
          have t23 : T14 10 F.1 := shS16 _ _ hI.top.1
          have t24 : T14 6 x := shS16 _ _ ta0
          obtain rfl := hv
          try dsimp only [Option.toList, List.append, List.cons_append, List.nil_append]
          exact J.retv rfl rfl rfl ⟨_, rfl, T14, hI15, hS16, hE17, (show ((w13.2.1 : Nat) : Int) - 2 * H12.1 7 4 F.2.2.1 - 13 * H12.1 3 1 F.2.1 - H12.1 3 3 F.2.1 ≤ ((w.2.1 : Nat) : Int) - 2 * H.1 7 4 F.2.2.1 - 13 * H.1 3 1 F.2.1 - H.1 3 3 F.2.1 + (H12.1 6 11 x) by omega), (show ((w13.2.2 : Nat) : Int) - 18 * H12.1 7 4 F.2.2.1 - 700 * H12.1 3 1 F.2.1 - 6 * H12.1 3 3 F.2.1 ≤ ((w.2.2 : Nat) : Int) - 18 * H.1 7 4 F.2.2.1 - 700 * H.1 3 1 F.2.1 - 6 * H.1 3 3 F.2.1 + 10 * (H12.1 6 11 x) by omega), rfl⟩
    · have c25 : ¬ (¬ (jn (H.1 6 3 x) = jn ((1 : Int)))) := hc
      clear hc
      have f26 : 0 ≤ H.1 6 2 x ∧ H.1 6 2 x ≤ 31 := hI.v 6 2 x ta0
      refine J.run 7 rfl (hI.is ta0) ?_
      try dsimp only
      refine J.inv rfl rfl rfl rfl rfl rfl ((jD_w rfl).mpr (hI.is hI.top.1)) rfl rfl rfl rfl rfl (c_X10_heardFrom (x := x) (kind := (1 : Int)) (round := H.1 6 2 x) (block := (-2 : Int)) hI ta0 (show -2147483648 ≤ (1 : Int) ∧ (1 : Int) ≤ 2147483647 from ⟨by omega, by omega⟩) (show -2147483648 ≤ (H.1 6 2 x) ∧ (H.1 6 2 x) ≤ 2147483647 from ⟨by omega, by omega⟩)) ?_
      rintro v w H ⟨rfl, rfl, hv⟩
      obtain ⟨x27, rfl, r28⟩ := hv
      try dsimp only [Option.toList, List.append, List.cons_append, List.nil_append]
      refine J.inv rfl rfl rfl rfl rfl rfl ((jD_w rfl).mpr (hI.is ta0)) rfl rfl rfl rfl rfl (c_X6_isMost (a0 := x) (bits := x27) hI ta0 ) ?_
      rintro v w H ⟨rfl, rfl, hv⟩
      obtain ⟨x29, rfl, r30⟩ := hv
      have r30' : x29 = 0 ∨ x29 = 1 := r30
      try dsimp only [Option.toList, List.append, List.cons_append, List.nil_append]
      refine J.ifc rfl rfl rfl (show -2147483648 ≤ x29 ∧ x29 ≤ 2147483647 from ⟨by omega, by omega⟩) (fun hc => ?_) (fun hc => ?_)
      · have c31 : x29 = (0 : Int) := hc
        clear hc
        exact J.retv rfl rfl rfl ⟨_, rfl, T, hI, hS, hE, (show ((w.2.1 : Nat) : Int) - 2 * H.1 7 4 F.2.2.1 - 13 * H.1 3 1 F.2.1 - H.1 3 3 F.2.1 ≤ ((w.2.1 : Nat) : Int) - 2 * H.1 7 4 F.2.2.1 - 13 * H.1 3 1 F.2.1 - H.1 3 3 F.2.1 + (H.1 6 11 x) by omega), (show ((w.2.2 : Nat) : Int) - 18 * H.1 7 4 F.2.2.1 - 700 * H.1 3 1 F.2.1 - 6 * H.1 3 3 F.2.1 ≤ ((w.2.2 : Nat) : Int) - 18 * H.1 7 4 F.2.2.1 - 700 * H.1 3 1 F.2.1 - 6 * H.1 3 3 F.2.1 + 10 * (H.1 6 11 x) by omega), rfl⟩
      · have c32 : ¬ (x29 = (0 : Int)) := hc
        clear hc
        refine J.run 3 rfl (hI.is ta0) ?_
        try dsimp only
        refine J.gn fun H33 hH33 => ?_
        have hI34 : cJ F T w H33 := by rw [hH33]; exact cJ.wi hI trivial rfl rfl
        have hE35 : cEx T [401, 402, 602, 603, 608, 609, 611, 612, 616, 704, 10209, 10507, 30026, 30027, 30031, 40025, 40028, 40029, 40030] H33 H := by rw [hH33]; exact cEx.wi hE (by decide)
        have g36 : H33.1 6 11 x = H.1 6 11 x := by subst hH33; rfl
        have g37 : H33.1 6 2 x = H.1 6 2 x := by subst hH33; rfl
        have g38 : H33.1 7 4 F.2.2.1 = H.1 7 4 F.2.2.1 := by subst hH33; rfl
        have g39 : H33.1 3 1 F.2.1 = H.1 3 1 F.2.1 := by subst hH33; rfl
        have g40 : H33.1 3 3 F.2.1 = H.1 3 3 F.2.1 := by subst hH33; rfl
        have g41 : H33.1 6 3 x = (2 : Int) := by subst hH33; exact if_pos rfl
        clear hH33
        refine J.run0 5 rfl ?_
        try dsimp only
        have e61 := (hE35.1 6 1 x ta0).2.2 (by decide)
        have e01 := (hE35.1 0 1 (H.2.2.2.2 6 1 x) (hI.o 6 1 0 x rfl ta0).2).1 (by decide)
        have h01 : H33.1 0 1 (H33.2.2.2.2 6 1 x) < 120 := by rw [e61]; omega
        refine J.inv rfl rfl rfl rfl rfl rfl ((jD_w rfl).mpr (hI34.is hI.top.1)) rfl rfl rfl rfl rfl (c_X10_send (x := x) (kind := (2 : Int)) (block := (-1 : Int)) (before := (-1 : Int)) hI34 ta0 (show H33.1 6 11 x = 0 from by omega) (show H33.1 0 1 (H33.2.2.2.2 6 1 x) < 120 from by omega) (show -2147483648 ≤ (-1 : Int) ∧ (-1 : Int) ≤ 2147483647 from ⟨by omega, by omega⟩) (show -2147483648 ≤ (-1 : Int) ∧ (-1 : Int) ≤ 2147483647 from ⟨by omega, by omega⟩)) ?_
        rintro v w43 H42 ⟨T44, hI45, shS46, ehE47, hr48, hr48s, hv⟩
        have hr48' : ((w43.2.1 : Nat) : Int) - 2 * H42.1 7 4 F.2.2.1 - 13 * H42.1 3 1 F.2.1 - H42.1 3 3 F.2.1 ≤ ((w.2.1 : Nat) : Int) - 2 * H33.1 7 4 F.2.2.1 - 13 * H33.1 3 1 F.2.1 - H33.1 3 3 F.2.1 + (H42.1 6 11 x) := hr48
        have hr48s' : ((w43.2.2 : Nat) : Int) - 18 * H42.1 7 4 F.2.2.1 - 700 * H42.1 3 1 F.2.1 - 6 * H42.1 3 3 F.2.1 ≤ ((w.2.2 : Nat) : Int) - 18 * H33.1 7 4 F.2.2.1 - 700 * H33.1 3 1 F.2.1 - 6 * H33.1 3 3 F.2.1 + 10 * (H42.1 6 11 x) := hr48s
        have hE47 : cEx T [401, 402, 602, 603, 608, 609, 611, 612, 616, 704, 10209, 10507, 30026, 30027, 30031, 40025, 40028, 40029, 40030] H42 H := cEx.trans ehE47 hE35 hS (by decide)
        have hS46 : ∀ k p, T k p → T44 k p := fun k p z => shS46 k p (hS k p z)
        have g49 : H42.1 6 2 x = H33.1 6 2 x := (ehE47.1 6 2 x ta0).1 (by decide)
        have g50 : H42.1 3 1 F.2.1 = H33.1 3 1 F.2.1 := (ehE47.1 3 1 F.2.1 hI34.top.2.1).1 (by decide)
        have g51 : H42.1 3 3 F.2.1 = H33.1 3 3 F.2.1 := (ehE47.1 3 3 F.2.1 hI34.top.2.1).1 (by decide)
        have g52 : H42.1 6 3 x = H33.1 6 3 x := (ehE47.1 6 3 x ta0).1 (by decide)
        have t53 : T44 10 F.1 := shS46 _ _ hI.top.1
        have t54 : T44 6 x := shS46 _ _ ta0
        obtain rfl := hv
        try dsimp only [Option.toList, List.append, List.cons_append, List.nil_append]
        refine J.run0 1 rfl ?_
        try dsimp only
        exact J.retv rfl rfl rfl ⟨_, rfl, T44, hI45, hS46, hE47, (show ((w43.2.1 : Nat) : Int) - 2 * H42.1 7 4 F.2.2.1 - 13 * H42.1 3 1 F.2.1 - H42.1 3 3 F.2.1 ≤ ((w.2.1 : Nat) : Int) - 2 * H.1 7 4 F.2.2.1 - 13 * H.1 3 1 F.2.1 - H.1 3 3 F.2.1 + (H42.1 6 11 x) by omega), (show ((w43.2.2 : Nat) : Int) - 18 * H42.1 7 4 F.2.2.1 - 700 * H42.1 3 1 F.2.1 - 6 * H42.1 3 3 F.2.1 ≤ ((w.2.2 : Nat) : Int) - 18 * H.1 7 4 F.2.2.1 - 700 * H.1 3 1 F.2.1 - 6 * H.1 3 3 F.2.1 + 10 * (H42.1 6 11 x) by omega), rfl⟩
  · have c55 : ¬ (¬ (jn (H.1 6 3 x) = (0 : Int))) := hc
    clear hc
    refine J.run 3 rfl (hI.is ta0) ?_
    try dsimp only
    refine J.gn fun H56 hH56 => ?_
    have hI57 : cJ F T w H56 := by rw [hH56]; exact cJ.wi hI trivial rfl rfl
    have hE58 : cEx T [401, 402, 602, 603, 608, 609, 611, 612, 616, 704, 10209, 10507, 30026, 30027, 30031, 40025, 40028, 40029, 40030] H56 H := by rw [hH56]; exact cEx.wi hE (by decide)
    have g59 : H56.1 6 11 x = H.1 6 11 x := by subst hH56; rfl
    have g60 : H56.1 7 4 F.2.2.1 = H.1 7 4 F.2.2.1 := by subst hH56; rfl
    have g61 : H56.1 3 1 F.2.1 = H.1 3 1 F.2.1 := by subst hH56; rfl
    have g62 : H56.1 3 3 F.2.1 = H.1 3 3 F.2.1 := by subst hH56; rfl
    have g63 : H56.1 6 3 x = (1 : Int) := by subst hH56; exact if_pos rfl
    clear hH56
    refine J.run0 5 rfl ?_
    try dsimp only
    have e61 := (hE58.1 6 1 x ta0).2.2 (by decide)
    have e01 := (hE58.1 0 1 (H.2.2.2.2 6 1 x) (hI.o 6 1 0 x rfl ta0).2).1 (by decide)
    have h01 : H56.1 0 1 (H56.2.2.2.2 6 1 x) < 120 := by rw [e61]; omega
    refine J.inv rfl rfl rfl rfl rfl rfl ((jD_w rfl).mpr (hI57.is hI.top.1)) rfl rfl rfl rfl rfl (c_X10_send (x := x) (kind := (1 : Int)) (block := (-1 : Int)) (before := (-1 : Int)) hI57 ta0 (show H56.1 6 11 x = 0 from by omega) (show H56.1 0 1 (H56.2.2.2.2 6 1 x) < 120 from by omega) (show -2147483648 ≤ (-1 : Int) ∧ (-1 : Int) ≤ 2147483647 from ⟨by omega, by omega⟩) (show -2147483648 ≤ (-1 : Int) ∧ (-1 : Int) ≤ 2147483647 from ⟨by omega, by omega⟩)) ?_
    rintro v w65 H64 ⟨T66, hI67, shS68, ehE69, hr70, hr70s, hv⟩
    have hr70' : ((w65.2.1 : Nat) : Int) - 2 * H64.1 7 4 F.2.2.1 - 13 * H64.1 3 1 F.2.1 - H64.1 3 3 F.2.1 ≤ ((w.2.1 : Nat) : Int) - 2 * H56.1 7 4 F.2.2.1 - 13 * H56.1 3 1 F.2.1 - H56.1 3 3 F.2.1 + (H64.1 6 11 x) := hr70
    have hr70s' : ((w65.2.2 : Nat) : Int) - 18 * H64.1 7 4 F.2.2.1 - 700 * H64.1 3 1 F.2.1 - 6 * H64.1 3 3 F.2.1 ≤ ((w.2.2 : Nat) : Int) - 18 * H56.1 7 4 F.2.2.1 - 700 * H56.1 3 1 F.2.1 - 6 * H56.1 3 3 F.2.1 + 10 * (H64.1 6 11 x) := hr70s
    have hE69 : cEx T [401, 402, 602, 603, 608, 609, 611, 612, 616, 704, 10209, 10507, 30026, 30027, 30031, 40025, 40028, 40029, 40030] H64 H := cEx.trans ehE69 hE58 hS (by decide)
    have hS68 : ∀ k p, T k p → T66 k p := fun k p z => shS68 k p (hS k p z)
    have g71 : H64.1 3 1 F.2.1 = H56.1 3 1 F.2.1 := (ehE69.1 3 1 F.2.1 hI57.top.2.1).1 (by decide)
    have g72 : H64.1 3 3 F.2.1 = H56.1 3 3 F.2.1 := (ehE69.1 3 3 F.2.1 hI57.top.2.1).1 (by decide)
    have g73 : H64.1 6 3 x = H56.1 6 3 x := (ehE69.1 6 3 x ta0).1 (by decide)
    have t74 : T66 10 F.1 := shS68 _ _ hI.top.1
    have t75 : T66 6 x := shS68 _ _ ta0
    obtain rfl := hv
    try dsimp only [Option.toList, List.append, List.cons_append, List.nil_append]
    refine J.run0 1 rfl ?_
    try dsimp only
    exact J.retv rfl rfl rfl ⟨_, rfl, T66, hI67, hS68, hE69, (show ((w65.2.1 : Nat) : Int) - 2 * H64.1 7 4 F.2.2.1 - 13 * H64.1 3 1 F.2.1 - H64.1 3 3 F.2.1 ≤ ((w.2.1 : Nat) : Int) - 2 * H.1 7 4 F.2.2.1 - 13 * H.1 3 1 F.2.1 - H.1 3 3 F.2.1 + (H64.1 6 11 x) by omega), (show ((w65.2.2 : Nat) : Int) - 18 * H64.1 7 4 F.2.2.1 - 700 * H64.1 3 1 F.2.1 - 6 * H64.1 3 3 F.2.1 ≤ ((w.2.2 : Nat) : Int) - 18 * H.1 7 4 F.2.2.1 - 700 * H.1 3 1 F.2.1 - 6 * H.1 3 3 F.2.1 + 10 * (H64.1 6 11 x) by omega), rfl⟩
end
