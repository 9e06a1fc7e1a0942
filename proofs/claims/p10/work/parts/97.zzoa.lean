-- M: X10_propose
section
variable {d : Nat} {F : cG} 
set_option maxRecDepth 20000 in
set_option maxHeartbeats 8000000 in
theorem c_X10_propose {x : Nat} {T : cP} {w : jW} {H : jH} (hI : cJ F T w H) (ta0 : T 6 x) (hp0 : H.1 6 11 x = 0) (hp1 : H.1 0 1 (H.2.2.2.2 6 1 x) < 120) : J false (d + 4) 90 w (0, jargs 0 [.inr (some (10, F.1)), .inr (some (6, x))], [], H) (jN fun v w' H' => ∃ T', cJ F T' w' H' ∧ (∀ k p, T k p → T' k p) ∧ cEx T [301, 307, 401, 402, 609, 611, 612, 616, 704, 804, 808, 809, 811, 813, 10209, 10507, 30023, 30024, 30026, 30027, 30031, 30032, 30033, 30034, 30035, 30036, 30037, 30038, 30039, 30043, 40021, 40025, 40028, 40029, 40030] H' H ∧ ((w'.2.1 : Nat) : Int) - 2 * H'.1 7 4 F.2.2.1 - 13 * H'.1 3 1 F.2.1 - H'.1 3 3 F.2.1 ≤ ((w.2.1 : Nat) : Int) - 2 * H.1 7 4 F.2.2.1 - 13 * H.1 3 1 F.2.1 - H.1 3 3 F.2.1 + (H'.1 6 11 x) ∧ ((w'.2.2 : Nat) : Int) - 18 * H'.1 7 4 F.2.2.1 - 700 * H'.1 3 1 F.2.1 - 6 * H'.1 3 3 F.2.1 ≤ ((w.2.2 : Nat) : Int) - 18 * H.1 7 4 F.2.2.1 - 700 * H.1 3 1 F.2.1 - 6 * H.1 3 3 F.2.1 + 10 * (H'.1 6 11 x) ∧ ∃ rv, v = some (.inl rv) ∧ ((rv = 0 ∨ rv = 1) ∧ (rv = 0 → H'.1 6 11 x = 0) ∧ (rv = 0 → H'.1 0 1 (H'.2.2.2.2 6 1 x) < 120))) := by
  have hE : cEx T [301, 307, 401, 402, 609, 611, 612, 616, 704, 804, 808, 809, 811, 813, 10209, 10507, 30023, 30024, 30026, 30027, 30031, 30032, 30033, 30034, 30035, 30036, 30037, 30038, 30039, 30043, 40021, 40025, 40028, 40029, 40030] H H := cEx.refl
  have hS : ∀ k p, T k p → T k p := fun _ _ z => z
  have f1 : 0 ≤ H.1 6 9 x ∧ H.1 6 9 x ≤ 1 := hI.v 6 9 x ta0
  refine J.run 2 rfl (hI.is ta0) ?_
  try dsimp only
  refine J.ifc rfl rfl rfl (show -2147483648 ≤ H.1 6 9 x ∧ H.1 6 9 x ≤ 2147483647 from ⟨by omega, by omega⟩) (fun hc => ?_) (fun hc => ?_)
  · have c2 : ¬ (H.1 6 9 x = (0 : Int)) := hc
    clear hc
    refine J.run 3 rfl ⟨(hI.is ta0), (show (0 : Int) = 0 ∨ (0 : Int) = 1 by omega)⟩ ?_
    try dsimp only
    refine J.gn fun H3 hH3 => ?_
    have hI4 : cJ F T w H3 := by rw [hH3]; exact cJ.wi hI (show 0 ≤ (0 : Int) ∧ (0 : Int) ≤ 1 from ⟨by omega, by omega⟩) rfl rfl
    have hE5 : cEx T [301, 307, 401, 402, 609, 611, 612, 616, 704, 804, 808, 809, 811, 813, 10209, 10507, 30023, 30024, 30026, 30027, 30031, 30032, 30033, 30034, 30035, 30036, 30037, 30038, 30039, 30043, 40021, 40025, 40028, 40029, 40030] H3 H := by rw [hH3]; exact cEx.wi hE (by decide)
    have g6 : H3.1 6 11 x = H.1 6 11 x := by subst hH3; rfl
    have g8 : H3.1 7 4 F.2.2.1 = H.1 7 4 F.2.2.1 := by subst hH3; rfl
    have g9 : H3.1 3 1 F.2.1 = H.1 3 1 F.2.1 := by subst hH3; rfl
    have g10 : H3.1 3 3 F.2.1 = H.1 3 3 F.2.1 := by subst hH3; rfl
    have g11 : H3.1 6 9 x = (0 : Int) := by subst hH3; exact if_pos rfl
    clear hH3
    refine J.run 2 rfl ⟨(hI4.is hI.top.1), (hI4.o 10 1 7 F.1 rfl hI.top.1).1⟩ ?_
    try dsimp only
    try dsimp only
    rw [show (H3.2.2.2.2 10 1 F.1) = F.2.2.1 from hI4.one.2.2.1 _ (hI4.o 10 1 7 F.1 rfl hI.top.1).2]
    refine J.inv rfl rfl rfl rfl rfl rfl ((jD_w rfl).mpr (hI4.is hI4.top.2.2.1)) rfl rfl rfl rfl rfl (c_X7_isFull  hI4  ) ?_
    rintro v w H3 ⟨rfl, rfl, hv⟩
    obtain ⟨x12, rfl, r13⟩ := hv
    have r13' : (x12 = 0 ∨ x12 = 1) ∧ (x12 = 0 → H3.1 7 4 F.2.2.1 < 6000) := r13
    try dsimp only [Option.toList, List.append, List.cons_append, List.nil_append]
    refine J.ifc rfl rfl rfl (show -2147483648 ≤ x12 ∧ x12 ≤ 2147483647 from ⟨by omega, by omega⟩) (fun hc => ?_) (fun hc => ?_)
    · have c14 : ¬ (x12 = (0 : Int)) := hc
      clear hc
      refine J.run0 1 rfl ?_
      try dsimp only
      exact J.retb rfl rfl rfl (show (1 : Int) = 0 ∨ (1 : Int) = 1 by omega) ⟨_, rfl, T, hI4, hS, hE5, (show ((w.2.1 : Nat) : Int) - 2 * H3.1 7 4 F.2.2.1 - 13 * H3.1 3 1 F.2.1 - H3.1 3 3 F.2.1 ≤ ((w.2.1 : Nat) : Int) - 2 * H.1 7 4 F.2.2.1 - 13 * H.1 3 1 F.2.1 - H.1 3 3 F.2.1 + (H3.1 6 11 x) by omega), (show ((w.2.2 : Nat) : Int) - 18 * H3.1 7 4 F.2.2.1 - 700 * H3.1 3 1 F.2.1 - 6 * H3.1 3 3 F.2.1 ≤ ((w.2.2 : Nat) : Int) - 18 * H.1 7 4 F.2.2.1 - 700 * H.1 3 1 F.2.1 - 6 * H.1 3 3 F.2.1 + 10 * (H3.1 6 11 x) by omega), _, rfl, (show (((1 : Int)) = 0 ∨ ((1 : Int)) = 1) ∧ (((1 : Int)) = 0 → H3.1 6 11 x = 0) ∧ (((1 : Int)) = 0 → H3.1 0 1 (H3.2.2.2.2 6 1 x) < 120) from ⟨by omega, by omega, by omega⟩)⟩
    · have c15 : ¬ (¬ (x12 = (0 : Int))) := hc
      clear hc
      have f16 : 0 ≤ H3.1 6 2 x ∧ H3.1 6 2 x ≤ 31 := hI4.v 6 2 x ta0
      refine J.run 3 rfl (hI4.is ta0) ?_
      try dsimp only
      refine J.inv rfl rfl rfl rfl rfl rfl ((jD_w rfl).mpr (hI4.is ta0)) rfl rfl rfl rfl rfl (c_X6_proposerOf (a0 := x) (r := H3.1 6 2 x) hI4 ta0 ) ?_
      rintro v w H3 ⟨rfl, rfl, hv⟩
      obtain ⟨x17, rfl, r18⟩ := hv
      have r18' : -1 ≤ x17 ∧ x17 ≤ 15 := r18
      try dsimp only [Option.toList, List.append, List.cons_append, List.nil_append]
      have f19 : 0 ≤ H3.1 6 0 x ∧ H3.1 6 0 x ≤ 15 := hI4.v 6 0 x ta0
      refine J.run 2 rfl (hI4.is ta0) ?_
      try dsimp only
      refine J.icmp rfl rfl rfl ⟨(show -2147483648 ≤ x17 ∧ x17 ≤ 2147483647 from ⟨by omega, by omega⟩), (show -2147483648 ≤ H3.1 6 0 x ∧ H3.1 6 0 x ≤ 2147483647 from ⟨by omega, by omega⟩)⟩ (fun hc => ?_) (fun hc => ?_)
      · have c20 : ¬ (x17 = H3.1 6 0 x) := hc
        clear hc
        refine J.run0 1 rfl ?_
        try dsimp only
        exact J.retb rfl rfl rfl (show (1 : Int) = 0 ∨ (1 : Int) = 1 by omega) ⟨_, rfl, T, hI4, hS, hE5, (show ((w.2.1 : Nat) : Int) - 2 * H3.1 7 4 F.2.2.1 - 13 * H3.1 3 1 F.2.1 - H3.1 3 3 F.2.1 ≤ ((w.2.1 : Nat) : Int) - 2 * H.1 7 4 F.2.2.1 - 13 * H.1 3 1 F.2.1 - H.1 3 3 F.2.1 + (H3.1 6 11 x) by omega), (show ((w.2.2 : Nat) : Int) - 18 * H3.1 7 4 F.2.2.1 - 700 * H3.1 3 1 F.2.1 - 6 * H3.1 3 3 F.2.1 ≤ ((w.2.2 : Nat) : Int) - 18 * H.1 7 4 F.2.2.1 - 700 * H.1 3 1 F.2.1 - 6 * H.1 3 3 F.2.1 + 10 * (H3.1 6 11 x) by omega), _, rfl, (show (((1 : Int)) = 0 ∨ ((1 : Int)) = 1) ∧ (((1 : Int)) = 0 → H3.1 6 11 x = 0) ∧ (((1 : Int)) = 0 → H3.1 0 1 (H3.2.2.2.2 6 1 x) < 120) from ⟨by omega, by omega, by omega⟩)⟩
      · have c21 : ¬ (¬ (x17 = H3.1 6 0 x)) := hc
        clear hc
        have f22 : (-2147483648) ≤ H3.1 6 6 x ∧ H3.1 6 6 x ≤ 2147483647 := hI4.v 6 6 x ta0
        refine J.run 3 rfl (hI4.is ta0) ?_
        try dsimp only
        refine J.icmp rfl rfl rfl ⟨(show -2147483648 ≤ H3.1 6 6 x ∧ H3.1 6 6 x ≤ 2147483647 from ⟨by omega, by omega⟩), (show -2147483648 ≤ (-1 : Int) ∧ (-1 : Int) ≤ 2147483647 from ⟨by omega, by omega⟩)⟩ (fun hc => ?_) (fun hc => ?_)
        · have c23 : H3.1 6 6 x = (-1 : Int) := hc
          clear hc
          refine J.run 2 rfl ⟨(hI4.is hI.top.1), (hI4.o 10 0 3 F.1 rfl hI.top.1).1⟩ ?_
          try dsimp only
          try dsimp only
          rw [show (H3.2.2.2.2 10 0 F.1) = F.2.1 from hI4.one.2.1 _ (hI4.o 10 0 3 F.1 rfl hI.top.1).2]
          refine J.run 4 rfl ⟨⟨(hI4.is ta0), (hI4.o 6 1 0 x rfl ta0).1⟩, (hI4.is ta0)⟩ ?_
          try dsimp only
          refine J.inv rfl rfl rfl rfl rfl rfl ((jD_w rfl).mpr (hI4.is hI4.top.2.1)) rfl rfl rfl rfl rfl (c_X3_addBest (b := (H3.2.2.2.2 6 1 x)) (proposer := H3.1 6 0 x) hI4 (hI4.o 6 1 0 x rfl ta0).2 (show 0 ≤ (H3.1 6 0 x) ∧ (H3.1 6 0 x) ≤ 15 from ⟨by omega, by omega⟩)) ?_
          rintro v w25 H24 ⟨T26, hI27, shS28, ehE29, hr30, hr30s, hv⟩
          have hr30' : ((w25.2.1 : Nat) : Int) - 2 * H24.1 7 4 F.2.2.1 - 13 * H24.1 3 1 F.2.1 - H24.1 3 3 F.2.1 ≤ ((w.2.1 : Nat) : Int) - 2 * H3.1 7 4 F.2.2.1 - 13 * H3.1 3 1 F.2.1 - H3.1 3 3 F.2.1 + (0) := hr30
          have hr30s' : ((w25.2.2 : Nat) : Int) - 18 * H24.1 7 4 F.2.2.1 - 700 * H24.1 3 1 F.2.1 - 6 * H24.1 3 3 F.2.1 ≤ ((w.2.2 : Nat) : Int) - 18 * H3.1 7 4 F.2.2.1 - 700 * H3.1 3 1 F.2.1 - 6 * H3.1 3 3 F.2.1 + 10 * (0) := hr30s
          have hE29 : cEx T [301, 307, 401, 402, 609, 611, 612, 616, 704, 804, 808, 809, 811, 813, 10209, 10507, 30023, 30024, 30026, 30027, 30031, 30032, 30033, 30034, 30035, 30036, 30037, 30038, 30039, 30043, 40021, 40025, 40028, 40029, 40030] H24 H := cEx.trans ehE29 hE5 hS (by decide)
          have hS28 : ∀ k p, T k p → T26 k p := fun k p z => shS28 k p (hS k p z)
          have g31 : H24.1 6 11 x = H3.1 6 11 x := (ehE29.1 6 11 x ta0).1 (by decide)
          have g32 : H24.1 7 4 F.2.2.1 = H3.1 7 4 F.2.2.1 := (ehE29.1 7 4 F.2.2.1 hI4.top.2.2.1).1 (by decide)
          have g33 : H24.1 3 3 F.2.1 = H3.1 3 3 F.2.1 := (ehE29.1 3 3 F.2.1 hI4.top.2.1).1 (by decide)
          have g34 : H24.1 6 9 x = H3.1 6 9 x := (ehE29.1 6 9 x ta0).1 (by decide)
          have g35 : H24.1 6 2 x = H3.1 6 2 x := (ehE29.1 6 2 x ta0).1 (by decide)
          have g36 : H24.1 6 0 x = H3.1 6 0 x := (ehE29.1 6 0 x ta0).1 (by decide)
          have g37 : H24.1 6 6 x = H3.1 6 6 x := (ehE29.1 6 6 x ta0).1 (by decide)
          have t38 : T26 10 F.1 := shS28 _ _ hI.top.1
          have t39 : T26 6 x := shS28 _ _ ta0
          obtain ⟨x40, rfl, r41⟩ := hv
          have r41' : -1 ≤ x40 ∧ x40 ≤ 299 := r41
          try dsimp only [Option.toList, List.append, List.cons_append, List.nil_append]
          refine J.run0 3 rfl ?_
          try dsimp only
          refine J.icmp rfl rfl rfl ⟨(show -2147483648 ≤ x40 ∧ x40 ≤ 2147483647 from ⟨by omega, by omega⟩), (show -2147483648 ≤ (-1 : Int) ∧ (-1 : Int) ≤ 2147483647 from ⟨by omega, by omega⟩)⟩ (fun hc => ?_) (fun hc => ?_)
          · have c42 : x40 = (-1 : Int) := hc
            clear hc
            refine J.run0 1 rfl ?_
            try dsimp only
            exact J.retb rfl rfl rfl (show (1 : Int) = 0 ∨ (1 : Int) = 1 by omega) ⟨_, rfl, T26, hI27, hS28, hE29, (show ((w25.2.1 : Nat) : Int) - 2 * H24.1 7 4 F.2.2.1 - 13 * H24.1 3 1 F.2.1 - H24.1 3 3 F.2.1 ≤ ((w.2.1 : Nat) : Int) - 2 * H.1 7 4 F.2.2.1 - 13 * H.1 3 1 F.2.1 - H.1 3 3 F.2.1 + (H24.1 6 11 x) by omega), (show ((w25.2.2 : Nat) : Int) - 18 * H24.1 7 4 F.2.2.1 - 700 * H24.1 3 1 F.2.1 - 6 * H24.1 3 3 F.2.1 ≤ ((w.2.2 : Nat) : Int) - 18 * H.1 7 4 F.2.2.1 - 700 * H.1 3 1 F.2.1 - 6 * H.1 3 3 F.2.1 + 10 * (H24.1 6 11 x) by omega), _, rfl, (show (((1 : Int)) = 0 ∨ ((1 : Int)) = 1) ∧ (((1 : Int)) = 0 → H24.1 6 11 x = 0) ∧ (((1 : Int)) = 0 → H24.1 0 1 (H24.2.2.2.2 6 1 x) < 120) from ⟨by omega, by omega, by omega⟩)⟩
          · have c43 : ¬ (x40 = (-1 : Int)) := hc
            clear hc
            have f44 : (-2147483648) ≤ H24.1 6 7 x ∧ H24.1 6 7 x ≤ 2147483647 := hI27.v 6 7 x t39
            refine J.run 6 rfl (hI27.is t39) ?_
            try dsimp only
            have e61 := (hE29.1 6 1 x ta0).2.2 (by decide)
            have e01 := (hE29.1 0 1 (H.2.2.2.2 6 1 x) (hI.o 6 1 0 x rfl ta0).2).1 (by decide)
            have h01 : H24.1 0 1 (H24.2.2.2.2 6 1 x) < 120 := by rw [e61]; omega
            refine J.inv rfl rfl rfl rfl rfl rfl ((jD_w rfl).mpr (hI27.is t38)) rfl rfl rfl rfl rfl (c_X10_send (x := x) (kind := (0 : Int)) (block := x40) (before := H24.1 6 7 x) hI27 t39 (show H24.1 6 11 x = 0 from by omega) (show H24.1 0 1 (H24.2.2.2.2 6 1 x) < 120 from by omega) (show -2147483648 ≤ x40 ∧ x40 ≤ 2147483647 from ⟨by omega, by omega⟩) (show -2147483648 ≤ (H24.1 6 7 x) ∧ (H24.1 6 7 x) ≤ 2147483647 from ⟨by omega, by omega⟩)) ?_
            rintro v w46 H45 ⟨T47, hI48, shS49, ehE50, hr51, hr51s, hv⟩
            have hr51' : ((w46.2.1 : Nat) : Int) - 2 * H45.1 7 4 F.2.2.1 - 13 * H45.1 3 1 F.2.1 - H45.1 3 3 F.2.1 ≤ ((w25.2.1 : Nat) : Int) - 2 * H24.1 7 4 F.2.2.1 - 13 * H24.1 3 1 F.2.1 - H24.1 3 3 F.2.1 + (H45.1 6 11 x) := hr51
            have hr51s' : ((w46.2.2 : Nat) : Int) - 18 * H45.1 7 4 F.2.2.1 - 700 * H45.1 3 1 F.2.1 - 6 * H45.1 3 3 F.2.1 ≤ ((w25.2.2 : Nat) : Int) - 18 * H24.1 7 4 F.2.2.1 - 700 * H24.1 3 1 F.2.1 - 6 * H24.1 3 3 F.2.1 + 10 * (H45.1 6 11 x) := hr51s
            have hE50 : cEx T [301, 307, 401, 402, 609, 611, 612, 616, 704, 804, 808, 809, 811, 813, 10209, 10507, 30023, 30024, 30026, 30027, 30031, 30032, 30033, 30034, 30035, 30036, 30037, 30038, 30039, 30043, 40021, 40025, 40028, 40029, 40030] H45 H := cEx.trans ehE50 hE29 hS28 (by decide)
            have hS49 : ∀ k p, T k p → T47 k p := fun k p z => shS49 k p (hS28 k p z)
            have g52 : H45.1 3 3 F.2.1 = H24.1 3 3 F.2.1 := (ehE50.1 3 3 F.2.1 hI27.top.2.1).1 (by decide)
            have g53 : H45.1 6 9 x = H24.1 6 9 x := (ehE50.1 6 9 x t39).1 (by decide)
            have g54 : H45.1 6 2 x = H24.1 6 2 x := (ehE50.1 6 2 x t39).1 (by decide)
            have g55 : H45.1 6 0 x = H24.1 6 0 x := (ehE50.1 6 0 x t39).1 (by decide)
            have g56 : H45.1 6 6 x = H24.1 6 6 x := (ehE50.1 6 6 x t39).1 (by decide)
            have g57 : H45.1 3 1 F.2.1 = H24.1 3 1 F.2.1 := (ehE50.1 3 1 F.2.1 hI27.top.2.1).1 (by decide)
            have g58 : H45.1 6 7 x = H24.1 6 7 x := (ehE50.1 6 7 x t39).1 (by decide)
            have t59 : T47 10 F.1 := shS49 _ _ t38
            have t60 : T47 6 x := shS49 _ _ t39
            obtain rfl := hv
            try dsimp only [Option.toList, List.append, List.cons_append, List.nil_append]
            refine J.run0 1 rfl ?_
            try dsimp only
            exact J.retb rfl rfl rfl (show (1 : Int) = 0 ∨ (1 : Int) = 1 by omega) ⟨_, rfl, T47, hI48, hS49, hE50, (show ((w46.2.1 : Nat) : Int) - 2 * H45.1 7 4 F.2.2.1 - 13 * H45.1 3 1 F.2.1 - H45.1 3 3 F.2.1 ≤ ((w.2.1 : Nat) : Int) - 2 * H.1 7 4 F.2.2.1 - 13 * H.1 3 1 F.2.1 - H.1 3 3 F.2.1 + (H45.1 6 11 x) by omega), (show ((w46.2.2 : Nat) : Int) - 18 * H45.1 7 4 F.2.2.1 - 700 * H45.1 3 1 F.2.1 - 6 * H45.1 3 3 F.2.1 ≤ ((w.2.2 : Nat) : Int) - 18 * H.1 7 4 F.2.2.1 - 700 * H.1 3 1 F.2.1 - 6 * H.1 3 3 F.2.1 + 10 * (H45.1 6 11 x) by omega), _, rfl, (show (((1 : Int)) = 0 ∨ ((1 : Int)) = 1) ∧ (((1 : Int)) = 0 → H45.1 6 11 x = 0) ∧ (((1 : Int)) = 0 → H45.1 0 1 (H45.2.2.2.2 6 1 x) < 120) from ⟨by omega, by omega, by omega⟩)⟩
        · have c61 : ¬ (H3.1 6 6 x = (-1 : Int)) := hc
          clear hc
          refine J.run 6 rfl (hI4.is ta0) ?_
          try dsimp only
          refine J.icmp rfl rfl rfl ⟨(show -2147483648 ≤ H3.1 6 6 x ∧ H3.1 6 6 x ≤ 2147483647 from ⟨by omega, by omega⟩), (show -2147483648 ≤ (-1 : Int) ∧ (-1 : Int) ≤ 2147483647 from ⟨by omega, by omega⟩)⟩ (fun hc => ?_) (fun hc => ?_)
          · have c62 : H3.1 6 6 x = (-1 : Int) := hc
            clear hc
            refine J.run0 1 rfl ?_
            try dsimp only
            exact J.retb rfl rfl rfl (show (1 : Int) = 0 ∨ (1 : Int) = 1 by omega) ⟨_, rfl, T, hI4, hS, hE5, (show ((w.2.1 : Nat) : Int) - 2 * H3.1 7 4 F.2.2.1 - 13 * H3.1 3 1 F.2.1 - H3.1 3 3 F.2.1 ≤ ((w.2.1 : Nat) : Int) - 2 * H.1 7 4 F.2.2.1 - 13 * H.1 3 1 F.2.1 - H.1 3 3 F.2.1 + (H3.1 6 11 x) by omega), (show ((w.2.2 : Nat) : Int) - 18 * H3.1 7 4 F.2.2.1 - 700 * H3.1 3 1 F.2.1 - 6 * H3.1 3 3 F.2.1 ≤ ((w.2.2 : Nat) : Int) - 18 * H.1 7 4 F.2.2.1 - 700 * H.1 3 1 F.2.1 - 6 * H.1 3 3 F.2.1 + 10 * (H3.1 6 11 x) by omega), _, rfl, (show (((1 : Int)) = 0 ∨ ((1 : Int)) = 1) ∧ (((1 : Int)) = 0 → H3.1 6 11 x = 0) ∧ (((1 : Int)) = 0 → H3.1 0 1 (H3.2.2.2.2 6 1 x) < 120) from ⟨by omega, by omega, by omega⟩)⟩
          · have c63 : ¬ (H3.1 6 6 x = (-1 : Int)) := hc
            clear hc
            have f64 : (-2147483648) ≤ H3.1 6 7 x ∧ H3.1 6 7 x ≤ 2147483647 := hI4.v 6 7 x ta0
            refine J.run 6 rfl (hI4.is ta0) ?_
            try dsimp only
            have e61 := (hE5.1 6 1 x ta0).2.2 (by decide)
            have e01 := (hE5.1 0 1 (H.2.2.2.2 6 1 x) (hI.o 6 1 0 x rfl ta0).2).1 (by decide)
            have h01 : H3.1 0 1 (H3.2.2.2.2 6 1 x) < 120 := by rw [e61]; omega
            refine J.inv rfl rfl rfl rfl rfl rfl ((jD_w rfl).mpr (hI4.is hI.top.1)) rfl rfl rfl rfl rfl (c_X10_send (x := x) (kind := (0 : Int)) (block := H3.1 6 6 x) (before := H3.1 6 7 x) hI4 ta0 (show H3.1 6 11 x = 0 from by omega) (show H3.1 0 1 (H3.2.2.2.2 6 1 x) < 120 from by omega) (show -2147483648 ≤ (H3.1 6 6 x) ∧ (H3.1 6 6 x) ≤ 2147483647 from ⟨by omega, by omega⟩) (show -2147483648 ≤ (H3.1 6 7 x) ∧ (H3.1 6 7 x) ≤ 2147483647 from ⟨by omega, by omega⟩)) ?_
            rintro v w66 H65 ⟨T67, hI68, shS69, ehE70, hr71, hr71s, hv⟩
            have hr71' : ((w66.2.1 : Nat) : Int) - 2 * H65.1 7 4 F.2.2.1 - 13 * H65.1 3 1 F.2.1 - H65.1 3 3 F.2.1 ≤ ((w.2.1 : Nat) : Int) - 2 * H3.1 7 4 F.2.2.1 - 13 * H3.1 3 1 F.2.1 - H3.1 3 3 F.2.1 + (H65.1 6 11 x) := hr71
            have hr71s' : ((w66.2.2 : Nat) : Int) - 18 * H65.1 7 4 F.2.2.1 - 700 * H65.1 3 1 F.2.1 - 6 * H65.1 3 3 F.2.1 ≤ ((w.2.2 : Nat) : Int) - 18 * H3.1 7 4 F.2.2.1 - 700 * H3.1 3 1 F.2.1 - 6 * H3.1 3 3 F.2.1 + 10 * (H65.1 6 11 x) := hr71s
            have hE70 : cEx T [301, 307, 401, 402, 609, 611, 612, 616, 704, 804, 808, 809, 811, 813, 10209, 10507, 30023, 30024, 30026, 30027, 30031, 30032, 30033, 30034, 30035, 30036, 30037, 30038, 30039, 30043, 40021, 40025, 40028, 40029, 40030] H65 H := cEx.trans ehE70 hE5 hS (by decide)
            have hS69 : ∀ k p, T k p → T67 k p := fun k p z => shS69 k p (hS k p z)
            have g72 : H65.1 3 1 F.2.1 = H3.1 3 1 F.2.1 := (ehE70.1 3 1 F.2.1 hI4.top.2.1).1 (by decide)
            have g73 : H65.1 3 3 F.2.1 = H3.1 3 3 F.2.1 := (ehE70.1 3 3 F.2.1 hI4.top.2.1).1 (by decide)
            have g74 : H65.1 6 9 x = H3.1 6 9 x := (ehE70.1 6 9 x ta0).1 (by decide)
            have g75 : H65.1 6 2 x = H3.1 6 2 x := (ehE70.1 6 2 x ta0).1 (by decide)
            have g76 : H65.1 6 0 x = H3.1 6 0 x := (ehE70.1 6 0 x ta0).1 (by decide)
            have g77 : H65.1 6 6 x = H3.1 6 6 x := (ehE70.1 6 6 x ta0).1 (by decide)
            have g78 : H65.1 6 7 x = H3.1 6 7 x := (ehE70.1 6 7 x ta0).1 (by decide)
            have t79 : T67 10 F.1 := shS69 _ _ hI.top.1
            have t80 : T67 6 x := shS69 _ _ ta0
            obtain rfl := hv
            try dsimp only [Option.toList, List.append, List.cons_append, List.nil_append]
            refine J.run0 1 rfl ?_
            try dsimp only
            exact J.retb rfl rfl rfl (show (1 : Int) = 0 ∨ (1 : Int) = 1 by omega) ⟨_, rfl, T67, hI68, hS69, hE70, (show ((w66.2.1 : Nat) : Int) - 2 * H65.1 7 4 F.2.2.1 - 13 * H65.1 3 1 F.2.1 - H65.1 3 3 F.2.1 ≤ ((w.2.1 : Nat) : Int) - 2 * H.1 7 4 F.2.2.1 - 13 * H.1 3 1 F.2.1 - H.1 3 3 F.2.1 + (H65.1 6 11 x) by omega), (show ((w66.2.2 : Nat) : Int) - 18 * H65.1 7 4 F.2.2.1 - 700 * H65.1 3 1 F.2.1 - 6 * H65.1 3 3 F.2.1 ≤ ((w.2.2 : Nat) : Int) - 18 * H.1 7 4 F.2.2.1 - 700 * H.1 3 1 F.2.1 - 6 * H.1 3 3 F.2.1 + 10 * (H65.1 6 11 x) by omega), _, rfl, (show (((1 : Int)) = 0 ∨ ((1 : Int)) = 1) ∧ (((1 : Int)) = 0 → H65.1 6 11 x = 0) ∧ (((1 : Int)) = 0 → H65.1 0 1 (H65.2.2.2.2 6 1 x) < 120) from ⟨by omega, by omega, by omega⟩)⟩
  · have c81 : ¬ (¬ (H.1 6 9 x = (0 : Int))) := hc
    clear hc
    refine J.run0 1 rfl ?_
    try dsimp only
    exact J.retb rfl rfl rfl (show (0 : Int) = 0 ∨ (0 : Int) = 1 by omega) ⟨_, rfl, T, hI, hS, hE, (show ((w.2.1 : Nat) : Int) - 2 * H.1 7 4 F.2.2.1 - 13 * H.1 3 1 F.2.1 - H.1 3 3 F.2.1 ≤ ((w.2.1 : Nat) : Int) - 2 * H.1 7 4 F.2.2.1 - 13 * H.1 3 1 F.2.1 - H.1 3 3 F.2.1 + (H.1 6 11 x) by omega), (show ((w.2.2 : Nat) : Int) - 18 * H.1 7 4 F.2.2.1 - 700 * H.1 3 1 F.2.1 - 6 * H.1 3 3 F.2.1 ≤ ((w.2.2 : Nat) : Int) - 18 * H.1 7 4 F.2.2.1 - 700 * H.1 3 1 F.2.1 - 6 * H.1 3 3 F.2.1 + 10 * (H.1 6 11 x) by omega), _, rfl, (show (((0 : Int)) = 0 ∨ ((0 : Int)) = 1) ∧ (((0 : Int)) = 0 → H.1 6 11 x = 0) ∧ (((0 : Int)) = 0 → H.1 0 1 (H.2.2.2.2 6 1 x) < 120) from ⟨by omega, by omega, by omega⟩)⟩
end
