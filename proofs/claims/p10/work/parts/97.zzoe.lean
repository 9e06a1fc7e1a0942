-- M: X10_renewCandidate
section
variable {d : Nat} {F : cG} 
set_option maxRecDepth 20000 in
set_option maxHeartbeats 8000000 in
theorem c_X10_renewCandidate {x : Nat} {T : cP} {w : jW} {H : jH} (hI : cJ F T w H) (ta0 : T 6 x) (hp0 : H.1 6 11 x = 0) (hp1 : H.1 0 1 (H.2.2.2.2 6 1 x) < 120) : J false (d + 4) 94 w (0, jargs 0 [.inr (some (10, F.1)), .inr (some (6, x))], [], H) (jN fun v w' H' => ∃ T', cJ F T' w' H' ∧ (∀ k p, T k p → T' k p) ∧ cEx T [401, 402, 603, 604, 605, 606, 607, 608, 611, 612, 616, 704, 10209, 10507, 30026, 30027, 30031, 40025, 40028, 40029, 40030] H' H ∧ ((w'.2.1 : Nat) : Int) - 2 * H'.1 7 4 F.2.2.1 - 13 * H'.1 3 1 F.2.1 - H'.1 3 3 F.2.1 ≤ ((w.2.1 : Nat) : Int) - 2 * H.1 7 4 F.2.2.1 - 13 * H.1 3 1 F.2.1 - H.1 3 3 F.2.1 + (H'.1 6 11 x) ∧ ((w'.2.2 : Nat) : Int) - 18 * H'.1 7 4 F.2.2.1 - 700 * H'.1 3 1 F.2.1 - 6 * H'.1 3 3 F.2.1 ≤ ((w.2.2 : Nat) : Int) - 18 * H.1 7 4 F.2.2.1 - 700 * H.1 3 1 F.2.1 - 6 * H.1 3 3 F.2.1 + 10 * (H'.1 6 11 x) ∧ ∃ rv, v = some (.inl rv) ∧ ((rv = 0 ∨ rv = 1) ∧ (rv = 0 → H'.1 6 11 x = 0) ∧ (rv = 0 → H'.1 0 1 (H'.2.2.2.2 6 1 x) < 120))) := by
  have hE : cEx T [401, 402, 603, 604, 605, 606, 607, 608, 611, 612, 616, 704, 10209, 10507, 30026, 30027, 30031, 40025, 40028, 40029, 40030] H H := cEx.refl
  have hS : ∀ k p, T k p → T k p := fun _ _ z => z
  refine J.run 2 rfl (hI.is ta0) ?_
  try dsimp only
  refine J.ifcN rfl rfl rfl (fun hc => ?_) (fun hc => ?_)
  · have c1 : jn (H.1 6 3 x) = (0 : Int) := hc
    clear hc
    refine J.run0 6 rfl ?_
    try dsimp only
    exact J.retb rfl rfl rfl (show (0 : Int) = 0 ∨ (0 : Int) = 1 by omega) ⟨_, rfl, T, hI, hS, hE, (show ((w.2.1 : Nat) : Int) - 2 * H.1 7 4 F.2.2.1 - 13 * H.1 3 1 F.2.1 - H.1 3 3 F.2.1 ≤ ((w.2.1 : Nat) : Int) - 2 * H.1 7 4 F.2.2.1 - 13 * H.1 3 1 F.2.1 - H.1 3 3 F.2.1 + (H.1 6 11 x) by omega), (show ((w.2.2 : Nat) : Int) - 18 * H.1 7 4 F.2.2.1 - 700 * H.1 3 1 F.2.1 - 6 * H.1 3 3 F.2.1 ≤ ((w.2.2 : Nat) : Int) - 18 * H.1 7 4 F.2.2.1 - 700 * H.1 3 1 F.2.1 - 6 * H.1 3 3 F.2.1 + 10 * (H.1 6 11 x) by omega), _, rfl, (show (((0 : Int)) = 0 ∨ ((0 : Int)) = 1) ∧ (((0 : Int)) = 0 → H.1 6 11 x = 0) ∧ (((0 : Int)) = 0 → H.1 0 1 (H.2.2.2.2 6 1 x) < 120) from ⟨by omega, by omega, by omega⟩)⟩
  · have c2 : ¬ (jn (H.1 6 3 x) = (0 : Int)) := hc
    clear hc
    have f3 : 0 ≤ H.1 6 8 x ∧ H.1 6 8 x ≤ 1 := hI.v 6 8 x ta0
    refine J.run 2 rfl (hI.is ta0) ?_
    try dsimp only
    refine J.ifc rfl rfl rfl (show -2147483648 ≤ H.1 6 8 x ∧ H.1 6 8 x ≤ 2147483647 from ⟨by omega, by omega⟩) (fun hc => ?_) (fun hc => ?_)
    · have c4 : H.1 6 8 x = (0 : Int) := hc
      clear hc
      have f5 : 0 ≤ H.1 6 2 x ∧ H.1 6 2 x ≤ 31 := hI.v 6 2 x ta0
      refine J.run 4 rfl (hI.is ta0) ?_
      try dsimp only
      refine J.inv rfl rfl rfl rfl rfl rfl ((jD_w rfl).mpr (hI.is hI.top.1)) rfl rfl rfl rfl rfl (c_X10_proposalOf (x := x) (round := H.1 6 2 x) hI ta0 (show -2147483648 ≤ (H.1 6 2 x) ∧ (H.1 6 2 x) ≤ 2147483647 from ⟨by omega, by omega⟩)) ?_
      rintro v w H ⟨rfl, rfl, hv⟩
      rcases hv with ⟨rfl, r8⟩ | ⟨q6, rfl, t7, r8⟩
      · skip
        try dsimp only [Option.toList, List.append, List.cons_append, List.nil_append]
        refine J.run0 4 rfl ?_
        try dsimp only
        exact J.retb rfl rfl rfl (show (0 : Int) = 0 ∨ (0 : Int) = 1 by omega) ⟨_, rfl, T, hI, hS, hE, (show ((w.2.1 : Nat) : Int) - 2 * H.1 7 4 F.2.2.1 - 13 * H.1 3 1 F.2.1 - H.1 3 3 F.2.1 ≤ ((w.2.1 : Nat) : Int) - 2 * H.1 7 4 F.2.2.1 - 13 * H.1 3 1 F.2.1 - H.1 3 3 F.2.1 + (H.1 6 11 x) by omega), (show ((w.2.2 : Nat) : Int) - 18 * H.1 7 4 F.2.2.1 - 700 * H.1 3 1 F.2.1 - 6 * H.1 3 3 F.2.1 ≤ ((w.2.2 : Nat) : Int) - 18 * H.1 7 4 F.2.2.1 - 700 * H.1 3 1 F.2.1 - 6 * H.1 3 3 F.2.1 + 10 * (H.1 6 11 x) by omega), _, rfl, (show (((0 : Int)) = 0 ∨ ((0 : Int)) = 1) ∧ (((0 : Int)) = 0 → H.1 6 11 x = 0) ∧ (((0 : Int)) = 0 → H.1 0 1 (H.2.2.2.2 6 1 x) < 120) from ⟨by omega, by omega, by omega⟩)⟩
      · skip
        try dsimp only [Option.toList, List.append, List.cons_append, List.nil_append]
        have f9 : 0 ≤ H.1 5 0 q6 ∧ H.1 5 0 q6 ≤ 5999 := hI.v 5 0 q6 t7
        refine J.run 6 rfl ⟨(hI.is hI.top.1), (hI.o 10 0 3 F.1 rfl hI.top.1).1⟩ ?_
        try dsimp only
        try dsimp only
        rw [show (H.2.2.2.2 10 0 F.1) = F.2.1 from hI.one.2.1 _ (hI.o 10 0 3 F.1 rfl hI.top.1).2]
        have f10 : (-2147483648) ≤ H.1 5 5 q6 ∧ H.1 5 5 q6 ≤ 2147483647 := hI.v 5 5 q6 t7
        refine J.run 2 rfl (hI.is t7) ?_
        try dsimp only
        refine J.inv rfl rfl rfl rfl rfl rfl ((jD_w rfl).mpr (hI.is hI.top.2.1)) rfl rfl rfl rfl rfl (c_X3_get (b := H.1 5 5 q6) hI  (show -2147483648 ≤ (H.1 5 5 q6) ∧ (H.1 5 5 q6) ≤ 2147483647 from ⟨by omega, by omega⟩)) ?_
        rintro v w H ⟨rfl, rfl, hv⟩
        rcases hv with ⟨rfl, r13⟩ | ⟨q11, rfl, t12, r13⟩
        · skip
          try dsimp only [Option.toList, List.append, List.cons_append, List.nil_append]
          refine J.inv rfl rfl rfl rfl rfl rfl ((jD_w rfl).mpr (hI.is ta0)) rfl rfl rfl rfl rfl (c_X6_isGood (a0 := x) (b := none) hI ta0 (fun _ z => nomatch z) ) ?_
          rintro v w H ⟨rfl, rfl, hv⟩
          obtain ⟨x14, rfl, r15⟩ := hv
          have r15' : (x14 = 0 ∨ x14 = 1) ∧ (x14 = 1 → none ≠ none) := r15
          try dsimp only [Option.toList, List.append, List.cons_append, List.nil_append]
          refine J.ifc rfl rfl rfl (show -2147483648 ≤ x14 ∧ x14 ≤ 2147483647 from ⟨by omega, by omega⟩) (fun hc => ?_) (fun hc => ?_)
          · have c16 : x14 = (0 : Int) := hc
            clear hc
            refine J.run0 1 rfl ?_
            try dsimp only
            exact J.retb rfl rfl rfl (show (0 : Int) = 0 ∨ (0 : Int) = 1 by omega) ⟨_, rfl, T, hI, hS, hE, (show ((w.2.1 : Nat) : Int) - 2 * H.1 7 4 F.2.2.1 - 13 * H.1 3 1 F.2.1 - H.1 3 3 F.2.1 ≤ ((w.2.1 : Nat) : Int) - 2 * H.1 7 4 F.2.2.1 - 13 * H.1 3 1 F.2.1 - H.1 3 3 F.2.1 + (H.1 6 11 x) by omega), (show ((w.2.2 : Nat) : Int) - 18 * H.1 7 4 F.2.2.1 - 700 * H.1 3 1 F.2.1 - 6 * H.1 3 3 F.2.1 ≤ ((w.2.2 : Nat) : Int) - 18 * H.1 7 4 F.2.2.1 - 700 * H.1 3 1 F.2.1 - 6 * H.1 3 3 F.2.1 + 10 * (H.1 6 11 x) by omega), _, rfl, (show (((0 : Int)) = 0 ∨ ((0 : Int)) = 1) ∧ (((0 : Int)) = 0 → H.1 6 11 x = 0) ∧ (((0 : Int)) = 0 → H.1 0 1 (H.2.2.2.2 6 1 x) < 120) from ⟨by omega, by omega, by omega⟩)⟩
          · have c17 : ¬ (x14 = (0 : Int)) := hc
            clear hc
            refine J.run 8 rfl ⟨(hI.is ta0), (hI.is t7)⟩ ?_
            try dsimp only
            refine J.inv rfl rfl rfl rfl rfl rfl ((jD_w rfl).mpr (hI.is hI.top.1)) rfl rfl rfl rfl rfl (c_X10_heardFrom (x := x) (kind := (1 : Int)) (round := H.1 6 2 x) (block := H.1 5 5 q6) hI ta0 (show -2147483648 ≤ (1 : Int) ∧ (1 : Int) ≤ 2147483647 from ⟨by omega, by omega⟩) (show -2147483648 ≤ (H.1 6 2 x) ∧ (H.1 6 2 x) ≤ 2147483647 from ⟨by omega, by omega⟩)) ?_
            rintro v w H ⟨rfl, rfl, hv⟩
            obtain ⟨x18, rfl, r19⟩ := hv
            try dsimp only [Option.toList, List.append, List.cons_append, List.nil_append]
            refine J.inv rfl rfl rfl rfl rfl rfl ((jD_w rfl).mpr (hI.is ta0)) rfl rfl rfl rfl rfl (c_X6_isMost (a0 := x) (bits := x18) hI ta0 ) ?_
            rintro v w H ⟨rfl, rfl, hv⟩
            obtain ⟨x20, rfl, r21⟩ := hv
            have r21' : x20 = 0 ∨ x20 = 1 := r21
            try dsimp only [Option.toList, List.append, List.cons_append, List.nil_append]
            refine J.ifc rfl rfl rfl (show -2147483648 ≤ x20 ∧ x20 ≤ 2147483647 from ⟨by omega, by omega⟩) (fun hc => ?_) (fun hc => ?_)
            · have c22 : ¬ (x20 = (0 : Int)) := hc
              clear hc
              refine J.run 3 rfl ⟨(hI.is ta0), (show (1 : Int) = 0 ∨ (1 : Int) = 1 by omega)⟩ ?_
              try dsimp only
              refine J.gn fun H23 hH23 => ?_
              have hI24 : cJ F T w H23 := by rw [hH23]; exact cJ.wi hI (show 0 ≤ (1 : Int) ∧ (1 : Int) ≤ 1 from ⟨by omega, by omega⟩) rfl rfl
              have hE25 : cEx T [401, 402, 603, 604, 605, 606, 607, 608, 611, 612, 616, 704, 10209, 10507, 30026, 30027, 30031, 40025, 40028, 40029, 40030] H23 H := by rw [hH23]; exact cEx.wi hE (by decide)
              have g26 : H23.1 6 11 x = H.1 6 11 x := by subst hH23; rfl
              have g28 : H23.1 6 2 x = H.1 6 2 x := by subst hH23; rfl
              have g29 : H23.1 5 5 q6 = H.1 5 5 q6 := by subst hH23; rfl
              have g30 : H23.1 7 4 F.2.2.1 = H.1 7 4 F.2.2.1 := by subst hH23; rfl
              have g31 : H23.1 3 1 F.2.1 = H.1 3 1 F.2.1 := by subst hH23; rfl
              have g32 : H23.1 3 3 F.2.1 = H.1 3 3 F.2.1 := by subst hH23; rfl
              have g33 : H23.1 6 8 x = (1 : Int) := by subst hH23; exact if_pos rfl
              clear hH23
              refine J.run 3 rfl (hI24.is ta0) ?_
              try dsimp only
              refine J.icmpN rfl rfl rfl (fun hc => ?_) (fun hc => ?_)
              · have c34 : ¬ (jn (H23.1 6 3 x) = jn ((1 : Int))) := hc
                clear hc
                have f35 : (-2147483648) ≤ H23.1 5 5 q6 ∧ H23.1 5 5 q6 ≤ 2147483647 := hI24.v 5 5 q6 t7
                refine J.run 4 rfl ⟨(hI24.is t7), (hI24.is ta0)⟩ ?_
                try dsimp only
                refine J.gn fun H36 hH36 => ?_
                have hI37 : cJ F T w H36 := by rw [hH36]; exact cJ.wi hI24 (show (-2147483648) ≤ H23.1 5 5 q6 ∧ H23.1 5 5 q6 ≤ 2147483647 from ⟨by omega, by omega⟩) rfl rfl
                have hE38 : cEx T [401, 402, 603, 604, 605, 606, 607, 608, 611, 612, 616, 704, 10209, 10507, 30026, 30027, 30031, 40025, 40028, 40029, 40030] H36 H := by rw [hH36]; exact cEx.wi hE25 (by decide)
                have g39 : H36.1 6 11 x = H23.1 6 11 x := by subst hH36; rfl
                have g40 : H36.1 6 2 x = H23.1 6 2 x := by subst hH36; rfl
                have g41 : H36.1 5 5 q6 = H23.1 5 5 q6 := by subst hH36; rfl
                have g42 : H36.1 7 4 F.2.2.1 = H23.1 7 4 F.2.2.1 := by subst hH36; rfl
                have g43 : H36.1 3 1 F.2.1 = H23.1 3 1 F.2.1 := by subst hH36; rfl
                have g44 : H36.1 3 3 F.2.1 = H23.1 3 3 F.2.1 := by subst hH36; rfl
                have g45 : H36.1 6 8 x = H23.1 6 8 x := by subst hH36; rfl
                have g46 : H36.1 6 6 x = H23.1 5 5 q6 := by subst hH36; exact if_pos rfl
                clear hH36
                have f47 : 0 ≤ H36.1 6 2 x ∧ H36.1 6 2 x ≤ 31 := hI37.v 6 2 x ta0
                refine J.run 4 rfl ⟨(hI37.is ta0), (hI37.is ta0)⟩ ?_
                try dsimp only
                refine J.gn fun H48 hH48 => ?_
                have hI49 : cJ F T w H48 := by rw [hH48]; exact cJ.wi hI37 (show (-2147483648) ≤ H36.1 6 2 x ∧ H36.1 6 2 x ≤ 2147483647 from ⟨by omega, by omega⟩) rfl rfl
                have hE50 : cEx T [401, 402, 603, 604, 605, 606, 607, 608, 611, 612, 616, 704, 10209, 10507, 30026, 30027, 30031, 40025, 40028, 40029, 40030] H48 H := by rw [hH48]; exact cEx.wi hE38 (by decide)
                have g51 : H48.1 6 11 x = H36.1 6 11 x := by subst hH48; rfl
                have g52 : H48.1 6 2 x = H36.1 6 2 x := by subst hH48; rfl
                have g53 : H48.1 5 5 q6 = H36.1 5 5 q6 := by subst hH48; rfl
                have g54 : H48.1 7 4 F.2.2.1 = H36.1 7 4 F.2.2.1 := by subst hH48; rfl
                have g55 : H48.1 3 1 F.2.1 = H36.1 3 1 F.2.1 := by subst hH48; rfl
                have g56 : H48.1 3 3 F.2.1 = H36.1 3 3 F.2.1 := by subst hH48; rfl
                have g57 : H48.1 6 8 x = H36.1 6 8 x := by subst hH48; rfl
                have g58 : H48.1 6 6 x = H36.1 6 6 x := by subst hH48; rfl
                have g59 : H48.1 6 7 x = H36.1 6 2 x := by subst hH48; exact if_pos rfl
                clear hH48
                refine J.run0 1 rfl ?_
                try dsimp only
                exact J.retb rfl rfl rfl (show (1 : Int) = 0 ∨ (1 : Int) = 1 by omega) ⟨_, rfl, T, hI49, hS, hE50, (show ((w.2.1 : Nat) : Int) - 2 * H48.1 7 4 F.2.2.1 - 13 * H48.1 3 1 F.2.1 - H48.1 3 3 F.2.1 ≤ ((w.2.1 : Nat) : Int) - 2 * H.1 7 4 F.2.2.1 - 13 * H.1 3 1 F.2.1 - H.1 3 3 F.2.1 + (H48.1 6 11 x) by omega), (show ((w.2.2 : Nat) : Int) - 18 * H48.1 7 4 F.2.2.1 - 700 * H48.1 3 1 F.2.1 - 6 * H48.1 3 3 F.2.1 ≤ ((w.2.2 : Nat) : Int) - 18 * H.1 7 4 F.2.2.1 - 700 * H.1 3 1 F.2.1 - 6 * H.1 3 3 F.2.1 + 10 * (H48.1 6 11 x) by omega), _, rfl, (show (((1 : Int)) = 0 ∨ ((1 : Int)) = 1) ∧ (((1 : Int)) = 0 → H48.1 6 11 x = 0) ∧ (((1 : Int)) = 0 → H48.1 0 1 (H48.2.2.2.2 6 1 x) < 120) from ⟨by omega, by omega, by omega⟩)⟩
              · have c60 : ¬ (¬ (jn (H23.1 6 3 x) = jn ((1 : Int)))) := hc
                clear hc
                have f61 : (-2147483648) ≤ H23.1 5 5 q6 ∧ H23.1 5 5 q6 ≤ 2147483647 := hI24.v 5 5 q6 t7
                refine J.run 4 rfl ⟨(hI24.is t7), (hI24.is ta0)⟩ ?_
                try dsimp only
                refine J.gn fun H62 hH62 => ?_
                have hI63 : cJ F T w H62 := by rw [hH62]; exact cJ.wi hI24 trivial rfl rfl
                have hE64 : cEx T [401, 402, 603, 604, 605, 606, 607, 608, 611, 612, 616, 704, 10209, 10507, 30026, 30027, 30031, 40025, 40028, 40029, 40030] H62 H := by rw [hH62]; exact cEx.wi hE25 (by decide)
                have g65 : H62.1 6 11 x = H23.1 6 11 x := by subst hH62; rfl
                have g66 : H62.1 6 2 x = H23.1 6 2 x := by subst hH62; rfl
                have g67 : H62.1 5 5 q6 = H23.1 5 5 q6 := by subst hH62; rfl
                have g68 : H62.1 7 4 F.2.2.1 = H23.1 7 4 F.2.2.1 := by subst hH62; rfl
                have g69 : H62.1 3 1 F.2.1 = H23.1 3 1 F.2.1 := by subst hH62; rfl
                have g70 : H62.1 3 3 F.2.1 = H23.1 3 3 F.2.1 := by subst hH62; rfl
                have g71 : H62.1 6 8 x = H23.1 6 8 x := by subst hH62; rfl
                have g72 : H62.1 6 4 x = H23.1 5 5 q6 := by subst hH62; exact if_pos rfl
                clear hH62
                have f73 : 0 ≤ H62.1 6 2 x ∧ H62.1 6 2 x ≤ 31 := hI63.v 6 2 x ta0
                refine J.run 4 rfl ⟨(hI63.is ta0), (hI63.is ta0)⟩ ?_
                try dsimp only
                refine J.gn fun H74 hH74 => ?_
                have hI75 : cJ F T w H74 := by rw [hH74]; exact cJ.wi hI63 trivial rfl rfl
                have hE76 : cEx T [401, 402, 603, 604, 605, 606, 607, 608, 611, 612, 616, 704, 10209, 10507, 30026, 30027, 30031, 40025, 40028, 40029, 40030] H74 H := by rw [hH74]; exact cEx.wi hE64 (by decide)
                have g77 : H74.1 6 11 x = H62.1 6 11 x := by subst hH74; rfl
                have g78 : H74.1 6 2 x = H62.1 6 2 x := by subst hH74; rfl
                have g79 : H74.1 5 5 q6 = H62.1 5 5 q6 := by subst hH74; rfl
                have g80 : H74.1 7 4 F.2.2.1 = H62.1 7 4 F.2.2.1 := by subst hH74; rfl
                have g81 : H74.1 3 1 F.2.1 = H62.1 3 1 F.2.1 := by subst hH74; rfl
                have g82 : H74.1 3 3 F.2.1 = H62.1 3 3 F.2.1 := by subst hH74; rfl
                have g83 : H74.1 6 8 x = H62.1 6 8 x := by subst hH74; rfl
                have g84 : H74.1 6 4 x = H62.1 6 4 x := by subst hH74; rfl
                have g85 : H74.1 6 5 x = H62.1 6 2 x := by subst hH74; exact if_pos rfl
                clear hH74
                refine J.run 3 rfl (hI75.is ta0) ?_
                try dsimp only
                refine J.gn fun H86 hH86 => ?_
                have hI87 : cJ F T w H86 := by rw [hH86]; exact cJ.wi hI75 trivial rfl rfl
                have hE88 : cEx T [401, 402, 603, 604, 605, 606, 607, 608, 611, 612, 616, 704, 10209, 10507, 30026, 30027, 30031, 40025, 40028, 40029, 40030] H86 H := by rw [hH86]; exact cEx.wi hE76 (by decide)
                have g89 : H86.1 6 11 x = H74.1 6 11 x := by subst hH86; rfl
                have g90 : H86.1 6 2 x = H74.1 6 2 x := by subst hH86; rfl
                have g91 : H86.1 5 5 q6 = H74.1 5 5 q6 := by subst hH86; rfl
                have g92 : H86.1 7 4 F.2.2.1 = H74.1 7 4 F.2.2.1 := by subst hH86; rfl
                have g93 : H86.1 3 1 F.2.1 = H74.1 3 1 F.2.1 := by subst hH86; rfl
                have g94 : H86.1 3 3 F.2.1 = H74.1 3 3 F.2.1 := by subst hH86; rfl
                have g95 : H86.1 6 8 x = H74.1 6 8 x := by subst hH86; rfl
                have g96 : H86.1 6 4 x = H74.1 6 4 x := by subst hH86; rfl
                have g97 : H86.1 6 5 x = H74.1 6 5 x := by subst hH86; rfl
                have g98 : H86.1 6 3 x = (2 : Int) := by subst hH86; exact if_pos rfl
                clear hH86
                have f99 : (-2147483648) ≤ H86.1 5 5 q6 ∧ H86.1 5 5 q6 ≤ 2147483647 := hI87.v 5 5 q6 t7
                refine J.run 6 rfl (hI87.is t7) ?_
                try dsimp only
                have e61 := (hE88.1 6 1 x ta0).2.2 (by decide)
                have e01 := (hE88.1 0 1 (H.2.2.2.2 6 1 x) (hI.o 6 1 0 x rfl ta0).2).1 (by decide)
                have h01 : H86.1 0 1 (H86.2.2.2.2 6 1 x) < 120 := by rw [e61]; omega
                refine J.inv rfl rfl rfl rfl rfl rfl ((jD_w rfl).mpr (hI87.is hI.top.1)) rfl rfl rfl rfl rfl (c_X10_send (x := x) (kind := (2 : Int)) (block := H86.1 5 5 q6) (before := (-1 : Int)) hI87 ta0 (show H86.1 6 11 x = 0 from by omega) (show H86.1 0 1 (H86.2.2.2.2 6 1 x) < 120 from by omega) (show -2147483648 ≤ (H86.1 5 5 q6) ∧ (H86.1 5 5 q6) ≤ 2147483647 from ⟨by omega, by omega⟩) (show -2147483648 ≤ (-1 : Int) ∧ (-1 : Int) ≤ 2147483647 from ⟨by omega, by omega⟩)) ?_
                rintro v w101 H100 ⟨T102, hI103, shS104, ehE105, hr106, hr106s, hv⟩
                have hr106' : ((w101.2.1 : Nat) : Int) - 2 * H100.1 7 4 F.2.2.1 - 13 * H100.1 3 1 F.2.1 - H100.1 3 3 F.2.1 ≤ ((w.2.1 : Nat) : Int) - 2 * H86.1 7 4 F.2.2.1 - 13 * H86.1 3 1 F.2.1 - H86.1 3 3 F.2.1 + (H100.1 6 11 x) := hr106
                have hr106s' : ((w101.2.2 : Nat) : Int) - 18 * H100.1 7 4 F.2.2.1 - 700 * H100.1 3 1 F.2.1 - 6 * H100.1 3 3 F.2.1 ≤ ((w.2.2 : Nat) : Int) - 18 * H86.1 7 4 F.2.2.1 - 700 * H86.1 3 1 F.2.1 - 6 * H86.1 3 3 F.2.1 + 10 * (H100.1 6 11 x) := hr106s
                have hE105 : cEx T [401, 402, 603, 604, 605, 606, 607, 608, 611, 612, 616, 704, 10209, 10507, 30026, 30027, 30031, 40025, 40028, 40029, 40030] H100 H := cEx.trans ehE105 hE88 hS (by decide)
                have hS104 : ∀ k p, T k p → T102 k p := fun k p z => shS104 k p (hS k p z)
                have g107 : H100.1 6 2 x = H86.1 6 2 x := (ehE105.1 6 2 x ta0).1 (by decide)
                have g108 : H100.1 5 5 q6 = H86.1 5 5 q6 := (ehE105.1 5 5 q6 t7).1 (by decide)
                have g109 : H100.1 3 1 F.2.1 = H86.1 3 1 F.2.1 := (ehE105.1 3 1 F.2.1 hI87.top.2.1).1 (by decide)
                have g110 : H100.1 3 3 F.2.1 = H86.1 3 3 F.2.1 := (ehE105.1 3 3 F.2.1 hI87.top.2.1).1 (by decide)
                have g111 : H100.1 6 8 x = H86.1 6 8 x := (ehE105.1 6 8 x ta0).1 (by decide)
                have g112 : H100.1 6 4 x = H86.1 6 4 x := (ehE105.1 6 4 x ta0).1 (by decide)
                have g113 : H100.1 6 5 x = H86.1 6 5 x := (ehE105.1 6 5 x ta0).1 (by decide)
                have g114 : H100.1 6 3 x = H86.1 6 3 x := (ehE105.1 6 3 x ta0).1 (by decide)
                have t115 : T102 5 q6 := shS104 _ _ t7
                have t116 : T102 10 F.1 := shS104 _ _ hI.top.1
                have t117 : T102 6 x := shS104 _ _ ta0
                obtain rfl := hv
                try dsimp only [Option.toList, List.append, List.cons_append, List.nil_append]
                have f118 : (-2147483648) ≤ H100.1 5 5 q6 ∧ H100.1 5 5 q6 ≤ 2147483647 := hI103.v 5 5 q6 t115
                refine J.run 4 rfl ⟨(hI103.is t115), (hI103.is t117)⟩ ?_
                try dsimp only
                refine J.gn fun H119 hH119 => ?_
                have hI120 : cJ F T102 w101 H119 := by rw [hH119]; exact cJ.wi hI103 (show (-2147483648) ≤ H100.1 5 5 q6 ∧ H100.1 5 5 q6 ≤ 2147483647 from ⟨by omega, by omega⟩) rfl rfl
                have hE121 : cEx T [401, 402, 603, 604, 605, 606, 607, 608, 611, 612, 616, 704, 10209, 10507, 30026, 30027, 30031, 40025, 40028, 40029, 40030] H119 H := by rw [hH119]; exact cEx.wi hE105 (by decide)
                have g122 : H119.1 6 2 x = H100.1 6 2 x := by subst hH119; rfl
                have g123 : H119.1 5 5 q6 = H100.1 5 5 q6 := by subst hH119; rfl
                have g124 : H119.1 3 1 F.2.1 = H100.1 3 1 F.2.1 := by subst hH119; rfl
                have g125 : H119.1 3 3 F.2.1 = H100.1 3 3 F.2.1 := by subst hH119; rfl
                have g126 : H119.1 6 8 x = H100.1 6 8 x := by subst hH119; rfl
                have g127 : H119.1 6 4 x = H100.1 6 4 x := by subst hH119; rfl
                have g128 : H119.1 6 5 x = H100.1 6 5 x := by subst hH119; rfl
                have g129 : H119.1 6 3 x = H100.1 6 3 x := by subst hH119; rfl
                have g130 : H119.1 7 4 F.2.2.1 = H100.1 7 4 F.2.2.1 := by subst hH119; rfl
                have g131 : H119.1 6 11 x = H100.1 6 11 x := by subst hH119; rfl
                have g132 : H119.1 6 6 x = H100.1 5 5 q6 := by subst hH119; exact if_pos rfl
                clear hH119
                have f133 : 0 ≤ H119.1 6 2 x ∧ H119.1 6 2 x ≤ 31 := hI120.v 6 2 x t117
                refine J.run 4 rfl ⟨(hI120.is t117), (hI120.is t117)⟩ ?_
                try dsimp only
                refine J.gn fun H134 hH134 => ?_
                have hI135 : cJ F T102 w101 H134 := by rw [hH134]; exact cJ.wi hI120 (show (-2147483648) ≤ H119.1 6 2 x ∧ H119.1 6 2 x ≤ 2147483647 from ⟨by omega, by omega⟩) rfl rfl
                have hE136 : cEx T [401, 402, 603, 604, 605, 606, 607, 608, 611, 612, 616, 704, 10209, 10507, 30026, 30027, 30031, 40025, 40028, 40029, 40030] H134 H := by rw [hH134]; exact cEx.wi hE121 (by decide)
                have g137 : H134.1 6 2 x = H119.1 6 2 x := by subst hH134; rfl
                have g138 : H134.1 5 5 q6 = H119.1 5 5 q6 := by subst hH134; rfl
                have g139 : H134.1 3 1 F.2.1 = H119.1 3 1 F.2.1 := by subst hH134; rfl
                have g140 : H134.1 3 3 F.2.1 = H119.1 3 3 F.2.1 := by subst hH134; rfl
                have g141 : H134.1 6 8 x = H119.1 6 8 x := by subst hH134; rfl
                have g142 : H134.1 6 4 x = H119.1 6 4 x := by subst hH134; rfl
                have g143 : H134.1 6 5 x = H119.1 6 5 x := by subst hH134; rfl
                have g144 : H134.1 6 3 x = H119.1 6 3 x := by subst hH134; rfl
                have g145 : H134.1 7 4 F.2.2.1 = H119.1 7 4 F.2.2.1 := by subst hH134; rfl
                have g146 : H134.1 6 11 x = H119.1 6 11 x := by subst hH134; rfl
                have g147 : H134.1 6 6 x = H119.1 6 6 x := by subst hH134; rfl
                have g148 : H134.1 6 7 x = H119.1 6 2 x := by subst hH134; exact if_pos rfl
                clear hH134
                refine J.run0 1 rfl ?_
                try dsimp only
                exact J.retb rfl rfl rfl (show (1 : Int) = 0 ∨ (1 : Int) = 1 by omega) ⟨_, rfl, T102, hI135, hS104, hE136, (show ((w101.2.1 : Nat) : Int) - 2 * H134.1 7 4 F.2.2.1 - 13 * H134.1 3 1 F.2.1 - H134.1 3 3 F.2.1 ≤ ((w.2.1 : Nat) : Int) - 2 * H.1 7 4 F.2.2.1 - 13 * H.1 3 1 F.2.1 - H.1 3 3 F.2.1 + (H134.1 6 11 x) by omega), (show ((w101.2.2 : Nat) : Int) - 18 * H134.1 7 4 F.2.2.1 - 700 * H134.1 3 1 F.2.1 - 6 * H134.1 3 3 F.2.1 ≤ ((w.2.2 : Nat) : Int) - 18 * H.1 7 4 F.2.2.1 - 700 * H.1 3 1 F.2.1 - 6 * H.1 3 3 F.2.1 + 10 * (H134.1 6 11 x) by omega), _, rfl, (show (((1 : Int)) = 0 ∨ ((1 : Int)) = 1) ∧ (((1 : Int)) = 0 → H134.1 6 11 x = 0) ∧ (((1 : Int)) = 0 → H134.1 0 1 (H134.2.2.2.2 6 1 x) < 120) from ⟨by omega, by omega, by omega⟩)⟩
            · have c149 : ¬ (¬ (x20 = (0 : Int))) := hc
              clear hc
              refine J.run0 1 rfl ?_
              try dsimp only
              exact J.retb rfl rfl rfl (show (0 : Int) = 0 ∨ (0 : Int) = 1 by omega) ⟨_, rfl, T, hI, hS, hE, (show ((w.2.1 : Nat) : Int) - 2 * H.1 7 4 F.2.2.1 - 13 * H.1 3 1 F.2.1 - H.1 3 3 F.2.1 ≤ ((w.2.1 : Nat) : Int) - 2 * H.1 7 4 F.2.2.1 - 13 * H.1 3 1 F.2.1 - H.1 3 3 F.2.1 + (H.1 6 11 x) by omega), (show ((w.2.2 : Nat) : Int) - 18 * H.1 7 4 F.2.2.1 - 700 * H.1 3 1 F.2.1 - 6 * H.1 3 3 F.2.1 ≤ ((w.2.2 : Nat) : Int) - 18 * H.1 7 4 F.2.2.1 - 700 * H.1 3 1 F.2.1 - 6 * H.1 3 3 F.2.1 + 10 * (H.1 6 11 x) by omega), _, rfl, (show (((0 : Int)) = 0 ∨ ((0 : Int)) = 1) ∧ (((0 : Int)) = 0 → H.1 6 11 x = 0) ∧ (((0 : Int)) = 0 → H.1 0 1 (H.2.2.2.2 6 1 x) < 120) from ⟨by omega, by omega, by omega⟩)⟩
        · skip
          try dsimp only [Option.toList, List.append, List.cons_append, List.nil_append]
          have f150 : 0 ≤ H.1 0 1 q11 ∧ H.1 0 1 q11 ≤ 299 := hI.v 0 1 q11 t12
          refine J.inv rfl rfl rfl rfl rfl rfl ((jD_w rfl).mpr (hI.is ta0)) rfl rfl rfl rfl rfl (c_X6_isGood (a0 := x) (b := some q11) hI ta0 (fun _ z => by cases z; exact t12) ) ?_
          rintro v w H ⟨rfl, rfl, hv⟩
          obtain ⟨x151, rfl, r152⟩ := hv
          have r152' : (x151 = 0 ∨ x151 = 1) ∧ (x151 = 1 → (some q11) ≠ none) := r152
          try dsimp only [Option.toList, List.append, List.cons_append, List.nil_append]
          refine J.ifc rfl rfl rfl (show -2147483648 ≤ x151 ∧ x151 ≤ 2147483647 from ⟨by omega, by omega⟩) (fun hc => ?_) (fun hc => ?_)
          · have c153 : x151 = (0 : Int) := hc
            clear hc
            refine J.run0 1 rfl ?_
            try dsimp only
            exact J.retb rfl rfl rfl (show (0 : Int) = 0 ∨ (0 : Int) = 1 by omega) ⟨_, rfl, T, hI, hS, hE, (show ((w.2.1 : Nat) : Int) - 2 * H.1 7 4 F.2.2.1 - 13 * H.1 3 1 F.2.1 - H.1 3 3 F.2.1 ≤ ((w.2.1 : Nat) : Int) - 2 * H.1 7 4 F.2.2.1 - 13 * H.1 3 1 F.2.1 - H.1 3 3 F.2.1 + (H.1 6 11 x) by omega), (show ((w.2.2 : Nat) : Int) - 18 * H.1 7 4 F.2.2.1 - 700 * H.1 3 1 F.2.1 - 6 * H.1 3 3 F.2.1 ≤ ((w.2.2 : Nat) : Int) - 18 * H.1 7 4 F.2.2.1 - 700 * H.1 3 1 F.2.1 - 6 * H.1 3 3 F.2.1 + 10 * (H.1 6 11 x) by omega), _, rfl, (show (((0 : Int)) = 0 ∨ ((0 : Int)) = 1) ∧ (((0 : Int)) = 0 → H.1 6 11 x = 0) ∧ (((0 : Int)) = 0 → H.1 0 1 (H.2.2.2.2 6 1 x) < 120) from ⟨by omega, by omega, by omega⟩)⟩
          · have c154 : ¬ (x151 = (0 : Int)) := hc
            clear hc
            refine J.run 8 rfl ⟨(hI.is ta0), (hI.is t7)⟩ ?_
            try dsimp only
            refine J.inv rfl rfl rfl rfl rfl rfl ((jD_w rfl).mpr (hI.is hI.top.1)) rfl rfl rfl rfl rfl (c_X10_heardFrom (x := x) (kind := (1 : Int)) (round := H.1 6 2 x) (block := H.1 5 5 q6) hI ta0 (show -2147483648 ≤ (1 : Int) ∧ (1 : Int) ≤ 2147483647 from ⟨by omega, by omega⟩) (show -2147483648 ≤ (H.1 6 2 x) ∧ (H.1 6 2 x) ≤ 2147483647 from ⟨by omega, by omega⟩)) ?_
            rintro v w H ⟨rfl, rfl, hv⟩
            obtain ⟨x155, rfl, r156⟩ := hv
            try dsimp only [Option.toList, List.append, List.cons_append, List.nil_append]
            refine J.inv rfl rfl rfl rfl rfl rfl ((jD_w rfl).mpr (hI.is ta0)) rfl rfl rfl rfl rfl (c_X6_isMost (a0 := x) (bits := x155) hI ta0 ) ?_
            rintro v w H ⟨rfl, rfl, hv⟩
            obtain ⟨x157, rfl, r158⟩ := hv
            have r158' : x157 = 0 ∨ x157 = 1 := r158
            try dsimp only [Option.toList, List.append, List.cons_append, List.nil_append]
            refine J.ifc rfl rfl rfl (show -2147483648 ≤ x157 ∧ x157 ≤ 2147483647 from ⟨by omega, by omega⟩) (fun hc => ?_) (fun hc => ?_)
            · have c159 : ¬ (x157 = (0 : Int)) := hc
              clear hc
              refine J.run 3 rfl ⟨(hI.is ta0), (show (1 : Int) = 0 ∨ (1 : Int) = 1 by omega)⟩ ?_
              try dsimp only
              refine J.gn fun H160 hH160 => ?_
              have hI161 : cJ F T w H160 := by rw [hH160]; exact cJ.wi hI (show 0 ≤ (1 : Int) ∧ (1 : Int) ≤ 1 from ⟨by omega, by omega⟩) rfl rfl
              have hE162 : cEx T [401, 402, 603, 604, 605, 606, 607, 608, 611, 612, 616, 704, 10209, 10507, 30026, 30027, 30031, 40025, 40028, 40029, 40030] H160 H := by rw [hH160]; exact cEx.wi hE (by decide)
              have g163 : H160.1 6 11 x = H.1 6 11 x := by subst hH160; rfl
              have g165 : H160.1 6 2 x = H.1 6 2 x := by subst hH160; rfl
              have g166 : H160.1 5 5 q6 = H.1 5 5 q6 := by subst hH160; rfl
              have g167 : H160.1 7 4 F.2.2.1 = H.1 7 4 F.2.2.1 := by subst hH160; rfl
              have g168 : H160.1 3 1 F.2.1 = H.1 3 1 F.2.1 := by subst hH160; rfl
              have g169 : H160.1 3 3 F.2.1 = H.1 3 3 F.2.1 := by subst hH160; rfl
              have g170 : H160.1 6 8 x = (1 : Int) := by subst hH160; exact if_pos rfl
              clear hH160
              refine J.run 3 rfl (hI161.is ta0) ?_
              try dsimp only
              refine J.icmpN rfl rfl rfl (fun hc => ?_) (fun hc => ?_)
              · have c171 : ¬ (jn (H160.1 6 3 x) = jn ((1 : Int))) := hc
                clear hc
                have f172 : (-2147483648) ≤ H160.1 5 5 q6 ∧ H160.1 5 5 q6 ≤ 2147483647 := hI161.v 5 5 q6 t7
                refine J.run 4 rfl ⟨(hI161.is t7), (hI161.is ta0)⟩ ?_
                try dsimp only
                refine J.gn fun H173 hH173 => ?_
                have hI174 : cJ F T w H173 := by rw [hH173]; exact cJ.wi hI161 (show (-2147483648) ≤ H160.1 5 5 q6 ∧ H160.1 5 5 q6 ≤ 2147483647 from ⟨by omega, by omega⟩) rfl rfl
                have hE175 : cEx T [401, 402, 603, 604, 605, 606, 607, 608, 611, 612, 616, 704, 10209, 10507, 30026, 30027, 30031, 40025, 40028, 40029, 40030] H173 H := by rw [hH173]; exact cEx.wi hE162 (by decide)
                have g176 : H173.1 6 11 x = H160.1 6 11 x := by subst hH173; rfl
                have g177 : H173.1 6 2 x = H160.1 6 2 x := by subst hH173; rfl
                have g178 : H173.1 5 5 q6 = H160.1 5 5 q6 := by subst hH173; rfl
                have g179 : H173.1 7 4 F.2.2.1 = H160.1 7 4 F.2.2.1 := by subst hH173; rfl
                have g180 : H173.1 3 1 F.2.1 = H160.1 3 1 F.2.1 := by subst hH173; rfl
                have g181 : H173.1 3 3 F.2.1 = H160.1 3 3 F.2.1 := by subst hH173; rfl
                have g182 : H173.1 6 8 x = H160.1 6 8 x := by subst hH173; rfl
                have g183 : H173.1 6 6 x = H160.1 5 5 q6 := by subst hH173; exact if_pos rfl
                clear hH173
                have f184 : 0 ≤ H173.1 6 2 x ∧ H173.1 6 2 x ≤ 31 := hI174.v 6 2 x ta0
                refine J.run 4 rfl ⟨(hI174.is ta0), (hI174.is ta0)⟩ ?_
                try dsimp only
                refine J.gn fun H185 hH185 => ?_
                have hI186 : cJ F T w H185 := by rw [hH185]; exact cJ.wi hI174 (show (-2147483648) ≤ H173.1 6 2 x ∧ H173.1 6 2 x ≤ 2147483647 from ⟨by omega, by omega⟩) rfl rfl
                have hE187 : cEx T [401, 402, 603, 604, 605, 606, 607, 608, 611, 612, 616, 704, 10209, 10507, 30026, 30027, 30031, 40025, 40028, 40029, 40030] H185 H := by rw [hH185]; exact cEx.wi hE175 (by decide)
                have g188 : H185.1 6 11 x = H173.1 6 11 x := by subst hH185; rfl
                have g189 : H185.1 6 2 x = H173.1 6 2 x := by subst hH185; rfl
                have g190 : H185.1 5 5 q6 = H173.1 5 5 q6 := by subst hH185; rfl
                have g191 : H185.1 7 4 F.2.2.1 = H173.1 7 4 F.2.2.1 := by subst hH185; rfl
                have g192 : H185.1 3 1 F.2.1 = H173.1 3 1 F.2.1 := by subst hH185; rfl
                have g193 : H185.1 3 3 F.2.1 = H173.1 3 3 F.2.1 := by subst hH185; rfl
                have g194 : H185.1 6 8 x = H173.1 6 8 x := by subst hH185; rfl
                have g195 : H185.1 6 6 x = H173.1 6 6 x := by subst hH185; rfl
                have g196 : H185.1 6 7 x = H173.1 6 2 x := by subst hH185; exact if_pos rfl
                clear hH185
                refine J.run0 1 rfl ?_
                try dsimp only
                exact J.retb rfl rfl rfl (show (1 : Int) = 0 ∨ (1 : Int) = 1 by omega) ⟨_, rfl, T, hI186, hS, hE187, (show ((w.2.1 : Nat) : Int) - 2 * H185.1 7 4 F.2.2.1 - 13 * H185.1 3 1 F.2.1 - H185.1 3 3 F.2.1 ≤ ((w.2.1 : Nat) : Int) - 2 * H.1 7 4 F.2.2.1 - 13 * H.1 3 1 F.2.1 - H.1 3 3 F.2.1 + (H185.1 6 11 x) by omega), (show ((w.2.2 : Nat) : Int) - 18 * H185.1 7 4 F.2.2.1 - 700 * H185.1 3 1 F.2.1 - 6 * H185.1 3 3 F.2.1 ≤ ((w.2.2 : Nat) : Int) - 18 * H.1 7 4 F.2.2.1 - 700 * H.1 3 1 F.2.1 - 6 * H.1 3 3 F.2.1 + 10 * (H185.1 6 11 x) by omega), _, rfl, (show (((1 : Int)) = 0 ∨ ((1 : Int)) = 1) ∧ (((1 : Int)) = 0 → H185.1 6 11 x = 0) ∧ (((1 : Int)) = 0 → H185.1 0 1 (H185.2.2.2.2 6 1 x) < 120) from ⟨by omega, by omega, by omega⟩)⟩
              · have c197 : ¬ (¬ (jn (H160.1 6 3 x) = jn ((1 : Int)))) := hc
                clear hc
                have f198 : (-2147483648) ≤ H160.1 5 5 q6 ∧ H160.1 5 5 q6 ≤ 2147483647 := hI161.v 5 5 q6 t7
                refine J.run 4 rfl ⟨(hI161.is t7), (hI161.is ta0)⟩ ?_
                try dsimp only
                refine J.gn fun H199 hH199 => ?_
                have hI200 : cJ F T w H199 := by rw [hH199]; exact cJ.wi hI161 trivial rfl rfl
                have hE201 : cEx T [401, 402, 603, 604, 605, 606, 607, 608, 611, 612, 616, 704, 10209, 10507, 30026, 30027, 30031, 40025, 40028, 40029, 40030] H199 H := by rw [hH199]; exact cEx.wi hE162 (by decide)
                have g202 : H199.1 6 11 x = H160.1 6 11 x := by subst hH199; rfl
                have g203 : H199.1 6 2 x = H160.1 6 2 x := by subst hH199; rfl
                have g204 : H199.1 5 5 q6 = H160.1 5 5 q6 := by subst hH199; rfl
                have g205 : H199.1 7 4 F.2.2.1 = H160.1 7 4 F.2.2.1 := by subst hH199; rfl
                have g206 : H199.1 3 1 F.2.1 = H160.1 3 1 F.2.1 := by subst hH199; rfl
                have g207 : H199.1 3 3 F.2.1 = H160.1 3 3 F.2.1 := by subst hH199; rfl
                have g208 : H199.1 6 8 x = H160.1 6 8 x := by subst hH199; rfl
                have g209 : H199.1 6 4 x = H160.1 5 5 q6 := by subst hH199; exact if_pos rfl
                clear hH199
                have f210 : 0 ≤ H199.1 6 2 x ∧ H199.1 6 2 x ≤ 31 := hI200.v 6 2 x ta0
                refine J.run 4 rfl ⟨(hI200.is ta0), (hI200.is ta0)⟩ ?_
                try dsimp only
                refine J.gn fun H211 hH211 => ?_
                have hI212 : cJ F T w H211 := by rw [hH211]; exact cJ.wi hI200 trivial rfl rfl
                have hE213 : cEx T [401, 402, 603, 604, 605, 606, 607, 608, 611, 612, 616, 704, 10209, 10507, 30026, 30027, 30031, 40025, 40028, 40029, 40030] H211 H := by rw [hH211]; exact cEx.wi hE201 (by decide)
                have g214 : H211.1 6 11 x = H199.1 6 11 x := by subst hH211; rfl
                have g215 : H211.1 6 2 x = H199.1 6 2 x := by subst hH211; rfl
                have g216 : H211.1 5 5 q6 = H199.1 5 5 q6 := by subst hH211; rfl
                have g217 : H211.1 7 4 F.2.2.1 = H199.1 7 4 F.2.2.1 := by subst hH211; rfl
                have g218 : H211.1 3 1 F.2.1 = H199.1 3 1 F.2.1 := by subst hH211; rfl
                have g219 : H211.1 3 3 F.2.1 = H199.1 3 3 F.2.1 := by subst hH211; rfl
                have g220 : H211.1 6 8 x = H199.1 6 8 x := by subst hH211; rfl
                have g221 : H211.1 6 4 x = H199.1 6 4 x := by subst hH211; rfl
                have g222 : H211.1 6 5 x = H199.1 6 2 x := by subst hH211; exact if_pos rfl
                clear hH211
                refine J.run 3 rfl (hI212.is ta0) ?_
                try dsimp only
                refine J.gn fun H223 hH223 => ?_
                have hI224 : cJ F T w H223 := by rw [hH223]; exact cJ.wi hI212 trivial rfl rfl
                have hE225 : cEx T [401, 402, 603, 604, 605, 606, 607, 608, 611, 612, 616, 704, 10209, 10507, 30026, 30027, 30031, 40025, 40028, 40029, 40030] H223 H := by rw [hH223]; exact cEx.wi hE213 (by decide)
                have g226 : H223.1 6 11 x = H211.1 6 11 x := by subst hH223; rfl
                have g227 : H223.1 6 2 x = H211.1 6 2 x := by subst hH223; rfl
                have g228 : H223.1 5 5 q6 = H211.1 5 5 q6 := by subst hH223; rfl
                have g229 : H223.1 7 4 F.2.2.1 = H211.1 7 4 F.2.2.1 := by subst hH223; rfl
                have g230 : H223.1 3 1 F.2.1 = H211.1 3 1 F.2.1 := by subst hH223; rfl
                have g231 : H223.1 3 3 F.2.1 = H211.1 3 3 F.2.1 := by subst hH223; rfl
                have g232 : H223.1 6 8 x = H211.1 6 8 x := by subst hH223; rfl
                have g233 : H223.1 6 4 x = H211.1 6 4 x := by subst hH223; rfl
                have g234 : H223.1 6 5 x = H211.1 6 5 x := by subst hH223; rfl
                have g235 : H223.1 6 3 x = (2 : Int) := by subst hH223; exact if_pos rfl
                clear hH223
                have f236 : (-2147483648) ≤ H223.1 5 5 q6 ∧ H223.1 5 5 q6 ≤ 2147483647 := hI224.v 5 5 q6 t7
                refine J.run 6 rfl (hI224.is t7) ?_
                try dsimp only
                have e61 := (hE225.1 6 1 x ta0).2.2 (by decide)
                have e01 := (hE225.1 0 1 (H.2.2.2.2 6 1 x) (hI.o 6 1 0 x rfl ta0).2).1 (by decide)
                have h01 : H223.1 0 1 (H223.2.2.2.2 6 1 x) < 120 := by rw [e61]; omega
                refine J.inv rfl rfl rfl rfl rfl rfl ((jD_w rfl).mpr (hI224.is hI.top.1)) rfl rfl rfl rfl rfl (c_X10_send (x := x) (kind := (2 : Int)) (block := H223.1 5 5 q6) (before := (-1 : Int)) hI224 ta0 (show H223.1 6 11 x = 0 from by omega) (show H223.1 0 1 (H223.2.2.2.2 6 1 x) < 120 from by omega) (show -2147483648 ≤ (H223.1 5 5 q6) ∧ (H223.1 5 5 q6) ≤ 2147483647 from ⟨by omega, by omega⟩) (show -2147483648 ≤ (-1 : Int) ∧ (-1 : Int) ≤ 2147483647 from ⟨by omega, by omega⟩)) ?_
                rintro v w238 H237 ⟨T239, hI240, shS241, ehE242, hr243, hr243s, hv⟩
                have hr243' : ((w238.2.1 : Nat) : Int) - 2 * H237.1 7 4 F.2.2.1 - 13 * H237.1 3 1 F.2.1 - H237.1 3 3 F.2.1 ≤ ((w.2.1 : Nat) : Int) - 2 * H223.1 7 4 F.2.2.1 - 13 * H223.1 3 1 F.2.1 - H223.1 3 3 F.2.1 + (H237.1 6 11 x) := hr243
                have hr243s' : ((w238.2.2 : Nat) : Int) - 18 * H237.1 7 4 F.2.2.1 - 700 * H237.1 3 1 F.2.1 - 6 * H237.1 3 3 F.2.1 ≤ ((w.2.2 : Nat) : Int) - 18 * H223.1 7 4 F.2.2.1 - 700 * H223.1 3 1 F.2.1 - 6 * H223.1 3 3 F.2.1 + 10 * (H237.1 6 11 x) := hr243s
                have hE242 : cEx T [401, 402, 603, 604, 605, 606, 607, 608, 611, 612, 616, 704, 10209, 10507, 30026, 30027, 30031, 40025, 40028, 40029, 40030] H237 H := cEx.trans ehE242 hE225 hS (by decide)
                have hS241 : ∀ k p, T k p → T239 k p := fun k p z => shS241 k p (hS k p z)
                have g244 : H237.1 6 2 x = H223.1 6 2 x := (ehE242.1 6 2 x ta0).1 (by decide)
                have g245 : H237.1 5 5 q6 = H223.1 5 5 q6 := (ehE242.1 5 5 q6 t7).1 (by decide)
                have g246 : H237.1 3 1 F.2.1 = H223.1 3 1 F.2.1 := (ehE242.1 3 1 F.2.1 hI224.top.2.1).1 (by decide)
                have g247 : H237.1 3 3 F.2.1 = H223.1 3 3 F.2.1 := (ehE242.1 3 3 F.2.1 hI224.top.2.1).1 (by decide)
                have g248 : H237.1 6 8 x = H223.1 6 8 x := (ehE242.1 6 8 x ta0).1 (by decide)
                have g249 : H237.1 6 4 x = H223.1 6 4 x := (ehE242.1 6 4 x ta0).1 (by decide)
                have g250 : H237.1 6 5 x = H223.1 6 5 x := (ehE242.1 6 5 x ta0).1 (by decide)
                have g251 : H237.1 6 3 x = H223.1 6 3 x := (ehE242.1 6 3 x ta0).1 (by decide)
                have t252 : T239 5 q6 := shS241 _ _ t7
                have t253 : T239 10 F.1 := shS241 _ _ hI.top.1
                have t254 : T239 6 x := shS241 _ _ ta0
                obtain rfl := hv
                try dsimp only [Option.toList, List.append, List.cons_append, List.nil_append]
                have f255 : (-2147483648) ≤ H237.1 5 5 q6 ∧ H237.1 5 5 q6 ≤ 2147483647 := hI240.v 5 5 q6 t252
                refine J.run 4 rfl ⟨(hI240.is t252), (hI240.is t254)⟩ ?_
                try dsimp only
                refine J.gn fun H256 hH256 => ?_
                have hI257 : cJ F T239 w238 H256 := by rw [hH256]; exact cJ.wi hI240 (show (-2147483648) ≤ H237.1 5 5 q6 ∧ H237.1 5 5 q6 ≤ 2147483647 from ⟨by omega, by omega⟩) rfl rfl
                have hE258 : cEx T [401, 402, 603, 604, 605, 606, 607, 608, 611, 612, 616, 704, 10209, 10507, 30026, 30027, 30031, 40025, 40028, 40029, 40030] H256 H := by rw [hH256]; exact cEx.wi hE242 (by decide)
                have g259 : H256.1 6 2 x = H237.1 6 2 x := by subst hH256; rfl
                have g260 : H256.1 5 5 q6 = H237.1 5 5 q6 := by subst hH256; rfl
                have g261 : H256.1 3 1 F.2.1 = H237.1 3 1 F.2.1 := by subst hH256; rfl
                have g262 : H256.1 3 3 F.2.1 = H237.1 3 3 F.2.1 := by subst hH256; rfl
                have g263 : H256.1 6 8 x = H237.1 6 8 x := by subst hH256; rfl
                have g264 : H256.1 6 4 x = H237.1 6 4 x := by subst hH256; rfl
                have g265 : H256.1 6 5 x = H237.1 6 5 x := by subst hH256; rfl
                have g266 : H256.1 6 3 x = H237.1 6 3 x := by subst hH256; rfl
                have g267 : H256.1 7 4 F.2.2.1 = H237.1 7 4 F.2.2.1 := by subst hH256; rfl
                have g268 : H256.1 6 11 x = H237.1 6 11 x := by subst hH256; rfl
                have g269 : H256.1 6 6 x = H237.1 5 5 q6 := by subst hH256; exact if_pos rfl
                clear hH256
                have f270 : 0 ≤ H256.1 6 2 x ∧ H256.1 6 2 x ≤ 31 := hI257.v 6 2 x t254
                refine J.run 4 rfl ⟨(hI257.is t254), (hI257.is t254)⟩ ?_
                try dsimp only
                refine J.gn fun H271 hH271 => ?_
                have hI272 : cJ F T239 w238 H271 := by rw [hH271]; exact cJ.wi hI257 (show (-2147483648) ≤ H256.1 6 2 x ∧ H256.1 6 2 x ≤ 2147483647 from ⟨by omega, by omega⟩) rfl rfl
                have hE273 : cEx T [401, 402, 603, 604, 605, 606, 607, 608, 611, 612, 616, 704, 10209, 10507, 30026, 30027, 30031, 40025, 40028, 40029, 40030] H271 H := by rw [hH271]; exact cEx.wi hE258 (by decide)
                have g274 : H271.1 6 2 x = H256.1 6 2 x := by subst hH271; rfl
                have g275 : H271.1 5 5 q6 = H256.1 5 5 q6 := by subst hH271; rfl
                have g276 : H271.1 3 1 F.2.1 = H256.1 3 1 F.2.1 := by subst hH271; rfl
                have g277 : H271.1 3 3 F.2.1 = H256.1 3 3 F.2.1 := by subst hH271; rfl
                have g278 : H271.1 6 8 x = H256.1 6 8 x := by subst hH271; rfl
                have g279 : H271.1 6 4 x = H256.1 6 4 x := by subst hH271; rfl
                have g280 : H271.1 6 5 x = H256.1 6 5 x := by subst hH271; rfl
                have g281 : H271.1 6 3 x = H256.1 6 3 x := by subst hH271; rfl
                have g282 : H271.1 7 4 F.2.2.1 = H256.1 7 4 F.2.2.1 := by subst hH271; rfl
                have g283 : H271.1 6 11 x = H256.1 6 11 x := by subst hH271; rfl
                have g284 : H271.1 6 6 x = H256.1 6 6 x := by subst hH271; rfl
                have g285 : H271.1 6 7 x = H256.1 6 2 x := by subst hH271; exact if_pos rfl
                clear hH271
                refine J.run0 1 rfl ?_
                try dsimp only
                exact J.retb rfl rfl rfl (show (1 : Int) = 0 ∨ (1 : Int) = 1 by omega) ⟨_, rfl, T239, hI272, hS241, hE273, (show ((w238.2.1 : Nat) : Int) - 2 * H271.1 7 4 F.2.2.1 - 13 * H271.1 3 1 F.2.1 - H271.1 3 3 F.2.1 ≤ ((w.2.1 : Nat) : Int) - 2 * H.1 7 4 F.2.2.1 - 13 * H.1 3 1 F.2.1 - H.1 3 3 F.2.1 + (H271.1 6 11 x) by omega), (show ((w238.2.2 : Nat) : Int) - 18 * H271.1 7 4 F.2.2.1 - 700 * H271.1 3 1 F.2.1 - 6 * H271.1 3 3 F.2.1 ≤ ((w.2.2 : Nat) : Int) - 18 * H.1 7 4 F.2.2.1 - 700 * H.1 3 1 F.2.1 - 6 * H.1 3 3 F.2.1 + 10 * (H271.1 6 11 x) by omega), _, rfl, (show (((1 : Int)) = 0 ∨ ((1 : Int)) = 1) ∧ (((1 : Int)) = 0 → H271.1 6 11 x = 0) ∧ (((1 : Int)) = 0 → H271.1 0 1 (H271.2.2.2.2 6 1 x) < 120) from ⟨by omega, by omega, by omega⟩)⟩
            · have c286 : ¬ (¬ (x157 = (0 : Int))) := hc
              clear hc
              refine J.run0 1 rfl ?_
              try dsimp only
              exact J.retb rfl rfl rfl (show (0 : Int) = 0 ∨ (0 : Int) = 1 by omega) ⟨_, rfl, T, hI, hS, hE, (show ((w.2.1 : Nat) : Int) - 2 * H.1 7 4 F.2.2.1 - 13 * H.1 3 1 F.2.1 - H.1 3 3 F.2.1 ≤ ((w.2.1 : Nat) : Int) - 2 * H.1 7 4 F.2.2.1 - 13 * H.1 3 1 F.2.1 - H.1 3 3 F.2.1 + (H.1 6 11 x) by omega), (show ((w.2.2 : Nat) : Int) - 18 * H.1 7 4 F.2.2.1 - 700 * H.1 3 1 F.2.1 - 6 * H.1 3 3 F.2.1 ≤ ((w.2.2 : Nat) : Int) - 18 * H.1 7 4 F.2.2.1 - 700 * H.1 3 1 F.2.1 - 6 * H.1 3 3 F.2.1 + 10 * (H.1 6 11 x) by omega), _, rfl, (show (((0 : Int)) = 0 ∨ ((0 : Int)) = 1) ∧ (((0 : Int)) = 0 → H.1 6 11 x = 0) ∧ (((0 : Int)) = 0 → H.1 0 1 (H.2.2.2.2 6 1 x) < 120) from ⟨by omega, by omega, by omega⟩)⟩
    · have c287 : ¬ (H.1 6 8 x = (0 : Int)) := hc
      clear hc
      refine J.run0 6 rfl ?_
      try dsimp only
      exact J.retb rfl rfl rfl (show (0 : Int) = 0 ∨ (0 : Int) = 1 by omega) ⟨_, rfl, T, hI, hS, hE, (show ((w.2.1 : Nat) : Int) - 2 * H.1 7 4 F.2.2.1 - 13 * H.1 3 1 F.2.1 - H.1 3 3 F.2.1 ≤ ((w.2.1 : Nat) : Int) - 2 * H.1 7 4 F.2.2.1 - 13 * H.1 3 1 F.2.1 - H.1 3 3 F.2.1 + (H.1 6 11 x) by omega), (show ((w.2.2 : Nat) : Int) - 18 * H.1 7 4 F.2.2.1 - 700 * H.1 3 1 F.2.1 - 6 * H.1 3 3 F.2.1 ≤ ((w.2.2 : Nat) : Int) - 18 * H.1 7 4 F.2.2.1 - 700 * H.1 3 1 F.2.1 - 6 * H.1 3 3 F.2.1 + 10 * (H.1 6 11 x) by omega), _, rfl, (show (((0 : Int)) = 0 ∨ ((0 : Int)) = 1) ∧ (((0 : Int)) = 0 → H.1 6 11 x = 0) ∧ (((0 : Int)) = 0 → H.1 0 1 (H.2.2.2.2 6 1 x) < 120) from ⟨by omega, by omega, by omega⟩)⟩
end
