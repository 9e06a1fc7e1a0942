-- M: X10_start
section
variable {d : Nat} {F : cG} 
set_option maxRecDepth 20000 in
set_option maxHeartbeats 8000000 in
theorem c_X10_start {n : Int} {T : cP} {w : jW} {H : jH} (hI : cJ F T w H)  (hp0 : -2147483648 ≤ n ∧ n ≤ 2147483647) : J false (d + 6) 80 w (0, jargs 0 [.inr (some (10, F.1)), .inl n], [], H) (fun o w' H' => ∃ T', cJ F T' w' H' ∧ (∀ k p, T k p → T' k p) ∧ cEx T [301, 307, 401, 402, 602, 603, 604, 605, 606, 607, 608, 609, 611, 612, 616, 704, 804, 808, 809, 811, 813, 10209, 10507, 20601, 30023, 30024, 30026, 30027, 30031, 30032, 30033, 30034, 30035, 30036, 30037, 30038, 30039, 30043, 40021, 40025, 40028, 40029, 40030] H' H ∧ ((w'.2.1 : Nat) : Int) - 2 * H'.1 7 4 F.2.2.1 - 13 * H'.1 3 1 F.2.1 - H'.1 3 3 F.2.1 ≤ ((w.2.1 : Nat) : Int) - 2 * H.1 7 4 F.2.2.1 - 13 * H.1 3 1 F.2.1 - H.1 3 3 F.2.1 + (2) ∧ ((w'.2.2 : Nat) : Int) - 18 * H'.1 7 4 F.2.2.1 - 700 * H'.1 3 1 F.2.1 - 6 * H'.1 3 3 F.2.1 ≤ ((w.2.2 : Nat) : Int) - 18 * H.1 7 4 F.2.2.1 - 700 * H.1 3 1 F.2.1 - 6 * H.1 3 3 F.2.1 + 10 * (2) ∧ ((∃ v, o = .inl v ∧ ∃ rv, v = some (.inl rv) ∧ (True)) ∨ (o = .inr 14) ∨ (o = .inr 13))) := by
  have hE : cEx T [301, 307, 401, 402, 602, 603, 604, 605, 606, 607, 608, 609, 611, 612, 616, 704, 804, 808, 809, 811, 813, 10209, 10507, 20601, 30023, 30024, 30026, 30027, 30031, 30032, 30033, 30034, 30035, 30036, 30037, 30038, 30039, 30043, 40021, 40025, 40028, 40029, 40030] H H := cEx.refl
  have hS : ∀ k p, T k p → T k p := fun _ _ z => z
  refine J.run0 1 rfl ?_
  try dsimp only
  refine J.ins4 rfl rfl rfl (by decide) rfl rfl rfl rfl rfl (jstP.of rfl) (c_X10_isNode (n := n) hI  (show -2147483648 ≤ n ∧ n ≤ 2147483647 from ⟨by omega, by omega⟩)) ?_
  rintro v w H ⟨rfl, rfl, hv⟩
  obtain ⟨x1, rfl, r2⟩ := hv
  have r2' : (x1 = 0 ∨ x1 = 1) ∧ (x1 = 1 → 0 ≤ n ∧ n ≤ 15) ∧ (x1 = 0 → n < 0 ∨ 15 < n) := r2
  try dsimp only [Option.toList, List.append, List.cons_append, List.nil_append]
  refine J.ifc rfl rfl rfl (show -2147483648 ≤ x1 ∧ x1 ≤ 2147483647 from ⟨by omega, by omega⟩) (fun hc => ?_) (fun hc => ?_)
  · have c3 : ¬ (x1 = (0 : Int)) := hc
    clear hc
    refine J.run 4 rfl ⟨⟨(hI.is hI.top.1), hI.is (hI.r 10 2 40 F.1 rfl hI.top.1)⟩, (show w.1 40 F.1 ∧ 0 ≤ n ∧ n < 16 from ⟨hI.is (hI.r 10 2 40 F.1 rfl hI.top.1), by omega, by omega⟩)⟩ ?_
    try dsimp only
    try dsimp only
    rcases hn4 : H.2.2.2.1 40 F.1 (n) with _ | q5
    · exact absurd hn4 (hI.nd (by omega) (by omega))
    · have t6 : T 6 q5 := hI.a 40 F.1 rfl (hI.r 10 2 40 F.1 rfl hI.top.1) hn4
      have f7 : 0 ≤ H.1 6 11 q5 ∧ H.1 6 11 q5 ≤ 1 := hI.v 6 11 q5 t6
      refine J.run 3 rfl (hI.is t6) ?_
      try dsimp only
      refine J.ifc rfl rfl rfl (show -2147483648 ≤ H.1 6 11 q5 ∧ H.1 6 11 q5 ≤ 2147483647 from ⟨by omega, by omega⟩) (fun hc => ?_) (fun hc => ?_)
      · have c8 : ¬ (H.1 6 11 q5 = (0 : Int)) := hc
        clear hc
        have f9 : 0 ≤ H.1 4 1 (H.2.2.2.2 6 13 q5) ∧ H.1 4 1 (H.2.2.2.2 6 13 q5) ≤ 96 := hI.v 4 1 (H.2.2.2.2 6 13 q5) (hI.o 6 13 4 q5 rfl t6).2
        refine J.run 6 rfl ⟨⟨(hI.is t6), (hI.o 6 13 4 q5 rfl t6).1⟩, (hI.is (hI.o 6 13 4 q5 rfl t6).2), ⟨(hI.is t6), (hI.o 6 13 4 q5 rfl t6).1⟩⟩ ?_
        try dsimp only
        refine J.inv rfl rfl rfl rfl rfl rfl ((jD_w rfl).mpr (hI.is (hI.o 6 13 4 q5 rfl t6).2)) rfl rfl rfl rfl rfl (c_X4_end (a0 := (H.2.2.2.2 6 13 q5)) hI (hI.o 6 13 4 q5 rfl t6).2 ) ?_
        rintro v w H ⟨rfl, rfl, hv⟩
        rcases hv with ⟨rfl, r12⟩ | ⟨q10, rfl, t11, r12⟩
        · skip
          try dsimp only [Option.toList, List.append, List.cons_append, List.nil_append]
          refine J.run 4 rfl ⟨(hI.is t6), (show (0 : Int) = 0 ∨ (0 : Int) = 1 by omega)⟩ ?_
          try dsimp only
          refine J.gn fun H13 hH13 => ?_
          have hI14 : cJ F T w H13 := by rw [hH13]; exact cJ.wi hI (show 0 ≤ (0 : Int) ∧ (0 : Int) ≤ 1 from ⟨by omega, by omega⟩) rfl rfl
          have hE15 : cEx T [301, 307, 401, 402, 602, 603, 604, 605, 606, 607, 608, 609, 611, 612, 616, 704, 804, 808, 809, 811, 813, 10209, 10507, 20601, 30023, 30024, 30026, 30027, 30031, 30032, 30033, 30034, 30035, 30036, 30037, 30038, 30039, 30043, 40021, 40025, 40028, 40029, 40030] H13 H := by rw [hH13]; exact cEx.wi hE (by decide)
          have g17 : H13.1 4 1 (H.2.2.2.2 6 13 q5) = H.1 4 1 (H.2.2.2.2 6 13 q5) := by subst hH13; rfl
          have g18 : H13.1 7 4 F.2.2.1 = H.1 7 4 F.2.2.1 := by subst hH13; rfl
          have g19 : H13.1 3 1 F.2.1 = H.1 3 1 F.2.1 := by subst hH13; rfl
          have g20 : H13.1 3 3 F.2.1 = H.1 3 3 F.2.1 := by subst hH13; rfl
          have g21 : H13.1 6 11 q5 = (0 : Int) := by subst hH13; exact if_pos rfl
          clear hH13
          refine J.run 4 rfl ⟨⟨(hI14.is t6), (hI14.o 6 13 4 q5 rfl t6).1⟩, (hI14.is (hI14.o 6 13 4 q5 rfl t6).2)⟩ ?_
          try dsimp only
          refine J.gn fun H22 hH22 => ?_
          have hI23 : cJ F T w H22 := by rw [hH22]; exact cJ.wi hI14 trivial rfl rfl
          have hE24 : cEx T [301, 307, 401, 402, 602, 603, 604, 605, 606, 607, 608, 609, 611, 612, 616, 704, 804, 808, 809, 811, 813, 10209, 10507, 20601, 30023, 30024, 30026, 30027, 30031, 30032, 30033, 30034, 30035, 30036, 30037, 30038, 30039, 30043, 40021, 40025, 40028, 40029, 40030] H22 H := by rw [hH22]; exact cEx.wi hE15 (by decide)
          have g25 : H22.1 4 1 (H.2.2.2.2 6 13 q5) = H13.1 4 1 (H.2.2.2.2 6 13 q5) := by subst hH22; rfl
          have g26 : H22.1 7 4 F.2.2.1 = H13.1 7 4 F.2.2.1 := by subst hH22; rfl
          have g27 : H22.1 3 1 F.2.1 = H13.1 3 1 F.2.1 := by subst hH22; rfl
          have g28 : H22.1 3 3 F.2.1 = H13.1 3 3 F.2.1 := by subst hH22; rfl
          have g29 : H22.1 6 11 q5 = H13.1 6 11 q5 := by subst hH22; rfl
          have g30 : H22.1 4 2 (H13.2.2.2.2 6 13 q5) = (0 : Int) := by subst hH22; exact if_pos rfl
          clear hH22
          refine J.run0 3 rfl ?_
          try dsimp only
          refine J.inv rfl rfl rfl rfl rfl rfl ((jD_w rfl).mpr (hI23.is t6)) rfl rfl rfl rfl rfl (c_X6_unlock (a0 := q5) hI23 t6 ) ?_
          rintro v w32 H31 ⟨T33, hI34, shS35, ehE36, hr37, hr37s, hv⟩
          have hr37' : ((w32.2.1 : Nat) : Int) - 2 * H31.1 7 4 F.2.2.1 - 13 * H31.1 3 1 F.2.1 - H31.1 3 3 F.2.1 ≤ ((w.2.1 : Nat) : Int) - 2 * H22.1 7 4 F.2.2.1 - 13 * H22.1 3 1 F.2.1 - H22.1 3 3 F.2.1 + (0) := hr37
          have hr37s' : ((w32.2.2 : Nat) : Int) - 18 * H31.1 7 4 F.2.2.1 - 700 * H31.1 3 1 F.2.1 - 6 * H31.1 3 3 F.2.1 ≤ ((w.2.2 : Nat) : Int) - 18 * H22.1 7 4 F.2.2.1 - 700 * H22.1 3 1 F.2.1 - 6 * H22.1 3 3 F.2.1 + 10 * (0) := hr37s
          have hE36 : cEx T [301, 307, 401, 402, 602, 603, 604, 605, 606, 607, 608, 609, 611, 612, 616, 704, 804, 808, 809, 811, 813, 10209, 10507, 20601, 30023, 30024, 30026, 30027, 30031, 30032, 30033, 30034, 30035, 30036, 30037, 30038, 30039, 30043, 40021, 40025, 40028, 40029, 40030] H31 H := cEx.trans ehE36 hE24 hS (by decide)
          have hS35 : ∀ k p, T k p → T33 k p := fun k p z => shS35 k p (hS k p z)
          have g38 : H31.1 7 4 F.2.2.1 = H22.1 7 4 F.2.2.1 := (ehE36.1 7 4 F.2.2.1 hI23.top.2.2.1).1 (by decide)
          have g39 : H31.1 3 1 F.2.1 = H22.1 3 1 F.2.1 := (ehE36.1 3 1 F.2.1 hI23.top.2.1).1 (by decide)
          have g40 : H31.1 3 3 F.2.1 = H22.1 3 3 F.2.1 := (ehE36.1 3 3 F.2.1 hI23.top.2.1).1 (by decide)
          have g41 : H31.1 6 11 q5 = H22.1 6 11 q5 := (ehE36.1 6 11 q5 t6).1 (by decide)
          have t42 : T33 6 q5 := shS35 _ _ t6
          have t43 : T33 10 F.1 := shS35 _ _ hI.top.1
          obtain rfl := hv
          try dsimp only [Option.toList, List.append, List.cons_append, List.nil_append]
          refine J.run0 2 rfl ?_
          try dsimp only
          refine J.inv rfl rfl rfl rfl rfl rfl ((jD_w rfl).mpr (hI34.is t42)) rfl rfl rfl rfl rfl (c_X6_enter (a0 := q5) (r := (0 : Int)) hI34 t42 (show 0 ≤ (0 : Int) ∧ (0 : Int) ≤ 31 from ⟨by omega, by omega⟩)) ?_
          rintro v w45 H44 ⟨T46, hI47, shS48, ehE49, hr50, hr50s, hv⟩
          have hr50' : ((w45.2.1 : Nat) : Int) - 2 * H44.1 7 4 F.2.2.1 - 13 * H44.1 3 1 F.2.1 - H44.1 3 3 F.2.1 ≤ ((w32.2.1 : Nat) : Int) - 2 * H31.1 7 4 F.2.2.1 - 13 * H31.1 3 1 F.2.1 - H31.1 3 3 F.2.1 + (0) := hr50
          have hr50s' : ((w45.2.2 : Nat) : Int) - 18 * H44.1 7 4 F.2.2.1 - 700 * H44.1 3 1 F.2.1 - 6 * H44.1 3 3 F.2.1 ≤ ((w32.2.2 : Nat) : Int) - 18 * H31.1 7 4 F.2.2.1 - 700 * H31.1 3 1 F.2.1 - 6 * H31.1 3 3 F.2.1 + 10 * (0) := hr50s
          have hE49 : cEx T [301, 307, 401, 402, 602, 603, 604, 605, 606, 607, 608, 609, 611, 612, 616, 704, 804, 808, 809, 811, 813, 10209, 10507, 20601, 30023, 30024, 30026, 30027, 30031, 30032, 30033, 30034, 30035, 30036, 30037, 30038, 30039, 30043, 40021, 40025, 40028, 40029, 40030] H44 H := cEx.trans ehE49 hE36 hS35 (by decide)
          have hS48 : ∀ k p, T k p → T46 k p := fun k p z => shS48 k p (hS35 k p z)
          have g51 : H44.1 7 4 F.2.2.1 = H31.1 7 4 F.2.2.1 := (ehE49.1 7 4 F.2.2.1 hI34.top.2.2.1).1 (by decide)
          have g52 : H44.1 3 1 F.2.1 = H31.1 3 1 F.2.1 := (ehE49.1 3 1 F.2.1 hI34.top.2.1).1 (by decide)
          have g53 : H44.1 3 3 F.2.1 = H31.1 3 3 F.2.1 := (ehE49.1 3 3 F.2.1 hI34.top.2.1).1 (by decide)
          have g54 : H44.1 6 11 q5 = H31.1 6 11 q5 := (ehE49.1 6 11 q5 t42).1 (by decide)
          have t55 : T46 6 q5 := shS48 _ _ t42
          have t56 : T46 10 F.1 := shS48 _ _ t43
          obtain rfl := hv
          try dsimp only [Option.toList, List.append, List.cons_append, List.nil_append]
          refine J.run0 3 rfl ?_
          try dsimp only
          refine J.inv rfl rfl rfl rfl rfl rfl ((jD_w rfl).mpr (hI47.is t56)) rfl rfl rfl rfl rfl (c_X10_doAll (x := q5) hI47 t55 ) ?_
          rintro v w58 H57 ⟨T59, hI60, shS61, ehE62, hr63, hr63s, hv⟩
          have hr63' : ((w58.2.1 : Nat) : Int) - 2 * H57.1 7 4 F.2.2.1 - 13 * H57.1 3 1 F.2.1 - H57.1 3 3 F.2.1 ≤ ((w45.2.1 : Nat) : Int) - 2 * H44.1 7 4 F.2.2.1 - 13 * H44.1 3 1 F.2.1 - H44.1 3 3 F.2.1 + (1) := hr63
          have hr63s' : ((w58.2.2 : Nat) : Int) - 18 * H57.1 7 4 F.2.2.1 - 700 * H57.1 3 1 F.2.1 - 6 * H57.1 3 3 F.2.1 ≤ ((w45.2.2 : Nat) : Int) - 18 * H44.1 7 4 F.2.2.1 - 700 * H44.1 3 1 F.2.1 - 6 * H44.1 3 3 F.2.1 + 10 * (1) := hr63s
          have hE62 : cEx T [301, 307, 401, 402, 602, 603, 604, 605, 606, 607, 608, 609, 611, 612, 616, 704, 804, 808, 809, 811, 813, 10209, 10507, 20601, 30023, 30024, 30026, 30027, 30031, 30032, 30033, 30034, 30035, 30036, 30037, 30038, 30039, 30043, 40021, 40025, 40028, 40029, 40030] H57 H := cEx.trans ehE62 hE49 hS48 (by decide)
          have hS61 : ∀ k p, T k p → T59 k p := fun k p z => shS61 k p (hS48 k p z)
          have g64 : H57.1 3 3 F.2.1 = H44.1 3 3 F.2.1 := (ehE62.1 3 3 F.2.1 hI47.top.2.1).1 (by decide)
          have t65 : T59 6 q5 := shS61 _ _ t55
          have t66 : T59 10 F.1 := shS61 _ _ t56
          obtain rfl := hv
          try dsimp only [Option.toList, List.append, List.cons_append, List.nil_append]
          refine J.run0 1 rfl ?_
          try dsimp only
          exact J.reti rfl rfl rfl ⟨T59, hI60, hS61, hE62, (show ((w58.2.1 : Nat) : Int) - 2 * H57.1 7 4 F.2.2.1 - 13 * H57.1 3 1 F.2.1 - H57.1 3 3 F.2.1 ≤ ((w.2.1 : Nat) : Int) - 2 * H.1 7 4 F.2.2.1 - 13 * H.1 3 1 F.2.1 - H.1 3 3 F.2.1 + (2) by omega), (show ((w58.2.2 : Nat) : Int) - 18 * H57.1 7 4 F.2.2.1 - 700 * H57.1 3 1 F.2.1 - 6 * H57.1 3 3 F.2.1 ≤ ((w.2.2 : Nat) : Int) - 18 * H.1 7 4 F.2.2.1 - 700 * H.1 3 1 F.2.1 - 6 * H.1 3 3 F.2.1 + 10 * (2) by omega), Or.inl ⟨_, rfl, _, rfl, trivial⟩⟩
        · skip
          try dsimp only [Option.toList, List.append, List.cons_append, List.nil_append]
          refine J.run 4 rfl ⟨(hI.is t6), (show (0 : Int) = 0 ∨ (0 : Int) = 1 by omega)⟩ ?_
          try dsimp only
          refine J.gn fun H67 hH67 => ?_
          have hI68 : cJ F T w H67 := by rw [hH67]; exact cJ.wi hI (show 0 ≤ (0 : Int) ∧ (0 : Int) ≤ 1 from ⟨by omega, by omega⟩) rfl rfl
          have hE69 : cEx T [301, 307, 401, 402, 602, 603, 604, 605, 606, 607, 608, 609, 611, 612, 616, 704, 804, 808, 809, 811, 813, 10209, 10507, 20601, 30023, 30024, 30026, 30027, 30031, 30032, 30033, 30034, 30035, 30036, 30037, 30038, 30039, 30043, 40021, 40025, 40028, 40029, 40030] H67 H := by rw [hH67]; exact cEx.wi hE (by decide)
          have g71 : H67.1 4 1 (H.2.2.2.2 6 13 q5) = H.1 4 1 (H.2.2.2.2 6 13 q5) := by subst hH67; rfl
          have g72 : H67.1 7 4 F.2.2.1 = H.1 7 4 F.2.2.1 := by subst hH67; rfl
          have g73 : H67.1 3 1 F.2.1 = H.1 3 1 F.2.1 := by subst hH67; rfl
          have g74 : H67.1 3 3 F.2.1 = H.1 3 3 F.2.1 := by subst hH67; rfl
          have g75 : H67.1 6 11 q5 = (0 : Int) := by subst hH67; exact if_pos rfl
          clear hH67
          refine J.run 4 rfl ⟨⟨(hI68.is t6), (hI68.o 6 13 4 q5 rfl t6).1⟩, (hI68.is (hI68.o 6 13 4 q5 rfl t6).2)⟩ ?_
          try dsimp only
          refine J.gn fun H76 hH76 => ?_
          have hI77 : cJ F T w H76 := by rw [hH76]; exact cJ.wi hI68 trivial rfl rfl
          have hE78 : cEx T [301, 307, 401, 402, 602, 603, 604, 605, 606, 607, 608, 609, 611, 612, 616, 704, 804, 808, 809, 811, 813, 10209, 10507, 20601, 30023, 30024, 30026, 30027, 30031, 30032, 30033, 30034, 30035, 30036, 30037, 30038, 30039, 30043, 40021, 40025, 40028, 40029, 40030] H76 H := by rw [hH76]; exact cEx.wi hE69 (by decide)
          have g79 : H76.1 4 1 (H.2.2.2.2 6 13 q5) = H67.1 4 1 (H.2.2.2.2 6 13 q5) := by subst hH76; rfl
          have g80 : H76.1 7 4 F.2.2.1 = H67.1 7 4 F.2.2.1 := by subst hH76; rfl
          have g81 : H76.1 3 1 F.2.1 = H67.1 3 1 F.2.1 := by subst hH76; rfl
          have g82 : H76.1 3 3 F.2.1 = H67.1 3 3 F.2.1 := by subst hH76; rfl
          have g83 : H76.1 6 11 q5 = H67.1 6 11 q5 := by subst hH76; rfl
          have g84 : H76.1 4 2 (H67.2.2.2.2 6 13 q5) = (0 : Int) := by subst hH76; exact if_pos rfl
          clear hH76
          refine J.run0 5 rfl ?_
          try dsimp only
          refine J.inv rfl rfl rfl rfl rfl rfl ((jD_w rfl).mpr (hI77.is hI.top.1)) rfl rfl rfl rfl rfl (c_X10_resume (x := q5) (e := q10) hI77 t6 t11 ) ?_
          rintro v w86 H85 ⟨T87, hI88, shS89, ehE90, hr91, hr91s, hv⟩
          have hr91' : ((w86.2.1 : Nat) : Int) - 2 * H85.1 7 4 F.2.2.1 - 13 * H85.1 3 1 F.2.1 - H85.1 3 3 F.2.1 ≤ ((w.2.1 : Nat) : Int) - 2 * H76.1 7 4 F.2.2.1 - 13 * H76.1 3 1 F.2.1 - H76.1 3 3 F.2.1 + (0) := hr91
          have hr91s' : ((w86.2.2 : Nat) : Int) - 18 * H85.1 7 4 F.2.2.1 - 700 * H85.1 3 1 F.2.1 - 6 * H85.1 3 3 F.2.1 ≤ ((w.2.2 : Nat) : Int) - 18 * H76.1 7 4 F.2.2.1 - 700 * H76.1 3 1 F.2.1 - 6 * H76.1 3 3 F.2.1 + 10 * (0) := hr91s
          have hE90 : cEx T [301, 307, 401, 402, 602, 603, 604, 605, 606, 607, 608, 609, 611, 612, 616, 704, 804, 808, 809, 811, 813, 10209, 10507, 20601, 30023, 30024, 30026, 30027, 30031, 30032, 30033, 30034, 30035, 30036, 30037, 30038, 30039, 30043, 40021, 40025, 40028, 40029, 40030] H85 H := cEx.trans ehE90 hE78 hS (by decide)
          have hS89 : ∀ k p, T k p → T87 k p := fun k p z => shS89 k p (hS k p z)
          have g92 : H85.1 3 1 F.2.1 = H76.1 3 1 F.2.1 := (ehE90.1 3 1 F.2.1 hI77.top.2.1).1 (by decide)
          have g93 : H85.1 3 3 F.2.1 = H76.1 3 3 F.2.1 := (ehE90.1 3 3 F.2.1 hI77.top.2.1).1 (by decide)
          have g94 : H85.1 6 11 q5 = H76.1 6 11 q5 := (ehE90.1 6 11 q5 t6).1 (by decide)
          have t95 : T87 2 q10 := shS89 _ _ t11
          have t96 : T87 6 q5 := shS89 _ _ t6
          have t97 : T87 10 F.1 := shS89 _ _ hI.top.1
          obtain rfl := hv
          try dsimp only [Option.toList, List.append, List.cons_append, List.nil_append]
          refine J.run0 2 rfl ?_
          try dsimp only
          refine J.inv rfl rfl rfl rfl rfl rfl ((jD_w rfl).mpr (hI88.is t97)) rfl rfl rfl rfl rfl (c_X10_doAll (x := q5) hI88 t96 ) ?_
          rintro v w99 H98 ⟨T100, hI101, shS102, ehE103, hr104, hr104s, hv⟩
          have hr104' : ((w99.2.1 : Nat) : Int) - 2 * H98.1 7 4 F.2.2.1 - 13 * H98.1 3 1 F.2.1 - H98.1 3 3 F.2.1 ≤ ((w86.2.1 : Nat) : Int) - 2 * H85.1 7 4 F.2.2.1 - 13 * H85.1 3 1 F.2.1 - H85.1 3 3 F.2.1 + (1) := hr104
          have hr104s' : ((w99.2.2 : Nat) : Int) - 18 * H98.1 7 4 F.2.2.1 - 700 * H98.1 3 1 F.2.1 - 6 * H98.1 3 3 F.2.1 ≤ ((w86.2.2 : Nat) : Int) - 18 * H85.1 7 4 F.2.2.1 - 700 * H85.1 3 1 F.2.1 - 6 * H85.1 3 3 F.2.1 + 10 * (1) := hr104s
          have hE103 : cEx T [301, 307, 401, 402, 602, 603, 604, 605, 606, 607, 608, 609, 611, 612, 616, 704, 804, 808, 809, 811, 813, 10209, 10507, 20601, 30023, 30024, 30026, 30027, 30031, 30032, 30033, 30034, 30035, 30036, 30037, 30038, 30039, 30043, 40021, 40025, 40028, 40029, 40030] H98 H := cEx.trans ehE103 hE90 hS89 (by decide)
          have hS102 : ∀ k p, T k p → T100 k p := fun k p z => shS102 k p (hS89 k p z)
          have g105 : H98.1 3 3 F.2.1 = H85.1 3 3 F.2.1 := (ehE103.1 3 3 F.2.1 hI88.top.2.1).1 (by decide)
          have t106 : T100 2 q10 := shS102 _ _ t95
          have t107 : T100 6 q5 := shS102 _ _ t96
          have t108 : T100 10 F.1 := shS102 _ _ t97
          obtain rfl := hv
          try dsimp only [Option.toList, List.append, List.cons_append, List.nil_append]
          refine J.run0 1 rfl ?_
          try dsimp only
          exact J.reti rfl rfl rfl ⟨T100, hI101, hS102, hE103, (show ((w99.2.1 : Nat) : Int) - 2 * H98.1 7 4 F.2.2.1 - 13 * H98.1 3 1 F.2.1 - H98.1 3 3 F.2.1 ≤ ((w.2.1 : Nat) : Int) - 2 * H.1 7 4 F.2.2.1 - 13 * H.1 3 1 F.2.1 - H.1 3 3 F.2.1 + (2) by omega), (show ((w99.2.2 : Nat) : Int) - 18 * H98.1 7 4 F.2.2.1 - 700 * H98.1 3 1 F.2.1 - 6 * H98.1 3 3 F.2.1 ≤ ((w.2.2 : Nat) : Int) - 18 * H.1 7 4 F.2.2.1 - 700 * H.1 3 1 F.2.1 - 6 * H.1 3 3 F.2.1 + 10 * (2) by omega), Or.inl ⟨_, rfl, _, rfl, trivial⟩⟩
      · have c109 : ¬ (¬ (H.1 6 11 q5 = (0 : Int))) := hc
        clear hc
        exact J.thr rfl rfl rfl rfl ⟨T, hI, hS, hE, (show ((w.2.1 + 1 : Nat) : Int) - 2 * H.1 7 4 F.2.2.1 - 13 * H.1 3 1 F.2.1 - H.1 3 3 F.2.1 ≤ ((w.2.1 : Nat) : Int) - 2 * H.1 7 4 F.2.2.1 - 13 * H.1 3 1 F.2.1 - H.1 3 3 F.2.1 + (2) by omega), (show ((w.2.2 + 6 : Nat) : Int) - 18 * H.1 7 4 F.2.2.1 - 700 * H.1 3 1 F.2.1 - 6 * H.1 3 3 F.2.1 ≤ ((w.2.2 : Nat) : Int) - 18 * H.1 7 4 F.2.2.1 - 700 * H.1 3 1 F.2.1 - 6 * H.1 3 3 F.2.1 + 10 * (2) by omega), Or.inr (Or.inr (rfl))⟩
  · have c110 : ¬ (¬ (x1 = (0 : Int))) := hc
    clear hc
    exact J.thr rfl rfl rfl rfl ⟨T, hI, hS, hE, (show ((w.2.1 + 1 : Nat) : Int) - 2 * H.1 7 4 F.2.2.1 - 13 * H.1 3 1 F.2.1 - H.1 3 3 F.2.1 ≤ ((w.2.1 : Nat) : Int) - 2 * H.1 7 4 F.2.2.1 - 13 * H.1 3 1 F.2.1 - H.1 3 3 F.2.1 + (2) by omega), (show ((w.2.2 + 6 : Nat) : Int) - 18 * H.1 7 4 F.2.2.1 - 700 * H.1 3 1 F.2.1 - 6 * H.1 3 3 F.2.1 ≤ ((w.2.2 : Nat) : Int) - 18 * H.1 7 4 F.2.2.1 - 700 * H.1 3 1 F.2.1 - 6 * H.1 3 3 F.2.1 + 10 * (2) by omega), Or.inr (Or.inl rfl)⟩
end
