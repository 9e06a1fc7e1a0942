-- M: X10_expire
section
variable {d : Nat} {F : cG} 
set_option maxRecDepth 20000 in
set_option maxHeartbeats 8000000 in
theorem c_X10_expire {n : Int} {T : cP} {w : jW} {H : jH} (hI : cJ F T w H)  (hp0 : -2147483648 ≤ n ∧ n ≤ 2147483647) : J false (d + 6) 75 w (0, jargs 0 [.inr (some (10, F.1)), .inl n], [], H) (fun o w' H' => ∃ T', cJ F T' w' H' ∧ (∀ k p, T k p → T' k p) ∧ cEx T [301, 307, 401, 402, 602, 603, 604, 605, 606, 607, 608, 609, 611, 612, 616, 704, 804, 808, 809, 811, 813, 10209, 10507, 20601, 30023, 30024, 30026, 30027, 30031, 30032, 30033, 30034, 30035, 30036, 30037, 30038, 30039, 30043, 40021, 40025, 40028, 40029, 40030] H' H ∧ ((w'.2.1 : Nat) : Int) - 2 * H'.1 7 4 F.2.2.1 - 13 * H'.1 3 1 F.2.1 - H'.1 3 3 F.2.1 ≤ ((w.2.1 : Nat) : Int) - 2 * H.1 7 4 F.2.2.1 - 13 * H.1 3 1 F.2.1 - H.1 3 3 F.2.1 + (3) ∧ ((w'.2.2 : Nat) : Int) - 18 * H'.1 7 4 F.2.2.1 - 700 * H'.1 3 1 F.2.1 - 6 * H'.1 3 3 F.2.1 ≤ ((w.2.2 : Nat) : Int) - 18 * H.1 7 4 F.2.2.1 - 700 * H.1 3 1 F.2.1 - 6 * H.1 3 3 F.2.1 + 10 * (3) ∧ ((∃ v, o = .inl v ∧ ∃ rv, v = some (.inl rv) ∧ (True)) ∨ (o = .inr 14))) := by
  have hE : cEx T [301, 307, 401, 402, 602, 603, 604, 605, 606, 607, 608, 609, 611, 612, 616, 704, 804, 808, 809, 811, 813, 10209, 10507, 20601, 30023, 30024, 30026, 30027, 30031, 30032, 30033, 30034, 30035, 30036, 30037, 30038, 30039, 30043, 40021, 40025, 40028, 40029, 40030] H H := cEx.refl
  have hS : ∀ k p, T k p → T k p := fun _ _ z => z
  refine J.run0 1 rfl ?_
  try dsimp only
  refine J.ins4 rfl rfl rfl (by decide) rfl rfl rfl rfl rfl (jstP.of rfl) (c_X10_isNode (n := n) hI  (show -2147483648 ≤ n ∧ n ≤ 2147483647 from ⟨by omega, by omega⟩)) ?_
  rintro v w H ⟨rfl, rfl, hv⟩
  obtain ⟨x1, rfl, r2⟩ := hv
  have r2' : (x1 = 0 ∨ x1 = 1) ∧ (x1 = 1 → 0 ≤ n ∧ n ≤ 15) ∧ (x1 = 0 → n < 0 ∨ 15 < n) := r2
  try dsimp only [Option.toList, List.append, List.cons_append, List.nil_append]
  refine J.ifc rfl rfl rfl (show -2147483648 ≤ x1 ∧ x1 ≤ 2147483647 from ⟨by omega, by omega⟩) (fun hc => ?_) (fun hc => ?_)
  · have c3 : ¬ (x1 = (0 : Int)) := hc
    clear hc
    refine J.run 4 rfl ⟨⟨(hI.is hI.top.1), hI.is (hI.r 10 2 40 F.1 rfl hI.top.1)⟩, (show w.1 40 F.1 ∧ 0 ≤ n ∧ n < 16 from ⟨hI.is (hI.r 10 2 40 F.1 rfl hI.top.1), by omega, by omega⟩)⟩ ?_
    try dsimp only
    try dsimp only
    rcases hn4 : H.2.2.2.1 40 F.1 (n) with _ | q5
    · exact absurd hn4 (hI.nd (by omega) (by omega))
    · have t6 : T 6 q5 := hI.a 40 F.1 rfl (hI.r 10 2 40 F.1 rfl hI.top.1) hn4
      refine J.run 3 rfl ⟨(hI.is hI.top.1), (hI.o 10 1 7 F.1 rfl hI.top.1).1⟩ ?_
      try dsimp only
      try dsimp only
      rw [show (H.2.2.2.2 10 1 F.1) = F.2.2.1 from hI.one.2.2.1 _ (hI.o 10 1 7 F.1 rfl hI.top.1).2]
      have f7 : 0 ≤ H.1 7 4 F.2.2.1 ∧ H.1 7 4 F.2.2.1 ≤ 6000 := hI.v 7 4 F.2.2.1 hI.top.2.2.1
      refine J.run 3 rfl (hI.is hI.top.2.2.1) ?_
      try dsimp only
      refine J.inv rfl rfl rfl rfl rfl rfl ((jD_w rfl).mpr (hI.is t6)) rfl rfl rfl rfl rfl (c_X6_acts (a0 := q5) hI t6 ) ?_
      rintro v w H ⟨rfl, rfl, hv⟩
      obtain ⟨x8, rfl, r9⟩ := hv
      have r9' : (x8 = 0 ∨ x8 = 1) ∧ (x8 = 1 → H.1 6 11 q5 = 0) ∧ (x8 = 1 → H.1 0 1 (H.2.2.2.2 6 1 q5) < 120) := r9
      try dsimp only [Option.toList, List.append, List.cons_append, List.nil_append]
      refine J.ifc rfl rfl rfl (show -2147483648 ≤ x8 ∧ x8 ≤ 2147483647 from ⟨by omega, by omega⟩) (fun hc => ?_) (fun hc => ?_)
      · have c10 : x8 = (0 : Int) := hc
        clear hc
        refine J.run 2 rfl ⟨(hI.is hI.top.1), (hI.o 10 1 7 F.1 rfl hI.top.1).1⟩ ?_
        try dsimp only
        try dsimp only
        rw [show (H.2.2.2.2 10 1 F.1) = F.2.2.1 from hI.one.2.2.1 _ (hI.o 10 1 7 F.1 rfl hI.top.1).2]
        refine J.run 3 rfl (hI.is hI.top.2.2.1) ?_
        try dsimp only
        exact J.reti rfl rfl rfl ⟨T, hI, hS, hE, (show ((w.2.1 : Nat) : Int) - 2 * H.1 7 4 F.2.2.1 - 13 * H.1 3 1 F.2.1 - H.1 3 3 F.2.1 ≤ ((w.2.1 : Nat) : Int) - 2 * H.1 7 4 F.2.2.1 - 13 * H.1 3 1 F.2.1 - H.1 3 3 F.2.1 + (3) by omega), (show ((w.2.2 : Nat) : Int) - 18 * H.1 7 4 F.2.2.1 - 700 * H.1 3 1 F.2.1 - 6 * H.1 3 3 F.2.1 ≤ ((w.2.2 : Nat) : Int) - 18 * H.1 7 4 F.2.2.1 - 700 * H.1 3 1 F.2.1 - 6 * H.1 3 3 F.2.1 + 10 * (3) by omega), Or.inl ⟨_, rfl, _, rfl, trivial⟩⟩
      · have c11 : ¬ (x8 = (0 : Int)) := hc
        clear hc
        refine J.run0 2 rfl ?_
        try dsimp only
        refine J.inv rfl rfl rfl rfl rfl rfl ((jD_w rfl).mpr (hI.is hI.top.1)) rfl rfl rfl rfl rfl (c_X10_endWaiting (x := q5) hI t6 (show H.1 6 11 q5 = 0 from by omega) (show H.1 0 1 (H.2.2.2.2 6 1 q5) < 120 from by omega)) ?_
        rintro v w13 H12 ⟨T14, hI15, shS16, ehE17, hr18, hr18s, hv⟩
        have hr18' : ((w13.2.1 : Nat) : Int) - 2 * H12.1 7 4 F.2.2.1 - 13 * H12.1 3 1 F.2.1 - H12.1 3 3 F.2.1 ≤ ((w.2.1 : Nat) : Int) - 2 * H.1 7 4 F.2.2.1 - 13 * H.1 3 1 F.2.1 - H.1 3 3 F.2.1 + (H12.1 6 11 q5) := hr18
        have hr18s' : ((w13.2.2 : Nat) : Int) - 18 * H12.1 7 4 F.2.2.1 - 700 * H12.1 3 1 F.2.1 - 6 * H12.1 3 3 F.2.1 ≤ ((w.2.2 : Nat) : Int) - 18 * H.1 7 4 F.2.2.1 - 700 * H.1 3 1 F.2.1 - 6 * H.1 3 3 F.2.1 + 10 * (H12.1 6 11 q5) := hr18s
        have hE17 : cEx T [301, 307, 401, 402, 602, 603, 604, 605, 606, 607, 608, 609, 611, 612, 616, 704, 804, 808, 809, 811, 813, 10209, 10507, 20601, 30023, 30024, 30026, 30027, 30031, 30032, 30033, 30034, 30035, 30036, 30037, 30038, 30039, 30043, 40021, 40025, 40028, 40029, 40030] H12 H := cEx.trans ehE17 hE hS (by decide)
        have hS16 : ∀ k p, T k p → T14 k p := fun k p z => shS16 k p (hS k p z)
        have g19 : H12.1 3 1 F.2.1 = H.1 3 1 F.2.1 := (ehE17.1 3 1 F.2.1 hI.top.2.1).1 (by decide)
        have g20 : H12.1 3 3 F.2.1 = H.1 3 3 F.2.1 := (ehE17.1 3 3 F.2.1 hI.top.2.1).1 (by decide)
        have t21 : T14 6 q5 := shS16 _ _ t6
        have t22 : T14 10 F.1 := shS16 _ _ hI.top.1
        obtain rfl := hv
        try dsimp only [Option.toList, List.append, List.cons_append, List.nil_append]
        have hd : 0 ≤ H12.1 6 11 q5 ∧ H12.1 6 11 q5 ≤ 1 := hI15.v 6 11 q5 t21
        refine J.run0 2 rfl ?_
        try dsimp only
        refine J.inv rfl rfl rfl rfl rfl rfl ((jD_w rfl).mpr (hI15.is t22)) rfl rfl rfl rfl rfl (c_X10_doAll (x := q5) hI15 t21 ) ?_
        rintro v w24 H23 ⟨T25, hI26, shS27, ehE28, hr29, hr29s, hv⟩
        have hr29' : ((w24.2.1 : Nat) : Int) - 2 * H23.1 7 4 F.2.2.1 - 13 * H23.1 3 1 F.2.1 - H23.1 3 3 F.2.1 ≤ ((w13.2.1 : Nat) : Int) - 2 * H12.1 7 4 F.2.2.1 - 13 * H12.1 3 1 F.2.1 - H12.1 3 3 F.2.1 + (1) := hr29
        have hr29s' : ((w24.2.2 : Nat) : Int) - 18 * H23.1 7 4 F.2.2.1 - 700 * H23.1 3 1 F.2.1 - 6 * H23.1 3 3 F.2.1 ≤ ((w13.2.2 : Nat) : Int) - 18 * H12.1 7 4 F.2.2.1 - 700 * H12.1 3 1 F.2.1 - 6 * H12.1 3 3 F.2.1 + 10 * (1) := hr29s
        have hE28 : cEx T [301, 307, 401, 402, 602, 603, 604, 605, 606, 607, 608, 609, 611, 612, 616, 704, 804, 808, 809, 811, 813, 10209, 10507, 20601, 30023, 30024, 30026, 30027, 30031, 30032, 30033, 30034, 30035, 30036, 30037, 30038, 30039, 30043, 40021, 40025, 40028, 40029, 40030] H23 H := cEx.trans ehE28 hE17 hS16 (by decide)
        have hS27 : ∀ k p, T k p → T25 k p := fun k p z => shS27 k p (hS16 k p z)
        have g30 : H23.1 3 3 F.2.1 = H12.1 3 3 F.2.1 := (ehE28.1 3 3 F.2.1 hI15.top.2.1).1 (by decide)
        have t31 : T25 6 q5 := shS27 _ _ t21
        have t32 : T25 10 F.1 := shS27 _ _ t22
        obtain rfl := hv
        try dsimp only [Option.toList, List.append, List.cons_append, List.nil_append]
        refine J.run 2 rfl ⟨(hI26.is t32), (hI26.o 10 1 7 F.1 rfl t32).1⟩ ?_
        try dsimp only
        try dsimp only
        rw [show (H23.2.2.2.2 10 1 F.1) = F.2.2.1 from hI26.one.2.2.1 _ (hI26.o 10 1 7 F.1 rfl t32).2]
        have f33 : 0 ≤ H23.1 7 4 F.2.2.1 ∧ H23.1 7 4 F.2.2.1 ≤ 6000 := hI26.v 7 4 F.2.2.1 hI26.top.2.2.1
        refine J.run 3 rfl (hI26.is hI26.top.2.2.1) ?_
        try dsimp only
        exact J.reti rfl rfl rfl ⟨T25, hI26, hS27, hE28, (show ((w24.2.1 : Nat) : Int) - 2 * H23.1 7 4 F.2.2.1 - 13 * H23.1 3 1 F.2.1 - H23.1 3 3 F.2.1 ≤ ((w.2.1 : Nat) : Int) - 2 * H.1 7 4 F.2.2.1 - 13 * H.1 3 1 F.2.1 - H.1 3 3 F.2.1 + (3) by omega), (show ((w24.2.2 : Nat) : Int) - 18 * H23.1 7 4 F.2.2.1 - 700 * H23.1 3 1 F.2.1 - 6 * H23.1 3 3 F.2.1 ≤ ((w.2.2 : Nat) : Int) - 18 * H.1 7 4 F.2.2.1 - 700 * H.1 3 1 F.2.1 - 6 * H.1 3 3 F.2.1 + 10 * (3) by omega), Or.inl ⟨_, rfl, _, rfl, trivial⟩⟩
  · have c34 : ¬ (¬ (x1 = (0 : Int))) := hc
    clear hc
    exact J.thr rfl rfl rfl rfl ⟨T, hI, hS, hE, (show ((w.2.1 + 1 : Nat) : Int) - 2 * H.1 7 4 F.2.2.1 - 13 * H.1 3 1 F.2.1 - H.1 3 3 F.2.1 ≤ ((w.2.1 : Nat) : Int) - 2 * H.1 7 4 F.2.2.1 - 13 * H.1 3 1 F.2.1 - H.1 3 3 F.2.1 + (3) by omega), (show ((w.2.2 + 6 : Nat) : Int) - 18 * H.1 7 4 F.2.2.1 - 700 * H.1 3 1 F.2.1 - 6 * H.1 3 3 F.2.1 ≤ ((w.2.2 : Nat) : Int) - 18 * H.1 7 4 F.2.2.1 - 700 * H.1 3 1 F.2.1 - 6 * H.1 3 3 F.2.1 + 10 * (3) by omega), Or.inr rfl⟩
end
