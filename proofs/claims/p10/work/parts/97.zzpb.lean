-- M: X10_deliver
section
variable {d : Nat} {F : cG} 
set_option maxRecDepth 20000 in
set_option maxHeartbeats 8000000 in
theorem c_X10_deliver {m0 : Int} {n : Int} {T : cP} {w : jW} {H : jH} (hI : cJ F T w H)  (hp0 : -2147483648 ≤ m0 ∧ m0 ≤ 2147483647) (hp1 : -2147483648 ≤ n ∧ n ≤ 2147483647) : J false (d + 6) 73 w (0, jargs 0 [.inr (some (10, F.1)), .inl m0, .inl n], [], H) (fun o w' H' => ∃ T', cJ F T' w' H' ∧ (∀ k p, T k p → T' k p) ∧ cEx T [301, 307, 401, 402, 602, 603, 604, 605, 606, 607, 608, 609, 611, 612, 616, 704, 804, 808, 809, 811, 813, 10209, 10507, 20601, 30023, 30024, 30026, 30027, 30031, 30032, 30033, 30034, 30035, 30036, 30037, 30038, 30039, 30043, 40021, 40025, 40028, 40029, 40030] H' H ∧ ((w'.2.1 : Nat) : Int) - 2 * H'.1 7 4 F.2.2.1 - 13 * H'.1 3 1 F.2.1 - H'.1 3 3 F.2.1 ≤ ((w.2.1 : Nat) : Int) - 2 * H.1 7 4 F.2.2.1 - 13 * H.1 3 1 F.2.1 - H.1 3 3 F.2.1 + (1) ∧ ((w'.2.2 : Nat) : Int) - 18 * H'.1 7 4 F.2.2.1 - 700 * H'.1 3 1 F.2.1 - 6 * H'.1 3 3 F.2.1 ≤ ((w.2.2 : Nat) : Int) - 18 * H.1 7 4 F.2.2.1 - 700 * H.1 3 1 F.2.1 - 6 * H.1 3 3 F.2.1 + 10 * (1) ∧ ((∃ v, o = .inl v ∧ ∃ rv, v = some (.inl rv) ∧ (True)) ∨ (o = .inr 14))) := by
  have hE : cEx T [301, 307, 401, 402, 602, 603, 604, 605, 606, 607, 608, 609, 611, 612, 616, 704, 804, 808, 809, 811, 813, 10209, 10507, 20601, 30023, 30024, 30026, 30027, 30031, 30032, 30033, 30034, 30035, 30036, 30037, 30038, 30039, 30043, 40021, 40025, 40028, 40029, 40030] H H := cEx.refl
  have hS : ∀ k p, T k p → T k p := fun _ _ z => z
  refine J.run 2 rfl ⟨(hI.is hI.top.1), (hI.o 10 1 7 F.1 rfl hI.top.1).1⟩ ?_
  try dsimp only
  try dsimp only
  rw [show (H.2.2.2.2 10 1 F.1) = F.2.2.1 from hI.one.2.2.1 _ (hI.o 10 1 7 F.1 rfl hI.top.1).2]
  refine J.run0 1 rfl ?_
  try dsimp only
  refine J.inv rfl rfl rfl rfl rfl rfl ((jD_w rfl).mpr (hI.is hI.top.2.2.1)) rfl rfl rfl rfl rfl (c_X7_get (m0 := m0) hI  (show -2147483648 ≤ m0 ∧ m0 ≤ 2147483647 from ⟨by omega, by omega⟩)) ?_
  rintro v w H ⟨rfl, rfl, hv⟩
  rcases hv with ⟨rfl, r3⟩ | ⟨q1, rfl, t2, r3⟩
  · have r3' : (0 ≤ m0 → m0 < H.1 7 4 F.2.2.1 → H.2.2.2.1 28 F.2.2.1 (m0) = none) := r3
    try dsimp only [Option.toList, List.append, List.cons_append, List.nil_append]
    refine J.run0 3 rfl ?_
    try dsimp only
    exact J.thr rfl rfl rfl rfl ⟨T, hI, hS, hE, (show ((w.2.1 + 1 : Nat) : Int) - 2 * H.1 7 4 F.2.2.1 - 13 * H.1 3 1 F.2.1 - H.1 3 3 F.2.1 ≤ ((w.2.1 : Nat) : Int) - 2 * H.1 7 4 F.2.2.1 - 13 * H.1 3 1 F.2.1 - H.1 3 3 F.2.1 + (1) by omega), (show ((w.2.2 + 6 : Nat) : Int) - 18 * H.1 7 4 F.2.2.1 - 700 * H.1 3 1 F.2.1 - 6 * H.1 3 3 F.2.1 ≤ ((w.2.2 : Nat) : Int) - 18 * H.1 7 4 F.2.2.1 - 700 * H.1 3 1 F.2.1 - 6 * H.1 3 3 F.2.1 + 10 * (1) by omega), Or.inr rfl⟩
  · have r3' : (0 ≤ m0 ∧ m0 < H.1 7 4 F.2.2.1 ∧ H.2.2.2.1 28 F.2.2.1 (m0) = some q1) := r3
    try dsimp only [Option.toList, List.append, List.cons_append, List.nil_append]
    have f4 : 0 ≤ H.1 5 0 q1 ∧ H.1 5 0 q1 ≤ 5999 := hI.v 5 0 q1 t2
    refine J.run0 4 rfl ?_
    try dsimp only
    refine J.ins4 rfl rfl rfl (by decide) rfl rfl rfl rfl rfl (jstP.of rfl) (c_X10_isNode (n := n) hI  (show -2147483648 ≤ n ∧ n ≤ 2147483647 from ⟨by omega, by omega⟩)) ?_
    rintro v w H ⟨rfl, rfl, hv⟩
    obtain ⟨x5, rfl, r6⟩ := hv
    have r6' : (x5 = 0 ∨ x5 = 1) ∧ (x5 = 1 → 0 ≤ n ∧ n ≤ 15) ∧ (x5 = 0 → n < 0 ∨ 15 < n) := r6
    try dsimp only [Option.toList, List.append, List.cons_append, List.nil_append]
    refine J.ifc rfl rfl rfl (show -2147483648 ≤ x5 ∧ x5 ≤ 2147483647 from ⟨by omega, by omega⟩) (fun hc => ?_) (fun hc => ?_)
    · have c7 : ¬ (x5 = (0 : Int)) := hc
      clear hc
      refine J.run 2 rfl ⟨(hI.is hI.top.1), (hI.o 10 1 7 F.1 rfl hI.top.1).1⟩ ?_
      try dsimp only
      try dsimp only
      rw [show (H.2.2.2.2 10 1 F.1) = F.2.2.1 from hI.one.2.2.1 _ (hI.o 10 1 7 F.1 rfl hI.top.1).2]
      have f8 : 0 ≤ H.1 7 4 F.2.2.1 ∧ H.1 7 4 F.2.2.1 ≤ 6000 := hI.v 7 4 F.2.2.1 hI.top.2.2.1
      refine J.run 8 rfl ⟨(hI.is hI.top.2.2.1), ⟨(hI.is hI.top.1), hI.is (hI.r 10 2 40 F.1 rfl hI.top.1)⟩, (show w.1 40 F.1 ∧ 0 ≤ n ∧ n < 16 from ⟨hI.is (hI.r 10 2 40 F.1 rfl hI.top.1), by omega, by omega⟩)⟩ ?_
      try dsimp only
      try dsimp only
      rcases hn9 : H.2.2.2.1 40 F.1 (n) with _ | q10
      · exact absurd hn9 (hI.nd (by omega) (by omega))
      · have t11 : T 6 q10 := hI.a 40 F.1 rfl (hI.r 10 2 40 F.1 rfl hI.top.1) hn9
        refine J.inv rfl rfl rfl rfl rfl rfl ((jD_w rfl).mpr (hI.is hI.top.1)) rfl rfl rfl rfl rfl (c_X10_comesAnew (m0 := some q1) (x := q10) hI (fun _ z => by cases z; exact t2) t11 ) ?_
        rintro v w13 H12 ⟨T14, hI15, shS16, ehE17, hr18, hr18s, hv⟩
        have hr18' : ((w13.2.1 : Nat) : Int) - 2 * H12.1 7 4 F.2.2.1 - 13 * H12.1 3 1 F.2.1 - H12.1 3 3 F.2.1 ≤ ((w.2.1 : Nat) : Int) - 2 * H.1 7 4 F.2.2.1 - 13 * H.1 3 1 F.2.1 - H.1 3 3 F.2.1 + (0) := hr18
        have hr18s' : ((w13.2.2 : Nat) : Int) - 18 * H12.1 7 4 F.2.2.1 - 700 * H12.1 3 1 F.2.1 - 6 * H12.1 3 3 F.2.1 ≤ ((w.2.2 : Nat) : Int) - 18 * H.1 7 4 F.2.2.1 - 700 * H.1 3 1 F.2.1 - 6 * H.1 3 3 F.2.1 + 10 * (0) := hr18s
        have hE17 : cEx T [301, 307, 401, 402, 602, 603, 604, 605, 606, 607, 608, 609, 611, 612, 616, 704, 804, 808, 809, 811, 813, 10209, 10507, 20601, 30023, 30024, 30026, 30027, 30031, 30032, 30033, 30034, 30035, 30036, 30037, 30038, 30039, 30043, 40021, 40025, 40028, 40029, 40030] H12 H := cEx.trans ehE17 hE hS (by decide)
        have hS16 : ∀ k p, T k p → T14 k p := fun k p z => shS16 k p (hS k p z)
        have g19 : H12.1 7 4 F.2.2.1 = H.1 7 4 F.2.2.1 := (ehE17.1 7 4 F.2.2.1 hI.top.2.2.1).1 (by decide)
        have g20 : H12.1 3 1 F.2.1 = H.1 3 1 F.2.1 := (ehE17.1 3 1 F.2.1 hI.top.2.1).1 (by decide)
        have g21 : H12.1 3 3 F.2.1 = H.1 3 3 F.2.1 := (ehE17.1 3 3 F.2.1 hI.top.2.1).1 (by decide)
        have t22 : T14 5 q1 := shS16 _ _ t2
        have t23 : T14 10 F.1 := shS16 _ _ hI.top.1
        obtain ⟨x24, rfl, r25⟩ := hv
        have r25' : x24 = 0 ∨ x24 = 1 := r25
        try dsimp only [Option.toList, List.append, List.cons_append, List.nil_append]
        refine J.ifc rfl rfl rfl (show -2147483648 ≤ x24 ∧ x24 ≤ 2147483647 from ⟨by omega, by omega⟩) (fun hc => ?_) (fun hc => ?_)
        · have c26 : x24 = (0 : Int) := hc
          clear hc
          refine J.run 2 rfl ⟨(hI15.is t23), (hI15.o 10 1 7 F.1 rfl t23).1⟩ ?_
          try dsimp only
          try dsimp only
          rw [show (H12.2.2.2.2 10 1 F.1) = F.2.2.1 from hI15.one.2.2.1 _ (hI15.o 10 1 7 F.1 rfl t23).2]
          have f27 : 0 ≤ H12.1 7 4 F.2.2.1 ∧ H12.1 7 4 F.2.2.1 ≤ 6000 := hI15.v 7 4 F.2.2.1 hI15.top.2.2.1
          refine J.run 3 rfl (hI15.is hI15.top.2.2.1) ?_
          try dsimp only
          exact J.reti rfl rfl rfl ⟨T14, hI15, hS16, hE17, (show ((w13.2.1 : Nat) : Int) - 2 * H12.1 7 4 F.2.2.1 - 13 * H12.1 3 1 F.2.1 - H12.1 3 3 F.2.1 ≤ ((w.2.1 : Nat) : Int) - 2 * H.1 7 4 F.2.2.1 - 13 * H.1 3 1 F.2.1 - H.1 3 3 F.2.1 + (1) by omega), (show ((w13.2.2 : Nat) : Int) - 18 * H12.1 7 4 F.2.2.1 - 700 * H12.1 3 1 F.2.1 - 6 * H12.1 3 3 F.2.1 ≤ ((w.2.2 : Nat) : Int) - 18 * H.1 7 4 F.2.2.1 - 700 * H.1 3 1 F.2.1 - 6 * H.1 3 3 F.2.1 + 10 * (1) by omega), Or.inl ⟨_, rfl, _, rfl, trivial⟩⟩
        · have c28 : ¬ (x24 = (0 : Int)) := hc
          clear hc
          refine J.run 5 rfl ⟨⟨(hI15.is t23), hI15.is (hI15.r 10 2 40 F.1 rfl t23)⟩, (show w13.1 40 F.1 ∧ 0 ≤ n ∧ n < 16 from ⟨hI15.is (hI15.r 10 2 40 F.1 rfl t23), by omega, by omega⟩)⟩ ?_
          try dsimp only
          try dsimp only
          rcases hn29 : H12.2.2.2.1 40 F.1 (n) with _ | q30
          · exact absurd hn29 (hI15.nd (by omega) (by omega))
          · have t31 : T14 6 q30 := hI15.a 40 F.1 rfl (hI15.r 10 2 40 F.1 rfl t23) hn29
            refine J.inv rfl rfl rfl rfl rfl rfl ((jD_w rfl).mpr (hI15.is t23)) rfl rfl rfl rfl rfl (c_X10_doAll (x := q30) hI15 t31 ) ?_
            rintro v w33 H32 ⟨T34, hI35, shS36, ehE37, hr38, hr38s, hv⟩
            have hr38' : ((w33.2.1 : Nat) : Int) - 2 * H32.1 7 4 F.2.2.1 - 13 * H32.1 3 1 F.2.1 - H32.1 3 3 F.2.1 ≤ ((w13.2.1 : Nat) : Int) - 2 * H12.1 7 4 F.2.2.1 - 13 * H12.1 3 1 F.2.1 - H12.1 3 3 F.2.1 + (1) := hr38
            have hr38s' : ((w33.2.2 : Nat) : Int) - 18 * H32.1 7 4 F.2.2.1 - 700 * H32.1 3 1 F.2.1 - 6 * H32.1 3 3 F.2.1 ≤ ((w13.2.2 : Nat) : Int) - 18 * H12.1 7 4 F.2.2.1 - 700 * H12.1 3 1 F.2.1 - 6 * H12.1 3 3 F.2.1 + 10 * (1) := hr38s
            have hE37 : cEx T [301, 307, 401, 402, 602, 603, 604, 605, 606, 607, 608, 609, 611, 612, 616, 704, 804, 808, 809, 811, 813, 10209, 10507, 20601, 30023, 30024, 30026, 30027, 30031, 30032, 30033, 30034, 30035, 30036, 30037, 30038, 30039, 30043, 40021, 40025, 40028, 40029, 40030] H32 H := cEx.trans ehE37 hE17 hS16 (by decide)
            have hS36 : ∀ k p, T k p → T34 k p := fun k p z => shS36 k p (hS16 k p z)
            have g39 : H32.1 3 3 F.2.1 = H12.1 3 3 F.2.1 := (ehE37.1 3 3 F.2.1 hI15.top.2.1).1 (by decide)
            have t40 : T34 5 q1 := shS36 _ _ t22
            have t41 : T34 10 F.1 := shS36 _ _ t23
            obtain rfl := hv
            try dsimp only [Option.toList, List.append, List.cons_append, List.nil_append]
            refine J.run 2 rfl ⟨(hI35.is t41), (hI35.o 10 1 7 F.1 rfl t41).1⟩ ?_
            try dsimp only
            try dsimp only
            rw [show (H32.2.2.2.2 10 1 F.1) = F.2.2.1 from hI35.one.2.2.1 _ (hI35.o 10 1 7 F.1 rfl t41).2]
            have f42 : 0 ≤ H32.1 7 4 F.2.2.1 ∧ H32.1 7 4 F.2.2.1 ≤ 6000 := hI35.v 7 4 F.2.2.1 hI35.top.2.2.1
            refine J.run 3 rfl (hI35.is hI35.top.2.2.1) ?_
            try dsimp only
            exact J.reti rfl rfl rfl ⟨T34, hI35, hS36, hE37, (show ((w33.2.1 : Nat) : Int) - 2 * H32.1 7 4 F.2.2.1 - 13 * H32.1 3 1 F.2.1 - H32.1 3 3 F.2.1 ≤ ((w.2.1 : Nat) : Int) - 2 * H.1 7 4 F.2.2.1 - 13 * H.1 3 1 F.2.1 - H.1 3 3 F.2.1 + (1) by omega), (show ((w33.2.2 : Nat) : Int) - 18 * H32.1 7 4 F.2.2.1 - 700 * H32.1 3 1 F.2.1 - 6 * H32.1 3 3 F.2.1 ≤ ((w.2.2 : Nat) : Int) - 18 * H.1 7 4 F.2.2.1 - 700 * H.1 3 1 F.2.1 - 6 * H.1 3 3 F.2.1 + 10 * (1) by omega), Or.inl ⟨_, rfl, _, rfl, trivial⟩⟩
    · have c43 : ¬ (¬ (x5 = (0 : Int))) := hc
      clear hc
      exact J.thr rfl rfl rfl rfl ⟨T, hI, hS, hE, (show ((w.2.1 + 1 : Nat) : Int) - 2 * H.1 7 4 F.2.2.1 - 13 * H.1 3 1 F.2.1 - H.1 3 3 F.2.1 ≤ ((w.2.1 : Nat) : Int) - 2 * H.1 7 4 F.2.2.1 - 13 * H.1 3 1 F.2.1 - H.1 3 3 F.2.1 + (1) by omega), (show ((w.2.2 + 6 : Nat) : Int) - 18 * H.1 7 4 F.2.2.1 - 700 * H.1 3 1 F.2.1 - 6 * H.1 3 3 F.2.1 ≤ ((w.2.2 : Nat) : Int) - 18 * H.1 7 4 F.2.2.1 - 700 * H.1 3 1 F.2.1 - 6 * H.1 3 3 F.2.1 + 10 * (1) by omega), Or.inr rfl⟩
end
