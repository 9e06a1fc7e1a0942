-- M: X10_comesAnew
section
variable {d : Nat} {F : cG} 
set_option maxRecDepth 20000 in
set_option maxHeartbeats 8000000 in
theorem c_X10_comesAnew {m0 : Option Nat} {x : Nat} {T : cP} {w : jW} {H : jH} (hI : cJ F T w H) (ta0 : ∀ q, m0 = some q → T 5 q) (ta1 : T 6 x)  : J false (d + 2) 88 w (0, jargs 0 [.inr (some (10, F.1)), .inr ((m0).map fun q => (5, q)), .inr (some (6, x))], [], H) (jN fun v w' H' => ∃ T', cJ F T' w' H' ∧ (∀ k p, T k p → T' k p) ∧ cEx T [30026, 30027, 616] H' H ∧ ((w'.2.1 : Nat) : Int) - 2 * H'.1 7 4 F.2.2.1 - 13 * H'.1 3 1 F.2.1 - H'.1 3 3 F.2.1 ≤ ((w.2.1 : Nat) : Int) - 2 * H.1 7 4 F.2.2.1 - 13 * H.1 3 1 F.2.1 - H.1 3 3 F.2.1 + (0) ∧ ((w'.2.2 : Nat) : Int) - 18 * H'.1 7 4 F.2.2.1 - 700 * H'.1 3 1 F.2.1 - 6 * H'.1 3 3 F.2.1 ≤ ((w.2.2 : Nat) : Int) - 18 * H.1 7 4 F.2.2.1 - 700 * H.1 3 1 F.2.1 - 6 * H.1 3 3 F.2.1 + 10 * (0) ∧ ∃ rv, v = some (.inl rv) ∧ (rv = 0 ∨ rv = 1)) := by
  have hE : cEx T [30026, 30027, 616] H H := cEx.refl
  have hS : ∀ k p, T k p → T k p := fun _ _ z => z
  rcases m0 with _ | m0
  · skip
    refine J.run0 3 rfl ?_
    try dsimp only
    exact J.retb rfl rfl rfl (show (0 : Int) = 0 ∨ (0 : Int) = 1 by omega) ⟨_, rfl, T, hI, hS, hE, (show ((w.2.1 : Nat) : Int) - 2 * H.1 7 4 F.2.2.1 - 13 * H.1 3 1 F.2.1 - H.1 3 3 F.2.1 ≤ ((w.2.1 : Nat) : Int) - 2 * H.1 7 4 F.2.2.1 - 13 * H.1 3 1 F.2.1 - H.1 3 3 F.2.1 + (0) by omega), (show ((w.2.2 : Nat) : Int) - 18 * H.1 7 4 F.2.2.1 - 700 * H.1 3 1 F.2.1 - 6 * H.1 3 3 F.2.1 ≤ ((w.2.2 : Nat) : Int) - 18 * H.1 7 4 F.2.2.1 - 700 * H.1 3 1 F.2.1 - 6 * H.1 3 3 F.2.1 + 10 * (0) by omega), _, rfl, (show ((0 : Int)) = 0 ∨ ((0 : Int)) = 1 from by omega)⟩
  · have t1 : T 5 m0 := ta0 _ rfl
    have f2 : 0 ≤ H.1 6 11 x ∧ H.1 6 11 x ≤ 1 := hI.v 6 11 x ta1
    refine J.run 4 rfl (hI.is ta1) ?_
    try dsimp only
    refine J.ifc rfl rfl rfl (show -2147483648 ≤ H.1 6 11 x ∧ H.1 6 11 x ≤ 2147483647 from ⟨by omega, by omega⟩) (fun hc => ?_) (fun hc => ?_)
    · have c3 : ¬ (H.1 6 11 x = (0 : Int)) := hc
      clear hc
      refine J.run0 1 rfl ?_
      try dsimp only
      exact J.retb rfl rfl rfl (show (0 : Int) = 0 ∨ (0 : Int) = 1 by omega) ⟨_, rfl, T, hI, hS, hE, (show ((w.2.1 : Nat) : Int) - 2 * H.1 7 4 F.2.2.1 - 13 * H.1 3 1 F.2.1 - H.1 3 3 F.2.1 ≤ ((w.2.1 : Nat) : Int) - 2 * H.1 7 4 F.2.2.1 - 13 * H.1 3 1 F.2.1 - H.1 3 3 F.2.1 + (0) by omega), (show ((w.2.2 : Nat) : Int) - 18 * H.1 7 4 F.2.2.1 - 700 * H.1 3 1 F.2.1 - 6 * H.1 3 3 F.2.1 ≤ ((w.2.2 : Nat) : Int) - 18 * H.1 7 4 F.2.2.1 - 700 * H.1 3 1 F.2.1 - 6 * H.1 3 3 F.2.1 + 10 * (0) by omega), _, rfl, (show ((0 : Int)) = 0 ∨ ((0 : Int)) = 1 from by omega)⟩
    · have c4 : ¬ (¬ (H.1 6 11 x = (0 : Int))) := hc
      clear hc
      refine J.run0 2 rfl ?_
      try dsimp only
      refine J.inv rfl rfl rfl rfl rfl rfl ((jD_w rfl).mpr (hI.is ta1)) rfl rfl rfl rfl rfl (c_X6_hasHeard (a0 := x) (m0 := m0) hI ta1 t1 ) ?_
      rintro v w H ⟨rfl, rfl, hv⟩
      obtain ⟨x5, rfl, r6⟩ := hv
      have r6' : x5 = 0 ∨ x5 = 1 := r6
      try dsimp only [Option.toList, List.append, List.cons_append, List.nil_append]
      refine J.ifc rfl rfl rfl (show -2147483648 ≤ x5 ∧ x5 ≤ 2147483647 from ⟨by omega, by omega⟩) (fun hc => ?_) (fun hc => ?_)
      · have c7 : x5 = (0 : Int) := hc
        clear hc
        refine J.run 4 rfl ⟨(hI.is hI.top.1), (hI.o 10 1 7 F.1 rfl hI.top.1).1⟩ ?_
        try dsimp only
        try dsimp only
        rw [show (H.2.2.2.2 10 1 F.1) = F.2.2.1 from hI.one.2.2.1 _ (hI.o 10 1 7 F.1 rfl hI.top.1).2]
        have f8 : 0 ≤ H.1 5 3 m0 ∧ H.1 5 3 m0 ≤ 120 := hI.v 5 3 m0 t1
        have f9 : 0 ≤ H.1 5 4 m0 ∧ H.1 5 4 m0 ≤ 31 := hI.v 5 4 m0 t1
        refine J.run 4 rfl ⟨(hI.is t1), (hI.is t1)⟩ ?_
        try dsimp only
        refine J.inv rfl rfl rfl rfl rfl rfl ((jD_w rfl).mpr (hI.is hI.top.2.2.1)) rfl rfl rfl rfl rfl (c_X7_firstOf (height := H.1 5 3 m0) (round := H.1 5 4 m0) hI  (show -2147483648 ≤ (H.1 5 3 m0) ∧ (H.1 5 3 m0) ≤ 2147483647 from ⟨by omega, by omega⟩) (show -2147483648 ≤ (H.1 5 4 m0) ∧ (H.1 5 4 m0) ≤ 2147483647 from ⟨by omega, by omega⟩)) ?_
        rintro v w H ⟨rfl, rfl, hv⟩
        rcases hv with ⟨rfl, r12⟩ | ⟨q10, rfl, t11, r12⟩
        · skip
          try dsimp only [Option.toList, List.append, List.cons_append, List.nil_append]
          refine J.inv rfl rfl rfl rfl rfl rfl ((jD_w rfl).mpr (hI.is ta1)) rfl rfl rfl rfl rfl (c_X6_learn (a0 := x) (m0 := m0) (row := none) hI ta1 t1 (fun _ z => nomatch z) ) ?_
          rintro v w14 H13 ⟨T15, hI16, shS17, ehE18, hr19, hr19s, hv⟩
          have hr19' : ((w14.2.1 : Nat) : Int) - 2 * H13.1 7 4 F.2.2.1 - 13 * H13.1 3 1 F.2.1 - H13.1 3 3 F.2.1 ≤ ((w.2.1 : Nat) : Int) - 2 * H.1 7 4 F.2.2.1 - 13 * H.1 3 1 F.2.1 - H.1 3 3 F.2.1 + (0) := hr19
          have hr19s' : ((w14.2.2 : Nat) : Int) - 18 * H13.1 7 4 F.2.2.1 - 700 * H13.1 3 1 F.2.1 - 6 * H13.1 3 3 F.2.1 ≤ ((w.2.2 : Nat) : Int) - 18 * H.1 7 4 F.2.2.1 - 700 * H.1 3 1 F.2.1 - 6 * H.1 3 3 F.2.1 + 10 * (0) := hr19s
          have hE18 : cEx T [30026, 30027, 616] H13 H := cEx.trans ehE18 hE hS (by decide)
          have hS17 : ∀ k p, T k p → T15 k p := fun k p z => shS17 k p (hS k p z)
          have g20 : H13.1 6 11 x = H.1 6 11 x := (ehE18.1 6 11 x ta1).1 (by decide)
          have g21 : H13.1 5 3 m0 = H.1 5 3 m0 := (ehE18.1 5 3 m0 t1).1 (by decide)
          have g22 : H13.1 5 4 m0 = H.1 5 4 m0 := (ehE18.1 5 4 m0 t1).1 (by decide)
          have g23 : H13.1 7 4 F.2.2.1 = H.1 7 4 F.2.2.1 := (ehE18.1 7 4 F.2.2.1 hI.top.2.2.1).1 (by decide)
          have g24 : H13.1 3 1 F.2.1 = H.1 3 1 F.2.1 := (ehE18.1 3 1 F.2.1 hI.top.2.1).1 (by decide)
          have g25 : H13.1 3 3 F.2.1 = H.1 3 3 F.2.1 := (ehE18.1 3 3 F.2.1 hI.top.2.1).1 (by decide)
          have t26 : T15 10 F.1 := shS17 _ _ hI.top.1
          have t27 : T15 5 m0 := shS17 _ _ t1
          have t28 : T15 6 x := shS17 _ _ ta1
          obtain rfl := hv
          try dsimp only [Option.toList, List.append, List.cons_append, List.nil_append]
          have f29 : 0 ≤ H13.1 5 3 m0 ∧ H13.1 5 3 m0 ≤ 120 := hI16.v 5 3 m0 t27
          refine J.run 3 rfl (hI16.is t27) ?_
          try dsimp only
          refine J.inv rfl rfl rfl rfl rfl rfl ((jD_w rfl).mpr (hI16.is t28)) rfl rfl rfl rfl rfl (c_X6_height (a0 := x) hI16 t28 ) ?_
          rintro v w14 H13 ⟨rfl, rfl, hv⟩
          obtain ⟨x30, rfl, r31⟩ := hv
          have r31' : x30 = H13.1 0 1 (H13.2.2.2.2 6 1 x) + 1 ∧ 1 ≤ x30 ∧ x30 ≤ 300 := r31
          try dsimp only [Option.toList, List.append, List.cons_append, List.nil_append]
          refine J.icmp rfl rfl rfl ⟨(show -2147483648 ≤ H13.1 5 3 m0 ∧ H13.1 5 3 m0 ≤ 2147483647 from ⟨by omega, by omega⟩), (show -2147483648 ≤ x30 ∧ x30 ≤ 2147483647 from ⟨by omega, by omega⟩)⟩ (fun hc => ?_) (fun hc => ?_)
          · have c32 : ¬ (H13.1 5 3 m0 = x30) := hc
            clear hc
            refine J.run0 1 rfl ?_
            try dsimp only
            exact J.retb rfl rfl rfl (show (0 : Int) = 0 ∨ (0 : Int) = 1 by omega) ⟨_, rfl, T15, hI16, hS17, hE18, (show ((w14.2.1 : Nat) : Int) - 2 * H13.1 7 4 F.2.2.1 - 13 * H13.1 3 1 F.2.1 - H13.1 3 3 F.2.1 ≤ ((w.2.1 : Nat) : Int) - 2 * H.1 7 4 F.2.2.1 - 13 * H.1 3 1 F.2.1 - H.1 3 3 F.2.1 + (0) by omega), (show ((w14.2.2 : Nat) : Int) - 18 * H13.1 7 4 F.2.2.1 - 700 * H13.1 3 1 F.2.1 - 6 * H13.1 3 3 F.2.1 ≤ ((w.2.2 : Nat) : Int) - 18 * H.1 7 4 F.2.2.1 - 700 * H.1 3 1 F.2.1 - 6 * H.1 3 3 F.2.1 + 10 * (0) by omega), _, rfl, (show ((0 : Int)) = 0 ∨ ((0 : Int)) = 1 from by omega)⟩
          · have c33 : ¬ (¬ (H13.1 5 3 m0 = x30)) := hc
            clear hc
            refine J.run0 2 rfl ?_
            try dsimp only
            exact J.retb rfl rfl rfl (show (1 : Int) = 0 ∨ (1 : Int) = 1 by omega) ⟨_, rfl, T15, hI16, hS17, hE18, (show ((w14.2.1 : Nat) : Int) - 2 * H13.1 7 4 F.2.2.1 - 13 * H13.1 3 1 F.2.1 - H13.1 3 3 F.2.1 ≤ ((w.2.1 : Nat) : Int) - 2 * H.1 7 4 F.2.2.1 - 13 * H.1 3 1 F.2.1 - H.1 3 3 F.2.1 + (0) by omega), (show ((w14.2.2 : Nat) : Int) - 18 * H13.1 7 4 F.2.2.1 - 700 * H13.1 3 1 F.2.1 - 6 * H13.1 3 3 F.2.1 ≤ ((w.2.2 : Nat) : Int) - 18 * H.1 7 4 F.2.2.1 - 700 * H.1 3 1 F.2.1 - 6 * H.1 3 3 F.2.1 + 10 * (0) by omega), _, rfl, (show ((1 : Int)) = 0 ∨ ((1 : Int)) = 1 from by omega)⟩
        · skip
          try dsimp only [Option.toList, List.append, List.cons_append, List.nil_append]
          have f34 : 0 ≤ H.1 5 0 q10 ∧ H.1 5 0 q10 ≤ 5999 := hI.v 5 0 q10 t11
          refine J.inv rfl rfl rfl rfl rfl rfl ((jD_w rfl).mpr (hI.is ta1)) rfl rfl rfl rfl rfl (c_X6_learn (a0 := x) (m0 := m0) (row := some q10) hI ta1 t1 (fun _ z => by cases z; exact t11) ) ?_
          rintro v w36 H35 ⟨T37, hI38, shS39, ehE40, hr41, hr41s, hv⟩
          have hr41' : ((w36.2.1 : Nat) : Int) - 2 * H35.1 7 4 F.2.2.1 - 13 * H35.1 3 1 F.2.1 - H35.1 3 3 F.2.1 ≤ ((w.2.1 : Nat) : Int) - 2 * H.1 7 4 F.2.2.1 - 13 * H.1 3 1 F.2.1 - H.1 3 3 F.2.1 + (0) := hr41
          have hr41s' : ((w36.2.2 : Nat) : Int) - 18 * H35.1 7 4 F.2.2.1 - 700 * H35.1 3 1 F.2.1 - 6 * H35.1 3 3 F.2.1 ≤ ((w.2.2 : Nat) : Int) - 18 * H.1 7 4 F.2.2.1 - 700 * H.1 3 1 F.2.1 - 6 * H.1 3 3 F.2.1 + 10 * (0) := hr41s
          have hE40 : cEx T [30026, 30027, 616] H35 H := cEx.trans ehE40 hE hS (by decide)
          have hS39 : ∀ k p, T k p → T37 k p := fun k p z => shS39 k p (hS k p z)
          have g42 : H35.1 6 11 x = H.1 6 11 x := (ehE40.1 6 11 x ta1).1 (by decide)
          have g43 : H35.1 5 3 m0 = H.1 5 3 m0 := (ehE40.1 5 3 m0 t1).1 (by decide)
          have g44 : H35.1 5 4 m0 = H.1 5 4 m0 := (ehE40.1 5 4 m0 t1).1 (by decide)
          have g45 : H35.1 7 4 F.2.2.1 = H.1 7 4 F.2.2.1 := (ehE40.1 7 4 F.2.2.1 hI.top.2.2.1).1 (by decide)
          have g46 : H35.1 3 1 F.2.1 = H.1 3 1 F.2.1 := (ehE40.1 3 1 F.2.1 hI.top.2.1).1 (by decide)
          have g47 : H35.1 3 3 F.2.1 = H.1 3 3 F.2.1 := (ehE40.1 3 3 F.2.1 hI.top.2.1).1 (by decide)
          have t48 : T37 10 F.1 := shS39 _ _ hI.top.1
          have t49 : T37 5 m0 := shS39 _ _ t1
          have t50 : T37 6 x := shS39 _ _ ta1
          obtain rfl := hv
          try dsimp only [Option.toList, List.append, List.cons_append, List.nil_append]
          have f51 : 0 ≤ H35.1 5 3 m0 ∧ H35.1 5 3 m0 ≤ 120 := hI38.v 5 3 m0 t49
          refine J.run 3 rfl (hI38.is t49) ?_
          try dsimp only
          refine J.inv rfl rfl rfl rfl rfl rfl ((jD_w rfl).mpr (hI38.is t50)) rfl rfl rfl rfl rfl (c_X6_height (a0 := x) hI38 t50 ) ?_
          rintro v w36 H35 ⟨rfl, rfl, hv⟩
          obtain ⟨x52, rfl, r53⟩ := hv
          have r53' : x52 = H35.1 0 1 (H35.2.2.2.2 6 1 x) + 1 ∧ 1 ≤ x52 ∧ x52 ≤ 300 := r53
          try dsimp only [Option.toList, List.append, List.cons_append, List.nil_append]
          refine J.icmp rfl rfl rfl ⟨(show -2147483648 ≤ H35.1 5 3 m0 ∧ H35.1 5 3 m0 ≤ 2147483647 from ⟨by omega, by omega⟩), (show -2147483648 ≤ x52 ∧ x52 ≤ 2147483647 from ⟨by omega, by omega⟩)⟩ (fun hc => ?_) (fun hc => ?_)
          · have c54 : ¬ (H35.1 5 3 m0 = x52) := hc
            clear hc
            refine J.run0 1 rfl ?_
            try dsimp only
            exact J.retb rfl rfl rfl (show (0 : Int) = 0 ∨ (0 : Int) = 1 by omega) ⟨_, rfl, T37, hI38, hS39, hE40, (show ((w36.2.1 : Nat) : Int) - 2 * H35.1 7 4 F.2.2.1 - 13 * H35.1 3 1 F.2.1 - H35.1 3 3 F.2.1 ≤ ((w.2.1 : Nat) : Int) - 2 * H.1 7 4 F.2.2.1 - 13 * H.1 3 1 F.2.1 - H.1 3 3 F.2.1 + (0) by omega), (show ((w36.2.2 : Nat) : Int) - 18 * H35.1 7 4 F.2.2.1 - 700 * H35.1 3 1 F.2.1 - 6 * H35.1 3 3 F.2.1 ≤ ((w.2.2 : Nat) : Int) - 18 * H.1 7 4 F.2.2.1 - 700 * H.1 3 1 F.2.1 - 6 * H.1 3 3 F.2.1 + 10 * (0) by omega), _, rfl, (show ((0 : Int)) = 0 ∨ ((0 : Int)) = 1 from by omega)⟩
          · have c55 : ¬ (¬ (H35.1 5 3 m0 = x52)) := hc
            clear hc
            refine J.run0 2 rfl ?_
            try dsimp only
            exact J.retb rfl rfl rfl (show (1 : Int) = 0 ∨ (1 : Int) = 1 by omega) ⟨_, rfl, T37, hI38, hS39, hE40, (show ((w36.2.1 : Nat) : Int) - 2 * H35.1 7 4 F.2.2.1 - 13 * H35.1 3 1 F.2.1 - H35.1 3 3 F.2.1 ≤ ((w.2.1 : Nat) : Int) - 2 * H.1 7 4 F.2.2.1 - 13 * H.1 3 1 F.2.1 - H.1 3 3 F.2.1 + (0) by omega), (show ((w36.2.2 : Nat) : Int) - 18 * H35.1 7 4 F.2.2.1 - 700 * H35.1 3 1 F.2.1 - 6 * H35.1 3 3 F.2.1 ≤ ((w.2.2 : Nat) : Int) - 18 * H.1 7 4 F.2.2.1 - 700 * H.1 3 1 F.2.1 - 6 * H.1 3 3 F.2.1 + 10 * (0) by omega), _, rfl, (show ((1 : Int)) = 0 ∨ ((1 : Int)) = 1 from by omega)⟩
      · have c56 : ¬ (x5 = (0 : Int)) := hc
        clear hc
        refine J.run0 1 rfl ?_
        try dsimp only
        exact J.retb rfl rfl rfl (show (0 : Int) = 0 ∨ (0 : Int) = 1 by omega) ⟨_, rfl, T, hI, hS, hE, (show ((w.2.1 : Nat) : Int) - 2 * H.1 7 4 F.2.2.1 - 13 * H.1 3 1 F.2.1 - H.1 3 3 F.2.1 ≤ ((w.2.1 : Nat) : Int) - 2 * H.1 7 4 F.2.2.1 - 13 * H.1 3 1 F.2.1 - H.1 3 3 F.2.1 + (0) by omega), (show ((w.2.2 : Nat) : Int) - 18 * H.1 7 4 F.2.2.1 - 700 * H.1 3 1 F.2.1 - 6 * H.1 3 3 F.2.1 ≤ ((w.2.2 : Nat) : Int) - 18 * H.1 7 4 F.2.2.1 - 700 * H.1 3 1 F.2.1 - 6 * H.1 3 3 F.2.1 + 10 * (0) by omega), _, rfl, (show ((0 : Int)) = 0 ∨ ((0 : Int)) = 1 from by omega)⟩
end
