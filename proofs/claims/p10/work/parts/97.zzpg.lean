-- M: X10_sync
section
variable {d : Nat} {F : cG} 
set_option maxRecDepth 20000 in
set_option maxHeartbeats 8000000 in
theorem c_X10_sync {n : Int} {b : Int} {T : cP} {w : jW} {H : jH} (hI : cJ F T w H)  (hp0 : -2147483648 ≤ n ∧ n ≤ 2147483647) (hp1 : -2147483648 ≤ b ∧ b ≤ 2147483647) : J false (d + 6) 78 w (0, jargs 0 [.inr (some (10, F.1)), .inl n, .inl b], [], H) (fun o w' H' => ∃ T', cJ F T' w' H' ∧ (∀ k p, T k p → T' k p) ∧ cEx T [301, 307, 401, 402, 602, 603, 604, 605, 606, 607, 608, 609, 611, 612, 616, 704, 804, 808, 809, 811, 813, 10209, 10507, 20601, 30023, 30024, 30026, 30027, 30031, 30032, 30033, 30034, 30035, 30036, 30037, 30038, 30039, 30043, 40021, 40025, 40028, 40029, 40030] H' H ∧ ((w'.2.1 : Nat) : Int) - 2 * H'.1 7 4 F.2.2.1 - 13 * H'.1 3 1 F.2.1 - H'.1 3 3 F.2.1 ≤ ((w.2.1 : Nat) : Int) - 2 * H.1 7 4 F.2.2.1 - 13 * H.1 3 1 F.2.1 - H.1 3 3 F.2.1 + (2) ∧ ((w'.2.2 : Nat) : Int) - 18 * H'.1 7 4 F.2.2.1 - 700 * H'.1 3 1 F.2.1 - 6 * H'.1 3 3 F.2.1 ≤ ((w.2.2 : Nat) : Int) - 18 * H.1 7 4 F.2.2.1 - 700 * H.1 3 1 F.2.1 - 6 * H.1 3 3 F.2.1 + 10 * (2) ∧ ((∃ v, o = .inl v ∧ ∃ rv, v = some (.inl rv) ∧ (True)) ∨ (o = .inr 14))) := by
  have hE : cEx T [301, 307, 401, 402, 602, 603, 604, 605, 606, 607, 608, 609, 611, 612, 616, 704, 804, 808, 809, 811, 813, 10209, 10507, 20601, 30023, 30024, 30026, 30027, 30031, 30032, 30033, 30034, 30035, 30036, 30037, 30038, 30039, 30043, 40021, 40025, 40028, 40029, 40030] H H := cEx.refl
  have hS : ∀ k p, T k p → T k p := fun _ _ z => z
  refine J.run 2 rfl ⟨(hI.is hI.top.1), (hI.o 10 0 3 F.1 rfl hI.top.1).1⟩ ?_
  try dsimp only
  try dsimp only
  rw [show (H.2.2.2.2 10 0 F.1) = F.2.1 from hI.one.2.1 _ (hI.o 10 0 3 F.1 rfl hI.top.1).2]
  refine J.run0 1 rfl ?_
  try dsimp only
  refine J.inv rfl rfl rfl rfl rfl rfl ((jD_w rfl).mpr (hI.is hI.top.2.1)) rfl rfl rfl rfl rfl (c_X3_get (b := b) hI  (show -2147483648 ≤ b ∧ b ≤ 2147483647 from ⟨by omega, by omega⟩)) ?_
  rintro v w H ⟨rfl, rfl, hv⟩
  rcases hv with ⟨rfl, r3⟩ | ⟨q1, rfl, t2, r3⟩
  · skip
    try dsimp only [Option.toList, List.append, List.cons_append, List.nil_append]
    refine J.run0 2 rfl ?_
    try dsimp only
    refine J.ins4 rfl rfl rfl (by decide) rfl rfl rfl rfl rfl (jstP.of rfl) (c_X10_isNode (n := n) hI  (show -2147483648 ≤ n ∧ n ≤ 2147483647 from ⟨by omega, by omega⟩)) ?_
    rintro v w H ⟨rfl, rfl, hv⟩
    obtain ⟨x4, rfl, r5⟩ := hv
    have r5' : (x4 = 0 ∨ x4 = 1) ∧ (x4 = 1 → 0 ≤ n ∧ n ≤ 15) ∧ (x4 = 0 → n < 0 ∨ 15 < n) := r5
    have rL_X10_isNode := r5
    have rL_X10_isNode_10 := r5
    try dsimp only [Option.toList, List.append, List.cons_append, List.nil_append]
    refine J.ifc rfl rfl rfl (show -2147483648 ≤ x4 ∧ x4 ≤ 2147483647 from ⟨by omega, by omega⟩) (fun hc => ?_) (fun hc => ?_)
    · have c6 : x4 = (0 : Int) := hc
      clear hc
      exact J.thr rfl rfl rfl rfl ⟨T, hI, hS, hE, (show ((w.2.1 + 1 : Nat) : Int) - 2 * H.1 7 4 F.2.2.1 - 13 * H.1 3 1 F.2.1 - H.1 3 3 F.2.1 ≤ ((w.2.1 : Nat) : Int) - 2 * H.1 7 4 F.2.2.1 - 13 * H.1 3 1 F.2.1 - H.1 3 3 F.2.1 + (2) by omega), (show ((w.2.2 + 6 : Nat) : Int) - 18 * H.1 7 4 F.2.2.1 - 700 * H.1 3 1 F.2.1 - 6 * H.1 3 3 F.2.1 ≤ ((w.2.2 : Nat) : Int) - 18 * H.1 7 4 F.2.2.1 - 700 * H.1 3 1 F.2.1 - 6 * H.1 3 3 F.2.1 + 10 * (2) by omega), Or.inr rfl⟩
    · have c7 : ¬ (x4 = (0 : Int)) := hc
      clear hc
      refine J.run0 2 rfl ?_
      try dsimp only
      exact J.thr rfl rfl rfl rfl ⟨T, hI, hS, hE, (show ((w.2.1 + 1 : Nat) : Int) - 2 * H.1 7 4 F.2.2.1 - 13 * H.1 3 1 F.2.1 - H.1 3 3 F.2.1 ≤ ((w.2.1 : Nat) : Int) - 2 * H.1 7 4 F.2.2.1 - 13 * H.1 3 1 F.2.1 - H.1 3 3 F.2.1 + (2) by omega), (show ((w.2.2 + 6 : Nat) : Int) - 18 * H.1 7 4 F.2.2.1 - 700 * H.1 3 1 F.2.1 - 6 * H.1 3 3 F.2.1 ≤ ((w.2.2 : Nat) : Int) - 18 * H.1 7 4 F.2.2.1 - 700 * H.1 3 1 F.2.1 - 6 * H.1 3 3 F.2.1 + 10 * (2) by omega), Or.inr rfl⟩
  · skip
    have rL_X3_get_5 := r3
    try dsimp only [Option.toList, List.append, List.cons_append, List.nil_append]
    have f8 : 0 ≤ H.1 0 1 q1 ∧ H.1 0 1 q1 ≤ 299 := hI.v 0 1 q1 t2
    refine J.run0 2 rfl ?_
    try dsimp only
    refine J.ins4 rfl rfl rfl (by decide) rfl rfl rfl rfl rfl (jstP.of rfl) (c_X10_isNode (n := n) hI  (show -2147483648 ≤ n ∧ n ≤ 2147483647 from ⟨by omega, by omega⟩)) ?_
    rintro v w H ⟨rfl, rfl, hv⟩
    obtain ⟨x9, rfl, r10⟩ := hv
    have r10' : (x9 = 0 ∨ x9 = 1) ∧ (x9 = 1 → 0 ≤ n ∧ n ≤ 15) ∧ (x9 = 0 → n < 0 ∨ 15 < n) := r10
    have rL_X10_isNode := r10
    have rL_X10_isNode_10 := r10
    try dsimp only [Option.toList, List.append, List.cons_append, List.nil_append]
    refine J.ifc rfl rfl rfl (show -2147483648 ≤ x9 ∧ x9 ≤ 2147483647 from ⟨by omega, by omega⟩) (fun hc => ?_) (fun hc => ?_)
    · have c11 : x9 = (0 : Int) := hc
      clear hc
      exact J.thr rfl rfl rfl rfl ⟨T, hI, hS, hE, (show ((w.2.1 + 1 : Nat) : Int) - 2 * H.1 7 4 F.2.2.1 - 13 * H.1 3 1 F.2.1 - H.1 3 3 F.2.1 ≤ ((w.2.1 : Nat) : Int) - 2 * H.1 7 4 F.2.2.1 - 13 * H.1 3 1 F.2.1 - H.1 3 3 F.2.1 + (2) by omega), (show ((w.2.2 + 6 : Nat) : Int) - 18 * H.1 7 4 F.2.2.1 - 700 * H.1 3 1 F.2.1 - 6 * H.1 3 3 F.2.1 ≤ ((w.2.2 : Nat) : Int) - 18 * H.1 7 4 F.2.2.1 - 700 * H.1 3 1 F.2.1 - 6 * H.1 3 3 F.2.1 + 10 * (2) by omega), Or.inr rfl⟩
    · have c12 : ¬ (x9 = (0 : Int)) := hc
      clear hc
      refine J.run 6 rfl ⟨⟨(hI.is hI.top.1), hI.is (hI.r 10 2 40 F.1 rfl hI.top.1)⟩, (show w.1 40 F.1 ∧ 0 ≤ n ∧ n < 16 from ⟨hI.is (hI.r 10 2 40 F.1 rfl hI.top.1), by omega, by omega⟩)⟩ ?_
      try dsimp only
      try dsimp only
      rcases hn13 : H.2.2.2.1 40 F.1 (n) with _ | q14
      · exact absurd hn13 (hI.nd (by omega) (by omega))
      · have t15 : T 6 q14 := hI.a 40 F.1 rfl (hI.r 10 2 40 F.1 rfl hI.top.1) hn13
        refine J.run0 2 rfl ?_
        try dsimp only
        refine J.inv rfl rfl rfl rfl rfl rfl ((jD_w rfl).mpr (hI.is t15)) rfl rfl rfl rfl rfl (c_X6_acts (a0 := q14) hI t15 ) ?_
        rintro v w H ⟨rfl, rfl, hv⟩
        obtain ⟨x16, rfl, r17⟩ := hv
        have r17' : (x16 = 0 ∨ x16 = 1) ∧ (x16 = 1 → H.1 6 11 q14 = 0) ∧ (x16 = 1 → H.1 0 1 (H.2.2.2.2 6 1 q14) < 120) := r17
        have rL_X6_acts := r17
        have rL_X6_acts_40 := r17
        try dsimp only [Option.toList, List.append, List.cons_append, List.nil_append]
        refine J.ifc rfl rfl rfl (show -2147483648 ≤ x16 ∧ x16 ≤ 2147483647 from ⟨by omega, by omega⟩) (fun hc => ?_) (fun hc => ?_)
        · have c18 : x16 = (0 : Int) := hc
          clear hc
          refine J.run0 1 rfl ?_
          try dsimp only
          refine J.inv rfl rfl rfl rfl rfl rfl ((jD_w rfl).mpr (hI.is t15)) rfl rfl rfl rfl rfl (c_X6_height (a0 := q14) hI t15 ) ?_
          rintro v w H ⟨rfl, rfl, hv⟩
          obtain ⟨x19, rfl, r20⟩ := hv
          have r20' : x19 = H.1 0 1 (H.2.2.2.2 6 1 q14) + 1 ∧ 1 ≤ x19 ∧ x19 ≤ 300 := r20
          have rL_X6_height := r20
          have rL_X6_height_79 := r20
          try dsimp only [Option.toList, List.append, List.cons_append, List.nil_append]
          exact J.reti rfl rfl rfl ⟨T, hI, hS, hE, (show ((w.2.1 : Nat) : Int) - 2 * H.1 7 4 F.2.2.1 - 13 * H.1 3 1 F.2.1 - H.1 3 3 F.2.1 ≤ ((w.2.1 : Nat) : Int) - 2 * H.1 7 4 F.2.2.1 - 13 * H.1 3 1 F.2.1 - H.1 3 3 F.2.1 + (2) by omega), (show ((w.2.2 : Nat) : Int) - 18 * H.1 7 4 F.2.2.1 - 700 * H.1 3 1 F.2.1 - 6 * H.1 3 3 F.2.1 ≤ ((w.2.2 : Nat) : Int) - 18 * H.1 7 4 F.2.2.1 - 700 * H.1 3 1 F.2.1 - 6 * H.1 3 3 F.2.1 + 10 * (2) by omega), Or.inl ⟨_, rfl, _, rfl, trivial⟩⟩
        · have c21 : ¬ (x16 = (0 : Int)) := hc
          clear hc
          refine J.run0 2 rfl ?_
          try dsimp only
          refine J.inv rfl rfl rfl rfl rfl rfl ((jD_w rfl).mpr (hI.is t15)) rfl rfl rfl rfl rfl (c_X6_isGood (a0 := q14) (b := some q1) hI t15 (fun _ z => by cases z; exact t2) ) ?_
          rintro v w H ⟨rfl, rfl, hv⟩
          obtain ⟨x22, rfl, r23⟩ := hv
          have r23' : (x22 = 0 ∨ x22 = 1) ∧ (x22 = 1 → (some q1) ≠ none) := r23
          have rL_X6_isGood := r23
          have rL_X6_isGood_49 := r23
          try dsimp only [Option.toList, List.append, List.cons_append, List.nil_append]
          refine J.ifc rfl rfl rfl (show -2147483648 ≤ x22 ∧ x22 ≤ 2147483647 from ⟨by omega, by omega⟩) (fun hc => ?_) (fun hc => ?_)
          · have c24 : x22 = (0 : Int) := hc
            clear hc
            refine J.run0 1 rfl ?_
            try dsimp only
            refine J.inv rfl rfl rfl rfl rfl rfl ((jD_w rfl).mpr (hI.is t15)) rfl rfl rfl rfl rfl (c_X6_height (a0 := q14) hI t15 ) ?_
            rintro v w H ⟨rfl, rfl, hv⟩
            obtain ⟨x25, rfl, r26⟩ := hv
            have r26' : x25 = H.1 0 1 (H.2.2.2.2 6 1 q14) + 1 ∧ 1 ≤ x25 ∧ x25 ≤ 300 := r26
            have rL_X6_height := r26
            have rL_X6_height_79 := r26
            try dsimp only [Option.toList, List.append, List.cons_append, List.nil_append]
            exact J.reti rfl rfl rfl ⟨T, hI, hS, hE, (show ((w.2.1 : Nat) : Int) - 2 * H.1 7 4 F.2.2.1 - 13 * H.1 3 1 F.2.1 - H.1 3 3 F.2.1 ≤ ((w.2.1 : Nat) : Int) - 2 * H.1 7 4 F.2.2.1 - 13 * H.1 3 1 F.2.1 - H.1 3 3 F.2.1 + (2) by omega), (show ((w.2.2 : Nat) : Int) - 18 * H.1 7 4 F.2.2.1 - 700 * H.1 3 1 F.2.1 - 6 * H.1 3 3 F.2.1 ≤ ((w.2.2 : Nat) : Int) - 18 * H.1 7 4 F.2.2.1 - 700 * H.1 3 1 F.2.1 - 6 * H.1 3 3 F.2.1 + 10 * (2) by omega), Or.inl ⟨_, rfl, _, rfl, trivial⟩⟩
          · have c27 : ¬ (x22 = (0 : Int)) := hc
            clear hc
            refine J.run0 3 rfl ?_
            try dsimp only
            refine J.inv rfl rfl rfl rfl rfl rfl ((jD_w rfl).mpr (hI.is hI.top.1)) rfl rfl rfl rfl rfl (c_X10_isCertified (b := q1) (x := q14) hI t2 t15 ) ?_
            rintro v w H ⟨rfl, rfl, hv⟩
            obtain ⟨x28, rfl, r29⟩ := hv
            have r29' : x28 = 0 ∨ x28 = 1 := r29
            have rL_X10_isCertified := r29
            have rL_X10_isCertified_59 := r29
            try dsimp only [Option.toList, List.append, List.cons_append, List.nil_append]
            refine J.ifc rfl rfl rfl (show -2147483648 ≤ x28 ∧ x28 ≤ 2147483647 from ⟨by omega, by omega⟩) (fun hc => ?_) (fun hc => ?_)
            · have c30 : x28 = (0 : Int) := hc
              clear hc
              refine J.run0 1 rfl ?_
              try dsimp only
              refine J.inv rfl rfl rfl rfl rfl rfl ((jD_w rfl).mpr (hI.is t15)) rfl rfl rfl rfl rfl (c_X6_height (a0 := q14) hI t15 ) ?_
              rintro v w H ⟨rfl, rfl, hv⟩
              obtain ⟨x31, rfl, r32⟩ := hv
              have r32' : x31 = H.1 0 1 (H.2.2.2.2 6 1 q14) + 1 ∧ 1 ≤ x31 ∧ x31 ≤ 300 := r32
              have rL_X6_height := r32
              have rL_X6_height_79 := r32
              try dsimp only [Option.toList, List.append, List.cons_append, List.nil_append]
              exact J.reti rfl rfl rfl ⟨T, hI, hS, hE, (show ((w.2.1 : Nat) : Int) - 2 * H.1 7 4 F.2.2.1 - 13 * H.1 3 1 F.2.1 - H.1 3 3 F.2.1 ≤ ((w.2.1 : Nat) : Int) - 2 * H.1 7 4 F.2.2.1 - 13 * H.1 3 1 F.2.1 - H.1 3 3 F.2.1 + (2) by omega), (show ((w.2.2 : Nat) : Int) - 18 * H.1 7 4 F.2.2.1 - 700 * H.1 3 1 F.2.1 - 6 * H.1 3 3 F.2.1 ≤ ((w.2.2 : Nat) : Int) - 18 * H.1 7 4 F.2.2.1 - 700 * H.1 3 1 F.2.1 - 6 * H.1 3 3 F.2.1 + 10 * (2) by omega), Or.inl ⟨_, rfl, _, rfl, trivial⟩⟩
            · have c33 : ¬ (x28 = (0 : Int)) := hc
              clear hc
              refine J.run0 2 rfl ?_
              try dsimp only
              refine J.inv rfl rfl rfl rfl rfl rfl ((jD_w rfl).mpr (hI.is t15)) rfl rfl rfl rfl rfl (c_X6_adopt (a0 := q14) (b := q1) hI t15 t2 ) ?_
              rintro v w35 H34 ⟨T36, hI37, shS38, ehE39, hr40, hr40s, hv⟩
              have hr40' : ((w35.2.1 : Nat) : Int) - 2 * H34.1 7 4 F.2.2.1 - 13 * H34.1 3 1 F.2.1 - H34.1 3 3 F.2.1 ≤ ((w.2.1 : Nat) : Int) - 2 * H.1 7 4 F.2.2.1 - 13 * H.1 3 1 F.2.1 - H.1 3 3 F.2.1 + (0) := hr40
              have hr40s' : ((w35.2.2 : Nat) : Int) - 18 * H34.1 7 4 F.2.2.1 - 700 * H34.1 3 1 F.2.1 - 6 * H34.1 3 3 F.2.1 ≤ ((w.2.2 : Nat) : Int) - 18 * H.1 7 4 F.2.2.1 - 700 * H.1 3 1 F.2.1 - 6 * H.1 3 3 F.2.1 + 10 * (0) := hr40s
              have hE39 : cEx T [301, 307, 401, 402, 602, 603, 604, 605, 606, 607, 608, 609, 611, 612, 616, 704, 804, 808, 809, 811, 813, 10209, 10507, 20601, 30023, 30024, 30026, 30027, 30031, 30032, 30033, 30034, 30035, 30036, 30037, 30038, 30039, 30043, 40021, 40025, 40028, 40029, 40030] H34 H := cEx.trans ehE39 hE hS (by decide)
              have hS38 : ∀ k p, T k p → T36 k p := fun k p z => shS38 k p (hS k p z)
              have g41 : H34.1 7 4 F.2.2.1 = H.1 7 4 F.2.2.1 := (ehE39.1 7 4 F.2.2.1 hI.top.2.2.1).1 (by decide)
              have g42 : H34.1 3 1 F.2.1 = H.1 3 1 F.2.1 := (ehE39.1 3 1 F.2.1 hI.top.2.1).1 (by decide)
              have g43 : H34.1 3 3 F.2.1 = H.1 3 3 F.2.1 := (ehE39.1 3 3 F.2.1 hI.top.2.1).1 (by decide)
              have t44 : T36 6 q14 := shS38 _ _ t15
              have t45 : T36 0 q1 := shS38 _ _ t2
              have t46 : T36 10 F.1 := shS38 _ _ hI.top.1
              obtain rfl := hv
              try dsimp only [Option.toList, List.append, List.cons_append, List.nil_append]
              refine J.run0 2 rfl ?_
              try dsimp only
              refine J.inv rfl rfl rfl rfl rfl rfl ((jD_w rfl).mpr (hI37.is t46)) rfl rfl rfl rfl rfl (c_X10_doAll (x := q14) hI37 t44 ) ?_
              rintro v w48 H47 ⟨T49, hI50, shS51, ehE52, hr53, hr53s, hv⟩
              have hr53' : ((w48.2.1 : Nat) : Int) - 2 * H47.1 7 4 F.2.2.1 - 13 * H47.1 3 1 F.2.1 - H47.1 3 3 F.2.1 ≤ ((w35.2.1 : Nat) : Int) - 2 * H34.1 7 4 F.2.2.1 - 13 * H34.1 3 1 F.2.1 - H34.1 3 3 F.2.1 + (1) := hr53
              have hr53s' : ((w48.2.2 : Nat) : Int) - 18 * H47.1 7 4 F.2.2.1 - 700 * H47.1 3 1 F.2.1 - 6 * H47.1 3 3 F.2.1 ≤ ((w35.2.2 : Nat) : Int) - 18 * H34.1 7 4 F.2.2.1 - 700 * H34.1 3 1 F.2.1 - 6 * H34.1 3 3 F.2.1 + 10 * (1) := hr53s
              have hE52 : cEx T [301, 307, 401, 402, 602, 603, 604, 605, 606, 607, 608, 609, 611, 612, 616, 704, 804, 808, 809, 811, 813, 10209, 10507, 20601, 30023, 30024, 30026, 30027, 30031, 30032, 30033, 30034, 30035, 30036, 30037, 30038, 30039, 30043, 40021, 40025, 40028, 40029, 40030] H47 H := cEx.trans ehE52 hE39 hS38 (by decide)
              have hS51 : ∀ k p, T k p → T49 k p := fun k p z => shS51 k p (hS38 k p z)
              have g54 : H47.1 3 3 F.2.1 = H34.1 3 3 F.2.1 := (ehE52.1 3 3 F.2.1 hI37.top.2.1).1 (by decide)
              have t55 : T49 6 q14 := shS51 _ _ t44
              have t56 : T49 0 q1 := shS51 _ _ t45
              have t57 : T49 10 F.1 := shS51 _ _ t46
              obtain rfl := hv
              try dsimp only [Option.toList, List.append, List.cons_append, List.nil_append]
              refine J.run0 1 rfl ?_
              try dsimp only
              refine J.inv rfl rfl rfl rfl rfl rfl ((jD_w rfl).mpr (hI50.is t55)) rfl rfl rfl rfl rfl (c_X6_height (a0 := q14) hI50 t55 ) ?_
              rintro v w48 H47 ⟨rfl, rfl, hv⟩
              obtain ⟨x58, rfl, r59⟩ := hv
              have r59' : x58 = H47.1 0 1 (H47.2.2.2.2 6 1 q14) + 1 ∧ 1 ≤ x58 ∧ x58 ≤ 300 := r59
              have rL_X6_height := r59
              have rL_X6_height_79 := r59
              try dsimp only [Option.toList, List.append, List.cons_append, List.nil_append]
              exact J.reti rfl rfl rfl ⟨T49, hI50, hS51, hE52, (show ((w48.2.1 : Nat) : Int) - 2 * H47.1 7 4 F.2.2.1 - 13 * H47.1 3 1 F.2.1 - H47.1 3 3 F.2.1 ≤ ((w.2.1 : Nat) : Int) - 2 * H.1 7 4 F.2.2.1 - 13 * H.1 3 1 F.2.1 - H.1 3 3 F.2.1 + (2) by omega), (show ((w48.2.2 : Nat) : Int) - 18 * H47.1 7 4 F.2.2.1 - 700 * H47.1 3 1 F.2.1 - 6 * H47.1 3 3 F.2.1 ≤ ((w.2.2 : Nat) : Int) - 18 * H.1 7 4 F.2.2.1 - 700 * H.1 3 1 F.2.1 - 6 * H.1 3 3 F.2.1 + 10 * (2) by omega), Or.inl ⟨_, rfl, _, rfl, trivial⟩⟩
end
