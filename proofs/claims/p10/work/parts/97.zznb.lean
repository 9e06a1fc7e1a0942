-- M: X3_addGiven
section
variable {d : Nat} {F : cG} 
set_option maxRecDepth 20000 in
set_option maxHeartbeats 8000000 in
theorem c_X3_addGiven {b : Nat} {proposer : Int} {row : Nat} {claim : Int} {T : cP} {w : jW} {H : jH} (hI : cJ F T w H) (ta0 : T 0 b) (ta1 : T 42 row) (hp0 : ∀ i, 0 ≤ i → i < H.1 42 0 row → 0 ≤ H.2.2.1 42 row i ∧ H.2.2.1 42 row i < H.1 3 3 F.2.1) (hp1 : 0 ≤ proposer ∧ proposer ≤ 15) (hp2 : -2147483648 ≤ claim ∧ claim ≤ 2147483647) (hp3 : H.1 3 1 F.2.1 < 300) : J false (d + 3) 18 w (0, jargs 0 [.inr (some (3, F.2.1)), .inr (some (0, b)), .inl proposer, .inr (some (42, row)), .inl claim], [], H) (jN fun v w' H' => ∃ T', cJ F T' w' H' ∧ (∀ k p, T k p → T' k p) ∧ cEx T [301, 307, 804, 808, 809, 811, 813, 30023, 30024, 30032, 30033, 30034, 30035, 30036, 30037, 30038, 30039, 30043, 40021] H' H ∧ ((w'.2.1 : Nat) : Int) - 2 * H'.1 7 4 F.2.2.1 - 13 * H'.1 3 1 F.2.1 - H'.1 3 3 F.2.1 ≤ ((w.2.1 : Nat) : Int) - 2 * H.1 7 4 F.2.2.1 - 13 * H.1 3 1 F.2.1 - H.1 3 3 F.2.1 + (0) ∧ ((w'.2.2 : Nat) : Int) - 18 * H'.1 7 4 F.2.2.1 - 700 * H'.1 3 1 F.2.1 - 6 * H'.1 3 3 F.2.1 ≤ ((w.2.2 : Nat) : Int) - 18 * H.1 7 4 F.2.2.1 - 700 * H.1 3 1 F.2.1 - 6 * H.1 3 3 F.2.1 + 10 * (0) ∧ ∃ rv, v = some (.inl rv) ∧ (0 ≤ rv ∧ rv ≤ 299)) := by
  have hE : cEx T [301, 307, 804, 808, 809, 811, 813, 30023, 30024, 30032, 30033, 30034, 30035, 30036, 30037, 30038, 30039, 30043, 40021] H H := cEx.refl
  have hS : ∀ k p, T k p → T k p := fun _ _ z => z
  refine J.run0 2 rfl ?_
  try dsimp only
  refine J.icmp rfl rfl rfl ⟨(show -2147483648 ≤ claim ∧ claim ≤ 2147483647 from ⟨by omega, by omega⟩), (show -2147483648 ≤ (-1 : Int) ∧ (-1 : Int) ≤ 2147483647 from ⟨by omega, by omega⟩)⟩ (fun hc => ?_) (fun hc => ?_)
  · have c1 : ¬ (claim = (-1 : Int)) := hc
    clear hc
    refine J.run0 1 rfl ?_
    try dsimp only
    refine J.ins4 rfl rfl rfl (by decide) rfl rfl rfl rfl rfl (jstP.of rfl) (c_X3_hundreds (bits := claim) hI  ) ?_
    rintro v w3 H2 ⟨T4, hI5, shS6, ehE7, hr8, hr8s, hv⟩
    have hr8' : ((w3.2.1 : Nat) : Int) - 2 * H2.1 7 4 F.2.2.1 - 13 * H2.1 3 1 F.2.1 - H2.1 3 3 F.2.1 ≤ ((w.2.1 : Nat) : Int) - 2 * H.1 7 4 F.2.2.1 - 13 * H.1 3 1 F.2.1 - H.1 3 3 F.2.1 + (2) := hr8
    have hr8s' : ((w3.2.2 : Nat) : Int) - 18 * H2.1 7 4 F.2.2.1 - 700 * H2.1 3 1 F.2.1 - 6 * H2.1 3 3 F.2.1 ≤ ((w.2.2 : Nat) : Int) - 18 * H.1 7 4 F.2.2.1 - 700 * H.1 3 1 F.2.1 - 6 * H.1 3 3 F.2.1 + 10 * (2) := hr8s
    have hE7 : cEx T [301, 307, 804, 808, 809, 811, 813, 30023, 30024, 30032, 30033, 30034, 30035, 30036, 30037, 30038, 30039, 30043, 40021] H2 H := cEx.trans ehE7 hE hS (by decide)
    have hS6 : ∀ k p, T k p → T4 k p := fun k p z => shS6 k p (hS k p z)
    have g9 : H2.1 7 4 F.2.2.1 = H.1 7 4 F.2.2.1 := (ehE7.1 7 4 F.2.2.1 hI.top.2.2.1).1 (by decide)
    have g10 : H2.1 3 1 F.2.1 = H.1 3 1 F.2.1 := (ehE7.1 3 1 F.2.1 hI.top.2.1).1 (by decide)
    have g11 : H2.1 3 3 F.2.1 = H.1 3 3 F.2.1 := (ehE7.1 3 3 F.2.1 hI.top.2.1).1 (by decide)
    have t12 : T4 3 F.2.1 := shS6 _ _ hI.top.2.1
    have t13 : T4 0 b := shS6 _ _ ta0
    have t14 : T4 42 row := shS6 _ _ ta1
    obtain ⟨q15, rfl, t16, r17⟩ := hv
    try dsimp only [Option.toList, List.append, List.cons_append, List.nil_append]
    refine J.run 3 rfl (hI5.is t13) ?_
    try dsimp only
    try dsimp only
    rcases hn18 : H2.2.1 0 6 b with _ | q19
    · skip
      refine J.run0 4 rfl ?_
      try dsimp only
      refine J.ifc rfl rfl rfl (show -2147483648 ≤ (0 : Int) ∧ (0 : Int) ≤ 2147483647 from ⟨by omega, by omega⟩) (fun hc => ?_) (fun hc => ?_)
      · have c20 : (0 : Int) = (0 : Int) := hc
        clear hc
        refine J.run0 6 rfl ?_
        try dsimp only
        refine J.inv rfl rfl rfl rfl rfl rfl ((jD_w rfl).mpr (hI5.is t12)) rfl rfl rfl rfl rfl (c_X3_add (b := b) (proposer := proposer) (row := row) (cl := q15) (sound := (0 : Int)) hI5 t13 t14 t16 (show H2.1 3 1 F.2.1 < 300 from by omega) (show 0 ≤ (0 : Int) ∧ (0 : Int) ≤ 1 from ⟨by omega, by omega⟩)) ?_
        rintro v w22 H21 ⟨T23, hI24, shS25, ehE26, hr27, hr27s, hv⟩
        have hr27' : ((w22.2.1 : Nat) : Int) - 2 * H21.1 7 4 F.2.2.1 - 13 * H21.1 3 1 F.2.1 - H21.1 3 3 F.2.1 ≤ ((w3.2.1 : Nat) : Int) - 2 * H2.1 7 4 F.2.2.1 - 13 * H2.1 3 1 F.2.1 - H2.1 3 3 F.2.1 + (-2) := hr27
        have hr27s' : ((w22.2.2 : Nat) : Int) - 18 * H21.1 7 4 F.2.2.1 - 700 * H21.1 3 1 F.2.1 - 6 * H21.1 3 3 F.2.1 ≤ ((w3.2.2 : Nat) : Int) - 18 * H2.1 7 4 F.2.2.1 - 700 * H2.1 3 1 F.2.1 - 6 * H2.1 3 3 F.2.1 + 10 * (-2) := hr27s
        have hE26 : cEx T [301, 307, 804, 808, 809, 811, 813, 30023, 30024, 30032, 30033, 30034, 30035, 30036, 30037, 30038, 30039, 30043, 40021] H21 H := cEx.trans ehE26 hE7 hS6 (by decide)
        have hS25 : ∀ k p, T k p → T23 k p := fun k p z => shS25 k p (hS6 k p z)
        have g28 : H21.1 7 4 F.2.2.1 = H2.1 7 4 F.2.2.1 := (ehE26.1 7 4 F.2.2.1 hI5.top.2.2.1).1 (by decide)
        have g29 : H21.1 3 3 F.2.1 = H2.1 3 3 F.2.1 := (ehE26.1 3 3 F.2.1 t12).1 (by decide)
        have t30 : T23 43 q15 := shS25 _ _ t16
        have t31 : T23 3 F.2.1 := shS25 _ _ t12
        have t32 : T23 0 b := shS25 _ _ t13
        have t33 : T23 42 row := shS25 _ _ t14
        obtain ⟨x34, rfl, r35⟩ := hv
        have r35' : 0 ≤ x34 ∧ x34 ≤ 299 := r35
        try dsimp only [Option.toList, List.append, List.cons_append, List.nil_append]
        exact J.reti rfl rfl rfl ⟨_, rfl, T23, hI24, hS25, hE26, (show ((w22.2.1 : Nat) : Int) - 2 * H21.1 7 4 F.2.2.1 - 13 * H21.1 3 1 F.2.1 - H21.1 3 3 F.2.1 ≤ ((w.2.1 : Nat) : Int) - 2 * H.1 7 4 F.2.2.1 - 13 * H.1 3 1 F.2.1 - H.1 3 3 F.2.1 + (0) by omega), (show ((w22.2.2 : Nat) : Int) - 18 * H21.1 7 4 F.2.2.1 - 700 * H21.1 3 1 F.2.1 - 6 * H21.1 3 3 F.2.1 ≤ ((w.2.2 : Nat) : Int) - 18 * H.1 7 4 F.2.2.1 - 700 * H.1 3 1 F.2.1 - 6 * H.1 3 3 F.2.1 + 10 * (0) by omega), _, rfl, (show 0 ≤ (x34) ∧ (x34) ≤ 299 from ⟨by omega, by omega⟩)⟩
      · have c36 : ¬ ((0 : Int) = (0 : Int)) := hc
        clear hc
        exfalso
        omega
    · have t37 : T4 8 q19 := hI5.n 0 6 8 b rfl t13 hn18
      refine J.run0 5 rfl ?_
      try dsimp only
      refine J.ifc rfl rfl rfl (show -2147483648 ≤ (1 : Int) ∧ (1 : Int) ≤ 2147483647 from ⟨by omega, by omega⟩) (fun hc => ?_) (fun hc => ?_)
      · have c38 : (1 : Int) = (0 : Int) := hc
        clear hc
        exfalso
        omega
      · have c39 : ¬ ((1 : Int) = (0 : Int)) := hc
        clear hc
        refine J.run0 2 rfl ?_
        try dsimp only
        refine J.icmp rfl rfl rfl ⟨(show -2147483648 ≤ claim ∧ claim ≤ 2147483647 from ⟨by omega, by omega⟩), (show -2147483648 ≤ (-1 : Int) ∧ (-1 : Int) ≤ 2147483647 from ⟨by omega, by omega⟩)⟩ (fun hc => ?_) (fun hc => ?_)
        · have c40 : ¬ (claim = (-1 : Int)) := hc
          clear hc
          refine J.run 5 rfl (hI5.is t13) ?_
          try dsimp only
          try dsimp only
          rw [hn18]
          refine J.run 1 rfl ⟨(hI5.is t37), (hI5.o 8 12 43 q19 rfl t37).1⟩ ?_
          try dsimp only
          refine J.ins4 rfl rfl rfl (by decide) rfl rfl rfl rfl rfl (jstP.of rfl) (c_X10_isSameRow (one := q15) (two := (H2.2.2.2.2 8 12 q19)) hI5 t16 (hI5.o 8 12 43 q19 rfl t37).2 ) ?_
          rintro v w3 H2 ⟨rfl, rfl, hv⟩
          obtain ⟨x41, rfl, r42⟩ := hv
          have r42' : x41 = 0 ∨ x41 = 1 := r42
          try dsimp only [Option.toList, List.append, List.cons_append, List.nil_append]
          refine J.ifc rfl rfl rfl (show -2147483648 ≤ x41 ∧ x41 ≤ 2147483647 from ⟨by omega, by omega⟩) (fun hc => ?_) (fun hc => ?_)
          · have c43 : x41 = (0 : Int) := hc
            clear hc
            refine J.run0 8 rfl ?_
            try dsimp only
            refine J.inv rfl rfl rfl rfl rfl rfl ((jD_w rfl).mpr (hI5.is t12)) rfl rfl rfl rfl rfl (c_X3_add (b := b) (proposer := proposer) (row := row) (cl := q15) (sound := (0 : Int)) hI5 t13 t14 t16 (show H2.1 3 1 F.2.1 < 300 from by omega) (show 0 ≤ (0 : Int) ∧ (0 : Int) ≤ 1 from ⟨by omega, by omega⟩)) ?_
            rintro v w45 H44 ⟨T46, hI47, shS48, ehE49, hr50, hr50s, hv⟩
            have hr50' : ((w45.2.1 : Nat) : Int) - 2 * H44.1 7 4 F.2.2.1 - 13 * H44.1 3 1 F.2.1 - H44.1 3 3 F.2.1 ≤ ((w3.2.1 : Nat) : Int) - 2 * H2.1 7 4 F.2.2.1 - 13 * H2.1 3 1 F.2.1 - H2.1 3 3 F.2.1 + (-2) := hr50
            have hr50s' : ((w45.2.2 : Nat) : Int) - 18 * H44.1 7 4 F.2.2.1 - 700 * H44.1 3 1 F.2.1 - 6 * H44.1 3 3 F.2.1 ≤ ((w3.2.2 : Nat) : Int) - 18 * H2.1 7 4 F.2.2.1 - 700 * H2.1 3 1 F.2.1 - 6 * H2.1 3 3 F.2.1 + 10 * (-2) := hr50s
            have hE49 : cEx T [301, 307, 804, 808, 809, 811, 813, 30023, 30024, 30032, 30033, 30034, 30035, 30036, 30037, 30038, 30039, 30043, 40021] H44 H := cEx.trans ehE49 hE7 hS6 (by decide)
            have hS48 : ∀ k p, T k p → T46 k p := fun k p z => shS48 k p (hS6 k p z)
            have g51 : H44.1 7 4 F.2.2.1 = H2.1 7 4 F.2.2.1 := (ehE49.1 7 4 F.2.2.1 hI5.top.2.2.1).1 (by decide)
            have g52 : H44.1 3 3 F.2.1 = H2.1 3 3 F.2.1 := (ehE49.1 3 3 F.2.1 t12).1 (by decide)
            have t53 : T46 43 q15 := shS48 _ _ t16
            have t54 : T46 3 F.2.1 := shS48 _ _ t12
            have t55 : T46 0 b := shS48 _ _ t13
            have t56 : T46 42 row := shS48 _ _ t14
            obtain ⟨x57, rfl, r58⟩ := hv
            have r58' : 0 ≤ x57 ∧ x57 ≤ 299 := r58
            try dsimp only [Option.toList, List.append, List.cons_append, List.nil_append]
            exact J.reti rfl rfl rfl ⟨_, rfl, T46, hI47, hS48, hE49, (show ((w45.2.1 : Nat) : Int) - 2 * H44.1 7 4 F.2.2.1 - 13 * H44.1 3 1 F.2.1 - H44.1 3 3 F.2.1 ≤ ((w.2.1 : Nat) : Int) - 2 * H.1 7 4 F.2.2.1 - 13 * H.1 3 1 F.2.1 - H.1 3 3 F.2.1 + (0) by omega), (show ((w45.2.2 : Nat) : Int) - 18 * H44.1 7 4 F.2.2.1 - 700 * H44.1 3 1 F.2.1 - 6 * H44.1 3 3 F.2.1 ≤ ((w.2.2 : Nat) : Int) - 18 * H.1 7 4 F.2.2.1 - 700 * H.1 3 1 F.2.1 - 6 * H.1 3 3 F.2.1 + 10 * (0) by omega), _, rfl, (show 0 ≤ (x57) ∧ (x57) ≤ 299 from ⟨by omega, by omega⟩)⟩
          · have c59 : ¬ (x41 = (0 : Int)) := hc
            clear hc
            refine J.run0 4 rfl ?_
            try dsimp only
            refine J.inv rfl rfl rfl rfl rfl rfl ((jD_w rfl).mpr (hI5.is t12)) rfl rfl rfl rfl rfl (c_X3_isValid (b := b) (proposer := proposer) (row := row) hI5 t13 t14 (show H2.2.1 0 6 b ≠ none by first | exact hp0 | (rw [hn18]; exact (nomatch ·)) | (intro i h0 h1; have e1 := (hE7.1 42 0 row ta1).1 (by decide); have e2 := congrFun ((hE7.2 42 row ta1).1 (by decide)) i; have e3 := (hE7.1 3 3 F.2.1 hI.top.2.1).1 (by decide); have := hp0 i h0 (by omega); omega)) (show ∀ i, 0 ≤ i → i < H2.1 42 0 row → 0 ≤ H2.2.2.1 42 row i ∧ H2.2.2.1 42 row i < H2.1 3 3 F.2.1 by first | exact hp0 | (rw [hn18]; exact (nomatch ·)) | (intro i h0 h1; have e1 := (hE7.1 42 0 row ta1).1 (by decide); have e2 := congrFun ((hE7.2 42 row ta1).1 (by decide)) i; have e3 := (hE7.1 3 3 F.2.1 hI.top.2.1).1 (by decide); have := hp0 i h0 (by omega); omega)) (show 0 ≤ proposer ∧ proposer ≤ 15 from ⟨by omega, by omega⟩)) ?_
            rintro v w61 H60 ⟨T62, hI63, shS64, ehE65, hr66, hr66s, hv⟩
            have hr66' : ((w61.2.1 : Nat) : Int) - 2 * H60.1 7 4 F.2.2.1 - 13 * H60.1 3 1 F.2.1 - H60.1 3 3 F.2.1 ≤ ((w3.2.1 : Nat) : Int) - 2 * H2.1 7 4 F.2.2.1 - 13 * H2.1 3 1 F.2.1 - H2.1 3 3 F.2.1 + (0) := hr66
            have hr66s' : ((w61.2.2 : Nat) : Int) - 18 * H60.1 7 4 F.2.2.1 - 700 * H60.1 3 1 F.2.1 - 6 * H60.1 3 3 F.2.1 ≤ ((w3.2.2 : Nat) : Int) - 18 * H2.1 7 4 F.2.2.1 - 700 * H2.1 3 1 F.2.1 - 6 * H2.1 3 3 F.2.1 + 10 * (0) := hr66s
            have hE65 : cEx T [301, 307, 804, 808, 809, 811, 813, 30023, 30024, 30032, 30033, 30034, 30035, 30036, 30037, 30038, 30039, 30043, 40021] H60 H := cEx.trans ehE65 hE7 hS6 (by decide)
            have hS64 : ∀ k p, T k p → T62 k p := fun k p z => shS64 k p (hS6 k p z)
            have g67 : H60.1 7 4 F.2.2.1 = H2.1 7 4 F.2.2.1 := (ehE65.1 7 4 F.2.2.1 hI5.top.2.2.1).1 (by decide)
            have g68 : H60.1 3 1 F.2.1 = H2.1 3 1 F.2.1 := (ehE65.1 3 1 F.2.1 t12).1 (by decide)
            have g69 : H60.1 3 3 F.2.1 = H2.1 3 3 F.2.1 := (ehE65.1 3 3 F.2.1 t12).1 (by decide)
            have t70 : T62 43 q15 := shS64 _ _ t16
            have t71 : T62 3 F.2.1 := shS64 _ _ t12
            have t72 : T62 0 b := shS64 _ _ t13
            have t73 : T62 42 row := shS64 _ _ t14
            obtain ⟨x74, rfl, r75⟩ := hv
            have r75' : x74 = 0 ∨ x74 = 1 := r75
            try dsimp only [Option.toList, List.append, List.cons_append, List.nil_append]
            refine J.ifc rfl rfl rfl (show -2147483648 ≤ x74 ∧ x74 ≤ 2147483647 from ⟨by omega, by omega⟩) (fun hc => ?_) (fun hc => ?_)
            · have c76 : x74 = (0 : Int) := hc
              clear hc
              refine J.run0 8 rfl ?_
              try dsimp only
              refine J.inv rfl rfl rfl rfl rfl rfl ((jD_w rfl).mpr (hI63.is t71)) rfl rfl rfl rfl rfl (c_X3_add (b := b) (proposer := proposer) (row := row) (cl := q15) (sound := (0 : Int)) hI63 t72 t73 t70 (show H60.1 3 1 F.2.1 < 300 from by omega) (show 0 ≤ (0 : Int) ∧ (0 : Int) ≤ 1 from ⟨by omega, by omega⟩)) ?_
              rintro v w78 H77 ⟨T79, hI80, shS81, ehE82, hr83, hr83s, hv⟩
              have hr83' : ((w78.2.1 : Nat) : Int) - 2 * H77.1 7 4 F.2.2.1 - 13 * H77.1 3 1 F.2.1 - H77.1 3 3 F.2.1 ≤ ((w61.2.1 : Nat) : Int) - 2 * H60.1 7 4 F.2.2.1 - 13 * H60.1 3 1 F.2.1 - H60.1 3 3 F.2.1 + (-2) := hr83
              have hr83s' : ((w78.2.2 : Nat) : Int) - 18 * H77.1 7 4 F.2.2.1 - 700 * H77.1 3 1 F.2.1 - 6 * H77.1 3 3 F.2.1 ≤ ((w61.2.2 : Nat) : Int) - 18 * H60.1 7 4 F.2.2.1 - 700 * H60.1 3 1 F.2.1 - 6 * H60.1 3 3 F.2.1 + 10 * (-2) := hr83s
              have hE82 : cEx T [301, 307, 804, 808, 809, 811, 813, 30023, 30024, 30032, 30033, 30034, 30035, 30036, 30037, 30038, 30039, 30043, 40021] H77 H := cEx.trans ehE82 hE65 hS64 (by decide)
              have hS81 : ∀ k p, T k p → T79 k p := fun k p z => shS81 k p (hS64 k p z)
              have g84 : H77.1 7 4 F.2.2.1 = H60.1 7 4 F.2.2.1 := (ehE82.1 7 4 F.2.2.1 hI63.top.2.2.1).1 (by decide)
              have g85 : H77.1 3 3 F.2.1 = H60.1 3 3 F.2.1 := (ehE82.1 3 3 F.2.1 t71).1 (by decide)
              have t86 : T79 43 q15 := shS81 _ _ t70
              have t87 : T79 3 F.2.1 := shS81 _ _ t71
              have t88 : T79 0 b := shS81 _ _ t72
              have t89 : T79 42 row := shS81 _ _ t73
              obtain ⟨x90, rfl, r91⟩ := hv
              have r91' : 0 ≤ x90 ∧ x90 ≤ 299 := r91
              try dsimp only [Option.toList, List.append, List.cons_append, List.nil_append]
              exact J.reti rfl rfl rfl ⟨_, rfl, T79, hI80, hS81, hE82, (show ((w78.2.1 : Nat) : Int) - 2 * H77.1 7 4 F.2.2.1 - 13 * H77.1 3 1 F.2.1 - H77.1 3 3 F.2.1 ≤ ((w.2.1 : Nat) : Int) - 2 * H.1 7 4 F.2.2.1 - 13 * H.1 3 1 F.2.1 - H.1 3 3 F.2.1 + (0) by omega), (show ((w78.2.2 : Nat) : Int) - 18 * H77.1 7 4 F.2.2.1 - 700 * H77.1 3 1 F.2.1 - 6 * H77.1 3 3 F.2.1 ≤ ((w.2.2 : Nat) : Int) - 18 * H.1 7 4 F.2.2.1 - 700 * H.1 3 1 F.2.1 - 6 * H.1 3 3 F.2.1 + 10 * (0) by omega), _, rfl, (show 0 ≤ (x90) ∧ (x90) ≤ 299 from ⟨by omega, by omega⟩)⟩
            · have c92 : ¬ (x74 = (0 : Int)) := hc
              clear hc
              refine J.run0 9 rfl ?_
              try dsimp only
              refine J.inv rfl rfl rfl rfl rfl rfl ((jD_w rfl).mpr (hI63.is t71)) rfl rfl rfl rfl rfl (c_X3_add (b := b) (proposer := proposer) (row := row) (cl := q15) (sound := (1 : Int)) hI63 t72 t73 t70 (show H60.1 3 1 F.2.1 < 300 from by omega) (show 0 ≤ (1 : Int) ∧ (1 : Int) ≤ 1 from ⟨by omega, by omega⟩)) ?_
              rintro v w94 H93 ⟨T95, hI96, shS97, ehE98, hr99, hr99s, hv⟩
              have hr99' : ((w94.2.1 : Nat) : Int) - 2 * H93.1 7 4 F.2.2.1 - 13 * H93.1 3 1 F.2.1 - H93.1 3 3 F.2.1 ≤ ((w61.2.1 : Nat) : Int) - 2 * H60.1 7 4 F.2.2.1 - 13 * H60.1 3 1 F.2.1 - H60.1 3 3 F.2.1 + (-2) := hr99
              have hr99s' : ((w94.2.2 : Nat) : Int) - 18 * H93.1 7 4 F.2.2.1 - 700 * H93.1 3 1 F.2.1 - 6 * H93.1 3 3 F.2.1 ≤ ((w61.2.2 : Nat) : Int) - 18 * H60.1 7 4 F.2.2.1 - 700 * H60.1 3 1 F.2.1 - 6 * H60.1 3 3 F.2.1 + 10 * (-2) := hr99s
              have hE98 : cEx T [301, 307, 804, 808, 809, 811, 813, 30023, 30024, 30032, 30033, 30034, 30035, 30036, 30037, 30038, 30039, 30043, 40021] H93 H := cEx.trans ehE98 hE65 hS64 (by decide)
              have hS97 : ∀ k p, T k p → T95 k p := fun k p z => shS97 k p (hS64 k p z)
              have g100 : H93.1 7 4 F.2.2.1 = H60.1 7 4 F.2.2.1 := (ehE98.1 7 4 F.2.2.1 hI63.top.2.2.1).1 (by decide)
              have g101 : H93.1 3 3 F.2.1 = H60.1 3 3 F.2.1 := (ehE98.1 3 3 F.2.1 t71).1 (by decide)
              have t102 : T95 43 q15 := shS97 _ _ t70
              have t103 : T95 3 F.2.1 := shS97 _ _ t71
              have t104 : T95 0 b := shS97 _ _ t72
              have t105 : T95 42 row := shS97 _ _ t73
              obtain ⟨x106, rfl, r107⟩ := hv
              have r107' : 0 ≤ x106 ∧ x106 ≤ 299 := r107
              try dsimp only [Option.toList, List.append, List.cons_append, List.nil_append]
              exact J.reti rfl rfl rfl ⟨_, rfl, T95, hI96, hS97, hE98, (show ((w94.2.1 : Nat) : Int) - 2 * H93.1 7 4 F.2.2.1 - 13 * H93.1 3 1 F.2.1 - H93.1 3 3 F.2.1 ≤ ((w.2.1 : Nat) : Int) - 2 * H.1 7 4 F.2.2.1 - 13 * H.1 3 1 F.2.1 - H.1 3 3 F.2.1 + (0) by omega), (show ((w94.2.2 : Nat) : Int) - 18 * H93.1 7 4 F.2.2.1 - 700 * H93.1 3 1 F.2.1 - 6 * H93.1 3 3 F.2.1 ≤ ((w.2.2 : Nat) : Int) - 18 * H.1 7 4 F.2.2.1 - 700 * H.1 3 1 F.2.1 - 6 * H.1 3 3 F.2.1 + 10 * (0) by omega), _, rfl, (show 0 ≤ (x106) ∧ (x106) ≤ 299 from ⟨by omega, by omega⟩)⟩
        · have c108 : ¬ (¬ (claim = (-1 : Int))) := hc
          clear hc
          refine J.run 2 rfl (hI5.is t13) ?_
          try dsimp only
          try dsimp only
          rw [hn18]
          refine J.run 6 rfl ⟨⟨(hI5.is t37), (hI5.o 8 12 43 q19 rfl t37).1⟩, (hI5.is t13)⟩ ?_
          try dsimp only
          try dsimp only
          rw [hn18]
          refine J.run 1 rfl ⟨(hI5.is t37), (hI5.o 8 12 43 q19 rfl t37).1⟩ ?_
          try dsimp only
          refine J.ins4 rfl rfl rfl (by decide) rfl rfl rfl rfl rfl (jstP.of rfl) (c_X10_isSameRow (one := (H2.2.2.2.2 8 12 q19)) (two := (H2.2.2.2.2 8 12 q19)) hI5 (hI5.o 8 12 43 q19 rfl t37).2 (hI5.o 8 12 43 q19 rfl t37).2 ) ?_
          rintro v w3 H2 ⟨rfl, rfl, hv⟩
          obtain ⟨x109, rfl, r110⟩ := hv
          have r110' : x109 = 0 ∨ x109 = 1 := r110
          try dsimp only [Option.toList, List.append, List.cons_append, List.nil_append]
          refine J.ifc rfl rfl rfl (show -2147483648 ≤ x109 ∧ x109 ≤ 2147483647 from ⟨by omega, by omega⟩) (fun hc => ?_) (fun hc => ?_)
          · have c111 : x109 = (0 : Int) := hc
            clear hc
            refine J.run0 8 rfl ?_
            try dsimp only
            refine J.inv rfl rfl rfl rfl rfl rfl ((jD_w rfl).mpr (hI5.is t12)) rfl rfl rfl rfl rfl (c_X3_add (b := b) (proposer := proposer) (row := row) (cl := (H2.2.2.2.2 8 12 q19)) (sound := (0 : Int)) hI5 t13 t14 (hI5.o 8 12 43 q19 rfl t37).2 (show H2.1 3 1 F.2.1 < 300 from by omega) (show 0 ≤ (0 : Int) ∧ (0 : Int) ≤ 1 from ⟨by omega, by omega⟩)) ?_
            rintro v w113 H112 ⟨T114, hI115, shS116, ehE117, hr118, hr118s, hv⟩
            have hr118' : ((w113.2.1 : Nat) : Int) - 2 * H112.1 7 4 F.2.2.1 - 13 * H112.1 3 1 F.2.1 - H112.1 3 3 F.2.1 ≤ ((w3.2.1 : Nat) : Int) - 2 * H2.1 7 4 F.2.2.1 - 13 * H2.1 3 1 F.2.1 - H2.1 3 3 F.2.1 + (-2) := hr118
            have hr118s' : ((w113.2.2 : Nat) : Int) - 18 * H112.1 7 4 F.2.2.1 - 700 * H112.1 3 1 F.2.1 - 6 * H112.1 3 3 F.2.1 ≤ ((w3.2.2 : Nat) : Int) - 18 * H2.1 7 4 F.2.2.1 - 700 * H2.1 3 1 F.2.1 - 6 * H2.1 3 3 F.2.1 + 10 * (-2) := hr118s
            have hE117 : cEx T [301, 307, 804, 808, 809, 811, 813, 30023, 30024, 30032, 30033, 30034, 30035, 30036, 30037, 30038, 30039, 30043, 40021] H112 H := cEx.trans ehE117 hE7 hS6 (by decide)
            have hS116 : ∀ k p, T k p → T114 k p := fun k p z => shS116 k p (hS6 k p z)
            have g119 : H112.1 7 4 F.2.2.1 = H2.1 7 4 F.2.2.1 := (ehE117.1 7 4 F.2.2.1 hI5.top.2.2.1).1 (by decide)
            have g120 : H112.1 3 3 F.2.1 = H2.1 3 3 F.2.1 := (ehE117.1 3 3 F.2.1 t12).1 (by decide)
            have t121 : T114 43 (H2.2.2.2.2 8 12 q19) := shS116 _ _ (hI5.o 8 12 43 q19 rfl t37).2
            have t122 : T114 3 F.2.1 := shS116 _ _ t12
            have t123 : T114 0 b := shS116 _ _ t13
            have t124 : T114 42 row := shS116 _ _ t14
            obtain ⟨x125, rfl, r126⟩ := hv
            have r126' : 0 ≤ x125 ∧ x125 ≤ 299 := r126
            try dsimp only [Option.toList, List.append, List.cons_append, List.nil_append]
            exact J.reti rfl rfl rfl ⟨_, rfl, T114, hI115, hS116, hE117, (show ((w113.2.1 : Nat) : Int) - 2 * H112.1 7 4 F.2.2.1 - 13 * H112.1 3 1 F.2.1 - H112.1 3 3 F.2.1 ≤ ((w.2.1 : Nat) : Int) - 2 * H.1 7 4 F.2.2.1 - 13 * H.1 3 1 F.2.1 - H.1 3 3 F.2.1 + (0) by omega), (show ((w113.2.2 : Nat) : Int) - 18 * H112.1 7 4 F.2.2.1 - 700 * H112.1 3 1 F.2.1 - 6 * H112.1 3 3 F.2.1 ≤ ((w.2.2 : Nat) : Int) - 18 * H.1 7 4 F.2.2.1 - 700 * H.1 3 1 F.2.1 - 6 * H.1 3 3 F.2.1 + 10 * (0) by omega), _, rfl, (show 0 ≤ (x125) ∧ (x125) ≤ 299 from ⟨by omega, by omega⟩)⟩
          · have c127 : ¬ (x109 = (0 : Int)) := hc
            clear hc
            refine J.run0 4 rfl ?_
            try dsimp only
            refine J.inv rfl rfl rfl rfl rfl rfl ((jD_w rfl).mpr (hI5.is t12)) rfl rfl rfl rfl rfl (c_X3_isValid (b := b) (proposer := proposer) (row := row) hI5 t13 t14 (show H2.2.1 0 6 b ≠ none by first | exact hp0 | (rw [hn18]; exact (nomatch ·)) | (intro i h0 h1; have e1 := (hE7.1 42 0 row ta1).1 (by decide); have e2 := congrFun ((hE7.2 42 row ta1).1 (by decide)) i; have e3 := (hE7.1 3 3 F.2.1 hI.top.2.1).1 (by decide); have := hp0 i h0 (by omega); omega)) (show ∀ i, 0 ≤ i → i < H2.1 42 0 row → 0 ≤ H2.2.2.1 42 row i ∧ H2.2.2.1 42 row i < H2.1 3 3 F.2.1 by first | exact hp0 | (rw [hn18]; exact (nomatch ·)) | (intro i h0 h1; have e1 := (hE7.1 42 0 row ta1).1 (by decide); have e2 := congrFun ((hE7.2 42 row ta1).1 (by decide)) i; have e3 := (hE7.1 3 3 F.2.1 hI.top.2.1).1 (by decide); have := hp0 i h0 (by omega); omega)) (show 0 ≤ proposer ∧ proposer ≤ 15 from ⟨by omega, by omega⟩)) ?_
            rintro v w129 H128 ⟨T130, hI131, shS132, ehE133, hr134, hr134s, hv⟩
            have hr134' : ((w129.2.1 : Nat) : Int) - 2 * H128.1 7 4 F.2.2.1 - 13 * H128.1 3 1 F.2.1 - H128.1 3 3 F.2.1 ≤ ((w3.2.1 : Nat) : Int) - 2 * H2.1 7 4 F.2.2.1 - 13 * H2.1 3 1 F.2.1 - H2.1 3 3 F.2.1 + (0) := hr134
            have hr134s' : ((w129.2.2 : Nat) : Int) - 18 * H128.1 7 4 F.2.2.1 - 700 * H128.1 3 1 F.2.1 - 6 * H128.1 3 3 F.2.1 ≤ ((w3.2.2 : Nat) : Int) - 18 * H2.1 7 4 F.2.2.1 - 700 * H2.1 3 1 F.2.1 - 6 * H2.1 3 3 F.2.1 + 10 * (0) := hr134s
            have hE133 : cEx T [301, 307, 804, 808, 809, 811, 813, 30023, 30024, 30032, 30033, 30034, 30035, 30036, 30037, 30038, 30039, 30043, 40021] H128 H := cEx.trans ehE133 hE7 hS6 (by decide)
            have hS132 : ∀ k p, T k p → T130 k p := fun k p z => shS132 k p (hS6 k p z)
            have g135 : H128.1 7 4 F.2.2.1 = H2.1 7 4 F.2.2.1 := (ehE133.1 7 4 F.2.2.1 hI5.top.2.2.1).1 (by decide)
            have g136 : H128.1 3 1 F.2.1 = H2.1 3 1 F.2.1 := (ehE133.1 3 1 F.2.1 t12).1 (by decide)
            have g137 : H128.1 3 3 F.2.1 = H2.1 3 3 F.2.1 := (ehE133.1 3 3 F.2.1 t12).1 (by decide)
            have t138 : T130 43 (H2.2.2.2.2 8 12 q19) := shS132 _ _ (hI5.o 8 12 43 q19 rfl t37).2
            have t139 : T130 3 F.2.1 := shS132 _ _ t12
            have t140 : T130 0 b := shS132 _ _ t13
            have t141 : T130 42 row := shS132 _ _ t14
            obtain ⟨x142, rfl, r143⟩ := hv
            have r143' : x142 = 0 ∨ x142 = 1 := r143
            try dsimp only [Option.toList, List.append, List.cons_append, List.nil_append]
            refine J.ifc rfl rfl rfl (show -2147483648 ≤ x142 ∧ x142 ≤ 2147483647 from ⟨by omega, by omega⟩) (fun hc => ?_) (fun hc => ?_)
            · have c144 : x142 = (0 : Int) := hc
              clear hc
              refine J.run0 8 rfl ?_
              try dsimp only
              refine J.inv rfl rfl rfl rfl rfl rfl ((jD_w rfl).mpr (hI131.is t139)) rfl rfl rfl rfl rfl (c_X3_add (b := b) (proposer := proposer) (row := row) (cl := (H2.2.2.2.2 8 12 q19)) (sound := (0 : Int)) hI131 t140 t141 t138 (show H128.1 3 1 F.2.1 < 300 from by omega) (show 0 ≤ (0 : Int) ∧ (0 : Int) ≤ 1 from ⟨by omega, by omega⟩)) ?_
              rintro v w146 H145 ⟨T147, hI148, shS149, ehE150, hr151, hr151s, hv⟩
              have hr151' : ((w146.2.1 : Nat) : Int) - 2 * H145.1 7 4 F.2.2.1 - 13 * H145.1 3 1 F.2.1 - H145.1 3 3 F.2.1 ≤ ((w129.2.1 : Nat) : Int) - 2 * H128.1 7 4 F.2.2.1 - 13 * H128.1 3 1 F.2.1 - H128.1 3 3 F.2.1 + (-2) := hr151
              have hr151s' : ((w146.2.2 : Nat) : Int) - 18 * H145.1 7 4 F.2.2.1 - 700 * H145.1 3 1 F.2.1 - 6 * H145.1 3 3 F.2.1 ≤ ((w129.2.2 : Nat) : Int) - 18 * H128.1 7 4 F.2.2.1 - 700 * H128.1 3 1 F.2.1 - 6 * H128.1 3 3 F.2.1 + 10 * (-2) := hr151s
              have hE150 : cEx T [301, 307, 804, 808, 809, 811, 813, 30023, 30024, 30032, 30033, 30034, 30035, 30036, 30037, 30038, 30039, 30043, 40021] H145 H := cEx.trans ehE150 hE133 hS132 (by decide)
              have hS149 : ∀ k p, T k p → T147 k p := fun k p z => shS149 k p (hS132 k p z)
              have g152 : H145.1 7 4 F.2.2.1 = H128.1 7 4 F.2.2.1 := (ehE150.1 7 4 F.2.2.1 hI131.top.2.2.1).1 (by decide)
              have g153 : H145.1 3 3 F.2.1 = H128.1 3 3 F.2.1 := (ehE150.1 3 3 F.2.1 t139).1 (by decide)
              have t154 : T147 43 (H2.2.2.2.2 8 12 q19) := shS149 _ _ t138
              have t155 : T147 3 F.2.1 := shS149 _ _ t139
              have t156 : T147 0 b := shS149 _ _ t140
              have t157 : T147 42 row := shS149 _ _ t141
              obtain ⟨x158, rfl, r159⟩ := hv
              have r159' : 0 ≤ x158 ∧ x158 ≤ 299 := r159
              try dsimp only [Option.toList, List.append, List.cons_append, List.nil_append]
              exact J.reti rfl rfl rfl ⟨_, rfl, T147, hI148, hS149, hE150, (show ((w146.2.1 : Nat) : Int) - 2 * H145.1 7 4 F.2.2.1 - 13 * H145.1 3 1 F.2.1 - H145.1 3 3 F.2.1 ≤ ((w.2.1 : Nat) : Int) - 2 * H.1 7 4 F.2.2.1 - 13 * H.1 3 1 F.2.1 - H.1 3 3 F.2.1 + (0) by omega), (show ((w146.2.2 : Nat) : Int) - 18 * H145.1 7 4 F.2.2.1 - 700 * H145.1 3 1 F.2.1 - 6 * H145.1 3 3 F.2.1 ≤ ((w.2.2 : Nat) : Int) - 18 * H.1 7 4 F.2.2.1 - 700 * H.1 3 1 F.2.1 - 6 * H.1 3 3 F.2.1 + 10 * (0) by omega), _, rfl, (show 0 ≤ (x158) ∧ (x158) ≤ 299 from ⟨by omega, by omega⟩)⟩
            · have c160 : ¬ (x142 = (0 : Int)) := hc
              clear hc
              refine J.run0 9 rfl ?_
              try dsimp only
              refine J.inv rfl rfl rfl rfl rfl rfl ((jD_w rfl).mpr (hI131.is t139)) rfl rfl rfl rfl rfl (c_X3_add (b := b) (proposer := proposer) (row := row) (cl := (H2.2.2.2.2 8 12 q19)) (sound := (1 : Int)) hI131 t140 t141 t138 (show H128.1 3 1 F.2.1 < 300 from by omega) (show 0 ≤ (1 : Int) ∧ (1 : Int) ≤ 1 from ⟨by omega, by omega⟩)) ?_
              rintro v w162 H161 ⟨T163, hI164, shS165, ehE166, hr167, hr167s, hv⟩
              have hr167' : ((w162.2.1 : Nat) : Int) - 2 * H161.1 7 4 F.2.2.1 - 13 * H161.1 3 1 F.2.1 - H161.1 3 3 F.2.1 ≤ ((w129.2.1 : Nat) : Int) - 2 * H128.1 7 4 F.2.2.1 - 13 * H128.1 3 1 F.2.1 - H128.1 3 3 F.2.1 + (-2) := hr167
              have hr167s' : ((w162.2.2 : Nat) : Int) - 18 * H161.1 7 4 F.2.2.1 - 700 * H161.1 3 1 F.2.1 - 6 * H161.1 3 3 F.2.1 ≤ ((w129.2.2 : Nat) : Int) - 18 * H128.1 7 4 F.2.2.1 - 700 * H128.1 3 1 F.2.1 - 6 * H128.1 3 3 F.2.1 + 10 * (-2) := hr167s
              have hE166 : cEx T [301, 307, 804, 808, 809, 811, 813, 30023, 30024, 30032, 30033, 30034, 30035, 30036, 30037, 30038, 30039, 30043, 40021] H161 H := cEx.trans ehE166 hE133 hS132 (by decide)
              have hS165 : ∀ k p, T k p → T163 k p := fun k p z => shS165 k p (hS132 k p z)
              have g168 : H161.1 7 4 F.2.2.1 = H128.1 7 4 F.2.2.1 := (ehE166.1 7 4 F.2.2.1 hI131.top.2.2.1).1 (by decide)
              have g169 : H161.1 3 3 F.2.1 = H128.1 3 3 F.2.1 := (ehE166.1 3 3 F.2.1 t139).1 (by decide)
              have t170 : T163 43 (H2.2.2.2.2 8 12 q19) := shS165 _ _ t138
              have t171 : T163 3 F.2.1 := shS165 _ _ t139
              have t172 : T163 0 b := shS165 _ _ t140
              have t173 : T163 42 row := shS165 _ _ t141
              obtain ⟨x174, rfl, r175⟩ := hv
              have r175' : 0 ≤ x174 ∧ x174 ≤ 299 := r175
              try dsimp only [Option.toList, List.append, List.cons_append, List.nil_append]
              exact J.reti rfl rfl rfl ⟨_, rfl, T163, hI164, hS165, hE166, (show ((w162.2.1 : Nat) : Int) - 2 * H161.1 7 4 F.2.2.1 - 13 * H161.1 3 1 F.2.1 - H161.1 3 3 F.2.1 ≤ ((w.2.1 : Nat) : Int) - 2 * H.1 7 4 F.2.2.1 - 13 * H.1 3 1 F.2.1 - H.1 3 3 F.2.1 + (0) by omega), (show ((w162.2.2 : Nat) : Int) - 18 * H161.1 7 4 F.2.2.1 - 700 * H161.1 3 1 F.2.1 - 6 * H161.1 3 3 F.2.1 ≤ ((w.2.2 : Nat) : Int) - 18 * H.1 7 4 F.2.2.1 - 700 * H.1 3 1 F.2.1 - 6 * H.1 3 3 F.2.1 + 10 * (0) by omega), _, rfl, (show 0 ≤ (x174) ∧ (x174) ≤ 299 from ⟨by omega, by omega⟩)⟩
  · have c176 : ¬ (¬ (claim = (-1 : Int))) := hc
    clear hc
    refine J.run 6 rfl ⟨⟨(hI.is ta0), (hI.o 0 5 43 b rfl ta0).1⟩, (hI.is ta0)⟩ ?_
    try dsimp only
    try dsimp only
    rcases hn177 : H.2.1 0 6 b with _ | q178
    · skip
      refine J.run0 4 rfl ?_
      try dsimp only
      refine J.ifc rfl rfl rfl (show -2147483648 ≤ (0 : Int) ∧ (0 : Int) ≤ 2147483647 from ⟨by omega, by omega⟩) (fun hc => ?_) (fun hc => ?_)
      · have c179 : (0 : Int) = (0 : Int) := hc
        clear hc
        refine J.run0 6 rfl ?_
        try dsimp only
        refine J.inv rfl rfl rfl rfl rfl rfl ((jD_w rfl).mpr (hI.is hI.top.2.1)) rfl rfl rfl rfl rfl (c_X3_add (b := b) (proposer := proposer) (row := row) (cl := (H.2.2.2.2 0 5 b)) (sound := (0 : Int)) hI ta0 ta1 (hI.o 0 5 43 b rfl ta0).2 (show H.1 3 1 F.2.1 < 300 from by omega) (show 0 ≤ (0 : Int) ∧ (0 : Int) ≤ 1 from ⟨by omega, by omega⟩)) ?_
        rintro v w181 H180 ⟨T182, hI183, shS184, ehE185, hr186, hr186s, hv⟩
        have hr186' : ((w181.2.1 : Nat) : Int) - 2 * H180.1 7 4 F.2.2.1 - 13 * H180.1 3 1 F.2.1 - H180.1 3 3 F.2.1 ≤ ((w.2.1 : Nat) : Int) - 2 * H.1 7 4 F.2.2.1 - 13 * H.1 3 1 F.2.1 - H.1 3 3 F.2.1 + (-2) := hr186
        have hr186s' : ((w181.2.2 : Nat) : Int) - 18 * H180.1 7 4 F.2.2.1 - 700 * H180.1 3 1 F.2.1 - 6 * H180.1 3 3 F.2.1 ≤ ((w.2.2 : Nat) : Int) - 18 * H.1 7 4 F.2.2.1 - 700 * H.1 3 1 F.2.1 - 6 * H.1 3 3 F.2.1 + 10 * (-2) := hr186s
        have hE185 : cEx T [301, 307, 804, 808, 809, 811, 813, 30023, 30024, 30032, 30033, 30034, 30035, 30036, 30037, 30038, 30039, 30043, 40021] H180 H := cEx.trans ehE185 hE hS (by decide)
        have hS184 : ∀ k p, T k p → T182 k p := fun k p z => shS184 k p (hS k p z)
        have g187 : H180.1 7 4 F.2.2.1 = H.1 7 4 F.2.2.1 := (ehE185.1 7 4 F.2.2.1 hI.top.2.2.1).1 (by decide)
        have g188 : H180.1 3 3 F.2.1 = H.1 3 3 F.2.1 := (ehE185.1 3 3 F.2.1 hI.top.2.1).1 (by decide)
        have t189 : T182 43 (H.2.2.2.2 0 5 b) := shS184 _ _ (hI.o 0 5 43 b rfl ta0).2
        have t190 : T182 3 F.2.1 := shS184 _ _ hI.top.2.1
        have t191 : T182 0 b := shS184 _ _ ta0
        have t192 : T182 42 row := shS184 _ _ ta1
        obtain ⟨x193, rfl, r194⟩ := hv
        have r194' : 0 ≤ x193 ∧ x193 ≤ 299 := r194
        try dsimp only [Option.toList, List.append, List.cons_append, List.nil_append]
        exact J.reti rfl rfl rfl ⟨_, rfl, T182, hI183, hS184, hE185, (show ((w181.2.1 : Nat) : Int) - 2 * H180.1 7 4 F.2.2.1 - 13 * H180.1 3 1 F.2.1 - H180.1 3 3 F.2.1 ≤ ((w.2.1 : Nat) : Int) - 2 * H.1 7 4 F.2.2.1 - 13 * H.1 3 1 F.2.1 - H.1 3 3 F.2.1 + (0) by omega), (show ((w181.2.2 : Nat) : Int) - 18 * H180.1 7 4 F.2.2.1 - 700 * H180.1 3 1 F.2.1 - 6 * H180.1 3 3 F.2.1 ≤ ((w.2.2 : Nat) : Int) - 18 * H.1 7 4 F.2.2.1 - 700 * H.1 3 1 F.2.1 - 6 * H.1 3 3 F.2.1 + 10 * (0) by omega), _, rfl, (show 0 ≤ (x193) ∧ (x193) ≤ 299 from ⟨by omega, by omega⟩)⟩
      · have c195 : ¬ ((0 : Int) = (0 : Int)) := hc
        clear hc
        exfalso
        omega
    · have t196 : T 8 q178 := hI.n 0 6 8 b rfl ta0 hn177
      refine J.run0 5 rfl ?_
      try dsimp only
      refine J.ifc rfl rfl rfl (show -2147483648 ≤ (1 : Int) ∧ (1 : Int) ≤ 2147483647 from ⟨by omega, by omega⟩) (fun hc => ?_) (fun hc => ?_)
      · have c197 : (1 : Int) = (0 : Int) := hc
        clear hc
        exfalso
        omega
      · have c198 : ¬ ((1 : Int) = (0 : Int)) := hc
        clear hc
        refine J.run0 2 rfl ?_
        try dsimp only
        refine J.icmp rfl rfl rfl ⟨(show -2147483648 ≤ claim ∧ claim ≤ 2147483647 from ⟨by omega, by omega⟩), (show -2147483648 ≤ (-1 : Int) ∧ (-1 : Int) ≤ 2147483647 from ⟨by omega, by omega⟩)⟩ (fun hc => ?_) (fun hc => ?_)
        · have c199 : ¬ (claim = (-1 : Int)) := hc
          clear hc
          refine J.run 5 rfl (hI.is ta0) ?_
          try dsimp only
          try dsimp only
          rw [hn177]
          refine J.run 1 rfl ⟨(hI.is t196), (hI.o 8 12 43 q178 rfl t196).1⟩ ?_
          try dsimp only
          refine J.ins4 rfl rfl rfl (by decide) rfl rfl rfl rfl rfl (jstP.of rfl) (c_X10_isSameRow (one := (H.2.2.2.2 0 5 b)) (two := (H.2.2.2.2 8 12 q178)) hI (hI.o 0 5 43 b rfl ta0).2 (hI.o 8 12 43 q178 rfl t196).2 ) ?_
          rintro v w H ⟨rfl, rfl, hv⟩
          obtain ⟨x200, rfl, r201⟩ := hv
          have r201' : x200 = 0 ∨ x200 = 1 := r201
          try dsimp only [Option.toList, List.append, List.cons_append, List.nil_append]
          refine J.ifc rfl rfl rfl (show -2147483648 ≤ x200 ∧ x200 ≤ 2147483647 from ⟨by omega, by omega⟩) (fun hc => ?_) (fun hc => ?_)
          · have c202 : x200 = (0 : Int) := hc
            clear hc
            refine J.run0 8 rfl ?_
            try dsimp only
            refine J.inv rfl rfl rfl rfl rfl rfl ((jD_w rfl).mpr (hI.is hI.top.2.1)) rfl rfl rfl rfl rfl (c_X3_add (b := b) (proposer := proposer) (row := row) (cl := (H.2.2.2.2 0 5 b)) (sound := (0 : Int)) hI ta0 ta1 (hI.o 0 5 43 b rfl ta0).2 (show H.1 3 1 F.2.1 < 300 from by omega) (show 0 ≤ (0 : Int) ∧ (0 : Int) ≤ 1 from ⟨by omega, by omega⟩)) ?_
            rintro v w204 H203 ⟨T205, hI206, shS207, ehE208, hr209, hr209s, hv⟩
            have hr209' : ((w204.2.1 : Nat) : Int) - 2 * H203.1 7 4 F.2.2.1 - 13 * H203.1 3 1 F.2.1 - H203.1 3 3 F.2.1 ≤ ((w.2.1 : Nat) : Int) - 2 * H.1 7 4 F.2.2.1 - 13 * H.1 3 1 F.2.1 - H.1 3 3 F.2.1 + (-2) := hr209
            have hr209s' : ((w204.2.2 : Nat) : Int) - 18 * H203.1 7 4 F.2.2.1 - 700 * H203.1 3 1 F.2.1 - 6 * H203.1 3 3 F.2.1 ≤ ((w.2.2 : Nat) : Int) - 18 * H.1 7 4 F.2.2.1 - 700 * H.1 3 1 F.2.1 - 6 * H.1 3 3 F.2.1 + 10 * (-2) := hr209s
            have hE208 : cEx T [301, 307, 804, 808, 809, 811, 813, 30023, 30024, 30032, 30033, 30034, 30035, 30036, 30037, 30038, 30039, 30043, 40021] H203 H := cEx.trans ehE208 hE hS (by decide)
            have hS207 : ∀ k p, T k p → T205 k p := fun k p z => shS207 k p (hS k p z)
            have g210 : H203.1 7 4 F.2.2.1 = H.1 7 4 F.2.2.1 := (ehE208.1 7 4 F.2.2.1 hI.top.2.2.1).1 (by decide)
            have g211 : H203.1 3 3 F.2.1 = H.1 3 3 F.2.1 := (ehE208.1 3 3 F.2.1 hI.top.2.1).1 (by decide)
            have t212 : T205 43 (H.2.2.2.2 0 5 b) := shS207 _ _ (hI.o 0 5 43 b rfl ta0).2
            have t213 : T205 3 F.2.1 := shS207 _ _ hI.top.2.1
            have t214 : T205 0 b := shS207 _ _ ta0
            have t215 : T205 42 row := shS207 _ _ ta1
            obtain ⟨x216, rfl, r217⟩ := hv
            have r217' : 0 ≤ x216 ∧ x216 ≤ 299 := r217
            try dsimp only [Option.toList, List.append, List.cons_append, List.nil_append]
            exact J.reti rfl rfl rfl ⟨_, rfl, T205, hI206, hS207, hE208, (show ((w204.2.1 : Nat) : Int) - 2 * H203.1 7 4 F.2.2.1 - 13 * H203.1 3 1 F.2.1 - H203.1 3 3 F.2.1 ≤ ((w.2.1 : Nat) : Int) - 2 * H.1 7 4 F.2.2.1 - 13 * H.1 3 1 F.2.1 - H.1 3 3 F.2.1 + (0) by omega), (show ((w204.2.2 : Nat) : Int) - 18 * H203.1 7 4 F.2.2.1 - 700 * H203.1 3 1 F.2.1 - 6 * H203.1 3 3 F.2.1 ≤ ((w.2.2 : Nat) : Int) - 18 * H.1 7 4 F.2.2.1 - 700 * H.1 3 1 F.2.1 - 6 * H.1 3 3 F.2.1 + 10 * (0) by omega), _, rfl, (show 0 ≤ (x216) ∧ (x216) ≤ 299 from ⟨by omega, by omega⟩)⟩
          · have c218 : ¬ (x200 = (0 : Int)) := hc
            clear hc
            refine J.run0 4 rfl ?_
            try dsimp only
            refine J.inv rfl rfl rfl rfl rfl rfl ((jD_w rfl).mpr (hI.is hI.top.2.1)) rfl rfl rfl rfl rfl (c_X3_isValid (b := b) (proposer := proposer) (row := row) hI ta0 ta1 (show H.2.1 0 6 b ≠ none by first | exact hp0 | (rw [hn177]; exact (nomatch ·)) | (intro i h0 h1; have e1 := (hE.1 42 0 row ta1).1 (by decide); have e2 := congrFun ((hE.2 42 row ta1).1 (by decide)) i; have e3 := (hE.1 3 3 F.2.1 hI.top.2.1).1 (by decide); have := hp0 i h0 (by omega); omega)) (show ∀ i, 0 ≤ i → i < H.1 42 0 row → 0 ≤ H.2.2.1 42 row i ∧ H.2.2.1 42 row i < H.1 3 3 F.2.1 by first | exact hp0 | (rw [hn177]; exact (nomatch ·)) | (intro i h0 h1; have e1 := (hE.1 42 0 row ta1).1 (by decide); have e2 := congrFun ((hE.2 42 row ta1).1 (by decide)) i; have e3 := (hE.1 3 3 F.2.1 hI.top.2.1).1 (by decide); have := hp0 i h0 (by omega); omega)) (show 0 ≤ proposer ∧ proposer ≤ 15 from ⟨by omega, by omega⟩)) ?_
            rintro v w220 H219 ⟨T221, hI222, shS223, ehE224, hr225, hr225s, hv⟩
            have hr225' : ((w220.2.1 : Nat) : Int) - 2 * H219.1 7 4 F.2.2.1 - 13 * H219.1 3 1 F.2.1 - H219.1 3 3 F.2.1 ≤ ((w.2.1 : Nat) : Int) - 2 * H.1 7 4 F.2.2.1 - 13 * H.1 3 1 F.2.1 - H.1 3 3 F.2.1 + (0) := hr225
            have hr225s' : ((w220.2.2 : Nat) : Int) - 18 * H219.1 7 4 F.2.2.1 - 700 * H219.1 3 1 F.2.1 - 6 * H219.1 3 3 F.2.1 ≤ ((w.2.2 : Nat) : Int) - 18 * H.1 7 4 F.2.2.1 - 700 * H.1 3 1 F.2.1 - 6 * H.1 3 3 F.2.1 + 10 * (0) := hr225s
            have hE224 : cEx T [301, 307, 804, 808, 809, 811, 813, 30023, 30024, 30032, 30033, 30034, 30035, 30036, 30037, 30038, 30039, 30043, 40021] H219 H := cEx.trans ehE224 hE hS (by decide)
            have hS223 : ∀ k p, T k p → T221 k p := fun k p z => shS223 k p (hS k p z)
            have g226 : H219.1 7 4 F.2.2.1 = H.1 7 4 F.2.2.1 := (ehE224.1 7 4 F.2.2.1 hI.top.2.2.1).1 (by decide)
            have g227 : H219.1 3 1 F.2.1 = H.1 3 1 F.2.1 := (ehE224.1 3 1 F.2.1 hI.top.2.1).1 (by decide)
            have g228 : H219.1 3 3 F.2.1 = H.1 3 3 F.2.1 := (ehE224.1 3 3 F.2.1 hI.top.2.1).1 (by decide)
            have t229 : T221 43 (H.2.2.2.2 0 5 b) := shS223 _ _ (hI.o 0 5 43 b rfl ta0).2
            have t230 : T221 3 F.2.1 := shS223 _ _ hI.top.2.1
            have t231 : T221 0 b := shS223 _ _ ta0
            have t232 : T221 42 row := shS223 _ _ ta1
            obtain ⟨x233, rfl, r234⟩ := hv
            have r234' : x233 = 0 ∨ x233 = 1 := r234
            try dsimp only [Option.toList, List.append, List.cons_append, List.nil_append]
            refine J.ifc rfl rfl rfl (show -2147483648 ≤ x233 ∧ x233 ≤ 2147483647 from ⟨by omega, by omega⟩) (fun hc => ?_) (fun hc => ?_)
            · have c235 : x233 = (0 : Int) := hc
              clear hc
              refine J.run0 8 rfl ?_
              try dsimp only
              refine J.inv rfl rfl rfl rfl rfl rfl ((jD_w rfl).mpr (hI222.is t230)) rfl rfl rfl rfl rfl (c_X3_add (b := b) (proposer := proposer) (row := row) (cl := (H.2.2.2.2 0 5 b)) (sound := (0 : Int)) hI222 t231 t232 t229 (show H219.1 3 1 F.2.1 < 300 from by omega) (show 0 ≤ (0 : Int) ∧ (0 : Int) ≤ 1 from ⟨by omega, by omega⟩)) ?_
              rintro v w237 H236 ⟨T238, hI239, shS240, ehE241, hr242, hr242s, hv⟩
              have hr242' : ((w237.2.1 : Nat) : Int) - 2 * H236.1 7 4 F.2.2.1 - 13 * H236.1 3 1 F.2.1 - H236.1 3 3 F.2.1 ≤ ((w220.2.1 : Nat) : Int) - 2 * H219.1 7 4 F.2.2.1 - 13 * H219.1 3 1 F.2.1 - H219.1 3 3 F.2.1 + (-2) := hr242
              have hr242s' : ((w237.2.2 : Nat) : Int) - 18 * H236.1 7 4 F.2.2.1 - 700 * H236.1 3 1 F.2.1 - 6 * H236.1 3 3 F.2.1 ≤ ((w220.2.2 : Nat) : Int) - 18 * H219.1 7 4 F.2.2.1 - 700 * H219.1 3 1 F.2.1 - 6 * H219.1 3 3 F.2.1 + 10 * (-2) := hr242s
              have hE241 : cEx T [301, 307, 804, 808, 809, 811, 813, 30023, 30024, 30032, 30033, 30034, 30035, 30036, 30037, 30038, 30039, 30043, 40021] H236 H := cEx.trans ehE241 hE224 hS223 (by decide)
              have hS240 : ∀ k p, T k p → T238 k p := fun k p z => shS240 k p (hS223 k p z)
              have g243 : H236.1 7 4 F.2.2.1 = H219.1 7 4 F.2.2.1 := (ehE241.1 7 4 F.2.2.1 hI222.top.2.2.1).1 (by decide)
              have g244 : H236.1 3 3 F.2.1 = H219.1 3 3 F.2.1 := (ehE241.1 3 3 F.2.1 t230).1 (by decide)
              have t245 : T238 43 (H.2.2.2.2 0 5 b) := shS240 _ _ t229
              have t246 : T238 3 F.2.1 := shS240 _ _ t230
              have t247 : T238 0 b := shS240 _ _ t231
              have t248 : T238 42 row := shS240 _ _ t232
              obtain ⟨x249, rfl, r250⟩ := hv
              have r250' : 0 ≤ x249 ∧ x249 ≤ 299 := r250
              try dsimp only [Option.toList, List.append, List.cons_append, List.nil_append]
              exact J.reti rfl rfl rfl ⟨_, rfl, T238, hI239, hS240, hE241, (show ((w237.2.1 : Nat) : Int) - 2 * H236.1 7 4 F.2.2.1 - 13 * H236.1 3 1 F.2.1 - H236.1 3 3 F.2.1 ≤ ((w.2.1 : Nat) : Int) - 2 * H.1 7 4 F.2.2.1 - 13 * H.1 3 1 F.2.1 - H.1 3 3 F.2.1 + (0) by omega), (show ((w237.2.2 : Nat) : Int) - 18 * H236.1 7 4 F.2.2.1 - 700 * H236.1 3 1 F.2.1 - 6 * H236.1 3 3 F.2.1 ≤ ((w.2.2 : Nat) : Int) - 18 * H.1 7 4 F.2.2.1 - 700 * H.1 3 1 F.2.1 - 6 * H.1 3 3 F.2.1 + 10 * (0) by omega), _, rfl, (show 0 ≤ (x249) ∧ (x249) ≤ 299 from ⟨by omega, by omega⟩)⟩
            · have c251 : ¬ (x233 = (0 : Int)) := hc
              clear hc
              refine J.run0 9 rfl ?_
              try dsimp only
              refine J.inv rfl rfl rfl rfl rfl rfl ((jD_w rfl).mpr (hI222.is t230)) rfl rfl rfl rfl rfl (c_X3_add (b := b) (proposer := proposer) (row := row) (cl := (H.2.2.2.2 0 5 b)) (sound := (1 : Int)) hI222 t231 t232 t229 (show H219.1 3 1 F.2.1 < 300 from by omega) (show 0 ≤ (1 : Int) ∧ (1 : Int) ≤ 1 from ⟨by omega, by omega⟩)) ?_
              rintro v w253 H252 ⟨T254, hI255, shS256, ehE257, hr258, hr258s, hv⟩
              have hr258' : ((w253.2.1 : Nat) : Int) - 2 * H252.1 7 4 F.2.2.1 - 13 * H252.1 3 1 F.2.1 - H252.1 3 3 F.2.1 ≤ ((w220.2.1 : Nat) : Int) - 2 * H219.1 7 4 F.2.2.1 - 13 * H219.1 3 1 F.2.1 - H219.1 3 3 F.2.1 + (-2) := hr258
              have hr258s' : ((w253.2.2 : Nat) : Int) - 18 * H252.1 7 4 F.2.2.1 - 700 * H252.1 3 1 F.2.1 - 6 * H252.1 3 3 F.2.1 ≤ ((w220.2.2 : Nat) : Int) - 18 * H219.1 7 4 F.2.2.1 - 700 * H219.1 3 1 F.2.1 - 6 * H219.1 3 3 F.2.1 + 10 * (-2) := hr258s
              have hE257 : cEx T [301, 307, 804, 808, 809, 811, 813, 30023, 30024, 30032, 30033, 30034, 30035, 30036, 30037, 30038, 30039, 30043, 40021] H252 H := cEx.trans ehE257 hE224 hS223 (by decide)
              have hS256 : ∀ k p, T k p → T254 k p := fun k p z => shS256 k p (hS223 k p z)
              have g259 : H252.1 7 4 F.2.2.1 = H219.1 7 4 F.2.2.1 := (ehE257.1 7 4 F.2.2.1 hI222.top.2.2.1).1 (by decide)
              have g260 : H252.1 3 3 F.2.1 = H219.1 3 3 F.2.1 := (ehE257.1 3 3 F.2.1 t230).1 (by decide)
              have t261 : T254 43 (H.2.2.2.2 0 5 b) := shS256 _ _ t229
              have t262 : T254 3 F.2.1 := shS256 _ _ t230
              have t263 : T254 0 b := shS256 _ _ t231
              have t264 : T254 42 row := shS256 _ _ t232
              obtain ⟨x265, rfl, r266⟩ := hv
              have r266' : 0 ≤ x265 ∧ x265 ≤ 299 := r266
              try dsimp only [Option.toList, List.append, List.cons_append, List.nil_append]
              exact J.reti rfl rfl rfl ⟨_, rfl, T254, hI255, hS256, hE257, (show ((w253.2.1 : Nat) : Int) - 2 * H252.1 7 4 F.2.2.1 - 13 * H252.1 3 1 F.2.1 - H252.1 3 3 F.2.1 ≤ ((w.2.1 : Nat) : Int) - 2 * H.1 7 4 F.2.2.1 - 13 * H.1 3 1 F.2.1 - H.1 3 3 F.2.1 + (0) by omega), (show ((w253.2.2 : Nat) : Int) - 18 * H252.1 7 4 F.2.2.1 - 700 * H252.1 3 1 F.2.1 - 6 * H252.1 3 3 F.2.1 ≤ ((w.2.2 : Nat) : Int) - 18 * H.1 7 4 F.2.2.1 - 700 * H.1 3 1 F.2.1 - 6 * H.1 3 3 F.2.1 + 10 * (0) by omega), _, rfl, (show 0 ≤ (x265) ∧ (x265) ≤ 299 from ⟨by omega, by omega⟩)⟩
        · have c267 : ¬ (¬ (claim = (-1 : Int))) := hc
          clear hc
          refine J.run 2 rfl (hI.is ta0) ?_
          try dsimp only
          try dsimp only
          rw [hn177]
          refine J.run 6 rfl ⟨⟨(hI.is t196), (hI.o 8 12 43 q178 rfl t196).1⟩, (hI.is ta0)⟩ ?_
          try dsimp only
          try dsimp only
          rw [hn177]
          refine J.run 1 rfl ⟨(hI.is t196), (hI.o 8 12 43 q178 rfl t196).1⟩ ?_
          try dsimp only
          refine J.ins4 rfl rfl rfl (by decide) rfl rfl rfl rfl rfl (jstP.of rfl) (c_X10_isSameRow (one := (H.2.2.2.2 8 12 q178)) (two := (H.2.2.2.2 8 12 q178)) hI (hI.o 8 12 43 q178 rfl t196).2 (hI.o 8 12 43 q178 rfl t196).2 ) ?_
          rintro v w H ⟨rfl, rfl, hv⟩
          obtain ⟨x268, rfl, r269⟩ := hv
          have r269' : x268 = 0 ∨ x268 = 1 := r269
          try dsimp only [Option.toList, List.append, List.cons_append, List.nil_append]
          refine J.ifc rfl rfl rfl (show -2147483648 ≤ x268 ∧ x268 ≤ 2147483647 from ⟨by omega, by omega⟩) (fun hc => ?_) (fun hc => ?_)
          · have c270 : x268 = (0 : Int) := hc
            clear hc
            refine J.run0 8 rfl ?_
            try dsimp only
            refine J.inv rfl rfl rfl rfl rfl rfl ((jD_w rfl).mpr (hI.is hI.top.2.1)) rfl rfl rfl rfl rfl (c_X3_add (b := b) (proposer := proposer) (row := row) (cl := (H.2.2.2.2 8 12 q178)) (sound := (0 : Int)) hI ta0 ta1 (hI.o 8 12 43 q178 rfl t196).2 (show H.1 3 1 F.2.1 < 300 from by omega) (show 0 ≤ (0 : Int) ∧ (0 : Int) ≤ 1 from ⟨by omega, by omega⟩)) ?_
            rintro v w272 H271 ⟨T273, hI274, shS275, ehE276, hr277, hr277s, hv⟩
            have hr277' : ((w272.2.1 : Nat) : Int) - 2 * H271.1 7 4 F.2.2.1 - 13 * H271.1 3 1 F.2.1 - H271.1 3 3 F.2.1 ≤ ((w.2.1 : Nat) : Int) - 2 * H.1 7 4 F.2.2.1 - 13 * H.1 3 1 F.2.1 - H.1 3 3 F.2.1 + (-2) := hr277
            have hr277s' : ((w272.2.2 : Nat) : Int) - 18 * H271.1 7 4 F.2.2.1 - 700 * H271.1 3 1 F.2.1 - 6 * H271.1 3 3 F.2.1 ≤ ((w.2.2 : Nat) : Int) - 18 * H.1 7 4 F.2.2.1 - 700 * H.1 3 1 F.2.1 - 6 * H.1 3 3 F.2.1 + 10 * (-2) := hr277s
            have hE276 : cEx T [301, 307, 804, 808, 809, 811, 813, 30023, 30024, 30032, 30033, 30034, 30035, 30036, 30037, 30038, 30039, 30043, 40021] H271 H := cEx.trans ehE276 hE hS (by decide)
            have hS275 : ∀ k p, T k p → T273 k p := fun k p z => shS275 k p (hS k p z)
            have g278 : H271.1 7 4 F.2.2.1 = H.1 7 4 F.2.2.1 := (ehE276.1 7 4 F.2.2.1 hI.top.2.2.1).1 (by decide)
            have g279 : H271.1 3 3 F.2.1 = H.1 3 3 F.2.1 := (ehE276.1 3 3 F.2.1 hI.top.2.1).1 (by decide)
            have t280 : T273 43 (H.2.2.2.2 8 12 q178) := shS275 _ _ (hI.o 8 12 43 q178 rfl t196).2
            have t281 : T273 3 F.2.1 := shS275 _ _ hI.top.2.1
            have t282 : T273 0 b := shS275 _ _ ta0
            have t283 : T273 42 row := shS275 _ _ ta1
            obtain ⟨x284, rfl, r285⟩ := hv
            have r285' : 0 ≤ x284 ∧ x284 ≤ 299 := r285
            try dsimp only [Option.toList, List.append, List.cons_append, List.nil_append]
            exact J.reti rfl rfl rfl ⟨_, rfl, T273, hI274, hS275, hE276, (show ((w272.2.1 : Nat) : Int) - 2 * H271.1 7 4 F.2.2.1 - 13 * H271.1 3 1 F.2.1 - H271.1 3 3 F.2.1 ≤ ((w.2.1 : Nat) : Int) - 2 * H.1 7 4 F.2.2.1 - 13 * H.1 3 1 F.2.1 - H.1 3 3 F.2.1 + (0) by omega), (show ((w272.2.2 : Nat) : Int) - 18 * H271.1 7 4 F.2.2.1 - 700 * H271.1 3 1 F.2.1 - 6 * H271.1 3 3 F.2.1 ≤ ((w.2.2 : Nat) : Int) - 18 * H.1 7 4 F.2.2.1 - 700 * H.1 3 1 F.2.1 - 6 * H.1 3 3 F.2.1 + 10 * (0) by omega), _, rfl, (show 0 ≤ (x284) ∧ (x284) ≤ 299 from ⟨by omega, by omega⟩)⟩
          · have c286 : ¬ (x268 = (0 : Int)) := hc
            clear hc
            refine J.run0 4 rfl ?_
            try dsimp only
            refine J.inv rfl rfl rfl rfl rfl rfl ((jD_w rfl).mpr (hI.is hI.top.2.1)) rfl rfl rfl rfl rfl (c_X3_isValid (b := b) (proposer := proposer) (row := row) hI ta0 ta1 (show H.2.1 0 6 b ≠ none by first | exact hp0 | (rw [hn177]; exact (nomatch ·)) | (intro i h0 h1; have e1 := (hE.1 42 0 row ta1).1 (by decide); have e2 := congrFun ((hE.2 42 row ta1).1 (by decide)) i; have e3 := (hE.1 3 3 F.2.1 hI.top.2.1).1 (by decide); have := hp0 i h0 (by omega); omega)) (show ∀ i, 0 ≤ i → i < H.1 42 0 row → 0 ≤ H.2.2.1 42 row i ∧ H.2.2.1 42 row i < H.1 3 3 F.2.1 by first | exact hp0 | (rw [hn177]; exact (nomatch ·)) | (intro i h0 h1; have e1 := (hE.1 42 0 row ta1).1 (by decide); have e2 := congrFun ((hE.2 42 row ta1).1 (by decide)) i; have e3 := (hE.1 3 3 F.2.1 hI.top.2.1).1 (by decide); have := hp0 i h0 (by omega); omega)) (show 0 ≤ proposer ∧ proposer ≤ 15 from ⟨by omega, by omega⟩)) ?_
            rintro v w288 H287 ⟨T289, hI290, shS291, ehE292, hr293, hr293s, hv⟩
            have hr293' : ((w288.2.1 : Nat) : Int) - 2 * H287.1 7 4 F.2.2.1 - 13 * H287.1 3 1 F.2.1 - H287.1 3 3 F.2.1 ≤ ((w.2.1 : Nat) : Int) - 2 * H.1 7 4 F.2.2.1 - 13 * H.1 3 1 F.2.1 - H.1 3 3 F.2.1 + (0) := hr293
            have hr293s' : ((w288.2.2 : Nat) : Int) - 18 * H287.1 7 4 F.2.2.1 - 700 * H287.1 3 1 F.2.1 - 6 * H287.1 3 3 F.2.1 ≤ ((w.2.2 : Nat) : Int) - 18 * H.1 7 4 F.2.2.1 - 700 * H.1 3 1 F.2.1 - 6 * H.1 3 3 F.2.1 + 10 * (0) := hr293s
            have hE292 : cEx T [301, 307, 804, 808, 809, 811, 813, 30023, 30024, 30032, 30033, 30034, 30035, 30036, 30037, 30038, 30039, 30043, 40021] H287 H := cEx.trans ehE292 hE hS (by decide)
            have hS291 : ∀ k p, T k p → T289 k p := fun k p z => shS291 k p (hS k p z)
            have g294 : H287.1 7 4 F.2.2.1 = H.1 7 4 F.2.2.1 := (ehE292.1 7 4 F.2.2.1 hI.top.2.2.1).1 (by decide)
            have g295 : H287.1 3 1 F.2.1 = H.1 3 1 F.2.1 := (ehE292.1 3 1 F.2.1 hI.top.2.1).1 (by decide)
            have g296 : H287.1 3 3 F.2.1 = H.1 3 3 F.2.1 := (ehE292.1 3 3 F.2.1 hI.top.2.1).1 (by decide)
            have t297 : T289 43 (H.2.2.2.2 8 12 q178) := shS291 _ _ (hI.o 8 12 43 q178 rfl t196).2
            have t298 : T289 3 F.2.1 := shS291 _ _ hI.top.2.1
            have t299 : T289 0 b := shS291 _ _ ta0
            have t300 : T289 42 row := shS291 _ _ ta1
            obtain ⟨x301, rfl, r302⟩ := hv
            have r302' : x301 = 0 ∨ x301 = 1 := r302
            try dsimp only [Option.toList, List.append, List.cons_append, List.nil_append]
            refine J.ifc rfl rfl rfl (show -2147483648 ≤ x301 ∧ x301 ≤ 2147483647 from ⟨by omega, by omega⟩) (fun hc => ?_) (fun hc => ?_)
            · have c303 : x301 = (0 : Int) := hc
              clear hc
              refine J.run0 8 rfl ?_
              try dsimp only
              refine J.inv rfl rfl rfl rfl rfl rfl ((jD_w rfl).mpr (hI290.is t298)) rfl rfl rfl rfl rfl (c_X3_add (b := b) (proposer := proposer) (row := row) (cl := (H.2.2.2.2 8 12 q178)) (sound := (0 : Int)) hI290 t299 t300 t297 (show H287.1 3 1 F.2.1 < 300 from by omega) (show 0 ≤ (0 : Int) ∧ (0 : Int) ≤ 1 from ⟨by omega, by omega⟩)) ?_
              rintro v w305 H304 ⟨T306, hI307, shS308, ehE309, hr310, hr310s, hv⟩
              have hr310' : ((w305.2.1 : Nat) : Int) - 2 * H304.1 7 4 F.2.2.1 - 13 * H304.1 3 1 F.2.1 - H304.1 3 3 F.2.1 ≤ ((w288.2.1 : Nat) : Int) - 2 * H287.1 7 4 F.2.2.1 - 13 * H287.1 3 1 F.2.1 - H287.1 3 3 F.2.1 + (-2) := hr310
              have hr310s' : ((w305.2.2 : Nat) : Int) - 18 * H304.1 7 4 F.2.2.1 - 700 * H304.1 3 1 F.2.1 - 6 * H304.1 3 3 F.2.1 ≤ ((w288.2.2 : Nat) : Int) - 18 * H287.1 7 4 F.2.2.1 - 700 * H287.1 3 1 F.2.1 - 6 * H287.1 3 3 F.2.1 + 10 * (-2) := hr310s
              have hE309 : cEx T [301, 307, 804, 808, 809, 811, 813, 30023, 30024, 30032, 30033, 30034, 30035, 30036, 30037, 30038, 30039, 30043, 40021] H304 H := cEx.trans ehE309 hE292 hS291 (by decide)
              have hS308 : ∀ k p, T k p → T306 k p := fun k p z => shS308 k p (hS291 k p z)
              have g311 : H304.1 7 4 F.2.2.1 = H287.1 7 4 F.2.2.1 := (ehE309.1 7 4 F.2.2.1 hI290.top.2.2.1).1 (by decide)
              have g312 : H304.1 3 3 F.2.1 = H287.1 3 3 F.2.1 := (ehE309.1 3 3 F.2.1 t298).1 (by decide)
              have t313 : T306 43 (H.2.2.2.2 8 12 q178) := shS308 _ _ t297
              have t314 : T306 3 F.2.1 := shS308 _ _ t298
              have t315 : T306 0 b := shS308 _ _ t299
              have t316 : T306 42 row := shS308 _ _ t300
              obtain ⟨x317, rfl, r318⟩ := hv
              have r318' : 0 ≤ x317 ∧ x317 ≤ 299 := r318
              try dsimp only [Option.toList, List.append, List.cons_append, List.nil_append]
              exact J.reti rfl rfl rfl ⟨_, rfl, T306, hI307, hS308, hE309, (show ((w305.2.1 : Nat) : Int) - 2 * H304.1 7 4 F.2.2.1 - 13 * H304.1 3 1 F.2.1 - H304.1 3 3 F.2.1 ≤ ((w.2.1 : Nat) : Int) - 2 * H.1 7 4 F.2.2.1 - 13 * H.1 3 1 F.2.1 - H.1 3 3 F.2.1 + (0) by omega), (show ((w305.2.2 : Nat) : Int) - 18 * H304.1 7 4 F.2.2.1 - 700 * H304.1 3 1 F.2.1 - 6 * H304.1 3 3 F.2.1 ≤ ((w.2.2 : Nat) : Int) - 18 * H.1 7 4 F.2.2.1 - 700 * H.1 3 1 F.2.1 - 6 * H.1 3 3 F.2.1 + 10 * (0) by omega), _, rfl, (show 0 ≤ (x317) ∧ (x317) ≤ 299 from ⟨by omega, by omega⟩)⟩
            · have c319 : ¬ (x301 = (0 : Int)) := hc
              clear hc
              refine J.run0 9 rfl ?_
              try dsimp only
              refine J.inv rfl rfl rfl rfl rfl rfl ((jD_w rfl).mpr (hI290.is t298)) rfl rfl rfl rfl rfl (c_X3_add (b := b) (proposer := proposer) (row := row) (cl := (H.2.2.2.2 8 12 q178)) (sound := (1 : Int)) hI290 t299 t300 t297 (show H287.1 3 1 F.2.1 < 300 from by omega) (show 0 ≤ (1 : Int) ∧ (1 : Int) ≤ 1 from ⟨by omega, by omega⟩)) ?_
              rintro v w321 H320 ⟨T322, hI323, shS324, ehE325, hr326, hr326s, hv⟩
              have hr326' : ((w321.2.1 : Nat) : Int) - 2 * H320.1 7 4 F.2.2.1 - 13 * H320.1 3 1 F.2.1 - H320.1 3 3 F.2.1 ≤ ((w288.2.1 : Nat) : Int) - 2 * H287.1 7 4 F.2.2.1 - 13 * H287.1 3 1 F.2.1 - H287.1 3 3 F.2.1 + (-2) := hr326
              have hr326s' : ((w321.2.2 : Nat) : Int) - 18 * H320.1 7 4 F.2.2.1 - 700 * H320.1 3 1 F.2.1 - 6 * H320.1 3 3 F.2.1 ≤ ((w288.2.2 : Nat) : Int) - 18 * H287.1 7 4 F.2.2.1 - 700 * H287.1 3 1 F.2.1 - 6 * H287.1 3 3 F.2.1 + 10 * (-2) := hr326s
              have hE325 : cEx T [301, 307, 804, 808, 809, 811, 813, 30023, 30024, 30032, 30033, 30034, 30035, 30036, 30037, 30038, 30039, 30043, 40021] H320 H := cEx.trans ehE325 hE292 hS291 (by decide)
              have hS324 : ∀ k p, T k p → T322 k p := fun k p z => shS324 k p (hS291 k p z)
              have g327 : H320.1 7 4 F.2.2.1 = H287.1 7 4 F.2.2.1 := (ehE325.1 7 4 F.2.2.1 hI290.top.2.2.1).1 (by decide)
              have g328 : H320.1 3 3 F.2.1 = H287.1 3 3 F.2.1 := (ehE325.1 3 3 F.2.1 t298).1 (by decide)
              have t329 : T322 43 (H.2.2.2.2 8 12 q178) := shS324 _ _ t297
              have t330 : T322 3 F.2.1 := shS324 _ _ t298
              have t331 : T322 0 b := shS324 _ _ t299
              have t332 : T322 42 row := shS324 _ _ t300
              obtain ⟨x333, rfl, r334⟩ := hv
              have r334' : 0 ≤ x333 ∧ x333 ≤ 299 := r334
              try dsimp only [Option.toList, List.append, List.cons_append, List.nil_append]
              exact J.reti rfl rfl rfl ⟨_, rfl, T322, hI323, hS324, hE325, (show ((w321.2.1 : Nat) : Int) - 2 * H320.1 7 4 F.2.2.1 - 13 * H320.1 3 1 F.2.1 - H320.1 3 3 F.2.1 ≤ ((w.2.1 : Nat) : Int) - 2 * H.1 7 4 F.2.2.1 - 13 * H.1 3 1 F.2.1 - H.1 3 3 F.2.1 + (0) by omega), (show ((w321.2.2 : Nat) : Int) - 18 * H320.1 7 4 F.2.2.1 - 700 * H320.1 3 1 F.2.1 - 6 * H320.1 3 3 F.2.1 ≤ ((w.2.2 : Nat) : Int) - 18 * H.1 7 4 F.2.2.1 - 700 * H.1 3 1 F.2.1 - 6 * H.1 3 3 F.2.1 + 10 * (0) by omega), _, rfl, (show 0 ≤ (x333) ∧ (x333) ≤ 299 from ⟨by omega, by omega⟩)⟩
end
-- M: X10_sendRecorded
section
variable {d : Nat} {F : cG} 
set_option maxRecDepth 20000 in
set_option maxHeartbeats 8000000 in
theorem c_X10_sendRecorded {x : Nat} {e : Nat} {T : cP} {w : jW} {H : jH} (hI : cJ F T w H) (ta0 : T 6 x) (ta1 : T 2 e)  : J false (d + 2) 98 w (0, jargs 0 [.inr (some (10, F.1)), .inr (some (6, x)), .inr (some (2, e))], [], H) (jN fun v w' H' => ∃ T', cJ F T' w' H' ∧ (∀ k p, T k p → T' k p) ∧ cEx T [616, 704, 10209, 10507, 30026, 30027, 30031, 40028, 40029, 40030] H' H ∧ ((w'.2.1 : Nat) : Int) - 2 * H'.1 7 4 F.2.2.1 - 13 * H'.1 3 1 F.2.1 - H'.1 3 3 F.2.1 ≤ ((w.2.1 : Nat) : Int) - 2 * H.1 7 4 F.2.2.1 - 13 * H.1 3 1 F.2.1 - H.1 3 3 F.2.1 + (0) ∧ ((w'.2.2 : Nat) : Int) - 18 * H'.1 7 4 F.2.2.1 - 700 * H'.1 3 1 F.2.1 - 6 * H'.1 3 3 F.2.1 ≤ ((w.2.2 : Nat) : Int) - 18 * H.1 7 4 F.2.2.1 - 700 * H.1 3 1 F.2.1 - 6 * H.1 3 3 F.2.1 + 10 * (0) ∧ (H.1 7 4 F.2.2.1 < 6000 → H.1 0 1 (H.2.2.2.2 6 1 x) < 120 → (((w'.2.1 : Nat) : Int) - 2 * H'.1 7 4 F.2.2.1 - 13 * H'.1 3 1 F.2.1 - H'.1 3 3 F.2.1 ≤ ((w.2.1 : Nat) : Int) - 2 * H.1 7 4 F.2.2.1 - 13 * H.1 3 1 F.2.1 - H.1 3 3 F.2.1 + (-1) ∧ ((w'.2.2 : Nat) : Int) - 18 * H'.1 7 4 F.2.2.1 - 700 * H'.1 3 1 F.2.1 - 6 * H'.1 3 3 F.2.1 ≤ ((w.2.2 : Nat) : Int) - 18 * H.1 7 4 F.2.2.1 - 700 * H.1 3 1 F.2.1 - 6 * H.1 3 3 F.2.1 + 10 * (-1))) ∧ v = none) := by
  have hE : cEx T [616, 704, 10209, 10507, 30026, 30027, 30031, 40028, 40029, 40030] H H := cEx.refl
  have hS : ∀ k p, T k p → T k p := fun _ _ z => z
  refine J.run 2 rfl ⟨(hI.is hI.top.1), (hI.o 10 1 7 F.1 rfl hI.top.1).1⟩ ?_
  try dsimp only
  try dsimp only
  rw [show (H.2.2.2.2 10 1 F.1) = F.2.2.1 from hI.one.2.2.1 _ (hI.o 10 1 7 F.1 rfl hI.top.1).2]
  have f1 : 0 ≤ H.1 6 0 x ∧ H.1 6 0 x ≤ 15 := hI.v 6 0 x ta0
  refine J.run 5 rfl ⟨(hI.is ta1), (hI.is ta0)⟩ ?_
  try dsimp only
  refine J.inv rfl rfl rfl rfl rfl rfl ((jD_w rfl).mpr (hI.is ta0)) rfl rfl rfl rfl rfl (c_X6_height (a0 := x) hI ta0 ) ?_
  rintro v w H ⟨rfl, rfl, hv⟩
  obtain ⟨x2, rfl, r3⟩ := hv
  have r3' : x2 = H.1 0 1 (H.2.2.2.2 6 1 x) + 1 ∧ 1 ≤ x2 ∧ x2 ≤ 300 := r3
  try dsimp only [Option.toList, List.append, List.cons_append, List.nil_append]
  have f4 : 0 ≤ H.1 2 3 e ∧ H.1 2 3 e ≤ 31 := hI.v 2 3 e ta1
  have f5 : (-2147483648) ≤ H.1 2 1 e ∧ H.1 2 1 e ≤ 2147483647 := hI.v 2 1 e ta1
  have f6 : (-2147483648) ≤ H.1 2 2 e ∧ H.1 2 2 e ≤ 2147483647 := hI.v 2 2 e ta1
  refine J.run 6 rfl ⟨(hI.is ta1), (hI.is ta1), (hI.is ta1)⟩ ?_
  try dsimp only
  refine J.inv rfl rfl rfl rfl rfl rfl ((jD_w rfl).mpr (hI.is hI.top.2.2.1)) rfl rfl rfl rfl rfl (c_X7_add (kind := H.1 2 0 e) (node := H.1 6 0 x) (height := x2) (round := H.1 2 3 e) (block := H.1 2 1 e) (before := H.1 2 2 e) hI  (show 0 ≤ (H.1 6 0 x) ∧ (H.1 6 0 x) ≤ 15 from ⟨by omega, by omega⟩) (show -2147483648 ≤ x2 ∧ x2 ≤ 2147483647 from ⟨by omega, by omega⟩) (show -2147483648 ≤ (H.1 2 3 e) ∧ (H.1 2 3 e) ≤ 2147483647 from ⟨by omega, by omega⟩) (show -2147483648 ≤ (H.1 2 1 e) ∧ (H.1 2 1 e) ≤ 2147483647 from ⟨by omega, by omega⟩) (show -2147483648 ≤ (H.1 2 2 e) ∧ (H.1 2 2 e) ≤ 2147483647 from ⟨by omega, by omega⟩)) ?_
  rintro v w8 H7 ⟨T9, hI10, shS11, ehE12, hr13, hr13s, hv⟩
  have hr13' : ((w8.2.1 : Nat) : Int) - 2 * H7.1 7 4 F.2.2.1 - 13 * H7.1 3 1 F.2.1 - H7.1 3 3 F.2.1 ≤ ((w.2.1 : Nat) : Int) - 2 * H.1 7 4 F.2.2.1 - 13 * H.1 3 1 F.2.1 - H.1 3 3 F.2.1 + (0) := hr13
  have hr13s' : ((w8.2.2 : Nat) : Int) - 18 * H7.1 7 4 F.2.2.1 - 700 * H7.1 3 1 F.2.1 - 6 * H7.1 3 3 F.2.1 ≤ ((w.2.2 : Nat) : Int) - 18 * H.1 7 4 F.2.2.1 - 700 * H.1 3 1 F.2.1 - 6 * H.1 3 3 F.2.1 + 10 * (0) := hr13s
  have hE12 : cEx T [616, 704, 10209, 10507, 30026, 30027, 30031, 40028, 40029, 40030] H7 H := cEx.trans ehE12 hE hS (by decide)
  have hS11 : ∀ k p, T k p → T9 k p := fun k p z => shS11 k p (hS k p z)
  have g14 : H7.1 6 0 x = H.1 6 0 x := (ehE12.1 6 0 x ta0).1 (by decide)
  have g15 : H7.1 2 3 e = H.1 2 3 e := (ehE12.1 2 3 e ta1).1 (by decide)
  have g16 : H7.1 2 1 e = H.1 2 1 e := (ehE12.1 2 1 e ta1).1 (by decide)
  have g17 : H7.1 2 2 e = H.1 2 2 e := (ehE12.1 2 2 e ta1).1 (by decide)
  have g18 : H7.1 3 1 F.2.1 = H.1 3 1 F.2.1 := (ehE12.1 3 1 F.2.1 hI.top.2.1).1 (by decide)
  have g19 : H7.1 3 3 F.2.1 = H.1 3 3 F.2.1 := (ehE12.1 3 3 F.2.1 hI.top.2.1).1 (by decide)
  have t20 : T9 10 F.1 := shS11 _ _ hI.top.1
  have t21 : T9 6 x := shS11 _ _ ta0
  have t22 : T9 2 e := shS11 _ _ ta1
  rcases hv with ⟨rfl, r25⟩ | ⟨q23, rfl, t24, r25⟩
  · have r25' : (6000 ≤ H.1 7 4 F.2.2.1 ∨ x2 < 0 ∨ 120 < x2 ∨ (H.1 2 3 e) < 0 ∨ 31 < (H.1 2 3 e)) := r25
    try dsimp only [Option.toList, List.append, List.cons_append, List.nil_append]
    refine J.run0 3 rfl ?_
    try dsimp only
    exact J.retv rfl rfl rfl ⟨_, rfl, T9, hI10, hS11, hE12, (show ((w8.2.1 : Nat) : Int) - 2 * H7.1 7 4 F.2.2.1 - 13 * H7.1 3 1 F.2.1 - H7.1 3 3 F.2.1 ≤ ((w.2.1 : Nat) : Int) - 2 * H.1 7 4 F.2.2.1 - 13 * H.1 3 1 F.2.1 - H.1 3 3 F.2.1 + (0) by omega), (show ((w8.2.2 : Nat) : Int) - 18 * H7.1 7 4 F.2.2.1 - 700 * H7.1 3 1 F.2.1 - 6 * H7.1 3 3 F.2.1 ≤ ((w.2.2 : Nat) : Int) - 18 * H.1 7 4 F.2.2.1 - 700 * H.1 3 1 F.2.1 - 6 * H.1 3 3 F.2.1 + 10 * (0) by omega), (show H.1 7 4 F.2.2.1 < 6000 → H.1 0 1 (H.2.2.2.2 6 1 x) < 120 → (((w8.2.1 : Nat) : Int) - 2 * H7.1 7 4 F.2.2.1 - 13 * H7.1 3 1 F.2.1 - H7.1 3 3 F.2.1 ≤ ((w.2.1 : Nat) : Int) - 2 * H.1 7 4 F.2.2.1 - 13 * H.1 3 1 F.2.1 - H.1 3 3 F.2.1 + (-1) ∧ ((w8.2.2 : Nat) : Int) - 18 * H7.1 7 4 F.2.2.1 - 700 * H7.1 3 1 F.2.1 - 6 * H7.1 3 3 F.2.1 ≤ ((w.2.2 : Nat) : Int) - 18 * H.1 7 4 F.2.2.1 - 700 * H.1 3 1 F.2.1 - 6 * H.1 3 3 F.2.1 + 10 * (-1)) by first | (intro a b; exact ⟨by omega, by omega⟩) | (intro a b; exfalso; omega)), rfl⟩
  · have r25' : (((w8.2.1 : Nat) : Int) - 2 * H7.1 7 4 F.2.2.1 - 13 * H7.1 3 1 F.2.1 - H7.1 3 3 F.2.1 ≤ ((w.2.1 : Nat) : Int) - 2 * H.1 7 4 F.2.2.1 - 13 * H.1 3 1 F.2.1 - H.1 3 3 F.2.1 + (-1) ∧ ((w8.2.2 : Nat) : Int) - 18 * H7.1 7 4 F.2.2.1 - 700 * H7.1 3 1 F.2.1 - 6 * H7.1 3 3 F.2.1 ≤ ((w.2.2 : Nat) : Int) - 18 * H.1 7 4 F.2.2.1 - 700 * H.1 3 1 F.2.1 - 6 * H.1 3 3 F.2.1 + 10 * (-1)) := r25
    try dsimp only [Option.toList, List.append, List.cons_append, List.nil_append]
    have f26 : 0 ≤ H7.1 5 0 q23 ∧ H7.1 5 0 q23 ≤ 5999 := hI10.v 5 0 q23 t24
    refine J.run 6 rfl (hI10.is t22) ?_
    try dsimp only
    refine J.gn fun H27 hH27 => ?_
    have hI28 : cJ F T9 w8 H27 := by rw [hH27]; exact cI.wr (k := 5) hI10 rfl (fun _ z => by cases z; exact t24) (by decide)
    have hE29 : cEx T [616, 704, 10209, 10507, 30026, 30027, 30031, 40028, 40029, 40030] H27 H := by rw [hH27]; exact cEx.wr hE12 (by decide)
    have g30 : H27.1 6 0 x = H7.1 6 0 x := by subst hH27; rfl
    have g31 : H27.1 2 3 e = H7.1 2 3 e := by subst hH27; rfl
    have g32 : H27.1 2 1 e = H7.1 2 1 e := by subst hH27; rfl
    have g33 : H27.1 2 2 e = H7.1 2 2 e := by subst hH27; rfl
    have g34 : H27.1 3 1 F.2.1 = H7.1 3 1 F.2.1 := by subst hH27; rfl
    have g35 : H27.1 3 3 F.2.1 = H7.1 3 3 F.2.1 := by subst hH27; rfl
    have g36 : H27.1 7 4 F.2.2.1 = H7.1 7 4 F.2.2.1 := by subst hH27; rfl
    clear hH27
    refine J.run 4 rfl ⟨(hI28.is t20), (hI28.o 10 1 7 F.1 rfl t20).1⟩ ?_
    try dsimp only
    try dsimp only
    rw [show (H27.2.2.2.2 10 1 F.1) = F.2.2.1 from hI28.one.2.2.1 _ (hI28.o 10 1 7 F.1 rfl t20).2]
    have f37 : 0 ≤ H27.1 5 3 q23 ∧ H27.1 5 3 q23 ≤ 120 := hI28.v 5 3 q23 t24
    have f38 : 0 ≤ H27.1 5 4 q23 ∧ H27.1 5 4 q23 ≤ 31 := hI28.v 5 4 q23 t24
    refine J.run 4 rfl ⟨(hI28.is t24), (hI28.is t24)⟩ ?_
    try dsimp only
    refine J.inv rfl rfl rfl rfl rfl rfl ((jD_w rfl).mpr (hI28.is hI28.top.2.2.1)) rfl rfl rfl rfl rfl (c_X7_firstOf (height := H27.1 5 3 q23) (round := H27.1 5 4 q23) hI28  (show -2147483648 ≤ (H27.1 5 3 q23) ∧ (H27.1 5 3 q23) ≤ 2147483647 from ⟨by omega, by omega⟩) (show -2147483648 ≤ (H27.1 5 4 q23) ∧ (H27.1 5 4 q23) ≤ 2147483647 from ⟨by omega, by omega⟩)) ?_
    rintro v w8 H27 ⟨rfl, rfl, hv⟩
    rcases hv with ⟨rfl, r41⟩ | ⟨q39, rfl, t40, r41⟩
    · skip
      try dsimp only [Option.toList, List.append, List.cons_append, List.nil_append]
      refine J.inv rfl rfl rfl rfl rfl rfl ((jD_w rfl).mpr (hI28.is t21)) rfl rfl rfl rfl rfl (c_X6_learn (a0 := x) (m0 := q23) (row := none) hI28 t21 t24 (fun _ z => nomatch z) ) ?_
      rintro v w43 H42 ⟨T44, hI45, shS46, ehE47, hr48, hr48s, hv⟩
      have hr48' : ((w43.2.1 : Nat) : Int) - 2 * H42.1 7 4 F.2.2.1 - 13 * H42.1 3 1 F.2.1 - H42.1 3 3 F.2.1 ≤ ((w8.2.1 : Nat) : Int) - 2 * H27.1 7 4 F.2.2.1 - 13 * H27.1 3 1 F.2.1 - H27.1 3 3 F.2.1 + (0) := hr48
      have hr48s' : ((w43.2.2 : Nat) : Int) - 18 * H42.1 7 4 F.2.2.1 - 700 * H42.1 3 1 F.2.1 - 6 * H42.1 3 3 F.2.1 ≤ ((w8.2.2 : Nat) : Int) - 18 * H27.1 7 4 F.2.2.1 - 700 * H27.1 3 1 F.2.1 - 6 * H27.1 3 3 F.2.1 + 10 * (0) := hr48s
      have hE47 : cEx T [616, 704, 10209, 10507, 30026, 30027, 30031, 40028, 40029, 40030] H42 H := cEx.trans ehE47 hE29 hS11 (by decide)
      have hS46 : ∀ k p, T k p → T44 k p := fun k p z => shS46 k p (hS11 k p z)
      have g49 : H42.1 6 0 x = H27.1 6 0 x := (ehE47.1 6 0 x t21).1 (by decide)
      have g50 : H42.1 2 3 e = H27.1 2 3 e := (ehE47.1 2 3 e t22).1 (by decide)
      have g51 : H42.1 2 1 e = H27.1 2 1 e := (ehE47.1 2 1 e t22).1 (by decide)
      have g52 : H42.1 2 2 e = H27.1 2 2 e := (ehE47.1 2 2 e t22).1 (by decide)
      have g53 : H42.1 3 1 F.2.1 = H27.1 3 1 F.2.1 := (ehE47.1 3 1 F.2.1 hI28.top.2.1).1 (by decide)
      have g54 : H42.1 3 3 F.2.1 = H27.1 3 3 F.2.1 := (ehE47.1 3 3 F.2.1 hI28.top.2.1).1 (by decide)
      have g55 : H42.1 7 4 F.2.2.1 = H27.1 7 4 F.2.2.1 := (ehE47.1 7 4 F.2.2.1 hI28.top.2.2.1).1 (by decide)
      have g56 : H42.1 5 3 q23 = H27.1 5 3 q23 := (ehE47.1 5 3 q23 t24).1 (by decide)
      have g57 : H42.1 5 4 q23 = H27.1 5 4 q23 := (ehE47.1 5 4 q23 t24).1 (by decide)
      have t58 : T44 5 q23 := shS46 _ _ t24
      have t59 : T44 10 F.1 := shS46 _ _ t20
      have t60 : T44 6 x := shS46 _ _ t21
      have t61 : T44 2 e := shS46 _ _ t22
      obtain rfl := hv
      try dsimp only [Option.toList, List.append, List.cons_append, List.nil_append]
      exact J.retv rfl rfl rfl ⟨_, rfl, T44, hI45, hS46, hE47, (show ((w43.2.1 : Nat) : Int) - 2 * H42.1 7 4 F.2.2.1 - 13 * H42.1 3 1 F.2.1 - H42.1 3 3 F.2.1 ≤ ((w.2.1 : Nat) : Int) - 2 * H.1 7 4 F.2.2.1 - 13 * H.1 3 1 F.2.1 - H.1 3 3 F.2.1 + (0) by omega), (show ((w43.2.2 : Nat) : Int) - 18 * H42.1 7 4 F.2.2.1 - 700 * H42.1 3 1 F.2.1 - 6 * H42.1 3 3 F.2.1 ≤ ((w.2.2 : Nat) : Int) - 18 * H.1 7 4 F.2.2.1 - 700 * H.1 3 1 F.2.1 - 6 * H.1 3 3 F.2.1 + 10 * (0) by omega), (show H.1 7 4 F.2.2.1 < 6000 → H.1 0 1 (H.2.2.2.2 6 1 x) < 120 → (((w43.2.1 : Nat) : Int) - 2 * H42.1 7 4 F.2.2.1 - 13 * H42.1 3 1 F.2.1 - H42.1 3 3 F.2.1 ≤ ((w.2.1 : Nat) : Int) - 2 * H.1 7 4 F.2.2.1 - 13 * H.1 3 1 F.2.1 - H.1 3 3 F.2.1 + (-1) ∧ ((w43.2.2 : Nat) : Int) - 18 * H42.1 7 4 F.2.2.1 - 700 * H42.1 3 1 F.2.1 - 6 * H42.1 3 3 F.2.1 ≤ ((w.2.2 : Nat) : Int) - 18 * H.1 7 4 F.2.2.1 - 700 * H.1 3 1 F.2.1 - 6 * H.1 3 3 F.2.1 + 10 * (-1)) by first | (intro a b; exact ⟨by omega, by omega⟩) | (intro a b; exfalso; omega)), rfl⟩
    · skip
      try dsimp only [Option.toList, List.append, List.cons_append, List.nil_append]
      have f62 : 0 ≤ H27.1 5 0 q39 ∧ H27.1 5 0 q39 ≤ 5999 := hI28.v 5 0 q39 t40
      refine J.inv rfl rfl rfl rfl rfl rfl ((jD_w rfl).mpr (hI28.is t21)) rfl rfl rfl rfl rfl (c_X6_learn (a0 := x) (m0 := q23) (row := some q39) hI28 t21 t24 (fun _ z => by cases z; exact t40) ) ?_
      rintro v w64 H63 ⟨T65, hI66, shS67, ehE68, hr69, hr69s, hv⟩
      have hr69' : ((w64.2.1 : Nat) : Int) - 2 * H63.1 7 4 F.2.2.1 - 13 * H63.1 3 1 F.2.1 - H63.1 3 3 F.2.1 ≤ ((w8.2.1 : Nat) : Int) - 2 * H27.1 7 4 F.2.2.1 - 13 * H27.1 3 1 F.2.1 - H27.1 3 3 F.2.1 + (0) := hr69
      have hr69s' : ((w64.2.2 : Nat) : Int) - 18 * H63.1 7 4 F.2.2.1 - 700 * H63.1 3 1 F.2.1 - 6 * H63.1 3 3 F.2.1 ≤ ((w8.2.2 : Nat) : Int) - 18 * H27.1 7 4 F.2.2.1 - 700 * H27.1 3 1 F.2.1 - 6 * H27.1 3 3 F.2.1 + 10 * (0) := hr69s
      have hE68 : cEx T [616, 704, 10209, 10507, 30026, 30027, 30031, 40028, 40029, 40030] H63 H := cEx.trans ehE68 hE29 hS11 (by decide)
      have hS67 : ∀ k p, T k p → T65 k p := fun k p z => shS67 k p (hS11 k p z)
      have g70 : H63.1 6 0 x = H27.1 6 0 x := (ehE68.1 6 0 x t21).1 (by decide)
      have g71 : H63.1 2 3 e = H27.1 2 3 e := (ehE68.1 2 3 e t22).1 (by decide)
      have g72 : H63.1 2 1 e = H27.1 2 1 e := (ehE68.1 2 1 e t22).1 (by decide)
      have g73 : H63.1 2 2 e = H27.1 2 2 e := (ehE68.1 2 2 e t22).1 (by decide)
      have g74 : H63.1 3 1 F.2.1 = H27.1 3 1 F.2.1 := (ehE68.1 3 1 F.2.1 hI28.top.2.1).1 (by decide)
      have g75 : H63.1 3 3 F.2.1 = H27.1 3 3 F.2.1 := (ehE68.1 3 3 F.2.1 hI28.top.2.1).1 (by decide)
      have g76 : H63.1 7 4 F.2.2.1 = H27.1 7 4 F.2.2.1 := (ehE68.1 7 4 F.2.2.1 hI28.top.2.2.1).1 (by decide)
      have g77 : H63.1 5 3 q23 = H27.1 5 3 q23 := (ehE68.1 5 3 q23 t24).1 (by decide)
      have g78 : H63.1 5 4 q23 = H27.1 5 4 q23 := (ehE68.1 5 4 q23 t24).1 (by decide)
      have t79 : T65 5 q23 := shS67 _ _ t24
      have t80 : T65 10 F.1 := shS67 _ _ t20
      have t81 : T65 6 x := shS67 _ _ t21
      have t82 : T65 2 e := shS67 _ _ t22
      obtain rfl := hv
      try dsimp only [Option.toList, List.append, List.cons_append, List.nil_append]
      exact J.retv rfl rfl rfl ⟨_, rfl, T65, hI66, hS67, hE68, (show ((w64.2.1 : Nat) : Int) - 2 * H63.1 7 4 F.2.2.1 - 13 * H63.1 3 1 F.2.1 - H63.1 3 3 F.2.1 ≤ ((w.2.1 : Nat) : Int) - 2 * H.1 7 4 F.2.2.1 - 13 * H.1 3 1 F.2.1 - H.1 3 3 F.2.1 + (0) by omega), (show ((w64.2.2 : Nat) : Int) - 18 * H63.1 7 4 F.2.2.1 - 700 * H63.1 3 1 F.2.1 - 6 * H63.1 3 3 F.2.1 ≤ ((w.2.2 : Nat) : Int) - 18 * H.1 7 4 F.2.2.1 - 700 * H.1 3 1 F.2.1 - 6 * H.1 3 3 F.2.1 + 10 * (0) by omega), (show H.1 7 4 F.2.2.1 < 6000 → H.1 0 1 (H.2.2.2.2 6 1 x) < 120 → (((w64.2.1 : Nat) : Int) - 2 * H63.1 7 4 F.2.2.1 - 13 * H63.1 3 1 F.2.1 - H63.1 3 3 F.2.1 ≤ ((w.2.1 : Nat) : Int) - 2 * H.1 7 4 F.2.2.1 - 13 * H.1 3 1 F.2.1 - H.1 3 3 F.2.1 + (-1) ∧ ((w64.2.2 : Nat) : Int) - 18 * H63.1 7 4 F.2.2.1 - 700 * H63.1 3 1 F.2.1 - 6 * H63.1 3 3 F.2.1 ≤ ((w.2.2 : Nat) : Int) - 18 * H.1 7 4 F.2.2.1 - 700 * H.1 3 1 F.2.1 - 6 * H.1 3 3 F.2.1 + 10 * (-1)) by first | (intro a b; exact ⟨by omega, by omega⟩) | (intro a b; exfalso; omega)), rfl⟩
end
