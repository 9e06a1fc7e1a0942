-- M: X3_addBest
section
variable {d : Nat} {F : cG} 
set_option maxRecDepth 20000 in
set_option maxHeartbeats 8000000 in
theorem c_X3_addBest_l0 {b : Nat} {proposer : Int} {T0 : cP} {w0 : jW} {H0 : jH} (hI0 : cJ F T0 w0 H0) (ta0 : T0 0 b) (hp0 : 0 ≤ proposer ∧ proposer ≤ 15) : ∀ (m : Nat), (∀ (many t : Int) (T : cP) (w : jW) (H : jH) (lv : jL), 1500 - t < (m : Int) → (0 ≤ many ∧ many ≤ 12) → (0 ≤ t ∧ t ≤ 1500) → (H.1 3 1 F.2.1 < 300) → (H0.2.1 0 6 b ≠ none) → (((w.2.1 : Nat) : Int) - 2 * H.1 7 4 F.2.2.1 - 13 * H.1 3 1 F.2.1 - H.1 3 3 F.2.1 ≤ ((w0.2.1 : Nat) : Int) - 2 * H0.1 7 4 F.2.2.1 - 13 * H0.1 3 1 F.2.1 - H0.1 3 3 F.2.1 + (0)) → (((w.2.2 : Nat) : Int) - 18 * H.1 7 4 F.2.2.1 - 700 * H.1 3 1 F.2.1 - 6 * H.1 3 3 F.2.1 ≤ ((w0.2.2 : Nat) : Int) - 18 * H0.1 7 4 F.2.2.1 - 700 * H0.1 3 1 F.2.1 - 6 * H0.1 3 3 F.2.1 + 10 * (0)) → cJ F T w H → (∀ k p, T0 k p → T k p) → cEx T0 [301, 307, 804, 808, 809, 811, 813, 30023, 30024, 30032, 30033, 30034, 30035, 30036, 30037, 30038, 30039, 30043, 40021] H H0 → ((lv = [(4, .inl t), (3, .inl many), (0, .inr (some (3, F.2.1))), (1, .inr (some (0, b))), (2, .inl proposer)])) → J false (d + 3) 17 w (26, lv, [], H) (jN fun v w' H' => ∃ T', cJ F T' w' H' ∧ (∀ k p, T0 k p → T' k p) ∧ cEx T0 [301, 307, 804, 808, 809, 811, 813, 30023, 30024, 30032, 30033, 30034, 30035, 30036, 30037, 30038, 30039, 30043, 40021] H' H0 ∧ ((w'.2.1 : Nat) : Int) - 2 * H'.1 7 4 F.2.2.1 - 13 * H'.1 3 1 F.2.1 - H'.1 3 3 F.2.1 ≤ ((w0.2.1 : Nat) : Int) - 2 * H0.1 7 4 F.2.2.1 - 13 * H0.1 3 1 F.2.1 - H0.1 3 3 F.2.1 + (0) ∧ ((w'.2.2 : Nat) : Int) - 18 * H'.1 7 4 F.2.2.1 - 700 * H'.1 3 1 F.2.1 - 6 * H'.1 3 3 F.2.1 ≤ ((w0.2.2 : Nat) : Int) - 18 * H0.1 7 4 F.2.2.1 - 700 * H0.1 3 1 F.2.1 - 6 * H0.1 3 3 F.2.1 + 10 * (0) ∧ ∃ rv, v = some (.inl rv) ∧ (-1 ≤ rv ∧ rv ≤ 299))) := by
  intro m
  induction m with
  | zero =>
    skip
    · intro many t T w H lv hm hi0 hi1 hi2 hi3 hi4 hi5 hI hS hE hlv
      exfalso
      omega
  | succ m ih =>
    skip
    · intro many t T w H lv hm hi0 hi1 hi2 hi3 hi4 hi5 hI hS hE hlv
      rcases hlv with rfl
      have f1 : 0 ≤ H.1 3 3 F.2.1 ∧ H.1 3 3 F.2.1 ≤ 1500 := hI.v 3 3 F.2.1 hI.top.2.1
      refine J.run 3 rfl (hI.is hI.top.2.1) ?_
      try dsimp only
      refine J.icmp rfl rfl rfl ⟨(show -2147483648 ≤ t ∧ t ≤ 2147483647 from ⟨by omega, by omega⟩), (show -2147483648 ≤ H.1 3 3 F.2.1 ∧ H.1 3 3 F.2.1 ≤ 2147483647 from ⟨by omega, by omega⟩)⟩ (fun hc => ?_) (fun hc => ?_)
      · have c2 : H.1 3 3 F.2.1 ≤ t := hc
        clear hc
        refine J.run 6 rfl ⟨(hI.is hI.top.2.1), hI.is (hI.r 3 5 23 F.2.1 rfl hI.top.2.1)⟩ ?_
        try dsimp only
        refine J.ins5 rfl rfl rfl (Or.inl rfl) rfl rfl (by decide) rfl rfl (jstP.of rfl) (c_J7_copyOf_59c91_23 (row := F.2.1) (n := many) hI (hI.r 3 5 23 F.2.1 rfl hI.top.2.1) (show 0 ≤ many ∧ many ≤ 12 from ⟨by omega, by omega⟩)) ?_
        rintro v w4 H3 ⟨T5, hI6, shS7, ehE8, hr9, hr9s, hv⟩
        have hr9' : ((w4.2.1 : Nat) : Int) - 2 * H3.1 7 4 F.2.2.1 - 13 * H3.1 3 1 F.2.1 - H3.1 3 3 F.2.1 ≤ ((w.2.1 : Nat) : Int) - 2 * H.1 7 4 F.2.2.1 - 13 * H.1 3 1 F.2.1 - H.1 3 3 F.2.1 + (2) := hr9
        have hr9s' : ((w4.2.2 : Nat) : Int) - 18 * H3.1 7 4 F.2.2.1 - 700 * H3.1 3 1 F.2.1 - 6 * H3.1 3 3 F.2.1 ≤ ((w.2.2 : Nat) : Int) - 18 * H.1 7 4 F.2.2.1 - 700 * H.1 3 1 F.2.1 - 6 * H.1 3 3 F.2.1 + 10 * (2) := hr9s
        have hE8 : cEx T0 [301, 307, 804, 808, 809, 811, 813, 30023, 30024, 30032, 30033, 30034, 30035, 30036, 30037, 30038, 30039, 30043, 40021] H3 H0 := cEx.trans ehE8 hE hS (by decide)
        have hS7 : ∀ k p, T0 k p → T5 k p := fun k p z => shS7 k p (hS k p z)
        have g10 : H3.1 3 1 F.2.1 = H.1 3 1 F.2.1 := (ehE8.1 3 1 F.2.1 hI.top.2.1).1 (by decide)
        have g11 : H3.1 7 4 F.2.2.1 = H.1 7 4 F.2.2.1 := (ehE8.1 7 4 F.2.2.1 hI.top.2.2.1).1 (by decide)
        have g12 : H3.1 3 3 F.2.1 = H.1 3 3 F.2.1 := (ehE8.1 3 3 F.2.1 hI.top.2.1).1 (by decide)
        have t13 : T5 3 F.2.1 := shS7 _ _ hI.top.2.1
        have t14 : T5 0 b := shS7 _ _ (hS _ _ ta0)
        obtain ⟨q15, rfl, t16, r17⟩ := hv
        try dsimp only [Option.toList, List.append, List.cons_append, List.nil_append]
        refine J.run 2 rfl (hI6.is t14) ?_
        try dsimp only
        try dsimp only
        rcases hn18 : H3.2.1 0 6 b with _ | q19
        · exact absurd (((hE8.1 0 6 b ta0).2.1 (by decide)).symm.trans hn18) hi3
        · have t20 : T5 8 q19 := hI6.n 0 6 8 b rfl t14 hn18
          refine J.run 2 rfl ⟨(hI6.is t20), (hI6.o 8 12 43 q19 rfl t20).1⟩ ?_
          try dsimp only
          refine J.inv rfl rfl rfl rfl rfl rfl ((jD_w rfl).mpr (hI6.is t13)) rfl rfl rfl rfl rfl (c_X3_add (b := b) (proposer := proposer) (row := q15) (cl := (H3.2.2.2.2 8 12 q19)) (sound := (1 : Int)) hI6 t14 t16 (hI6.o 8 12 43 q19 rfl t20).2 (show H3.1 3 1 F.2.1 < 300 from by omega) (show 0 ≤ (1 : Int) ∧ (1 : Int) ≤ 1 from ⟨by omega, by omega⟩)) ?_
          rintro v w22 H21 ⟨T23, hI24, shS25, ehE26, hr27, hr27s, hv⟩
          have hr27' : ((w22.2.1 : Nat) : Int) - 2 * H21.1 7 4 F.2.2.1 - 13 * H21.1 3 1 F.2.1 - H21.1 3 3 F.2.1 ≤ ((w4.2.1 : Nat) : Int) - 2 * H3.1 7 4 F.2.2.1 - 13 * H3.1 3 1 F.2.1 - H3.1 3 3 F.2.1 + (-2) := hr27
          have hr27s' : ((w22.2.2 : Nat) : Int) - 18 * H21.1 7 4 F.2.2.1 - 700 * H21.1 3 1 F.2.1 - 6 * H21.1 3 3 F.2.1 ≤ ((w4.2.2 : Nat) : Int) - 18 * H3.1 7 4 F.2.2.1 - 700 * H3.1 3 1 F.2.1 - 6 * H3.1 3 3 F.2.1 + 10 * (-2) := hr27s
          have hE26 : cEx T0 [301, 307, 804, 808, 809, 811, 813, 30023, 30024, 30032, 30033, 30034, 30035, 30036, 30037, 30038, 30039, 30043, 40021] H21 H0 := cEx.trans ehE26 hE8 hS7 (by decide)
          have hS25 : ∀ k p, T0 k p → T23 k p := fun k p z => shS25 k p (hS7 k p z)
          have g28 : H21.1 7 4 F.2.2.1 = H3.1 7 4 F.2.2.1 := (ehE26.1 7 4 F.2.2.1 hI6.top.2.2.1).1 (by decide)
          have g29 : H21.1 3 3 F.2.1 = H3.1 3 3 F.2.1 := (ehE26.1 3 3 F.2.1 t13).1 (by decide)
          have t30 : T23 3 F.2.1 := shS25 _ _ t13
          have t31 : T23 0 b := shS25 _ _ t14
          obtain ⟨x32, rfl, r33⟩ := hv
          have r33' : 0 ≤ x32 ∧ x32 ≤ 299 := r33
          try dsimp only [Option.toList, List.append, List.cons_append, List.nil_append]
          exact J.reti rfl rfl rfl ⟨_, rfl, T23, hI24, hS25, hE26, (show ((w22.2.1 : Nat) : Int) - 2 * H21.1 7 4 F.2.2.1 - 13 * H21.1 3 1 F.2.1 - H21.1 3 3 F.2.1 ≤ ((w0.2.1 : Nat) : Int) - 2 * H0.1 7 4 F.2.2.1 - 13 * H0.1 3 1 F.2.1 - H0.1 3 3 F.2.1 + (0) by omega), (show ((w22.2.2 : Nat) : Int) - 18 * H21.1 7 4 F.2.2.1 - 700 * H21.1 3 1 F.2.1 - 6 * H21.1 3 3 F.2.1 ≤ ((w0.2.2 : Nat) : Int) - 18 * H0.1 7 4 F.2.2.1 - 700 * H0.1 3 1 F.2.1 - 6 * H0.1 3 3 F.2.1 + 10 * (0) by omega), _, rfl, (show -1 ≤ (x32) ∧ (x32) ≤ 299 from ⟨by omega, by omega⟩)⟩
      · have c34 : ¬ (H.1 3 3 F.2.1 ≤ t) := hc
        clear hc
        refine J.run0 2 rfl ?_
        try dsimp only
        refine J.icmp rfl rfl rfl ⟨(show -2147483648 ≤ many ∧ many ≤ 2147483647 from ⟨by omega, by omega⟩), (show -2147483648 ≤ (12 : Int) ∧ (12 : Int) ≤ 2147483647 from ⟨by omega, by omega⟩)⟩ (fun hc => ?_) (fun hc => ?_)
        · have c35 : (12 : Int) ≤ many := hc
          clear hc
          refine J.run 6 rfl ⟨(hI.is hI.top.2.1), hI.is (hI.r 3 5 23 F.2.1 rfl hI.top.2.1)⟩ ?_
          try dsimp only
          refine J.ins5 rfl rfl rfl (Or.inl rfl) rfl rfl (by decide) rfl rfl (jstP.of rfl) (c_J7_copyOf_59c91_23 (row := F.2.1) (n := many) hI (hI.r 3 5 23 F.2.1 rfl hI.top.2.1) (show 0 ≤ many ∧ many ≤ 12 from ⟨by omega, by omega⟩)) ?_
          rintro v w37 H36 ⟨T38, hI39, shS40, ehE41, hr42, hr42s, hv⟩
          have hr42' : ((w37.2.1 : Nat) : Int) - 2 * H36.1 7 4 F.2.2.1 - 13 * H36.1 3 1 F.2.1 - H36.1 3 3 F.2.1 ≤ ((w.2.1 : Nat) : Int) - 2 * H.1 7 4 F.2.2.1 - 13 * H.1 3 1 F.2.1 - H.1 3 3 F.2.1 + (2) := hr42
          have hr42s' : ((w37.2.2 : Nat) : Int) - 18 * H36.1 7 4 F.2.2.1 - 700 * H36.1 3 1 F.2.1 - 6 * H36.1 3 3 F.2.1 ≤ ((w.2.2 : Nat) : Int) - 18 * H.1 7 4 F.2.2.1 - 700 * H.1 3 1 F.2.1 - 6 * H.1 3 3 F.2.1 + 10 * (2) := hr42s
          have hE41 : cEx T0 [301, 307, 804, 808, 809, 811, 813, 30023, 30024, 30032, 30033, 30034, 30035, 30036, 30037, 30038, 30039, 30043, 40021] H36 H0 := cEx.trans ehE41 hE hS (by decide)
          have hS40 : ∀ k p, T0 k p → T38 k p := fun k p z => shS40 k p (hS k p z)
          have g43 : H36.1 3 1 F.2.1 = H.1 3 1 F.2.1 := (ehE41.1 3 1 F.2.1 hI.top.2.1).1 (by decide)
          have g44 : H36.1 7 4 F.2.2.1 = H.1 7 4 F.2.2.1 := (ehE41.1 7 4 F.2.2.1 hI.top.2.2.1).1 (by decide)
          have g45 : H36.1 3 3 F.2.1 = H.1 3 3 F.2.1 := (ehE41.1 3 3 F.2.1 hI.top.2.1).1 (by decide)
          have t46 : T38 3 F.2.1 := shS40 _ _ hI.top.2.1
          have t47 : T38 0 b := shS40 _ _ (hS _ _ ta0)
          obtain ⟨q48, rfl, t49, r50⟩ := hv
          try dsimp only [Option.toList, List.append, List.cons_append, List.nil_append]
          refine J.run 2 rfl (hI39.is t47) ?_
          try dsimp only
          try dsimp only
          rcases hn51 : H36.2.1 0 6 b with _ | q52
          · exact absurd (((hE41.1 0 6 b ta0).2.1 (by decide)).symm.trans hn51) hi3
          · have t53 : T38 8 q52 := hI39.n 0 6 8 b rfl t47 hn51
            refine J.run 2 rfl ⟨(hI39.is t53), (hI39.o 8 12 43 q52 rfl t53).1⟩ ?_
            try dsimp only
            refine J.inv rfl rfl rfl rfl rfl rfl ((jD_w rfl).mpr (hI39.is t46)) rfl rfl rfl rfl rfl (c_X3_add (b := b) (proposer := proposer) (row := q48) (cl := (H36.2.2.2.2 8 12 q52)) (sound := (1 : Int)) hI39 t47 t49 (hI39.o 8 12 43 q52 rfl t53).2 (show H36.1 3 1 F.2.1 < 300 from by omega) (show 0 ≤ (1 : Int) ∧ (1 : Int) ≤ 1 from ⟨by omega, by omega⟩)) ?_
            rintro v w55 H54 ⟨T56, hI57, shS58, ehE59, hr60, hr60s, hv⟩
            have hr60' : ((w55.2.1 : Nat) : Int) - 2 * H54.1 7 4 F.2.2.1 - 13 * H54.1 3 1 F.2.1 - H54.1 3 3 F.2.1 ≤ ((w37.2.1 : Nat) : Int) - 2 * H36.1 7 4 F.2.2.1 - 13 * H36.1 3 1 F.2.1 - H36.1 3 3 F.2.1 + (-2) := hr60
            have hr60s' : ((w55.2.2 : Nat) : Int) - 18 * H54.1 7 4 F.2.2.1 - 700 * H54.1 3 1 F.2.1 - 6 * H54.1 3 3 F.2.1 ≤ ((w37.2.2 : Nat) : Int) - 18 * H36.1 7 4 F.2.2.1 - 700 * H36.1 3 1 F.2.1 - 6 * H36.1 3 3 F.2.1 + 10 * (-2) := hr60s
            have hE59 : cEx T0 [301, 307, 804, 808, 809, 811, 813, 30023, 30024, 30032, 30033, 30034, 30035, 30036, 30037, 30038, 30039, 30043, 40021] H54 H0 := cEx.trans ehE59 hE41 hS40 (by decide)
            have hS58 : ∀ k p, T0 k p → T56 k p := fun k p z => shS58 k p (hS40 k p z)
            have g61 : H54.1 7 4 F.2.2.1 = H36.1 7 4 F.2.2.1 := (ehE59.1 7 4 F.2.2.1 hI39.top.2.2.1).1 (by decide)
            have g62 : H54.1 3 3 F.2.1 = H36.1 3 3 F.2.1 := (ehE59.1 3 3 F.2.1 t46).1 (by decide)
            have t63 : T56 3 F.2.1 := shS58 _ _ t46
            have t64 : T56 0 b := shS58 _ _ t47
            obtain ⟨x65, rfl, r66⟩ := hv
            have r66' : 0 ≤ x65 ∧ x65 ≤ 299 := r66
            try dsimp only [Option.toList, List.append, List.cons_append, List.nil_append]
            exact J.reti rfl rfl rfl ⟨_, rfl, T56, hI57, hS58, hE59, (show ((w55.2.1 : Nat) : Int) - 2 * H54.1 7 4 F.2.2.1 - 13 * H54.1 3 1 F.2.1 - H54.1 3 3 F.2.1 ≤ ((w0.2.1 : Nat) : Int) - 2 * H0.1 7 4 F.2.2.1 - 13 * H0.1 3 1 F.2.1 - H0.1 3 3 F.2.1 + (0) by omega), (show ((w55.2.2 : Nat) : Int) - 18 * H54.1 7 4 F.2.2.1 - 700 * H54.1 3 1 F.2.1 - 6 * H54.1 3 3 F.2.1 ≤ ((w0.2.2 : Nat) : Int) - 18 * H0.1 7 4 F.2.2.1 - 700 * H0.1 3 1 F.2.1 - 6 * H0.1 3 3 F.2.1 + 10 * (0) by omega), _, rfl, (show -1 ≤ (x65) ∧ (x65) ≤ 299 from ⟨by omega, by omega⟩)⟩
        · have c67 : ¬ ((12 : Int) ≤ many) := hc
          clear hc
          refine J.run 6 rfl ⟨⟨(hI.is hI.top.2.1), hI.is (hI.r 3 6 24 F.2.1 rfl hI.top.2.1)⟩, (show w.1 24 F.2.1 ∧ 0 ≤ t ∧ t < 1500 from ⟨hI.is (hI.r 3 6 24 F.2.1 rfl hI.top.2.1), by omega, by omega⟩), (hI.is hI.top.2.1)⟩ ?_
          try dsimp only
          refine J.icmpN rfl rfl rfl (fun hc => ?_) (fun hc => ?_)
          · have c68 : jn (H.2.2.1 24 F.2.1 (t)) = jn (H.1 3 7 F.2.1) := hc
            clear hc
            refine J.run0 2 rfl ?_
            try dsimp only
            exact ih (many) (t + 1) T w H _ (show 1500 - (t + 1) < _ by omega) (show 0 ≤ (many) ∧ (many) ≤ 12 from ⟨by omega, by omega⟩) (show 0 ≤ (t + 1) ∧ (t + 1) ≤ 1500 from ⟨by omega, by omega⟩) (show H.1 3 1 F.2.1 < 300 from by omega) (show H0.2.1 0 6 b ≠ none from (by first | assumption | (intro z; simp_all))) (show ((w.2.1 : Nat) : Int) - 2 * H.1 7 4 F.2.2.1 - 13 * H.1 3 1 F.2.1 - H.1 3 3 F.2.1 ≤ ((w0.2.1 : Nat) : Int) - 2 * H0.1 7 4 F.2.2.1 - 13 * H0.1 3 1 F.2.1 - H0.1 3 3 F.2.1 + (0) from by omega) (show ((w.2.2 : Nat) : Int) - 18 * H.1 7 4 F.2.2.1 - 700 * H.1 3 1 F.2.1 - 6 * H.1 3 3 F.2.1 ≤ ((w0.2.2 : Nat) : Int) - 18 * H0.1 7 4 F.2.2.1 - 700 * H0.1 3 1 F.2.1 - 6 * H0.1 3 3 F.2.1 + 10 * (0) from by omega) hI hS hE  rfl
          · have c69 : ¬ (jn (H.2.2.1 24 F.2.1 (t)) = jn (H.1 3 7 F.2.1)) := hc
            clear hc
            refine J.run 6 rfl ⟨⟨(hI.is hI.top.2.1), (hI.o 3 4 8 F.2.1 rfl hI.top.2.1).1⟩, ⟨(hI.is hI.top.2.1), hI.is (hI.r 3 2 22 F.2.1 rfl hI.top.2.1)⟩, (show w.1 22 F.2.1 ∧ 0 ≤ t ∧ t < 1500 from ⟨hI.is (hI.r 3 2 22 F.2.1 rfl hI.top.2.1), by omega, by omega⟩)⟩ ?_
            try dsimp only
            try dsimp only
            rcases hn70 : H.2.2.2.1 22 F.2.1 (t) with _ | q71
            · exact absurd hn70 (hI.tr (by omega) (by omega))
            · have t72 : T 9 q71 := hI.a 22 F.2.1 rfl (hI.r 3 2 22 F.2.1 rfl hI.top.2.1) hn70
              have f73 : 0 ≤ H.1 0 1 b ∧ H.1 0 1 b ≤ 299 := hI.v 0 1 b (hS _ _ ta0)
              refine J.run 5 rfl (hI.is (hS _ _ ta0)) ?_
              try dsimp only
              refine J.inv rfl rfl rfl rfl rfl rfl ((jD_w rfl).mpr (hI.is (hI.o 3 4 8 F.2.1 rfl hI.top.2.1).2)) rfl rfl rfl rfl rfl (c_X8_perform (a0 := (H.2.2.2.2 3 4 F.2.1)) (t := q71) (proposer := proposer) (height := (H.1 0 1 b) + (1 : Int)) hI (hI.o 3 4 8 F.2.1 rfl hI.top.2.1).2 t72 (show 0 ≤ proposer ∧ proposer ≤ 15 from ⟨by omega, by omega⟩)) ?_
              rintro v w75 H74 ⟨T76, hI77, shS78, ehE79, hr80, hr80s, hv⟩
              have hr80' : ((w75.2.1 : Nat) : Int) - 2 * H74.1 7 4 F.2.2.1 - 13 * H74.1 3 1 F.2.1 - H74.1 3 3 F.2.1 ≤ ((w.2.1 : Nat) : Int) - 2 * H.1 7 4 F.2.2.1 - 13 * H.1 3 1 F.2.1 - H.1 3 3 F.2.1 + (0) := hr80
              have hr80s' : ((w75.2.2 : Nat) : Int) - 18 * H74.1 7 4 F.2.2.1 - 700 * H74.1 3 1 F.2.1 - 6 * H74.1 3 3 F.2.1 ≤ ((w.2.2 : Nat) : Int) - 18 * H.1 7 4 F.2.2.1 - 700 * H.1 3 1 F.2.1 - 6 * H.1 3 3 F.2.1 + 10 * (0) := hr80s
              have hE79 : cEx T0 [301, 307, 804, 808, 809, 811, 813, 30023, 30024, 30032, 30033, 30034, 30035, 30036, 30037, 30038, 30039, 30043, 40021] H74 H0 := cEx.trans ehE79 hE hS (by decide)
              have hS78 : ∀ k p, T0 k p → T76 k p := fun k p z => shS78 k p (hS k p z)
              have g81 : H74.1 3 1 F.2.1 = H.1 3 1 F.2.1 := (ehE79.1 3 1 F.2.1 hI.top.2.1).1 (by decide)
              have g82 : H74.1 7 4 F.2.2.1 = H.1 7 4 F.2.2.1 := (ehE79.1 7 4 F.2.2.1 hI.top.2.2.1).1 (by decide)
              have g83 : H74.1 3 3 F.2.1 = H.1 3 3 F.2.1 := (ehE79.1 3 3 F.2.1 hI.top.2.1).1 (by decide)
              have g84 : H74.1 0 1 b = H.1 0 1 b := (ehE79.1 0 1 b (hS _ _ ta0)).1 (by decide)
              have t85 : T76 3 F.2.1 := shS78 _ _ hI.top.2.1
              have t86 : T76 0 b := shS78 _ _ (hS _ _ ta0)
              obtain ⟨x87, rfl, r88⟩ := hv
              have r88' : x87 = 0 ∨ x87 = 1 := r88
              try dsimp only [Option.toList, List.append, List.cons_append, List.nil_append]
              refine J.ifc rfl rfl rfl (show -2147483648 ≤ x87 ∧ x87 ≤ 2147483647 from ⟨by omega, by omega⟩) (fun hc => ?_) (fun hc => ?_)
              · have c89 : x87 = (0 : Int) := hc
                clear hc
                refine J.run0 2 rfl ?_
                try dsimp only
                exact ih (many) (t + 1) T76 w75 H74 _ (show 1500 - (t + 1) < _ by omega) (show 0 ≤ (many) ∧ (many) ≤ 12 from ⟨by omega, by omega⟩) (show 0 ≤ (t + 1) ∧ (t + 1) ≤ 1500 from ⟨by omega, by omega⟩) (show H74.1 3 1 F.2.1 < 300 from by omega) (show H0.2.1 0 6 b ≠ none from (by first | assumption | (intro z; simp_all))) (show ((w75.2.1 : Nat) : Int) - 2 * H74.1 7 4 F.2.2.1 - 13 * H74.1 3 1 F.2.1 - H74.1 3 3 F.2.1 ≤ ((w0.2.1 : Nat) : Int) - 2 * H0.1 7 4 F.2.2.1 - 13 * H0.1 3 1 F.2.1 - H0.1 3 3 F.2.1 + (0) from by omega) (show ((w75.2.2 : Nat) : Int) - 18 * H74.1 7 4 F.2.2.1 - 700 * H74.1 3 1 F.2.1 - 6 * H74.1 3 3 F.2.1 ≤ ((w0.2.2 : Nat) : Int) - 18 * H0.1 7 4 F.2.2.1 - 700 * H0.1 3 1 F.2.1 - 6 * H0.1 3 3 F.2.1 + 10 * (0) from by omega) hI77 hS78 hE79  rfl
              · have c90 : ¬ (x87 = (0 : Int)) := hc
                clear hc
                refine J.run 5 rfl ⟨⟨(hI77.is t85), hI77.is (hI77.r 3 5 23 F.2.1 rfl t85)⟩, (show w75.1 23 F.2.1 ∧ 0 ≤ many ∧ many < 12 from ⟨hI77.is (hI77.r 3 5 23 F.2.1 rfl t85), by omega, by omega⟩)⟩ ?_
                try dsimp only
                refine J.gn fun H91 hH91 => ?_
                have hI92 : cJ F T76 w75 H91 := by rw [hH91]; exact cI.wRj hI77 (hI77.r 3 5 23 F.2.1 rfl t85) (show 0 ≤ t ∧ t ≤ 1499 from ⟨by omega, by omega⟩)
                have hE93 : cEx T0 [301, 307, 804, 808, 809, 811, 813, 30023, 30024, 30032, 30033, 30034, 30035, 30036, 30037, 30038, 30039, 30043, 40021] H91 H0 := by rw [hH91]; exact cEx.wR hE79 (by decide)
                have g94 : H91.1 3 1 F.2.1 = H74.1 3 1 F.2.1 := by subst hH91; rfl
                have g95 : H91.1 7 4 F.2.2.1 = H74.1 7 4 F.2.2.1 := by subst hH91; rfl
                have g96 : H91.1 3 3 F.2.1 = H74.1 3 3 F.2.1 := by subst hH91; rfl
                have g97 : H91.1 0 1 b = H74.1 0 1 b := by subst hH91; rfl
                clear hH91
                refine J.run0 3 rfl ?_
                try dsimp only
                exact ih (many + 1) (t + 1) T76 w75 H91 _ (show 1500 - (t + 1) < _ by omega) (show 0 ≤ (many + 1) ∧ (many + 1) ≤ 12 from ⟨by omega, by omega⟩) (show 0 ≤ (t + 1) ∧ (t + 1) ≤ 1500 from ⟨by omega, by omega⟩) (show H91.1 3 1 F.2.1 < 300 from by omega) (show H0.2.1 0 6 b ≠ none from (by first | assumption | (intro z; simp_all))) (show ((w75.2.1 : Nat) : Int) - 2 * H91.1 7 4 F.2.2.1 - 13 * H91.1 3 1 F.2.1 - H91.1 3 3 F.2.1 ≤ ((w0.2.1 : Nat) : Int) - 2 * H0.1 7 4 F.2.2.1 - 13 * H0.1 3 1 F.2.1 - H0.1 3 3 F.2.1 + (0) from by omega) (show ((w75.2.2 : Nat) : Int) - 18 * H91.1 7 4 F.2.2.1 - 700 * H91.1 3 1 F.2.1 - 6 * H91.1 3 3 F.2.1 ≤ ((w0.2.2 : Nat) : Int) - 18 * H0.1 7 4 F.2.2.1 - 700 * H0.1 3 1 F.2.1 - 6 * H0.1 3 3 F.2.1 + 10 * (0) from by omega) hI92 hS78 hE93  rfl
set_option maxRecDepth 20000 in
set_option maxHeartbeats 8000000 in
theorem c_X3_addBest {b : Nat} {proposer : Int} {T : cP} {w : jW} {H : jH} (hI : cJ F T w H) (ta0 : T 0 b) (hp0 : 0 ≤ proposer ∧ proposer ≤ 15) : J false (d + 3) 17 w (0, jargs 0 [.inr (some (3, F.2.1)), .inr (some (0, b)), .inl proposer], [], H) (jN fun v w' H' => ∃ T', cJ F T' w' H' ∧ (∀ k p, T k p → T' k p) ∧ cEx T [301, 307, 804, 808, 809, 811, 813, 30023, 30024, 30032, 30033, 30034, 30035, 30036, 30037, 30038, 30039, 30043, 40021] H' H ∧ ((w'.2.1 : Nat) : Int) - 2 * H'.1 7 4 F.2.2.1 - 13 * H'.1 3 1 F.2.1 - H'.1 3 3 F.2.1 ≤ ((w.2.1 : Nat) : Int) - 2 * H.1 7 4 F.2.2.1 - 13 * H.1 3 1 F.2.1 - H.1 3 3 F.2.1 + (0) ∧ ((w'.2.2 : Nat) : Int) - 18 * H'.1 7 4 F.2.2.1 - 700 * H'.1 3 1 F.2.1 - 6 * H'.1 3 3 F.2.1 ≤ ((w.2.2 : Nat) : Int) - 18 * H.1 7 4 F.2.2.1 - 700 * H.1 3 1 F.2.1 - 6 * H.1 3 3 F.2.1 + 10 * (0) ∧ ∃ rv, v = some (.inl rv) ∧ (-1 ≤ rv ∧ rv ≤ 299)) := by
  have hE : cEx T [301, 307, 804, 808, 809, 811, 813, 30023, 30024, 30032, 30033, 30034, 30035, 30036, 30037, 30038, 30039, 30043, 40021] H H := cEx.refl
  have hS : ∀ k p, T k p → T k p := fun _ _ z => z
  refine J.run0 1 rfl ?_
  try dsimp only
  refine J.inv rfl rfl rfl rfl rfl rfl ((jD_w rfl).mpr (hI.is hI.top.2.1)) rfl rfl rfl rfl rfl (c_X3_isFull  hI  ) ?_
  rintro v w H ⟨rfl, rfl, hv⟩
  obtain ⟨x98, rfl, r99⟩ := hv
  have r99' : (x98 = 0 ∨ x98 = 1) ∧ (x98 = 0 → H.1 3 1 F.2.1 < 300) := r99
  try dsimp only [Option.toList, List.append, List.cons_append, List.nil_append]
  refine J.ifc rfl rfl rfl (show -2147483648 ≤ x98 ∧ x98 ≤ 2147483647 from ⟨by omega, by omega⟩) (fun hc => ?_) (fun hc => ?_)
  · have c100 : ¬ (x98 = (0 : Int)) := hc
    clear hc
    refine J.run0 1 rfl ?_
    try dsimp only
    exact J.reti rfl rfl rfl ⟨_, rfl, T, hI, hS, hE, (show ((w.2.1 : Nat) : Int) - 2 * H.1 7 4 F.2.2.1 - 13 * H.1 3 1 F.2.1 - H.1 3 3 F.2.1 ≤ ((w.2.1 : Nat) : Int) - 2 * H.1 7 4 F.2.2.1 - 13 * H.1 3 1 F.2.1 - H.1 3 3 F.2.1 + (0) by omega), (show ((w.2.2 : Nat) : Int) - 18 * H.1 7 4 F.2.2.1 - 700 * H.1 3 1 F.2.1 - 6 * H.1 3 3 F.2.1 ≤ ((w.2.2 : Nat) : Int) - 18 * H.1 7 4 F.2.2.1 - 700 * H.1 3 1 F.2.1 - 6 * H.1 3 3 F.2.1 + 10 * (0) by omega), _, rfl, (show -1 ≤ ((-1 : Int)) ∧ ((-1 : Int)) ≤ 299 from ⟨by omega, by omega⟩)⟩
  · have c101 : ¬ (¬ (x98 = (0 : Int))) := hc
    clear hc
    refine J.run 2 rfl (hI.is ta0) ?_
    try dsimp only
    try dsimp only
    rcases hn102 : H.2.1 0 6 b with _ | q103
    · skip
      refine J.run0 2 rfl ?_
      try dsimp only
      exact J.reti rfl rfl rfl ⟨_, rfl, T, hI, hS, hE, (show ((w.2.1 : Nat) : Int) - 2 * H.1 7 4 F.2.2.1 - 13 * H.1 3 1 F.2.1 - H.1 3 3 F.2.1 ≤ ((w.2.1 : Nat) : Int) - 2 * H.1 7 4 F.2.2.1 - 13 * H.1 3 1 F.2.1 - H.1 3 3 F.2.1 + (0) by omega), (show ((w.2.2 : Nat) : Int) - 18 * H.1 7 4 F.2.2.1 - 700 * H.1 3 1 F.2.1 - 6 * H.1 3 3 F.2.1 ≤ ((w.2.2 : Nat) : Int) - 18 * H.1 7 4 F.2.2.1 - 700 * H.1 3 1 F.2.1 - 6 * H.1 3 3 F.2.1 + 10 * (0) by omega), _, rfl, (show -1 ≤ ((-1 : Int)) ∧ ((-1 : Int)) ≤ 299 from ⟨by omega, by omega⟩)⟩
    · have t104 : T 8 q103 := hI.n 0 6 8 b rfl ta0 hn102
      refine J.run0 3 rfl ?_
      try dsimp only
      refine J.inv rfl rfl rfl rfl rfl rfl ((jD_w rfl).mpr (hI.is hI.top.2.1)) rfl rfl rfl rfl rfl (c_X3_openTrial (b := b) hI ta0 (show H.2.1 0 6 b ≠ none by first | exact hp0 | (rw [hn102]; exact (nomatch ·)) | (intro z; simp_all))) ?_
      rintro v w106 H105 ⟨T107, hI108, shS109, ehE110, hr111, hr111s, hv⟩
      have hr111' : ((w106.2.1 : Nat) : Int) - 2 * H105.1 7 4 F.2.2.1 - 13 * H105.1 3 1 F.2.1 - H105.1 3 3 F.2.1 ≤ ((w.2.1 : Nat) : Int) - 2 * H.1 7 4 F.2.2.1 - 13 * H.1 3 1 F.2.1 - H.1 3 3 F.2.1 + (0) := hr111
      have hr111s' : ((w106.2.2 : Nat) : Int) - 18 * H105.1 7 4 F.2.2.1 - 700 * H105.1 3 1 F.2.1 - 6 * H105.1 3 3 F.2.1 ≤ ((w.2.2 : Nat) : Int) - 18 * H.1 7 4 F.2.2.1 - 700 * H.1 3 1 F.2.1 - 6 * H.1 3 3 F.2.1 + 10 * (0) := hr111s
      have hE110 : cEx T [301, 307, 804, 808, 809, 811, 813, 30023, 30024, 30032, 30033, 30034, 30035, 30036, 30037, 30038, 30039, 30043, 40021] H105 H := cEx.trans ehE110 hE hS (by decide)
      have hS109 : ∀ k p, T k p → T107 k p := fun k p z => shS109 k p (hS k p z)
      have g112 : H105.1 7 4 F.2.2.1 = H.1 7 4 F.2.2.1 := (ehE110.1 7 4 F.2.2.1 hI.top.2.2.1).1 (by decide)
      have g113 : H105.1 3 1 F.2.1 = H.1 3 1 F.2.1 := (ehE110.1 3 1 F.2.1 hI.top.2.1).1 (by decide)
      have g114 : H105.1 3 3 F.2.1 = H.1 3 3 F.2.1 := (ehE110.1 3 3 F.2.1 hI.top.2.1).1 (by decide)
      have t115 : T107 3 F.2.1 := shS109 _ _ hI.top.2.1
      have t116 : T107 0 b := shS109 _ _ ta0
      obtain rfl := hv
      try dsimp only [Option.toList, List.append, List.cons_append, List.nil_append]
      refine J.run0 4 rfl ?_
      try dsimp only
      exact (c_X3_addBest_l0 (b := b) (proposer := proposer) hI ta0 hp0 ((1500 - ((0 : Int)) : Int).toNat + 1)) ((0 : Int)) ((0 : Int)) T107 w106 H105 _ (show 1500 - ((0 : Int)) < _ by omega) (show 0 ≤ ((0 : Int)) ∧ ((0 : Int)) ≤ 12 from ⟨by omega, by omega⟩) (show 0 ≤ ((0 : Int)) ∧ ((0 : Int)) ≤ 1500 from ⟨by omega, by omega⟩) (show H105.1 3 1 F.2.1 < 300 from by omega) (show H.2.1 0 6 b ≠ none from (by first | assumption | (intro z; simp_all))) (show ((w106.2.1 : Nat) : Int) - 2 * H105.1 7 4 F.2.2.1 - 13 * H105.1 3 1 F.2.1 - H105.1 3 3 F.2.1 ≤ ((w.2.1 : Nat) : Int) - 2 * H.1 7 4 F.2.2.1 - 13 * H.1 3 1 F.2.1 - H.1 3 3 F.2.1 + (0) from by omega) (show ((w106.2.2 : Nat) : Int) - 18 * H105.1 7 4 F.2.2.1 - 700 * H105.1 3 1 F.2.1 - 6 * H105.1 3 3 F.2.1 ≤ ((w.2.2 : Nat) : Int) - 18 * H.1 7 4 F.2.2.1 - 700 * H.1 3 1 F.2.1 - 6 * H.1 3 3 F.2.1 + 10 * (0) from by omega) hI108 hS109 hE110  rfl
end
