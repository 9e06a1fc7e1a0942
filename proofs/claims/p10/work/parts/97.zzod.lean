-- M: X10_prevote
section
variable {d : Nat} {F : cG} 
set_option maxRecDepth 20000 in
set_option maxHeartbeats 8000000 in
theorem c_X10_prevote {x : Nat} {T : cP} {w : jW} {H : jH} (hI : cJ F T w H) (ta0 : T 6 x) (hp0 : H.1 6 11 x = 0) (hp1 : H.1 0 1 (H.2.2.2.2 6 1 x) < 120) : J false (d + 4) 93 w (0, jargs 0 [.inr (some (10, F.1)), .inr (some (6, x))], [], H) (jN fun v w' H' => ∃ T', cJ F T' w' H' ∧ (∀ k p, T k p → T' k p) ∧ cEx T [401, 402, 603, 611, 612, 616, 704, 10209, 10507, 30026, 30027, 30031, 40025, 40028, 40029, 40030] H' H ∧ ((w'.2.1 : Nat) : Int) - 2 * H'.1 7 4 F.2.2.1 - 13 * H'.1 3 1 F.2.1 - H'.1 3 3 F.2.1 ≤ ((w.2.1 : Nat) : Int) - 2 * H.1 7 4 F.2.2.1 - 13 * H.1 3 1 F.2.1 - H.1 3 3 F.2.1 + (H'.1 6 11 x) ∧ ((w'.2.2 : Nat) : Int) - 18 * H'.1 7 4 F.2.2.1 - 700 * H'.1 3 1 F.2.1 - 6 * H'.1 3 3 F.2.1 ≤ ((w.2.2 : Nat) : Int) - 18 * H.1 7 4 F.2.2.1 - 700 * H.1 3 1 F.2.1 - 6 * H.1 3 3 F.2.1 + 10 * (H'.1 6 11 x) ∧ ∃ rv, v = some (.inl rv) ∧ ((rv = 0 ∨ rv = 1) ∧ (rv = 0 → H'.1 6 11 x = 0) ∧ (rv = 0 → H'.1 0 1 (H'.2.2.2.2 6 1 x) < 120))) := by
  have hE : cEx T [401, 402, 603, 611, 612, 616, 704, 10209, 10507, 30026, 30027, 30031, 40025, 40028, 40029, 40030] H H := cEx.refl
  have hS : ∀ k p, T k p → T k p := fun _ _ z => z
  refine J.run 2 rfl (hI.is ta0) ?_
  try dsimp only
  refine J.ifcN rfl rfl rfl (fun hc => ?_) (fun hc => ?_)
  · have c1 : ¬ (jn (H.1 6 3 x) = (0 : Int)) := hc
    clear hc
    refine J.run0 5 rfl ?_
    try dsimp only
    exact J.retb rfl rfl rfl (show (0 : Int) = 0 ∨ (0 : Int) = 1 by omega) ⟨_, rfl, T, hI, hS, hE, (show ((w.2.1 : Nat) : Int) - 2 * H.1 7 4 F.2.2.1 - 13 * H.1 3 1 F.2.1 - H.1 3 3 F.2.1 ≤ ((w.2.1 : Nat) : Int) - 2 * H.1 7 4 F.2.2.1 - 13 * H.1 3 1 F.2.1 - H.1 3 3 F.2.1 + (H.1 6 11 x) by omega), (show ((w.2.2 : Nat) : Int) - 18 * H.1 7 4 F.2.2.1 - 700 * H.1 3 1 F.2.1 - 6 * H.1 3 3 F.2.1 ≤ ((w.2.2 : Nat) : Int) - 18 * H.1 7 4 F.2.2.1 - 700 * H.1 3 1 F.2.1 - 6 * H.1 3 3 F.2.1 + 10 * (H.1 6 11 x) by omega), _, rfl, (show (((0 : Int)) = 0 ∨ ((0 : Int)) = 1) ∧ (((0 : Int)) = 0 → H.1 6 11 x = 0) ∧ (((0 : Int)) = 0 → H.1 0 1 (H.2.2.2.2 6 1 x) < 120) from ⟨by omega, by omega, by omega⟩)⟩
  · have c2 : ¬ (¬ (jn (H.1 6 3 x) = (0 : Int))) := hc
    clear hc
    have f3 : 0 ≤ H.1 6 2 x ∧ H.1 6 2 x ≤ 31 := hI.v 6 2 x ta0
    refine J.run 4 rfl (hI.is ta0) ?_
    try dsimp only
    refine J.inv rfl rfl rfl rfl rfl rfl ((jD_w rfl).mpr (hI.is hI.top.1)) rfl rfl rfl rfl rfl (c_X10_proposalOf (x := x) (round := H.1 6 2 x) hI ta0 (show -2147483648 ≤ (H.1 6 2 x) ∧ (H.1 6 2 x) ≤ 2147483647 from ⟨by omega, by omega⟩)) ?_
    rintro v w H ⟨rfl, rfl, hv⟩
    rcases hv with ⟨rfl, r6⟩ | ⟨q4, rfl, t5, r6⟩
    · skip
      try dsimp only [Option.toList, List.append, List.cons_append, List.nil_append]
      refine J.run0 5 rfl ?_
      try dsimp only
      exact J.retb rfl rfl rfl (show (0 : Int) = 0 ∨ (0 : Int) = 1 by omega) ⟨_, rfl, T, hI, hS, hE, (show ((w.2.1 : Nat) : Int) - 2 * H.1 7 4 F.2.2.1 - 13 * H.1 3 1 F.2.1 - H.1 3 3 F.2.1 ≤ ((w.2.1 : Nat) : Int) - 2 * H.1 7 4 F.2.2.1 - 13 * H.1 3 1 F.2.1 - H.1 3 3 F.2.1 + (H.1 6 11 x) by omega), (show ((w.2.2 : Nat) : Int) - 18 * H.1 7 4 F.2.2.1 - 700 * H.1 3 1 F.2.1 - 6 * H.1 3 3 F.2.1 ≤ ((w.2.2 : Nat) : Int) - 18 * H.1 7 4 F.2.2.1 - 700 * H.1 3 1 F.2.1 - 6 * H.1 3 3 F.2.1 + 10 * (H.1 6 11 x) by omega), _, rfl, (show (((0 : Int)) = 0 ∨ ((0 : Int)) = 1) ∧ (((0 : Int)) = 0 → H.1 6 11 x = 0) ∧ (((0 : Int)) = 0 → H.1 0 1 (H.2.2.2.2 6 1 x) < 120) from ⟨by omega, by omega, by omega⟩)⟩
    · skip
      try dsimp only [Option.toList, List.append, List.cons_append, List.nil_append]
      have f7 : 0 ≤ H.1 5 0 q4 ∧ H.1 5 0 q4 ≤ 5999 := hI.v 5 0 q4 t5
      refine J.run 7 rfl (hI.is ta0) ?_
      try dsimp only
      refine J.icmpN rfl rfl rfl (fun hc => ?_) (fun hc => ?_)
      · have c8 : jn (H.1 6 4 x) = jn ((-1 : Int)) := hc
        clear hc
        have f9 : (-2147483648) ≤ H.1 5 6 q4 ∧ H.1 5 6 q4 ≤ 2147483647 := hI.v 5 6 q4 t5
        refine J.run 8 rfl (hI.is t5) ?_
        try dsimp only
        refine J.icmp rfl rfl rfl ⟨(show -2147483648 ≤ H.1 5 6 q4 ∧ H.1 5 6 q4 ≤ 2147483647 from ⟨by omega, by omega⟩), (show -2147483648 ≤ (-1 : Int) ∧ (-1 : Int) ≤ 2147483647 from ⟨by omega, by omega⟩)⟩ (fun hc => ?_) (fun hc => ?_)
        · have c10 : H.1 5 6 q4 = (-1 : Int) := hc
          clear hc
          refine J.run 3 rfl (hI.is ta0) ?_
          try dsimp only
          refine J.gn fun H11 hH11 => ?_
          have hI12 : cJ F T w H11 := by rw [hH11]; exact cJ.wi hI trivial rfl rfl
          have hE13 : cEx T [401, 402, 603, 611, 612, 616, 704, 10209, 10507, 30026, 30027, 30031, 40025, 40028, 40029, 40030] H11 H := by rw [hH11]; exact cEx.wi hE (by decide)
          have g14 : H11.1 6 11 x = H.1 6 11 x := by subst hH11; rfl
          have g15 : H11.1 6 2 x = H.1 6 2 x := by subst hH11; rfl
          have g16 : H11.1 5 6 q4 = H.1 5 6 q4 := by subst hH11; rfl
          have g17 : H11.1 7 4 F.2.2.1 = H.1 7 4 F.2.2.1 := by subst hH11; rfl
          have g18 : H11.1 3 1 F.2.1 = H.1 3 1 F.2.1 := by subst hH11; rfl
          have g19 : H11.1 3 3 F.2.1 = H.1 3 3 F.2.1 := by subst hH11; rfl
          have g20 : H11.1 6 3 x = (1 : Int) := by subst hH11; exact if_pos rfl
          clear hH11
          refine J.run0 4 rfl ?_
          try dsimp only
          refine J.ifc rfl rfl rfl (show -2147483648 ≤ (1 : Int) ∧ (1 : Int) ≤ 2147483647 from ⟨by omega, by omega⟩) (fun hc => ?_) (fun hc => ?_)
          · have c21 : (1 : Int) = (0 : Int) := hc
            clear hc
            exfalso
            omega
          · have c22 : ¬ ((1 : Int) = (0 : Int)) := hc
            clear hc
            refine J.run 3 rfl ⟨(hI12.is hI.top.1), (hI12.o 10 0 3 F.1 rfl hI.top.1).1⟩ ?_
            try dsimp only
            try dsimp only
            rw [show (H11.2.2.2.2 10 0 F.1) = F.2.1 from hI12.one.2.1 _ (hI12.o 10 0 3 F.1 rfl hI.top.1).2]
            have f23 : (-2147483648) ≤ H11.1 5 5 q4 ∧ H11.1 5 5 q4 ≤ 2147483647 := hI12.v 5 5 q4 t5
            refine J.run 2 rfl (hI12.is t5) ?_
            try dsimp only
            refine J.inv rfl rfl rfl rfl rfl rfl ((jD_w rfl).mpr (hI12.is hI12.top.2.1)) rfl rfl rfl rfl rfl (c_X3_get (b := H11.1 5 5 q4) hI12  (show -2147483648 ≤ (H11.1 5 5 q4) ∧ (H11.1 5 5 q4) ≤ 2147483647 from ⟨by omega, by omega⟩)) ?_
            rintro v w H11 ⟨rfl, rfl, hv⟩
            rcases hv with ⟨rfl, r26⟩ | ⟨q24, rfl, t25, r26⟩
            · skip
              try dsimp only [Option.toList, List.append, List.cons_append, List.nil_append]
              refine J.inv rfl rfl rfl rfl rfl rfl ((jD_w rfl).mpr (hI12.is ta0)) rfl rfl rfl rfl rfl (c_X6_isGood (a0 := x) (b := none) hI12 ta0 (fun _ z => nomatch z) ) ?_
              rintro v w H11 ⟨rfl, rfl, hv⟩
              obtain ⟨x27, rfl, r28⟩ := hv
              have r28' : (x27 = 0 ∨ x27 = 1) ∧ (x27 = 1 → none ≠ none) := r28
              try dsimp only [Option.toList, List.append, List.cons_append, List.nil_append]
              refine J.ifc rfl rfl rfl (show -2147483648 ≤ x27 ∧ x27 ≤ 2147483647 from ⟨by omega, by omega⟩) (fun hc => ?_) (fun hc => ?_)
              · have c29 : x27 = (0 : Int) := hc
                clear hc
                refine J.run0 2 rfl ?_
                try dsimp only
                have e61 := (hE13.1 6 1 x ta0).2.2 (by decide)
                have e01 := (hE13.1 0 1 (H.2.2.2.2 6 1 x) (hI.o 6 1 0 x rfl ta0).2).1 (by decide)
                have h01 : H11.1 0 1 (H11.2.2.2.2 6 1 x) < 120 := by rw [e61]; omega
                refine J.inv rfl rfl rfl rfl rfl rfl ((jD_w rfl).mpr (hI12.is hI.top.1)) rfl rfl rfl rfl rfl (c_X10_send (x := x) (kind := (1 : Int)) (block := (-1 : Int)) (before := (-1 : Int)) hI12 ta0 (show H11.1 6 11 x = 0 from by omega) (show H11.1 0 1 (H11.2.2.2.2 6 1 x) < 120 from by omega) (show -2147483648 ≤ (-1 : Int) ∧ (-1 : Int) ≤ 2147483647 from ⟨by omega, by omega⟩) (show -2147483648 ≤ (-1 : Int) ∧ (-1 : Int) ≤ 2147483647 from ⟨by omega, by omega⟩)) ?_
                rintro v w31 H30 ⟨T32, hI33, shS34, ehE35, hr36, hr36s, hv⟩
                have hr36' : ((w31.2.1 : Nat) : Int) - 2 * H30.1 7 4 F.2.2.1 - 13 * H30.1 3 1 F.2.1 - H30.1 3 3 F.2.1 ≤ ((w.2.1 : Nat) : Int) - 2 * H11.1 7 4 F.2.2.1 - 13 * H11.1 3 1 F.2.1 - H11.1 3 3 F.2.1 + (H30.1 6 11 x) := hr36
                have hr36s' : ((w31.2.2 : Nat) : Int) - 18 * H30.1 7 4 F.2.2.1 - 700 * H30.1 3 1 F.2.1 - 6 * H30.1 3 3 F.2.1 ≤ ((w.2.2 : Nat) : Int) - 18 * H11.1 7 4 F.2.2.1 - 700 * H11.1 3 1 F.2.1 - 6 * H11.1 3 3 F.2.1 + 10 * (H30.1 6 11 x) := hr36s
                have hE35 : cEx T [401, 402, 603, 611, 612, 616, 704, 10209, 10507, 30026, 30027, 30031, 40025, 40028, 40029, 40030] H30 H := cEx.trans ehE35 hE13 hS (by decide)
                have hS34 : ∀ k p, T k p → T32 k p := fun k p z => shS34 k p (hS k p z)
                have g37 : H30.1 6 2 x = H11.1 6 2 x := (ehE35.1 6 2 x ta0).1 (by decide)
                have g38 : H30.1 5 6 q4 = H11.1 5 6 q4 := (ehE35.1 5 6 q4 t5).1 (by decide)
                have g39 : H30.1 3 1 F.2.1 = H11.1 3 1 F.2.1 := (ehE35.1 3 1 F.2.1 hI12.top.2.1).1 (by decide)
                have g40 : H30.1 3 3 F.2.1 = H11.1 3 3 F.2.1 := (ehE35.1 3 3 F.2.1 hI12.top.2.1).1 (by decide)
                have g41 : H30.1 6 3 x = H11.1 6 3 x := (ehE35.1 6 3 x ta0).1 (by decide)
                have g42 : H30.1 5 5 q4 = H11.1 5 5 q4 := (ehE35.1 5 5 q4 t5).1 (by decide)
                have t43 : T32 5 q4 := shS34 _ _ t5
                have t44 : T32 10 F.1 := shS34 _ _ hI.top.1
                have t45 : T32 6 x := shS34 _ _ ta0
                obtain rfl := hv
                try dsimp only [Option.toList, List.append, List.cons_append, List.nil_append]
                refine J.run0 1 rfl ?_
                try dsimp only
                exact J.retb rfl rfl rfl (show (1 : Int) = 0 ∨ (1 : Int) = 1 by omega) ⟨_, rfl, T32, hI33, hS34, hE35, (show ((w31.2.1 : Nat) : Int) - 2 * H30.1 7 4 F.2.2.1 - 13 * H30.1 3 1 F.2.1 - H30.1 3 3 F.2.1 ≤ ((w.2.1 : Nat) : Int) - 2 * H.1 7 4 F.2.2.1 - 13 * H.1 3 1 F.2.1 - H.1 3 3 F.2.1 + (H30.1 6 11 x) by omega), (show ((w31.2.2 : Nat) : Int) - 18 * H30.1 7 4 F.2.2.1 - 700 * H30.1 3 1 F.2.1 - 6 * H30.1 3 3 F.2.1 ≤ ((w.2.2 : Nat) : Int) - 18 * H.1 7 4 F.2.2.1 - 700 * H.1 3 1 F.2.1 - 6 * H.1 3 3 F.2.1 + 10 * (H30.1 6 11 x) by omega), _, rfl, (show (((1 : Int)) = 0 ∨ ((1 : Int)) = 1) ∧ (((1 : Int)) = 0 → H30.1 6 11 x = 0) ∧ (((1 : Int)) = 0 → H30.1 0 1 (H30.2.2.2.2 6 1 x) < 120) from ⟨by omega, by omega, by omega⟩)⟩
              · have c46 : ¬ (x27 = (0 : Int)) := hc
                clear hc
                refine J.run 4 rfl (hI12.is t5) ?_
                try dsimp only
                have e61 := (hE13.1 6 1 x ta0).2.2 (by decide)
                have e01 := (hE13.1 0 1 (H.2.2.2.2 6 1 x) (hI.o 6 1 0 x rfl ta0).2).1 (by decide)
                have h01 : H11.1 0 1 (H11.2.2.2.2 6 1 x) < 120 := by rw [e61]; omega
                refine J.inv rfl rfl rfl rfl rfl rfl ((jD_w rfl).mpr (hI12.is hI.top.1)) rfl rfl rfl rfl rfl (c_X10_send (x := x) (kind := (1 : Int)) (block := H11.1 5 5 q4) (before := (-1 : Int)) hI12 ta0 (show H11.1 6 11 x = 0 from by omega) (show H11.1 0 1 (H11.2.2.2.2 6 1 x) < 120 from by omega) (show -2147483648 ≤ (H11.1 5 5 q4) ∧ (H11.1 5 5 q4) ≤ 2147483647 from ⟨by omega, by omega⟩) (show -2147483648 ≤ (-1 : Int) ∧ (-1 : Int) ≤ 2147483647 from ⟨by omega, by omega⟩)) ?_
                rintro v w48 H47 ⟨T49, hI50, shS51, ehE52, hr53, hr53s, hv⟩
                have hr53' : ((w48.2.1 : Nat) : Int) - 2 * H47.1 7 4 F.2.2.1 - 13 * H47.1 3 1 F.2.1 - H47.1 3 3 F.2.1 ≤ ((w.2.1 : Nat) : Int) - 2 * H11.1 7 4 F.2.2.1 - 13 * H11.1 3 1 F.2.1 - H11.1 3 3 F.2.1 + (H47.1 6 11 x) := hr53
                have hr53s' : ((w48.2.2 : Nat) : Int) - 18 * H47.1 7 4 F.2.2.1 - 700 * H47.1 3 1 F.2.1 - 6 * H47.1 3 3 F.2.1 ≤ ((w.2.2 : Nat) : Int) - 18 * H11.1 7 4 F.2.2.1 - 700 * H11.1 3 1 F.2.1 - 6 * H11.1 3 3 F.2.1 + 10 * (H47.1 6 11 x) := hr53s
                have hE52 : cEx T [401, 402, 603, 611, 612, 616, 704, 10209, 10507, 30026, 30027, 30031, 40025, 40028, 40029, 40030] H47 H := cEx.trans ehE52 hE13 hS (by decide)
                have hS51 : ∀ k p, T k p → T49 k p := fun k p z => shS51 k p (hS k p z)
                have g54 : H47.1 6 2 x = H11.1 6 2 x := (ehE52.1 6 2 x ta0).1 (by decide)
                have g55 : H47.1 5 6 q4 = H11.1 5 6 q4 := (ehE52.1 5 6 q4 t5).1 (by decide)
                have g56 : H47.1 3 1 F.2.1 = H11.1 3 1 F.2.1 := (ehE52.1 3 1 F.2.1 hI12.top.2.1).1 (by decide)
                have g57 : H47.1 3 3 F.2.1 = H11.1 3 3 F.2.1 := (ehE52.1 3 3 F.2.1 hI12.top.2.1).1 (by decide)
                have g58 : H47.1 6 3 x = H11.1 6 3 x := (ehE52.1 6 3 x ta0).1 (by decide)
                have g59 : H47.1 5 5 q4 = H11.1 5 5 q4 := (ehE52.1 5 5 q4 t5).1 (by decide)
                have t60 : T49 5 q4 := shS51 _ _ t5
                have t61 : T49 10 F.1 := shS51 _ _ hI.top.1
                have t62 : T49 6 x := shS51 _ _ ta0
                obtain rfl := hv
                try dsimp only [Option.toList, List.append, List.cons_append, List.nil_append]
                refine J.run0 1 rfl ?_
                try dsimp only
                exact J.retb rfl rfl rfl (show (1 : Int) = 0 ∨ (1 : Int) = 1 by omega) ⟨_, rfl, T49, hI50, hS51, hE52, (show ((w48.2.1 : Nat) : Int) - 2 * H47.1 7 4 F.2.2.1 - 13 * H47.1 3 1 F.2.1 - H47.1 3 3 F.2.1 ≤ ((w.2.1 : Nat) : Int) - 2 * H.1 7 4 F.2.2.1 - 13 * H.1 3 1 F.2.1 - H.1 3 3 F.2.1 + (H47.1 6 11 x) by omega), (show ((w48.2.2 : Nat) : Int) - 18 * H47.1 7 4 F.2.2.1 - 700 * H47.1 3 1 F.2.1 - 6 * H47.1 3 3 F.2.1 ≤ ((w.2.2 : Nat) : Int) - 18 * H.1 7 4 F.2.2.1 - 700 * H.1 3 1 F.2.1 - 6 * H.1 3 3 F.2.1 + 10 * (H47.1 6 11 x) by omega), _, rfl, (show (((1 : Int)) = 0 ∨ ((1 : Int)) = 1) ∧ (((1 : Int)) = 0 → H47.1 6 11 x = 0) ∧ (((1 : Int)) = 0 → H47.1 0 1 (H47.2.2.2.2 6 1 x) < 120) from ⟨by omega, by omega, by omega⟩)⟩
            · skip
              try dsimp only [Option.toList, List.append, List.cons_append, List.nil_append]
              have f63 : 0 ≤ H11.1 0 1 q24 ∧ H11.1 0 1 q24 ≤ 299 := hI12.v 0 1 q24 t25
              refine J.inv rfl rfl rfl rfl rfl rfl ((jD_w rfl).mpr (hI12.is ta0)) rfl rfl rfl rfl rfl (c_X6_isGood (a0 := x) (b := some q24) hI12 ta0 (fun _ z => by cases z; exact t25) ) ?_
              rintro v w H11 ⟨rfl, rfl, hv⟩
              obtain ⟨x64, rfl, r65⟩ := hv
              have r65' : (x64 = 0 ∨ x64 = 1) ∧ (x64 = 1 → (some q24) ≠ none) := r65
              try dsimp only [Option.toList, List.append, List.cons_append, List.nil_append]
              refine J.ifc rfl rfl rfl (show -2147483648 ≤ x64 ∧ x64 ≤ 2147483647 from ⟨by omega, by omega⟩) (fun hc => ?_) (fun hc => ?_)
              · have c66 : x64 = (0 : Int) := hc
                clear hc
                refine J.run0 2 rfl ?_
                try dsimp only
                have e61 := (hE13.1 6 1 x ta0).2.2 (by decide)
                have e01 := (hE13.1 0 1 (H.2.2.2.2 6 1 x) (hI.o 6 1 0 x rfl ta0).2).1 (by decide)
                have h01 : H11.1 0 1 (H11.2.2.2.2 6 1 x) < 120 := by rw [e61]; omega
                refine J.inv rfl rfl rfl rfl rfl rfl ((jD_w rfl).mpr (hI12.is hI.top.1)) rfl rfl rfl rfl rfl (c_X10_send (x := x) (kind := (1 : Int)) (block := (-1 : Int)) (before := (-1 : Int)) hI12 ta0 (show H11.1 6 11 x = 0 from by omega) (show H11.1 0 1 (H11.2.2.2.2 6 1 x) < 120 from by omega) (show -2147483648 ≤ (-1 : Int) ∧ (-1 : Int) ≤ 2147483647 from ⟨by omega, by omega⟩) (show -2147483648 ≤ (-1 : Int) ∧ (-1 : Int) ≤ 2147483647 from ⟨by omega, by omega⟩)) ?_
                rintro v w68 H67 ⟨T69, hI70, shS71, ehE72, hr73, hr73s, hv⟩
                have hr73' : ((w68.2.1 : Nat) : Int) - 2 * H67.1 7 4 F.2.2.1 - 13 * H67.1 3 1 F.2.1 - H67.1 3 3 F.2.1 ≤ ((w.2.1 : Nat) : Int) - 2 * H11.1 7 4 F.2.2.1 - 13 * H11.1 3 1 F.2.1 - H11.1 3 3 F.2.1 + (H67.1 6 11 x) := hr73
                have hr73s' : ((w68.2.2 : Nat) : Int) - 18 * H67.1 7 4 F.2.2.1 - 700 * H67.1 3 1 F.2.1 - 6 * H67.1 3 3 F.2.1 ≤ ((w.2.2 : Nat) : Int) - 18 * H11.1 7 4 F.2.2.1 - 700 * H11.1 3 1 F.2.1 - 6 * H11.1 3 3 F.2.1 + 10 * (H67.1 6 11 x) := hr73s
                have hE72 : cEx T [401, 402, 603, 611, 612, 616, 704, 10209, 10507, 30026, 30027, 30031, 40025, 40028, 40029, 40030] H67 H := cEx.trans ehE72 hE13 hS (by decide)
                have hS71 : ∀ k p, T k p → T69 k p := fun k p z => shS71 k p (hS k p z)
                have g74 : H67.1 6 2 x = H11.1 6 2 x := (ehE72.1 6 2 x ta0).1 (by decide)
                have g75 : H67.1 5 6 q4 = H11.1 5 6 q4 := (ehE72.1 5 6 q4 t5).1 (by decide)
                have g76 : H67.1 3 1 F.2.1 = H11.1 3 1 F.2.1 := (ehE72.1 3 1 F.2.1 hI12.top.2.1).1 (by decide)
                have g77 : H67.1 3 3 F.2.1 = H11.1 3 3 F.2.1 := (ehE72.1 3 3 F.2.1 hI12.top.2.1).1 (by decide)
                have g78 : H67.1 6 3 x = H11.1 6 3 x := (ehE72.1 6 3 x ta0).1 (by decide)
                have g79 : H67.1 5 5 q4 = H11.1 5 5 q4 := (ehE72.1 5 5 q4 t5).1 (by decide)
                have t80 : T69 5 q4 := shS71 _ _ t5
                have t81 : T69 10 F.1 := shS71 _ _ hI.top.1
                have t82 : T69 6 x := shS71 _ _ ta0
                obtain rfl := hv
                try dsimp only [Option.toList, List.append, List.cons_append, List.nil_append]
                refine J.run0 1 rfl ?_
                try dsimp only
                exact J.retb rfl rfl rfl (show (1 : Int) = 0 ∨ (1 : Int) = 1 by omega) ⟨_, rfl, T69, hI70, hS71, hE72, (show ((w68.2.1 : Nat) : Int) - 2 * H67.1 7 4 F.2.2.1 - 13 * H67.1 3 1 F.2.1 - H67.1 3 3 F.2.1 ≤ ((w.2.1 : Nat) : Int) - 2 * H.1 7 4 F.2.2.1 - 13 * H.1 3 1 F.2.1 - H.1 3 3 F.2.1 + (H67.1 6 11 x) by omega), (show ((w68.2.2 : Nat) : Int) - 18 * H67.1 7 4 F.2.2.1 - 700 * H67.1 3 1 F.2.1 - 6 * H67.1 3 3 F.2.1 ≤ ((w.2.2 : Nat) : Int) - 18 * H.1 7 4 F.2.2.1 - 700 * H.1 3 1 F.2.1 - 6 * H.1 3 3 F.2.1 + 10 * (H67.1 6 11 x) by omega), _, rfl, (show (((1 : Int)) = 0 ∨ ((1 : Int)) = 1) ∧ (((1 : Int)) = 0 → H67.1 6 11 x = 0) ∧ (((1 : Int)) = 0 → H67.1 0 1 (H67.2.2.2.2 6 1 x) < 120) from ⟨by omega, by omega, by omega⟩)⟩
              · have c83 : ¬ (x64 = (0 : Int)) := hc
                clear hc
                refine J.run 4 rfl (hI12.is t5) ?_
                try dsimp only
                have e61 := (hE13.1 6 1 x ta0).2.2 (by decide)
                have e01 := (hE13.1 0 1 (H.2.2.2.2 6 1 x) (hI.o 6 1 0 x rfl ta0).2).1 (by decide)
                have h01 : H11.1 0 1 (H11.2.2.2.2 6 1 x) < 120 := by rw [e61]; omega
                refine J.inv rfl rfl rfl rfl rfl rfl ((jD_w rfl).mpr (hI12.is hI.top.1)) rfl rfl rfl rfl rfl (c_X10_send (x := x) (kind := (1 : Int)) (block := H11.1 5 5 q4) (before := (-1 : Int)) hI12 ta0 (show H11.1 6 11 x = 0 from by omega) (show H11.1 0 1 (H11.2.2.2.2 6 1 x) < 120 from by omega) (show -2147483648 ≤ (H11.1 5 5 q4) ∧ (H11.1 5 5 q4) ≤ 2147483647 from ⟨by omega, by omega⟩) (show -2147483648 ≤ (-1 : Int) ∧ (-1 : Int) ≤ 2147483647 from ⟨by omega, by omega⟩)) ?_
                rintro v w85 H84 ⟨T86, hI87, shS88, ehE89, hr90, hr90s, hv⟩
                have hr90' : ((w85.2.1 : Nat) : Int) - 2 * H84.1 7 4 F.2.2.1 - 13 * H84.1 3 1 F.2.1 - H84.1 3 3 F.2.1 ≤ ((w.2.1 : Nat) : Int) - 2 * H11.1 7 4 F.2.2.1 - 13 * H11.1 3 1 F.2.1 - H11.1 3 3 F.2.1 + (H84.1 6 11 x) := hr90
                have hr90s' : ((w85.2.2 : Nat) : Int) - 18 * H84.1 7 4 F.2.2.1 - 700 * H84.1 3 1 F.2.1 - 6 * H84.1 3 3 F.2.1 ≤ ((w.2.2 : Nat) : Int) - 18 * H11.1 7 4 F.2.2.1 - 700 * H11.1 3 1 F.2.1 - 6 * H11.1 3 3 F.2.1 + 10 * (H84.1 6 11 x) := hr90s
                have hE89 : cEx T [401, 402, 603, 611, 612, 616, 704, 10209, 10507, 30026, 30027, 30031, 40025, 40028, 40029, 40030] H84 H := cEx.trans ehE89 hE13 hS (by decide)
                have hS88 : ∀ k p, T k p → T86 k p := fun k p z => shS88 k p (hS k p z)
                have g91 : H84.1 6 2 x = H11.1 6 2 x := (ehE89.1 6 2 x ta0).1 (by decide)
                have g92 : H84.1 5 6 q4 = H11.1 5 6 q4 := (ehE89.1 5 6 q4 t5).1 (by decide)
                have g93 : H84.1 3 1 F.2.1 = H11.1 3 1 F.2.1 := (ehE89.1 3 1 F.2.1 hI12.top.2.1).1 (by decide)
                have g94 : H84.1 3 3 F.2.1 = H11.1 3 3 F.2.1 := (ehE89.1 3 3 F.2.1 hI12.top.2.1).1 (by decide)
                have g95 : H84.1 6 3 x = H11.1 6 3 x := (ehE89.1 6 3 x ta0).1 (by decide)
                have g96 : H84.1 5 5 q4 = H11.1 5 5 q4 := (ehE89.1 5 5 q4 t5).1 (by decide)
                have t97 : T86 5 q4 := shS88 _ _ t5
                have t98 : T86 10 F.1 := shS88 _ _ hI.top.1
                have t99 : T86 6 x := shS88 _ _ ta0
                obtain rfl := hv
                try dsimp only [Option.toList, List.append, List.cons_append, List.nil_append]
                refine J.run0 1 rfl ?_
                try dsimp only
                exact J.retb rfl rfl rfl (show (1 : Int) = 0 ∨ (1 : Int) = 1 by omega) ⟨_, rfl, T86, hI87, hS88, hE89, (show ((w85.2.1 : Nat) : Int) - 2 * H84.1 7 4 F.2.2.1 - 13 * H84.1 3 1 F.2.1 - H84.1 3 3 F.2.1 ≤ ((w.2.1 : Nat) : Int) - 2 * H.1 7 4 F.2.2.1 - 13 * H.1 3 1 F.2.1 - H.1 3 3 F.2.1 + (H84.1 6 11 x) by omega), (show ((w85.2.2 : Nat) : Int) - 18 * H84.1 7 4 F.2.2.1 - 700 * H84.1 3 1 F.2.1 - 6 * H84.1 3 3 F.2.1 ≤ ((w.2.2 : Nat) : Int) - 18 * H.1 7 4 F.2.2.1 - 700 * H.1 3 1 F.2.1 - 6 * H.1 3 3 F.2.1 + 10 * (H84.1 6 11 x) by omega), _, rfl, (show (((1 : Int)) = 0 ∨ ((1 : Int)) = 1) ∧ (((1 : Int)) = 0 → H84.1 6 11 x = 0) ∧ (((1 : Int)) = 0 → H84.1 0 1 (H84.2.2.2.2 6 1 x) < 120) from ⟨by omega, by omega, by omega⟩)⟩
        · have c100 : ¬ (H.1 5 6 q4 = (-1 : Int)) := hc
          clear hc
          refine J.run 3 rfl (hI.is ta0) ?_
          try dsimp only
          refine J.icmp rfl rfl rfl ⟨(show -2147483648 ≤ H.1 5 6 q4 ∧ H.1 5 6 q4 ≤ 2147483647 from ⟨by omega, by omega⟩), (show -2147483648 ≤ H.1 6 2 x ∧ H.1 6 2 x ≤ 2147483647 from ⟨by omega, by omega⟩)⟩ (fun hc => ?_) (fun hc => ?_)
          · have c101 : H.1 6 2 x ≤ H.1 5 6 q4 := hc
            clear hc
            refine J.run0 1 rfl ?_
            try dsimp only
            exact J.retb rfl rfl rfl (show (0 : Int) = 0 ∨ (0 : Int) = 1 by omega) ⟨_, rfl, T, hI, hS, hE, (show ((w.2.1 : Nat) : Int) - 2 * H.1 7 4 F.2.2.1 - 13 * H.1 3 1 F.2.1 - H.1 3 3 F.2.1 ≤ ((w.2.1 : Nat) : Int) - 2 * H.1 7 4 F.2.2.1 - 13 * H.1 3 1 F.2.1 - H.1 3 3 F.2.1 + (H.1 6 11 x) by omega), (show ((w.2.2 : Nat) : Int) - 18 * H.1 7 4 F.2.2.1 - 700 * H.1 3 1 F.2.1 - 6 * H.1 3 3 F.2.1 ≤ ((w.2.2 : Nat) : Int) - 18 * H.1 7 4 F.2.2.1 - 700 * H.1 3 1 F.2.1 - 6 * H.1 3 3 F.2.1 + 10 * (H.1 6 11 x) by omega), _, rfl, (show (((0 : Int)) = 0 ∨ ((0 : Int)) = 1) ∧ (((0 : Int)) = 0 → H.1 6 11 x = 0) ∧ (((0 : Int)) = 0 → H.1 0 1 (H.2.2.2.2 6 1 x) < 120) from ⟨by omega, by omega, by omega⟩)⟩
          · have c102 : ¬ (H.1 6 2 x ≤ H.1 5 6 q4) := hc
            clear hc
            have f103 : (-2147483648) ≤ H.1 5 5 q4 ∧ H.1 5 5 q4 ≤ 2147483647 := hI.v 5 5 q4 t5
            refine J.run 7 rfl (hI.is t5) ?_
            try dsimp only
            refine J.inv rfl rfl rfl rfl rfl rfl ((jD_w rfl).mpr (hI.is hI.top.1)) rfl rfl rfl rfl rfl (c_X10_heardFrom (x := x) (kind := (1 : Int)) (round := H.1 5 6 q4) (block := H.1 5 5 q4) hI ta0 (show -2147483648 ≤ (1 : Int) ∧ (1 : Int) ≤ 2147483647 from ⟨by omega, by omega⟩) (show -2147483648 ≤ (H.1 5 6 q4) ∧ (H.1 5 6 q4) ≤ 2147483647 from ⟨by omega, by omega⟩)) ?_
            rintro v w H ⟨rfl, rfl, hv⟩
            obtain ⟨x104, rfl, r105⟩ := hv
            try dsimp only [Option.toList, List.append, List.cons_append, List.nil_append]
            refine J.inv rfl rfl rfl rfl rfl rfl ((jD_w rfl).mpr (hI.is ta0)) rfl rfl rfl rfl rfl (c_X6_isMost (a0 := x) (bits := x104) hI ta0 ) ?_
            rintro v w H ⟨rfl, rfl, hv⟩
            obtain ⟨x106, rfl, r107⟩ := hv
            have r107' : x106 = 0 ∨ x106 = 1 := r107
            try dsimp only [Option.toList, List.append, List.cons_append, List.nil_append]
            refine J.ifc rfl rfl rfl (show -2147483648 ≤ x106 ∧ x106 ≤ 2147483647 from ⟨by omega, by omega⟩) (fun hc => ?_) (fun hc => ?_)
            · have c108 : ¬ (x106 = (0 : Int)) := hc
              clear hc
              refine J.run0 1 rfl ?_
              try dsimp only
              refine J.ifc rfl rfl rfl (show -2147483648 ≤ (1 : Int) ∧ (1 : Int) ≤ 2147483647 from ⟨by omega, by omega⟩) (fun hc => ?_) (fun hc => ?_)
              · have c109 : ¬ ((1 : Int) = (0 : Int)) := hc
                clear hc
                refine J.run 6 rfl (hI.is ta0) ?_
                try dsimp only
                refine J.gn fun H110 hH110 => ?_
                have hI111 : cJ F T w H110 := by rw [hH110]; exact cJ.wi hI trivial rfl rfl
                have hE112 : cEx T [401, 402, 603, 611, 612, 616, 704, 10209, 10507, 30026, 30027, 30031, 40025, 40028, 40029, 40030] H110 H := by rw [hH110]; exact cEx.wi hE (by decide)
                have g113 : H110.1 6 11 x = H.1 6 11 x := by subst hH110; rfl
                have g114 : H110.1 6 2 x = H.1 6 2 x := by subst hH110; rfl
                have g115 : H110.1 5 6 q4 = H.1 5 6 q4 := by subst hH110; rfl
                have g116 : H110.1 5 5 q4 = H.1 5 5 q4 := by subst hH110; rfl
                have g117 : H110.1 7 4 F.2.2.1 = H.1 7 4 F.2.2.1 := by subst hH110; rfl
                have g118 : H110.1 3 1 F.2.1 = H.1 3 1 F.2.1 := by subst hH110; rfl
                have g119 : H110.1 3 3 F.2.1 = H.1 3 3 F.2.1 := by subst hH110; rfl
                have g120 : H110.1 6 3 x = (1 : Int) := by subst hH110; exact if_pos rfl
                clear hH110
                refine J.run0 4 rfl ?_
                try dsimp only
                refine J.ifc rfl rfl rfl (show -2147483648 ≤ (1 : Int) ∧ (1 : Int) ≤ 2147483647 from ⟨by omega, by omega⟩) (fun hc => ?_) (fun hc => ?_)
                · have c121 : (1 : Int) = (0 : Int) := hc
                  clear hc
                  exfalso
                  omega
                · have c122 : ¬ ((1 : Int) = (0 : Int)) := hc
                  clear hc
                  refine J.run 3 rfl ⟨(hI111.is hI.top.1), (hI111.o 10 0 3 F.1 rfl hI.top.1).1⟩ ?_
                  try dsimp only
                  try dsimp only
                  rw [show (H110.2.2.2.2 10 0 F.1) = F.2.1 from hI111.one.2.1 _ (hI111.o 10 0 3 F.1 rfl hI.top.1).2]
                  have f123 : (-2147483648) ≤ H110.1 5 5 q4 ∧ H110.1 5 5 q4 ≤ 2147483647 := hI111.v 5 5 q4 t5
                  refine J.run 2 rfl (hI111.is t5) ?_
                  try dsimp only
                  refine J.inv rfl rfl rfl rfl rfl rfl ((jD_w rfl).mpr (hI111.is hI111.top.2.1)) rfl rfl rfl rfl rfl (c_X3_get (b := H110.1 5 5 q4) hI111  (show -2147483648 ≤ (H110.1 5 5 q4) ∧ (H110.1 5 5 q4) ≤ 2147483647 from ⟨by omega, by omega⟩)) ?_
                  rintro v w H110 ⟨rfl, rfl, hv⟩
                  rcases hv with ⟨rfl, r126⟩ | ⟨q124, rfl, t125, r126⟩
                  · skip
                    try dsimp only [Option.toList, List.append, List.cons_append, List.nil_append]
                    refine J.inv rfl rfl rfl rfl rfl rfl ((jD_w rfl).mpr (hI111.is ta0)) rfl rfl rfl rfl rfl (c_X6_isGood (a0 := x) (b := none) hI111 ta0 (fun _ z => nomatch z) ) ?_
                    rintro v w H110 ⟨rfl, rfl, hv⟩
                    obtain ⟨x127, rfl, r128⟩ := hv
                    have r128' : (x127 = 0 ∨ x127 = 1) ∧ (x127 = 1 → none ≠ none) := r128
                    try dsimp only [Option.toList, List.append, List.cons_append, List.nil_append]
                    refine J.ifc rfl rfl rfl (show -2147483648 ≤ x127 ∧ x127 ≤ 2147483647 from ⟨by omega, by omega⟩) (fun hc => ?_) (fun hc => ?_)
                    · have c129 : x127 = (0 : Int) := hc
                      clear hc
                      refine J.run0 2 rfl ?_
                      try dsimp only
                      have e61 := (hE112.1 6 1 x ta0).2.2 (by decide)
                      have e01 := (hE112.1 0 1 (H.2.2.2.2 6 1 x) (hI.o 6 1 0 x rfl ta0).2).1 (by decide)
                      have h01 : H110.1 0 1 (H110.2.2.2.2 6 1 x) < 120 := by rw [e61]; omega
                      refine J.inv rfl rfl rfl rfl rfl rfl ((jD_w rfl).mpr (hI111.is hI.top.1)) rfl rfl rfl rfl rfl (c_X10_send (x := x) (kind := (1 : Int)) (block := (-1 : Int)) (before := (-1 : Int)) hI111 ta0 (show H110.1 6 11 x = 0 from by omega) (show H110.1 0 1 (H110.2.2.2.2 6 1 x) < 120 from by omega) (show -2147483648 ≤ (-1 : Int) ∧ (-1 : Int) ≤ 2147483647 from ⟨by omega, by omega⟩) (show -2147483648 ≤ (-1 : Int) ∧ (-1 : Int) ≤ 2147483647 from ⟨by omega, by omega⟩)) ?_
                      rintro v w131 H130 ⟨T132, hI133, shS134, ehE135, hr136, hr136s, hv⟩
                      have hr136' : ((w131.2.1 : Nat) : Int) - 2 * H130.1 7 4 F.2.2.1 - 13 * H130.1 3 1 F.2.1 - H130.1 3 3 F.2.1 ≤ ((w.2.1 : Nat) : Int) - 2 * H110.1 7 4 F.2.2.1 - 13 * H110.1 3 1 F.2.1 - H110.1 3 3 F.2.1 + (H130.1 6 11 x) := hr136
                      have hr136s' : ((w131.2.2 : Nat) : Int) - 18 * H130.1 7 4 F.2.2.1 - 700 * H130.1 3 1 F.2.1 - 6 * H130.1 3 3 F.2.1 ≤ ((w.2.2 : Nat) : Int) - 18 * H110.1 7 4 F.2.2.1 - 700 * H110.1 3 1 F.2.1 - 6 * H110.1 3 3 F.2.1 + 10 * (H130.1 6 11 x) := hr136s
                      have hE135 : cEx T [401, 402, 603, 611, 612, 616, 704, 10209, 10507, 30026, 30027, 30031, 40025, 40028, 40029, 40030] H130 H := cEx.trans ehE135 hE112 hS (by decide)
                      have hS134 : ∀ k p, T k p → T132 k p := fun k p z => shS134 k p (hS k p z)
                      have g137 : H130.1 6 2 x = H110.1 6 2 x := (ehE135.1 6 2 x ta0).1 (by decide)
                      have g138 : H130.1 5 6 q4 = H110.1 5 6 q4 := (ehE135.1 5 6 q4 t5).1 (by decide)
                      have g139 : H130.1 5 5 q4 = H110.1 5 5 q4 := (ehE135.1 5 5 q4 t5).1 (by decide)
                      have g140 : H130.1 3 1 F.2.1 = H110.1 3 1 F.2.1 := (ehE135.1 3 1 F.2.1 hI111.top.2.1).1 (by decide)
                      have g141 : H130.1 3 3 F.2.1 = H110.1 3 3 F.2.1 := (ehE135.1 3 3 F.2.1 hI111.top.2.1).1 (by decide)
                      have g142 : H130.1 6 3 x = H110.1 6 3 x := (ehE135.1 6 3 x ta0).1 (by decide)
                      have t143 : T132 5 q4 := shS134 _ _ t5
                      have t144 : T132 10 F.1 := shS134 _ _ hI.top.1
                      have t145 : T132 6 x := shS134 _ _ ta0
                      obtain rfl := hv
                      try dsimp only [Option.toList, List.append, List.cons_append, List.nil_append]
                      refine J.run0 1 rfl ?_
                      try dsimp only
                      exact J.retb rfl rfl rfl (show (1 : Int) = 0 ∨ (1 : Int) = 1 by omega) ⟨_, rfl, T132, hI133, hS134, hE135, (show ((w131.2.1 : Nat) : Int) - 2 * H130.1 7 4 F.2.2.1 - 13 * H130.1 3 1 F.2.1 - H130.1 3 3 F.2.1 ≤ ((w.2.1 : Nat) : Int) - 2 * H.1 7 4 F.2.2.1 - 13 * H.1 3 1 F.2.1 - H.1 3 3 F.2.1 + (H130.1 6 11 x) by omega), (show ((w131.2.2 : Nat) : Int) - 18 * H130.1 7 4 F.2.2.1 - 700 * H130.1 3 1 F.2.1 - 6 * H130.1 3 3 F.2.1 ≤ ((w.2.2 : Nat) : Int) - 18 * H.1 7 4 F.2.2.1 - 700 * H.1 3 1 F.2.1 - 6 * H.1 3 3 F.2.1 + 10 * (H130.1 6 11 x) by omega), _, rfl, (show (((1 : Int)) = 0 ∨ ((1 : Int)) = 1) ∧ (((1 : Int)) = 0 → H130.1 6 11 x = 0) ∧ (((1 : Int)) = 0 → H130.1 0 1 (H130.2.2.2.2 6 1 x) < 120) from ⟨by omega, by omega, by omega⟩)⟩
                    · have c146 : ¬ (x127 = (0 : Int)) := hc
                      clear hc
                      refine J.run 4 rfl (hI111.is t5) ?_
                      try dsimp only
                      have e61 := (hE112.1 6 1 x ta0).2.2 (by decide)
                      have e01 := (hE112.1 0 1 (H.2.2.2.2 6 1 x) (hI.o 6 1 0 x rfl ta0).2).1 (by decide)
                      have h01 : H110.1 0 1 (H110.2.2.2.2 6 1 x) < 120 := by rw [e61]; omega
                      refine J.inv rfl rfl rfl rfl rfl rfl ((jD_w rfl).mpr (hI111.is hI.top.1)) rfl rfl rfl rfl rfl (c_X10_send (x := x) (kind := (1 : Int)) (block := H110.1 5 5 q4) (before := (-1 : Int)) hI111 ta0 (show H110.1 6 11 x = 0 from by omega) (show H110.1 0 1 (H110.2.2.2.2 6 1 x) < 120 from by omega) (show -2147483648 ≤ (H110.1 5 5 q4) ∧ (H110.1 5 5 q4) ≤ 2147483647 from ⟨by omega, by omega⟩) (show -2147483648 ≤ (-1 : Int) ∧ (-1 : Int) ≤ 2147483647 from ⟨by omega, by omega⟩)) ?_
                      rintro v w148 H147 ⟨T149, hI150, shS151, ehE152, hr153, hr153s, hv⟩
                      have hr153' : ((w148.2.1 : Nat) : Int) - 2 * H147.1 7 4 F.2.2.1 - 13 * H147.1 3 1 F.2.1 - H147.1 3 3 F.2.1 ≤ ((w.2.1 : Nat) : Int) - 2 * H110.1 7 4 F.2.2.1 - 13 * H110.1 3 1 F.2.1 - H110.1 3 3 F.2.1 + (H147.1 6 11 x) := hr153
                      have hr153s' : ((w148.2.2 : Nat) : Int) - 18 * H147.1 7 4 F.2.2.1 - 700 * H147.1 3 1 F.2.1 - 6 * H147.1 3 3 F.2.1 ≤ ((w.2.2 : Nat) : Int) - 18 * H110.1 7 4 F.2.2.1 - 700 * H110.1 3 1 F.2.1 - 6 * H110.1 3 3 F.2.1 + 10 * (H147.1 6 11 x) := hr153s
                      have hE152 : cEx T [401, 402, 603, 611, 612, 616, 704, 10209, 10507, 30026, 30027, 30031, 40025, 40028, 40029, 40030] H147 H := cEx.trans ehE152 hE112 hS (by decide)
                      have hS151 : ∀ k p, T k p → T149 k p := fun k p z => shS151 k p (hS k p z)
                      have g154 : H147.1 6 2 x = H110.1 6 2 x := (ehE152.1 6 2 x ta0).1 (by decide)
                      have g155 : H147.1 5 6 q4 = H110.1 5 6 q4 := (ehE152.1 5 6 q4 t5).1 (by decide)
                      have g156 : H147.1 5 5 q4 = H110.1 5 5 q4 := (ehE152.1 5 5 q4 t5).1 (by decide)
                      have g157 : H147.1 3 1 F.2.1 = H110.1 3 1 F.2.1 := (ehE152.1 3 1 F.2.1 hI111.top.2.1).1 (by decide)
                      have g158 : H147.1 3 3 F.2.1 = H110.1 3 3 F.2.1 := (ehE152.1 3 3 F.2.1 hI111.top.2.1).1 (by decide)
                      have g159 : H147.1 6 3 x = H110.1 6 3 x := (ehE152.1 6 3 x ta0).1 (by decide)
                      have t160 : T149 5 q4 := shS151 _ _ t5
                      have t161 : T149 10 F.1 := shS151 _ _ hI.top.1
                      have t162 : T149 6 x := shS151 _ _ ta0
                      obtain rfl := hv
                      try dsimp only [Option.toList, List.append, List.cons_append, List.nil_append]
                      refine J.run0 1 rfl ?_
                      try dsimp only
                      exact J.retb rfl rfl rfl (show (1 : Int) = 0 ∨ (1 : Int) = 1 by omega) ⟨_, rfl, T149, hI150, hS151, hE152, (show ((w148.2.1 : Nat) : Int) - 2 * H147.1 7 4 F.2.2.1 - 13 * H147.1 3 1 F.2.1 - H147.1 3 3 F.2.1 ≤ ((w.2.1 : Nat) : Int) - 2 * H.1 7 4 F.2.2.1 - 13 * H.1 3 1 F.2.1 - H.1 3 3 F.2.1 + (H147.1 6 11 x) by omega), (show ((w148.2.2 : Nat) : Int) - 18 * H147.1 7 4 F.2.2.1 - 700 * H147.1 3 1 F.2.1 - 6 * H147.1 3 3 F.2.1 ≤ ((w.2.2 : Nat) : Int) - 18 * H.1 7 4 F.2.2.1 - 700 * H.1 3 1 F.2.1 - 6 * H.1 3 3 F.2.1 + 10 * (H147.1 6 11 x) by omega), _, rfl, (show (((1 : Int)) = 0 ∨ ((1 : Int)) = 1) ∧ (((1 : Int)) = 0 → H147.1 6 11 x = 0) ∧ (((1 : Int)) = 0 → H147.1 0 1 (H147.2.2.2.2 6 1 x) < 120) from ⟨by omega, by omega, by omega⟩)⟩
                  · skip
                    try dsimp only [Option.toList, List.append, List.cons_append, List.nil_append]
                    have f163 : 0 ≤ H110.1 0 1 q124 ∧ H110.1 0 1 q124 ≤ 299 := hI111.v 0 1 q124 t125
                    refine J.inv rfl rfl rfl rfl rfl rfl ((jD_w rfl).mpr (hI111.is ta0)) rfl rfl rfl rfl rfl (c_X6_isGood (a0 := x) (b := some q124) hI111 ta0 (fun _ z => by cases z; exact t125) ) ?_
                    rintro v w H110 ⟨rfl, rfl, hv⟩
                    obtain ⟨x164, rfl, r165⟩ := hv
                    have r165' : (x164 = 0 ∨ x164 = 1) ∧ (x164 = 1 → (some q124) ≠ none) := r165
                    try dsimp only [Option.toList, List.append, List.cons_append, List.nil_append]
                    refine J.ifc rfl rfl rfl (show -2147483648 ≤ x164 ∧ x164 ≤ 2147483647 from ⟨by omega, by omega⟩) (fun hc => ?_) (fun hc => ?_)
                    · have c166 : x164 = (0 : Int) := hc
                      clear hc
                      refine J.run0 2 rfl ?_
                      try dsimp only
                      have e61 := (hE112.1 6 1 x ta0).2.2 (by decide)
                      have e01 := (hE112.1 0 1 (H.2.2.2.2 6 1 x) (hI.o 6 1 0 x rfl ta0).2).1 (by decide)
                      have h01 : H110.1 0 1 (H110.2.2.2.2 6 1 x) < 120 := by rw [e61]; omega
                      refine J.inv rfl rfl rfl rfl rfl rfl ((jD_w rfl).mpr (hI111.is hI.top.1)) rfl rfl rfl rfl rfl (c_X10_send (x := x) (kind := (1 : Int)) (block := (-1 : Int)) (before := (-1 : Int)) hI111 ta0 (show H110.1 6 11 x = 0 from by omega) (show H110.1 0 1 (H110.2.2.2.2 6 1 x) < 120 from by omega) (show -2147483648 ≤ (-1 : Int) ∧ (-1 : Int) ≤ 2147483647 from ⟨by omega, by omega⟩) (show -2147483648 ≤ (-1 : Int) ∧ (-1 : Int) ≤ 2147483647 from ⟨by omega, by omega⟩)) ?_
                      rintro v w168 H167 ⟨T169, hI170, shS171, ehE172, hr173, hr173s, hv⟩
                      have hr173' : ((w168.2.1 : Nat) : Int) - 2 * H167.1 7 4 F.2.2.1 - 13 * H167.1 3 1 F.2.1 - H167.1 3 3 F.2.1 ≤ ((w.2.1 : Nat) : Int) - 2 * H110.1 7 4 F.2.2.1 - 13 * H110.1 3 1 F.2.1 - H110.1 3 3 F.2.1 + (H167.1 6 11 x) := hr173
                      have hr173s' : ((w168.2.2 : Nat) : Int) - 18 * H167.1 7 4 F.2.2.1 - 700 * H167.1 3 1 F.2.1 - 6 * H167.1 3 3 F.2.1 ≤ ((w.2.2 : Nat) : Int) - 18 * H110.1 7 4 F.2.2.1 - 700 * H110.1 3 1 F.2.1 - 6 * H110.1 3 3 F.2.1 + 10 * (H167.1 6 11 x) := hr173s
                      have hE172 : cEx T [401, 402, 603, 611, 612, 616, 704, 10209, 10507, 30026, 30027, 30031, 40025, 40028, 40029, 40030] H167 H := cEx.trans ehE172 hE112 hS (by decide)
                      have hS171 : ∀ k p, T k p → T169 k p := fun k p z => shS171 k p (hS k p z)
                      have g174 : H167.1 6 2 x = H110.1 6 2 x := (ehE172.1 6 2 x ta0).1 (by decide)
                      have g175 : H167.1 5 6 q4 = H110.1 5 6 q4 := (ehE172.1 5 6 q4 t5).1 (by decide)
                      have g176 : H167.1 5 5 q4 = H110.1 5 5 q4 := (ehE172.1 5 5 q4 t5).1 (by decide)
                      have g177 : H167.1 3 1 F.2.1 = H110.1 3 1 F.2.1 := (ehE172.1 3 1 F.2.1 hI111.top.2.1).1 (by decide)
                      have g178 : H167.1 3 3 F.2.1 = H110.1 3 3 F.2.1 := (ehE172.1 3 3 F.2.1 hI111.top.2.1).1 (by decide)
                      have g179 : H167.1 6 3 x = H110.1 6 3 x := (ehE172.1 6 3 x ta0).1 (by decide)
                      have t180 : T169 5 q4 := shS171 _ _ t5
                      have t181 : T169 10 F.1 := shS171 _ _ hI.top.1
                      have t182 : T169 6 x := shS171 _ _ ta0
                      obtain rfl := hv
                      try dsimp only [Option.toList, List.append, List.cons_append, List.nil_append]
                      refine J.run0 1 rfl ?_
                      try dsimp only
                      exact J.retb rfl rfl rfl (show (1 : Int) = 0 ∨ (1 : Int) = 1 by omega) ⟨_, rfl, T169, hI170, hS171, hE172, (show ((w168.2.1 : Nat) : Int) - 2 * H167.1 7 4 F.2.2.1 - 13 * H167.1 3 1 F.2.1 - H167.1 3 3 F.2.1 ≤ ((w.2.1 : Nat) : Int) - 2 * H.1 7 4 F.2.2.1 - 13 * H.1 3 1 F.2.1 - H.1 3 3 F.2.1 + (H167.1 6 11 x) by omega), (show ((w168.2.2 : Nat) : Int) - 18 * H167.1 7 4 F.2.2.1 - 700 * H167.1 3 1 F.2.1 - 6 * H167.1 3 3 F.2.1 ≤ ((w.2.2 : Nat) : Int) - 18 * H.1 7 4 F.2.2.1 - 700 * H.1 3 1 F.2.1 - 6 * H.1 3 3 F.2.1 + 10 * (H167.1 6 11 x) by omega), _, rfl, (show (((1 : Int)) = 0 ∨ ((1 : Int)) = 1) ∧ (((1 : Int)) = 0 → H167.1 6 11 x = 0) ∧ (((1 : Int)) = 0 → H167.1 0 1 (H167.2.2.2.2 6 1 x) < 120) from ⟨by omega, by omega, by omega⟩)⟩
                    · have c183 : ¬ (x164 = (0 : Int)) := hc
                      clear hc
                      refine J.run 4 rfl (hI111.is t5) ?_
                      try dsimp only
                      have e61 := (hE112.1 6 1 x ta0).2.2 (by decide)
                      have e01 := (hE112.1 0 1 (H.2.2.2.2 6 1 x) (hI.o 6 1 0 x rfl ta0).2).1 (by decide)
                      have h01 : H110.1 0 1 (H110.2.2.2.2 6 1 x) < 120 := by rw [e61]; omega
                      refine J.inv rfl rfl rfl rfl rfl rfl ((jD_w rfl).mpr (hI111.is hI.top.1)) rfl rfl rfl rfl rfl (c_X10_send (x := x) (kind := (1 : Int)) (block := H110.1 5 5 q4) (before := (-1 : Int)) hI111 ta0 (show H110.1 6 11 x = 0 from by omega) (show H110.1 0 1 (H110.2.2.2.2 6 1 x) < 120 from by omega) (show -2147483648 ≤ (H110.1 5 5 q4) ∧ (H110.1 5 5 q4) ≤ 2147483647 from ⟨by omega, by omega⟩) (show -2147483648 ≤ (-1 : Int) ∧ (-1 : Int) ≤ 2147483647 from ⟨by omega, by omega⟩)) ?_
                      rintro v w185 H184 ⟨T186, hI187, shS188, ehE189, hr190, hr190s, hv⟩
                      have hr190' : ((w185.2.1 : Nat) : Int) - 2 * H184.1 7 4 F.2.2.1 - 13 * H184.1 3 1 F.2.1 - H184.1 3 3 F.2.1 ≤ ((w.2.1 : Nat) : Int) - 2 * H110.1 7 4 F.2.2.1 - 13 * H110.1 3 1 F.2.1 - H110.1 3 3 F.2.1 + (H184.1 6 11 x) := hr190
                      have hr190s' : ((w185.2.2 : Nat) : Int) - 18 * H184.1 7 4 F.2.2.1 - 700 * H184.1 3 1 F.2.1 - 6 * H184.1 3 3 F.2.1 ≤ ((w.2.2 : Nat) : Int) - 18 * H110.1 7 4 F.2.2.1 - 700 * H110.1 3 1 F.2.1 - 6 * H110.1 3 3 F.2.1 + 10 * (H184.1 6 11 x) := hr190s
                      have hE189 : cEx T [401, 402, 603, 611, 612, 616, 704, 10209, 10507, 30026, 30027, 30031, 40025, 40028, 40029, 40030] H184 H := cEx.trans ehE189 hE112 hS (by decide)
                      have hS188 : ∀ k p, T k p → T186 k p := fun k p z => shS188 k p (hS k p z)
                      have g191 : H184.1 6 2 x = H110.1 6 2 x := (ehE189.1 6 2 x ta0).1 (by decide)
                      have g192 : H184.1 5 6 q4 = H110.1 5 6 q4 := (ehE189.1 5 6 q4 t5).1 (by decide)
                      have g193 : H184.1 5 5 q4 = H110.1 5 5 q4 := (ehE189.1 5 5 q4 t5).1 (by decide)
                      have g194 : H184.1 3 1 F.2.1 = H110.1 3 1 F.2.1 := (ehE189.1 3 1 F.2.1 hI111.top.2.1).1 (by decide)
                      have g195 : H184.1 3 3 F.2.1 = H110.1 3 3 F.2.1 := (ehE189.1 3 3 F.2.1 hI111.top.2.1).1 (by decide)
                      have g196 : H184.1 6 3 x = H110.1 6 3 x := (ehE189.1 6 3 x ta0).1 (by decide)
                      have t197 : T186 5 q4 := shS188 _ _ t5
                      have t198 : T186 10 F.1 := shS188 _ _ hI.top.1
                      have t199 : T186 6 x := shS188 _ _ ta0
                      obtain rfl := hv
                      try dsimp only [Option.toList, List.append, List.cons_append, List.nil_append]
                      refine J.run0 1 rfl ?_
                      try dsimp only
                      exact J.retb rfl rfl rfl (show (1 : Int) = 0 ∨ (1 : Int) = 1 by omega) ⟨_, rfl, T186, hI187, hS188, hE189, (show ((w185.2.1 : Nat) : Int) - 2 * H184.1 7 4 F.2.2.1 - 13 * H184.1 3 1 F.2.1 - H184.1 3 3 F.2.1 ≤ ((w.2.1 : Nat) : Int) - 2 * H.1 7 4 F.2.2.1 - 13 * H.1 3 1 F.2.1 - H.1 3 3 F.2.1 + (H184.1 6 11 x) by omega), (show ((w185.2.2 : Nat) : Int) - 18 * H184.1 7 4 F.2.2.1 - 700 * H184.1 3 1 F.2.1 - 6 * H184.1 3 3 F.2.1 ≤ ((w.2.2 : Nat) : Int) - 18 * H.1 7 4 F.2.2.1 - 700 * H.1 3 1 F.2.1 - 6 * H.1 3 3 F.2.1 + 10 * (H184.1 6 11 x) by omega), _, rfl, (show (((1 : Int)) = 0 ∨ ((1 : Int)) = 1) ∧ (((1 : Int)) = 0 → H184.1 6 11 x = 0) ∧ (((1 : Int)) = 0 → H184.1 0 1 (H184.2.2.2.2 6 1 x) < 120) from ⟨by omega, by omega, by omega⟩)⟩
              · have c200 : ¬ (¬ ((1 : Int) = (0 : Int))) := hc
                clear hc
                exfalso
                omega
            · have c201 : ¬ (¬ (x106 = (0 : Int))) := hc
              clear hc
              refine J.run0 1 rfl ?_
              try dsimp only
              exact J.retb rfl rfl rfl (show (0 : Int) = 0 ∨ (0 : Int) = 1 by omega) ⟨_, rfl, T, hI, hS, hE, (show ((w.2.1 : Nat) : Int) - 2 * H.1 7 4 F.2.2.1 - 13 * H.1 3 1 F.2.1 - H.1 3 3 F.2.1 ≤ ((w.2.1 : Nat) : Int) - 2 * H.1 7 4 F.2.2.1 - 13 * H.1 3 1 F.2.1 - H.1 3 3 F.2.1 + (H.1 6 11 x) by omega), (show ((w.2.2 : Nat) : Int) - 18 * H.1 7 4 F.2.2.1 - 700 * H.1 3 1 F.2.1 - 6 * H.1 3 3 F.2.1 ≤ ((w.2.2 : Nat) : Int) - 18 * H.1 7 4 F.2.2.1 - 700 * H.1 3 1 F.2.1 - 6 * H.1 3 3 F.2.1 + 10 * (H.1 6 11 x) by omega), _, rfl, (show (((0 : Int)) = 0 ∨ ((0 : Int)) = 1) ∧ (((0 : Int)) = 0 → H.1 6 11 x = 0) ∧ (((0 : Int)) = 0 → H.1 0 1 (H.2.2.2.2 6 1 x) < 120) from ⟨by omega, by omega, by omega⟩)⟩
      · have c202 : ¬ (jn (H.1 6 4 x) = jn ((-1 : Int))) := hc
        clear hc
        have f203 : (-2147483648) ≤ H.1 5 5 q4 ∧ H.1 5 5 q4 ≤ 2147483647 := hI.v 5 5 q4 t5
        refine J.run 4 rfl ⟨(hI.is ta0), (hI.is t5)⟩ ?_
        try dsimp only
        refine J.icmpN rfl rfl rfl (fun hc => ?_) (fun hc => ?_)
        · have c204 : ¬ (jn (H.1 6 4 x) = jn (H.1 5 5 q4)) := hc
          clear hc
          have f205 : (-2147483648) ≤ H.1 5 6 q4 ∧ H.1 5 6 q4 ≤ 2147483647 := hI.v 5 6 q4 t5
          refine J.run 7 rfl (hI.is t5) ?_
          try dsimp only
          refine J.icmp rfl rfl rfl ⟨(show -2147483648 ≤ H.1 5 6 q4 ∧ H.1 5 6 q4 ≤ 2147483647 from ⟨by omega, by omega⟩), (show -2147483648 ≤ (-1 : Int) ∧ (-1 : Int) ≤ 2147483647 from ⟨by omega, by omega⟩)⟩ (fun hc => ?_) (fun hc => ?_)
          · have c206 : H.1 5 6 q4 = (-1 : Int) := hc
            clear hc
            refine J.run 3 rfl (hI.is ta0) ?_
            try dsimp only
            refine J.gn fun H207 hH207 => ?_
            have hI208 : cJ F T w H207 := by rw [hH207]; exact cJ.wi hI trivial rfl rfl
            have hE209 : cEx T [401, 402, 603, 611, 612, 616, 704, 10209, 10507, 30026, 30027, 30031, 40025, 40028, 40029, 40030] H207 H := by rw [hH207]; exact cEx.wi hE (by decide)
            have g210 : H207.1 6 11 x = H.1 6 11 x := by subst hH207; rfl
            have g211 : H207.1 6 2 x = H.1 6 2 x := by subst hH207; rfl
            have g212 : H207.1 5 5 q4 = H.1 5 5 q4 := by subst hH207; rfl
            have g213 : H207.1 5 6 q4 = H.1 5 6 q4 := by subst hH207; rfl
            have g214 : H207.1 7 4 F.2.2.1 = H.1 7 4 F.2.2.1 := by subst hH207; rfl
            have g215 : H207.1 3 1 F.2.1 = H.1 3 1 F.2.1 := by subst hH207; rfl
            have g216 : H207.1 3 3 F.2.1 = H.1 3 3 F.2.1 := by subst hH207; rfl
            have g217 : H207.1 6 3 x = (1 : Int) := by subst hH207; exact if_pos rfl
            clear hH207
            refine J.run0 4 rfl ?_
            try dsimp only
            refine J.ifc rfl rfl rfl (show -2147483648 ≤ (0 : Int) ∧ (0 : Int) ≤ 2147483647 from ⟨by omega, by omega⟩) (fun hc => ?_) (fun hc => ?_)
            · have c218 : (0 : Int) = (0 : Int) := hc
              clear hc
              refine J.run0 2 rfl ?_
              try dsimp only
              have e61 := (hE209.1 6 1 x ta0).2.2 (by decide)
              have e01 := (hE209.1 0 1 (H.2.2.2.2 6 1 x) (hI.o 6 1 0 x rfl ta0).2).1 (by decide)
              have h01 : H207.1 0 1 (H207.2.2.2.2 6 1 x) < 120 := by rw [e61]; omega
              refine J.inv rfl rfl rfl rfl rfl rfl ((jD_w rfl).mpr (hI208.is hI.top.1)) rfl rfl rfl rfl rfl (c_X10_send (x := x) (kind := (1 : Int)) (block := (-1 : Int)) (before := (-1 : Int)) hI208 ta0 (show H207.1 6 11 x = 0 from by omega) (show H207.1 0 1 (H207.2.2.2.2 6 1 x) < 120 from by omega) (show -2147483648 ≤ (-1 : Int) ∧ (-1 : Int) ≤ 2147483647 from ⟨by omega, by omega⟩) (show -2147483648 ≤ (-1 : Int) ∧ (-1 : Int) ≤ 2147483647 from ⟨by omega, by omega⟩)) ?_
              rintro v w220 H219 ⟨T221, hI222, shS223, ehE224, hr225, hr225s, hv⟩
              have hr225' : ((w220.2.1 : Nat) : Int) - 2 * H219.1 7 4 F.2.2.1 - 13 * H219.1 3 1 F.2.1 - H219.1 3 3 F.2.1 ≤ ((w.2.1 : Nat) : Int) - 2 * H207.1 7 4 F.2.2.1 - 13 * H207.1 3 1 F.2.1 - H207.1 3 3 F.2.1 + (H219.1 6 11 x) := hr225
              have hr225s' : ((w220.2.2 : Nat) : Int) - 18 * H219.1 7 4 F.2.2.1 - 700 * H219.1 3 1 F.2.1 - 6 * H219.1 3 3 F.2.1 ≤ ((w.2.2 : Nat) : Int) - 18 * H207.1 7 4 F.2.2.1 - 700 * H207.1 3 1 F.2.1 - 6 * H207.1 3 3 F.2.1 + 10 * (H219.1 6 11 x) := hr225s
              have hE224 : cEx T [401, 402, 603, 611, 612, 616, 704, 10209, 10507, 30026, 30027, 30031, 40025, 40028, 40029, 40030] H219 H := cEx.trans ehE224 hE209 hS (by decide)
              have hS223 : ∀ k p, T k p → T221 k p := fun k p z => shS223 k p (hS k p z)
              have g226 : H219.1 6 2 x = H207.1 6 2 x := (ehE224.1 6 2 x ta0).1 (by decide)
              have g227 : H219.1 5 5 q4 = H207.1 5 5 q4 := (ehE224.1 5 5 q4 t5).1 (by decide)
              have g228 : H219.1 5 6 q4 = H207.1 5 6 q4 := (ehE224.1 5 6 q4 t5).1 (by decide)
              have g229 : H219.1 3 1 F.2.1 = H207.1 3 1 F.2.1 := (ehE224.1 3 1 F.2.1 hI208.top.2.1).1 (by decide)
              have g230 : H219.1 3 3 F.2.1 = H207.1 3 3 F.2.1 := (ehE224.1 3 3 F.2.1 hI208.top.2.1).1 (by decide)
              have g231 : H219.1 6 3 x = H207.1 6 3 x := (ehE224.1 6 3 x ta0).1 (by decide)
              have t232 : T221 5 q4 := shS223 _ _ t5
              have t233 : T221 10 F.1 := shS223 _ _ hI.top.1
              have t234 : T221 6 x := shS223 _ _ ta0
              obtain rfl := hv
              try dsimp only [Option.toList, List.append, List.cons_append, List.nil_append]
              refine J.run0 1 rfl ?_
              try dsimp only
              exact J.retb rfl rfl rfl (show (1 : Int) = 0 ∨ (1 : Int) = 1 by omega) ⟨_, rfl, T221, hI222, hS223, hE224, (show ((w220.2.1 : Nat) : Int) - 2 * H219.1 7 4 F.2.2.1 - 13 * H219.1 3 1 F.2.1 - H219.1 3 3 F.2.1 ≤ ((w.2.1 : Nat) : Int) - 2 * H.1 7 4 F.2.2.1 - 13 * H.1 3 1 F.2.1 - H.1 3 3 F.2.1 + (H219.1 6 11 x) by omega), (show ((w220.2.2 : Nat) : Int) - 18 * H219.1 7 4 F.2.2.1 - 700 * H219.1 3 1 F.2.1 - 6 * H219.1 3 3 F.2.1 ≤ ((w.2.2 : Nat) : Int) - 18 * H.1 7 4 F.2.2.1 - 700 * H.1 3 1 F.2.1 - 6 * H.1 3 3 F.2.1 + 10 * (H219.1 6 11 x) by omega), _, rfl, (show (((1 : Int)) = 0 ∨ ((1 : Int)) = 1) ∧ (((1 : Int)) = 0 → H219.1 6 11 x = 0) ∧ (((1 : Int)) = 0 → H219.1 0 1 (H219.2.2.2.2 6 1 x) < 120) from ⟨by omega, by omega, by omega⟩)⟩
            · have c235 : ¬ ((0 : Int) = (0 : Int)) := hc
              clear hc
              exfalso
              omega
          · have c236 : ¬ (H.1 5 6 q4 = (-1 : Int)) := hc
            clear hc
            refine J.run 3 rfl (hI.is ta0) ?_
            try dsimp only
            refine J.icmp rfl rfl rfl ⟨(show -2147483648 ≤ H.1 5 6 q4 ∧ H.1 5 6 q4 ≤ 2147483647 from ⟨by omega, by omega⟩), (show -2147483648 ≤ H.1 6 2 x ∧ H.1 6 2 x ≤ 2147483647 from ⟨by omega, by omega⟩)⟩ (fun hc => ?_) (fun hc => ?_)
            · have c237 : H.1 6 2 x ≤ H.1 5 6 q4 := hc
              clear hc
              refine J.run0 1 rfl ?_
              try dsimp only
              exact J.retb rfl rfl rfl (show (0 : Int) = 0 ∨ (0 : Int) = 1 by omega) ⟨_, rfl, T, hI, hS, hE, (show ((w.2.1 : Nat) : Int) - 2 * H.1 7 4 F.2.2.1 - 13 * H.1 3 1 F.2.1 - H.1 3 3 F.2.1 ≤ ((w.2.1 : Nat) : Int) - 2 * H.1 7 4 F.2.2.1 - 13 * H.1 3 1 F.2.1 - H.1 3 3 F.2.1 + (H.1 6 11 x) by omega), (show ((w.2.2 : Nat) : Int) - 18 * H.1 7 4 F.2.2.1 - 700 * H.1 3 1 F.2.1 - 6 * H.1 3 3 F.2.1 ≤ ((w.2.2 : Nat) : Int) - 18 * H.1 7 4 F.2.2.1 - 700 * H.1 3 1 F.2.1 - 6 * H.1 3 3 F.2.1 + 10 * (H.1 6 11 x) by omega), _, rfl, (show (((0 : Int)) = 0 ∨ ((0 : Int)) = 1) ∧ (((0 : Int)) = 0 → H.1 6 11 x = 0) ∧ (((0 : Int)) = 0 → H.1 0 1 (H.2.2.2.2 6 1 x) < 120) from ⟨by omega, by omega, by omega⟩)⟩
            · have c238 : ¬ (H.1 6 2 x ≤ H.1 5 6 q4) := hc
              clear hc
              refine J.run 7 rfl (hI.is t5) ?_
              try dsimp only
              refine J.inv rfl rfl rfl rfl rfl rfl ((jD_w rfl).mpr (hI.is hI.top.1)) rfl rfl rfl rfl rfl (c_X10_heardFrom (x := x) (kind := (1 : Int)) (round := H.1 5 6 q4) (block := H.1 5 5 q4) hI ta0 (show -2147483648 ≤ (1 : Int) ∧ (1 : Int) ≤ 2147483647 from ⟨by omega, by omega⟩) (show -2147483648 ≤ (H.1 5 6 q4) ∧ (H.1 5 6 q4) ≤ 2147483647 from ⟨by omega, by omega⟩)) ?_
              rintro v w H ⟨rfl, rfl, hv⟩
              obtain ⟨x239, rfl, r240⟩ := hv
              try dsimp only [Option.toList, List.append, List.cons_append, List.nil_append]
              refine J.inv rfl rfl rfl rfl rfl rfl ((jD_w rfl).mpr (hI.is ta0)) rfl rfl rfl rfl rfl (c_X6_isMost (a0 := x) (bits := x239) hI ta0 ) ?_
              rintro v w H ⟨rfl, rfl, hv⟩
              obtain ⟨x241, rfl, r242⟩ := hv
              have r242' : x241 = 0 ∨ x241 = 1 := r242
              try dsimp only [Option.toList, List.append, List.cons_append, List.nil_append]
              refine J.ifc rfl rfl rfl (show -2147483648 ≤ x241 ∧ x241 ≤ 2147483647 from ⟨by omega, by omega⟩) (fun hc => ?_) (fun hc => ?_)
              · have c243 : ¬ (x241 = (0 : Int)) := hc
                clear hc
                refine J.run0 1 rfl ?_
                try dsimp only
                refine J.ifc rfl rfl rfl (show -2147483648 ≤ (0 : Int) ∧ (0 : Int) ≤ 2147483647 from ⟨by omega, by omega⟩) (fun hc => ?_) (fun hc => ?_)
                · have c244 : ¬ ((0 : Int) = (0 : Int)) := hc
                  clear hc
                  exfalso
                  omega
                · have c245 : ¬ (¬ ((0 : Int) = (0 : Int))) := hc
                  clear hc
                  refine J.run 3 rfl (hI.is ta0) ?_
                  try dsimp only
                  refine J.icmpN rfl rfl rfl (fun hc => ?_) (fun hc => ?_)
                  · have c246 : jn (H.1 5 6 q4) < jn (H.1 6 5 x) := hc
                    clear hc
                    refine J.run 5 rfl (hI.is ta0) ?_
                    try dsimp only
                    refine J.gn fun H247 hH247 => ?_
                    have hI248 : cJ F T w H247 := by rw [hH247]; exact cJ.wi hI trivial rfl rfl
                    have hE249 : cEx T [401, 402, 603, 611, 612, 616, 704, 10209, 10507, 30026, 30027, 30031, 40025, 40028, 40029, 40030] H247 H := by rw [hH247]; exact cEx.wi hE (by decide)
                    have g250 : H247.1 6 11 x = H.1 6 11 x := by subst hH247; rfl
                    have g251 : H247.1 6 2 x = H.1 6 2 x := by subst hH247; rfl
                    have g252 : H247.1 5 5 q4 = H.1 5 5 q4 := by subst hH247; rfl
                    have g253 : H247.1 5 6 q4 = H.1 5 6 q4 := by subst hH247; rfl
                    have g254 : H247.1 7 4 F.2.2.1 = H.1 7 4 F.2.2.1 := by subst hH247; rfl
                    have g255 : H247.1 3 1 F.2.1 = H.1 3 1 F.2.1 := by subst hH247; rfl
                    have g256 : H247.1 3 3 F.2.1 = H.1 3 3 F.2.1 := by subst hH247; rfl
                    have g257 : H247.1 6 3 x = (1 : Int) := by subst hH247; exact if_pos rfl
                    clear hH247
                    refine J.run0 4 rfl ?_
                    try dsimp only
                    refine J.ifc rfl rfl rfl (show -2147483648 ≤ (0 : Int) ∧ (0 : Int) ≤ 2147483647 from ⟨by omega, by omega⟩) (fun hc => ?_) (fun hc => ?_)
                    · have c258 : (0 : Int) = (0 : Int) := hc
                      clear hc
                      refine J.run0 2 rfl ?_
                      try dsimp only
                      have e61 := (hE249.1 6 1 x ta0).2.2 (by decide)
                      have e01 := (hE249.1 0 1 (H.2.2.2.2 6 1 x) (hI.o 6 1 0 x rfl ta0).2).1 (by decide)
                      have h01 : H247.1 0 1 (H247.2.2.2.2 6 1 x) < 120 := by rw [e61]; omega
                      refine J.inv rfl rfl rfl rfl rfl rfl ((jD_w rfl).mpr (hI248.is hI.top.1)) rfl rfl rfl rfl rfl (c_X10_send (x := x) (kind := (1 : Int)) (block := (-1 : Int)) (before := (-1 : Int)) hI248 ta0 (show H247.1 6 11 x = 0 from by omega) (show H247.1 0 1 (H247.2.2.2.2 6 1 x) < 120 from by omega) (show -2147483648 ≤ (-1 : Int) ∧ (-1 : Int) ≤ 2147483647 from ⟨by omega, by omega⟩) (show -2147483648 ≤ (-1 : Int) ∧ (-1 : Int) ≤ 2147483647 from ⟨by omega, by omega⟩)) ?_
                      rintro v w260 H259 ⟨T261, hI262, shS263, ehE264, hr265, hr265s, hv⟩
                      have hr265' : ((w260.2.1 : Nat) : Int) - 2 * H259.1 7 4 F.2.2.1 - 13 * H259.1 3 1 F.2.1 - H259.1 3 3 F.2.1 ≤ ((w.2.1 : Nat) : Int) - 2 * H247.1 7 4 F.2.2.1 - 13 * H247.1 3 1 F.2.1 - H247.1 3 3 F.2.1 + (H259.1 6 11 x) := hr265
                      have hr265s' : ((w260.2.2 : Nat) : Int) - 18 * H259.1 7 4 F.2.2.1 - 700 * H259.1 3 1 F.2.1 - 6 * H259.1 3 3 F.2.1 ≤ ((w.2.2 : Nat) : Int) - 18 * H247.1 7 4 F.2.2.1 - 700 * H247.1 3 1 F.2.1 - 6 * H247.1 3 3 F.2.1 + 10 * (H259.1 6 11 x) := hr265s
                      have hE264 : cEx T [401, 402, 603, 611, 612, 616, 704, 10209, 10507, 30026, 30027, 30031, 40025, 40028, 40029, 40030] H259 H := cEx.trans ehE264 hE249 hS (by decide)
                      have hS263 : ∀ k p, T k p → T261 k p := fun k p z => shS263 k p (hS k p z)
                      have g266 : H259.1 6 2 x = H247.1 6 2 x := (ehE264.1 6 2 x ta0).1 (by decide)
                      have g267 : H259.1 5 5 q4 = H247.1 5 5 q4 := (ehE264.1 5 5 q4 t5).1 (by decide)
                      have g268 : H259.1 5 6 q4 = H247.1 5 6 q4 := (ehE264.1 5 6 q4 t5).1 (by decide)
                      have g269 : H259.1 3 1 F.2.1 = H247.1 3 1 F.2.1 := (ehE264.1 3 1 F.2.1 hI248.top.2.1).1 (by decide)
                      have g270 : H259.1 3 3 F.2.1 = H247.1 3 3 F.2.1 := (ehE264.1 3 3 F.2.1 hI248.top.2.1).1 (by decide)
                      have g271 : H259.1 6 3 x = H247.1 6 3 x := (ehE264.1 6 3 x ta0).1 (by decide)
                      have t272 : T261 5 q4 := shS263 _ _ t5
                      have t273 : T261 10 F.1 := shS263 _ _ hI.top.1
                      have t274 : T261 6 x := shS263 _ _ ta0
                      obtain rfl := hv
                      try dsimp only [Option.toList, List.append, List.cons_append, List.nil_append]
                      refine J.run0 1 rfl ?_
                      try dsimp only
                      exact J.retb rfl rfl rfl (show (1 : Int) = 0 ∨ (1 : Int) = 1 by omega) ⟨_, rfl, T261, hI262, hS263, hE264, (show ((w260.2.1 : Nat) : Int) - 2 * H259.1 7 4 F.2.2.1 - 13 * H259.1 3 1 F.2.1 - H259.1 3 3 F.2.1 ≤ ((w.2.1 : Nat) : Int) - 2 * H.1 7 4 F.2.2.1 - 13 * H.1 3 1 F.2.1 - H.1 3 3 F.2.1 + (H259.1 6 11 x) by omega), (show ((w260.2.2 : Nat) : Int) - 18 * H259.1 7 4 F.2.2.1 - 700 * H259.1 3 1 F.2.1 - 6 * H259.1 3 3 F.2.1 ≤ ((w.2.2 : Nat) : Int) - 18 * H.1 7 4 F.2.2.1 - 700 * H.1 3 1 F.2.1 - 6 * H.1 3 3 F.2.1 + 10 * (H259.1 6 11 x) by omega), _, rfl, (show (((1 : Int)) = 0 ∨ ((1 : Int)) = 1) ∧ (((1 : Int)) = 0 → H259.1 6 11 x = 0) ∧ (((1 : Int)) = 0 → H259.1 0 1 (H259.2.2.2.2 6 1 x) < 120) from ⟨by omega, by omega, by omega⟩)⟩
                    · have c275 : ¬ ((0 : Int) = (0 : Int)) := hc
                      clear hc
                      exfalso
                      omega
                  · have c276 : ¬ (jn (H.1 5 6 q4) < jn (H.1 6 5 x)) := hc
                    clear hc
                    refine J.run 6 rfl (hI.is ta0) ?_
                    try dsimp only
                    refine J.gn fun H277 hH277 => ?_
                    have hI278 : cJ F T w H277 := by rw [hH277]; exact cJ.wi hI trivial rfl rfl
                    have hE279 : cEx T [401, 402, 603, 611, 612, 616, 704, 10209, 10507, 30026, 30027, 30031, 40025, 40028, 40029, 40030] H277 H := by rw [hH277]; exact cEx.wi hE (by decide)
                    have g280 : H277.1 6 11 x = H.1 6 11 x := by subst hH277; rfl
                    have g281 : H277.1 6 2 x = H.1 6 2 x := by subst hH277; rfl
                    have g282 : H277.1 5 5 q4 = H.1 5 5 q4 := by subst hH277; rfl
                    have g283 : H277.1 5 6 q4 = H.1 5 6 q4 := by subst hH277; rfl
                    have g284 : H277.1 7 4 F.2.2.1 = H.1 7 4 F.2.2.1 := by subst hH277; rfl
                    have g285 : H277.1 3 1 F.2.1 = H.1 3 1 F.2.1 := by subst hH277; rfl
                    have g286 : H277.1 3 3 F.2.1 = H.1 3 3 F.2.1 := by subst hH277; rfl
                    have g287 : H277.1 6 3 x = (1 : Int) := by subst hH277; exact if_pos rfl
                    clear hH277
                    refine J.run0 4 rfl ?_
                    try dsimp only
                    refine J.ifc rfl rfl rfl (show -2147483648 ≤ (1 : Int) ∧ (1 : Int) ≤ 2147483647 from ⟨by omega, by omega⟩) (fun hc => ?_) (fun hc => ?_)
                    · have c288 : (1 : Int) = (0 : Int) := hc
                      clear hc
                      exfalso
                      omega
                    · have c289 : ¬ ((1 : Int) = (0 : Int)) := hc
                      clear hc
                      refine J.run 3 rfl ⟨(hI278.is hI.top.1), (hI278.o 10 0 3 F.1 rfl hI.top.1).1⟩ ?_
                      try dsimp only
                      try dsimp only
                      rw [show (H277.2.2.2.2 10 0 F.1) = F.2.1 from hI278.one.2.1 _ (hI278.o 10 0 3 F.1 rfl hI.top.1).2]
                      have f290 : (-2147483648) ≤ H277.1 5 5 q4 ∧ H277.1 5 5 q4 ≤ 2147483647 := hI278.v 5 5 q4 t5
                      refine J.run 2 rfl (hI278.is t5) ?_
                      try dsimp only
                      refine J.inv rfl rfl rfl rfl rfl rfl ((jD_w rfl).mpr (hI278.is hI278.top.2.1)) rfl rfl rfl rfl rfl (c_X3_get (b := H277.1 5 5 q4) hI278  (show -2147483648 ≤ (H277.1 5 5 q4) ∧ (H277.1 5 5 q4) ≤ 2147483647 from ⟨by omega, by omega⟩)) ?_
                      rintro v w H277 ⟨rfl, rfl, hv⟩
                      rcases hv with ⟨rfl, r293⟩ | ⟨q291, rfl, t292, r293⟩
                      · skip
                        try dsimp only [Option.toList, List.append, List.cons_append, List.nil_append]
                        refine J.inv rfl rfl rfl rfl rfl rfl ((jD_w rfl).mpr (hI278.is ta0)) rfl rfl rfl rfl rfl (c_X6_isGood (a0 := x) (b := none) hI278 ta0 (fun _ z => nomatch z) ) ?_
                        rintro v w H277 ⟨rfl, rfl, hv⟩
                        obtain ⟨x294, rfl, r295⟩ := hv
                        have r295' : (x294 = 0 ∨ x294 = 1) ∧ (x294 = 1 → none ≠ none) := r295
                        try dsimp only [Option.toList, List.append, List.cons_append, List.nil_append]
                        refine J.ifc rfl rfl rfl (show -2147483648 ≤ x294 ∧ x294 ≤ 2147483647 from ⟨by omega, by omega⟩) (fun hc => ?_) (fun hc => ?_)
                        · have c296 : x294 = (0 : Int) := hc
                          clear hc
                          refine J.run0 2 rfl ?_
                          try dsimp only
                          have e61 := (hE279.1 6 1 x ta0).2.2 (by decide)
                          have e01 := (hE279.1 0 1 (H.2.2.2.2 6 1 x) (hI.o 6 1 0 x rfl ta0).2).1 (by decide)
                          have h01 : H277.1 0 1 (H277.2.2.2.2 6 1 x) < 120 := by rw [e61]; omega
                          refine J.inv rfl rfl rfl rfl rfl rfl ((jD_w rfl).mpr (hI278.is hI.top.1)) rfl rfl rfl rfl rfl (c_X10_send (x := x) (kind := (1 : Int)) (block := (-1 : Int)) (before := (-1 : Int)) hI278 ta0 (show H277.1 6 11 x = 0 from by omega) (show H277.1 0 1 (H277.2.2.2.2 6 1 x) < 120 from by omega) (show -2147483648 ≤ (-1 : Int) ∧ (-1 : Int) ≤ 2147483647 from ⟨by omega, by omega⟩) (show -2147483648 ≤ (-1 : Int) ∧ (-1 : Int) ≤ 2147483647 from ⟨by omega, by omega⟩)) ?_
                          rintro v w298 H297 ⟨T299, hI300, shS301, ehE302, hr303, hr303s, hv⟩
                          have hr303' : ((w298.2.1 : Nat) : Int) - 2 * H297.1 7 4 F.2.2.1 - 13 * H297.1 3 1 F.2.1 - H297.1 3 3 F.2.1 ≤ ((w.2.1 : Nat) : Int) - 2 * H277.1 7 4 F.2.2.1 - 13 * H277.1 3 1 F.2.1 - H277.1 3 3 F.2.1 + (H297.1 6 11 x) := hr303
                          have hr303s' : ((w298.2.2 : Nat) : Int) - 18 * H297.1 7 4 F.2.2.1 - 700 * H297.1 3 1 F.2.1 - 6 * H297.1 3 3 F.2.1 ≤ ((w.2.2 : Nat) : Int) - 18 * H277.1 7 4 F.2.2.1 - 700 * H277.1 3 1 F.2.1 - 6 * H277.1 3 3 F.2.1 + 10 * (H297.1 6 11 x) := hr303s
                          have hE302 : cEx T [401, 402, 603, 611, 612, 616, 704, 10209, 10507, 30026, 30027, 30031, 40025, 40028, 40029, 40030] H297 H := cEx.trans ehE302 hE279 hS (by decide)
                          have hS301 : ∀ k p, T k p → T299 k p := fun k p z => shS301 k p (hS k p z)
                          have g304 : H297.1 6 2 x = H277.1 6 2 x := (ehE302.1 6 2 x ta0).1 (by decide)
                          have g305 : H297.1 5 5 q4 = H277.1 5 5 q4 := (ehE302.1 5 5 q4 t5).1 (by decide)
                          have g306 : H297.1 5 6 q4 = H277.1 5 6 q4 := (ehE302.1 5 6 q4 t5).1 (by decide)
                          have g307 : H297.1 3 1 F.2.1 = H277.1 3 1 F.2.1 := (ehE302.1 3 1 F.2.1 hI278.top.2.1).1 (by decide)
                          have g308 : H297.1 3 3 F.2.1 = H277.1 3 3 F.2.1 := (ehE302.1 3 3 F.2.1 hI278.top.2.1).1 (by decide)
                          have g309 : H297.1 6 3 x = H277.1 6 3 x := (ehE302.1 6 3 x ta0).1 (by decide)
                          have t310 : T299 5 q4 := shS301 _ _ t5
                          have t311 : T299 10 F.1 := shS301 _ _ hI.top.1
                          have t312 : T299 6 x := shS301 _ _ ta0
                          obtain rfl := hv
                          try dsimp only [Option.toList, List.append, List.cons_append, List.nil_append]
                          refine J.run0 1 rfl ?_
                          try dsimp only
                          exact J.retb rfl rfl rfl (show (1 : Int) = 0 ∨ (1 : Int) = 1 by omega) ⟨_, rfl, T299, hI300, hS301, hE302, (show ((w298.2.1 : Nat) : Int) - 2 * H297.1 7 4 F.2.2.1 - 13 * H297.1 3 1 F.2.1 - H297.1 3 3 F.2.1 ≤ ((w.2.1 : Nat) : Int) - 2 * H.1 7 4 F.2.2.1 - 13 * H.1 3 1 F.2.1 - H.1 3 3 F.2.1 + (H297.1 6 11 x) by omega), (show ((w298.2.2 : Nat) : Int) - 18 * H297.1 7 4 F.2.2.1 - 700 * H297.1 3 1 F.2.1 - 6 * H297.1 3 3 F.2.1 ≤ ((w.2.2 : Nat) : Int) - 18 * H.1 7 4 F.2.2.1 - 700 * H.1 3 1 F.2.1 - 6 * H.1 3 3 F.2.1 + 10 * (H297.1 6 11 x) by omega), _, rfl, (show (((1 : Int)) = 0 ∨ ((1 : Int)) = 1) ∧ (((1 : Int)) = 0 → H297.1 6 11 x = 0) ∧ (((1 : Int)) = 0 → H297.1 0 1 (H297.2.2.2.2 6 1 x) < 120) from ⟨by omega, by omega, by omega⟩)⟩
                        · have c313 : ¬ (x294 = (0 : Int)) := hc
                          clear hc
                          refine J.run 4 rfl (hI278.is t5) ?_
                          try dsimp only
                          have e61 := (hE279.1 6 1 x ta0).2.2 (by decide)
                          have e01 := (hE279.1 0 1 (H.2.2.2.2 6 1 x) (hI.o 6 1 0 x rfl ta0).2).1 (by decide)
                          have h01 : H277.1 0 1 (H277.2.2.2.2 6 1 x) < 120 := by rw [e61]; omega
                          refine J.inv rfl rfl rfl rfl rfl rfl ((jD_w rfl).mpr (hI278.is hI.top.1)) rfl rfl rfl rfl rfl (c_X10_send (x := x) (kind := (1 : Int)) (block := H277.1 5 5 q4) (before := (-1 : Int)) hI278 ta0 (show H277.1 6 11 x = 0 from by omega) (show H277.1 0 1 (H277.2.2.2.2 6 1 x) < 120 from by omega) (show -2147483648 ≤ (H277.1 5 5 q4) ∧ (H277.1 5 5 q4) ≤ 2147483647 from ⟨by omega, by omega⟩) (show -2147483648 ≤ (-1 : Int) ∧ (-1 : Int) ≤ 2147483647 from ⟨by omega, by omega⟩)) ?_
                          rintro v w315 H314 ⟨T316, hI317, shS318, ehE319, hr320, hr320s, hv⟩
                          have hr320' : ((w315.2.1 : Nat) : Int) - 2 * H314.1 7 4 F.2.2.1 - 13 * H314.1 3 1 F.2.1 - H314.1 3 3 F.2.1 ≤ ((w.2.1 : Nat) : Int) - 2 * H277.1 7 4 F.2.2.1 - 13 * H277.1 3 1 F.2.1 - H277.1 3 3 F.2.1 + (H314.1 6 11 x) := hr320
                          have hr320s' : ((w315.2.2 : Nat) : Int) - 18 * H314.1 7 4 F.2.2.1 - 700 * H314.1 3 1 F.2.1 - 6 * H314.1 3 3 F.2.1 ≤ ((w.2.2 : Nat) : Int) - 18 * H277.1 7 4 F.2.2.1 - 700 * H277.1 3 1 F.2.1 - 6 * H277.1 3 3 F.2.1 + 10 * (H314.1 6 11 x) := hr320s
                          have hE319 : cEx T [401, 402, 603, 611, 612, 616, 704, 10209, 10507, 30026, 30027, 30031, 40025, 40028, 40029, 40030] H314 H := cEx.trans ehE319 hE279 hS (by decide)
                          have hS318 : ∀ k p, T k p → T316 k p := fun k p z => shS318 k p (hS k p z)
                          have g321 : H314.1 6 2 x = H277.1 6 2 x := (ehE319.1 6 2 x ta0).1 (by decide)
                          have g322 : H314.1 5 5 q4 = H277.1 5 5 q4 := (ehE319.1 5 5 q4 t5).1 (by decide)
                          have g323 : H314.1 5 6 q4 = H277.1 5 6 q4 := (ehE319.1 5 6 q4 t5).1 (by decide)
                          have g324 : H314.1 3 1 F.2.1 = H277.1 3 1 F.2.1 := (ehE319.1 3 1 F.2.1 hI278.top.2.1).1 (by decide)
                          have g325 : H314.1 3 3 F.2.1 = H277.1 3 3 F.2.1 := (ehE319.1 3 3 F.2.1 hI278.top.2.1).1 (by decide)
                          have g326 : H314.1 6 3 x = H277.1 6 3 x := (ehE319.1 6 3 x ta0).1 (by decide)
                          have t327 : T316 5 q4 := shS318 _ _ t5
                          have t328 : T316 10 F.1 := shS318 _ _ hI.top.1
                          have t329 : T316 6 x := shS318 _ _ ta0
                          obtain rfl := hv
                          try dsimp only [Option.toList, List.append, List.cons_append, List.nil_append]
                          refine J.run0 1 rfl ?_
                          try dsimp only
                          exact J.retb rfl rfl rfl (show (1 : Int) = 0 ∨ (1 : Int) = 1 by omega) ⟨_, rfl, T316, hI317, hS318, hE319, (show ((w315.2.1 : Nat) : Int) - 2 * H314.1 7 4 F.2.2.1 - 13 * H314.1 3 1 F.2.1 - H314.1 3 3 F.2.1 ≤ ((w.2.1 : Nat) : Int) - 2 * H.1 7 4 F.2.2.1 - 13 * H.1 3 1 F.2.1 - H.1 3 3 F.2.1 + (H314.1 6 11 x) by omega), (show ((w315.2.2 : Nat) : Int) - 18 * H314.1 7 4 F.2.2.1 - 700 * H314.1 3 1 F.2.1 - 6 * H314.1 3 3 F.2.1 ≤ ((w.2.2 : Nat) : Int) - 18 * H.1 7 4 F.2.2.1 - 700 * H.1 3 1 F.2.1 - 6 * H.1 3 3 F.2.1 + 10 * (H314.1 6 11 x) by omega), _, rfl, (show (((1 : Int)) = 0 ∨ ((1 : Int)) = 1) ∧ (((1 : Int)) = 0 → H314.1 6 11 x = 0) ∧ (((1 : Int)) = 0 → H314.1 0 1 (H314.2.2.2.2 6 1 x) < 120) from ⟨by omega, by omega, by omega⟩)⟩
                      · skip
                        try dsimp only [Option.toList, List.append, List.cons_append, List.nil_append]
                        have f330 : 0 ≤ H277.1 0 1 q291 ∧ H277.1 0 1 q291 ≤ 299 := hI278.v 0 1 q291 t292
                        refine J.inv rfl rfl rfl rfl rfl rfl ((jD_w rfl).mpr (hI278.is ta0)) rfl rfl rfl rfl rfl (c_X6_isGood (a0 := x) (b := some q291) hI278 ta0 (fun _ z => by cases z; exact t292) ) ?_
                        rintro v w H277 ⟨rfl, rfl, hv⟩
                        obtain ⟨x331, rfl, r332⟩ := hv
                        have r332' : (x331 = 0 ∨ x331 = 1) ∧ (x331 = 1 → (some q291) ≠ none) := r332
                        try dsimp only [Option.toList, List.append, List.cons_append, List.nil_append]
                        refine J.ifc rfl rfl rfl (show -2147483648 ≤ x331 ∧ x331 ≤ 2147483647 from ⟨by omega, by omega⟩) (fun hc => ?_) (fun hc => ?_)
                        · have c333 : x331 = (0 : Int) := hc
                          clear hc
                          refine J.run0 2 rfl ?_
                          try dsimp only
                          have e61 := (hE279.1 6 1 x ta0).2.2 (by decide)
                          have e01 := (hE279.1 0 1 (H.2.2.2.2 6 1 x) (hI.o 6 1 0 x rfl ta0).2).1 (by decide)
                          have h01 : H277.1 0 1 (H277.2.2.2.2 6 1 x) < 120 := by rw [e61]; omega
                          refine J.inv rfl rfl rfl rfl rfl rfl ((jD_w rfl).mpr (hI278.is hI.top.1)) rfl rfl rfl rfl rfl (c_X10_send (x := x) (kind := (1 : Int)) (block := (-1 : Int)) (before := (-1 : Int)) hI278 ta0 (show H277.1 6 11 x = 0 from by omega) (show H277.1 0 1 (H277.2.2.2.2 6 1 x) < 120 from by omega) (show -2147483648 ≤ (-1 : Int) ∧ (-1 : Int) ≤ 2147483647 from ⟨by omega, by omega⟩) (show -2147483648 ≤ (-1 : Int) ∧ (-1 : Int) ≤ 2147483647 from ⟨by omega, by omega⟩)) ?_
                          rintro v w335 H334 ⟨T336, hI337, shS338, ehE339, hr340, hr340s, hv⟩
                          have hr340' : ((w335.2.1 : Nat) : Int) - 2 * H334.1 7 4 F.2.2.1 - 13 * H334.1 3 1 F.2.1 - H334.1 3 3 F.2.1 ≤ ((w.2.1 : Nat) : Int) - 2 * H277.1 7 4 F.2.2.1 - 13 * H277.1 3 1 F.2.1 - H277.1 3 3 F.2.1 + (H334.1 6 11 x) := hr340
                          have hr340s' : ((w335.2.2 : Nat) : Int) - 18 * H334.1 7 4 F.2.2.1 - 700 * H334.1 3 1 F.2.1 - 6 * H334.1 3 3 F.2.1 ≤ ((w.2.2 : Nat) : Int) - 18 * H277.1 7 4 F.2.2.1 - 700 * H277.1 3 1 F.2.1 - 6 * H277.1 3 3 F.2.1 + 10 * (H334.1 6 11 x) := hr340s
                          have hE339 : cEx T [401, 402, 603, 611, 612, 616, 704, 10209, 10507, 30026, 30027, 30031, 40025, 40028, 40029, 40030] H334 H := cEx.trans ehE339 hE279 hS (by decide)
                          have hS338 : ∀ k p, T k p → T336 k p := fun k p z => shS338 k p (hS k p z)
                          have g341 : H334.1 6 2 x = H277.1 6 2 x := (ehE339.1 6 2 x ta0).1 (by decide)
                          have g342 : H334.1 5 5 q4 = H277.1 5 5 q4 := (ehE339.1 5 5 q4 t5).1 (by decide)
                          have g343 : H334.1 5 6 q4 = H277.1 5 6 q4 := (ehE339.1 5 6 q4 t5).1 (by decide)
                          have g344 : H334.1 3 1 F.2.1 = H277.1 3 1 F.2.1 := (ehE339.1 3 1 F.2.1 hI278.top.2.1).1 (by decide)
                          have g345 : H334.1 3 3 F.2.1 = H277.1 3 3 F.2.1 := (ehE339.1 3 3 F.2.1 hI278.top.2.1).1 (by decide)
                          have g346 : H334.1 6 3 x = H277.1 6 3 x := (ehE339.1 6 3 x ta0).1 (by decide)
                          have t347 : T336 5 q4 := shS338 _ _ t5
                          have t348 : T336 10 F.1 := shS338 _ _ hI.top.1
                          have t349 : T336 6 x := shS338 _ _ ta0
                          obtain rfl := hv
                          try dsimp only [Option.toList, List.append, List.cons_append, List.nil_append]
                          refine J.run0 1 rfl ?_
                          try dsimp only
                          exact J.retb rfl rfl rfl (show (1 : Int) = 0 ∨ (1 : Int) = 1 by omega) ⟨_, rfl, T336, hI337, hS338, hE339, (show ((w335.2.1 : Nat) : Int) - 2 * H334.1 7 4 F.2.2.1 - 13 * H334.1 3 1 F.2.1 - H334.1 3 3 F.2.1 ≤ ((w.2.1 : Nat) : Int) - 2 * H.1 7 4 F.2.2.1 - 13 * H.1 3 1 F.2.1 - H.1 3 3 F.2.1 + (H334.1 6 11 x) by omega), (show ((w335.2.2 : Nat) : Int) - 18 * H334.1 7 4 F.2.2.1 - 700 * H334.1 3 1 F.2.1 - 6 * H334.1 3 3 F.2.1 ≤ ((w.2.2 : Nat) : Int) - 18 * H.1 7 4 F.2.2.1 - 700 * H.1 3 1 F.2.1 - 6 * H.1 3 3 F.2.1 + 10 * (H334.1 6 11 x) by omega), _, rfl, (show (((1 : Int)) = 0 ∨ ((1 : Int)) = 1) ∧ (((1 : Int)) = 0 → H334.1 6 11 x = 0) ∧ (((1 : Int)) = 0 → H334.1 0 1 (H334.2.2.2.2 6 1 x) < 120) from ⟨by omega, by omega, by omega⟩)⟩
                        · have c350 : ¬ (x331 = (0 : Int)) := hc
                          clear hc
                          refine J.run 4 rfl (hI278.is t5) ?_
                          try dsimp only
                          have e61 := (hE279.1 6 1 x ta0).2.2 (by decide)
                          have e01 := (hE279.1 0 1 (H.2.2.2.2 6 1 x) (hI.o 6 1 0 x rfl ta0).2).1 (by decide)
                          have h01 : H277.1 0 1 (H277.2.2.2.2 6 1 x) < 120 := by rw [e61]; omega
                          refine J.inv rfl rfl rfl rfl rfl rfl ((jD_w rfl).mpr (hI278.is hI.top.1)) rfl rfl rfl rfl rfl (c_X10_send (x := x) (kind := (1 : Int)) (block := H277.1 5 5 q4) (before := (-1 : Int)) hI278 ta0 (show H277.1 6 11 x = 0 from by omega) (show H277.1 0 1 (H277.2.2.2.2 6 1 x) < 120 from by omega) (show -2147483648 ≤ (H277.1 5 5 q4) ∧ (H277.1 5 5 q4) ≤ 2147483647 from ⟨by omega, by omega⟩) (show -2147483648 ≤ (-1 : Int) ∧ (-1 : Int) ≤ 2147483647 from ⟨by omega, by omega⟩)) ?_
                          rintro v w352 H351 ⟨T353, hI354, shS355, ehE356, hr357, hr357s, hv⟩
                          have hr357' : ((w352.2.1 : Nat) : Int) - 2 * H351.1 7 4 F.2.2.1 - 13 * H351.1 3 1 F.2.1 - H351.1 3 3 F.2.1 ≤ ((w.2.1 : Nat) : Int) - 2 * H277.1 7 4 F.2.2.1 - 13 * H277.1 3 1 F.2.1 - H277.1 3 3 F.2.1 + (H351.1 6 11 x) := hr357
                          have hr357s' : ((w352.2.2 : Nat) : Int) - 18 * H351.1 7 4 F.2.2.1 - 700 * H351.1 3 1 F.2.1 - 6 * H351.1 3 3 F.2.1 ≤ ((w.2.2 : Nat) : Int) - 18 * H277.1 7 4 F.2.2.1 - 700 * H277.1 3 1 F.2.1 - 6 * H277.1 3 3 F.2.1 + 10 * (H351.1 6 11 x) := hr357s
                          have hE356 : cEx T [401, 402, 603, 611, 612, 616, 704, 10209, 10507, 30026, 30027, 30031, 40025, 40028, 40029, 40030] H351 H := cEx.trans ehE356 hE279 hS (by decide)
                          have hS355 : ∀ k p, T k p → T353 k p := fun k p z => shS355 k p (hS k p z)
                          have g358 : H351.1 6 2 x = H277.1 6 2 x := (ehE356.1 6 2 x ta0).1 (by decide)
                          have g359 : H351.1 5 5 q4 = H277.1 5 5 q4 := (ehE356.1 5 5 q4 t5).1 (by decide)
                          have g360 : H351.1 5 6 q4 = H277.1 5 6 q4 := (ehE356.1 5 6 q4 t5).1 (by decide)
                          have g361 : H351.1 3 1 F.2.1 = H277.1 3 1 F.2.1 := (ehE356.1 3 1 F.2.1 hI278.top.2.1).1 (by decide)
                          have g362 : H351.1 3 3 F.2.1 = H277.1 3 3 F.2.1 := (ehE356.1 3 3 F.2.1 hI278.top.2.1).1 (by decide)
                          have g363 : H351.1 6 3 x = H277.1 6 3 x := (ehE356.1 6 3 x ta0).1 (by decide)
                          have t364 : T353 5 q4 := shS355 _ _ t5
                          have t365 : T353 10 F.1 := shS355 _ _ hI.top.1
                          have t366 : T353 6 x := shS355 _ _ ta0
                          obtain rfl := hv
                          try dsimp only [Option.toList, List.append, List.cons_append, List.nil_append]
                          refine J.run0 1 rfl ?_
                          try dsimp only
                          exact J.retb rfl rfl rfl (show (1 : Int) = 0 ∨ (1 : Int) = 1 by omega) ⟨_, rfl, T353, hI354, hS355, hE356, (show ((w352.2.1 : Nat) : Int) - 2 * H351.1 7 4 F.2.2.1 - 13 * H351.1 3 1 F.2.1 - H351.1 3 3 F.2.1 ≤ ((w.2.1 : Nat) : Int) - 2 * H.1 7 4 F.2.2.1 - 13 * H.1 3 1 F.2.1 - H.1 3 3 F.2.1 + (H351.1 6 11 x) by omega), (show ((w352.2.2 : Nat) : Int) - 18 * H351.1 7 4 F.2.2.1 - 700 * H351.1 3 1 F.2.1 - 6 * H351.1 3 3 F.2.1 ≤ ((w.2.2 : Nat) : Int) - 18 * H.1 7 4 F.2.2.1 - 700 * H.1 3 1 F.2.1 - 6 * H.1 3 3 F.2.1 + 10 * (H351.1 6 11 x) by omega), _, rfl, (show (((1 : Int)) = 0 ∨ ((1 : Int)) = 1) ∧ (((1 : Int)) = 0 → H351.1 6 11 x = 0) ∧ (((1 : Int)) = 0 → H351.1 0 1 (H351.2.2.2.2 6 1 x) < 120) from ⟨by omega, by omega, by omega⟩)⟩
              · have c367 : ¬ (¬ (x241 = (0 : Int))) := hc
                clear hc
                refine J.run0 1 rfl ?_
                try dsimp only
                exact J.retb rfl rfl rfl (show (0 : Int) = 0 ∨ (0 : Int) = 1 by omega) ⟨_, rfl, T, hI, hS, hE, (show ((w.2.1 : Nat) : Int) - 2 * H.1 7 4 F.2.2.1 - 13 * H.1 3 1 F.2.1 - H.1 3 3 F.2.1 ≤ ((w.2.1 : Nat) : Int) - 2 * H.1 7 4 F.2.2.1 - 13 * H.1 3 1 F.2.1 - H.1 3 3 F.2.1 + (H.1 6 11 x) by omega), (show ((w.2.2 : Nat) : Int) - 18 * H.1 7 4 F.2.2.1 - 700 * H.1 3 1 F.2.1 - 6 * H.1 3 3 F.2.1 ≤ ((w.2.2 : Nat) : Int) - 18 * H.1 7 4 F.2.2.1 - 700 * H.1 3 1 F.2.1 - 6 * H.1 3 3 F.2.1 + 10 * (H.1 6 11 x) by omega), _, rfl, (show (((0 : Int)) = 0 ∨ ((0 : Int)) = 1) ∧ (((0 : Int)) = 0 → H.1 6 11 x = 0) ∧ (((0 : Int)) = 0 → H.1 0 1 (H.2.2.2.2 6 1 x) < 120) from ⟨by omega, by omega, by omega⟩)⟩
        · have c368 : ¬ (¬ (jn (H.1 6 4 x) = jn (H.1 5 5 q4))) := hc
          clear hc
          have f369 : (-2147483648) ≤ H.1 5 6 q4 ∧ H.1 5 6 q4 ≤ 2147483647 := hI.v 5 6 q4 t5
          refine J.run 8 rfl (hI.is t5) ?_
          try dsimp only
          refine J.icmp rfl rfl rfl ⟨(show -2147483648 ≤ H.1 5 6 q4 ∧ H.1 5 6 q4 ≤ 2147483647 from ⟨by omega, by omega⟩), (show -2147483648 ≤ (-1 : Int) ∧ (-1 : Int) ≤ 2147483647 from ⟨by omega, by omega⟩)⟩ (fun hc => ?_) (fun hc => ?_)
          · have c370 : H.1 5 6 q4 = (-1 : Int) := hc
            clear hc
            refine J.run 3 rfl (hI.is ta0) ?_
            try dsimp only
            refine J.gn fun H371 hH371 => ?_
            have hI372 : cJ F T w H371 := by rw [hH371]; exact cJ.wi hI trivial rfl rfl
            have hE373 : cEx T [401, 402, 603, 611, 612, 616, 704, 10209, 10507, 30026, 30027, 30031, 40025, 40028, 40029, 40030] H371 H := by rw [hH371]; exact cEx.wi hE (by decide)
            have g374 : H371.1 6 11 x = H.1 6 11 x := by subst hH371; rfl
            have g375 : H371.1 6 2 x = H.1 6 2 x := by subst hH371; rfl
            have g376 : H371.1 5 5 q4 = H.1 5 5 q4 := by subst hH371; rfl
            have g377 : H371.1 5 6 q4 = H.1 5 6 q4 := by subst hH371; rfl
            have g378 : H371.1 7 4 F.2.2.1 = H.1 7 4 F.2.2.1 := by subst hH371; rfl
            have g379 : H371.1 3 1 F.2.1 = H.1 3 1 F.2.1 := by subst hH371; rfl
            have g380 : H371.1 3 3 F.2.1 = H.1 3 3 F.2.1 := by subst hH371; rfl
            have g381 : H371.1 6 3 x = (1 : Int) := by subst hH371; exact if_pos rfl
            clear hH371
            refine J.run0 4 rfl ?_
            try dsimp only
            refine J.ifc rfl rfl rfl (show -2147483648 ≤ (1 : Int) ∧ (1 : Int) ≤ 2147483647 from ⟨by omega, by omega⟩) (fun hc => ?_) (fun hc => ?_)
            · have c382 : (1 : Int) = (0 : Int) := hc
              clear hc
              exfalso
              omega
            · have c383 : ¬ ((1 : Int) = (0 : Int)) := hc
              clear hc
              refine J.run 3 rfl ⟨(hI372.is hI.top.1), (hI372.o 10 0 3 F.1 rfl hI.top.1).1⟩ ?_
              try dsimp only
              try dsimp only
              rw [show (H371.2.2.2.2 10 0 F.1) = F.2.1 from hI372.one.2.1 _ (hI372.o 10 0 3 F.1 rfl hI.top.1).2]
              have f384 : (-2147483648) ≤ H371.1 5 5 q4 ∧ H371.1 5 5 q4 ≤ 2147483647 := hI372.v 5 5 q4 t5
              refine J.run 2 rfl (hI372.is t5) ?_
              try dsimp only
              refine J.inv rfl rfl rfl rfl rfl rfl ((jD_w rfl).mpr (hI372.is hI372.top.2.1)) rfl rfl rfl rfl rfl (c_X3_get (b := H371.1 5 5 q4) hI372  (show -2147483648 ≤ (H371.1 5 5 q4) ∧ (H371.1 5 5 q4) ≤ 2147483647 from ⟨by omega, by omega⟩)) ?_
              rintro v w H371 ⟨rfl, rfl, hv⟩
              rcases hv with ⟨rfl, r387⟩ | ⟨q385, rfl, t386, r387⟩
              · skip
                try dsimp only [Option.toList, List.append, List.cons_append, List.nil_append]
                refine J.inv rfl rfl rfl rfl rfl rfl ((jD_w rfl).mpr (hI372.is ta0)) rfl rfl rfl rfl rfl (c_X6_isGood (a0 := x) (b := none) hI372 ta0 (fun _ z => nomatch z) ) ?_
                rintro v w H371 ⟨rfl, rfl, hv⟩
                obtain ⟨x388, rfl, r389⟩ := hv
                have r389' : (x388 = 0 ∨ x388 = 1) ∧ (x388 = 1 → none ≠ none) := r389
                try dsimp only [Option.toList, List.append, List.cons_append, List.nil_append]
                refine J.ifc rfl rfl rfl (show -2147483648 ≤ x388 ∧ x388 ≤ 2147483647 from ⟨by omega, by omega⟩) (fun hc => ?_) (fun hc => ?_)
                · have c390 : x388 = (0 : Int) := hc
                  clear hc
                  refine J.run0 2 rfl ?_
                  try dsimp only
                  have e61 := (hE373.1 6 1 x ta0).2.2 (by decide)
                  have e01 := (hE373.1 0 1 (H.2.2.2.2 6 1 x) (hI.o 6 1 0 x rfl ta0).2).1 (by decide)
                  have h01 : H371.1 0 1 (H371.2.2.2.2 6 1 x) < 120 := by rw [e61]; omega
                  refine J.inv rfl rfl rfl rfl rfl rfl ((jD_w rfl).mpr (hI372.is hI.top.1)) rfl rfl rfl rfl rfl (c_X10_send (x := x) (kind := (1 : Int)) (block := (-1 : Int)) (before := (-1 : Int)) hI372 ta0 (show H371.1 6 11 x = 0 from by omega) (show H371.1 0 1 (H371.2.2.2.2 6 1 x) < 120 from by omega) (show -2147483648 ≤ (-1 : Int) ∧ (-1 : Int) ≤ 2147483647 from ⟨by omega, by omega⟩) (show -2147483648 ≤ (-1 : Int) ∧ (-1 : Int) ≤ 2147483647 from ⟨by omega, by omega⟩)) ?_
                  rintro v w392 H391 ⟨T393, hI394, shS395, ehE396, hr397, hr397s, hv⟩
                  have hr397' : ((w392.2.1 : Nat) : Int) - 2 * H391.1 7 4 F.2.2.1 - 13 * H391.1 3 1 F.2.1 - H391.1 3 3 F.2.1 ≤ ((w.2.1 : Nat) : Int) - 2 * H371.1 7 4 F.2.2.1 - 13 * H371.1 3 1 F.2.1 - H371.1 3 3 F.2.1 + (H391.1 6 11 x) := hr397
                  have hr397s' : ((w392.2.2 : Nat) : Int) - 18 * H391.1 7 4 F.2.2.1 - 700 * H391.1 3 1 F.2.1 - 6 * H391.1 3 3 F.2.1 ≤ ((w.2.2 : Nat) : Int) - 18 * H371.1 7 4 F.2.2.1 - 700 * H371.1 3 1 F.2.1 - 6 * H371.1 3 3 F.2.1 + 10 * (H391.1 6 11 x) := hr397s
                  have hE396 : cEx T [401, 402, 603, 611, 612, 616, 704, 10209, 10507, 30026, 30027, 30031, 40025, 40028, 40029, 40030] H391 H := cEx.trans ehE396 hE373 hS (by decide)
                  have hS395 : ∀ k p, T k p → T393 k p := fun k p z => shS395 k p (hS k p z)
                  have g398 : H391.1 6 2 x = H371.1 6 2 x := (ehE396.1 6 2 x ta0).1 (by decide)
                  have g399 : H391.1 5 5 q4 = H371.1 5 5 q4 := (ehE396.1 5 5 q4 t5).1 (by decide)
                  have g400 : H391.1 5 6 q4 = H371.1 5 6 q4 := (ehE396.1 5 6 q4 t5).1 (by decide)
                  have g401 : H391.1 3 1 F.2.1 = H371.1 3 1 F.2.1 := (ehE396.1 3 1 F.2.1 hI372.top.2.1).1 (by decide)
                  have g402 : H391.1 3 3 F.2.1 = H371.1 3 3 F.2.1 := (ehE396.1 3 3 F.2.1 hI372.top.2.1).1 (by decide)
                  have g403 : H391.1 6 3 x = H371.1 6 3 x := (ehE396.1 6 3 x ta0).1 (by decide)
                  have t404 : T393 5 q4 := shS395 _ _ t5
                  have t405 : T393 10 F.1 := shS395 _ _ hI.top.1
                  have t406 : T393 6 x := shS395 _ _ ta0
                  obtain rfl := hv
                  try dsimp only [Option.toList, List.append, List.cons_append, List.nil_append]
                  refine J.run0 1 rfl ?_
                  try dsimp only
                  exact J.retb rfl rfl rfl (show (1 : Int) = 0 ∨ (1 : Int) = 1 by omega) ⟨_, rfl, T393, hI394, hS395, hE396, (show ((w392.2.1 : Nat) : Int) - 2 * H391.1 7 4 F.2.2.1 - 13 * H391.1 3 1 F.2.1 - H391.1 3 3 F.2.1 ≤ ((w.2.1 : Nat) : Int) - 2 * H.1 7 4 F.2.2.1 - 13 * H.1 3 1 F.2.1 - H.1 3 3 F.2.1 + (H391.1 6 11 x) by omega), (show ((w392.2.2 : Nat) : Int) - 18 * H391.1 7 4 F.2.2.1 - 700 * H391.1 3 1 F.2.1 - 6 * H391.1 3 3 F.2.1 ≤ ((w.2.2 : Nat) : Int) - 18 * H.1 7 4 F.2.2.1 - 700 * H.1 3 1 F.2.1 - 6 * H.1 3 3 F.2.1 + 10 * (H391.1 6 11 x) by omega), _, rfl, (show (((1 : Int)) = 0 ∨ ((1 : Int)) = 1) ∧ (((1 : Int)) = 0 → H391.1 6 11 x = 0) ∧ (((1 : Int)) = 0 → H391.1 0 1 (H391.2.2.2.2 6 1 x) < 120) from ⟨by omega, by omega, by omega⟩)⟩
                · have c407 : ¬ (x388 = (0 : Int)) := hc
                  clear hc
                  refine J.run 4 rfl (hI372.is t5) ?_
                  try dsimp only
                  have e61 := (hE373.1 6 1 x ta0).2.2 (by decide)
                  have e01 := (hE373.1 0 1 (H.2.2.2.2 6 1 x) (hI.o 6 1 0 x rfl ta0).2).1 (by decide)
                  have h01 : H371.1 0 1 (H371.2.2.2.2 6 1 x) < 120 := by rw [e61]; omega
                  refine J.inv rfl rfl rfl rfl rfl rfl ((jD_w rfl).mpr (hI372.is hI.top.1)) rfl rfl rfl rfl rfl (c_X10_send (x := x) (kind := (1 : Int)) (block := H371.1 5 5 q4) (before := (-1 : Int)) hI372 ta0 (show H371.1 6 11 x = 0 from by omega) (show H371.1 0 1 (H371.2.2.2.2 6 1 x) < 120 from by omega) (show -2147483648 ≤ (H371.1 5 5 q4) ∧ (H371.1 5 5 q4) ≤ 2147483647 from ⟨by omega, by omega⟩) (show -2147483648 ≤ (-1 : Int) ∧ (-1 : Int) ≤ 2147483647 from ⟨by omega, by omega⟩)) ?_
                  rintro v w409 H408 ⟨T410, hI411, shS412, ehE413, hr414, hr414s, hv⟩
                  have hr414' : ((w409.2.1 : Nat) : Int) - 2 * H408.1 7 4 F.2.2.1 - 13 * H408.1 3 1 F.2.1 - H408.1 3 3 F.2.1 ≤ ((w.2.1 : Nat) : Int) - 2 * H371.1 7 4 F.2.2.1 - 13 * H371.1 3 1 F.2.1 - H371.1 3 3 F.2.1 + (H408.1 6 11 x) := hr414
                  have hr414s' : ((w409.2.2 : Nat) : Int) - 18 * H408.1 7 4 F.2.2.1 - 700 * H408.1 3 1 F.2.1 - 6 * H408.1 3 3 F.2.1 ≤ ((w.2.2 : Nat) : Int) - 18 * H371.1 7 4 F.2.2.1 - 700 * H371.1 3 1 F.2.1 - 6 * H371.1 3 3 F.2.1 + 10 * (H408.1 6 11 x) := hr414s
                  have hE413 : cEx T [401, 402, 603, 611, 612, 616, 704, 10209, 10507, 30026, 30027, 30031, 40025, 40028, 40029, 40030] H408 H := cEx.trans ehE413 hE373 hS (by decide)
                  have hS412 : ∀ k p, T k p → T410 k p := fun k p z => shS412 k p (hS k p z)
                  have g415 : H408.1 6 2 x = H371.1 6 2 x := (ehE413.1 6 2 x ta0).1 (by decide)
                  have g416 : H408.1 5 5 q4 = H371.1 5 5 q4 := (ehE413.1 5 5 q4 t5).1 (by decide)
                  have g417 : H408.1 5 6 q4 = H371.1 5 6 q4 := (ehE413.1 5 6 q4 t5).1 (by decide)
                  have g418 : H408.1 3 1 F.2.1 = H371.1 3 1 F.2.1 := (ehE413.1 3 1 F.2.1 hI372.top.2.1).1 (by decide)
                  have g419 : H408.1 3 3 F.2.1 = H371.1 3 3 F.2.1 := (ehE413.1 3 3 F.2.1 hI372.top.2.1).1 (by decide)
                  have g420 : H408.1 6 3 x = H371.1 6 3 x := (ehE413.1 6 3 x ta0).1 (by decide)
                  have t421 : T410 5 q4 := shS412 _ _ t5
                  have t422 : T410 10 F.1 := shS412 _ _ hI.top.1
                  have t423 : T410 6 x := shS412 _ _ ta0
                  obtain rfl := hv
                  try dsimp only [Option.toList, List.append, List.cons_append, List.nil_append]
                  refine J.run0 1 rfl ?_
                  try dsimp only
                  exact J.retb rfl rfl rfl (show (1 : Int) = 0 ∨ (1 : Int) = 1 by omega) ⟨_, rfl, T410, hI411, hS412, hE413, (show ((w409.2.1 : Nat) : Int) - 2 * H408.1 7 4 F.2.2.1 - 13 * H408.1 3 1 F.2.1 - H408.1 3 3 F.2.1 ≤ ((w.2.1 : Nat) : Int) - 2 * H.1 7 4 F.2.2.1 - 13 * H.1 3 1 F.2.1 - H.1 3 3 F.2.1 + (H408.1 6 11 x) by omega), (show ((w409.2.2 : Nat) : Int) - 18 * H408.1 7 4 F.2.2.1 - 700 * H408.1 3 1 F.2.1 - 6 * H408.1 3 3 F.2.1 ≤ ((w.2.2 : Nat) : Int) - 18 * H.1 7 4 F.2.2.1 - 700 * H.1 3 1 F.2.1 - 6 * H.1 3 3 F.2.1 + 10 * (H408.1 6 11 x) by omega), _, rfl, (show (((1 : Int)) = 0 ∨ ((1 : Int)) = 1) ∧ (((1 : Int)) = 0 → H408.1 6 11 x = 0) ∧ (((1 : Int)) = 0 → H408.1 0 1 (H408.2.2.2.2 6 1 x) < 120) from ⟨by omega, by omega, by omega⟩)⟩
              · skip
                try dsimp only [Option.toList, List.append, List.cons_append, List.nil_append]
                have f424 : 0 ≤ H371.1 0 1 q385 ∧ H371.1 0 1 q385 ≤ 299 := hI372.v 0 1 q385 t386
                refine J.inv rfl rfl rfl rfl rfl rfl ((jD_w rfl).mpr (hI372.is ta0)) rfl rfl rfl rfl rfl (c_X6_isGood (a0 := x) (b := some q385) hI372 ta0 (fun _ z => by cases z; exact t386) ) ?_
                rintro v w H371 ⟨rfl, rfl, hv⟩
                obtain ⟨x425, rfl, r426⟩ := hv
                have r426' : (x425 = 0 ∨ x425 = 1) ∧ (x425 = 1 → (some q385) ≠ none) := r426
                try dsimp only [Option.toList, List.append, List.cons_append, List.nil_append]
                refine J.ifc rfl rfl rfl (show -2147483648 ≤ x425 ∧ x425 ≤ 2147483647 from ⟨by omega, by omega⟩) (fun hc => ?_) (fun hc => ?_)
                · have c427 : x425 = (0 : Int) := hc
                  clear hc
                  refine J.run0 2 rfl ?_
                  try dsimp only
                  have e61 := (hE373.1 6 1 x ta0).2.2 (by decide)
                  have e01 := (hE373.1 0 1 (H.2.2.2.2 6 1 x) (hI.o 6 1 0 x rfl ta0).2).1 (by decide)
                  have h01 : H371.1 0 1 (H371.2.2.2.2 6 1 x) < 120 := by rw [e61]; omega
                  refine J.inv rfl rfl rfl rfl rfl rfl ((jD_w rfl).mpr (hI372.is hI.top.1)) rfl rfl rfl rfl rfl (c_X10_send (x := x) (kind := (1 : Int)) (block := (-1 : Int)) (before := (-1 : Int)) hI372 ta0 (show H371.1 6 11 x = 0 from by omega) (show H371.1 0 1 (H371.2.2.2.2 6 1 x) < 120 from by omega) (show -2147483648 ≤ (-1 : Int) ∧ (-1 : Int) ≤ 2147483647 from ⟨by omega, by omega⟩) (show -2147483648 ≤ (-1 : Int) ∧ (-1 : Int) ≤ 2147483647 from ⟨by omega, by omega⟩)) ?_
                  rintro v w429 H428 ⟨T430, hI431, shS432, ehE433, hr434, hr434s, hv⟩
                  have hr434' : ((w429.2.1 : Nat) : Int) - 2 * H428.1 7 4 F.2.2.1 - 13 * H428.1 3 1 F.2.1 - H428.1 3 3 F.2.1 ≤ ((w.2.1 : Nat) : Int) - 2 * H371.1 7 4 F.2.2.1 - 13 * H371.1 3 1 F.2.1 - H371.1 3 3 F.2.1 + (H428.1 6 11 x) := hr434
                  have hr434s' : ((w429.2.2 : Nat) : Int) - 18 * H428.1 7 4 F.2.2.1 - 700 * H428.1 3 1 F.2.1 - 6 * H428.1 3 3 F.2.1 ≤ ((w.2.2 : Nat) : Int) - 18 * H371.1 7 4 F.2.2.1 - 700 * H371.1 3 1 F.2.1 - 6 * H371.1 3 3 F.2.1 + 10 * (H428.1 6 11 x) := hr434s
                  have hE433 : cEx T [401, 402, 603, 611, 612, 616, 704, 10209, 10507, 30026, 30027, 30031, 40025, 40028, 40029, 40030] H428 H := cEx.trans ehE433 hE373 hS (by decide)
                  have hS432 : ∀ k p, T k p → T430 k p := fun k p z => shS432 k p (hS k p z)
                  have g435 : H428.1 6 2 x = H371.1 6 2 x := (ehE433.1 6 2 x ta0).1 (by decide)
                  have g436 : H428.1 5 5 q4 = H371.1 5 5 q4 := (ehE433.1 5 5 q4 t5).1 (by decide)
                  have g437 : H428.1 5 6 q4 = H371.1 5 6 q4 := (ehE433.1 5 6 q4 t5).1 (by decide)
                  have g438 : H428.1 3 1 F.2.1 = H371.1 3 1 F.2.1 := (ehE433.1 3 1 F.2.1 hI372.top.2.1).1 (by decide)
                  have g439 : H428.1 3 3 F.2.1 = H371.1 3 3 F.2.1 := (ehE433.1 3 3 F.2.1 hI372.top.2.1).1 (by decide)
                  have g440 : H428.1 6 3 x = H371.1 6 3 x := (ehE433.1 6 3 x ta0).1 (by decide)
                  have t441 : T430 5 q4 := shS432 _ _ t5
                  have t442 : T430 10 F.1 := shS432 _ _ hI.top.1
                  have t443 : T430 6 x := shS432 _ _ ta0
                  obtain rfl := hv
                  try dsimp only [Option.toList, List.append, List.cons_append, List.nil_append]
                  refine J.run0 1 rfl ?_
                  try dsimp only
                  exact J.retb rfl rfl rfl (show (1 : Int) = 0 ∨ (1 : Int) = 1 by omega) ⟨_, rfl, T430, hI431, hS432, hE433, (show ((w429.2.1 : Nat) : Int) - 2 * H428.1 7 4 F.2.2.1 - 13 * H428.1 3 1 F.2.1 - H428.1 3 3 F.2.1 ≤ ((w.2.1 : Nat) : Int) - 2 * H.1 7 4 F.2.2.1 - 13 * H.1 3 1 F.2.1 - H.1 3 3 F.2.1 + (H428.1 6 11 x) by omega), (show ((w429.2.2 : Nat) : Int) - 18 * H428.1 7 4 F.2.2.1 - 700 * H428.1 3 1 F.2.1 - 6 * H428.1 3 3 F.2.1 ≤ ((w.2.2 : Nat) : Int) - 18 * H.1 7 4 F.2.2.1 - 700 * H.1 3 1 F.2.1 - 6 * H.1 3 3 F.2.1 + 10 * (H428.1 6 11 x) by omega), _, rfl, (show (((1 : Int)) = 0 ∨ ((1 : Int)) = 1) ∧ (((1 : Int)) = 0 → H428.1 6 11 x = 0) ∧ (((1 : Int)) = 0 → H428.1 0 1 (H428.2.2.2.2 6 1 x) < 120) from ⟨by omega, by omega, by omega⟩)⟩
                · have c444 : ¬ (x425 = (0 : Int)) := hc
                  clear hc
                  refine J.run 4 rfl (hI372.is t5) ?_
                  try dsimp only
                  have e61 := (hE373.1 6 1 x ta0).2.2 (by decide)
                  have e01 := (hE373.1 0 1 (H.2.2.2.2 6 1 x) (hI.o 6 1 0 x rfl ta0).2).1 (by decide)
                  have h01 : H371.1 0 1 (H371.2.2.2.2 6 1 x) < 120 := by rw [e61]; omega
                  refine J.inv rfl rfl rfl rfl rfl rfl ((jD_w rfl).mpr (hI372.is hI.top.1)) rfl rfl rfl rfl rfl (c_X10_send (x := x) (kind := (1 : Int)) (block := H371.1 5 5 q4) (before := (-1 : Int)) hI372 ta0 (show H371.1 6 11 x = 0 from by omega) (show H371.1 0 1 (H371.2.2.2.2 6 1 x) < 120 from by omega) (show -2147483648 ≤ (H371.1 5 5 q4) ∧ (H371.1 5 5 q4) ≤ 2147483647 from ⟨by omega, by omega⟩) (show -2147483648 ≤ (-1 : Int) ∧ (-1 : Int) ≤ 2147483647 from ⟨by omega, by omega⟩)) ?_
                  rintro v w446 H445 ⟨T447, hI448, shS449, ehE450, hr451, hr451s, hv⟩
                  have hr451' : ((w446.2.1 : Nat) : Int) - 2 * H445.1 7 4 F.2.2.1 - 13 * H445.1 3 1 F.2.1 - H445.1 3 3 F.2.1 ≤ ((w.2.1 : Nat) : Int) - 2 * H371.1 7 4 F.2.2.1 - 13 * H371.1 3 1 F.2.1 - H371.1 3 3 F.2.1 + (H445.1 6 11 x) := hr451
                  have hr451s' : ((w446.2.2 : Nat) : Int) - 18 * H445.1 7 4 F.2.2.1 - 700 * H445.1 3 1 F.2.1 - 6 * H445.1 3 3 F.2.1 ≤ ((w.2.2 : Nat) : Int) - 18 * H371.1 7 4 F.2.2.1 - 700 * H371.1 3 1 F.2.1 - 6 * H371.1 3 3 F.2.1 + 10 * (H445.1 6 11 x) := hr451s
                  have hE450 : cEx T [401, 402, 603, 611, 612, 616, 704, 10209, 10507, 30026, 30027, 30031, 40025, 40028, 40029, 40030] H445 H := cEx.trans ehE450 hE373 hS (by decide)
                  have hS449 : ∀ k p, T k p → T447 k p := fun k p z => shS449 k p (hS k p z)
                  have g452 : H445.1 6 2 x = H371.1 6 2 x := (ehE450.1 6 2 x ta0).1 (by decide)
                  have g453 : H445.1 5 5 q4 = H371.1 5 5 q4 := (ehE450.1 5 5 q4 t5).1 (by decide)
                  have g454 : H445.1 5 6 q4 = H371.1 5 6 q4 := (ehE450.1 5 6 q4 t5).1 (by decide)
                  have g455 : H445.1 3 1 F.2.1 = H371.1 3 1 F.2.1 := (ehE450.1 3 1 F.2.1 hI372.top.2.1).1 (by decide)
                  have g456 : H445.1 3 3 F.2.1 = H371.1 3 3 F.2.1 := (ehE450.1 3 3 F.2.1 hI372.top.2.1).1 (by decide)
                  have g457 : H445.1 6 3 x = H371.1 6 3 x := (ehE450.1 6 3 x ta0).1 (by decide)
                  have t458 : T447 5 q4 := shS449 _ _ t5
                  have t459 : T447 10 F.1 := shS449 _ _ hI.top.1
                  have t460 : T447 6 x := shS449 _ _ ta0
                  obtain rfl := hv
                  try dsimp only [Option.toList, List.append, List.cons_append, List.nil_append]
                  refine J.run0 1 rfl ?_
                  try dsimp only
                  exact J.retb rfl rfl rfl (show (1 : Int) = 0 ∨ (1 : Int) = 1 by omega) ⟨_, rfl, T447, hI448, hS449, hE450, (show ((w446.2.1 : Nat) : Int) - 2 * H445.1 7 4 F.2.2.1 - 13 * H445.1 3 1 F.2.1 - H445.1 3 3 F.2.1 ≤ ((w.2.1 : Nat) : Int) - 2 * H.1 7 4 F.2.2.1 - 13 * H.1 3 1 F.2.1 - H.1 3 3 F.2.1 + (H445.1 6 11 x) by omega), (show ((w446.2.2 : Nat) : Int) - 18 * H445.1 7 4 F.2.2.1 - 700 * H445.1 3 1 F.2.1 - 6 * H445.1 3 3 F.2.1 ≤ ((w.2.2 : Nat) : Int) - 18 * H.1 7 4 F.2.2.1 - 700 * H.1 3 1 F.2.1 - 6 * H.1 3 3 F.2.1 + 10 * (H445.1 6 11 x) by omega), _, rfl, (show (((1 : Int)) = 0 ∨ ((1 : Int)) = 1) ∧ (((1 : Int)) = 0 → H445.1 6 11 x = 0) ∧ (((1 : Int)) = 0 → H445.1 0 1 (H445.2.2.2.2 6 1 x) < 120) from ⟨by omega, by omega, by omega⟩)⟩
          · have c461 : ¬ (H.1 5 6 q4 = (-1 : Int)) := hc
            clear hc
            refine J.run 3 rfl (hI.is ta0) ?_
            try dsimp only
            refine J.icmp rfl rfl rfl ⟨(show -2147483648 ≤ H.1 5 6 q4 ∧ H.1 5 6 q4 ≤ 2147483647 from ⟨by omega, by omega⟩), (show -2147483648 ≤ H.1 6 2 x ∧ H.1 6 2 x ≤ 2147483647 from ⟨by omega, by omega⟩)⟩ (fun hc => ?_) (fun hc => ?_)
            · have c462 : H.1 6 2 x ≤ H.1 5 6 q4 := hc
              clear hc
              refine J.run0 1 rfl ?_
              try dsimp only
              exact J.retb rfl rfl rfl (show (0 : Int) = 0 ∨ (0 : Int) = 1 by omega) ⟨_, rfl, T, hI, hS, hE, (show ((w.2.1 : Nat) : Int) - 2 * H.1 7 4 F.2.2.1 - 13 * H.1 3 1 F.2.1 - H.1 3 3 F.2.1 ≤ ((w.2.1 : Nat) : Int) - 2 * H.1 7 4 F.2.2.1 - 13 * H.1 3 1 F.2.1 - H.1 3 3 F.2.1 + (H.1 6 11 x) by omega), (show ((w.2.2 : Nat) : Int) - 18 * H.1 7 4 F.2.2.1 - 700 * H.1 3 1 F.2.1 - 6 * H.1 3 3 F.2.1 ≤ ((w.2.2 : Nat) : Int) - 18 * H.1 7 4 F.2.2.1 - 700 * H.1 3 1 F.2.1 - 6 * H.1 3 3 F.2.1 + 10 * (H.1 6 11 x) by omega), _, rfl, (show (((0 : Int)) = 0 ∨ ((0 : Int)) = 1) ∧ (((0 : Int)) = 0 → H.1 6 11 x = 0) ∧ (((0 : Int)) = 0 → H.1 0 1 (H.2.2.2.2 6 1 x) < 120) from ⟨by omega, by omega, by omega⟩)⟩
            · have c463 : ¬ (H.1 6 2 x ≤ H.1 5 6 q4) := hc
              clear hc
              refine J.run 7 rfl (hI.is t5) ?_
              try dsimp only
              refine J.inv rfl rfl rfl rfl rfl rfl ((jD_w rfl).mpr (hI.is hI.top.1)) rfl rfl rfl rfl rfl (c_X10_heardFrom (x := x) (kind := (1 : Int)) (round := H.1 5 6 q4) (block := H.1 5 5 q4) hI ta0 (show -2147483648 ≤ (1 : Int) ∧ (1 : Int) ≤ 2147483647 from ⟨by omega, by omega⟩) (show -2147483648 ≤ (H.1 5 6 q4) ∧ (H.1 5 6 q4) ≤ 2147483647 from ⟨by omega, by omega⟩)) ?_
              rintro v w H ⟨rfl, rfl, hv⟩
              obtain ⟨x464, rfl, r465⟩ := hv
              try dsimp only [Option.toList, List.append, List.cons_append, List.nil_append]
              refine J.inv rfl rfl rfl rfl rfl rfl ((jD_w rfl).mpr (hI.is ta0)) rfl rfl rfl rfl rfl (c_X6_isMost (a0 := x) (bits := x464) hI ta0 ) ?_
              rintro v w H ⟨rfl, rfl, hv⟩
              obtain ⟨x466, rfl, r467⟩ := hv
              have r467' : x466 = 0 ∨ x466 = 1 := r467
              try dsimp only [Option.toList, List.append, List.cons_append, List.nil_append]
              refine J.ifc rfl rfl rfl (show -2147483648 ≤ x466 ∧ x466 ≤ 2147483647 from ⟨by omega, by omega⟩) (fun hc => ?_) (fun hc => ?_)
              · have c468 : ¬ (x466 = (0 : Int)) := hc
                clear hc
                refine J.run0 1 rfl ?_
                try dsimp only
                refine J.ifc rfl rfl rfl (show -2147483648 ≤ (1 : Int) ∧ (1 : Int) ≤ 2147483647 from ⟨by omega, by omega⟩) (fun hc => ?_) (fun hc => ?_)
                · have c469 : ¬ ((1 : Int) = (0 : Int)) := hc
                  clear hc
                  refine J.run 6 rfl (hI.is ta0) ?_
                  try dsimp only
                  refine J.gn fun H470 hH470 => ?_
                  have hI471 : cJ F T w H470 := by rw [hH470]; exact cJ.wi hI trivial rfl rfl
                  have hE472 : cEx T [401, 402, 603, 611, 612, 616, 704, 10209, 10507, 30026, 30027, 30031, 40025, 40028, 40029, 40030] H470 H := by rw [hH470]; exact cEx.wi hE (by decide)
                  have g473 : H470.1 6 11 x = H.1 6 11 x := by subst hH470; rfl
                  have g474 : H470.1 6 2 x = H.1 6 2 x := by subst hH470; rfl
                  have g475 : H470.1 5 5 q4 = H.1 5 5 q4 := by subst hH470; rfl
                  have g476 : H470.1 5 6 q4 = H.1 5 6 q4 := by subst hH470; rfl
                  have g477 : H470.1 7 4 F.2.2.1 = H.1 7 4 F.2.2.1 := by subst hH470; rfl
                  have g478 : H470.1 3 1 F.2.1 = H.1 3 1 F.2.1 := by subst hH470; rfl
                  have g479 : H470.1 3 3 F.2.1 = H.1 3 3 F.2.1 := by subst hH470; rfl
                  have g480 : H470.1 6 3 x = (1 : Int) := by subst hH470; exact if_pos rfl
                  clear hH470
                  refine J.run0 4 rfl ?_
                  try dsimp only
                  refine J.ifc rfl rfl rfl (show -2147483648 ≤ (1 : Int) ∧ (1 : Int) ≤ 2147483647 from ⟨by omega, by omega⟩) (fun hc => ?_) (fun hc => ?_)
                  · have c481 : (1 : Int) = (0 : Int) := hc
                    clear hc
                    exfalso
                    omega
                  · have c482 : ¬ ((1 : Int) = (0 : Int)) := hc
                    clear hc
                    refine J.run 3 rfl ⟨(hI471.is hI.top.1), (hI471.o 10 0 3 F.1 rfl hI.top.1).1⟩ ?_
                    try dsimp only
                    try dsimp only
                    rw [show (H470.2.2.2.2 10 0 F.1) = F.2.1 from hI471.one.2.1 _ (hI471.o 10 0 3 F.1 rfl hI.top.1).2]
                    have f483 : (-2147483648) ≤ H470.1 5 5 q4 ∧ H470.1 5 5 q4 ≤ 2147483647 := hI471.v 5 5 q4 t5
                    refine J.run 2 rfl (hI471.is t5) ?_
                    try dsimp only
                    refine J.inv rfl rfl rfl rfl rfl rfl ((jD_w rfl).mpr (hI471.is hI471.top.2.1)) rfl rfl rfl rfl rfl (c_X3_get (b := H470.1 5 5 q4) hI471  (show -2147483648 ≤ (H470.1 5 5 q4) ∧ (H470.1 5 5 q4) ≤ 2147483647 from ⟨by omega, by omega⟩)) ?_
                    rintro v w H470 ⟨rfl, rfl, hv⟩
                    rcases hv with ⟨rfl, r486⟩ | ⟨q484, rfl, t485, r486⟩
                    · skip
                      try dsimp only [Option.toList, List.append, List.cons_append, List.nil_append]
                      refine J.inv rfl rfl rfl rfl rfl rfl ((jD_w rfl).mpr (hI471.is ta0)) rfl rfl rfl rfl rfl (c_X6_isGood (a0 := x) (b := none) hI471 ta0 (fun _ z => nomatch z) ) ?_
                      rintro v w H470 ⟨rfl, rfl, hv⟩
                      obtain ⟨x487, rfl, r488⟩ := hv
                      have r488' : (x487 = 0 ∨ x487 = 1) ∧ (x487 = 1 → none ≠ none) := r488
                      try dsimp only [Option.toList, List.append, List.cons_append, List.nil_append]
                      refine J.ifc rfl rfl rfl (show -2147483648 ≤ x487 ∧ x487 ≤ 2147483647 from ⟨by omega, by omega⟩) (fun hc => ?_) (fun hc => ?_)
                      · have c489 : x487 = (0 : Int) := hc
                        clear hc
                        refine J.run0 2 rfl ?_
                        try dsimp only
                        have e61 := (hE472.1 6 1 x ta0).2.2 (by decide)
                        have e01 := (hE472.1 0 1 (H.2.2.2.2 6 1 x) (hI.o 6 1 0 x rfl ta0).2).1 (by decide)
                        have h01 : H470.1 0 1 (H470.2.2.2.2 6 1 x) < 120 := by rw [e61]; omega
                        refine J.inv rfl rfl rfl rfl rfl rfl ((jD_w rfl).mpr (hI471.is hI.top.1)) rfl rfl rfl rfl rfl (c_X10_send (x := x) (kind := (1 : Int)) (block := (-1 : Int)) (before := (-1 : Int)) hI471 ta0 (show H470.1 6 11 x = 0 from by omega) (show H470.1 0 1 (H470.2.2.2.2 6 1 x) < 120 from by omega) (show -2147483648 ≤ (-1 : Int) ∧ (-1 : Int) ≤ 2147483647 from ⟨by omega, by omega⟩) (show -2147483648 ≤ (-1 : Int) ∧ (-1 : Int) ≤ 2147483647 from ⟨by omega, by omega⟩)) ?_
                        rintro v w491 H490 ⟨T492, hI493, shS494, ehE495, hr496, hr496s, hv⟩
                        have hr496' : ((w491.2.1 : Nat) : Int) - 2 * H490.1 7 4 F.2.2.1 - 13 * H490.1 3 1 F.2.1 - H490.1 3 3 F.2.1 ≤ ((w.2.1 : Nat) : Int) - 2 * H470.1 7 4 F.2.2.1 - 13 * H470.1 3 1 F.2.1 - H470.1 3 3 F.2.1 + (H490.1 6 11 x) := hr496
                        have hr496s' : ((w491.2.2 : Nat) : Int) - 18 * H490.1 7 4 F.2.2.1 - 700 * H490.1 3 1 F.2.1 - 6 * H490.1 3 3 F.2.1 ≤ ((w.2.2 : Nat) : Int) - 18 * H470.1 7 4 F.2.2.1 - 700 * H470.1 3 1 F.2.1 - 6 * H470.1 3 3 F.2.1 + 10 * (H490.1 6 11 x) := hr496s
                        have hE495 : cEx T [401, 402, 603, 611, 612, 616, 704, 10209, 10507, 30026, 30027, 30031, 40025, 40028, 40029, 40030] H490 H := cEx.trans ehE495 hE472 hS (by decide)
                        have hS494 : ∀ k p, T k p → T492 k p := fun k p z => shS494 k p (hS k p z)
                        have g497 : H490.1 6 2 x = H470.1 6 2 x := (ehE495.1 6 2 x ta0).1 (by decide)
                        have g498 : H490.1 5 5 q4 = H470.1 5 5 q4 := (ehE495.1 5 5 q4 t5).1 (by decide)
                        have g499 : H490.1 5 6 q4 = H470.1 5 6 q4 := (ehE495.1 5 6 q4 t5).1 (by decide)
                        have g500 : H490.1 3 1 F.2.1 = H470.1 3 1 F.2.1 := (ehE495.1 3 1 F.2.1 hI471.top.2.1).1 (by decide)
                        have g501 : H490.1 3 3 F.2.1 = H470.1 3 3 F.2.1 := (ehE495.1 3 3 F.2.1 hI471.top.2.1).1 (by decide)
                        have g502 : H490.1 6 3 x = H470.1 6 3 x := (ehE495.1 6 3 x ta0).1 (by decide)
                        have t503 : T492 5 q4 := shS494 _ _ t5
                        have t504 : T492 10 F.1 := shS494 _ _ hI.top.1
                        have t505 : T492 6 x := shS494 _ _ ta0
                        obtain rfl := hv
                        try dsimp only [Option.toList, List.append, List.cons_append, List.nil_append]
                        refine J.run0 1 rfl ?_
                        try dsimp only
                        exact J.retb rfl rfl rfl (show (1 : Int) = 0 ∨ (1 : Int) = 1 by omega) ⟨_, rfl, T492, hI493, hS494, hE495, (show ((w491.2.1 : Nat) : Int) - 2 * H490.1 7 4 F.2.2.1 - 13 * H490.1 3 1 F.2.1 - H490.1 3 3 F.2.1 ≤ ((w.2.1 : Nat) : Int) - 2 * H.1 7 4 F.2.2.1 - 13 * H.1 3 1 F.2.1 - H.1 3 3 F.2.1 + (H490.1 6 11 x) by omega), (show ((w491.2.2 : Nat) : Int) - 18 * H490.1 7 4 F.2.2.1 - 700 * H490.1 3 1 F.2.1 - 6 * H490.1 3 3 F.2.1 ≤ ((w.2.2 : Nat) : Int) - 18 * H.1 7 4 F.2.2.1 - 700 * H.1 3 1 F.2.1 - 6 * H.1 3 3 F.2.1 + 10 * (H490.1 6 11 x) by omega), _, rfl, (show (((1 : Int)) = 0 ∨ ((1 : Int)) = 1) ∧ (((1 : Int)) = 0 → H490.1 6 11 x = 0) ∧ (((1 : Int)) = 0 → H490.1 0 1 (H490.2.2.2.2 6 1 x) < 120) from ⟨by omega, by omega, by omega⟩)⟩
                      · have c506 : ¬ (x487 = (0 : Int)) := hc
                        clear hc
                        refine J.run 4 rfl (hI471.is t5) ?_
                        try dsimp only
                        have e61 := (hE472.1 6 1 x ta0).2.2 (by decide)
                        have e01 := (hE472.1 0 1 (H.2.2.2.2 6 1 x) (hI.o 6 1 0 x rfl ta0).2).1 (by decide)
                        have h01 : H470.1 0 1 (H470.2.2.2.2 6 1 x) < 120 := by rw [e61]; omega
                        refine J.inv rfl rfl rfl rfl rfl rfl ((jD_w rfl).mpr (hI471.is hI.top.1)) rfl rfl rfl rfl rfl (c_X10_send (x := x) (kind := (1 : Int)) (block := H470.1 5 5 q4) (before := (-1 : Int)) hI471 ta0 (show H470.1 6 11 x = 0 from by omega) (show H470.1 0 1 (H470.2.2.2.2 6 1 x) < 120 from by omega) (show -2147483648 ≤ (H470.1 5 5 q4) ∧ (H470.1 5 5 q4) ≤ 2147483647 from ⟨by omega, by omega⟩) (show -2147483648 ≤ (-1 : Int) ∧ (-1 : Int) ≤ 2147483647 from ⟨by omega, by omega⟩)) ?_
                        rintro v w508 H507 ⟨T509, hI510, shS511, ehE512, hr513, hr513s, hv⟩
                        have hr513' : ((w508.2.1 : Nat) : Int) - 2 * H507.1 7 4 F.2.2.1 - 13 * H507.1 3 1 F.2.1 - H507.1 3 3 F.2.1 ≤ ((w.2.1 : Nat) : Int) - 2 * H470.1 7 4 F.2.2.1 - 13 * H470.1 3 1 F.2.1 - H470.1 3 3 F.2.1 + (H507.1 6 11 x) := hr513
                        have hr513s' : ((w508.2.2 : Nat) : Int) - 18 * H507.1 7 4 F.2.2.1 - 700 * H507.1 3 1 F.2.1 - 6 * H507.1 3 3 F.2.1 ≤ ((w.2.2 : Nat) : Int) - 18 * H470.1 7 4 F.2.2.1 - 700 * H470.1 3 1 F.2.1 - 6 * H470.1 3 3 F.2.1 + 10 * (H507.1 6 11 x) := hr513s
                        have hE512 : cEx T [401, 402, 603, 611, 612, 616, 704, 10209, 10507, 30026, 30027, 30031, 40025, 40028, 40029, 40030] H507 H := cEx.trans ehE512 hE472 hS (by decide)
                        have hS511 : ∀ k p, T k p → T509 k p := fun k p z => shS511 k p (hS k p z)
                        have g514 : H507.1 6 2 x = H470.1 6 2 x := (ehE512.1 6 2 x ta0).1 (by decide)
                        have g515 : H507.1 5 5 q4 = H470.1 5 5 q4 := (ehE512.1 5 5 q4 t5).1 (by decide)
                        have g516 : H507.1 5 6 q4 = H470.1 5 6 q4 := (ehE512.1 5 6 q4 t5).1 (by decide)
                        have g517 : H507.1 3 1 F.2.1 = H470.1 3 1 F.2.1 := (ehE512.1 3 1 F.2.1 hI471.top.2.1).1 (by decide)
                        have g518 : H507.1 3 3 F.2.1 = H470.1 3 3 F.2.1 := (ehE512.1 3 3 F.2.1 hI471.top.2.1).1 (by decide)
                        have g519 : H507.1 6 3 x = H470.1 6 3 x := (ehE512.1 6 3 x ta0).1 (by decide)
                        have t520 : T509 5 q4 := shS511 _ _ t5
                        have t521 : T509 10 F.1 := shS511 _ _ hI.top.1
                        have t522 : T509 6 x := shS511 _ _ ta0
                        obtain rfl := hv
                        try dsimp only [Option.toList, List.append, List.cons_append, List.nil_append]
                        refine J.run0 1 rfl ?_
                        try dsimp only
                        exact J.retb rfl rfl rfl (show (1 : Int) = 0 ∨ (1 : Int) = 1 by omega) ⟨_, rfl, T509, hI510, hS511, hE512, (show ((w508.2.1 : Nat) : Int) - 2 * H507.1 7 4 F.2.2.1 - 13 * H507.1 3 1 F.2.1 - H507.1 3 3 F.2.1 ≤ ((w.2.1 : Nat) : Int) - 2 * H.1 7 4 F.2.2.1 - 13 * H.1 3 1 F.2.1 - H.1 3 3 F.2.1 + (H507.1 6 11 x) by omega), (show ((w508.2.2 : Nat) : Int) - 18 * H507.1 7 4 F.2.2.1 - 700 * H507.1 3 1 F.2.1 - 6 * H507.1 3 3 F.2.1 ≤ ((w.2.2 : Nat) : Int) - 18 * H.1 7 4 F.2.2.1 - 700 * H.1 3 1 F.2.1 - 6 * H.1 3 3 F.2.1 + 10 * (H507.1 6 11 x) by omega), _, rfl, (show (((1 : Int)) = 0 ∨ ((1 : Int)) = 1) ∧ (((1 : Int)) = 0 → H507.1 6 11 x = 0) ∧ (((1 : Int)) = 0 → H507.1 0 1 (H507.2.2.2.2 6 1 x) < 120) from ⟨by omega, by omega, by omega⟩)⟩
                    · skip
                      try dsimp only [Option.toList, List.append, List.cons_append, List.nil_append]
                      have f523 : 0 ≤ H470.1 0 1 q484 ∧ H470.1 0 1 q484 ≤ 299 := hI471.v 0 1 q484 t485
                      refine J.inv rfl rfl rfl rfl rfl rfl ((jD_w rfl).mpr (hI471.is ta0)) rfl rfl rfl rfl rfl (c_X6_isGood (a0 := x) (b := some q484) hI471 ta0 (fun _ z => by cases z; exact t485) ) ?_
                      rintro v w H470 ⟨rfl, rfl, hv⟩
                      obtain ⟨x524, rfl, r525⟩ := hv
                      have r525' : (x524 = 0 ∨ x524 = 1) ∧ (x524 = 1 → (some q484) ≠ none) := r525
                      try dsimp only [Option.toList, List.append, List.cons_append, List.nil_append]
                      refine J.ifc rfl rfl rfl (show -2147483648 ≤ x524 ∧ x524 ≤ 2147483647 from ⟨by omega, by omega⟩) (fun hc => ?_) (fun hc => ?_)
                      · have c526 : x524 = (0 : Int) := hc
                        clear hc
                        refine J.run0 2 rfl ?_
                        try dsimp only
                        have e61 := (hE472.1 6 1 x ta0).2.2 (by decide)
                        have e01 := (hE472.1 0 1 (H.2.2.2.2 6 1 x) (hI.o 6 1 0 x rfl ta0).2).1 (by decide)
                        have h01 : H470.1 0 1 (H470.2.2.2.2 6 1 x) < 120 := by rw [e61]; omega
                        refine J.inv rfl rfl rfl rfl rfl rfl ((jD_w rfl).mpr (hI471.is hI.top.1)) rfl rfl rfl rfl rfl (c_X10_send (x := x) (kind := (1 : Int)) (block := (-1 : Int)) (before := (-1 : Int)) hI471 ta0 (show H470.1 6 11 x = 0 from by omega) (show H470.1 0 1 (H470.2.2.2.2 6 1 x) < 120 from by omega) (show -2147483648 ≤ (-1 : Int) ∧ (-1 : Int) ≤ 2147483647 from ⟨by omega, by omega⟩) (show -2147483648 ≤ (-1 : Int) ∧ (-1 : Int) ≤ 2147483647 from ⟨by omega, by omega⟩)) ?_
                        rintro v w528 H527 ⟨T529, hI530, shS531, ehE532, hr533, hr533s, hv⟩
                        have hr533' : ((w528.2.1 : Nat) : Int) - 2 * H527.1 7 4 F.2.2.1 - 13 * H527.1 3 1 F.2.1 - H527.1 3 3 F.2.1 ≤ ((w.2.1 : Nat) : Int) - 2 * H470.1 7 4 F.2.2.1 - 13 * H470.1 3 1 F.2.1 - H470.1 3 3 F.2.1 + (H527.1 6 11 x) := hr533
                        have hr533s' : ((w528.2.2 : Nat) : Int) - 18 * H527.1 7 4 F.2.2.1 - 700 * H527.1 3 1 F.2.1 - 6 * H527.1 3 3 F.2.1 ≤ ((w.2.2 : Nat) : Int) - 18 * H470.1 7 4 F.2.2.1 - 700 * H470.1 3 1 F.2.1 - 6 * H470.1 3 3 F.2.1 + 10 * (H527.1 6 11 x) := hr533s
                        have hE532 : cEx T [401, 402, 603, 611, 612, 616, 704, 10209, 10507, 30026, 30027, 30031, 40025, 40028, 40029, 40030] H527 H := cEx.trans ehE532 hE472 hS (by decide)
                        have hS531 : ∀ k p, T k p → T529 k p := fun k p z => shS531 k p (hS k p z)
                        have g534 : H527.1 6 2 x = H470.1 6 2 x := (ehE532.1 6 2 x ta0).1 (by decide)
                        have g535 : H527.1 5 5 q4 = H470.1 5 5 q4 := (ehE532.1 5 5 q4 t5).1 (by decide)
                        have g536 : H527.1 5 6 q4 = H470.1 5 6 q4 := (ehE532.1 5 6 q4 t5).1 (by decide)
                        have g537 : H527.1 3 1 F.2.1 = H470.1 3 1 F.2.1 := (ehE532.1 3 1 F.2.1 hI471.top.2.1).1 (by decide)
                        have g538 : H527.1 3 3 F.2.1 = H470.1 3 3 F.2.1 := (ehE532.1 3 3 F.2.1 hI471.top.2.1).1 (by decide)
                        have g539 : H527.1 6 3 x = H470.1 6 3 x := (ehE532.1 6 3 x ta0).1 (by decide)
                        have t540 : T529 5 q4 := shS531 _ _ t5
                        have t541 : T529 10 F.1 := shS531 _ _ hI.top.1
                        have t542 : T529 6 x := shS531 _ _ ta0
                        obtain rfl := hv
                        try dsimp only [Option.toList, List.append, List.cons_append, List.nil_append]
                        refine J.run0 1 rfl ?_
                        try dsimp only
                        exact J.retb rfl rfl rfl (show (1 : Int) = 0 ∨ (1 : Int) = 1 by omega) ⟨_, rfl, T529, hI530, hS531, hE532, (show ((w528.2.1 : Nat) : Int) - 2 * H527.1 7 4 F.2.2.1 - 13 * H527.1 3 1 F.2.1 - H527.1 3 3 F.2.1 ≤ ((w.2.1 : Nat) : Int) - 2 * H.1 7 4 F.2.2.1 - 13 * H.1 3 1 F.2.1 - H.1 3 3 F.2.1 + (H527.1 6 11 x) by omega), (show ((w528.2.2 : Nat) : Int) - 18 * H527.1 7 4 F.2.2.1 - 700 * H527.1 3 1 F.2.1 - 6 * H527.1 3 3 F.2.1 ≤ ((w.2.2 : Nat) : Int) - 18 * H.1 7 4 F.2.2.1 - 700 * H.1 3 1 F.2.1 - 6 * H.1 3 3 F.2.1 + 10 * (H527.1 6 11 x) by omega), _, rfl, (show (((1 : Int)) = 0 ∨ ((1 : Int)) = 1) ∧ (((1 : Int)) = 0 → H527.1 6 11 x = 0) ∧ (((1 : Int)) = 0 → H527.1 0 1 (H527.2.2.2.2 6 1 x) < 120) from ⟨by omega, by omega, by omega⟩)⟩
                      · have c543 : ¬ (x524 = (0 : Int)) := hc
                        clear hc
                        refine J.run 4 rfl (hI471.is t5) ?_
                        try dsimp only
                        have e61 := (hE472.1 6 1 x ta0).2.2 (by decide)
                        have e01 := (hE472.1 0 1 (H.2.2.2.2 6 1 x) (hI.o 6 1 0 x rfl ta0).2).1 (by decide)
                        have h01 : H470.1 0 1 (H470.2.2.2.2 6 1 x) < 120 := by rw [e61]; omega
                        refine J.inv rfl rfl rfl rfl rfl rfl ((jD_w rfl).mpr (hI471.is hI.top.1)) rfl rfl rfl rfl rfl (c_X10_send (x := x) (kind := (1 : Int)) (block := H470.1 5 5 q4) (before := (-1 : Int)) hI471 ta0 (show H470.1 6 11 x = 0 from by omega) (show H470.1 0 1 (H470.2.2.2.2 6 1 x) < 120 from by omega) (show -2147483648 ≤ (H470.1 5 5 q4) ∧ (H470.1 5 5 q4) ≤ 2147483647 from ⟨by omega, by omega⟩) (show -2147483648 ≤ (-1 : Int) ∧ (-1 : Int) ≤ 2147483647 from ⟨by omega, by omega⟩)) ?_
                        rintro v w545 H544 ⟨T546, hI547, shS548, ehE549, hr550, hr550s, hv⟩
                        have hr550' : ((w545.2.1 : Nat) : Int) - 2 * H544.1 7 4 F.2.2.1 - 13 * H544.1 3 1 F.2.1 - H544.1 3 3 F.2.1 ≤ ((w.2.1 : Nat) : Int) - 2 * H470.1 7 4 F.2.2.1 - 13 * H470.1 3 1 F.2.1 - H470.1 3 3 F.2.1 + (H544.1 6 11 x) := hr550
                        have hr550s' : ((w545.2.2 : Nat) : Int) - 18 * H544.1 7 4 F.2.2.1 - 700 * H544.1 3 1 F.2.1 - 6 * H544.1 3 3 F.2.1 ≤ ((w.2.2 : Nat) : Int) - 18 * H470.1 7 4 F.2.2.1 - 700 * H470.1 3 1 F.2.1 - 6 * H470.1 3 3 F.2.1 + 10 * (H544.1 6 11 x) := hr550s
                        have hE549 : cEx T [401, 402, 603, 611, 612, 616, 704, 10209, 10507, 30026, 30027, 30031, 40025, 40028, 40029, 40030] H544 H := cEx.trans ehE549 hE472 hS (by decide)
                        have hS548 : ∀ k p, T k p → T546 k p := fun k p z => shS548 k p (hS k p z)
                        have g551 : H544.1 6 2 x = H470.1 6 2 x := (ehE549.1 6 2 x ta0).1 (by decide)
                        have g552 : H544.1 5 5 q4 = H470.1 5 5 q4 := (ehE549.1 5 5 q4 t5).1 (by decide)
                        have g553 : H544.1 5 6 q4 = H470.1 5 6 q4 := (ehE549.1 5 6 q4 t5).1 (by decide)
                        have g554 : H544.1 3 1 F.2.1 = H470.1 3 1 F.2.1 := (ehE549.1 3 1 F.2.1 hI471.top.2.1).1 (by decide)
                        have g555 : H544.1 3 3 F.2.1 = H470.1 3 3 F.2.1 := (ehE549.1 3 3 F.2.1 hI471.top.2.1).1 (by decide)
                        have g556 : H544.1 6 3 x = H470.1 6 3 x := (ehE549.1 6 3 x ta0).1 (by decide)
                        have t557 : T546 5 q4 := shS548 _ _ t5
                        have t558 : T546 10 F.1 := shS548 _ _ hI.top.1
                        have t559 : T546 6 x := shS548 _ _ ta0
                        obtain rfl := hv
                        try dsimp only [Option.toList, List.append, List.cons_append, List.nil_append]
                        refine J.run0 1 rfl ?_
                        try dsimp only
                        exact J.retb rfl rfl rfl (show (1 : Int) = 0 ∨ (1 : Int) = 1 by omega) ⟨_, rfl, T546, hI547, hS548, hE549, (show ((w545.2.1 : Nat) : Int) - 2 * H544.1 7 4 F.2.2.1 - 13 * H544.1 3 1 F.2.1 - H544.1 3 3 F.2.1 ≤ ((w.2.1 : Nat) : Int) - 2 * H.1 7 4 F.2.2.1 - 13 * H.1 3 1 F.2.1 - H.1 3 3 F.2.1 + (H544.1 6 11 x) by omega), (show ((w545.2.2 : Nat) : Int) - 18 * H544.1 7 4 F.2.2.1 - 700 * H544.1 3 1 F.2.1 - 6 * H544.1 3 3 F.2.1 ≤ ((w.2.2 : Nat) : Int) - 18 * H.1 7 4 F.2.2.1 - 700 * H.1 3 1 F.2.1 - 6 * H.1 3 3 F.2.1 + 10 * (H544.1 6 11 x) by omega), _, rfl, (show (((1 : Int)) = 0 ∨ ((1 : Int)) = 1) ∧ (((1 : Int)) = 0 → H544.1 6 11 x = 0) ∧ (((1 : Int)) = 0 → H544.1 0 1 (H544.2.2.2.2 6 1 x) < 120) from ⟨by omega, by omega, by omega⟩)⟩
                · have c560 : ¬ (¬ ((1 : Int) = (0 : Int))) := hc
                  clear hc
                  exfalso
                  omega
              · have c561 : ¬ (¬ (x466 = (0 : Int))) := hc
                clear hc
                refine J.run0 1 rfl ?_
                try dsimp only
                exact J.retb rfl rfl rfl (show (0 : Int) = 0 ∨ (0 : Int) = 1 by omega) ⟨_, rfl, T, hI, hS, hE, (show ((w.2.1 : Nat) : Int) - 2 * H.1 7 4 F.2.2.1 - 13 * H.1 3 1 F.2.1 - H.1 3 3 F.2.1 ≤ ((w.2.1 : Nat) : Int) - 2 * H.1 7 4 F.2.2.1 - 13 * H.1 3 1 F.2.1 - H.1 3 3 F.2.1 + (H.1 6 11 x) by omega), (show ((w.2.2 : Nat) : Int) - 18 * H.1 7 4 F.2.2.1 - 700 * H.1 3 1 F.2.1 - 6 * H.1 3 3 F.2.1 ≤ ((w.2.2 : Nat) : Int) - 18 * H.1 7 4 F.2.2.1 - 700 * H.1 3 1 F.2.1 - 6 * H.1 3 3 F.2.1 + 10 * (H.1 6 11 x) by omega), _, rfl, (show (((0 : Int)) = 0 ∨ ((0 : Int)) = 1) ∧ (((0 : Int)) = 0 → H.1 6 11 x = 0) ∧ (((0 : Int)) = 0 → H.1 0 1 (H.2.2.2.2 6 1 x) < 120) from ⟨by omega, by omega, by omega⟩)⟩
end
