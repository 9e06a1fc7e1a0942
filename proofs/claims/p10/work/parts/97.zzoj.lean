-- M: X10_resume
section
variable {d : Nat} {F : cG} 
set_option maxRecDepth 20000 in
set_option maxHeartbeats 8000000 in
theorem c_X10_resume_l0 {x : Nat} {e : Nat} {T0 : cP} {w0 : jW} {H0 : jH} (hI0 : cJ F T0 w0 H0) (ta0 : T0 6 x) (ta1 : T0 2 e)  : ∀ (m : Nat), (∀ (k : Int) (T : cP) (w : jW) (H : jH) (lv : jL), 96 - k < (m : Int) → (0 ≤ k ∧ k ≤ 96) → (((w.2.1 : Nat) : Int) - 2 * H.1 7 4 F.2.2.1 - 13 * H.1 3 1 F.2.1 - H.1 3 3 F.2.1 ≤ ((w0.2.1 : Nat) : Int) - 2 * H0.1 7 4 F.2.2.1 - 13 * H0.1 3 1 F.2.1 - H0.1 3 3 F.2.1 + (0)) → (((w.2.2 : Nat) : Int) - 18 * H.1 7 4 F.2.2.1 - 700 * H.1 3 1 F.2.1 - 6 * H.1 3 3 F.2.1 ≤ ((w0.2.2 : Nat) : Int) - 18 * H0.1 7 4 F.2.2.1 - 700 * H0.1 3 1 F.2.1 - 6 * H0.1 3 3 F.2.1 + 10 * (0)) → cJ F T w H → (∀ k p, T0 k p → T k p) → cEx T0 [602, 603, 604, 605, 606, 607, 608, 609, 616, 704, 10209, 10507, 30026, 30027, 30031, 40028, 40029, 40030] H H0 → ((lv = [(3, .inl k), (0, .inr (some (10, F.1))), (1, .inr (some (6, x))), (2, .inr (some (2, e)))]) ∨ (lv = [(3, .inl k), (4, .inr none), (0, .inr (some (10, F.1))), (1, .inr (some (6, x))), (2, .inr (some (2, e)))]) ∨ (∃ o4 : Nat, T 5 o4 ∧ lv = [(3, .inl k), (4, .inr (some (5, o4))), (0, .inr (some (10, F.1))), (1, .inr (some (6, x))), (2, .inr (some (2, e)))])) → J false (d + 3) 99 w (2, lv, [], H) (jN fun v w' H' => ∃ T', cJ F T' w' H' ∧ (∀ k p, T0 k p → T' k p) ∧ cEx T0 [602, 603, 604, 605, 606, 607, 608, 609, 616, 704, 10209, 10507, 30026, 30027, 30031, 40028, 40029, 40030] H' H0 ∧ ((w'.2.1 : Nat) : Int) - 2 * H'.1 7 4 F.2.2.1 - 13 * H'.1 3 1 F.2.1 - H'.1 3 3 F.2.1 ≤ ((w0.2.1 : Nat) : Int) - 2 * H0.1 7 4 F.2.2.1 - 13 * H0.1 3 1 F.2.1 - H0.1 3 3 F.2.1 + (0) ∧ ((w'.2.2 : Nat) : Int) - 18 * H'.1 7 4 F.2.2.1 - 700 * H'.1 3 1 F.2.1 - 6 * H'.1 3 3 F.2.1 ≤ ((w0.2.2 : Nat) : Int) - 18 * H0.1 7 4 F.2.2.1 - 700 * H0.1 3 1 F.2.1 - 6 * H0.1 3 3 F.2.1 + 10 * (0) ∧ v = none)) := by
  intro m
  induction m with
  | zero =>
    skip
    · intro k T w H lv hm hi0 hi1 hi2 hI hS hE hlv
      exfalso
      omega
  | succ m ih =>
    skip
    · intro k T w H lv hm hi0 hi1 hi2 hI hS hE hlv
      rcases hlv with rfl | rfl | ⟨o4, to4, rfl⟩
      · skip
        have f1 : 0 ≤ H.1 4 1 (H.2.2.2.2 6 13 x) ∧ H.1 4 1 (H.2.2.2.2 6 13 x) ≤ 96 := hI.v 4 1 (H.2.2.2.2 6 13 x) (hI.o 6 13 4 x rfl (hS _ _ ta0)).2
        refine J.run 4 rfl ⟨⟨(hI.is (hS _ _ ta0)), (hI.o 6 13 4 x rfl (hS _ _ ta0)).1⟩, (hI.is (hI.o 6 13 4 x rfl (hS _ _ ta0)).2)⟩ ?_
        try dsimp only
        refine J.icmp rfl rfl rfl ⟨(show -2147483648 ≤ k ∧ k ≤ 2147483647 from ⟨by omega, by omega⟩), (show -2147483648 ≤ H.1 4 1 (H.2.2.2.2 6 13 x) ∧ H.1 4 1 (H.2.2.2.2 6 13 x) ≤ 2147483647 from ⟨by omega, by omega⟩)⟩ (fun hc => ?_) (fun hc => ?_)
        · have c2 : H.1 4 1 (H.2.2.2.2 6 13 x) ≤ k := hc
          clear hc
          refine J.run0 2 rfl ?_
          try dsimp only
          refine J.inv rfl rfl rfl rfl rfl rfl ((jD_w rfl).mpr (hI.is (hS _ _ ta0))) rfl rfl rfl rfl rfl (c_X6_restore (a0 := x) (e := e) hI (hS _ _ ta0) (hS _ _ ta1) ) ?_
          rintro v w4 H3 ⟨T5, hI6, shS7, ehE8, hr9, hr9s, hv⟩
          have hr9' : ((w4.2.1 : Nat) : Int) - 2 * H3.1 7 4 F.2.2.1 - 13 * H3.1 3 1 F.2.1 - H3.1 3 3 F.2.1 ≤ ((w.2.1 : Nat) : Int) - 2 * H.1 7 4 F.2.2.1 - 13 * H.1 3 1 F.2.1 - H.1 3 3 F.2.1 + (0) := hr9
          have hr9s' : ((w4.2.2 : Nat) : Int) - 18 * H3.1 7 4 F.2.2.1 - 700 * H3.1 3 1 F.2.1 - 6 * H3.1 3 3 F.2.1 ≤ ((w.2.2 : Nat) : Int) - 18 * H.1 7 4 F.2.2.1 - 700 * H.1 3 1 F.2.1 - 6 * H.1 3 3 F.2.1 + 10 * (0) := hr9s
          have hE8 : cEx T0 [602, 603, 604, 605, 606, 607, 608, 609, 616, 704, 10209, 10507, 30026, 30027, 30031, 40028, 40029, 40030] H3 H0 := cEx.trans ehE8 hE hS (by decide)
          have hS7 : ∀ k p, T0 k p → T5 k p := fun k p z => shS7 k p (hS k p z)
          have g10 : H3.1 7 4 F.2.2.1 = H.1 7 4 F.2.2.1 := (ehE8.1 7 4 F.2.2.1 hI.top.2.2.1).1 (by decide)
          have g11 : H3.1 3 1 F.2.1 = H.1 3 1 F.2.1 := (ehE8.1 3 1 F.2.1 hI.top.2.1).1 (by decide)
          have g12 : H3.1 3 3 F.2.1 = H.1 3 3 F.2.1 := (ehE8.1 3 3 F.2.1 hI.top.2.1).1 (by decide)
          have t13 : T5 10 F.1 := shS7 _ _ hI.top.1
          have t14 : T5 6 x := shS7 _ _ (hS _ _ ta0)
          have t15 : T5 2 e := shS7 _ _ (hS _ _ ta1)
          obtain rfl := hv
          try dsimp only [Option.toList, List.append, List.cons_append, List.nil_append]
          refine J.run 2 rfl (hI6.is t15) ?_
          try dsimp only
          try dsimp only
          rcases hn16 : H3.2.1 2 9 e with _ | q17
          · skip
            refine J.run0 4 rfl ?_
            try dsimp only
            refine J.inv rfl rfl rfl rfl rfl rfl ((jD_w rfl).mpr (hI6.is t13)) rfl rfl rfl rfl rfl (c_X10_sendRecorded (x := x) (e := e) hI6 t14 t15 ) ?_
            rintro v w19 H18 ⟨T20, hI21, shS22, ehE23, hr24, hr24s, p25, hv⟩
            have hr24' : ((w19.2.1 : Nat) : Int) - 2 * H18.1 7 4 F.2.2.1 - 13 * H18.1 3 1 F.2.1 - H18.1 3 3 F.2.1 ≤ ((w4.2.1 : Nat) : Int) - 2 * H3.1 7 4 F.2.2.1 - 13 * H3.1 3 1 F.2.1 - H3.1 3 3 F.2.1 + (0) := hr24
            have hr24s' : ((w19.2.2 : Nat) : Int) - 18 * H18.1 7 4 F.2.2.1 - 700 * H18.1 3 1 F.2.1 - 6 * H18.1 3 3 F.2.1 ≤ ((w4.2.2 : Nat) : Int) - 18 * H3.1 7 4 F.2.2.1 - 700 * H3.1 3 1 F.2.1 - 6 * H3.1 3 3 F.2.1 + 10 * (0) := hr24s
            have p25' : H3.1 7 4 F.2.2.1 < 6000 → H3.1 0 1 (H3.2.2.2.2 6 1 x) < 120 → (((w19.2.1 : Nat) : Int) - 2 * H18.1 7 4 F.2.2.1 - 13 * H18.1 3 1 F.2.1 - H18.1 3 3 F.2.1 ≤ ((w4.2.1 : Nat) : Int) - 2 * H3.1 7 4 F.2.2.1 - 13 * H3.1 3 1 F.2.1 - H3.1 3 3 F.2.1 + (-1) ∧ ((w19.2.2 : Nat) : Int) - 18 * H18.1 7 4 F.2.2.1 - 700 * H18.1 3 1 F.2.1 - 6 * H18.1 3 3 F.2.1 ≤ ((w4.2.2 : Nat) : Int) - 18 * H3.1 7 4 F.2.2.1 - 700 * H3.1 3 1 F.2.1 - 6 * H3.1 3 3 F.2.1 + 10 * (-1)) := p25
            have hE23 : cEx T0 [602, 603, 604, 605, 606, 607, 608, 609, 616, 704, 10209, 10507, 30026, 30027, 30031, 40028, 40029, 40030] H18 H0 := cEx.trans ehE23 hE8 hS7 (by decide)
            have hS22 : ∀ k p, T0 k p → T20 k p := fun k p z => shS22 k p (hS7 k p z)
            have g26 : H18.1 3 1 F.2.1 = H3.1 3 1 F.2.1 := (ehE23.1 3 1 F.2.1 hI6.top.2.1).1 (by decide)
            have g27 : H18.1 3 3 F.2.1 = H3.1 3 3 F.2.1 := (ehE23.1 3 3 F.2.1 hI6.top.2.1).1 (by decide)
            have t28 : T20 10 F.1 := shS22 _ _ t13
            have t29 : T20 6 x := shS22 _ _ t14
            have t30 : T20 2 e := shS22 _ _ t15
            obtain rfl := hv
            try dsimp only [Option.toList, List.append, List.cons_append, List.nil_append]
            exact J.retv rfl rfl rfl ⟨_, rfl, T20, hI21, hS22, hE23, (show ((w19.2.1 : Nat) : Int) - 2 * H18.1 7 4 F.2.2.1 - 13 * H18.1 3 1 F.2.1 - H18.1 3 3 F.2.1 ≤ ((w0.2.1 : Nat) : Int) - 2 * H0.1 7 4 F.2.2.1 - 13 * H0.1 3 1 F.2.1 - H0.1 3 3 F.2.1 + (0) by omega), (show ((w19.2.2 : Nat) : Int) - 18 * H18.1 7 4 F.2.2.1 - 700 * H18.1 3 1 F.2.1 - 6 * H18.1 3 3 F.2.1 ≤ ((w0.2.2 : Nat) : Int) - 18 * H0.1 7 4 F.2.2.1 - 700 * H0.1 3 1 F.2.1 - 6 * H0.1 3 3 F.2.1 + 10 * (0) by omega), rfl⟩
          · have t31 : T5 5 q17 := hI6.n 2 9 5 e rfl t15 hn16
            have f32 : 0 ≤ H3.1 5 0 q17 ∧ H3.1 5 0 q17 ≤ 5999 := hI6.v 5 0 q17 t31
            refine J.run0 1 rfl ?_
            try dsimp only
            exact J.retv rfl rfl rfl ⟨_, rfl, T5, hI6, hS7, hE8, (show ((w4.2.1 : Nat) : Int) - 2 * H3.1 7 4 F.2.2.1 - 13 * H3.1 3 1 F.2.1 - H3.1 3 3 F.2.1 ≤ ((w0.2.1 : Nat) : Int) - 2 * H0.1 7 4 F.2.2.1 - 13 * H0.1 3 1 F.2.1 - H0.1 3 3 F.2.1 + (0) by omega), (show ((w4.2.2 : Nat) : Int) - 18 * H3.1 7 4 F.2.2.1 - 700 * H3.1 3 1 F.2.1 - 6 * H3.1 3 3 F.2.1 ≤ ((w0.2.2 : Nat) : Int) - 18 * H0.1 7 4 F.2.2.1 - 700 * H0.1 3 1 F.2.1 - 6 * H0.1 3 3 F.2.1 + 10 * (0) by omega), rfl⟩
        · have c33 : ¬ (H.1 4 1 (H.2.2.2.2 6 13 x) ≤ k) := hc
          clear hc
          refine J.run 3 rfl ⟨(hI.is (hS _ _ ta0)), (hI.o 6 13 4 x rfl (hS _ _ ta0)).1⟩ ?_
          try dsimp only
          refine J.inv rfl rfl rfl rfl rfl rfl ((jD_w rfl).mpr (hI.is (hI.o 6 13 4 x rfl (hS _ _ ta0)).2)) rfl rfl rfl rfl rfl (c_X4_sentAt (a0 := (H.2.2.2.2 6 13 x)) (i := k) hI (hI.o 6 13 4 x rfl (hS _ _ ta0)).2 (show -2147483648 ≤ k ∧ k ≤ 2147483647 from ⟨by omega, by omega⟩)) ?_
          rintro v w H ⟨rfl, rfl, hv⟩
          rcases hv with ⟨rfl, r36⟩ | ⟨q34, rfl, t35, r36⟩
          · skip
            try dsimp only [Option.toList, List.append, List.cons_append, List.nil_append]
            refine J.run0 5 rfl ?_
            try dsimp only
            exact ih (k + 1) T w H _ (show 96 - (k + 1) < _ by omega) (show 0 ≤ (k + 1) ∧ (k + 1) ≤ 96 from ⟨by omega, by omega⟩) (show ((w.2.1 : Nat) : Int) - 2 * H.1 7 4 F.2.2.1 - 13 * H.1 3 1 F.2.1 - H.1 3 3 F.2.1 ≤ ((w0.2.1 : Nat) : Int) - 2 * H0.1 7 4 F.2.2.1 - 13 * H0.1 3 1 F.2.1 - H0.1 3 3 F.2.1 + (0) from by omega) (show ((w.2.2 : Nat) : Int) - 18 * H.1 7 4 F.2.2.1 - 700 * H.1 3 1 F.2.1 - 6 * H.1 3 3 F.2.1 ≤ ((w0.2.2 : Nat) : Int) - 18 * H0.1 7 4 F.2.2.1 - 700 * H0.1 3 1 F.2.1 - 6 * H0.1 3 3 F.2.1 + 10 * (0) from by omega) hI hS hE  (Or.inr (Or.inl rfl))
          · skip
            try dsimp only [Option.toList, List.append, List.cons_append, List.nil_append]
            have f37 : 0 ≤ H.1 5 0 q34 ∧ H.1 5 0 q34 ≤ 5999 := hI.v 5 0 q34 t35
            refine J.run 7 rfl ⟨(hI.is hI.top.1), (hI.o 10 1 7 F.1 rfl hI.top.1).1⟩ ?_
            try dsimp only
            try dsimp only
            rw [show (H.2.2.2.2 10 1 F.1) = F.2.2.1 from hI.one.2.2.1 _ (hI.o 10 1 7 F.1 rfl hI.top.1).2]
            have f38 : 0 ≤ H.1 5 3 q34 ∧ H.1 5 3 q34 ≤ 120 := hI.v 5 3 q34 t35
            have f39 : 0 ≤ H.1 5 4 q34 ∧ H.1 5 4 q34 ≤ 31 := hI.v 5 4 q34 t35
            refine J.run 4 rfl ⟨(hI.is t35), (hI.is t35)⟩ ?_
            try dsimp only
            refine J.inv rfl rfl rfl rfl rfl rfl ((jD_w rfl).mpr (hI.is hI.top.2.2.1)) rfl rfl rfl rfl rfl (c_X7_firstOf (height := H.1 5 3 q34) (round := H.1 5 4 q34) hI  (show -2147483648 ≤ (H.1 5 3 q34) ∧ (H.1 5 3 q34) ≤ 2147483647 from ⟨by omega, by omega⟩) (show -2147483648 ≤ (H.1 5 4 q34) ∧ (H.1 5 4 q34) ≤ 2147483647 from ⟨by omega, by omega⟩)) ?_
            rintro v w H ⟨rfl, rfl, hv⟩
            rcases hv with ⟨rfl, r42⟩ | ⟨q40, rfl, t41, r42⟩
            · skip
              try dsimp only [Option.toList, List.append, List.cons_append, List.nil_append]
              refine J.inv rfl rfl rfl rfl rfl rfl ((jD_w rfl).mpr (hI.is (hS _ _ ta0))) rfl rfl rfl rfl rfl (c_X6_learn (a0 := x) (m0 := q34) (row := none) hI (hS _ _ ta0) t35 (fun _ z => nomatch z) ) ?_
              rintro v w44 H43 ⟨T45, hI46, shS47, ehE48, hr49, hr49s, hv⟩
              have hr49' : ((w44.2.1 : Nat) : Int) - 2 * H43.1 7 4 F.2.2.1 - 13 * H43.1 3 1 F.2.1 - H43.1 3 3 F.2.1 ≤ ((w.2.1 : Nat) : Int) - 2 * H.1 7 4 F.2.2.1 - 13 * H.1 3 1 F.2.1 - H.1 3 3 F.2.1 + (0) := hr49
              have hr49s' : ((w44.2.2 : Nat) : Int) - 18 * H43.1 7 4 F.2.2.1 - 700 * H43.1 3 1 F.2.1 - 6 * H43.1 3 3 F.2.1 ≤ ((w.2.2 : Nat) : Int) - 18 * H.1 7 4 F.2.2.1 - 700 * H.1 3 1 F.2.1 - 6 * H.1 3 3 F.2.1 + 10 * (0) := hr49s
              have hE48 : cEx T0 [602, 603, 604, 605, 606, 607, 608, 609, 616, 704, 10209, 10507, 30026, 30027, 30031, 40028, 40029, 40030] H43 H0 := cEx.trans ehE48 hE hS (by decide)
              have hS47 : ∀ k p, T0 k p → T45 k p := fun k p z => shS47 k p (hS k p z)
              have g50 : H43.1 7 4 F.2.2.1 = H.1 7 4 F.2.2.1 := (ehE48.1 7 4 F.2.2.1 hI.top.2.2.1).1 (by decide)
              have g51 : H43.1 3 1 F.2.1 = H.1 3 1 F.2.1 := (ehE48.1 3 1 F.2.1 hI.top.2.1).1 (by decide)
              have g52 : H43.1 3 3 F.2.1 = H.1 3 3 F.2.1 := (ehE48.1 3 3 F.2.1 hI.top.2.1).1 (by decide)
              have g53 : H43.1 5 3 q34 = H.1 5 3 q34 := (ehE48.1 5 3 q34 t35).1 (by decide)
              have g54 : H43.1 5 4 q34 = H.1 5 4 q34 := (ehE48.1 5 4 q34 t35).1 (by decide)
              have t55 : T45 5 q34 := shS47 _ _ t35
              have t56 : T45 10 F.1 := shS47 _ _ hI.top.1
              have t57 : T45 6 x := shS47 _ _ (hS _ _ ta0)
              have t58 : T45 2 e := shS47 _ _ (hS _ _ ta1)
              obtain rfl := hv
              try dsimp only [Option.toList, List.append, List.cons_append, List.nil_append]
              refine J.run0 2 rfl ?_
              try dsimp only
              exact ih (k + 1) T45 w44 H43 _ (show 96 - (k + 1) < _ by omega) (show 0 ≤ (k + 1) ∧ (k + 1) ≤ 96 from ⟨by omega, by omega⟩) (show ((w44.2.1 : Nat) : Int) - 2 * H43.1 7 4 F.2.2.1 - 13 * H43.1 3 1 F.2.1 - H43.1 3 3 F.2.1 ≤ ((w0.2.1 : Nat) : Int) - 2 * H0.1 7 4 F.2.2.1 - 13 * H0.1 3 1 F.2.1 - H0.1 3 3 F.2.1 + (0) from by omega) (show ((w44.2.2 : Nat) : Int) - 18 * H43.1 7 4 F.2.2.1 - 700 * H43.1 3 1 F.2.1 - 6 * H43.1 3 3 F.2.1 ≤ ((w0.2.2 : Nat) : Int) - 18 * H0.1 7 4 F.2.2.1 - 700 * H0.1 3 1 F.2.1 - 6 * H0.1 3 3 F.2.1 + 10 * (0) from by omega) hI46 hS47 hE48  (Or.inr (Or.inr (⟨_, t55, rfl⟩)))
            · skip
              try dsimp only [Option.toList, List.append, List.cons_append, List.nil_append]
              have f59 : 0 ≤ H.1 5 0 q40 ∧ H.1 5 0 q40 ≤ 5999 := hI.v 5 0 q40 t41
              refine J.inv rfl rfl rfl rfl rfl rfl ((jD_w rfl).mpr (hI.is (hS _ _ ta0))) rfl rfl rfl rfl rfl (c_X6_learn (a0 := x) (m0 := q34) (row := some q40) hI (hS _ _ ta0) t35 (fun _ z => by cases z; exact t41) ) ?_
              rintro v w61 H60 ⟨T62, hI63, shS64, ehE65, hr66, hr66s, hv⟩
              have hr66' : ((w61.2.1 : Nat) : Int) - 2 * H60.1 7 4 F.2.2.1 - 13 * H60.1 3 1 F.2.1 - H60.1 3 3 F.2.1 ≤ ((w.2.1 : Nat) : Int) - 2 * H.1 7 4 F.2.2.1 - 13 * H.1 3 1 F.2.1 - H.1 3 3 F.2.1 + (0) := hr66
              have hr66s' : ((w61.2.2 : Nat) : Int) - 18 * H60.1 7 4 F.2.2.1 - 700 * H60.1 3 1 F.2.1 - 6 * H60.1 3 3 F.2.1 ≤ ((w.2.2 : Nat) : Int) - 18 * H.1 7 4 F.2.2.1 - 700 * H.1 3 1 F.2.1 - 6 * H.1 3 3 F.2.1 + 10 * (0) := hr66s
              have hE65 : cEx T0 [602, 603, 604, 605, 606, 607, 608, 609, 616, 704, 10209, 10507, 30026, 30027, 30031, 40028, 40029, 40030] H60 H0 := cEx.trans ehE65 hE hS (by decide)
              have hS64 : ∀ k p, T0 k p → T62 k p := fun k p z => shS64 k p (hS k p z)
              have g67 : H60.1 7 4 F.2.2.1 = H.1 7 4 F.2.2.1 := (ehE65.1 7 4 F.2.2.1 hI.top.2.2.1).1 (by decide)
              have g68 : H60.1 3 1 F.2.1 = H.1 3 1 F.2.1 := (ehE65.1 3 1 F.2.1 hI.top.2.1).1 (by decide)
              have g69 : H60.1 3 3 F.2.1 = H.1 3 3 F.2.1 := (ehE65.1 3 3 F.2.1 hI.top.2.1).1 (by decide)
              have g70 : H60.1 5 3 q34 = H.1 5 3 q34 := (ehE65.1 5 3 q34 t35).1 (by decide)
              have g71 : H60.1 5 4 q34 = H.1 5 4 q34 := (ehE65.1 5 4 q34 t35).1 (by decide)
              have t72 : T62 5 q34 := shS64 _ _ t35
              have t73 : T62 10 F.1 := shS64 _ _ hI.top.1
              have t74 : T62 6 x := shS64 _ _ (hS _ _ ta0)
              have t75 : T62 2 e := shS64 _ _ (hS _ _ ta1)
              obtain rfl := hv
              try dsimp only [Option.toList, List.append, List.cons_append, List.nil_append]
              refine J.run0 2 rfl ?_
              try dsimp only
              exact ih (k + 1) T62 w61 H60 _ (show 96 - (k + 1) < _ by omega) (show 0 ≤ (k + 1) ∧ (k + 1) ≤ 96 from ⟨by omega, by omega⟩) (show ((w61.2.1 : Nat) : Int) - 2 * H60.1 7 4 F.2.2.1 - 13 * H60.1 3 1 F.2.1 - H60.1 3 3 F.2.1 ≤ ((w0.2.1 : Nat) : Int) - 2 * H0.1 7 4 F.2.2.1 - 13 * H0.1 3 1 F.2.1 - H0.1 3 3 F.2.1 + (0) from by omega) (show ((w61.2.2 : Nat) : Int) - 18 * H60.1 7 4 F.2.2.1 - 700 * H60.1 3 1 F.2.1 - 6 * H60.1 3 3 F.2.1 ≤ ((w0.2.2 : Nat) : Int) - 18 * H0.1 7 4 F.2.2.1 - 700 * H0.1 3 1 F.2.1 - 6 * H0.1 3 3 F.2.1 + 10 * (0) from by omega) hI63 hS64 hE65  (Or.inr (Or.inr (⟨_, t72, rfl⟩)))
      · skip
        have f76 : 0 ≤ H.1 4 1 (H.2.2.2.2 6 13 x) ∧ H.1 4 1 (H.2.2.2.2 6 13 x) ≤ 96 := hI.v 4 1 (H.2.2.2.2 6 13 x) (hI.o 6 13 4 x rfl (hS _ _ ta0)).2
        refine J.run 4 rfl ⟨⟨(hI.is (hS _ _ ta0)), (hI.o 6 13 4 x rfl (hS _ _ ta0)).1⟩, (hI.is (hI.o 6 13 4 x rfl (hS _ _ ta0)).2)⟩ ?_
        try dsimp only
        refine J.icmp rfl rfl rfl ⟨(show -2147483648 ≤ k ∧ k ≤ 2147483647 from ⟨by omega, by omega⟩), (show -2147483648 ≤ H.1 4 1 (H.2.2.2.2 6 13 x) ∧ H.1 4 1 (H.2.2.2.2 6 13 x) ≤ 2147483647 from ⟨by omega, by omega⟩)⟩ (fun hc => ?_) (fun hc => ?_)
        · have c77 : H.1 4 1 (H.2.2.2.2 6 13 x) ≤ k := hc
          clear hc
          refine J.run0 2 rfl ?_
          try dsimp only
          refine J.inv rfl rfl rfl rfl rfl rfl ((jD_w rfl).mpr (hI.is (hS _ _ ta0))) rfl rfl rfl rfl rfl (c_X6_restore (a0 := x) (e := e) hI (hS _ _ ta0) (hS _ _ ta1) ) ?_
          rintro v w79 H78 ⟨T80, hI81, shS82, ehE83, hr84, hr84s, hv⟩
          have hr84' : ((w79.2.1 : Nat) : Int) - 2 * H78.1 7 4 F.2.2.1 - 13 * H78.1 3 1 F.2.1 - H78.1 3 3 F.2.1 ≤ ((w.2.1 : Nat) : Int) - 2 * H.1 7 4 F.2.2.1 - 13 * H.1 3 1 F.2.1 - H.1 3 3 F.2.1 + (0) := hr84
          have hr84s' : ((w79.2.2 : Nat) : Int) - 18 * H78.1 7 4 F.2.2.1 - 700 * H78.1 3 1 F.2.1 - 6 * H78.1 3 3 F.2.1 ≤ ((w.2.2 : Nat) : Int) - 18 * H.1 7 4 F.2.2.1 - 700 * H.1 3 1 F.2.1 - 6 * H.1 3 3 F.2.1 + 10 * (0) := hr84s
          have hE83 : cEx T0 [602, 603, 604, 605, 606, 607, 608, 609, 616, 704, 10209, 10507, 30026, 30027, 30031, 40028, 40029, 40030] H78 H0 := cEx.trans ehE83 hE hS (by decide)
          have hS82 : ∀ k p, T0 k p → T80 k p := fun k p z => shS82 k p (hS k p z)
          have g85 : H78.1 7 4 F.2.2.1 = H.1 7 4 F.2.2.1 := (ehE83.1 7 4 F.2.2.1 hI.top.2.2.1).1 (by decide)
          have g86 : H78.1 3 1 F.2.1 = H.1 3 1 F.2.1 := (ehE83.1 3 1 F.2.1 hI.top.2.1).1 (by decide)
          have g87 : H78.1 3 3 F.2.1 = H.1 3 3 F.2.1 := (ehE83.1 3 3 F.2.1 hI.top.2.1).1 (by decide)
          have t88 : T80 10 F.1 := shS82 _ _ hI.top.1
          have t89 : T80 6 x := shS82 _ _ (hS _ _ ta0)
          have t90 : T80 2 e := shS82 _ _ (hS _ _ ta1)
          obtain rfl := hv
          try dsimp only [Option.toList, List.append, List.cons_append, List.nil_append]
          refine J.run 2 rfl (hI81.is t90) ?_
          try dsimp only
          try dsimp only
          rcases hn91 : H78.2.1 2 9 e with _ | q92
          · skip
            refine J.run0 4 rfl ?_
            try dsimp only
            refine J.inv rfl rfl rfl rfl rfl rfl ((jD_w rfl).mpr (hI81.is t88)) rfl rfl rfl rfl rfl (c_X10_sendRecorded (x := x) (e := e) hI81 t89 t90 ) ?_
            rintro v w94 H93 ⟨T95, hI96, shS97, ehE98, hr99, hr99s, p100, hv⟩
            have hr99' : ((w94.2.1 : Nat) : Int) - 2 * H93.1 7 4 F.2.2.1 - 13 * H93.1 3 1 F.2.1 - H93.1 3 3 F.2.1 ≤ ((w79.2.1 : Nat) : Int) - 2 * H78.1 7 4 F.2.2.1 - 13 * H78.1 3 1 F.2.1 - H78.1 3 3 F.2.1 + (0) := hr99
            have hr99s' : ((w94.2.2 : Nat) : Int) - 18 * H93.1 7 4 F.2.2.1 - 700 * H93.1 3 1 F.2.1 - 6 * H93.1 3 3 F.2.1 ≤ ((w79.2.2 : Nat) : Int) - 18 * H78.1 7 4 F.2.2.1 - 700 * H78.1 3 1 F.2.1 - 6 * H78.1 3 3 F.2.1 + 10 * (0) := hr99s
            have p100' : H78.1 7 4 F.2.2.1 < 6000 → H78.1 0 1 (H78.2.2.2.2 6 1 x) < 120 → (((w94.2.1 : Nat) : Int) - 2 * H93.1 7 4 F.2.2.1 - 13 * H93.1 3 1 F.2.1 - H93.1 3 3 F.2.1 ≤ ((w79.2.1 : Nat) : Int) - 2 * H78.1 7 4 F.2.2.1 - 13 * H78.1 3 1 F.2.1 - H78.1 3 3 F.2.1 + (-1) ∧ ((w94.2.2 : Nat) : Int) - 18 * H93.1 7 4 F.2.2.1 - 700 * H93.1 3 1 F.2.1 - 6 * H93.1 3 3 F.2.1 ≤ ((w79.2.2 : Nat) : Int) - 18 * H78.1 7 4 F.2.2.1 - 700 * H78.1 3 1 F.2.1 - 6 * H78.1 3 3 F.2.1 + 10 * (-1)) := p100
            have hE98 : cEx T0 [602, 603, 604, 605, 606, 607, 608, 609, 616, 704, 10209, 10507, 30026, 30027, 30031, 40028, 40029, 40030] H93 H0 := cEx.trans ehE98 hE83 hS82 (by decide)
            have hS97 : ∀ k p, T0 k p → T95 k p := fun k p z => shS97 k p (hS82 k p z)
            have g101 : H93.1 3 1 F.2.1 = H78.1 3 1 F.2.1 := (ehE98.1 3 1 F.2.1 hI81.top.2.1).1 (by decide)
            have g102 : H93.1 3 3 F.2.1 = H78.1 3 3 F.2.1 := (ehE98.1 3 3 F.2.1 hI81.top.2.1).1 (by decide)
            have t103 : T95 10 F.1 := shS97 _ _ t88
            have t104 : T95 6 x := shS97 _ _ t89
            have t105 : T95 2 e := shS97 _ _ t90
            obtain rfl := hv
            try dsimp only [Option.toList, List.append, List.cons_append, List.nil_append]
            exact J.retv rfl rfl rfl ⟨_, rfl, T95, hI96, hS97, hE98, (show ((w94.2.1 : Nat) : Int) - 2 * H93.1 7 4 F.2.2.1 - 13 * H93.1 3 1 F.2.1 - H93.1 3 3 F.2.1 ≤ ((w0.2.1 : Nat) : Int) - 2 * H0.1 7 4 F.2.2.1 - 13 * H0.1 3 1 F.2.1 - H0.1 3 3 F.2.1 + (0) by omega), (show ((w94.2.2 : Nat) : Int) - 18 * H93.1 7 4 F.2.2.1 - 700 * H93.1 3 1 F.2.1 - 6 * H93.1 3 3 F.2.1 ≤ ((w0.2.2 : Nat) : Int) - 18 * H0.1 7 4 F.2.2.1 - 700 * H0.1 3 1 F.2.1 - 6 * H0.1 3 3 F.2.1 + 10 * (0) by omega), rfl⟩
          · have t106 : T80 5 q92 := hI81.n 2 9 5 e rfl t90 hn91
            have f107 : 0 ≤ H78.1 5 0 q92 ∧ H78.1 5 0 q92 ≤ 5999 := hI81.v 5 0 q92 t106
            refine J.run0 1 rfl ?_
            try dsimp only
            exact J.retv rfl rfl rfl ⟨_, rfl, T80, hI81, hS82, hE83, (show ((w79.2.1 : Nat) : Int) - 2 * H78.1 7 4 F.2.2.1 - 13 * H78.1 3 1 F.2.1 - H78.1 3 3 F.2.1 ≤ ((w0.2.1 : Nat) : Int) - 2 * H0.1 7 4 F.2.2.1 - 13 * H0.1 3 1 F.2.1 - H0.1 3 3 F.2.1 + (0) by omega), (show ((w79.2.2 : Nat) : Int) - 18 * H78.1 7 4 F.2.2.1 - 700 * H78.1 3 1 F.2.1 - 6 * H78.1 3 3 F.2.1 ≤ ((w0.2.2 : Nat) : Int) - 18 * H0.1 7 4 F.2.2.1 - 700 * H0.1 3 1 F.2.1 - 6 * H0.1 3 3 F.2.1 + 10 * (0) by omega), rfl⟩
        · have c108 : ¬ (H.1 4 1 (H.2.2.2.2 6 13 x) ≤ k) := hc
          clear hc
          refine J.run 3 rfl ⟨(hI.is (hS _ _ ta0)), (hI.o 6 13 4 x rfl (hS _ _ ta0)).1⟩ ?_
          try dsimp only
          refine J.inv rfl rfl rfl rfl rfl rfl ((jD_w rfl).mpr (hI.is (hI.o 6 13 4 x rfl (hS _ _ ta0)).2)) rfl rfl rfl rfl rfl (c_X4_sentAt (a0 := (H.2.2.2.2 6 13 x)) (i := k) hI (hI.o 6 13 4 x rfl (hS _ _ ta0)).2 (show -2147483648 ≤ k ∧ k ≤ 2147483647 from ⟨by omega, by omega⟩)) ?_
          rintro v w H ⟨rfl, rfl, hv⟩
          rcases hv with ⟨rfl, r111⟩ | ⟨q109, rfl, t110, r111⟩
          · skip
            try dsimp only [Option.toList, List.append, List.cons_append, List.nil_append]
            refine J.run0 5 rfl ?_
            try dsimp only
            exact ih (k + 1) T w H _ (show 96 - (k + 1) < _ by omega) (show 0 ≤ (k + 1) ∧ (k + 1) ≤ 96 from ⟨by omega, by omega⟩) (show ((w.2.1 : Nat) : Int) - 2 * H.1 7 4 F.2.2.1 - 13 * H.1 3 1 F.2.1 - H.1 3 3 F.2.1 ≤ ((w0.2.1 : Nat) : Int) - 2 * H0.1 7 4 F.2.2.1 - 13 * H0.1 3 1 F.2.1 - H0.1 3 3 F.2.1 + (0) from by omega) (show ((w.2.2 : Nat) : Int) - 18 * H.1 7 4 F.2.2.1 - 700 * H.1 3 1 F.2.1 - 6 * H.1 3 3 F.2.1 ≤ ((w0.2.2 : Nat) : Int) - 18 * H0.1 7 4 F.2.2.1 - 700 * H0.1 3 1 F.2.1 - 6 * H0.1 3 3 F.2.1 + 10 * (0) from by omega) hI hS hE  (Or.inr (Or.inl rfl))
          · skip
            try dsimp only [Option.toList, List.append, List.cons_append, List.nil_append]
            have f112 : 0 ≤ H.1 5 0 q109 ∧ H.1 5 0 q109 ≤ 5999 := hI.v 5 0 q109 t110
            refine J.run 7 rfl ⟨(hI.is hI.top.1), (hI.o 10 1 7 F.1 rfl hI.top.1).1⟩ ?_
            try dsimp only
            try dsimp only
            rw [show (H.2.2.2.2 10 1 F.1) = F.2.2.1 from hI.one.2.2.1 _ (hI.o 10 1 7 F.1 rfl hI.top.1).2]
            have f113 : 0 ≤ H.1 5 3 q109 ∧ H.1 5 3 q109 ≤ 120 := hI.v 5 3 q109 t110
            have f114 : 0 ≤ H.1 5 4 q109 ∧ H.1 5 4 q109 ≤ 31 := hI.v 5 4 q109 t110
            refine J.run 4 rfl ⟨(hI.is t110), (hI.is t110)⟩ ?_
            try dsimp only
            refine J.inv rfl rfl rfl rfl rfl rfl ((jD_w rfl).mpr (hI.is hI.top.2.2.1)) rfl rfl rfl rfl rfl (c_X7_firstOf (height := H.1 5 3 q109) (round := H.1 5 4 q109) hI  (show -2147483648 ≤ (H.1 5 3 q109) ∧ (H.1 5 3 q109) ≤ 2147483647 from ⟨by omega, by omega⟩) (show -2147483648 ≤ (H.1 5 4 q109) ∧ (H.1 5 4 q109) ≤ 2147483647 from ⟨by omega, by omega⟩)) ?_
            rintro v w H ⟨rfl, rfl, hv⟩
            rcases hv with ⟨rfl, r117⟩ | ⟨q115, rfl, t116, r117⟩
            · skip
              try dsimp only [Option.toList, List.append, List.cons_append, List.nil_append]
              refine J.inv rfl rfl rfl rfl rfl rfl ((jD_w rfl).mpr (hI.is (hS _ _ ta0))) rfl rfl rfl rfl rfl (c_X6_learn (a0 := x) (m0 := q109) (row := none) hI (hS _ _ ta0) t110 (fun _ z => nomatch z) ) ?_
              rintro v w119 H118 ⟨T120, hI121, shS122, ehE123, hr124, hr124s, hv⟩
              have hr124' : ((w119.2.1 : Nat) : Int) - 2 * H118.1 7 4 F.2.2.1 - 13 * H118.1 3 1 F.2.1 - H118.1 3 3 F.2.1 ≤ ((w.2.1 : Nat) : Int) - 2 * H.1 7 4 F.2.2.1 - 13 * H.1 3 1 F.2.1 - H.1 3 3 F.2.1 + (0) := hr124
              have hr124s' : ((w119.2.2 : Nat) : Int) - 18 * H118.1 7 4 F.2.2.1 - 700 * H118.1 3 1 F.2.1 - 6 * H118.1 3 3 F.2.1 ≤ ((w.2.2 : Nat) : Int) - 18 * H.1 7 4 F.2.2.1 - 700 * H.1 3 1 F.2.1 - 6 * H.1 3 3 F.2.1 + 10 * (0) := hr124s
              have hE123 : cEx T0 [602, 603, 604, 605, 606, 607, 608, 609, 616, 704, 10209, 10507, 30026, 30027, 30031, 40028, 40029, 40030] H118 H0 := cEx.trans ehE123 hE hS (by decide)
              have hS122 : ∀ k p, T0 k p → T120 k p := fun k p z => shS122 k p (hS k p z)
              have g125 : H118.1 7 4 F.2.2.1 = H.1 7 4 F.2.2.1 := (ehE123.1 7 4 F.2.2.1 hI.top.2.2.1).1 (by decide)
              have g126 : H118.1 3 1 F.2.1 = H.1 3 1 F.2.1 := (ehE123.1 3 1 F.2.1 hI.top.2.1).1 (by decide)
              have g127 : H118.1 3 3 F.2.1 = H.1 3 3 F.2.1 := (ehE123.1 3 3 F.2.1 hI.top.2.1).1 (by decide)
              have g128 : H118.1 5 3 q109 = H.1 5 3 q109 := (ehE123.1 5 3 q109 t110).1 (by decide)
              have g129 : H118.1 5 4 q109 = H.1 5 4 q109 := (ehE123.1 5 4 q109 t110).1 (by decide)
              have t130 : T120 5 q109 := shS122 _ _ t110
              have t131 : T120 10 F.1 := shS122 _ _ hI.top.1
              have t132 : T120 6 x := shS122 _ _ (hS _ _ ta0)
              have t133 : T120 2 e := shS122 _ _ (hS _ _ ta1)
              obtain rfl := hv
              try dsimp only [Option.toList, List.append, List.cons_append, List.nil_append]
              refine J.run0 2 rfl ?_
              try dsimp only
              exact ih (k + 1) T120 w119 H118 _ (show 96 - (k + 1) < _ by omega) (show 0 ≤ (k + 1) ∧ (k + 1) ≤ 96 from ⟨by omega, by omega⟩) (show ((w119.2.1 : Nat) : Int) - 2 * H118.1 7 4 F.2.2.1 - 13 * H118.1 3 1 F.2.1 - H118.1 3 3 F.2.1 ≤ ((w0.2.1 : Nat) : Int) - 2 * H0.1 7 4 F.2.2.1 - 13 * H0.1 3 1 F.2.1 - H0.1 3 3 F.2.1 + (0) from by omega) (show ((w119.2.2 : Nat) : Int) - 18 * H118.1 7 4 F.2.2.1 - 700 * H118.1 3 1 F.2.1 - 6 * H118.1 3 3 F.2.1 ≤ ((w0.2.2 : Nat) : Int) - 18 * H0.1 7 4 F.2.2.1 - 700 * H0.1 3 1 F.2.1 - 6 * H0.1 3 3 F.2.1 + 10 * (0) from by omega) hI121 hS122 hE123  (Or.inr (Or.inr (⟨_, t130, rfl⟩)))
            · skip
              try dsimp only [Option.toList, List.append, List.cons_append, List.nil_append]
              have f134 : 0 ≤ H.1 5 0 q115 ∧ H.1 5 0 q115 ≤ 5999 := hI.v 5 0 q115 t116
              refine J.inv rfl rfl rfl rfl rfl rfl ((jD_w rfl).mpr (hI.is (hS _ _ ta0))) rfl rfl rfl rfl rfl (c_X6_learn (a0 := x) (m0 := q109) (row := some q115) hI (hS _ _ ta0) t110 (fun _ z => by cases z; exact t116) ) ?_
              rintro v w136 H135 ⟨T137, hI138, shS139, ehE140, hr141, hr141s, hv⟩
              have hr141' : ((w136.2.1 : Nat) : Int) - 2 * H135.1 7 4 F.2.2.1 - 13 * H135.1 3 1 F.2.1 - H135.1 3 3 F.2.1 ≤ ((w.2.1 : Nat) : Int) - 2 * H.1 7 4 F.2.2.1 - 13 * H.1 3 1 F.2.1 - H.1 3 3 F.2.1 + (0) := hr141
              have hr141s' : ((w136.2.2 : Nat) : Int) - 18 * H135.1 7 4 F.2.2.1 - 700 * H135.1 3 1 F.2.1 - 6 * H135.1 3 3 F.2.1 ≤ ((w.2.2 : Nat) : Int) - 18 * H.1 7 4 F.2.2.1 - 700 * H.1 3 1 F.2.1 - 6 * H.1 3 3 F.2.1 + 10 * (0) := hr141s
              have hE140 : cEx T0 [602, 603, 604, 605, 606, 607, 608, 609, 616, 704, 10209, 10507, 30026, 30027, 30031, 40028, 40029, 40030] H135 H0 := cEx.trans ehE140 hE hS (by decide)
              have hS139 : ∀ k p, T0 k p → T137 k p := fun k p z => shS139 k p (hS k p z)
              have g142 : H135.1 7 4 F.2.2.1 = H.1 7 4 F.2.2.1 := (ehE140.1 7 4 F.2.2.1 hI.top.2.2.1).1 (by decide)
              have g143 : H135.1 3 1 F.2.1 = H.1 3 1 F.2.1 := (ehE140.1 3 1 F.2.1 hI.top.2.1).1 (by decide)
              have g144 : H135.1 3 3 F.2.1 = H.1 3 3 F.2.1 := (ehE140.1 3 3 F.2.1 hI.top.2.1).1 (by decide)
              have g145 : H135.1 5 3 q109 = H.1 5 3 q109 := (ehE140.1 5 3 q109 t110).1 (by decide)
              have g146 : H135.1 5 4 q109 = H.1 5 4 q109 := (ehE140.1 5 4 q109 t110).1 (by decide)
              have t147 : T137 5 q109 := shS139 _ _ t110
              have t148 : T137 10 F.1 := shS139 _ _ hI.top.1
              have t149 : T137 6 x := shS139 _ _ (hS _ _ ta0)
              have t150 : T137 2 e := shS139 _ _ (hS _ _ ta1)
              obtain rfl := hv
              try dsimp only [Option.toList, List.append, List.cons_append, List.nil_append]
              refine J.run0 2 rfl ?_
              try dsimp only
              exact ih (k + 1) T137 w136 H135 _ (show 96 - (k + 1) < _ by omega) (show 0 ≤ (k + 1) ∧ (k + 1) ≤ 96 from ⟨by omega, by omega⟩) (show ((w136.2.1 : Nat) : Int) - 2 * H135.1 7 4 F.2.2.1 - 13 * H135.1 3 1 F.2.1 - H135.1 3 3 F.2.1 ≤ ((w0.2.1 : Nat) : Int) - 2 * H0.1 7 4 F.2.2.1 - 13 * H0.1 3 1 F.2.1 - H0.1 3 3 F.2.1 + (0) from by omega) (show ((w136.2.2 : Nat) : Int) - 18 * H135.1 7 4 F.2.2.1 - 700 * H135.1 3 1 F.2.1 - 6 * H135.1 3 3 F.2.1 ≤ ((w0.2.2 : Nat) : Int) - 18 * H0.1 7 4 F.2.2.1 - 700 * H0.1 3 1 F.2.1 - 6 * H0.1 3 3 F.2.1 + 10 * (0) from by omega) hI138 hS139 hE140  (Or.inr (Or.inr (⟨_, t147, rfl⟩)))
      · skip
        have f151 : 0 ≤ H.1 4 1 (H.2.2.2.2 6 13 x) ∧ H.1 4 1 (H.2.2.2.2 6 13 x) ≤ 96 := hI.v 4 1 (H.2.2.2.2 6 13 x) (hI.o 6 13 4 x rfl (hS _ _ ta0)).2
        refine J.run 4 rfl ⟨⟨(hI.is (hS _ _ ta0)), (hI.o 6 13 4 x rfl (hS _ _ ta0)).1⟩, (hI.is (hI.o 6 13 4 x rfl (hS _ _ ta0)).2)⟩ ?_
        try dsimp only
        refine J.icmp rfl rfl rfl ⟨(show -2147483648 ≤ k ∧ k ≤ 2147483647 from ⟨by omega, by omega⟩), (show -2147483648 ≤ H.1 4 1 (H.2.2.2.2 6 13 x) ∧ H.1 4 1 (H.2.2.2.2 6 13 x) ≤ 2147483647 from ⟨by omega, by omega⟩)⟩ (fun hc => ?_) (fun hc => ?_)
        · have c152 : H.1 4 1 (H.2.2.2.2 6 13 x) ≤ k := hc
          clear hc
          refine J.run0 2 rfl ?_
          try dsimp only
          refine J.inv rfl rfl rfl rfl rfl rfl ((jD_w rfl).mpr (hI.is (hS _ _ ta0))) rfl rfl rfl rfl rfl (c_X6_restore (a0 := x) (e := e) hI (hS _ _ ta0) (hS _ _ ta1) ) ?_
          rintro v w154 H153 ⟨T155, hI156, shS157, ehE158, hr159, hr159s, hv⟩
          have hr159' : ((w154.2.1 : Nat) : Int) - 2 * H153.1 7 4 F.2.2.1 - 13 * H153.1 3 1 F.2.1 - H153.1 3 3 F.2.1 ≤ ((w.2.1 : Nat) : Int) - 2 * H.1 7 4 F.2.2.1 - 13 * H.1 3 1 F.2.1 - H.1 3 3 F.2.1 + (0) := hr159
          have hr159s' : ((w154.2.2 : Nat) : Int) - 18 * H153.1 7 4 F.2.2.1 - 700 * H153.1 3 1 F.2.1 - 6 * H153.1 3 3 F.2.1 ≤ ((w.2.2 : Nat) : Int) - 18 * H.1 7 4 F.2.2.1 - 700 * H.1 3 1 F.2.1 - 6 * H.1 3 3 F.2.1 + 10 * (0) := hr159s
          have hE158 : cEx T0 [602, 603, 604, 605, 606, 607, 608, 609, 616, 704, 10209, 10507, 30026, 30027, 30031, 40028, 40029, 40030] H153 H0 := cEx.trans ehE158 hE hS (by decide)
          have hS157 : ∀ k p, T0 k p → T155 k p := fun k p z => shS157 k p (hS k p z)
          have g160 : H153.1 7 4 F.2.2.1 = H.1 7 4 F.2.2.1 := (ehE158.1 7 4 F.2.2.1 hI.top.2.2.1).1 (by decide)
          have g161 : H153.1 3 1 F.2.1 = H.1 3 1 F.2.1 := (ehE158.1 3 1 F.2.1 hI.top.2.1).1 (by decide)
          have g162 : H153.1 3 3 F.2.1 = H.1 3 3 F.2.1 := (ehE158.1 3 3 F.2.1 hI.top.2.1).1 (by decide)
          have t163 : T155 5 o4 := shS157 _ _ to4
          have t164 : T155 10 F.1 := shS157 _ _ hI.top.1
          have t165 : T155 6 x := shS157 _ _ (hS _ _ ta0)
          have t166 : T155 2 e := shS157 _ _ (hS _ _ ta1)
          obtain rfl := hv
          try dsimp only [Option.toList, List.append, List.cons_append, List.nil_append]
          refine J.run 2 rfl (hI156.is t166) ?_
          try dsimp only
          try dsimp only
          rcases hn167 : H153.2.1 2 9 e with _ | q168
          · skip
            refine J.run0 4 rfl ?_
            try dsimp only
            refine J.inv rfl rfl rfl rfl rfl rfl ((jD_w rfl).mpr (hI156.is t164)) rfl rfl rfl rfl rfl (c_X10_sendRecorded (x := x) (e := e) hI156 t165 t166 ) ?_
            rintro v w170 H169 ⟨T171, hI172, shS173, ehE174, hr175, hr175s, p176, hv⟩
            have hr175' : ((w170.2.1 : Nat) : Int) - 2 * H169.1 7 4 F.2.2.1 - 13 * H169.1 3 1 F.2.1 - H169.1 3 3 F.2.1 ≤ ((w154.2.1 : Nat) : Int) - 2 * H153.1 7 4 F.2.2.1 - 13 * H153.1 3 1 F.2.1 - H153.1 3 3 F.2.1 + (0) := hr175
            have hr175s' : ((w170.2.2 : Nat) : Int) - 18 * H169.1 7 4 F.2.2.1 - 700 * H169.1 3 1 F.2.1 - 6 * H169.1 3 3 F.2.1 ≤ ((w154.2.2 : Nat) : Int) - 18 * H153.1 7 4 F.2.2.1 - 700 * H153.1 3 1 F.2.1 - 6 * H153.1 3 3 F.2.1 + 10 * (0) := hr175s
            have p176' : H153.1 7 4 F.2.2.1 < 6000 → H153.1 0 1 (H153.2.2.2.2 6 1 x) < 120 → (((w170.2.1 : Nat) : Int) - 2 * H169.1 7 4 F.2.2.1 - 13 * H169.1 3 1 F.2.1 - H169.1 3 3 F.2.1 ≤ ((w154.2.1 : Nat) : Int) - 2 * H153.1 7 4 F.2.2.1 - 13 * H153.1 3 1 F.2.1 - H153.1 3 3 F.2.1 + (-1) ∧ ((w170.2.2 : Nat) : Int) - 18 * H169.1 7 4 F.2.2.1 - 700 * H169.1 3 1 F.2.1 - 6 * H169.1 3 3 F.2.1 ≤ ((w154.2.2 : Nat) : Int) - 18 * H153.1 7 4 F.2.2.1 - 700 * H153.1 3 1 F.2.1 - 6 * H153.1 3 3 F.2.1 + 10 * (-1)) := p176
            have hE174 : cEx T0 [602, 603, 604, 605, 606, 607, 608, 609, 616, 704, 10209, 10507, 30026, 30027, 30031, 40028, 40029, 40030] H169 H0 := cEx.trans ehE174 hE158 hS157 (by decide)
            have hS173 : ∀ k p, T0 k p → T171 k p := fun k p z => shS173 k p (hS157 k p z)
            have g177 : H169.1 3 1 F.2.1 = H153.1 3 1 F.2.1 := (ehE174.1 3 1 F.2.1 hI156.top.2.1).1 (by decide)
            have g178 : H169.1 3 3 F.2.1 = H153.1 3 3 F.2.1 := (ehE174.1 3 3 F.2.1 hI156.top.2.1).1 (by decide)
            have t179 : T171 5 o4 := shS173 _ _ t163
            have t180 : T171 10 F.1 := shS173 _ _ t164
            have t181 : T171 6 x := shS173 _ _ t165
            have t182 : T171 2 e := shS173 _ _ t166
            obtain rfl := hv
            try dsimp only [Option.toList, List.append, List.cons_append, List.nil_append]
            exact J.retv rfl rfl rfl ⟨_, rfl, T171, hI172, hS173, hE174, (show ((w170.2.1 : Nat) : Int) - 2 * H169.1 7 4 F.2.2.1 - 13 * H169.1 3 1 F.2.1 - H169.1 3 3 F.2.1 ≤ ((w0.2.1 : Nat) : Int) - 2 * H0.1 7 4 F.2.2.1 - 13 * H0.1 3 1 F.2.1 - H0.1 3 3 F.2.1 + (0) by omega), (show ((w170.2.2 : Nat) : Int) - 18 * H169.1 7 4 F.2.2.1 - 700 * H169.1 3 1 F.2.1 - 6 * H169.1 3 3 F.2.1 ≤ ((w0.2.2 : Nat) : Int) - 18 * H0.1 7 4 F.2.2.1 - 700 * H0.1 3 1 F.2.1 - 6 * H0.1 3 3 F.2.1 + 10 * (0) by omega), rfl⟩
          · have t183 : T155 5 q168 := hI156.n 2 9 5 e rfl t166 hn167
            have f184 : 0 ≤ H153.1 5 0 q168 ∧ H153.1 5 0 q168 ≤ 5999 := hI156.v 5 0 q168 t183
            refine J.run0 1 rfl ?_
            try dsimp only
            exact J.retv rfl rfl rfl ⟨_, rfl, T155, hI156, hS157, hE158, (show ((w154.2.1 : Nat) : Int) - 2 * H153.1 7 4 F.2.2.1 - 13 * H153.1 3 1 F.2.1 - H153.1 3 3 F.2.1 ≤ ((w0.2.1 : Nat) : Int) - 2 * H0.1 7 4 F.2.2.1 - 13 * H0.1 3 1 F.2.1 - H0.1 3 3 F.2.1 + (0) by omega), (show ((w154.2.2 : Nat) : Int) - 18 * H153.1 7 4 F.2.2.1 - 700 * H153.1 3 1 F.2.1 - 6 * H153.1 3 3 F.2.1 ≤ ((w0.2.2 : Nat) : Int) - 18 * H0.1 7 4 F.2.2.1 - 700 * H0.1 3 1 F.2.1 - 6 * H0.1 3 3 F.2.1 + 10 * (0) by omega), rfl⟩
        · have c185 : ¬ (H.1 4 1 (H.2.2.2.2 6 13 x) ≤ k) := hc
          clear hc
          refine J.run 3 rfl ⟨(hI.is (hS _ _ ta0)), (hI.o 6 13 4 x rfl (hS _ _ ta0)).1⟩ ?_
          try dsimp only
          refine J.inv rfl rfl rfl rfl rfl rfl ((jD_w rfl).mpr (hI.is (hI.o 6 13 4 x rfl (hS _ _ ta0)).2)) rfl rfl rfl rfl rfl (c_X4_sentAt (a0 := (H.2.2.2.2 6 13 x)) (i := k) hI (hI.o 6 13 4 x rfl (hS _ _ ta0)).2 (show -2147483648 ≤ k ∧ k ≤ 2147483647 from ⟨by omega, by omega⟩)) ?_
          rintro v w H ⟨rfl, rfl, hv⟩
          rcases hv with ⟨rfl, r188⟩ | ⟨q186, rfl, t187, r188⟩
          · skip
            try dsimp only [Option.toList, List.append, List.cons_append, List.nil_append]
            refine J.run0 5 rfl ?_
            try dsimp only
            exact ih (k + 1) T w H _ (show 96 - (k + 1) < _ by omega) (show 0 ≤ (k + 1) ∧ (k + 1) ≤ 96 from ⟨by omega, by omega⟩) (show ((w.2.1 : Nat) : Int) - 2 * H.1 7 4 F.2.2.1 - 13 * H.1 3 1 F.2.1 - H.1 3 3 F.2.1 ≤ ((w0.2.1 : Nat) : Int) - 2 * H0.1 7 4 F.2.2.1 - 13 * H0.1 3 1 F.2.1 - H0.1 3 3 F.2.1 + (0) from by omega) (show ((w.2.2 : Nat) : Int) - 18 * H.1 7 4 F.2.2.1 - 700 * H.1 3 1 F.2.1 - 6 * H.1 3 3 F.2.1 ≤ ((w0.2.2 : Nat) : Int) - 18 * H0.1 7 4 F.2.2.1 - 700 * H0.1 3 1 F.2.1 - 6 * H0.1 3 3 F.2.1 + 10 * (0) from by omega) hI hS hE  (Or.inr (Or.inl rfl))
          · skip
            try dsimp only [Option.toList, List.append, List.cons_append, List.nil_append]
            have f189 : 0 ≤ H.1 5 0 q186 ∧ H.1 5 0 q186 ≤ 5999 := hI.v 5 0 q186 t187
            refine J.run 7 rfl ⟨(hI.is hI.top.1), (hI.o 10 1 7 F.1 rfl hI.top.1).1⟩ ?_
            try dsimp only
            try dsimp only
            rw [show (H.2.2.2.2 10 1 F.1) = F.2.2.1 from hI.one.2.2.1 _ (hI.o 10 1 7 F.1 rfl hI.top.1).2]
            have f190 : 0 ≤ H.1 5 3 q186 ∧ H.1 5 3 q186 ≤ 120 := hI.v 5 3 q186 t187
            have f191 : 0 ≤ H.1 5 4 q186 ∧ H.1 5 4 q186 ≤ 31 := hI.v 5 4 q186 t187
            refine J.run 4 rfl ⟨(hI.is t187), (hI.is t187)⟩ ?_
            try dsimp only
            refine J.inv rfl rfl rfl rfl rfl rfl ((jD_w rfl).mpr (hI.is hI.top.2.2.1)) rfl rfl rfl rfl rfl (c_X7_firstOf (height := H.1 5 3 q186) (round := H.1 5 4 q186) hI  (show -2147483648 ≤ (H.1 5 3 q186) ∧ (H.1 5 3 q186) ≤ 2147483647 from ⟨by omega, by omega⟩) (show -2147483648 ≤ (H.1 5 4 q186) ∧ (H.1 5 4 q186) ≤ 2147483647 from ⟨by omega, by omega⟩)) ?_
            rintro v w H ⟨rfl, rfl, hv⟩
            rcases hv with ⟨rfl, r194⟩ | ⟨q192, rfl, t193, r194⟩
            · skip
              try dsimp only [Option.toList, List.append, List.cons_append, List.nil_append]
              refine J.inv rfl rfl rfl rfl rfl rfl ((jD_w rfl).mpr (hI.is (hS _ _ ta0))) rfl rfl rfl rfl rfl (c_X6_learn (a0 := x) (m0 := q186) (row := none) hI (hS _ _ ta0) t187 (fun _ z => nomatch z) ) ?_
              rintro v w196 H195 ⟨T197, hI198, shS199, ehE200, hr201, hr201s, hv⟩
              have hr201' : ((w196.2.1 : Nat) : Int) - 2 * H195.1 7 4 F.2.2.1 - 13 * H195.1 3 1 F.2.1 - H195.1 3 3 F.2.1 ≤ ((w.2.1 : Nat) : Int) - 2 * H.1 7 4 F.2.2.1 - 13 * H.1 3 1 F.2.1 - H.1 3 3 F.2.1 + (0) := hr201
              have hr201s' : ((w196.2.2 : Nat) : Int) - 18 * H195.1 7 4 F.2.2.1 - 700 * H195.1 3 1 F.2.1 - 6 * H195.1 3 3 F.2.1 ≤ ((w.2.2 : Nat) : Int) - 18 * H.1 7 4 F.2.2.1 - 700 * H.1 3 1 F.2.1 - 6 * H.1 3 3 F.2.1 + 10 * (0) := hr201s
              have hE200 : cEx T0 [602, 603, 604, 605, 606, 607, 608, 609, 616, 704, 10209, 10507, 30026, 30027, 30031, 40028, 40029, 40030] H195 H0 := cEx.trans ehE200 hE hS (by decide)
              have hS199 : ∀ k p, T0 k p → T197 k p := fun k p z => shS199 k p (hS k p z)
              have g202 : H195.1 7 4 F.2.2.1 = H.1 7 4 F.2.2.1 := (ehE200.1 7 4 F.2.2.1 hI.top.2.2.1).1 (by decide)
              have g203 : H195.1 3 1 F.2.1 = H.1 3 1 F.2.1 := (ehE200.1 3 1 F.2.1 hI.top.2.1).1 (by decide)
              have g204 : H195.1 3 3 F.2.1 = H.1 3 3 F.2.1 := (ehE200.1 3 3 F.2.1 hI.top.2.1).1 (by decide)
              have g205 : H195.1 5 3 q186 = H.1 5 3 q186 := (ehE200.1 5 3 q186 t187).1 (by decide)
              have g206 : H195.1 5 4 q186 = H.1 5 4 q186 := (ehE200.1 5 4 q186 t187).1 (by decide)
              have t207 : T197 5 q186 := shS199 _ _ t187
              have t208 : T197 10 F.1 := shS199 _ _ hI.top.1
              have t209 : T197 6 x := shS199 _ _ (hS _ _ ta0)
              have t210 : T197 2 e := shS199 _ _ (hS _ _ ta1)
              obtain rfl := hv
              try dsimp only [Option.toList, List.append, List.cons_append, List.nil_append]
              refine J.run0 2 rfl ?_
              try dsimp only
              exact ih (k + 1) T197 w196 H195 _ (show 96 - (k + 1) < _ by omega) (show 0 ≤ (k + 1) ∧ (k + 1) ≤ 96 from ⟨by omega, by omega⟩) (show ((w196.2.1 : Nat) : Int) - 2 * H195.1 7 4 F.2.2.1 - 13 * H195.1 3 1 F.2.1 - H195.1 3 3 F.2.1 ≤ ((w0.2.1 : Nat) : Int) - 2 * H0.1 7 4 F.2.2.1 - 13 * H0.1 3 1 F.2.1 - H0.1 3 3 F.2.1 + (0) from by omega) (show ((w196.2.2 : Nat) : Int) - 18 * H195.1 7 4 F.2.2.1 - 700 * H195.1 3 1 F.2.1 - 6 * H195.1 3 3 F.2.1 ≤ ((w0.2.2 : Nat) : Int) - 18 * H0.1 7 4 F.2.2.1 - 700 * H0.1 3 1 F.2.1 - 6 * H0.1 3 3 F.2.1 + 10 * (0) from by omega) hI198 hS199 hE200  (Or.inr (Or.inr (⟨_, t207, rfl⟩)))
            · skip
              try dsimp only [Option.toList, List.append, List.cons_append, List.nil_append]
              have f211 : 0 ≤ H.1 5 0 q192 ∧ H.1 5 0 q192 ≤ 5999 := hI.v 5 0 q192 t193
              refine J.inv rfl rfl rfl rfl rfl rfl ((jD_w rfl).mpr (hI.is (hS _ _ ta0))) rfl rfl rfl rfl rfl (c_X6_learn (a0 := x) (m0 := q186) (row := some q192) hI (hS _ _ ta0) t187 (fun _ z => by cases z; exact t193) ) ?_
              rintro v w213 H212 ⟨T214, hI215, shS216, ehE217, hr218, hr218s, hv⟩
              have hr218' : ((w213.2.1 : Nat) : Int) - 2 * H212.1 7 4 F.2.2.1 - 13 * H212.1 3 1 F.2.1 - H212.1 3 3 F.2.1 ≤ ((w.2.1 : Nat) : Int) - 2 * H.1 7 4 F.2.2.1 - 13 * H.1 3 1 F.2.1 - H.1 3 3 F.2.1 + (0) := hr218
              have hr218s' : ((w213.2.2 : Nat) : Int) - 18 * H212.1 7 4 F.2.2.1 - 700 * H212.1 3 1 F.2.1 - 6 * H212.1 3 3 F.2.1 ≤ ((w.2.2 : Nat) : Int) - 18 * H.1 7 4 F.2.2.1 - 700 * H.1 3 1 F.2.1 - 6 * H.1 3 3 F.2.1 + 10 * (0) := hr218s
              have hE217 : cEx T0 [602, 603, 604, 605, 606, 607, 608, 609, 616, 704, 10209, 10507, 30026, 30027, 30031, 40028, 40029, 40030] H212 H0 := cEx.trans ehE217 hE hS (by decide)
              have hS216 : ∀ k p, T0 k p → T214 k p := fun k p z => shS216 k p (hS k p z)
              have g219 : H212.1 7 4 F.2.2.1 = H.1 7 4 F.2.2.1 := (ehE217.1 7 4 F.2.2.1 hI.top.2.2.1).1 (by decide)
              have g220 : H212.1 3 1 F.2.1 = H.1 3 1 F.2.1 := (ehE217.1 3 1 F.2.1 hI.top.2.1).1 (by decide)
              have g221 : H212.1 3 3 F.2.1 = H.1 3 3 F.2.1 := (ehE217.1 3 3 F.2.1 hI.top.2.1).1 (by decide)
              have g222 : H212.1 5 3 q186 = H.1 5 3 q186 := (ehE217.1 5 3 q186 t187).1 (by decide)
              have g223 : H212.1 5 4 q186 = H.1 5 4 q186 := (ehE217.1 5 4 q186 t187).1 (by decide)
              have t224 : T214 5 q186 := shS216 _ _ t187
              have t225 : T214 10 F.1 := shS216 _ _ hI.top.1
              have t226 : T214 6 x := shS216 _ _ (hS _ _ ta0)
              have t227 : T214 2 e := shS216 _ _ (hS _ _ ta1)
              obtain rfl := hv
              try dsimp only [Option.toList, List.append, List.cons_append, List.nil_append]
              refine J.run0 2 rfl ?_
              try dsimp only
              exact ih (k + 1) T214 w213 H212 _ (show 96 - (k + 1) < _ by omega) (show 0 ≤ (k + 1) ∧ (k + 1) ≤ 96 from ⟨by omega, by omega⟩) (show ((w213.2.1 : Nat) : Int) - 2 * H212.1 7 4 F.2.2.1 - 13 * H212.1 3 1 F.2.1 - H212.1 3 3 F.2.1 ≤ ((w0.2.1 : Nat) : Int) - 2 * H0.1 7 4 F.2.2.1 - 13 * H0.1 3 1 F.2.1 - H0.1 3 3 F.2.1 + (0) from by omega) (show ((w213.2.2 : Nat) : Int) - 18 * H212.1 7 4 F.2.2.1 - 700 * H212.1 3 1 F.2.1 - 6 * H212.1 3 3 F.2.1 ≤ ((w0.2.2 : Nat) : Int) - 18 * H0.1 7 4 F.2.2.1 - 700 * H0.1 3 1 F.2.1 - 6 * H0.1 3 3 F.2.1 + 10 * (0) from by omega) hI215 hS216 hE217  (Or.inr (Or.inr (⟨_, t224, rfl⟩)))
set_option maxRecDepth 20000 in
set_option maxHeartbeats 8000000 in
theorem c_X10_resume {x : Nat} {e : Nat} {T : cP} {w : jW} {H : jH} (hI : cJ F T w H) (ta0 : T 6 x) (ta1 : T 2 e)  : J false (d + 3) 99 w (0, jargs 0 [.inr (some (10, F.1)), .inr (some (6, x)), .inr (some (2, e))], [], H) (jN fun v w' H' => ∃ T', cJ F T' w' H' ∧ (∀ k p, T k p → T' k p) ∧ cEx T [602, 603, 604, 605, 606, 607, 608, 609, 616, 704, 10209, 10507, 30026, 30027, 30031, 40028, 40029, 40030] H' H ∧ ((w'.2.1 : Nat) : Int) - 2 * H'.1 7 4 F.2.2.1 - 13 * H'.1 3 1 F.2.1 - H'.1 3 3 F.2.1 ≤ ((w.2.1 : Nat) : Int) - 2 * H.1 7 4 F.2.2.1 - 13 * H.1 3 1 F.2.1 - H.1 3 3 F.2.1 + (0) ∧ ((w'.2.2 : Nat) : Int) - 18 * H'.1 7 4 F.2.2.1 - 700 * H'.1 3 1 F.2.1 - 6 * H'.1 3 3 F.2.1 ≤ ((w.2.2 : Nat) : Int) - 18 * H.1 7 4 F.2.2.1 - 700 * H.1 3 1 F.2.1 - 6 * H.1 3 3 F.2.1 + 10 * (0) ∧ v = none) := by
  have hE : cEx T [602, 603, 604, 605, 606, 607, 608, 609, 616, 704, 10209, 10507, 30026, 30027, 30031, 40028, 40029, 40030] H H := cEx.refl
  have hS : ∀ k p, T k p → T k p := fun _ _ z => z
  refine J.run0 2 rfl ?_
  try dsimp only
  exact (c_X10_resume_l0 (x := x) (e := e) hI ta0 ta1  ((96 - ((0 : Int)) : Int).toNat + 1)) ((0 : Int)) T w H _ (show 96 - ((0 : Int)) < _ by omega) (show 0 ≤ ((0 : Int)) ∧ ((0 : Int)) ≤ 96 from ⟨by omega, by omega⟩) (show ((w.2.1 : Nat) : Int) - 2 * H.1 7 4 F.2.2.1 - 13 * H.1 3 1 F.2.1 - H.1 3 3 F.2.1 ≤ ((w.2.1 : Nat) : Int) - 2 * H.1 7 4 F.2.2.1 - 13 * H.1 3 1 F.2.1 - H.1 3 3 F.2.1 + (0) from by omega) (show ((w.2.2 : Nat) : Int) - 18 * H.1 7 4 F.2.2.1 - 700 * H.1 3 1 F.2.1 - 6 * H.1 3 3 F.2.1 ≤ ((w.2.2 : Nat) : Int) - 18 * H.1 7 4 F.2.2.1 - 700 * H.1 3 1 F.2.1 - 6 * H.1 3 3 F.2.1 + 10 * (0) from by omega) hI hS hE  (Or.inl rfl)
end
