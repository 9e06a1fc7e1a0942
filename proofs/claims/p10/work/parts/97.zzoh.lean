-- M: X10_doAll
section
variable {d : Nat} {F : cG} 
set_option maxRecDepth 20000 in
set_option maxHeartbeats 8000000 in
theorem c_X10_doAll_l0 {x : Nat} {T0 : cP} {w0 : jW} {H0 : jH} (hI0 : cJ F T0 w0 H0) (ta0 : T0 6 x)  : ∀ (m : Nat), (∀ (dn k : Int) (T : cP) (w : jW) (H : jH) (lv : jL), 100000 - k < (m : Int) → (0 ≤ dn ∧ dn ≤ 1) → (0 ≤ k ∧ k ≤ 100000) → (((w.2.1 : Nat) : Int) - 2 * H.1 7 4 F.2.2.1 - 13 * H.1 3 1 F.2.1 - H.1 3 3 F.2.1 ≤ ((w0.2.1 : Nat) : Int) - 2 * H0.1 7 4 F.2.2.1 - 13 * H0.1 3 1 F.2.1 - H0.1 3 3 F.2.1 + (H.1 6 11 x)) → (((w.2.2 : Nat) : Int) - 18 * H.1 7 4 F.2.2.1 - 700 * H.1 3 1 F.2.1 - 6 * H.1 3 3 F.2.1 ≤ ((w0.2.2 : Nat) : Int) - 18 * H0.1 7 4 F.2.2.1 - 700 * H0.1 3 1 F.2.1 - 6 * H0.1 3 3 F.2.1 + 10 * (H.1 6 11 x)) → cJ F T w H → (∀ k p, T0 k p → T k p) → cEx T0 [301, 307, 401, 402, 602, 603, 604, 605, 606, 607, 608, 609, 611, 612, 616, 704, 804, 808, 809, 811, 813, 10209, 10507, 20601, 30023, 30024, 30026, 30027, 30031, 30032, 30033, 30034, 30035, 30036, 30037, 30038, 30039, 30043, 40021, 40025, 40028, 40029, 40030] H H0 → ((lv = [(3, .inl k), (2, .inl dn), (0, .inr (some (10, F.1))), (1, .inr (some (6, x)))])) → J false (d + 5) 89 w (4, lv, [], H) (jN fun v w' H' => ∃ T', cJ F T' w' H' ∧ (∀ k p, T0 k p → T' k p) ∧ cEx T0 [301, 307, 401, 402, 602, 603, 604, 605, 606, 607, 608, 609, 611, 612, 616, 704, 804, 808, 809, 811, 813, 10209, 10507, 20601, 30023, 30024, 30026, 30027, 30031, 30032, 30033, 30034, 30035, 30036, 30037, 30038, 30039, 30043, 40021, 40025, 40028, 40029, 40030] H' H0 ∧ ((w'.2.1 : Nat) : Int) - 2 * H'.1 7 4 F.2.2.1 - 13 * H'.1 3 1 F.2.1 - H'.1 3 3 F.2.1 ≤ ((w0.2.1 : Nat) : Int) - 2 * H0.1 7 4 F.2.2.1 - 13 * H0.1 3 1 F.2.1 - H0.1 3 3 F.2.1 + (1) ∧ ((w'.2.2 : Nat) : Int) - 18 * H'.1 7 4 F.2.2.1 - 700 * H'.1 3 1 F.2.1 - 6 * H'.1 3 3 F.2.1 ≤ ((w0.2.2 : Nat) : Int) - 18 * H0.1 7 4 F.2.2.1 - 700 * H0.1 3 1 F.2.1 - 6 * H0.1 3 3 F.2.1 + 10 * (1) ∧ v = none)) := by
  intro m
  induction m with
  | zero =>
    skip
    · intro dn k T w H lv hm hi0 hi1 hi2 hi3 hI hS hE hlv
      exfalso
      omega
  | succ m ih =>
    skip
    · intro dn k T w H lv hm hi0 hi1 hi2 hi3 hI hS hE hlv
      rcases hlv with rfl
      refine J.run0 1 rfl ?_
      try dsimp only
      refine J.ifc rfl rfl rfl (show -2147483648 ≤ dn ∧ dn ≤ 2147483647 from ⟨by omega, by omega⟩) (fun hc => ?_) (fun hc => ?_)
      · have c1 : dn = (0 : Int) := hc
        clear hc
        have hd : 0 ≤ H.1 6 11 x ∧ H.1 6 11 x ≤ 1 := hI.v 6 11 x (hS _ _ ta0)
        exact J.retv rfl rfl rfl ⟨_, rfl, T, hI, hS, hE, (show ((w.2.1 : Nat) : Int) - 2 * H.1 7 4 F.2.2.1 - 13 * H.1 3 1 F.2.1 - H.1 3 3 F.2.1 ≤ ((w0.2.1 : Nat) : Int) - 2 * H0.1 7 4 F.2.2.1 - 13 * H0.1 3 1 F.2.1 - H0.1 3 3 F.2.1 + (1) by omega), (show ((w.2.2 : Nat) : Int) - 18 * H.1 7 4 F.2.2.1 - 700 * H.1 3 1 F.2.1 - 6 * H.1 3 3 F.2.1 ≤ ((w0.2.2 : Nat) : Int) - 18 * H0.1 7 4 F.2.2.1 - 700 * H0.1 3 1 F.2.1 - 6 * H0.1 3 3 F.2.1 + 10 * (1) by omega), rfl⟩
      · have c2 : ¬ (dn = (0 : Int)) := hc
        clear hc
        refine J.run0 2 rfl ?_
        try dsimp only
        refine J.icmp rfl rfl rfl ⟨(show -2147483648 ≤ k ∧ k ≤ 2147483647 from ⟨by omega, by omega⟩), (show -2147483648 ≤ (100000 : Int) ∧ (100000 : Int) ≤ 2147483647 from ⟨by omega, by omega⟩)⟩ (fun hc => ?_) (fun hc => ?_)
        · have c3 : (100000 : Int) ≤ k := hc
          clear hc
          have hd : 0 ≤ H.1 6 11 x ∧ H.1 6 11 x ≤ 1 := hI.v 6 11 x (hS _ _ ta0)
          exact J.retv rfl rfl rfl ⟨_, rfl, T, hI, hS, hE, (show ((w.2.1 : Nat) : Int) - 2 * H.1 7 4 F.2.2.1 - 13 * H.1 3 1 F.2.1 - H.1 3 3 F.2.1 ≤ ((w0.2.1 : Nat) : Int) - 2 * H0.1 7 4 F.2.2.1 - 13 * H0.1 3 1 F.2.1 - H0.1 3 3 F.2.1 + (1) by omega), (show ((w.2.2 : Nat) : Int) - 18 * H.1 7 4 F.2.2.1 - 700 * H.1 3 1 F.2.1 - 6 * H.1 3 3 F.2.1 ≤ ((w0.2.2 : Nat) : Int) - 18 * H0.1 7 4 F.2.2.1 - 700 * H0.1 3 1 F.2.1 - 6 * H0.1 3 3 F.2.1 + 10 * (1) by omega), rfl⟩
        · have c4 : ¬ ((100000 : Int) ≤ k) := hc
          clear hc
          refine J.run0 1 rfl ?_
          try dsimp only
          refine J.inv rfl rfl rfl rfl rfl rfl ((jD_w rfl).mpr (hI.is (hS _ _ ta0))) rfl rfl rfl rfl rfl (c_X6_acts (a0 := x) hI (hS _ _ ta0) ) ?_
          rintro v w H ⟨rfl, rfl, hv⟩
          obtain ⟨x5, rfl, r6⟩ := hv
          have r6' : (x5 = 0 ∨ x5 = 1) ∧ (x5 = 1 → H.1 6 11 x = 0) ∧ (x5 = 1 → H.1 0 1 (H.2.2.2.2 6 1 x) < 120) := r6
          try dsimp only [Option.toList, List.append, List.cons_append, List.nil_append]
          refine J.ifc rfl rfl rfl (show -2147483648 ≤ x5 ∧ x5 ≤ 2147483647 from ⟨by omega, by omega⟩) (fun hc => ?_) (fun hc => ?_)
          · have c7 : x5 = (0 : Int) := hc
            clear hc
            have hd : 0 ≤ H.1 6 11 x ∧ H.1 6 11 x ≤ 1 := hI.v 6 11 x (hS _ _ ta0)
            exact J.retv rfl rfl rfl ⟨_, rfl, T, hI, hS, hE, (show ((w.2.1 : Nat) : Int) - 2 * H.1 7 4 F.2.2.1 - 13 * H.1 3 1 F.2.1 - H.1 3 3 F.2.1 ≤ ((w0.2.1 : Nat) : Int) - 2 * H0.1 7 4 F.2.2.1 - 13 * H0.1 3 1 F.2.1 - H0.1 3 3 F.2.1 + (1) by omega), (show ((w.2.2 : Nat) : Int) - 18 * H.1 7 4 F.2.2.1 - 700 * H.1 3 1 F.2.1 - 6 * H.1 3 3 F.2.1 ≤ ((w0.2.2 : Nat) : Int) - 18 * H0.1 7 4 F.2.2.1 - 700 * H0.1 3 1 F.2.1 - 6 * H0.1 3 3 F.2.1 + 10 * (1) by omega), rfl⟩
          · have c8 : ¬ (x5 = (0 : Int)) := hc
            clear hc
            refine J.run0 2 rfl ?_
            try dsimp only
            refine J.inv rfl rfl rfl rfl rfl rfl ((jD_w rfl).mpr (hI.is hI.top.1)) rfl rfl rfl rfl rfl (c_X10_propose (x := x) hI (hS _ _ ta0) (show H.1 6 11 x = 0 from by omega) (show H.1 0 1 (H.2.2.2.2 6 1 x) < 120 from by omega)) ?_
            rintro v w10 H9 ⟨T11, hI12, shS13, ehE14, hr15, hr15s, hv⟩
            have hr15' : ((w10.2.1 : Nat) : Int) - 2 * H9.1 7 4 F.2.2.1 - 13 * H9.1 3 1 F.2.1 - H9.1 3 3 F.2.1 ≤ ((w.2.1 : Nat) : Int) - 2 * H.1 7 4 F.2.2.1 - 13 * H.1 3 1 F.2.1 - H.1 3 3 F.2.1 + (H9.1 6 11 x) := hr15
            have hr15s' : ((w10.2.2 : Nat) : Int) - 18 * H9.1 7 4 F.2.2.1 - 700 * H9.1 3 1 F.2.1 - 6 * H9.1 3 3 F.2.1 ≤ ((w.2.2 : Nat) : Int) - 18 * H.1 7 4 F.2.2.1 - 700 * H.1 3 1 F.2.1 - 6 * H.1 3 3 F.2.1 + 10 * (H9.1 6 11 x) := hr15s
            have hE14 : cEx T0 [301, 307, 401, 402, 602, 603, 604, 605, 606, 607, 608, 609, 611, 612, 616, 704, 804, 808, 809, 811, 813, 10209, 10507, 20601, 30023, 30024, 30026, 30027, 30031, 30032, 30033, 30034, 30035, 30036, 30037, 30038, 30039, 30043, 40021, 40025, 40028, 40029, 40030] H9 H0 := cEx.trans ehE14 hE hS (by decide)
            have hS13 : ∀ k p, T0 k p → T11 k p := fun k p z => shS13 k p (hS k p z)
            have g16 : H9.1 3 3 F.2.1 = H.1 3 3 F.2.1 := (ehE14.1 3 3 F.2.1 hI.top.2.1).1 (by decide)
            have t17 : T11 10 F.1 := shS13 _ _ hI.top.1
            have t18 : T11 6 x := shS13 _ _ (hS _ _ ta0)
            obtain ⟨x19, rfl, r20⟩ := hv
            have r20' : (x19 = 0 ∨ x19 = 1) ∧ (x19 = 0 → H9.1 6 11 x = 0) ∧ (x19 = 0 → H9.1 0 1 (H9.2.2.2.2 6 1 x) < 120) := r20
            try dsimp only [Option.toList, List.append, List.cons_append, List.nil_append]
            refine J.ifc rfl rfl rfl (show -2147483648 ≤ x19 ∧ x19 ≤ 2147483647 from ⟨by omega, by omega⟩) (fun hc => ?_) (fun hc => ?_)
            · have c21 : ¬ (x19 = (0 : Int)) := hc
              clear hc
              refine J.run0 5 rfl ?_
              try dsimp only
              exact ih ((1 : Int)) (k + 1) T11 w10 H9 _ (show 100000 - (k + 1) < _ by omega) (show 0 ≤ ((1 : Int)) ∧ ((1 : Int)) ≤ 1 from ⟨by omega, by omega⟩) (show 0 ≤ (k + 1) ∧ (k + 1) ≤ 100000 from ⟨by omega, by omega⟩) (show ((w10.2.1 : Nat) : Int) - 2 * H9.1 7 4 F.2.2.1 - 13 * H9.1 3 1 F.2.1 - H9.1 3 3 F.2.1 ≤ ((w0.2.1 : Nat) : Int) - 2 * H0.1 7 4 F.2.2.1 - 13 * H0.1 3 1 F.2.1 - H0.1 3 3 F.2.1 + (H9.1 6 11 x) from by omega) (show ((w10.2.2 : Nat) : Int) - 18 * H9.1 7 4 F.2.2.1 - 700 * H9.1 3 1 F.2.1 - 6 * H9.1 3 3 F.2.1 ≤ ((w0.2.2 : Nat) : Int) - 18 * H0.1 7 4 F.2.2.1 - 700 * H0.1 3 1 F.2.1 - 6 * H0.1 3 3 F.2.1 + 10 * (H9.1 6 11 x) from by omega) hI12 hS13 hE14  rfl
            · have c22 : ¬ (¬ (x19 = (0 : Int))) := hc
              clear hc
              refine J.run0 2 rfl ?_
              try dsimp only
              refine J.inv rfl rfl rfl rfl rfl rfl ((jD_w rfl).mpr (hI12.is t17)) rfl rfl rfl rfl rfl (c_X10_decide (x := x) hI12 t18 (show H9.1 6 11 x = 0 from by omega) (show H9.1 0 1 (H9.2.2.2.2 6 1 x) < 120 from by omega)) ?_
              rintro v w24 H23 ⟨T25, hI26, shS27, ehE28, hr29, hr29s, hv⟩
              have hr29' : ((w24.2.1 : Nat) : Int) - 2 * H23.1 7 4 F.2.2.1 - 13 * H23.1 3 1 F.2.1 - H23.1 3 3 F.2.1 ≤ ((w10.2.1 : Nat) : Int) - 2 * H9.1 7 4 F.2.2.1 - 13 * H9.1 3 1 F.2.1 - H9.1 3 3 F.2.1 + (H23.1 6 11 x) := hr29
              have hr29s' : ((w24.2.2 : Nat) : Int) - 18 * H23.1 7 4 F.2.2.1 - 700 * H23.1 3 1 F.2.1 - 6 * H23.1 3 3 F.2.1 ≤ ((w10.2.2 : Nat) : Int) - 18 * H9.1 7 4 F.2.2.1 - 700 * H9.1 3 1 F.2.1 - 6 * H9.1 3 3 F.2.1 + 10 * (H23.1 6 11 x) := hr29s
              have hE28 : cEx T0 [301, 307, 401, 402, 602, 603, 604, 605, 606, 607, 608, 609, 611, 612, 616, 704, 804, 808, 809, 811, 813, 10209, 10507, 20601, 30023, 30024, 30026, 30027, 30031, 30032, 30033, 30034, 30035, 30036, 30037, 30038, 30039, 30043, 40021, 40025, 40028, 40029, 40030] H23 H0 := cEx.trans ehE28 hE14 hS13 (by decide)
              have hS27 : ∀ k p, T0 k p → T25 k p := fun k p z => shS27 k p (hS13 k p z)
              have g30 : H23.1 3 3 F.2.1 = H9.1 3 3 F.2.1 := (ehE28.1 3 3 F.2.1 hI12.top.2.1).1 (by decide)
              have g31 : H23.1 7 4 F.2.2.1 = H9.1 7 4 F.2.2.1 := (ehE28.1 7 4 F.2.2.1 hI12.top.2.2.1).1 (by decide)
              have g32 : H23.1 3 1 F.2.1 = H9.1 3 1 F.2.1 := (ehE28.1 3 1 F.2.1 hI12.top.2.1).1 (by decide)
              have g33 : H23.1 6 11 x = H9.1 6 11 x := (ehE28.1 6 11 x t18).1 (by decide)
              have t34 : T25 10 F.1 := shS27 _ _ t17
              have t35 : T25 6 x := shS27 _ _ t18
              obtain ⟨x36, rfl, r37⟩ := hv
              have r37' : (x36 = 0 ∨ x36 = 1) ∧ (x36 = 0 → H23.1 6 11 x = 0) ∧ (x36 = 0 → H23.1 0 1 (H23.2.2.2.2 6 1 x) < 120) := r37
              try dsimp only [Option.toList, List.append, List.cons_append, List.nil_append]
              refine J.ifc rfl rfl rfl (show -2147483648 ≤ x36 ∧ x36 ≤ 2147483647 from ⟨by omega, by omega⟩) (fun hc => ?_) (fun hc => ?_)
              · have c38 : ¬ (x36 = (0 : Int)) := hc
                clear hc
                refine J.run0 5 rfl ?_
                try dsimp only
                exact ih ((1 : Int)) (k + 1) T25 w24 H23 _ (show 100000 - (k + 1) < _ by omega) (show 0 ≤ ((1 : Int)) ∧ ((1 : Int)) ≤ 1 from ⟨by omega, by omega⟩) (show 0 ≤ (k + 1) ∧ (k + 1) ≤ 100000 from ⟨by omega, by omega⟩) (show ((w24.2.1 : Nat) : Int) - 2 * H23.1 7 4 F.2.2.1 - 13 * H23.1 3 1 F.2.1 - H23.1 3 3 F.2.1 ≤ ((w0.2.1 : Nat) : Int) - 2 * H0.1 7 4 F.2.2.1 - 13 * H0.1 3 1 F.2.1 - H0.1 3 3 F.2.1 + (H23.1 6 11 x) from by omega) (show ((w24.2.2 : Nat) : Int) - 18 * H23.1 7 4 F.2.2.1 - 700 * H23.1 3 1 F.2.1 - 6 * H23.1 3 3 F.2.1 ≤ ((w0.2.2 : Nat) : Int) - 18 * H0.1 7 4 F.2.2.1 - 700 * H0.1 3 1 F.2.1 - 6 * H0.1 3 3 F.2.1 + 10 * (H23.1 6 11 x) from by omega) hI26 hS27 hE28  rfl
              · have c39 : ¬ (¬ (x36 = (0 : Int))) := hc
                clear hc
                refine J.run0 2 rfl ?_
                try dsimp only
                refine J.inv rfl rfl rfl rfl rfl rfl ((jD_w rfl).mpr (hI26.is t34)) rfl rfl rfl rfl rfl (c_X10_passOn (x := x) hI26 t35 (show H23.1 6 11 x = 0 from by omega) (show H23.1 0 1 (H23.2.2.2.2 6 1 x) < 120 from by omega)) ?_
                rintro v w41 H40 ⟨T42, hI43, shS44, ehE45, hr46, hr46s, hv⟩
                have hr46' : ((w41.2.1 : Nat) : Int) - 2 * H40.1 7 4 F.2.2.1 - 13 * H40.1 3 1 F.2.1 - H40.1 3 3 F.2.1 ≤ ((w24.2.1 : Nat) : Int) - 2 * H23.1 7 4 F.2.2.1 - 13 * H23.1 3 1 F.2.1 - H23.1 3 3 F.2.1 + (H40.1 6 11 x) := hr46
                have hr46s' : ((w41.2.2 : Nat) : Int) - 18 * H40.1 7 4 F.2.2.1 - 700 * H40.1 3 1 F.2.1 - 6 * H40.1 3 3 F.2.1 ≤ ((w24.2.2 : Nat) : Int) - 18 * H23.1 7 4 F.2.2.1 - 700 * H23.1 3 1 F.2.1 - 6 * H23.1 3 3 F.2.1 + 10 * (H40.1 6 11 x) := hr46s
                have hE45 : cEx T0 [301, 307, 401, 402, 602, 603, 604, 605, 606, 607, 608, 609, 611, 612, 616, 704, 804, 808, 809, 811, 813, 10209, 10507, 20601, 30023, 30024, 30026, 30027, 30031, 30032, 30033, 30034, 30035, 30036, 30037, 30038, 30039, 30043, 40021, 40025, 40028, 40029, 40030] H40 H0 := cEx.trans ehE45 hE28 hS27 (by decide)
                have hS44 : ∀ k p, T0 k p → T42 k p := fun k p z => shS44 k p (hS27 k p z)
                have g47 : H40.1 3 3 F.2.1 = H23.1 3 3 F.2.1 := (ehE45.1 3 3 F.2.1 hI26.top.2.1).1 (by decide)
                have g48 : H40.1 7 4 F.2.2.1 = H23.1 7 4 F.2.2.1 := (ehE45.1 7 4 F.2.2.1 hI26.top.2.2.1).1 (by decide)
                have g49 : H40.1 3 1 F.2.1 = H23.1 3 1 F.2.1 := (ehE45.1 3 1 F.2.1 hI26.top.2.1).1 (by decide)
                have g50 : H40.1 6 11 x = H23.1 6 11 x := (ehE45.1 6 11 x t35).1 (by decide)
                have t51 : T42 10 F.1 := shS44 _ _ t34
                have t52 : T42 6 x := shS44 _ _ t35
                obtain ⟨x53, rfl, r54⟩ := hv
                have r54' : (x53 = 0 ∨ x53 = 1) ∧ (x53 = 0 → H40.1 6 11 x = 0) ∧ (x53 = 0 → H40.1 0 1 (H40.2.2.2.2 6 1 x) < 120) := r54
                try dsimp only [Option.toList, List.append, List.cons_append, List.nil_append]
                refine J.ifc rfl rfl rfl (show -2147483648 ≤ x53 ∧ x53 ≤ 2147483647 from ⟨by omega, by omega⟩) (fun hc => ?_) (fun hc => ?_)
                · have c55 : ¬ (x53 = (0 : Int)) := hc
                  clear hc
                  refine J.run0 5 rfl ?_
                  try dsimp only
                  exact ih ((1 : Int)) (k + 1) T42 w41 H40 _ (show 100000 - (k + 1) < _ by omega) (show 0 ≤ ((1 : Int)) ∧ ((1 : Int)) ≤ 1 from ⟨by omega, by omega⟩) (show 0 ≤ (k + 1) ∧ (k + 1) ≤ 100000 from ⟨by omega, by omega⟩) (show ((w41.2.1 : Nat) : Int) - 2 * H40.1 7 4 F.2.2.1 - 13 * H40.1 3 1 F.2.1 - H40.1 3 3 F.2.1 ≤ ((w0.2.1 : Nat) : Int) - 2 * H0.1 7 4 F.2.2.1 - 13 * H0.1 3 1 F.2.1 - H0.1 3 3 F.2.1 + (H40.1 6 11 x) from by omega) (show ((w41.2.2 : Nat) : Int) - 18 * H40.1 7 4 F.2.2.1 - 700 * H40.1 3 1 F.2.1 - 6 * H40.1 3 3 F.2.1 ≤ ((w0.2.2 : Nat) : Int) - 18 * H0.1 7 4 F.2.2.1 - 700 * H0.1 3 1 F.2.1 - 6 * H0.1 3 3 F.2.1 + 10 * (H40.1 6 11 x) from by omega) hI43 hS44 hE45  rfl
                · have c56 : ¬ (¬ (x53 = (0 : Int))) := hc
                  clear hc
                  refine J.run0 2 rfl ?_
                  try dsimp only
                  refine J.inv rfl rfl rfl rfl rfl rfl ((jD_w rfl).mpr (hI43.is t51)) rfl rfl rfl rfl rfl (c_X10_prevote (x := x) hI43 t52 (show H40.1 6 11 x = 0 from by omega) (show H40.1 0 1 (H40.2.2.2.2 6 1 x) < 120 from by omega)) ?_
                  rintro v w58 H57 ⟨T59, hI60, shS61, ehE62, hr63, hr63s, hv⟩
                  have hr63' : ((w58.2.1 : Nat) : Int) - 2 * H57.1 7 4 F.2.2.1 - 13 * H57.1 3 1 F.2.1 - H57.1 3 3 F.2.1 ≤ ((w41.2.1 : Nat) : Int) - 2 * H40.1 7 4 F.2.2.1 - 13 * H40.1 3 1 F.2.1 - H40.1 3 3 F.2.1 + (H57.1 6 11 x) := hr63
                  have hr63s' : ((w58.2.2 : Nat) : Int) - 18 * H57.1 7 4 F.2.2.1 - 700 * H57.1 3 1 F.2.1 - 6 * H57.1 3 3 F.2.1 ≤ ((w41.2.2 : Nat) : Int) - 18 * H40.1 7 4 F.2.2.1 - 700 * H40.1 3 1 F.2.1 - 6 * H40.1 3 3 F.2.1 + 10 * (H57.1 6 11 x) := hr63s
                  have hE62 : cEx T0 [301, 307, 401, 402, 602, 603, 604, 605, 606, 607, 608, 609, 611, 612, 616, 704, 804, 808, 809, 811, 813, 10209, 10507, 20601, 30023, 30024, 30026, 30027, 30031, 30032, 30033, 30034, 30035, 30036, 30037, 30038, 30039, 30043, 40021, 40025, 40028, 40029, 40030] H57 H0 := cEx.trans ehE62 hE45 hS44 (by decide)
                  have hS61 : ∀ k p, T0 k p → T59 k p := fun k p z => shS61 k p (hS44 k p z)
                  have g64 : H57.1 3 3 F.2.1 = H40.1 3 3 F.2.1 := (ehE62.1 3 3 F.2.1 hI43.top.2.1).1 (by decide)
                  have g65 : H57.1 3 1 F.2.1 = H40.1 3 1 F.2.1 := (ehE62.1 3 1 F.2.1 hI43.top.2.1).1 (by decide)
                  have t66 : T59 10 F.1 := shS61 _ _ t51
                  have t67 : T59 6 x := shS61 _ _ t52
                  obtain ⟨x68, rfl, r69⟩ := hv
                  have r69' : (x68 = 0 ∨ x68 = 1) ∧ (x68 = 0 → H57.1 6 11 x = 0) ∧ (x68 = 0 → H57.1 0 1 (H57.2.2.2.2 6 1 x) < 120) := r69
                  try dsimp only [Option.toList, List.append, List.cons_append, List.nil_append]
                  refine J.ifc rfl rfl rfl (show -2147483648 ≤ x68 ∧ x68 ≤ 2147483647 from ⟨by omega, by omega⟩) (fun hc => ?_) (fun hc => ?_)
                  · have c70 : ¬ (x68 = (0 : Int)) := hc
                    clear hc
                    refine J.run0 5 rfl ?_
                    try dsimp only
                    exact ih ((1 : Int)) (k + 1) T59 w58 H57 _ (show 100000 - (k + 1) < _ by omega) (show 0 ≤ ((1 : Int)) ∧ ((1 : Int)) ≤ 1 from ⟨by omega, by omega⟩) (show 0 ≤ (k + 1) ∧ (k + 1) ≤ 100000 from ⟨by omega, by omega⟩) (show ((w58.2.1 : Nat) : Int) - 2 * H57.1 7 4 F.2.2.1 - 13 * H57.1 3 1 F.2.1 - H57.1 3 3 F.2.1 ≤ ((w0.2.1 : Nat) : Int) - 2 * H0.1 7 4 F.2.2.1 - 13 * H0.1 3 1 F.2.1 - H0.1 3 3 F.2.1 + (H57.1 6 11 x) from by omega) (show ((w58.2.2 : Nat) : Int) - 18 * H57.1 7 4 F.2.2.1 - 700 * H57.1 3 1 F.2.1 - 6 * H57.1 3 3 F.2.1 ≤ ((w0.2.2 : Nat) : Int) - 18 * H0.1 7 4 F.2.2.1 - 700 * H0.1 3 1 F.2.1 - 6 * H0.1 3 3 F.2.1 + 10 * (H57.1 6 11 x) from by omega) hI60 hS61 hE62  rfl
                  · have c71 : ¬ (¬ (x68 = (0 : Int))) := hc
                    clear hc
                    refine J.run0 2 rfl ?_
                    try dsimp only
                    refine J.inv rfl rfl rfl rfl rfl rfl ((jD_w rfl).mpr (hI60.is t66)) rfl rfl rfl rfl rfl (c_X10_renewCandidate (x := x) hI60 t67 (show H57.1 6 11 x = 0 from by omega) (show H57.1 0 1 (H57.2.2.2.2 6 1 x) < 120 from by omega)) ?_
                    rintro v w73 H72 ⟨T74, hI75, shS76, ehE77, hr78, hr78s, hv⟩
                    have hr78' : ((w73.2.1 : Nat) : Int) - 2 * H72.1 7 4 F.2.2.1 - 13 * H72.1 3 1 F.2.1 - H72.1 3 3 F.2.1 ≤ ((w58.2.1 : Nat) : Int) - 2 * H57.1 7 4 F.2.2.1 - 13 * H57.1 3 1 F.2.1 - H57.1 3 3 F.2.1 + (H72.1 6 11 x) := hr78
                    have hr78s' : ((w73.2.2 : Nat) : Int) - 18 * H72.1 7 4 F.2.2.1 - 700 * H72.1 3 1 F.2.1 - 6 * H72.1 3 3 F.2.1 ≤ ((w58.2.2 : Nat) : Int) - 18 * H57.1 7 4 F.2.2.1 - 700 * H57.1 3 1 F.2.1 - 6 * H57.1 3 3 F.2.1 + 10 * (H72.1 6 11 x) := hr78s
                    have hE77 : cEx T0 [301, 307, 401, 402, 602, 603, 604, 605, 606, 607, 608, 609, 611, 612, 616, 704, 804, 808, 809, 811, 813, 10209, 10507, 20601, 30023, 30024, 30026, 30027, 30031, 30032, 30033, 30034, 30035, 30036, 30037, 30038, 30039, 30043, 40021, 40025, 40028, 40029, 40030] H72 H0 := cEx.trans ehE77 hE62 hS61 (by decide)
                    have hS76 : ∀ k p, T0 k p → T74 k p := fun k p z => shS76 k p (hS61 k p z)
                    have g79 : H72.1 3 3 F.2.1 = H57.1 3 3 F.2.1 := (ehE77.1 3 3 F.2.1 hI60.top.2.1).1 (by decide)
                    have g80 : H72.1 3 1 F.2.1 = H57.1 3 1 F.2.1 := (ehE77.1 3 1 F.2.1 hI60.top.2.1).1 (by decide)
                    have t81 : T74 10 F.1 := shS76 _ _ t66
                    have t82 : T74 6 x := shS76 _ _ t67
                    obtain ⟨x83, rfl, r84⟩ := hv
                    have r84' : (x83 = 0 ∨ x83 = 1) ∧ (x83 = 0 → H72.1 6 11 x = 0) ∧ (x83 = 0 → H72.1 0 1 (H72.2.2.2.2 6 1 x) < 120) := r84
                    try dsimp only [Option.toList, List.append, List.cons_append, List.nil_append]
                    refine J.ifc rfl rfl rfl (show -2147483648 ≤ x83 ∧ x83 ≤ 2147483647 from ⟨by omega, by omega⟩) (fun hc => ?_) (fun hc => ?_)
                    · have c85 : ¬ (x83 = (0 : Int)) := hc
                      clear hc
                      refine J.run0 5 rfl ?_
                      try dsimp only
                      exact ih ((1 : Int)) (k + 1) T74 w73 H72 _ (show 100000 - (k + 1) < _ by omega) (show 0 ≤ ((1 : Int)) ∧ ((1 : Int)) ≤ 1 from ⟨by omega, by omega⟩) (show 0 ≤ (k + 1) ∧ (k + 1) ≤ 100000 from ⟨by omega, by omega⟩) (show ((w73.2.1 : Nat) : Int) - 2 * H72.1 7 4 F.2.2.1 - 13 * H72.1 3 1 F.2.1 - H72.1 3 3 F.2.1 ≤ ((w0.2.1 : Nat) : Int) - 2 * H0.1 7 4 F.2.2.1 - 13 * H0.1 3 1 F.2.1 - H0.1 3 3 F.2.1 + (H72.1 6 11 x) from by omega) (show ((w73.2.2 : Nat) : Int) - 18 * H72.1 7 4 F.2.2.1 - 700 * H72.1 3 1 F.2.1 - 6 * H72.1 3 3 F.2.1 ≤ ((w0.2.2 : Nat) : Int) - 18 * H0.1 7 4 F.2.2.1 - 700 * H0.1 3 1 F.2.1 - 6 * H0.1 3 3 F.2.1 + 10 * (H72.1 6 11 x) from by omega) hI75 hS76 hE77  rfl
                    · have c86 : ¬ (¬ (x83 = (0 : Int))) := hc
                      clear hc
                      refine J.run0 2 rfl ?_
                      try dsimp only
                      refine J.inv rfl rfl rfl rfl rfl rfl ((jD_w rfl).mpr (hI75.is t81)) rfl rfl rfl rfl rfl (c_X10_precommitForNone (x := x) hI75 t82 (show H72.1 6 11 x = 0 from by omega) (show H72.1 0 1 (H72.2.2.2.2 6 1 x) < 120 from by omega)) ?_
                      rintro v w88 H87 ⟨T89, hI90, shS91, ehE92, hr93, hr93s, hv⟩
                      have hr93' : ((w88.2.1 : Nat) : Int) - 2 * H87.1 7 4 F.2.2.1 - 13 * H87.1 3 1 F.2.1 - H87.1 3 3 F.2.1 ≤ ((w73.2.1 : Nat) : Int) - 2 * H72.1 7 4 F.2.2.1 - 13 * H72.1 3 1 F.2.1 - H72.1 3 3 F.2.1 + (H87.1 6 11 x) := hr93
                      have hr93s' : ((w88.2.2 : Nat) : Int) - 18 * H87.1 7 4 F.2.2.1 - 700 * H87.1 3 1 F.2.1 - 6 * H87.1 3 3 F.2.1 ≤ ((w73.2.2 : Nat) : Int) - 18 * H72.1 7 4 F.2.2.1 - 700 * H72.1 3 1 F.2.1 - 6 * H72.1 3 3 F.2.1 + 10 * (H87.1 6 11 x) := hr93s
                      have hE92 : cEx T0 [301, 307, 401, 402, 602, 603, 604, 605, 606, 607, 608, 609, 611, 612, 616, 704, 804, 808, 809, 811, 813, 10209, 10507, 20601, 30023, 30024, 30026, 30027, 30031, 30032, 30033, 30034, 30035, 30036, 30037, 30038, 30039, 30043, 40021, 40025, 40028, 40029, 40030] H87 H0 := cEx.trans ehE92 hE77 hS76 (by decide)
                      have hS91 : ∀ k p, T0 k p → T89 k p := fun k p z => shS91 k p (hS76 k p z)
                      have g94 : H87.1 3 3 F.2.1 = H72.1 3 3 F.2.1 := (ehE92.1 3 3 F.2.1 hI75.top.2.1).1 (by decide)
                      have g95 : H87.1 3 1 F.2.1 = H72.1 3 1 F.2.1 := (ehE92.1 3 1 F.2.1 hI75.top.2.1).1 (by decide)
                      have t96 : T89 10 F.1 := shS91 _ _ t81
                      have t97 : T89 6 x := shS91 _ _ t82
                      obtain ⟨x98, rfl, r99⟩ := hv
                      have r99' : (x98 = 0 ∨ x98 = 1) ∧ (x98 = 0 → H87.1 6 11 x = 0) ∧ (x98 = 0 → H87.1 0 1 (H87.2.2.2.2 6 1 x) < 120) := r99
                      try dsimp only [Option.toList, List.append, List.cons_append, List.nil_append]
                      refine J.ifc rfl rfl rfl (show -2147483648 ≤ x98 ∧ x98 ≤ 2147483647 from ⟨by omega, by omega⟩) (fun hc => ?_) (fun hc => ?_)
                      · have c100 : x98 = (0 : Int) := hc
                        clear hc
                        refine J.run0 4 rfl ?_
                        try dsimp only
                        exact ih ((0 : Int)) (k + 1) T89 w88 H87 _ (show 100000 - (k + 1) < _ by omega) (show 0 ≤ ((0 : Int)) ∧ ((0 : Int)) ≤ 1 from ⟨by omega, by omega⟩) (show 0 ≤ (k + 1) ∧ (k + 1) ≤ 100000 from ⟨by omega, by omega⟩) (show ((w88.2.1 : Nat) : Int) - 2 * H87.1 7 4 F.2.2.1 - 13 * H87.1 3 1 F.2.1 - H87.1 3 3 F.2.1 ≤ ((w0.2.1 : Nat) : Int) - 2 * H0.1 7 4 F.2.2.1 - 13 * H0.1 3 1 F.2.1 - H0.1 3 3 F.2.1 + (H87.1 6 11 x) from by omega) (show ((w88.2.2 : Nat) : Int) - 18 * H87.1 7 4 F.2.2.1 - 700 * H87.1 3 1 F.2.1 - 6 * H87.1 3 3 F.2.1 ≤ ((w0.2.2 : Nat) : Int) - 18 * H0.1 7 4 F.2.2.1 - 700 * H0.1 3 1 F.2.1 - 6 * H0.1 3 3 F.2.1 + 10 * (H87.1 6 11 x) from by omega) hI90 hS91 hE92  rfl
                      · have c101 : ¬ (x98 = (0 : Int)) := hc
                        clear hc
                        refine J.run0 5 rfl ?_
                        try dsimp only
                        exact ih ((1 : Int)) (k + 1) T89 w88 H87 _ (show 100000 - (k + 1) < _ by omega) (show 0 ≤ ((1 : Int)) ∧ ((1 : Int)) ≤ 1 from ⟨by omega, by omega⟩) (show 0 ≤ (k + 1) ∧ (k + 1) ≤ 100000 from ⟨by omega, by omega⟩) (show ((w88.2.1 : Nat) : Int) - 2 * H87.1 7 4 F.2.2.1 - 13 * H87.1 3 1 F.2.1 - H87.1 3 3 F.2.1 ≤ ((w0.2.1 : Nat) : Int) - 2 * H0.1 7 4 F.2.2.1 - 13 * H0.1 3 1 F.2.1 - H0.1 3 3 F.2.1 + (H87.1 6 11 x) from by omega) (show ((w88.2.2 : Nat) : Int) - 18 * H87.1 7 4 F.2.2.1 - 700 * H87.1 3 1 F.2.1 - 6 * H87.1 3 3 F.2.1 ≤ ((w0.2.2 : Nat) : Int) - 18 * H0.1 7 4 F.2.2.1 - 700 * H0.1 3 1 F.2.1 - 6 * H0.1 3 3 F.2.1 + 10 * (H87.1 6 11 x) from by omega) hI90 hS91 hE92  rfl
set_option maxRecDepth 20000 in
set_option maxHeartbeats 8000000 in
theorem c_X10_doAll {x : Nat} {T : cP} {w : jW} {H : jH} (hI : cJ F T w H) (ta0 : T 6 x)  : J false (d + 5) 89 w (0, jargs 0 [.inr (some (10, F.1)), .inr (some (6, x))], [], H) (jN fun v w' H' => ∃ T', cJ F T' w' H' ∧ (∀ k p, T k p → T' k p) ∧ cEx T [301, 307, 401, 402, 602, 603, 604, 605, 606, 607, 608, 609, 611, 612, 616, 704, 804, 808, 809, 811, 813, 10209, 10507, 20601, 30023, 30024, 30026, 30027, 30031, 30032, 30033, 30034, 30035, 30036, 30037, 30038, 30039, 30043, 40021, 40025, 40028, 40029, 40030] H' H ∧ ((w'.2.1 : Nat) : Int) - 2 * H'.1 7 4 F.2.2.1 - 13 * H'.1 3 1 F.2.1 - H'.1 3 3 F.2.1 ≤ ((w.2.1 : Nat) : Int) - 2 * H.1 7 4 F.2.2.1 - 13 * H.1 3 1 F.2.1 - H.1 3 3 F.2.1 + (1) ∧ ((w'.2.2 : Nat) : Int) - 18 * H'.1 7 4 F.2.2.1 - 700 * H'.1 3 1 F.2.1 - 6 * H'.1 3 3 F.2.1 ≤ ((w.2.2 : Nat) : Int) - 18 * H.1 7 4 F.2.2.1 - 700 * H.1 3 1 F.2.1 - 6 * H.1 3 3 F.2.1 + 10 * (1) ∧ v = none) := by
  have hd0 : 0 ≤ H.1 6 11 x ∧ H.1 6 11 x ≤ 1 := hI.v 6 11 x ta0
  have hE : cEx T [301, 307, 401, 402, 602, 603, 604, 605, 606, 607, 608, 609, 611, 612, 616, 704, 804, 808, 809, 811, 813, 10209, 10507, 20601, 30023, 30024, 30026, 30027, 30031, 30032, 30033, 30034, 30035, 30036, 30037, 30038, 30039, 30043, 40021, 40025, 40028, 40029, 40030] H H := cEx.refl
  have hS : ∀ k p, T k p → T k p := fun _ _ z => z
  refine J.run0 4 rfl ?_
  try dsimp only
  exact (c_X10_doAll_l0 (x := x) hI ta0  ((100000 - ((0 : Int)) : Int).toNat + 1)) ((1 : Int)) ((0 : Int)) T w H _ (show 100000 - ((0 : Int)) < _ by omega) (show 0 ≤ ((1 : Int)) ∧ ((1 : Int)) ≤ 1 from ⟨by omega, by omega⟩) (show 0 ≤ ((0 : Int)) ∧ ((0 : Int)) ≤ 100000 from ⟨by omega, by omega⟩) (show ((w.2.1 : Nat) : Int) - 2 * H.1 7 4 F.2.2.1 - 13 * H.1 3 1 F.2.1 - H.1 3 3 F.2.1 ≤ ((w.2.1 : Nat) : Int) - 2 * H.1 7 4 F.2.2.1 - 13 * H.1 3 1 F.2.1 - H.1 3 3 F.2.1 + (H.1 6 11 x) from by omega) (show ((w.2.2 : Nat) : Int) - 18 * H.1 7 4 F.2.2.1 - 700 * H.1 3 1 F.2.1 - 6 * H.1 3 3 F.2.1 ≤ ((w.2.2 : Nat) : Int) - 18 * H.1 7 4 F.2.2.1 - 700 * H.1 3 1 F.2.1 - 6 * H.1 3 3 F.2.1 + 10 * (H.1 6 11 x) from by omega) hI hS hE  rfl
end
