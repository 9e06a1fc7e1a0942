-- M: X10_decide
section
variable {d : Nat} {F : cG} 
set_option maxRecDepth 20000 in
set_option maxHeartbeats 8000000 in
theorem c_X10_decide_l0 {x : Nat} {T0 : cP} {w0 : jW} {H0 : jH} (hI0 : cJ F T0 w0 H0) (ta0 : T0 6 x) (hp0 : H0.1 6 11 x = 0) (hp1 : H0.1 0 1 (H0.2.2.2.2 6 1 x) < 120) : ∀ (m : Nat), (∀ (q : Int) (T : cP) (w : jW) (H : jH) (lv : jL), 32 - q < (m : Int) → (0 ≤ q ∧ q ≤ 32) → (H.1 6 11 x = 0) → (H.1 0 1 (H.2.2.2.2 6 1 x) < 120) → (((w.2.1 : Nat) : Int) - 2 * H.1 7 4 F.2.2.1 - 13 * H.1 3 1 F.2.1 - H.1 3 3 F.2.1 ≤ ((w0.2.1 : Nat) : Int) - 2 * H0.1 7 4 F.2.2.1 - 13 * H0.1 3 1 F.2.1 - H0.1 3 3 F.2.1 + (0)) → (((w.2.2 : Nat) : Int) - 18 * H.1 7 4 F.2.2.1 - 700 * H.1 3 1 F.2.1 - 6 * H.1 3 3 F.2.1 ≤ ((w0.2.2 : Nat) : Int) - 18 * H0.1 7 4 F.2.2.1 - 700 * H0.1 3 1 F.2.1 - 6 * H0.1 3 3 F.2.1 + 10 * (0)) → cJ F T w H → (∀ k p, T0 k p → T k p) → cEx T0 [20601, 401, 402, 604, 605, 606, 607, 602, 603, 608, 609] H H0 → ((∃ j2 : Int, lv = [(3, .inl q), (2, .inl j2), (0, .inr (some (10, F.1))), (1, .inr (some (6, x)))]) ∨ (∃ j2 : Int, lv = [(3, .inl q), (4, .inr none), (2, .inl j2), (0, .inr (some (10, F.1))), (1, .inr (some (6, x)))]) ∨ (∃ o4 : Nat, T 5 o4 ∧ ∃ j2 : Int, lv = [(3, .inl q), (5, .inr none), (4, .inr (some (5, o4))), (2, .inl j2), (0, .inr (some (10, F.1))), (1, .inr (some (6, x)))]) ∨ (∃ o5 : Nat, T 0 o5 ∧ ∃ o4 : Nat, T 5 o4 ∧ ∃ j2 : Int, lv = [(3, .inl q), (5, .inr (some (0, o5))), (4, .inr (some (5, o4))), (2, .inl j2), (0, .inr (some (10, F.1))), (1, .inr (some (6, x)))]) ∨ (∃ j2 : Int, lv = [(3, .inl q), (4, .inr none), (5, .inr none), (2, .inl j2), (0, .inr (some (10, F.1))), (1, .inr (some (6, x)))]) ∨ (∃ o5 : Nat, T 0 o5 ∧ ∃ j2 : Int, lv = [(3, .inl q), (4, .inr none), (5, .inr (some (0, o5))), (2, .inl j2), (0, .inr (some (10, F.1))), (1, .inr (some (6, x)))])) → J false (d + 4) 91 w (14, lv, [], H) (jN fun v w' H' => ∃ T', cJ F T' w' H' ∧ (∀ k p, T0 k p → T' k p) ∧ cEx T0 [20601, 401, 402, 604, 605, 606, 607, 602, 603, 608, 609] H' H0 ∧ ((w'.2.1 : Nat) : Int) - 2 * H'.1 7 4 F.2.2.1 - 13 * H'.1 3 1 F.2.1 - H'.1 3 3 F.2.1 ≤ ((w0.2.1 : Nat) : Int) - 2 * H0.1 7 4 F.2.2.1 - 13 * H0.1 3 1 F.2.1 - H0.1 3 3 F.2.1 + (H'.1 6 11 x) ∧ ((w'.2.2 : Nat) : Int) - 18 * H'.1 7 4 F.2.2.1 - 700 * H'.1 3 1 F.2.1 - 6 * H'.1 3 3 F.2.1 ≤ ((w0.2.2 : Nat) : Int) - 18 * H0.1 7 4 F.2.2.1 - 700 * H0.1 3 1 F.2.1 - 6 * H0.1 3 3 F.2.1 + 10 * (H'.1 6 11 x) ∧ ∃ rv, v = some (.inl rv) ∧ ((rv = 0 ∨ rv = 1) ∧ (rv = 0 → H'.1 6 11 x = 0) ∧ (rv = 0 → H'.1 0 1 (H'.2.2.2.2 6 1 x) < 120)))) := by
  intro m
  induction m with
  | zero =>
    skip
    · intro q T w H lv hm hi0 hi1 hi2 hi3 hi4 hI hS hE hlv
      exfalso
      omega
  | succ m ih =>
    skip
    · intro q T w H lv hm hi0 hi1 hi2 hi3 hi4 hI hS hE hlv
      rcases hlv with ⟨j2, rfl⟩ | ⟨j2, rfl⟩ | ⟨o4, to4, j2, rfl⟩ | ⟨o5, to5, o4, to4, j2, rfl⟩ | ⟨j2, rfl⟩ | ⟨o5, to5, j2, rfl⟩
      · skip
        refine J.run0 2 rfl ?_
        try dsimp only
        refine J.icmp rfl rfl rfl ⟨(show -2147483648 ≤ q ∧ q ≤ 2147483647 from ⟨by omega, by omega⟩), (show -2147483648 ≤ (32 : Int) ∧ (32 : Int) ≤ 2147483647 from ⟨by omega, by omega⟩)⟩ (fun hc => ?_) (fun hc => ?_)
        · have c1 : (32 : Int) ≤ q := hc
          clear hc
          refine J.run0 1 rfl ?_
          try dsimp only
          exact J.retb rfl rfl rfl (show (0 : Int) = 0 ∨ (0 : Int) = 1 by omega) ⟨_, rfl, T, hI, hS, hE, (show ((w.2.1 : Nat) : Int) - 2 * H.1 7 4 F.2.2.1 - 13 * H.1 3 1 F.2.1 - H.1 3 3 F.2.1 ≤ ((w0.2.1 : Nat) : Int) - 2 * H0.1 7 4 F.2.2.1 - 13 * H0.1 3 1 F.2.1 - H0.1 3 3 F.2.1 + (H.1 6 11 x) by omega), (show ((w.2.2 : Nat) : Int) - 18 * H.1 7 4 F.2.2.1 - 700 * H.1 3 1 F.2.1 - 6 * H.1 3 3 F.2.1 ≤ ((w0.2.2 : Nat) : Int) - 18 * H0.1 7 4 F.2.2.1 - 700 * H0.1 3 1 F.2.1 - 6 * H0.1 3 3 F.2.1 + 10 * (H.1 6 11 x) by omega), _, rfl, (show (((0 : Int)) = 0 ∨ ((0 : Int)) = 1) ∧ (((0 : Int)) = 0 → H.1 6 11 x = 0) ∧ (((0 : Int)) = 0 → H.1 0 1 (H.2.2.2.2 6 1 x) < 120) from ⟨by omega, by omega, by omega⟩)⟩
        · have c2 : ¬ ((32 : Int) ≤ q) := hc
          clear hc
          have f3 : -2147483648 ≤ jushr (j2) (q) ∧ jushr (j2) (q) ≤ 2147483647 := jI32 _
          have f4 : -2147483648 ≤ jand (jushr (j2) (q)) ((1 : Int)) ∧ jand (jushr (j2) (q)) ((1 : Int)) ≤ 2147483647 := jI32 _
          refine J.run0 6 rfl ?_
          try dsimp only
          refine J.icmp rfl rfl rfl ⟨(show -2147483648 ≤ jand (jushr (j2) (q)) ((1 : Int)) ∧ jand (jushr (j2) (q)) ((1 : Int)) ≤ 2147483647 from ⟨by omega, by omega⟩), (show -2147483648 ≤ (1 : Int) ∧ (1 : Int) ≤ 2147483647 from ⟨by omega, by omega⟩)⟩ (fun hc => ?_) (fun hc => ?_)
          · have c5 : ¬ (jand (jushr (j2) (q)) ((1 : Int)) = (1 : Int)) := hc
            clear hc
            refine J.run0 6 rfl ?_
            try dsimp only
            exact ih (q + 1) T w H _ (show 32 - (q + 1) < _ by omega) (show 0 ≤ (q + 1) ∧ (q + 1) ≤ 32 from ⟨by omega, by omega⟩) (show H.1 6 11 x = 0 from by omega) (show H.1 0 1 (H.2.2.2.2 6 1 x) < 120 from by omega) (show ((w.2.1 : Nat) : Int) - 2 * H.1 7 4 F.2.2.1 - 13 * H.1 3 1 F.2.1 - H.1 3 3 F.2.1 ≤ ((w0.2.1 : Nat) : Int) - 2 * H0.1 7 4 F.2.2.1 - 13 * H0.1 3 1 F.2.1 - H0.1 3 3 F.2.1 + (0) from by omega) (show ((w.2.2 : Nat) : Int) - 18 * H.1 7 4 F.2.2.1 - 700 * H.1 3 1 F.2.1 - 6 * H.1 3 3 F.2.1 ≤ ((w0.2.2 : Nat) : Int) - 18 * H0.1 7 4 F.2.2.1 - 700 * H0.1 3 1 F.2.1 - 6 * H0.1 3 3 F.2.1 + 10 * (0) from by omega) hI hS hE  (Or.inr (Or.inl ⟨_, rfl⟩))
          · have c6 : ¬ (¬ (jand (jushr (j2) (q)) ((1 : Int)) = (1 : Int))) := hc
            clear hc
            refine J.run0 3 rfl ?_
            try dsimp only
            refine J.inv rfl rfl rfl rfl rfl rfl ((jD_w rfl).mpr (hI.is hI.top.1)) rfl rfl rfl rfl rfl (c_X10_proposalOf (x := x) (round := q) hI (hS _ _ ta0) (show -2147483648 ≤ q ∧ q ≤ 2147483647 from ⟨by omega, by omega⟩)) ?_
            rintro v w H ⟨rfl, rfl, hv⟩
            rcases hv with ⟨rfl, r9⟩ | ⟨q7, rfl, t8, r9⟩
            · skip
              try dsimp only [Option.toList, List.append, List.cons_append, List.nil_append]
              refine J.run0 6 rfl ?_
              try dsimp only
              exact ih (q + 1) T w H _ (show 32 - (q + 1) < _ by omega) (show 0 ≤ (q + 1) ∧ (q + 1) ≤ 32 from ⟨by omega, by omega⟩) (show H.1 6 11 x = 0 from by omega) (show H.1 0 1 (H.2.2.2.2 6 1 x) < 120 from by omega) (show ((w.2.1 : Nat) : Int) - 2 * H.1 7 4 F.2.2.1 - 13 * H.1 3 1 F.2.1 - H.1 3 3 F.2.1 ≤ ((w0.2.1 : Nat) : Int) - 2 * H0.1 7 4 F.2.2.1 - 13 * H0.1 3 1 F.2.1 - H0.1 3 3 F.2.1 + (0) from by omega) (show ((w.2.2 : Nat) : Int) - 18 * H.1 7 4 F.2.2.1 - 700 * H.1 3 1 F.2.1 - 6 * H.1 3 3 F.2.1 ≤ ((w0.2.2 : Nat) : Int) - 18 * H0.1 7 4 F.2.2.1 - 700 * H0.1 3 1 F.2.1 - 6 * H0.1 3 3 F.2.1 + 10 * (0) from by omega) hI hS hE  (Or.inr (Or.inl ⟨_, rfl⟩))
            · skip
              have rL_X10_proposalOf_32 := r9
              try dsimp only [Option.toList, List.append, List.cons_append, List.nil_append]
              have f10 : 0 ≤ H.1 5 0 q7 ∧ H.1 5 0 q7 ≤ 5999 := hI.v 5 0 q7 t8
              refine J.run 6 rfl ⟨(hI.is hI.top.1), (hI.o 10 0 3 F.1 rfl hI.top.1).1⟩ ?_
              try dsimp only
              try dsimp only
              rw [show (H.2.2.2.2 10 0 F.1) = F.2.1 from hI.one.2.1 _ (hI.o 10 0 3 F.1 rfl hI.top.1).2]
              have f11 : (-2147483648) ≤ H.1 5 5 q7 ∧ H.1 5 5 q7 ≤ 2147483647 := hI.v 5 5 q7 t8
              refine J.run 2 rfl (hI.is t8) ?_
              try dsimp only
              refine J.inv rfl rfl rfl rfl rfl rfl ((jD_w rfl).mpr (hI.is hI.top.2.1)) rfl rfl rfl rfl rfl (c_X3_get (b := H.1 5 5 q7) hI  (show -2147483648 ≤ (H.1 5 5 q7) ∧ (H.1 5 5 q7) ≤ 2147483647 from ⟨by omega, by omega⟩)) ?_
              rintro v w H ⟨rfl, rfl, hv⟩
              rcases hv with ⟨rfl, r14⟩ | ⟨q12, rfl, t13, r14⟩
              · skip
                try dsimp only [Option.toList, List.append, List.cons_append, List.nil_append]
                refine J.run0 3 rfl ?_
                try dsimp only
                refine J.inv rfl rfl rfl rfl rfl rfl ((jD_w rfl).mpr (hI.is (hS _ _ ta0))) rfl rfl rfl rfl rfl (c_X6_isGood (a0 := x) (b := none) hI (hS _ _ ta0) (fun _ z => nomatch z) ) ?_
                rintro v w H ⟨rfl, rfl, hv⟩
                obtain ⟨x15, rfl, r16⟩ := hv
                have r16' : (x15 = 0 ∨ x15 = 1) ∧ (x15 = 1 → none ≠ none) := r16
                have rL_X6_isGood := r16
                have rL_X6_isGood_63 := r16
                try dsimp only [Option.toList, List.append, List.cons_append, List.nil_append]
                refine J.ifc rfl rfl rfl (show -2147483648 ≤ x15 ∧ x15 ≤ 2147483647 from ⟨by omega, by omega⟩) (fun hc => ?_) (fun hc => ?_)
                · have c17 : x15 = (0 : Int) := hc
                  clear hc
                  refine J.run0 2 rfl ?_
                  try dsimp only
                  exact ih (q + 1) T w H _ (show 32 - (q + 1) < _ by omega) (show 0 ≤ (q + 1) ∧ (q + 1) ≤ 32 from ⟨by omega, by omega⟩) (show H.1 6 11 x = 0 from by omega) (show H.1 0 1 (H.2.2.2.2 6 1 x) < 120 from by omega) (show ((w.2.1 : Nat) : Int) - 2 * H.1 7 4 F.2.2.1 - 13 * H.1 3 1 F.2.1 - H.1 3 3 F.2.1 ≤ ((w0.2.1 : Nat) : Int) - 2 * H0.1 7 4 F.2.2.1 - 13 * H0.1 3 1 F.2.1 - H0.1 3 3 F.2.1 + (0) from by omega) (show ((w.2.2 : Nat) : Int) - 18 * H.1 7 4 F.2.2.1 - 700 * H.1 3 1 F.2.1 - 6 * H.1 3 3 F.2.1 ≤ ((w0.2.2 : Nat) : Int) - 18 * H0.1 7 4 F.2.2.1 - 700 * H0.1 3 1 F.2.1 - 6 * H0.1 3 3 F.2.1 + 10 * (0) from by omega) hI hS hE  (Or.inr (Or.inr (Or.inl ⟨_, t8, _, rfl⟩)))
                · have c18 : ¬ (x15 = (0 : Int)) := hc
                  clear hc
                  exact absurd rfl (rL_X6_isGood.2 (by omega))
              · skip
                have rL_X3_get_55 := r14
                try dsimp only [Option.toList, List.append, List.cons_append, List.nil_append]
                have f19 : 0 ≤ H.1 0 1 q12 ∧ H.1 0 1 q12 ≤ 299 := hI.v 0 1 q12 t13
                refine J.run0 3 rfl ?_
                try dsimp only
                refine J.inv rfl rfl rfl rfl rfl rfl ((jD_w rfl).mpr (hI.is (hS _ _ ta0))) rfl rfl rfl rfl rfl (c_X6_isGood (a0 := x) (b := some q12) hI (hS _ _ ta0) (fun _ z => by cases z; exact t13) ) ?_
                rintro v w H ⟨rfl, rfl, hv⟩
                obtain ⟨x20, rfl, r21⟩ := hv
                have r21' : (x20 = 0 ∨ x20 = 1) ∧ (x20 = 1 → (some q12) ≠ none) := r21
                have rL_X6_isGood := r21
                have rL_X6_isGood_63 := r21
                try dsimp only [Option.toList, List.append, List.cons_append, List.nil_append]
                refine J.ifc rfl rfl rfl (show -2147483648 ≤ x20 ∧ x20 ≤ 2147483647 from ⟨by omega, by omega⟩) (fun hc => ?_) (fun hc => ?_)
                · have c22 : x20 = (0 : Int) := hc
                  clear hc
                  refine J.run0 2 rfl ?_
                  try dsimp only
                  exact ih (q + 1) T w H _ (show 32 - (q + 1) < _ by omega) (show 0 ≤ (q + 1) ∧ (q + 1) ≤ 32 from ⟨by omega, by omega⟩) (show H.1 6 11 x = 0 from by omega) (show H.1 0 1 (H.2.2.2.2 6 1 x) < 120 from by omega) (show ((w.2.1 : Nat) : Int) - 2 * H.1 7 4 F.2.2.1 - 13 * H.1 3 1 F.2.1 - H.1 3 3 F.2.1 ≤ ((w0.2.1 : Nat) : Int) - 2 * H0.1 7 4 F.2.2.1 - 13 * H0.1 3 1 F.2.1 - H0.1 3 3 F.2.1 + (0) from by omega) (show ((w.2.2 : Nat) : Int) - 18 * H.1 7 4 F.2.2.1 - 700 * H.1 3 1 F.2.1 - 6 * H.1 3 3 F.2.1 ≤ ((w0.2.2 : Nat) : Int) - 18 * H0.1 7 4 F.2.2.1 - 700 * H0.1 3 1 F.2.1 - 6 * H0.1 3 3 F.2.1 + 10 * (0) from by omega) hI hS hE  (Or.inr (Or.inr (Or.inr (Or.inl ⟨_, t13, _, t8, _, rfl⟩))))
                · have c23 : ¬ (x20 = (0 : Int)) := hc
                  clear hc
                  refine J.run 7 rfl (hI.is t8) ?_
                  try dsimp only
                  refine J.inv rfl rfl rfl rfl rfl rfl ((jD_w rfl).mpr (hI.is hI.top.1)) rfl rfl rfl rfl rfl (c_X10_heardFrom (x := x) (kind := (2 : Int)) (round := q) (block := H.1 5 5 q7) hI (hS _ _ ta0) (show -2147483648 ≤ (2 : Int) ∧ (2 : Int) ≤ 2147483647 from ⟨by omega, by omega⟩) (show -2147483648 ≤ q ∧ q ≤ 2147483647 from ⟨by omega, by omega⟩)) ?_
                  rintro v w H ⟨rfl, rfl, hv⟩
                  obtain ⟨x24, rfl, r25⟩ := hv
                  have rL_X10_heardFrom := r25
                  have rL_X10_heardFrom_79 := r25
                  try dsimp only [Option.toList, List.append, List.cons_append, List.nil_append]
                  refine J.inv rfl rfl rfl rfl rfl rfl ((jD_w rfl).mpr (hI.is (hS _ _ ta0))) rfl rfl rfl rfl rfl (c_X6_isMost (a0 := x) (bits := x24) hI (hS _ _ ta0) ) ?_
                  rintro v w H ⟨rfl, rfl, hv⟩
                  obtain ⟨x26, rfl, r27⟩ := hv
                  have r27' : x26 = 0 ∨ x26 = 1 := r27
                  have rL_X6_isMost := r27
                  have rL_X6_isMost_82 := r27
                  try dsimp only [Option.toList, List.append, List.cons_append, List.nil_append]
                  refine J.ifc rfl rfl rfl (show -2147483648 ≤ x26 ∧ x26 ≤ 2147483647 from ⟨by omega, by omega⟩) (fun hc => ?_) (fun hc => ?_)
                  · have c28 : x26 = (0 : Int) := hc
                    clear hc
                    refine J.run0 2 rfl ?_
                    try dsimp only
                    exact ih (q + 1) T w H _ (show 32 - (q + 1) < _ by omega) (show 0 ≤ (q + 1) ∧ (q + 1) ≤ 32 from ⟨by omega, by omega⟩) (show H.1 6 11 x = 0 from by omega) (show H.1 0 1 (H.2.2.2.2 6 1 x) < 120 from by omega) (show ((w.2.1 : Nat) : Int) - 2 * H.1 7 4 F.2.2.1 - 13 * H.1 3 1 F.2.1 - H.1 3 3 F.2.1 ≤ ((w0.2.1 : Nat) : Int) - 2 * H0.1 7 4 F.2.2.1 - 13 * H0.1 3 1 F.2.1 - H0.1 3 3 F.2.1 + (0) from by omega) (show ((w.2.2 : Nat) : Int) - 18 * H.1 7 4 F.2.2.1 - 700 * H.1 3 1 F.2.1 - 6 * H.1 3 3 F.2.1 ≤ ((w0.2.2 : Nat) : Int) - 18 * H0.1 7 4 F.2.2.1 - 700 * H0.1 3 1 F.2.1 - 6 * H0.1 3 3 F.2.1 + 10 * (0) from by omega) hI hS hE  (Or.inr (Or.inr (Or.inr (Or.inl ⟨_, t13, _, t8, _, rfl⟩))))
                  · have c29 : ¬ (x26 = (0 : Int)) := hc
                    clear hc
                    refine J.run0 2 rfl ?_
                    try dsimp only
                    refine J.inv rfl rfl rfl rfl rfl rfl ((jD_w rfl).mpr (hI.is (hS _ _ ta0))) rfl rfl rfl rfl rfl (c_X6_adopt (a0 := x) (b := q12) hI (hS _ _ ta0) t13 ) ?_
                    rintro v w31 H30 ⟨T32, hI33, shS34, ehE35, hr36, hr36s, hv⟩
                    have hr36' : ((w31.2.1 : Nat) : Int) - 2 * H30.1 7 4 F.2.2.1 - 13 * H30.1 3 1 F.2.1 - H30.1 3 3 F.2.1 ≤ ((w.2.1 : Nat) : Int) - 2 * H.1 7 4 F.2.2.1 - 13 * H.1 3 1 F.2.1 - H.1 3 3 F.2.1 + (0) := hr36
                    have hr36s' : ((w31.2.2 : Nat) : Int) - 18 * H30.1 7 4 F.2.2.1 - 700 * H30.1 3 1 F.2.1 - 6 * H30.1 3 3 F.2.1 ≤ ((w.2.2 : Nat) : Int) - 18 * H.1 7 4 F.2.2.1 - 700 * H.1 3 1 F.2.1 - 6 * H.1 3 3 F.2.1 + 10 * (0) := hr36s
                    have hE35 : cEx T0 [20601, 401, 402, 604, 605, 606, 607, 602, 603, 608, 609] H30 H0 := cEx.trans ehE35 hE hS (by decide)
                    have hS34 : ∀ k p, T0 k p → T32 k p := fun k p z => shS34 k p (hS k p z)
                    have g37 : H30.1 6 11 x = H.1 6 11 x := (ehE35.1 6 11 x (hS _ _ ta0)).1 (by decide)
                    have g38 : H30.1 7 4 F.2.2.1 = H.1 7 4 F.2.2.1 := (ehE35.1 7 4 F.2.2.1 hI.top.2.2.1).1 (by decide)
                    have g39 : H30.1 3 1 F.2.1 = H.1 3 1 F.2.1 := (ehE35.1 3 1 F.2.1 hI.top.2.1).1 (by decide)
                    have g40 : H30.1 3 3 F.2.1 = H.1 3 3 F.2.1 := (ehE35.1 3 3 F.2.1 hI.top.2.1).1 (by decide)
                    have g41 : H30.1 5 5 q7 = H.1 5 5 q7 := (ehE35.1 5 5 q7 t8).1 (by decide)
                    have t42 : T32 0 q12 := shS34 _ _ t13
                    have t43 : T32 5 q7 := shS34 _ _ t8
                    have t44 : T32 10 F.1 := shS34 _ _ hI.top.1
                    have t45 : T32 6 x := shS34 _ _ (hS _ _ ta0)
                    obtain rfl := hv
                    try dsimp only [Option.toList, List.append, List.cons_append, List.nil_append]
                    refine J.run0 1 rfl ?_
                    try dsimp only
                    exact J.retb rfl rfl rfl (show (1 : Int) = 0 ∨ (1 : Int) = 1 by omega) ⟨_, rfl, T32, hI33, hS34, hE35, (show ((w31.2.1 : Nat) : Int) - 2 * H30.1 7 4 F.2.2.1 - 13 * H30.1 3 1 F.2.1 - H30.1 3 3 F.2.1 ≤ ((w0.2.1 : Nat) : Int) - 2 * H0.1 7 4 F.2.2.1 - 13 * H0.1 3 1 F.2.1 - H0.1 3 3 F.2.1 + (H30.1 6 11 x) by omega), (show ((w31.2.2 : Nat) : Int) - 18 * H30.1 7 4 F.2.2.1 - 700 * H30.1 3 1 F.2.1 - 6 * H30.1 3 3 F.2.1 ≤ ((w0.2.2 : Nat) : Int) - 18 * H0.1 7 4 F.2.2.1 - 700 * H0.1 3 1 F.2.1 - 6 * H0.1 3 3 F.2.1 + 10 * (H30.1 6 11 x) by omega), _, rfl, (show (((1 : Int)) = 0 ∨ ((1 : Int)) = 1) ∧ (((1 : Int)) = 0 → H30.1 6 11 x = 0) ∧ (((1 : Int)) = 0 → H30.1 0 1 (H30.2.2.2.2 6 1 x) < 120) from ⟨by omega, by omega, by omega⟩)⟩
      · skip
        refine J.run0 2 rfl ?_
        try dsimp only
        refine J.icmp rfl rfl rfl ⟨(show -2147483648 ≤ q ∧ q ≤ 2147483647 from ⟨by omega, by omega⟩), (show -2147483648 ≤ (32 : Int) ∧ (32 : Int) ≤ 2147483647 from ⟨by omega, by omega⟩)⟩ (fun hc => ?_) (fun hc => ?_)
        · have c46 : (32 : Int) ≤ q := hc
          clear hc
          refine J.run0 1 rfl ?_
          try dsimp only
          exact J.retb rfl rfl rfl (show (0 : Int) = 0 ∨ (0 : Int) = 1 by omega) ⟨_, rfl, T, hI, hS, hE, (show ((w.2.1 : Nat) : Int) - 2 * H.1 7 4 F.2.2.1 - 13 * H.1 3 1 F.2.1 - H.1 3 3 F.2.1 ≤ ((w0.2.1 : Nat) : Int) - 2 * H0.1 7 4 F.2.2.1 - 13 * H0.1 3 1 F.2.1 - H0.1 3 3 F.2.1 + (H.1 6 11 x) by omega), (show ((w.2.2 : Nat) : Int) - 18 * H.1 7 4 F.2.2.1 - 700 * H.1 3 1 F.2.1 - 6 * H.1 3 3 F.2.1 ≤ ((w0.2.2 : Nat) : Int) - 18 * H0.1 7 4 F.2.2.1 - 700 * H0.1 3 1 F.2.1 - 6 * H0.1 3 3 F.2.1 + 10 * (H.1 6 11 x) by omega), _, rfl, (show (((0 : Int)) = 0 ∨ ((0 : Int)) = 1) ∧ (((0 : Int)) = 0 → H.1 6 11 x = 0) ∧ (((0 : Int)) = 0 → H.1 0 1 (H.2.2.2.2 6 1 x) < 120) from ⟨by omega, by omega, by omega⟩)⟩
        · have c47 : ¬ ((32 : Int) ≤ q) := hc
          clear hc
          have f48 : -2147483648 ≤ jushr (j2) (q) ∧ jushr (j2) (q) ≤ 2147483647 := jI32 _
          have f49 : -2147483648 ≤ jand (jushr (j2) (q)) ((1 : Int)) ∧ jand (jushr (j2) (q)) ((1 : Int)) ≤ 2147483647 := jI32 _
          refine J.run0 6 rfl ?_
          try dsimp only
          refine J.icmp rfl rfl rfl ⟨(show -2147483648 ≤ jand (jushr (j2) (q)) ((1 : Int)) ∧ jand (jushr (j2) (q)) ((1 : Int)) ≤ 2147483647 from ⟨by omega, by omega⟩), (show -2147483648 ≤ (1 : Int) ∧ (1 : Int) ≤ 2147483647 from ⟨by omega, by omega⟩)⟩ (fun hc => ?_) (fun hc => ?_)
          · have c50 : ¬ (jand (jushr (j2) (q)) ((1 : Int)) = (1 : Int)) := hc
            clear hc
            refine J.run0 6 rfl ?_
            try dsimp only
            exact ih (q + 1) T w H _ (show 32 - (q + 1) < _ by omega) (show 0 ≤ (q + 1) ∧ (q + 1) ≤ 32 from ⟨by omega, by omega⟩) (show H.1 6 11 x = 0 from by omega) (show H.1 0 1 (H.2.2.2.2 6 1 x) < 120 from by omega) (show ((w.2.1 : Nat) : Int) - 2 * H.1 7 4 F.2.2.1 - 13 * H.1 3 1 F.2.1 - H.1 3 3 F.2.1 ≤ ((w0.2.1 : Nat) : Int) - 2 * H0.1 7 4 F.2.2.1 - 13 * H0.1 3 1 F.2.1 - H0.1 3 3 F.2.1 + (0) from by omega) (show ((w.2.2 : Nat) : Int) - 18 * H.1 7 4 F.2.2.1 - 700 * H.1 3 1 F.2.1 - 6 * H.1 3 3 F.2.1 ≤ ((w0.2.2 : Nat) : Int) - 18 * H0.1 7 4 F.2.2.1 - 700 * H0.1 3 1 F.2.1 - 6 * H0.1 3 3 F.2.1 + 10 * (0) from by omega) hI hS hE  (Or.inr (Or.inl ⟨_, rfl⟩))
          · have c51 : ¬ (¬ (jand (jushr (j2) (q)) ((1 : Int)) = (1 : Int))) := hc
            clear hc
            refine J.run0 3 rfl ?_
            try dsimp only
            refine J.inv rfl rfl rfl rfl rfl rfl ((jD_w rfl).mpr (hI.is hI.top.1)) rfl rfl rfl rfl rfl (c_X10_proposalOf (x := x) (round := q) hI (hS _ _ ta0) (show -2147483648 ≤ q ∧ q ≤ 2147483647 from ⟨by omega, by omega⟩)) ?_
            rintro v w H ⟨rfl, rfl, hv⟩
            rcases hv with ⟨rfl, r54⟩ | ⟨q52, rfl, t53, r54⟩
            · skip
              try dsimp only [Option.toList, List.append, List.cons_append, List.nil_append]
              refine J.run0 6 rfl ?_
              try dsimp only
              exact ih (q + 1) T w H _ (show 32 - (q + 1) < _ by omega) (show 0 ≤ (q + 1) ∧ (q + 1) ≤ 32 from ⟨by omega, by omega⟩) (show H.1 6 11 x = 0 from by omega) (show H.1 0 1 (H.2.2.2.2 6 1 x) < 120 from by omega) (show ((w.2.1 : Nat) : Int) - 2 * H.1 7 4 F.2.2.1 - 13 * H.1 3 1 F.2.1 - H.1 3 3 F.2.1 ≤ ((w0.2.1 : Nat) : Int) - 2 * H0.1 7 4 F.2.2.1 - 13 * H0.1 3 1 F.2.1 - H0.1 3 3 F.2.1 + (0) from by omega) (show ((w.2.2 : Nat) : Int) - 18 * H.1 7 4 F.2.2.1 - 700 * H.1 3 1 F.2.1 - 6 * H.1 3 3 F.2.1 ≤ ((w0.2.2 : Nat) : Int) - 18 * H0.1 7 4 F.2.2.1 - 700 * H0.1 3 1 F.2.1 - 6 * H0.1 3 3 F.2.1 + 10 * (0) from by omega) hI hS hE  (Or.inr (Or.inl ⟨_, rfl⟩))
            · skip
              have rL_X10_proposalOf_32 := r54
              try dsimp only [Option.toList, List.append, List.cons_append, List.nil_append]
              have f55 : 0 ≤ H.1 5 0 q52 ∧ H.1 5 0 q52 ≤ 5999 := hI.v 5 0 q52 t53
              refine J.run 6 rfl ⟨(hI.is hI.top.1), (hI.o 10 0 3 F.1 rfl hI.top.1).1⟩ ?_
              try dsimp only
              try dsimp only
              rw [show (H.2.2.2.2 10 0 F.1) = F.2.1 from hI.one.2.1 _ (hI.o 10 0 3 F.1 rfl hI.top.1).2]
              have f56 : (-2147483648) ≤ H.1 5 5 q52 ∧ H.1 5 5 q52 ≤ 2147483647 := hI.v 5 5 q52 t53
              refine J.run 2 rfl (hI.is t53) ?_
              try dsimp only
              refine J.inv rfl rfl rfl rfl rfl rfl ((jD_w rfl).mpr (hI.is hI.top.2.1)) rfl rfl rfl rfl rfl (c_X3_get (b := H.1 5 5 q52) hI  (show -2147483648 ≤ (H.1 5 5 q52) ∧ (H.1 5 5 q52) ≤ 2147483647 from ⟨by omega, by omega⟩)) ?_
              rintro v w H ⟨rfl, rfl, hv⟩
              rcases hv with ⟨rfl, r59⟩ | ⟨q57, rfl, t58, r59⟩
              · skip
                try dsimp only [Option.toList, List.append, List.cons_append, List.nil_append]
                refine J.run0 3 rfl ?_
                try dsimp only
                refine J.inv rfl rfl rfl rfl rfl rfl ((jD_w rfl).mpr (hI.is (hS _ _ ta0))) rfl rfl rfl rfl rfl (c_X6_isGood (a0 := x) (b := none) hI (hS _ _ ta0) (fun _ z => nomatch z) ) ?_
                rintro v w H ⟨rfl, rfl, hv⟩
                obtain ⟨x60, rfl, r61⟩ := hv
                have r61' : (x60 = 0 ∨ x60 = 1) ∧ (x60 = 1 → none ≠ none) := r61
                have rL_X6_isGood := r61
                have rL_X6_isGood_63 := r61
                try dsimp only [Option.toList, List.append, List.cons_append, List.nil_append]
                refine J.ifc rfl rfl rfl (show -2147483648 ≤ x60 ∧ x60 ≤ 2147483647 from ⟨by omega, by omega⟩) (fun hc => ?_) (fun hc => ?_)
                · have c62 : x60 = (0 : Int) := hc
                  clear hc
                  refine J.run0 2 rfl ?_
                  try dsimp only
                  exact ih (q + 1) T w H _ (show 32 - (q + 1) < _ by omega) (show 0 ≤ (q + 1) ∧ (q + 1) ≤ 32 from ⟨by omega, by omega⟩) (show H.1 6 11 x = 0 from by omega) (show H.1 0 1 (H.2.2.2.2 6 1 x) < 120 from by omega) (show ((w.2.1 : Nat) : Int) - 2 * H.1 7 4 F.2.2.1 - 13 * H.1 3 1 F.2.1 - H.1 3 3 F.2.1 ≤ ((w0.2.1 : Nat) : Int) - 2 * H0.1 7 4 F.2.2.1 - 13 * H0.1 3 1 F.2.1 - H0.1 3 3 F.2.1 + (0) from by omega) (show ((w.2.2 : Nat) : Int) - 18 * H.1 7 4 F.2.2.1 - 700 * H.1 3 1 F.2.1 - 6 * H.1 3 3 F.2.1 ≤ ((w0.2.2 : Nat) : Int) - 18 * H0.1 7 4 F.2.2.1 - 700 * H0.1 3 1 F.2.1 - 6 * H0.1 3 3 F.2.1 + 10 * (0) from by omega) hI hS hE  (Or.inr (Or.inr (Or.inl ⟨_, t53, _, rfl⟩)))
                · have c63 : ¬ (x60 = (0 : Int)) := hc
                  clear hc
                  exact absurd rfl (rL_X6_isGood.2 (by omega))
              · skip
                have rL_X3_get_55 := r59
                try dsimp only [Option.toList, List.append, List.cons_append, List.nil_append]
                have f64 : 0 ≤ H.1 0 1 q57 ∧ H.1 0 1 q57 ≤ 299 := hI.v 0 1 q57 t58
                refine J.run0 3 rfl ?_
                try dsimp only
                refine J.inv rfl rfl rfl rfl rfl rfl ((jD_w rfl).mpr (hI.is (hS _ _ ta0))) rfl rfl rfl rfl rfl (c_X6_isGood (a0 := x) (b := some q57) hI (hS _ _ ta0) (fun _ z => by cases z; exact t58) ) ?_
                rintro v w H ⟨rfl, rfl, hv⟩
                obtain ⟨x65, rfl, r66⟩ := hv
                have r66' : (x65 = 0 ∨ x65 = 1) ∧ (x65 = 1 → (some q57) ≠ none) := r66
                have rL_X6_isGood := r66
                have rL_X6_isGood_63 := r66
                try dsimp only [Option.toList, List.append, List.cons_append, List.nil_append]
                refine J.ifc rfl rfl rfl (show -2147483648 ≤ x65 ∧ x65 ≤ 2147483647 from ⟨by omega, by omega⟩) (fun hc => ?_) (fun hc => ?_)
                · have c67 : x65 = (0 : Int) := hc
                  clear hc
                  refine J.run0 2 rfl ?_
                  try dsimp only
                  exact ih (q + 1) T w H _ (show 32 - (q + 1) < _ by omega) (show 0 ≤ (q + 1) ∧ (q + 1) ≤ 32 from ⟨by omega, by omega⟩) (show H.1 6 11 x = 0 from by omega) (show H.1 0 1 (H.2.2.2.2 6 1 x) < 120 from by omega) (show ((w.2.1 : Nat) : Int) - 2 * H.1 7 4 F.2.2.1 - 13 * H.1 3 1 F.2.1 - H.1 3 3 F.2.1 ≤ ((w0.2.1 : Nat) : Int) - 2 * H0.1 7 4 F.2.2.1 - 13 * H0.1 3 1 F.2.1 - H0.1 3 3 F.2.1 + (0) from by omega) (show ((w.2.2 : Nat) : Int) - 18 * H.1 7 4 F.2.2.1 - 700 * H.1 3 1 F.2.1 - 6 * H.1 3 3 F.2.1 ≤ ((w0.2.2 : Nat) : Int) - 18 * H0.1 7 4 F.2.2.1 - 700 * H0.1 3 1 F.2.1 - 6 * H0.1 3 3 F.2.1 + 10 * (0) from by omega) hI hS hE  (Or.inr (Or.inr (Or.inr (Or.inl ⟨_, t58, _, t53, _, rfl⟩))))
                · have c68 : ¬ (x65 = (0 : Int)) := hc
                  clear hc
                  refine J.run 7 rfl (hI.is t53) ?_
                  try dsimp only
                  refine J.inv rfl rfl rfl rfl rfl rfl ((jD_w rfl).mpr (hI.is hI.top.1)) rfl rfl rfl rfl rfl (c_X10_heardFrom (x := x) (kind := (2 : Int)) (round := q) (block := H.1 5 5 q52) hI (hS _ _ ta0) (show -2147483648 ≤ (2 : Int) ∧ (2 : Int) ≤ 2147483647 from ⟨by omega, by omega⟩) (show -2147483648 ≤ q ∧ q ≤ 2147483647 from ⟨by omega, by omega⟩)) ?_
                  rintro v w H ⟨rfl, rfl, hv⟩
                  obtain ⟨x69, rfl, r70⟩ := hv
                  have rL_X10_heardFrom := r70
                  have rL_X10_heardFrom_79 := r70
                  try dsimp only [Option.toList, List.append, List.cons_append, List.nil_append]
                  refine J.inv rfl rfl rfl rfl rfl rfl ((jD_w rfl).mpr (hI.is (hS _ _ ta0))) rfl rfl rfl rfl rfl (c_X6_isMost (a0 := x) (bits := x69) hI (hS _ _ ta0) ) ?_
                  rintro v w H ⟨rfl, rfl, hv⟩
                  obtain ⟨x71, rfl, r72⟩ := hv
                  have r72' : x71 = 0 ∨ x71 = 1 := r72
                  have rL_X6_isMost := r72
                  have rL_X6_isMost_82 := r72
                  try dsimp only [Option.toList, List.append, List.cons_append, List.nil_append]
                  refine J.ifc rfl rfl rfl (show -2147483648 ≤ x71 ∧ x71 ≤ 2147483647 from ⟨by omega, by omega⟩) (fun hc => ?_) (fun hc => ?_)
                  · have c73 : x71 = (0 : Int) := hc
                    clear hc
                    refine J.run0 2 rfl ?_
                    try dsimp only
                    exact ih (q + 1) T w H _ (show 32 - (q + 1) < _ by omega) (show 0 ≤ (q + 1) ∧ (q + 1) ≤ 32 from ⟨by omega, by omega⟩) (show H.1 6 11 x = 0 from by omega) (show H.1 0 1 (H.2.2.2.2 6 1 x) < 120 from by omega) (show ((w.2.1 : Nat) : Int) - 2 * H.1 7 4 F.2.2.1 - 13 * H.1 3 1 F.2.1 - H.1 3 3 F.2.1 ≤ ((w0.2.1 : Nat) : Int) - 2 * H0.1 7 4 F.2.2.1 - 13 * H0.1 3 1 F.2.1 - H0.1 3 3 F.2.1 + (0) from by omega) (show ((w.2.2 : Nat) : Int) - 18 * H.1 7 4 F.2.2.1 - 700 * H.1 3 1 F.2.1 - 6 * H.1 3 3 F.2.1 ≤ ((w0.2.2 : Nat) : Int) - 18 * H0.1 7 4 F.2.2.1 - 700 * H0.1 3 1 F.2.1 - 6 * H0.1 3 3 F.2.1 + 10 * (0) from by omega) hI hS hE  (Or.inr (Or.inr (Or.inr (Or.inl ⟨_, t58, _, t53, _, rfl⟩))))
                  · have c74 : ¬ (x71 = (0 : Int)) := hc
                    clear hc
                    refine J.run0 2 rfl ?_
                    try dsimp only
                    refine J.inv rfl rfl rfl rfl rfl rfl ((jD_w rfl).mpr (hI.is (hS _ _ ta0))) rfl rfl rfl rfl rfl (c_X6_adopt (a0 := x) (b := q57) hI (hS _ _ ta0) t58 ) ?_
                    rintro v w76 H75 ⟨T77, hI78, shS79, ehE80, hr81, hr81s, hv⟩
                    have hr81' : ((w76.2.1 : Nat) : Int) - 2 * H75.1 7 4 F.2.2.1 - 13 * H75.1 3 1 F.2.1 - H75.1 3 3 F.2.1 ≤ ((w.2.1 : Nat) : Int) - 2 * H.1 7 4 F.2.2.1 - 13 * H.1 3 1 F.2.1 - H.1 3 3 F.2.1 + (0) := hr81
                    have hr81s' : ((w76.2.2 : Nat) : Int) - 18 * H75.1 7 4 F.2.2.1 - 700 * H75.1 3 1 F.2.1 - 6 * H75.1 3 3 F.2.1 ≤ ((w.2.2 : Nat) : Int) - 18 * H.1 7 4 F.2.2.1 - 700 * H.1 3 1 F.2.1 - 6 * H.1 3 3 F.2.1 + 10 * (0) := hr81s
                    have hE80 : cEx T0 [20601, 401, 402, 604, 605, 606, 607, 602, 603, 608, 609] H75 H0 := cEx.trans ehE80 hE hS (by decide)
                    have hS79 : ∀ k p, T0 k p → T77 k p := fun k p z => shS79 k p (hS k p z)
                    have g82 : H75.1 6 11 x = H.1 6 11 x := (ehE80.1 6 11 x (hS _ _ ta0)).1 (by decide)
                    have g83 : H75.1 7 4 F.2.2.1 = H.1 7 4 F.2.2.1 := (ehE80.1 7 4 F.2.2.1 hI.top.2.2.1).1 (by decide)
                    have g84 : H75.1 3 1 F.2.1 = H.1 3 1 F.2.1 := (ehE80.1 3 1 F.2.1 hI.top.2.1).1 (by decide)
                    have g85 : H75.1 3 3 F.2.1 = H.1 3 3 F.2.1 := (ehE80.1 3 3 F.2.1 hI.top.2.1).1 (by decide)
                    have g86 : H75.1 5 5 q52 = H.1 5 5 q52 := (ehE80.1 5 5 q52 t53).1 (by decide)
                    have t87 : T77 0 q57 := shS79 _ _ t58
                    have t88 : T77 5 q52 := shS79 _ _ t53
                    have t89 : T77 10 F.1 := shS79 _ _ hI.top.1
                    have t90 : T77 6 x := shS79 _ _ (hS _ _ ta0)
                    obtain rfl := hv
                    try dsimp only [Option.toList, List.append, List.cons_append, List.nil_append]
                    refine J.run0 1 rfl ?_
                    try dsimp only
                    exact J.retb rfl rfl rfl (show (1 : Int) = 0 ∨ (1 : Int) = 1 by omega) ⟨_, rfl, T77, hI78, hS79, hE80, (show ((w76.2.1 : Nat) : Int) - 2 * H75.1 7 4 F.2.2.1 - 13 * H75.1 3 1 F.2.1 - H75.1 3 3 F.2.1 ≤ ((w0.2.1 : Nat) : Int) - 2 * H0.1 7 4 F.2.2.1 - 13 * H0.1 3 1 F.2.1 - H0.1 3 3 F.2.1 + (H75.1 6 11 x) by omega), (show ((w76.2.2 : Nat) : Int) - 18 * H75.1 7 4 F.2.2.1 - 700 * H75.1 3 1 F.2.1 - 6 * H75.1 3 3 F.2.1 ≤ ((w0.2.2 : Nat) : Int) - 18 * H0.1 7 4 F.2.2.1 - 700 * H0.1 3 1 F.2.1 - 6 * H0.1 3 3 F.2.1 + 10 * (H75.1 6 11 x) by omega), _, rfl, (show (((1 : Int)) = 0 ∨ ((1 : Int)) = 1) ∧ (((1 : Int)) = 0 → H75.1 6 11 x = 0) ∧ (((1 : Int)) = 0 → H75.1 0 1 (H75.2.2.2.2 6 1 x) < 120) from ⟨by omega, by omega, by omega⟩)⟩
      · skip
        refine J.run0 2 rfl ?_
        try dsimp only
        refine J.icmp rfl rfl rfl ⟨(show -2147483648 ≤ q ∧ q ≤ 2147483647 from ⟨by omega, by omega⟩), (show -2147483648 ≤ (32 : Int) ∧ (32 : Int) ≤ 2147483647 from ⟨by omega, by omega⟩)⟩ (fun hc => ?_) (fun hc => ?_)
        · have c91 : (32 : Int) ≤ q := hc
          clear hc
          refine J.run0 1 rfl ?_
          try dsimp only
          exact J.retb rfl rfl rfl (show (0 : Int) = 0 ∨ (0 : Int) = 1 by omega) ⟨_, rfl, T, hI, hS, hE, (show ((w.2.1 : Nat) : Int) - 2 * H.1 7 4 F.2.2.1 - 13 * H.1 3 1 F.2.1 - H.1 3 3 F.2.1 ≤ ((w0.2.1 : Nat) : Int) - 2 * H0.1 7 4 F.2.2.1 - 13 * H0.1 3 1 F.2.1 - H0.1 3 3 F.2.1 + (H.1 6 11 x) by omega), (show ((w.2.2 : Nat) : Int) - 18 * H.1 7 4 F.2.2.1 - 700 * H.1 3 1 F.2.1 - 6 * H.1 3 3 F.2.1 ≤ ((w0.2.2 : Nat) : Int) - 18 * H0.1 7 4 F.2.2.1 - 700 * H0.1 3 1 F.2.1 - 6 * H0.1 3 3 F.2.1 + 10 * (H.1 6 11 x) by omega), _, rfl, (show (((0 : Int)) = 0 ∨ ((0 : Int)) = 1) ∧ (((0 : Int)) = 0 → H.1 6 11 x = 0) ∧ (((0 : Int)) = 0 → H.1 0 1 (H.2.2.2.2 6 1 x) < 120) from ⟨by omega, by omega, by omega⟩)⟩
        · have c92 : ¬ ((32 : Int) ≤ q) := hc
          clear hc
          have f93 : -2147483648 ≤ jushr (j2) (q) ∧ jushr (j2) (q) ≤ 2147483647 := jI32 _
          have f94 : -2147483648 ≤ jand (jushr (j2) (q)) ((1 : Int)) ∧ jand (jushr (j2) (q)) ((1 : Int)) ≤ 2147483647 := jI32 _
          refine J.run0 6 rfl ?_
          try dsimp only
          refine J.icmp rfl rfl rfl ⟨(show -2147483648 ≤ jand (jushr (j2) (q)) ((1 : Int)) ∧ jand (jushr (j2) (q)) ((1 : Int)) ≤ 2147483647 from ⟨by omega, by omega⟩), (show -2147483648 ≤ (1 : Int) ∧ (1 : Int) ≤ 2147483647 from ⟨by omega, by omega⟩)⟩ (fun hc => ?_) (fun hc => ?_)
          · have c95 : ¬ (jand (jushr (j2) (q)) ((1 : Int)) = (1 : Int)) := hc
            clear hc
            refine J.run0 6 rfl ?_
            try dsimp only
            exact ih (q + 1) T w H _ (show 32 - (q + 1) < _ by omega) (show 0 ≤ (q + 1) ∧ (q + 1) ≤ 32 from ⟨by omega, by omega⟩) (show H.1 6 11 x = 0 from by omega) (show H.1 0 1 (H.2.2.2.2 6 1 x) < 120 from by omega) (show ((w.2.1 : Nat) : Int) - 2 * H.1 7 4 F.2.2.1 - 13 * H.1 3 1 F.2.1 - H.1 3 3 F.2.1 ≤ ((w0.2.1 : Nat) : Int) - 2 * H0.1 7 4 F.2.2.1 - 13 * H0.1 3 1 F.2.1 - H0.1 3 3 F.2.1 + (0) from by omega) (show ((w.2.2 : Nat) : Int) - 18 * H.1 7 4 F.2.2.1 - 700 * H.1 3 1 F.2.1 - 6 * H.1 3 3 F.2.1 ≤ ((w0.2.2 : Nat) : Int) - 18 * H0.1 7 4 F.2.2.1 - 700 * H0.1 3 1 F.2.1 - 6 * H0.1 3 3 F.2.1 + 10 * (0) from by omega) hI hS hE  (Or.inr (Or.inr (Or.inr (Or.inr (Or.inl ⟨_, rfl⟩)))))
          · have c96 : ¬ (¬ (jand (jushr (j2) (q)) ((1 : Int)) = (1 : Int))) := hc
            clear hc
            refine J.run0 3 rfl ?_
            try dsimp only
            refine J.inv rfl rfl rfl rfl rfl rfl ((jD_w rfl).mpr (hI.is hI.top.1)) rfl rfl rfl rfl rfl (c_X10_proposalOf (x := x) (round := q) hI (hS _ _ ta0) (show -2147483648 ≤ q ∧ q ≤ 2147483647 from ⟨by omega, by omega⟩)) ?_
            rintro v w H ⟨rfl, rfl, hv⟩
            rcases hv with ⟨rfl, r99⟩ | ⟨q97, rfl, t98, r99⟩
            · skip
              try dsimp only [Option.toList, List.append, List.cons_append, List.nil_append]
              refine J.run0 6 rfl ?_
              try dsimp only
              exact ih (q + 1) T w H _ (show 32 - (q + 1) < _ by omega) (show 0 ≤ (q + 1) ∧ (q + 1) ≤ 32 from ⟨by omega, by omega⟩) (show H.1 6 11 x = 0 from by omega) (show H.1 0 1 (H.2.2.2.2 6 1 x) < 120 from by omega) (show ((w.2.1 : Nat) : Int) - 2 * H.1 7 4 F.2.2.1 - 13 * H.1 3 1 F.2.1 - H.1 3 3 F.2.1 ≤ ((w0.2.1 : Nat) : Int) - 2 * H0.1 7 4 F.2.2.1 - 13 * H0.1 3 1 F.2.1 - H0.1 3 3 F.2.1 + (0) from by omega) (show ((w.2.2 : Nat) : Int) - 18 * H.1 7 4 F.2.2.1 - 700 * H.1 3 1 F.2.1 - 6 * H.1 3 3 F.2.1 ≤ ((w0.2.2 : Nat) : Int) - 18 * H0.1 7 4 F.2.2.1 - 700 * H0.1 3 1 F.2.1 - 6 * H0.1 3 3 F.2.1 + 10 * (0) from by omega) hI hS hE  (Or.inr (Or.inr (Or.inr (Or.inr (Or.inl ⟨_, rfl⟩)))))
            · skip
              have rL_X10_proposalOf_32 := r99
              try dsimp only [Option.toList, List.append, List.cons_append, List.nil_append]
              have f100 : 0 ≤ H.1 5 0 q97 ∧ H.1 5 0 q97 ≤ 5999 := hI.v 5 0 q97 t98
              refine J.run 6 rfl ⟨(hI.is hI.top.1), (hI.o 10 0 3 F.1 rfl hI.top.1).1⟩ ?_
              try dsimp only
              try dsimp only
              rw [show (H.2.2.2.2 10 0 F.1) = F.2.1 from hI.one.2.1 _ (hI.o 10 0 3 F.1 rfl hI.top.1).2]
              have f101 : (-2147483648) ≤ H.1 5 5 q97 ∧ H.1 5 5 q97 ≤ 2147483647 := hI.v 5 5 q97 t98
              refine J.run 2 rfl (hI.is t98) ?_
              try dsimp only
              refine J.inv rfl rfl rfl rfl rfl rfl ((jD_w rfl).mpr (hI.is hI.top.2.1)) rfl rfl rfl rfl rfl (c_X3_get (b := H.1 5 5 q97) hI  (show -2147483648 ≤ (H.1 5 5 q97) ∧ (H.1 5 5 q97) ≤ 2147483647 from ⟨by omega, by omega⟩)) ?_
              rintro v w H ⟨rfl, rfl, hv⟩
              rcases hv with ⟨rfl, r104⟩ | ⟨q102, rfl, t103, r104⟩
              · skip
                try dsimp only [Option.toList, List.append, List.cons_append, List.nil_append]
                refine J.run0 3 rfl ?_
                try dsimp only
                refine J.inv rfl rfl rfl rfl rfl rfl ((jD_w rfl).mpr (hI.is (hS _ _ ta0))) rfl rfl rfl rfl rfl (c_X6_isGood (a0 := x) (b := none) hI (hS _ _ ta0) (fun _ z => nomatch z) ) ?_
                rintro v w H ⟨rfl, rfl, hv⟩
                obtain ⟨x105, rfl, r106⟩ := hv
                have r106' : (x105 = 0 ∨ x105 = 1) ∧ (x105 = 1 → none ≠ none) := r106
                have rL_X6_isGood := r106
                have rL_X6_isGood_63 := r106
                try dsimp only [Option.toList, List.append, List.cons_append, List.nil_append]
                refine J.ifc rfl rfl rfl (show -2147483648 ≤ x105 ∧ x105 ≤ 2147483647 from ⟨by omega, by omega⟩) (fun hc => ?_) (fun hc => ?_)
                · have c107 : x105 = (0 : Int) := hc
                  clear hc
                  refine J.run0 2 rfl ?_
                  try dsimp only
                  exact ih (q + 1) T w H _ (show 32 - (q + 1) < _ by omega) (show 0 ≤ (q + 1) ∧ (q + 1) ≤ 32 from ⟨by omega, by omega⟩) (show H.1 6 11 x = 0 from by omega) (show H.1 0 1 (H.2.2.2.2 6 1 x) < 120 from by omega) (show ((w.2.1 : Nat) : Int) - 2 * H.1 7 4 F.2.2.1 - 13 * H.1 3 1 F.2.1 - H.1 3 3 F.2.1 ≤ ((w0.2.1 : Nat) : Int) - 2 * H0.1 7 4 F.2.2.1 - 13 * H0.1 3 1 F.2.1 - H0.1 3 3 F.2.1 + (0) from by omega) (show ((w.2.2 : Nat) : Int) - 18 * H.1 7 4 F.2.2.1 - 700 * H.1 3 1 F.2.1 - 6 * H.1 3 3 F.2.1 ≤ ((w0.2.2 : Nat) : Int) - 18 * H0.1 7 4 F.2.2.1 - 700 * H0.1 3 1 F.2.1 - 6 * H0.1 3 3 F.2.1 + 10 * (0) from by omega) hI hS hE  (Or.inr (Or.inr (Or.inl ⟨_, t98, _, rfl⟩)))
                · have c108 : ¬ (x105 = (0 : Int)) := hc
                  clear hc
                  exact absurd rfl (rL_X6_isGood.2 (by omega))
              · skip
                have rL_X3_get_55 := r104
                try dsimp only [Option.toList, List.append, List.cons_append, List.nil_append]
                have f109 : 0 ≤ H.1 0 1 q102 ∧ H.1 0 1 q102 ≤ 299 := hI.v 0 1 q102 t103
                refine J.run0 3 rfl ?_
                try dsimp only
                refine J.inv rfl rfl rfl rfl rfl rfl ((jD_w rfl).mpr (hI.is (hS _ _ ta0))) rfl rfl rfl rfl rfl (c_X6_isGood (a0 := x) (b := some q102) hI (hS _ _ ta0) (fun _ z => by cases z; exact t103) ) ?_
                rintro v w H ⟨rfl, rfl, hv⟩
                obtain ⟨x110, rfl, r111⟩ := hv
                have r111' : (x110 = 0 ∨ x110 = 1) ∧ (x110 = 1 → (some q102) ≠ none) := r111
                have rL_X6_isGood := r111
                have rL_X6_isGood_63 := r111
                try dsimp only [Option.toList, List.append, List.cons_append, List.nil_append]
                refine J.ifc rfl rfl rfl (show -2147483648 ≤ x110 ∧ x110 ≤ 2147483647 from ⟨by omega, by omega⟩) (fun hc => ?_) (fun hc => ?_)
                · have c112 : x110 = (0 : Int) := hc
                  clear hc
                  refine J.run0 2 rfl ?_
                  try dsimp only
                  exact ih (q + 1) T w H _ (show 32 - (q + 1) < _ by omega) (show 0 ≤ (q + 1) ∧ (q + 1) ≤ 32 from ⟨by omega, by omega⟩) (show H.1 6 11 x = 0 from by omega) (show H.1 0 1 (H.2.2.2.2 6 1 x) < 120 from by omega) (show ((w.2.1 : Nat) : Int) - 2 * H.1 7 4 F.2.2.1 - 13 * H.1 3 1 F.2.1 - H.1 3 3 F.2.1 ≤ ((w0.2.1 : Nat) : Int) - 2 * H0.1 7 4 F.2.2.1 - 13 * H0.1 3 1 F.2.1 - H0.1 3 3 F.2.1 + (0) from by omega) (show ((w.2.2 : Nat) : Int) - 18 * H.1 7 4 F.2.2.1 - 700 * H.1 3 1 F.2.1 - 6 * H.1 3 3 F.2.1 ≤ ((w0.2.2 : Nat) : Int) - 18 * H0.1 7 4 F.2.2.1 - 700 * H0.1 3 1 F.2.1 - 6 * H0.1 3 3 F.2.1 + 10 * (0) from by omega) hI hS hE  (Or.inr (Or.inr (Or.inr (Or.inl ⟨_, t103, _, t98, _, rfl⟩))))
                · have c113 : ¬ (x110 = (0 : Int)) := hc
                  clear hc
                  refine J.run 7 rfl (hI.is t98) ?_
                  try dsimp only
                  refine J.inv rfl rfl rfl rfl rfl rfl ((jD_w rfl).mpr (hI.is hI.top.1)) rfl rfl rfl rfl rfl (c_X10_heardFrom (x := x) (kind := (2 : Int)) (round := q) (block := H.1 5 5 q97) hI (hS _ _ ta0) (show -2147483648 ≤ (2 : Int) ∧ (2 : Int) ≤ 2147483647 from ⟨by omega, by omega⟩) (show -2147483648 ≤ q ∧ q ≤ 2147483647 from ⟨by omega, by omega⟩)) ?_
                  rintro v w H ⟨rfl, rfl, hv⟩
                  obtain ⟨x114, rfl, r115⟩ := hv
                  have rL_X10_heardFrom := r115
                  have rL_X10_heardFrom_79 := r115
                  try dsimp only [Option.toList, List.append, List.cons_append, List.nil_append]
                  refine J.inv rfl rfl rfl rfl rfl rfl ((jD_w rfl).mpr (hI.is (hS _ _ ta0))) rfl rfl rfl rfl rfl (c_X6_isMost (a0 := x) (bits := x114) hI (hS _ _ ta0) ) ?_
                  rintro v w H ⟨rfl, rfl, hv⟩
                  obtain ⟨x116, rfl, r117⟩ := hv
                  have r117' : x116 = 0 ∨ x116 = 1 := r117
                  have rL_X6_isMost := r117
                  have rL_X6_isMost_82 := r117
                  try dsimp only [Option.toList, List.append, List.cons_append, List.nil_append]
                  refine J.ifc rfl rfl rfl (show -2147483648 ≤ x116 ∧ x116 ≤ 2147483647 from ⟨by omega, by omega⟩) (fun hc => ?_) (fun hc => ?_)
                  · have c118 : x116 = (0 : Int) := hc
                    clear hc
                    refine J.run0 2 rfl ?_
                    try dsimp only
                    exact ih (q + 1) T w H _ (show 32 - (q + 1) < _ by omega) (show 0 ≤ (q + 1) ∧ (q + 1) ≤ 32 from ⟨by omega, by omega⟩) (show H.1 6 11 x = 0 from by omega) (show H.1 0 1 (H.2.2.2.2 6 1 x) < 120 from by omega) (show ((w.2.1 : Nat) : Int) - 2 * H.1 7 4 F.2.2.1 - 13 * H.1 3 1 F.2.1 - H.1 3 3 F.2.1 ≤ ((w0.2.1 : Nat) : Int) - 2 * H0.1 7 4 F.2.2.1 - 13 * H0.1 3 1 F.2.1 - H0.1 3 3 F.2.1 + (0) from by omega) (show ((w.2.2 : Nat) : Int) - 18 * H.1 7 4 F.2.2.1 - 700 * H.1 3 1 F.2.1 - 6 * H.1 3 3 F.2.1 ≤ ((w0.2.2 : Nat) : Int) - 18 * H0.1 7 4 F.2.2.1 - 700 * H0.1 3 1 F.2.1 - 6 * H0.1 3 3 F.2.1 + 10 * (0) from by omega) hI hS hE  (Or.inr (Or.inr (Or.inr (Or.inl ⟨_, t103, _, t98, _, rfl⟩))))
                  · have c119 : ¬ (x116 = (0 : Int)) := hc
                    clear hc
                    refine J.run0 2 rfl ?_
                    try dsimp only
                    refine J.inv rfl rfl rfl rfl rfl rfl ((jD_w rfl).mpr (hI.is (hS _ _ ta0))) rfl rfl rfl rfl rfl (c_X6_adopt (a0 := x) (b := q102) hI (hS _ _ ta0) t103 ) ?_
                    rintro v w121 H120 ⟨T122, hI123, shS124, ehE125, hr126, hr126s, hv⟩
                    have hr126' : ((w121.2.1 : Nat) : Int) - 2 * H120.1 7 4 F.2.2.1 - 13 * H120.1 3 1 F.2.1 - H120.1 3 3 F.2.1 ≤ ((w.2.1 : Nat) : Int) - 2 * H.1 7 4 F.2.2.1 - 13 * H.1 3 1 F.2.1 - H.1 3 3 F.2.1 + (0) := hr126
                    have hr126s' : ((w121.2.2 : Nat) : Int) - 18 * H120.1 7 4 F.2.2.1 - 700 * H120.1 3 1 F.2.1 - 6 * H120.1 3 3 F.2.1 ≤ ((w.2.2 : Nat) : Int) - 18 * H.1 7 4 F.2.2.1 - 700 * H.1 3 1 F.2.1 - 6 * H.1 3 3 F.2.1 + 10 * (0) := hr126s
                    have hE125 : cEx T0 [20601, 401, 402, 604, 605, 606, 607, 602, 603, 608, 609] H120 H0 := cEx.trans ehE125 hE hS (by decide)
                    have hS124 : ∀ k p, T0 k p → T122 k p := fun k p z => shS124 k p (hS k p z)
                    have g127 : H120.1 6 11 x = H.1 6 11 x := (ehE125.1 6 11 x (hS _ _ ta0)).1 (by decide)
                    have g128 : H120.1 7 4 F.2.2.1 = H.1 7 4 F.2.2.1 := (ehE125.1 7 4 F.2.2.1 hI.top.2.2.1).1 (by decide)
                    have g129 : H120.1 3 1 F.2.1 = H.1 3 1 F.2.1 := (ehE125.1 3 1 F.2.1 hI.top.2.1).1 (by decide)
                    have g130 : H120.1 3 3 F.2.1 = H.1 3 3 F.2.1 := (ehE125.1 3 3 F.2.1 hI.top.2.1).1 (by decide)
                    have g131 : H120.1 5 5 q97 = H.1 5 5 q97 := (ehE125.1 5 5 q97 t98).1 (by decide)
                    have t132 : T122 0 q102 := shS124 _ _ t103
                    have t133 : T122 5 q97 := shS124 _ _ t98
                    have t134 : T122 10 F.1 := shS124 _ _ hI.top.1
                    have t135 : T122 6 x := shS124 _ _ (hS _ _ ta0)
                    obtain rfl := hv
                    try dsimp only [Option.toList, List.append, List.cons_append, List.nil_append]
                    refine J.run0 1 rfl ?_
                    try dsimp only
                    exact J.retb rfl rfl rfl (show (1 : Int) = 0 ∨ (1 : Int) = 1 by omega) ⟨_, rfl, T122, hI123, hS124, hE125, (show ((w121.2.1 : Nat) : Int) - 2 * H120.1 7 4 F.2.2.1 - 13 * H120.1 3 1 F.2.1 - H120.1 3 3 F.2.1 ≤ ((w0.2.1 : Nat) : Int) - 2 * H0.1 7 4 F.2.2.1 - 13 * H0.1 3 1 F.2.1 - H0.1 3 3 F.2.1 + (H120.1 6 11 x) by omega), (show ((w121.2.2 : Nat) : Int) - 18 * H120.1 7 4 F.2.2.1 - 700 * H120.1 3 1 F.2.1 - 6 * H120.1 3 3 F.2.1 ≤ ((w0.2.2 : Nat) : Int) - 18 * H0.1 7 4 F.2.2.1 - 700 * H0.1 3 1 F.2.1 - 6 * H0.1 3 3 F.2.1 + 10 * (H120.1 6 11 x) by omega), _, rfl, (show (((1 : Int)) = 0 ∨ ((1 : Int)) = 1) ∧ (((1 : Int)) = 0 → H120.1 6 11 x = 0) ∧ (((1 : Int)) = 0 → H120.1 0 1 (H120.2.2.2.2 6 1 x) < 120) from ⟨by omega, by omega, by omega⟩)⟩
      · skip
        refine J.run0 2 rfl ?_
        try dsimp only
        refine J.icmp rfl rfl rfl ⟨(show -2147483648 ≤ q ∧ q ≤ 2147483647 from ⟨by omega, by omega⟩), (show -2147483648 ≤ (32 : Int) ∧ (32 : Int) ≤ 2147483647 from ⟨by omega, by omega⟩)⟩ (fun hc => ?_) (fun hc => ?_)
        · have c136 : (32 : Int) ≤ q := hc
          clear hc
          refine J.run0 1 rfl ?_
          try dsimp only
          exact J.retb rfl rfl rfl (show (0 : Int) = 0 ∨ (0 : Int) = 1 by omega) ⟨_, rfl, T, hI, hS, hE, (show ((w.2.1 : Nat) : Int) - 2 * H.1 7 4 F.2.2.1 - 13 * H.1 3 1 F.2.1 - H.1 3 3 F.2.1 ≤ ((w0.2.1 : Nat) : Int) - 2 * H0.1 7 4 F.2.2.1 - 13 * H0.1 3 1 F.2.1 - H0.1 3 3 F.2.1 + (H.1 6 11 x) by omega), (show ((w.2.2 : Nat) : Int) - 18 * H.1 7 4 F.2.2.1 - 700 * H.1 3 1 F.2.1 - 6 * H.1 3 3 F.2.1 ≤ ((w0.2.2 : Nat) : Int) - 18 * H0.1 7 4 F.2.2.1 - 700 * H0.1 3 1 F.2.1 - 6 * H0.1 3 3 F.2.1 + 10 * (H.1 6 11 x) by omega), _, rfl, (show (((0 : Int)) = 0 ∨ ((0 : Int)) = 1) ∧ (((0 : Int)) = 0 → H.1 6 11 x = 0) ∧ (((0 : Int)) = 0 → H.1 0 1 (H.2.2.2.2 6 1 x) < 120) from ⟨by omega, by omega, by omega⟩)⟩
        · have c137 : ¬ ((32 : Int) ≤ q) := hc
          clear hc
          have f138 : -2147483648 ≤ jushr (j2) (q) ∧ jushr (j2) (q) ≤ 2147483647 := jI32 _
          have f139 : -2147483648 ≤ jand (jushr (j2) (q)) ((1 : Int)) ∧ jand (jushr (j2) (q)) ((1 : Int)) ≤ 2147483647 := jI32 _
          refine J.run0 6 rfl ?_
          try dsimp only
          refine J.icmp rfl rfl rfl ⟨(show -2147483648 ≤ jand (jushr (j2) (q)) ((1 : Int)) ∧ jand (jushr (j2) (q)) ((1 : Int)) ≤ 2147483647 from ⟨by omega, by omega⟩), (show -2147483648 ≤ (1 : Int) ∧ (1 : Int) ≤ 2147483647 from ⟨by omega, by omega⟩)⟩ (fun hc => ?_) (fun hc => ?_)
          · have c140 : ¬ (jand (jushr (j2) (q)) ((1 : Int)) = (1 : Int)) := hc
            clear hc
            refine J.run0 6 rfl ?_
            try dsimp only
            exact ih (q + 1) T w H _ (show 32 - (q + 1) < _ by omega) (show 0 ≤ (q + 1) ∧ (q + 1) ≤ 32 from ⟨by omega, by omega⟩) (show H.1 6 11 x = 0 from by omega) (show H.1 0 1 (H.2.2.2.2 6 1 x) < 120 from by omega) (show ((w.2.1 : Nat) : Int) - 2 * H.1 7 4 F.2.2.1 - 13 * H.1 3 1 F.2.1 - H.1 3 3 F.2.1 ≤ ((w0.2.1 : Nat) : Int) - 2 * H0.1 7 4 F.2.2.1 - 13 * H0.1 3 1 F.2.1 - H0.1 3 3 F.2.1 + (0) from by omega) (show ((w.2.2 : Nat) : Int) - 18 * H.1 7 4 F.2.2.1 - 700 * H.1 3 1 F.2.1 - 6 * H.1 3 3 F.2.1 ≤ ((w0.2.2 : Nat) : Int) - 18 * H0.1 7 4 F.2.2.1 - 700 * H0.1 3 1 F.2.1 - 6 * H0.1 3 3 F.2.1 + 10 * (0) from by omega) hI hS hE  (Or.inr (Or.inr (Or.inr (Or.inr (Or.inr (⟨_, to5, _, rfl⟩))))))
          · have c141 : ¬ (¬ (jand (jushr (j2) (q)) ((1 : Int)) = (1 : Int))) := hc
            clear hc
            refine J.run0 3 rfl ?_
            try dsimp only
            refine J.inv rfl rfl rfl rfl rfl rfl ((jD_w rfl).mpr (hI.is hI.top.1)) rfl rfl rfl rfl rfl (c_X10_proposalOf (x := x) (round := q) hI (hS _ _ ta0) (show -2147483648 ≤ q ∧ q ≤ 2147483647 from ⟨by omega, by omega⟩)) ?_
            rintro v w H ⟨rfl, rfl, hv⟩
            rcases hv with ⟨rfl, r144⟩ | ⟨q142, rfl, t143, r144⟩
            · skip
              try dsimp only [Option.toList, List.append, List.cons_append, List.nil_append]
              refine J.run0 6 rfl ?_
              try dsimp only
              exact ih (q + 1) T w H _ (show 32 - (q + 1) < _ by omega) (show 0 ≤ (q + 1) ∧ (q + 1) ≤ 32 from ⟨by omega, by omega⟩) (show H.1 6 11 x = 0 from by omega) (show H.1 0 1 (H.2.2.2.2 6 1 x) < 120 from by omega) (show ((w.2.1 : Nat) : Int) - 2 * H.1 7 4 F.2.2.1 - 13 * H.1 3 1 F.2.1 - H.1 3 3 F.2.1 ≤ ((w0.2.1 : Nat) : Int) - 2 * H0.1 7 4 F.2.2.1 - 13 * H0.1 3 1 F.2.1 - H0.1 3 3 F.2.1 + (0) from by omega) (show ((w.2.2 : Nat) : Int) - 18 * H.1 7 4 F.2.2.1 - 700 * H.1 3 1 F.2.1 - 6 * H.1 3 3 F.2.1 ≤ ((w0.2.2 : Nat) : Int) - 18 * H0.1 7 4 F.2.2.1 - 700 * H0.1 3 1 F.2.1 - 6 * H0.1 3 3 F.2.1 + 10 * (0) from by omega) hI hS hE  (Or.inr (Or.inr (Or.inr (Or.inr (Or.inr (⟨_, to5, _, rfl⟩))))))
            · skip
              have rL_X10_proposalOf_32 := r144
              try dsimp only [Option.toList, List.append, List.cons_append, List.nil_append]
              have f145 : 0 ≤ H.1 5 0 q142 ∧ H.1 5 0 q142 ≤ 5999 := hI.v 5 0 q142 t143
              refine J.run 6 rfl ⟨(hI.is hI.top.1), (hI.o 10 0 3 F.1 rfl hI.top.1).1⟩ ?_
              try dsimp only
              try dsimp only
              rw [show (H.2.2.2.2 10 0 F.1) = F.2.1 from hI.one.2.1 _ (hI.o 10 0 3 F.1 rfl hI.top.1).2]
              have f146 : (-2147483648) ≤ H.1 5 5 q142 ∧ H.1 5 5 q142 ≤ 2147483647 := hI.v 5 5 q142 t143
              refine J.run 2 rfl (hI.is t143) ?_
              try dsimp only
              refine J.inv rfl rfl rfl rfl rfl rfl ((jD_w rfl).mpr (hI.is hI.top.2.1)) rfl rfl rfl rfl rfl (c_X3_get (b := H.1 5 5 q142) hI  (show -2147483648 ≤ (H.1 5 5 q142) ∧ (H.1 5 5 q142) ≤ 2147483647 from ⟨by omega, by omega⟩)) ?_
              rintro v w H ⟨rfl, rfl, hv⟩
              rcases hv with ⟨rfl, r149⟩ | ⟨q147, rfl, t148, r149⟩
              · skip
                try dsimp only [Option.toList, List.append, List.cons_append, List.nil_append]
                refine J.run0 3 rfl ?_
                try dsimp only
                refine J.inv rfl rfl rfl rfl rfl rfl ((jD_w rfl).mpr (hI.is (hS _ _ ta0))) rfl rfl rfl rfl rfl (c_X6_isGood (a0 := x) (b := none) hI (hS _ _ ta0) (fun _ z => nomatch z) ) ?_
                rintro v w H ⟨rfl, rfl, hv⟩
                obtain ⟨x150, rfl, r151⟩ := hv
                have r151' : (x150 = 0 ∨ x150 = 1) ∧ (x150 = 1 → none ≠ none) := r151
                have rL_X6_isGood := r151
                have rL_X6_isGood_63 := r151
                try dsimp only [Option.toList, List.append, List.cons_append, List.nil_append]
                refine J.ifc rfl rfl rfl (show -2147483648 ≤ x150 ∧ x150 ≤ 2147483647 from ⟨by omega, by omega⟩) (fun hc => ?_) (fun hc => ?_)
                · have c152 : x150 = (0 : Int) := hc
                  clear hc
                  refine J.run0 2 rfl ?_
                  try dsimp only
                  exact ih (q + 1) T w H _ (show 32 - (q + 1) < _ by omega) (show 0 ≤ (q + 1) ∧ (q + 1) ≤ 32 from ⟨by omega, by omega⟩) (show H.1 6 11 x = 0 from by omega) (show H.1 0 1 (H.2.2.2.2 6 1 x) < 120 from by omega) (show ((w.2.1 : Nat) : Int) - 2 * H.1 7 4 F.2.2.1 - 13 * H.1 3 1 F.2.1 - H.1 3 3 F.2.1 ≤ ((w0.2.1 : Nat) : Int) - 2 * H0.1 7 4 F.2.2.1 - 13 * H0.1 3 1 F.2.1 - H0.1 3 3 F.2.1 + (0) from by omega) (show ((w.2.2 : Nat) : Int) - 18 * H.1 7 4 F.2.2.1 - 700 * H.1 3 1 F.2.1 - 6 * H.1 3 3 F.2.1 ≤ ((w0.2.2 : Nat) : Int) - 18 * H0.1 7 4 F.2.2.1 - 700 * H0.1 3 1 F.2.1 - 6 * H0.1 3 3 F.2.1 + 10 * (0) from by omega) hI hS hE  (Or.inr (Or.inr (Or.inl ⟨_, t143, _, rfl⟩)))
                · have c153 : ¬ (x150 = (0 : Int)) := hc
                  clear hc
                  exact absurd rfl (rL_X6_isGood.2 (by omega))
              · skip
                have rL_X3_get_55 := r149
                try dsimp only [Option.toList, List.append, List.cons_append, List.nil_append]
                have f154 : 0 ≤ H.1 0 1 q147 ∧ H.1 0 1 q147 ≤ 299 := hI.v 0 1 q147 t148
                refine J.run0 3 rfl ?_
                try dsimp only
                refine J.inv rfl rfl rfl rfl rfl rfl ((jD_w rfl).mpr (hI.is (hS _ _ ta0))) rfl rfl rfl rfl rfl (c_X6_isGood (a0 := x) (b := some q147) hI (hS _ _ ta0) (fun _ z => by cases z; exact t148) ) ?_
                rintro v w H ⟨rfl, rfl, hv⟩
                obtain ⟨x155, rfl, r156⟩ := hv
                have r156' : (x155 = 0 ∨ x155 = 1) ∧ (x155 = 1 → (some q147) ≠ none) := r156
                have rL_X6_isGood := r156
                have rL_X6_isGood_63 := r156
                try dsimp only [Option.toList, List.append, List.cons_append, List.nil_append]
                refine J.ifc rfl rfl rfl (show -2147483648 ≤ x155 ∧ x155 ≤ 2147483647 from ⟨by omega, by omega⟩) (fun hc => ?_) (fun hc => ?_)
                · have c157 : x155 = (0 : Int) := hc
                  clear hc
                  refine J.run0 2 rfl ?_
                  try dsimp only
                  exact ih (q + 1) T w H _ (show 32 - (q + 1) < _ by omega) (show 0 ≤ (q + 1) ∧ (q + 1) ≤ 32 from ⟨by omega, by omega⟩) (show H.1 6 11 x = 0 from by omega) (show H.1 0 1 (H.2.2.2.2 6 1 x) < 120 from by omega) (show ((w.2.1 : Nat) : Int) - 2 * H.1 7 4 F.2.2.1 - 13 * H.1 3 1 F.2.1 - H.1 3 3 F.2.1 ≤ ((w0.2.1 : Nat) : Int) - 2 * H0.1 7 4 F.2.2.1 - 13 * H0.1 3 1 F.2.1 - H0.1 3 3 F.2.1 + (0) from by omega) (show ((w.2.2 : Nat) : Int) - 18 * H.1 7 4 F.2.2.1 - 700 * H.1 3 1 F.2.1 - 6 * H.1 3 3 F.2.1 ≤ ((w0.2.2 : Nat) : Int) - 18 * H0.1 7 4 F.2.2.1 - 700 * H0.1 3 1 F.2.1 - 6 * H0.1 3 3 F.2.1 + 10 * (0) from by omega) hI hS hE  (Or.inr (Or.inr (Or.inr (Or.inl ⟨_, t148, _, t143, _, rfl⟩))))
                · have c158 : ¬ (x155 = (0 : Int)) := hc
                  clear hc
                  refine J.run 7 rfl (hI.is t143) ?_
                  try dsimp only
                  refine J.inv rfl rfl rfl rfl rfl rfl ((jD_w rfl).mpr (hI.is hI.top.1)) rfl rfl rfl rfl rfl (c_X10_heardFrom (x := x) (kind := (2 : Int)) (round := q) (block := H.1 5 5 q142) hI (hS _ _ ta0) (show -2147483648 ≤ (2 : Int) ∧ (2 : Int) ≤ 2147483647 from ⟨by omega, by omega⟩) (show -2147483648 ≤ q ∧ q ≤ 2147483647 from ⟨by omega, by omega⟩)) ?_
                  rintro v w H ⟨rfl, rfl, hv⟩
                  obtain ⟨x159, rfl, r160⟩ := hv
                  have rL_X10_heardFrom := r160
                  have rL_X10_heardFrom_79 := r160
                  try dsimp only [Option.toList, List.append, List.cons_append, List.nil_append]
                  refine J.inv rfl rfl rfl rfl rfl rfl ((jD_w rfl).mpr (hI.is (hS _ _ ta0))) rfl rfl rfl rfl rfl (c_X6_isMost (a0 := x) (bits := x159) hI (hS _ _ ta0) ) ?_
                  rintro v w H ⟨rfl, rfl, hv⟩
                  obtain ⟨x161, rfl, r162⟩ := hv
                  have r162' : x161 = 0 ∨ x161 = 1 := r162
                  have rL_X6_isMost := r162
                  have rL_X6_isMost_82 := r162
                  try dsimp only [Option.toList, List.append, List.cons_append, List.nil_append]
                  refine J.ifc rfl rfl rfl (show -2147483648 ≤ x161 ∧ x161 ≤ 2147483647 from ⟨by omega, by omega⟩) (fun hc => ?_) (fun hc => ?_)
                  · have c163 : x161 = (0 : Int) := hc
                    clear hc
                    refine J.run0 2 rfl ?_
                    try dsimp only
                    exact ih (q + 1) T w H _ (show 32 - (q + 1) < _ by omega) (show 0 ≤ (q + 1) ∧ (q + 1) ≤ 32 from ⟨by omega, by omega⟩) (show H.1 6 11 x = 0 from by omega) (show H.1 0 1 (H.2.2.2.2 6 1 x) < 120 from by omega) (show ((w.2.1 : Nat) : Int) - 2 * H.1 7 4 F.2.2.1 - 13 * H.1 3 1 F.2.1 - H.1 3 3 F.2.1 ≤ ((w0.2.1 : Nat) : Int) - 2 * H0.1 7 4 F.2.2.1 - 13 * H0.1 3 1 F.2.1 - H0.1 3 3 F.2.1 + (0) from by omega) (show ((w.2.2 : Nat) : Int) - 18 * H.1 7 4 F.2.2.1 - 700 * H.1 3 1 F.2.1 - 6 * H.1 3 3 F.2.1 ≤ ((w0.2.2 : Nat) : Int) - 18 * H0.1 7 4 F.2.2.1 - 700 * H0.1 3 1 F.2.1 - 6 * H0.1 3 3 F.2.1 + 10 * (0) from by omega) hI hS hE  (Or.inr (Or.inr (Or.inr (Or.inl ⟨_, t148, _, t143, _, rfl⟩))))
                  · have c164 : ¬ (x161 = (0 : Int)) := hc
                    clear hc
                    refine J.run0 2 rfl ?_
                    try dsimp only
                    refine J.inv rfl rfl rfl rfl rfl rfl ((jD_w rfl).mpr (hI.is (hS _ _ ta0))) rfl rfl rfl rfl rfl (c_X6_adopt (a0 := x) (b := q147) hI (hS _ _ ta0) t148 ) ?_
                    rintro v w166 H165 ⟨T167, hI168, shS169, ehE170, hr171, hr171s, hv⟩
                    have hr171' : ((w166.2.1 : Nat) : Int) - 2 * H165.1 7 4 F.2.2.1 - 13 * H165.1 3 1 F.2.1 - H165.1 3 3 F.2.1 ≤ ((w.2.1 : Nat) : Int) - 2 * H.1 7 4 F.2.2.1 - 13 * H.1 3 1 F.2.1 - H.1 3 3 F.2.1 + (0) := hr171
                    have hr171s' : ((w166.2.2 : Nat) : Int) - 18 * H165.1 7 4 F.2.2.1 - 700 * H165.1 3 1 F.2.1 - 6 * H165.1 3 3 F.2.1 ≤ ((w.2.2 : Nat) : Int) - 18 * H.1 7 4 F.2.2.1 - 700 * H.1 3 1 F.2.1 - 6 * H.1 3 3 F.2.1 + 10 * (0) := hr171s
                    have hE170 : cEx T0 [20601, 401, 402, 604, 605, 606, 607, 602, 603, 608, 609] H165 H0 := cEx.trans ehE170 hE hS (by decide)
                    have hS169 : ∀ k p, T0 k p → T167 k p := fun k p z => shS169 k p (hS k p z)
                    have g172 : H165.1 6 11 x = H.1 6 11 x := (ehE170.1 6 11 x (hS _ _ ta0)).1 (by decide)
                    have g173 : H165.1 7 4 F.2.2.1 = H.1 7 4 F.2.2.1 := (ehE170.1 7 4 F.2.2.1 hI.top.2.2.1).1 (by decide)
                    have g174 : H165.1 3 1 F.2.1 = H.1 3 1 F.2.1 := (ehE170.1 3 1 F.2.1 hI.top.2.1).1 (by decide)
                    have g175 : H165.1 3 3 F.2.1 = H.1 3 3 F.2.1 := (ehE170.1 3 3 F.2.1 hI.top.2.1).1 (by decide)
                    have g176 : H165.1 5 5 q142 = H.1 5 5 q142 := (ehE170.1 5 5 q142 t143).1 (by decide)
                    have t177 : T167 0 q147 := shS169 _ _ t148
                    have t178 : T167 5 q142 := shS169 _ _ t143
                    have t179 : T167 10 F.1 := shS169 _ _ hI.top.1
                    have t180 : T167 6 x := shS169 _ _ (hS _ _ ta0)
                    obtain rfl := hv
                    try dsimp only [Option.toList, List.append, List.cons_append, List.nil_append]
                    refine J.run0 1 rfl ?_
                    try dsimp only
                    exact J.retb rfl rfl rfl (show (1 : Int) = 0 ∨ (1 : Int) = 1 by omega) ⟨_, rfl, T167, hI168, hS169, hE170, (show ((w166.2.1 : Nat) : Int) - 2 * H165.1 7 4 F.2.2.1 - 13 * H165.1 3 1 F.2.1 - H165.1 3 3 F.2.1 ≤ ((w0.2.1 : Nat) : Int) - 2 * H0.1 7 4 F.2.2.1 - 13 * H0.1 3 1 F.2.1 - H0.1 3 3 F.2.1 + (H165.1 6 11 x) by omega), (show ((w166.2.2 : Nat) : Int) - 18 * H165.1 7 4 F.2.2.1 - 700 * H165.1 3 1 F.2.1 - 6 * H165.1 3 3 F.2.1 ≤ ((w0.2.2 : Nat) : Int) - 18 * H0.1 7 4 F.2.2.1 - 700 * H0.1 3 1 F.2.1 - 6 * H0.1 3 3 F.2.1 + 10 * (H165.1 6 11 x) by omega), _, rfl, (show (((1 : Int)) = 0 ∨ ((1 : Int)) = 1) ∧ (((1 : Int)) = 0 → H165.1 6 11 x = 0) ∧ (((1 : Int)) = 0 → H165.1 0 1 (H165.2.2.2.2 6 1 x) < 120) from ⟨by omega, by omega, by omega⟩)⟩
      · skip
        refine J.run0 2 rfl ?_
        try dsimp only
        refine J.icmp rfl rfl rfl ⟨(show -2147483648 ≤ q ∧ q ≤ 2147483647 from ⟨by omega, by omega⟩), (show -2147483648 ≤ (32 : Int) ∧ (32 : Int) ≤ 2147483647 from ⟨by omega, by omega⟩)⟩ (fun hc => ?_) (fun hc => ?_)
        · have c181 : (32 : Int) ≤ q := hc
          clear hc
          refine J.run0 1 rfl ?_
          try dsimp only
          exact J.retb rfl rfl rfl (show (0 : Int) = 0 ∨ (0 : Int) = 1 by omega) ⟨_, rfl, T, hI, hS, hE, (show ((w.2.1 : Nat) : Int) - 2 * H.1 7 4 F.2.2.1 - 13 * H.1 3 1 F.2.1 - H.1 3 3 F.2.1 ≤ ((w0.2.1 : Nat) : Int) - 2 * H0.1 7 4 F.2.2.1 - 13 * H0.1 3 1 F.2.1 - H0.1 3 3 F.2.1 + (H.1 6 11 x) by omega), (show ((w.2.2 : Nat) : Int) - 18 * H.1 7 4 F.2.2.1 - 700 * H.1 3 1 F.2.1 - 6 * H.1 3 3 F.2.1 ≤ ((w0.2.2 : Nat) : Int) - 18 * H0.1 7 4 F.2.2.1 - 700 * H0.1 3 1 F.2.1 - 6 * H0.1 3 3 F.2.1 + 10 * (H.1 6 11 x) by omega), _, rfl, (show (((0 : Int)) = 0 ∨ ((0 : Int)) = 1) ∧ (((0 : Int)) = 0 → H.1 6 11 x = 0) ∧ (((0 : Int)) = 0 → H.1 0 1 (H.2.2.2.2 6 1 x) < 120) from ⟨by omega, by omega, by omega⟩)⟩
        · have c182 : ¬ ((32 : Int) ≤ q) := hc
          clear hc
          have f183 : -2147483648 ≤ jushr (j2) (q) ∧ jushr (j2) (q) ≤ 2147483647 := jI32 _
          have f184 : -2147483648 ≤ jand (jushr (j2) (q)) ((1 : Int)) ∧ jand (jushr (j2) (q)) ((1 : Int)) ≤ 2147483647 := jI32 _
          refine J.run0 6 rfl ?_
          try dsimp only
          refine J.icmp rfl rfl rfl ⟨(show -2147483648 ≤ jand (jushr (j2) (q)) ((1 : Int)) ∧ jand (jushr (j2) (q)) ((1 : Int)) ≤ 2147483647 from ⟨by omega, by omega⟩), (show -2147483648 ≤ (1 : Int) ∧ (1 : Int) ≤ 2147483647 from ⟨by omega, by omega⟩)⟩ (fun hc => ?_) (fun hc => ?_)
          · have c185 : ¬ (jand (jushr (j2) (q)) ((1 : Int)) = (1 : Int)) := hc
            clear hc
            refine J.run0 6 rfl ?_
            try dsimp only
            exact ih (q + 1) T w H _ (show 32 - (q + 1) < _ by omega) (show 0 ≤ (q + 1) ∧ (q + 1) ≤ 32 from ⟨by omega, by omega⟩) (show H.1 6 11 x = 0 from by omega) (show H.1 0 1 (H.2.2.2.2 6 1 x) < 120 from by omega) (show ((w.2.1 : Nat) : Int) - 2 * H.1 7 4 F.2.2.1 - 13 * H.1 3 1 F.2.1 - H.1 3 3 F.2.1 ≤ ((w0.2.1 : Nat) : Int) - 2 * H0.1 7 4 F.2.2.1 - 13 * H0.1 3 1 F.2.1 - H0.1 3 3 F.2.1 + (0) from by omega) (show ((w.2.2 : Nat) : Int) - 18 * H.1 7 4 F.2.2.1 - 700 * H.1 3 1 F.2.1 - 6 * H.1 3 3 F.2.1 ≤ ((w0.2.2 : Nat) : Int) - 18 * H0.1 7 4 F.2.2.1 - 700 * H0.1 3 1 F.2.1 - 6 * H0.1 3 3 F.2.1 + 10 * (0) from by omega) hI hS hE  (Or.inr (Or.inr (Or.inr (Or.inr (Or.inl ⟨_, rfl⟩)))))
          · have c186 : ¬ (¬ (jand (jushr (j2) (q)) ((1 : Int)) = (1 : Int))) := hc
            clear hc
            refine J.run0 3 rfl ?_
            try dsimp only
            refine J.inv rfl rfl rfl rfl rfl rfl ((jD_w rfl).mpr (hI.is hI.top.1)) rfl rfl rfl rfl rfl (c_X10_proposalOf (x := x) (round := q) hI (hS _ _ ta0) (show -2147483648 ≤ q ∧ q ≤ 2147483647 from ⟨by omega, by omega⟩)) ?_
            rintro v w H ⟨rfl, rfl, hv⟩
            rcases hv with ⟨rfl, r189⟩ | ⟨q187, rfl, t188, r189⟩
            · skip
              try dsimp only [Option.toList, List.append, List.cons_append, List.nil_append]
              refine J.run0 6 rfl ?_
              try dsimp only
              exact ih (q + 1) T w H _ (show 32 - (q + 1) < _ by omega) (show 0 ≤ (q + 1) ∧ (q + 1) ≤ 32 from ⟨by omega, by omega⟩) (show H.1 6 11 x = 0 from by omega) (show H.1 0 1 (H.2.2.2.2 6 1 x) < 120 from by omega) (show ((w.2.1 : Nat) : Int) - 2 * H.1 7 4 F.2.2.1 - 13 * H.1 3 1 F.2.1 - H.1 3 3 F.2.1 ≤ ((w0.2.1 : Nat) : Int) - 2 * H0.1 7 4 F.2.2.1 - 13 * H0.1 3 1 F.2.1 - H0.1 3 3 F.2.1 + (0) from by omega) (show ((w.2.2 : Nat) : Int) - 18 * H.1 7 4 F.2.2.1 - 700 * H.1 3 1 F.2.1 - 6 * H.1 3 3 F.2.1 ≤ ((w0.2.2 : Nat) : Int) - 18 * H0.1 7 4 F.2.2.1 - 700 * H0.1 3 1 F.2.1 - 6 * H0.1 3 3 F.2.1 + 10 * (0) from by omega) hI hS hE  (Or.inr (Or.inr (Or.inr (Or.inr (Or.inl ⟨_, rfl⟩)))))
            · skip
              have rL_X10_proposalOf_32 := r189
              try dsimp only [Option.toList, List.append, List.cons_append, List.nil_append]
              have f190 : 0 ≤ H.1 5 0 q187 ∧ H.1 5 0 q187 ≤ 5999 := hI.v 5 0 q187 t188
              refine J.run 6 rfl ⟨(hI.is hI.top.1), (hI.o 10 0 3 F.1 rfl hI.top.1).1⟩ ?_
              try dsimp only
              try dsimp only
              rw [show (H.2.2.2.2 10 0 F.1) = F.2.1 from hI.one.2.1 _ (hI.o 10 0 3 F.1 rfl hI.top.1).2]
              have f191 : (-2147483648) ≤ H.1 5 5 q187 ∧ H.1 5 5 q187 ≤ 2147483647 := hI.v 5 5 q187 t188
              refine J.run 2 rfl (hI.is t188) ?_
              try dsimp only
              refine J.inv rfl rfl rfl rfl rfl rfl ((jD_w rfl).mpr (hI.is hI.top.2.1)) rfl rfl rfl rfl rfl (c_X3_get (b := H.1 5 5 q187) hI  (show -2147483648 ≤ (H.1 5 5 q187) ∧ (H.1 5 5 q187) ≤ 2147483647 from ⟨by omega, by omega⟩)) ?_
              rintro v w H ⟨rfl, rfl, hv⟩
              rcases hv with ⟨rfl, r194⟩ | ⟨q192, rfl, t193, r194⟩
              · skip
                try dsimp only [Option.toList, List.append, List.cons_append, List.nil_append]
                refine J.run0 3 rfl ?_
                try dsimp only
                refine J.inv rfl rfl rfl rfl rfl rfl ((jD_w rfl).mpr (hI.is (hS _ _ ta0))) rfl rfl rfl rfl rfl (c_X6_isGood (a0 := x) (b := none) hI (hS _ _ ta0) (fun _ z => nomatch z) ) ?_
                rintro v w H ⟨rfl, rfl, hv⟩
                obtain ⟨x195, rfl, r196⟩ := hv
                have r196' : (x195 = 0 ∨ x195 = 1) ∧ (x195 = 1 → none ≠ none) := r196
                have rL_X6_isGood := r196
                have rL_X6_isGood_63 := r196
                try dsimp only [Option.toList, List.append, List.cons_append, List.nil_append]
                refine J.ifc rfl rfl rfl (show -2147483648 ≤ x195 ∧ x195 ≤ 2147483647 from ⟨by omega, by omega⟩) (fun hc => ?_) (fun hc => ?_)
                · have c197 : x195 = (0 : Int) := hc
                  clear hc
                  refine J.run0 2 rfl ?_
                  try dsimp only
                  exact ih (q + 1) T w H _ (show 32 - (q + 1) < _ by omega) (show 0 ≤ (q + 1) ∧ (q + 1) ≤ 32 from ⟨by omega, by omega⟩) (show H.1 6 11 x = 0 from by omega) (show H.1 0 1 (H.2.2.2.2 6 1 x) < 120 from by omega) (show ((w.2.1 : Nat) : Int) - 2 * H.1 7 4 F.2.2.1 - 13 * H.1 3 1 F.2.1 - H.1 3 3 F.2.1 ≤ ((w0.2.1 : Nat) : Int) - 2 * H0.1 7 4 F.2.2.1 - 13 * H0.1 3 1 F.2.1 - H0.1 3 3 F.2.1 + (0) from by omega) (show ((w.2.2 : Nat) : Int) - 18 * H.1 7 4 F.2.2.1 - 700 * H.1 3 1 F.2.1 - 6 * H.1 3 3 F.2.1 ≤ ((w0.2.2 : Nat) : Int) - 18 * H0.1 7 4 F.2.2.1 - 700 * H0.1 3 1 F.2.1 - 6 * H0.1 3 3 F.2.1 + 10 * (0) from by omega) hI hS hE  (Or.inr (Or.inr (Or.inl ⟨_, t188, _, rfl⟩)))
                · have c198 : ¬ (x195 = (0 : Int)) := hc
                  clear hc
                  exact absurd rfl (rL_X6_isGood.2 (by omega))
              · skip
                have rL_X3_get_55 := r194
                try dsimp only [Option.toList, List.append, List.cons_append, List.nil_append]
                have f199 : 0 ≤ H.1 0 1 q192 ∧ H.1 0 1 q192 ≤ 299 := hI.v 0 1 q192 t193
                refine J.run0 3 rfl ?_
                try dsimp only
                refine J.inv rfl rfl rfl rfl rfl rfl ((jD_w rfl).mpr (hI.is (hS _ _ ta0))) rfl rfl rfl rfl rfl (c_X6_isGood (a0 := x) (b := some q192) hI (hS _ _ ta0) (fun _ z => by cases z; exact t193) ) ?_
                rintro v w H ⟨rfl, rfl, hv⟩
                obtain ⟨x200, rfl, r201⟩ := hv
                have r201' : (x200 = 0 ∨ x200 = 1) ∧ (x200 = 1 → (some q192) ≠ none) := r201
                have rL_X6_isGood := r201
                have rL_X6_isGood_63 := r201
                try dsimp only [Option.toList, List.append, List.cons_append, List.nil_append]
                refine J.ifc rfl rfl rfl (show -2147483648 ≤ x200 ∧ x200 ≤ 2147483647 from ⟨by omega, by omega⟩) (fun hc => ?_) (fun hc => ?_)
                · have c202 : x200 = (0 : Int) := hc
                  clear hc
                  refine J.run0 2 rfl ?_
                  try dsimp only
                  exact ih (q + 1) T w H _ (show 32 - (q + 1) < _ by omega) (show 0 ≤ (q + 1) ∧ (q + 1) ≤ 32 from ⟨by omega, by omega⟩) (show H.1 6 11 x = 0 from by omega) (show H.1 0 1 (H.2.2.2.2 6 1 x) < 120 from by omega) (show ((w.2.1 : Nat) : Int) - 2 * H.1 7 4 F.2.2.1 - 13 * H.1 3 1 F.2.1 - H.1 3 3 F.2.1 ≤ ((w0.2.1 : Nat) : Int) - 2 * H0.1 7 4 F.2.2.1 - 13 * H0.1 3 1 F.2.1 - H0.1 3 3 F.2.1 + (0) from by omega) (show ((w.2.2 : Nat) : Int) - 18 * H.1 7 4 F.2.2.1 - 700 * H.1 3 1 F.2.1 - 6 * H.1 3 3 F.2.1 ≤ ((w0.2.2 : Nat) : Int) - 18 * H0.1 7 4 F.2.2.1 - 700 * H0.1 3 1 F.2.1 - 6 * H0.1 3 3 F.2.1 + 10 * (0) from by omega) hI hS hE  (Or.inr (Or.inr (Or.inr (Or.inl ⟨_, t193, _, t188, _, rfl⟩))))
                · have c203 : ¬ (x200 = (0 : Int)) := hc
                  clear hc
                  refine J.run 7 rfl (hI.is t188) ?_
                  try dsimp only
                  refine J.inv rfl rfl rfl rfl rfl rfl ((jD_w rfl).mpr (hI.is hI.top.1)) rfl rfl rfl rfl rfl (c_X10_heardFrom (x := x) (kind := (2 : Int)) (round := q) (block := H.1 5 5 q187) hI (hS _ _ ta0) (show -2147483648 ≤ (2 : Int) ∧ (2 : Int) ≤ 2147483647 from ⟨by omega, by omega⟩) (show -2147483648 ≤ q ∧ q ≤ 2147483647 from ⟨by omega, by omega⟩)) ?_
                  rintro v w H ⟨rfl, rfl, hv⟩
                  obtain ⟨x204, rfl, r205⟩ := hv
                  have rL_X10_heardFrom := r205
                  have rL_X10_heardFrom_79 := r205
                  try dsimp only [Option.toList, List.append, List.cons_append, List.nil_append]
                  refine J.inv rfl rfl rfl rfl rfl rfl ((jD_w rfl).mpr (hI.is (hS _ _ ta0))) rfl rfl rfl rfl rfl (c_X6_isMost (a0 := x) (bits := x204) hI (hS _ _ ta0) ) ?_
                  rintro v w H ⟨rfl, rfl, hv⟩
                  obtain ⟨x206, rfl, r207⟩ := hv
                  have r207' : x206 = 0 ∨ x206 = 1 := r207
                  have rL_X6_isMost := r207
                  have rL_X6_isMost_82 := r207
                  try dsimp only [Option.toList, List.append, List.cons_append, List.nil_append]
                  refine J.ifc rfl rfl rfl (show -2147483648 ≤ x206 ∧ x206 ≤ 2147483647 from ⟨by omega, by omega⟩) (fun hc => ?_) (fun hc => ?_)
                  · have c208 : x206 = (0 : Int) := hc
                    clear hc
                    refine J.run0 2 rfl ?_
                    try dsimp only
                    exact ih (q + 1) T w H _ (show 32 - (q + 1) < _ by omega) (show 0 ≤ (q + 1) ∧ (q + 1) ≤ 32 from ⟨by omega, by omega⟩) (show H.1 6 11 x = 0 from by omega) (show H.1 0 1 (H.2.2.2.2 6 1 x) < 120 from by omega) (show ((w.2.1 : Nat) : Int) - 2 * H.1 7 4 F.2.2.1 - 13 * H.1 3 1 F.2.1 - H.1 3 3 F.2.1 ≤ ((w0.2.1 : Nat) : Int) - 2 * H0.1 7 4 F.2.2.1 - 13 * H0.1 3 1 F.2.1 - H0.1 3 3 F.2.1 + (0) from by omega) (show ((w.2.2 : Nat) : Int) - 18 * H.1 7 4 F.2.2.1 - 700 * H.1 3 1 F.2.1 - 6 * H.1 3 3 F.2.1 ≤ ((w0.2.2 : Nat) : Int) - 18 * H0.1 7 4 F.2.2.1 - 700 * H0.1 3 1 F.2.1 - 6 * H0.1 3 3 F.2.1 + 10 * (0) from by omega) hI hS hE  (Or.inr (Or.inr (Or.inr (Or.inl ⟨_, t193, _, t188, _, rfl⟩))))
                  · have c209 : ¬ (x206 = (0 : Int)) := hc
                    clear hc
                    refine J.run0 2 rfl ?_
                    try dsimp only
                    refine J.inv rfl rfl rfl rfl rfl rfl ((jD_w rfl).mpr (hI.is (hS _ _ ta0))) rfl rfl rfl rfl rfl (c_X6_adopt (a0 := x) (b := q192) hI (hS _ _ ta0) t193 ) ?_
                    rintro v w211 H210 ⟨T212, hI213, shS214, ehE215, hr216, hr216s, hv⟩
                    have hr216' : ((w211.2.1 : Nat) : Int) - 2 * H210.1 7 4 F.2.2.1 - 13 * H210.1 3 1 F.2.1 - H210.1 3 3 F.2.1 ≤ ((w.2.1 : Nat) : Int) - 2 * H.1 7 4 F.2.2.1 - 13 * H.1 3 1 F.2.1 - H.1 3 3 F.2.1 + (0) := hr216
                    have hr216s' : ((w211.2.2 : Nat) : Int) - 18 * H210.1 7 4 F.2.2.1 - 700 * H210.1 3 1 F.2.1 - 6 * H210.1 3 3 F.2.1 ≤ ((w.2.2 : Nat) : Int) - 18 * H.1 7 4 F.2.2.1 - 700 * H.1 3 1 F.2.1 - 6 * H.1 3 3 F.2.1 + 10 * (0) := hr216s
                    have hE215 : cEx T0 [20601, 401, 402, 604, 605, 606, 607, 602, 603, 608, 609] H210 H0 := cEx.trans ehE215 hE hS (by decide)
                    have hS214 : ∀ k p, T0 k p → T212 k p := fun k p z => shS214 k p (hS k p z)
                    have g217 : H210.1 6 11 x = H.1 6 11 x := (ehE215.1 6 11 x (hS _ _ ta0)).1 (by decide)
                    have g218 : H210.1 7 4 F.2.2.1 = H.1 7 4 F.2.2.1 := (ehE215.1 7 4 F.2.2.1 hI.top.2.2.1).1 (by decide)
                    have g219 : H210.1 3 1 F.2.1 = H.1 3 1 F.2.1 := (ehE215.1 3 1 F.2.1 hI.top.2.1).1 (by decide)
                    have g220 : H210.1 3 3 F.2.1 = H.1 3 3 F.2.1 := (ehE215.1 3 3 F.2.1 hI.top.2.1).1 (by decide)
                    have g221 : H210.1 5 5 q187 = H.1 5 5 q187 := (ehE215.1 5 5 q187 t188).1 (by decide)
                    have t222 : T212 0 q192 := shS214 _ _ t193
                    have t223 : T212 5 q187 := shS214 _ _ t188
                    have t224 : T212 10 F.1 := shS214 _ _ hI.top.1
                    have t225 : T212 6 x := shS214 _ _ (hS _ _ ta0)
                    obtain rfl := hv
                    try dsimp only [Option.toList, List.append, List.cons_append, List.nil_append]
                    refine J.run0 1 rfl ?_
                    try dsimp only
                    exact J.retb rfl rfl rfl (show (1 : Int) = 0 ∨ (1 : Int) = 1 by omega) ⟨_, rfl, T212, hI213, hS214, hE215, (show ((w211.2.1 : Nat) : Int) - 2 * H210.1 7 4 F.2.2.1 - 13 * H210.1 3 1 F.2.1 - H210.1 3 3 F.2.1 ≤ ((w0.2.1 : Nat) : Int) - 2 * H0.1 7 4 F.2.2.1 - 13 * H0.1 3 1 F.2.1 - H0.1 3 3 F.2.1 + (H210.1 6 11 x) by omega), (show ((w211.2.2 : Nat) : Int) - 18 * H210.1 7 4 F.2.2.1 - 700 * H210.1 3 1 F.2.1 - 6 * H210.1 3 3 F.2.1 ≤ ((w0.2.2 : Nat) : Int) - 18 * H0.1 7 4 F.2.2.1 - 700 * H0.1 3 1 F.2.1 - 6 * H0.1 3 3 F.2.1 + 10 * (H210.1 6 11 x) by omega), _, rfl, (show (((1 : Int)) = 0 ∨ ((1 : Int)) = 1) ∧ (((1 : Int)) = 0 → H210.1 6 11 x = 0) ∧ (((1 : Int)) = 0 → H210.1 0 1 (H210.2.2.2.2 6 1 x) < 120) from ⟨by omega, by omega, by omega⟩)⟩
      · skip
        refine J.run0 2 rfl ?_
        try dsimp only
        refine J.icmp rfl rfl rfl ⟨(show -2147483648 ≤ q ∧ q ≤ 2147483647 from ⟨by omega, by omega⟩), (show -2147483648 ≤ (32 : Int) ∧ (32 : Int) ≤ 2147483647 from ⟨by omega, by omega⟩)⟩ (fun hc => ?_) (fun hc => ?_)
        · have c226 : (32 : Int) ≤ q := hc
          clear hc
          refine J.run0 1 rfl ?_
          try dsimp only
          exact J.retb rfl rfl rfl (show (0 : Int) = 0 ∨ (0 : Int) = 1 by omega) ⟨_, rfl, T, hI, hS, hE, (show ((w.2.1 : Nat) : Int) - 2 * H.1 7 4 F.2.2.1 - 13 * H.1 3 1 F.2.1 - H.1 3 3 F.2.1 ≤ ((w0.2.1 : Nat) : Int) - 2 * H0.1 7 4 F.2.2.1 - 13 * H0.1 3 1 F.2.1 - H0.1 3 3 F.2.1 + (H.1 6 11 x) by omega), (show ((w.2.2 : Nat) : Int) - 18 * H.1 7 4 F.2.2.1 - 700 * H.1 3 1 F.2.1 - 6 * H.1 3 3 F.2.1 ≤ ((w0.2.2 : Nat) : Int) - 18 * H0.1 7 4 F.2.2.1 - 700 * H0.1 3 1 F.2.1 - 6 * H0.1 3 3 F.2.1 + 10 * (H.1 6 11 x) by omega), _, rfl, (show (((0 : Int)) = 0 ∨ ((0 : Int)) = 1) ∧ (((0 : Int)) = 0 → H.1 6 11 x = 0) ∧ (((0 : Int)) = 0 → H.1 0 1 (H.2.2.2.2 6 1 x) < 120) from ⟨by omega, by omega, by omega⟩)⟩
        · have c227 : ¬ ((32 : Int) ≤ q) := hc
          clear hc
          have f228 : -2147483648 ≤ jushr (j2) (q) ∧ jushr (j2) (q) ≤ 2147483647 := jI32 _
          have f229 : -2147483648 ≤ jand (jushr (j2) (q)) ((1 : Int)) ∧ jand (jushr (j2) (q)) ((1 : Int)) ≤ 2147483647 := jI32 _
          refine J.run0 6 rfl ?_
          try dsimp only
          refine J.icmp rfl rfl rfl ⟨(show -2147483648 ≤ jand (jushr (j2) (q)) ((1 : Int)) ∧ jand (jushr (j2) (q)) ((1 : Int)) ≤ 2147483647 from ⟨by omega, by omega⟩), (show -2147483648 ≤ (1 : Int) ∧ (1 : Int) ≤ 2147483647 from ⟨by omega, by omega⟩)⟩ (fun hc => ?_) (fun hc => ?_)
          · have c230 : ¬ (jand (jushr (j2) (q)) ((1 : Int)) = (1 : Int)) := hc
            clear hc
            refine J.run0 6 rfl ?_
            try dsimp only
            exact ih (q + 1) T w H _ (show 32 - (q + 1) < _ by omega) (show 0 ≤ (q + 1) ∧ (q + 1) ≤ 32 from ⟨by omega, by omega⟩) (show H.1 6 11 x = 0 from by omega) (show H.1 0 1 (H.2.2.2.2 6 1 x) < 120 from by omega) (show ((w.2.1 : Nat) : Int) - 2 * H.1 7 4 F.2.2.1 - 13 * H.1 3 1 F.2.1 - H.1 3 3 F.2.1 ≤ ((w0.2.1 : Nat) : Int) - 2 * H0.1 7 4 F.2.2.1 - 13 * H0.1 3 1 F.2.1 - H0.1 3 3 F.2.1 + (0) from by omega) (show ((w.2.2 : Nat) : Int) - 18 * H.1 7 4 F.2.2.1 - 700 * H.1 3 1 F.2.1 - 6 * H.1 3 3 F.2.1 ≤ ((w0.2.2 : Nat) : Int) - 18 * H0.1 7 4 F.2.2.1 - 700 * H0.1 3 1 F.2.1 - 6 * H0.1 3 3 F.2.1 + 10 * (0) from by omega) hI hS hE  (Or.inr (Or.inr (Or.inr (Or.inr (Or.inr (⟨_, to5, _, rfl⟩))))))
          · have c231 : ¬ (¬ (jand (jushr (j2) (q)) ((1 : Int)) = (1 : Int))) := hc
            clear hc
            refine J.run0 3 rfl ?_
            try dsimp only
            refine J.inv rfl rfl rfl rfl rfl rfl ((jD_w rfl).mpr (hI.is hI.top.1)) rfl rfl rfl rfl rfl (c_X10_proposalOf (x := x) (round := q) hI (hS _ _ ta0) (show -2147483648 ≤ q ∧ q ≤ 2147483647 from ⟨by omega, by omega⟩)) ?_
            rintro v w H ⟨rfl, rfl, hv⟩
            rcases hv with ⟨rfl, r234⟩ | ⟨q232, rfl, t233, r234⟩
            · skip
              try dsimp only [Option.toList, List.append, List.cons_append, List.nil_append]
              refine J.run0 6 rfl ?_
              try dsimp only
              exact ih (q + 1) T w H _ (show 32 - (q + 1) < _ by omega) (show 0 ≤ (q + 1) ∧ (q + 1) ≤ 32 from ⟨by omega, by omega⟩) (show H.1 6 11 x = 0 from by omega) (show H.1 0 1 (H.2.2.2.2 6 1 x) < 120 from by omega) (show ((w.2.1 : Nat) : Int) - 2 * H.1 7 4 F.2.2.1 - 13 * H.1 3 1 F.2.1 - H.1 3 3 F.2.1 ≤ ((w0.2.1 : Nat) : Int) - 2 * H0.1 7 4 F.2.2.1 - 13 * H0.1 3 1 F.2.1 - H0.1 3 3 F.2.1 + (0) from by omega) (show ((w.2.2 : Nat) : Int) - 18 * H.1 7 4 F.2.2.1 - 700 * H.1 3 1 F.2.1 - 6 * H.1 3 3 F.2.1 ≤ ((w0.2.2 : Nat) : Int) - 18 * H0.1 7 4 F.2.2.1 - 700 * H0.1 3 1 F.2.1 - 6 * H0.1 3 3 F.2.1 + 10 * (0) from by omega) hI hS hE  (Or.inr (Or.inr (Or.inr (Or.inr (Or.inr (⟨_, to5, _, rfl⟩))))))
            · skip
              have rL_X10_proposalOf_32 := r234
              try dsimp only [Option.toList, List.append, List.cons_append, List.nil_append]
              have f235 : 0 ≤ H.1 5 0 q232 ∧ H.1 5 0 q232 ≤ 5999 := hI.v 5 0 q232 t233
              refine J.run 6 rfl ⟨(hI.is hI.top.1), (hI.o 10 0 3 F.1 rfl hI.top.1).1⟩ ?_
              try dsimp only
              try dsimp only
              rw [show (H.2.2.2.2 10 0 F.1) = F.2.1 from hI.one.2.1 _ (hI.o 10 0 3 F.1 rfl hI.top.1).2]
              have f236 : (-2147483648) ≤ H.1 5 5 q232 ∧ H.1 5 5 q232 ≤ 2147483647 := hI.v 5 5 q232 t233
              refine J.run 2 rfl (hI.is t233) ?_
              try dsimp only
              refine J.inv rfl rfl rfl rfl rfl rfl ((jD_w rfl).mpr (hI.is hI.top.2.1)) rfl rfl rfl rfl rfl (c_X3_get (b := H.1 5 5 q232) hI  (show -2147483648 ≤ (H.1 5 5 q232) ∧ (H.1 5 5 q232) ≤ 2147483647 from ⟨by omega, by omega⟩)) ?_
              rintro v w H ⟨rfl, rfl, hv⟩
              rcases hv with ⟨rfl, r239⟩ | ⟨q237, rfl, t238, r239⟩
              · skip
                try dsimp only [Option.toList, List.append, List.cons_append, List.nil_append]
                refine J.run0 3 rfl ?_
                try dsimp only
                refine J.inv rfl rfl rfl rfl rfl rfl ((jD_w rfl).mpr (hI.is (hS _ _ ta0))) rfl rfl rfl rfl rfl (c_X6_isGood (a0 := x) (b := none) hI (hS _ _ ta0) (fun _ z => nomatch z) ) ?_
                rintro v w H ⟨rfl, rfl, hv⟩
                obtain ⟨x240, rfl, r241⟩ := hv
                have r241' : (x240 = 0 ∨ x240 = 1) ∧ (x240 = 1 → none ≠ none) := r241
                have rL_X6_isGood := r241
                have rL_X6_isGood_63 := r241
                try dsimp only [Option.toList, List.append, List.cons_append, List.nil_append]
                refine J.ifc rfl rfl rfl (show -2147483648 ≤ x240 ∧ x240 ≤ 2147483647 from ⟨by omega, by omega⟩) (fun hc => ?_) (fun hc => ?_)
                · have c242 : x240 = (0 : Int) := hc
                  clear hc
                  refine J.run0 2 rfl ?_
                  try dsimp only
                  exact ih (q + 1) T w H _ (show 32 - (q + 1) < _ by omega) (show 0 ≤ (q + 1) ∧ (q + 1) ≤ 32 from ⟨by omega, by omega⟩) (show H.1 6 11 x = 0 from by omega) (show H.1 0 1 (H.2.2.2.2 6 1 x) < 120 from by omega) (show ((w.2.1 : Nat) : Int) - 2 * H.1 7 4 F.2.2.1 - 13 * H.1 3 1 F.2.1 - H.1 3 3 F.2.1 ≤ ((w0.2.1 : Nat) : Int) - 2 * H0.1 7 4 F.2.2.1 - 13 * H0.1 3 1 F.2.1 - H0.1 3 3 F.2.1 + (0) from by omega) (show ((w.2.2 : Nat) : Int) - 18 * H.1 7 4 F.2.2.1 - 700 * H.1 3 1 F.2.1 - 6 * H.1 3 3 F.2.1 ≤ ((w0.2.2 : Nat) : Int) - 18 * H0.1 7 4 F.2.2.1 - 700 * H0.1 3 1 F.2.1 - 6 * H0.1 3 3 F.2.1 + 10 * (0) from by omega) hI hS hE  (Or.inr (Or.inr (Or.inl ⟨_, t233, _, rfl⟩)))
                · have c243 : ¬ (x240 = (0 : Int)) := hc
                  clear hc
                  exact absurd rfl (rL_X6_isGood.2 (by omega))
              · skip
                have rL_X3_get_55 := r239
                try dsimp only [Option.toList, List.append, List.cons_append, List.nil_append]
                have f244 : 0 ≤ H.1 0 1 q237 ∧ H.1 0 1 q237 ≤ 299 := hI.v 0 1 q237 t238
                refine J.run0 3 rfl ?_
                try dsimp only
                refine J.inv rfl rfl rfl rfl rfl rfl ((jD_w rfl).mpr (hI.is (hS _ _ ta0))) rfl rfl rfl rfl rfl (c_X6_isGood (a0 := x) (b := some q237) hI (hS _ _ ta0) (fun _ z => by cases z; exact t238) ) ?_
                rintro v w H ⟨rfl, rfl, hv⟩
                obtain ⟨x245, rfl, r246⟩ := hv
                have r246' : (x245 = 0 ∨ x245 = 1) ∧ (x245 = 1 → (some q237) ≠ none) := r246
                have rL_X6_isGood := r246
                have rL_X6_isGood_63 := r246
                try dsimp only [Option.toList, List.append, List.cons_append, List.nil_append]
                refine J.ifc rfl rfl rfl (show -2147483648 ≤ x245 ∧ x245 ≤ 2147483647 from ⟨by omega, by omega⟩) (fun hc => ?_) (fun hc => ?_)
                · have c247 : x245 = (0 : Int) := hc
                  clear hc
                  refine J.run0 2 rfl ?_
                  try dsimp only
                  exact ih (q + 1) T w H _ (show 32 - (q + 1) < _ by omega) (show 0 ≤ (q + 1) ∧ (q + 1) ≤ 32 from ⟨by omega, by omega⟩) (show H.1 6 11 x = 0 from by omega) (show H.1 0 1 (H.2.2.2.2 6 1 x) < 120 from by omega) (show ((w.2.1 : Nat) : Int) - 2 * H.1 7 4 F.2.2.1 - 13 * H.1 3 1 F.2.1 - H.1 3 3 F.2.1 ≤ ((w0.2.1 : Nat) : Int) - 2 * H0.1 7 4 F.2.2.1 - 13 * H0.1 3 1 F.2.1 - H0.1 3 3 F.2.1 + (0) from by omega) (show ((w.2.2 : Nat) : Int) - 18 * H.1 7 4 F.2.2.1 - 700 * H.1 3 1 F.2.1 - 6 * H.1 3 3 F.2.1 ≤ ((w0.2.2 : Nat) : Int) - 18 * H0.1 7 4 F.2.2.1 - 700 * H0.1 3 1 F.2.1 - 6 * H0.1 3 3 F.2.1 + 10 * (0) from by omega) hI hS hE  (Or.inr (Or.inr (Or.inr (Or.inl ⟨_, t238, _, t233, _, rfl⟩))))
                · have c248 : ¬ (x245 = (0 : Int)) := hc
                  clear hc
                  refine J.run 7 rfl (hI.is t233) ?_
                  try dsimp only
                  refine J.inv rfl rfl rfl rfl rfl rfl ((jD_w rfl).mpr (hI.is hI.top.1)) rfl rfl rfl rfl rfl (c_X10_heardFrom (x := x) (kind := (2 : Int)) (round := q) (block := H.1 5 5 q232) hI (hS _ _ ta0) (show -2147483648 ≤ (2 : Int) ∧ (2 : Int) ≤ 2147483647 from ⟨by omega, by omega⟩) (show -2147483648 ≤ q ∧ q ≤ 2147483647 from ⟨by omega, by omega⟩)) ?_
                  rintro v w H ⟨rfl, rfl, hv⟩
                  obtain ⟨x249, rfl, r250⟩ := hv
                  have rL_X10_heardFrom := r250
                  have rL_X10_heardFrom_79 := r250
                  try dsimp only [Option.toList, List.append, List.cons_append, List.nil_append]
                  refine J.inv rfl rfl rfl rfl rfl rfl ((jD_w rfl).mpr (hI.is (hS _ _ ta0))) rfl rfl rfl rfl rfl (c_X6_isMost (a0 := x) (bits := x249) hI (hS _ _ ta0) ) ?_
                  rintro v w H ⟨rfl, rfl, hv⟩
                  obtain ⟨x251, rfl, r252⟩ := hv
                  have r252' : x251 = 0 ∨ x251 = 1 := r252
                  have rL_X6_isMost := r252
                  have rL_X6_isMost_82 := r252
                  try dsimp only [Option.toList, List.append, List.cons_append, List.nil_append]
                  refine J.ifc rfl rfl rfl (show -2147483648 ≤ x251 ∧ x251 ≤ 2147483647 from ⟨by omega, by omega⟩) (fun hc => ?_) (fun hc => ?_)
                  · have c253 : x251 = (0 : Int) := hc
                    clear hc
                    refine J.run0 2 rfl ?_
                    try dsimp only
                    exact ih (q + 1) T w H _ (show 32 - (q + 1) < _ by omega) (show 0 ≤ (q + 1) ∧ (q + 1) ≤ 32 from ⟨by omega, by omega⟩) (show H.1 6 11 x = 0 from by omega) (show H.1 0 1 (H.2.2.2.2 6 1 x) < 120 from by omega) (show ((w.2.1 : Nat) : Int) - 2 * H.1 7 4 F.2.2.1 - 13 * H.1 3 1 F.2.1 - H.1 3 3 F.2.1 ≤ ((w0.2.1 : Nat) : Int) - 2 * H0.1 7 4 F.2.2.1 - 13 * H0.1 3 1 F.2.1 - H0.1 3 3 F.2.1 + (0) from by omega) (show ((w.2.2 : Nat) : Int) - 18 * H.1 7 4 F.2.2.1 - 700 * H.1 3 1 F.2.1 - 6 * H.1 3 3 F.2.1 ≤ ((w0.2.2 : Nat) : Int) - 18 * H0.1 7 4 F.2.2.1 - 700 * H0.1 3 1 F.2.1 - 6 * H0.1 3 3 F.2.1 + 10 * (0) from by omega) hI hS hE  (Or.inr (Or.inr (Or.inr (Or.inl ⟨_, t238, _, t233, _, rfl⟩))))
                  · have c254 : ¬ (x251 = (0 : Int)) := hc
                    clear hc
                    refine J.run0 2 rfl ?_
                    try dsimp only
                    refine J.inv rfl rfl rfl rfl rfl rfl ((jD_w rfl).mpr (hI.is (hS _ _ ta0))) rfl rfl rfl rfl rfl (c_X6_adopt (a0 := x) (b := q237) hI (hS _ _ ta0) t238 ) ?_
                    rintro v w256 H255 ⟨T257, hI258, shS259, ehE260, hr261, hr261s, hv⟩
                    have hr261' : ((w256.2.1 : Nat) : Int) - 2 * H255.1 7 4 F.2.2.1 - 13 * H255.1 3 1 F.2.1 - H255.1 3 3 F.2.1 ≤ ((w.2.1 : Nat) : Int) - 2 * H.1 7 4 F.2.2.1 - 13 * H.1 3 1 F.2.1 - H.1 3 3 F.2.1 + (0) := hr261
                    have hr261s' : ((w256.2.2 : Nat) : Int) - 18 * H255.1 7 4 F.2.2.1 - 700 * H255.1 3 1 F.2.1 - 6 * H255.1 3 3 F.2.1 ≤ ((w.2.2 : Nat) : Int) - 18 * H.1 7 4 F.2.2.1 - 700 * H.1 3 1 F.2.1 - 6 * H.1 3 3 F.2.1 + 10 * (0) := hr261s
                    have hE260 : cEx T0 [20601, 401, 402, 604, 605, 606, 607, 602, 603, 608, 609] H255 H0 := cEx.trans ehE260 hE hS (by decide)
                    have hS259 : ∀ k p, T0 k p → T257 k p := fun k p z => shS259 k p (hS k p z)
                    have g262 : H255.1 6 11 x = H.1 6 11 x := (ehE260.1 6 11 x (hS _ _ ta0)).1 (by decide)
                    have g263 : H255.1 7 4 F.2.2.1 = H.1 7 4 F.2.2.1 := (ehE260.1 7 4 F.2.2.1 hI.top.2.2.1).1 (by decide)
                    have g264 : H255.1 3 1 F.2.1 = H.1 3 1 F.2.1 := (ehE260.1 3 1 F.2.1 hI.top.2.1).1 (by decide)
                    have g265 : H255.1 3 3 F.2.1 = H.1 3 3 F.2.1 := (ehE260.1 3 3 F.2.1 hI.top.2.1).1 (by decide)
                    have g266 : H255.1 5 5 q232 = H.1 5 5 q232 := (ehE260.1 5 5 q232 t233).1 (by decide)
                    have t267 : T257 0 q237 := shS259 _ _ t238
                    have t268 : T257 5 q232 := shS259 _ _ t233
                    have t269 : T257 10 F.1 := shS259 _ _ hI.top.1
                    have t270 : T257 6 x := shS259 _ _ (hS _ _ ta0)
                    obtain rfl := hv
                    try dsimp only [Option.toList, List.append, List.cons_append, List.nil_append]
                    refine J.run0 1 rfl ?_
                    try dsimp only
                    exact J.retb rfl rfl rfl (show (1 : Int) = 0 ∨ (1 : Int) = 1 by omega) ⟨_, rfl, T257, hI258, hS259, hE260, (show ((w256.2.1 : Nat) : Int) - 2 * H255.1 7 4 F.2.2.1 - 13 * H255.1 3 1 F.2.1 - H255.1 3 3 F.2.1 ≤ ((w0.2.1 : Nat) : Int) - 2 * H0.1 7 4 F.2.2.1 - 13 * H0.1 3 1 F.2.1 - H0.1 3 3 F.2.1 + (H255.1 6 11 x) by omega), (show ((w256.2.2 : Nat) : Int) - 18 * H255.1 7 4 F.2.2.1 - 700 * H255.1 3 1 F.2.1 - 6 * H255.1 3 3 F.2.1 ≤ ((w0.2.2 : Nat) : Int) - 18 * H0.1 7 4 F.2.2.1 - 700 * H0.1 3 1 F.2.1 - 6 * H0.1 3 3 F.2.1 + 10 * (H255.1 6 11 x) by omega), _, rfl, (show (((1 : Int)) = 0 ∨ ((1 : Int)) = 1) ∧ (((1 : Int)) = 0 → H255.1 6 11 x = 0) ∧ (((1 : Int)) = 0 → H255.1 0 1 (H255.2.2.2.2 6 1 x) < 120) from ⟨by omega, by omega, by omega⟩)⟩
set_option maxRecDepth 20000 in
set_option maxHeartbeats 8000000 in
theorem c_X10_decide {x : Nat} {T : cP} {w : jW} {H : jH} (hI : cJ F T w H) (ta0 : T 6 x) (hp0 : H.1 6 11 x = 0) (hp1 : H.1 0 1 (H.2.2.2.2 6 1 x) < 120) : J false (d + 4) 91 w (0, jargs 0 [.inr (some (10, F.1)), .inr (some (6, x))], [], H) (jN fun v w' H' => ∃ T', cJ F T' w' H' ∧ (∀ k p, T k p → T' k p) ∧ cEx T [20601, 401, 402, 604, 605, 606, 607, 602, 603, 608, 609] H' H ∧ ((w'.2.1 : Nat) : Int) - 2 * H'.1 7 4 F.2.2.1 - 13 * H'.1 3 1 F.2.1 - H'.1 3 3 F.2.1 ≤ ((w.2.1 : Nat) : Int) - 2 * H.1 7 4 F.2.2.1 - 13 * H.1 3 1 F.2.1 - H.1 3 3 F.2.1 + (H'.1 6 11 x) ∧ ((w'.2.2 : Nat) : Int) - 18 * H'.1 7 4 F.2.2.1 - 700 * H'.1 3 1 F.2.1 - 6 * H'.1 3 3 F.2.1 ≤ ((w.2.2 : Nat) : Int) - 18 * H.1 7 4 F.2.2.1 - 700 * H.1 3 1 F.2.1 - 6 * H.1 3 3 F.2.1 + 10 * (H'.1 6 11 x) ∧ ∃ rv, v = some (.inl rv) ∧ ((rv = 0 ∨ rv = 1) ∧ (rv = 0 → H'.1 6 11 x = 0) ∧ (rv = 0 → H'.1 0 1 (H'.2.2.2.2 6 1 x) < 120))) := by
  have hE : cEx T [20601, 401, 402, 604, 605, 606, 607, 602, 603, 608, 609] H H := cEx.refl
  have hS : ∀ k p, T k p → T k p := fun _ _ z => z
  refine J.run 2 rfl ⟨(hI.is hI.top.1), (hI.o 10 1 7 F.1 rfl hI.top.1).1⟩ ?_
  try dsimp only
  try dsimp only
  rw [show (H.2.2.2.2 10 1 F.1) = F.2.2.1 from hI.one.2.2.1 _ (hI.o 10 1 7 F.1 rfl hI.top.1).2]
  refine J.run0 1 rfl ?_
  try dsimp only
  refine J.inv rfl rfl rfl rfl rfl rfl ((jD_w rfl).mpr (hI.is ta0)) rfl rfl rfl rfl rfl (c_X6_height (a0 := x) hI ta0 ) ?_
  rintro v w H ⟨rfl, rfl, hv⟩
  obtain ⟨x271, rfl, r272⟩ := hv
  have r272' : x271 = H.1 0 1 (H.2.2.2.2 6 1 x) + 1 ∧ 1 ≤ x271 ∧ x271 ≤ 300 := r272
  have rL_X6_height := r272
  have rL_X6_height_5 := r272
  try dsimp only [Option.toList, List.append, List.cons_append, List.nil_append]
  refine J.inv rfl rfl rfl rfl rfl rfl ((jD_w rfl).mpr (hI.is hI.top.2.2.1)) rfl rfl rfl rfl rfl (c_X7_roundsOf (height := x271) hI  (show -2147483648 ≤ x271 ∧ x271 ≤ 2147483647 from ⟨by omega, by omega⟩)) ?_
  rintro v w H ⟨rfl, rfl, hv⟩
  obtain ⟨x273, rfl, r274⟩ := hv
  have rL_X7_roundsOf := r274
  have rL_X7_roundsOf_8 := r274
  try dsimp only [Option.toList, List.append, List.cons_append, List.nil_append]
  refine J.run0 3 rfl ?_
  try dsimp only
  exact (c_X10_decide_l0 (x := x) hI ta0 hp0 hp1 ((32 - ((0 : Int)) : Int).toNat + 1)) ((0 : Int)) T w H _ (show 32 - ((0 : Int)) < _ by omega) (show 0 ≤ ((0 : Int)) ∧ ((0 : Int)) ≤ 32 from ⟨by omega, by omega⟩) (show H.1 6 11 x = 0 from by omega) (show H.1 0 1 (H.2.2.2.2 6 1 x) < 120 from by omega) (show ((w.2.1 : Nat) : Int) - 2 * H.1 7 4 F.2.2.1 - 13 * H.1 3 1 F.2.1 - H.1 3 3 F.2.1 ≤ ((w.2.1 : Nat) : Int) - 2 * H.1 7 4 F.2.2.1 - 13 * H.1 3 1 F.2.1 - H.1 3 3 F.2.1 + (0) from by omega) (show ((w.2.2 : Nat) : Int) - 18 * H.1 7 4 F.2.2.1 - 700 * H.1 3 1 F.2.1 - 6 * H.1 3 3 F.2.1 ≤ ((w.2.2 : Nat) : Int) - 18 * H.1 7 4 F.2.2.1 - 700 * H.1 3 1 F.2.1 - 6 * H.1 3 3 F.2.1 + 10 * (0) from by omega) hI hS hE  (Or.inl ⟨_, rfl⟩)
end
