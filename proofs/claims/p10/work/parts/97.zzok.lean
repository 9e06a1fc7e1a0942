-- M: X1_reach
section
variable {d : Nat} {F : cG} 
set_option maxRecDepth 20000 in
set_option maxHeartbeats 8000000 in
theorem c_X1_reach_l0 {goal : Nat} {T0 : cP} {w0 : jW} {H0 : jH} (hI0 : cJ F T0 w0 H0) (ta0 : T0 0 goal)  : ∀ (m : Nat), (∀ (opn k : Int) (T : cP) (w : jW) (H : jH) (lv : jL), 100000 - k < (m : Int) → (1 ≤ opn ∧ opn ≤ 16) → (1 ≤ k ∧ k ≤ 100000) → (0 ≤ opn) → (∀ i, 0 ≤ i → i < opn → H.2.2.2.1 20 F.2.2.2 i ≠ none) → (((w.2.1 : Nat) : Int) - 2 * H.1 7 4 F.2.2.1 - 13 * H.1 3 1 F.2.1 - H.1 3 3 F.2.1 ≤ ((w0.2.1 : Nat) : Int) - 2 * H0.1 7 4 F.2.2.1 - 13 * H0.1 3 1 F.2.1 - H0.1 3 3 F.2.1 + (0)) → (((w.2.2 : Nat) : Int) - 18 * H.1 7 4 F.2.2.1 - 700 * H.1 3 1 F.2.1 - 6 * H.1 3 3 F.2.1 ≤ ((w0.2.2 : Nat) : Int) - 18 * H0.1 7 4 F.2.2.1 - 700 * H0.1 3 1 F.2.1 - 6 * H0.1 3 3 F.2.1 + 10 * (0)) → cJ F T w H → (∀ k p, T0 k p → T k p) → cEx T0 [20100, 40020] H H0 → ((lv = [(4, .inl k), (3, .inl opn), (0, .inr (some (1, F.2.2.2))), (1, .inr (some (0, goal))), (2, .inr (some (7, F.2.2.1)))]) ∨ (∃ o6 : Nat, T 0 o6 ∧ ∃ o5 : Nat, T 0 o5 ∧ lv = [(4, .inl k), (3, .inl opn), (6, .inr (some (0, o6))), (5, .inr (some (0, o5))), (0, .inr (some (1, F.2.2.2))), (1, .inr (some (0, goal))), (2, .inr (some (7, F.2.2.1)))]) ∨ (∃ o5 : Nat, T 0 o5 ∧ lv = [(4, .inl k), (3, .inl opn), (5, .inr (some (0, o5))), (0, .inr (some (1, F.2.2.2))), (1, .inr (some (0, goal))), (2, .inr (some (7, F.2.2.1)))]) ∨ (∃ o5 : Nat, T 0 o5 ∧ ∃ o6 : Nat, T 0 o6 ∧ lv = [(4, .inl k), (3, .inl opn), (5, .inr (some (0, o5))), (6, .inr (some (0, o6))), (0, .inr (some (1, F.2.2.2))), (1, .inr (some (0, goal))), (2, .inr (some (7, F.2.2.1)))])) → J false (d + 3) 4 w (12, lv, [], H) (jN fun v w' H' => ∃ T', cJ F T' w' H' ∧ (∀ k p, T0 k p → T' k p) ∧ cEx T0 [20100, 40020] H' H0 ∧ ((w'.2.1 : Nat) : Int) - 2 * H'.1 7 4 F.2.2.1 - 13 * H'.1 3 1 F.2.1 - H'.1 3 3 F.2.1 ≤ ((w0.2.1 : Nat) : Int) - 2 * H0.1 7 4 F.2.2.1 - 13 * H0.1 3 1 F.2.1 - H0.1 3 3 F.2.1 + (0) ∧ ((w'.2.2 : Nat) : Int) - 18 * H'.1 7 4 F.2.2.1 - 700 * H'.1 3 1 F.2.1 - 6 * H'.1 3 3 F.2.1 ≤ ((w0.2.2 : Nat) : Int) - 18 * H0.1 7 4 F.2.2.1 - 700 * H0.1 3 1 F.2.1 - 6 * H0.1 3 3 F.2.1 + 10 * (0) ∧ ∃ rv, v = some (.inl rv) ∧ (True))) := by
  intro m
  induction m with
  | zero =>
    skip
    · intro opn k T w H lv hm hi0 hi1 hi2 hi3 hi4 hi5 hI hS hE hlv
      exfalso
      omega
  | succ m ih =>
    skip
    · intro opn k T w H lv hm hi0 hi1 hi2 hi3 hi4 hi5 hI hS hE hlv
      rcases hlv with rfl | ⟨o6, to6, o5, to5, rfl⟩ | ⟨o5, to5, rfl⟩ | ⟨o5, to5, o6, to6, rfl⟩
      · skip
        refine J.run0 2 rfl ?_
        try dsimp only
        refine J.icmp rfl rfl rfl ⟨(show -2147483648 ≤ k ∧ k ≤ 2147483647 from ⟨by omega, by omega⟩), (show -2147483648 ≤ (100000 : Int) ∧ (100000 : Int) ≤ 2147483647 from ⟨by omega, by omega⟩)⟩ (fun hc => ?_) (fun hc => ?_)
        · have c1 : (100000 : Int) ≤ k := hc
          clear hc
          refine J.run0 1 rfl ?_
          try dsimp only
          exact J.reti rfl rfl rfl ⟨_, rfl, T, hI, hS, hE, (show ((w.2.1 : Nat) : Int) - 2 * H.1 7 4 F.2.2.1 - 13 * H.1 3 1 F.2.1 - H.1 3 3 F.2.1 ≤ ((w0.2.1 : Nat) : Int) - 2 * H0.1 7 4 F.2.2.1 - 13 * H0.1 3 1 F.2.1 - H0.1 3 3 F.2.1 + (0) by omega), (show ((w.2.2 : Nat) : Int) - 18 * H.1 7 4 F.2.2.1 - 700 * H.1 3 1 F.2.1 - 6 * H.1 3 3 F.2.1 ≤ ((w0.2.2 : Nat) : Int) - 18 * H0.1 7 4 F.2.2.1 - 700 * H0.1 3 1 F.2.1 - 6 * H0.1 3 3 F.2.1 + 10 * (0) by omega), _, rfl, trivial⟩
        · have c2 : ¬ ((100000 : Int) ≤ k) := hc
          clear hc
          refine J.run 6 rfl ⟨⟨(hI.is hI.top.2.2.2), hI.is (hI.r 1 1 20 F.2.2.2 rfl hI.top.2.2.2)⟩, (show w.1 20 F.2.2.2 ∧ 0 ≤ opn - (1 : Int) ∧ opn - (1 : Int) < 16 from ⟨hI.is (hI.r 1 1 20 F.2.2.2 rfl hI.top.2.2.2), by omega, by omega⟩)⟩ ?_
          try dsimp only
          try dsimp only
          rcases hn3 : H.2.2.2.1 20 F.2.2.2 (opn - (1 : Int)) with _ | q4
          · exact absurd hn3 (hi3 _ (by omega) (by omega))
          · have t5 : T 0 q4 := hI.a 20 F.2.2.2 rfl (hI.r 1 1 20 F.2.2.2 rfl hI.top.2.2.2) hn3
            have f6 : 0 ≤ H.1 0 1 q4 ∧ H.1 0 1 q4 ≤ 299 := hI.v 0 1 q4 t5
            refine J.run0 4 rfl ?_
            try dsimp only
            refine J.inv rfl rfl rfl rfl rfl rfl ((jD_w rfl).mpr (hI.is hI.top.2.2.2)) rfl rfl rfl rfl rfl (c_X1_mayTrust (b := q4) hI t5 ) ?_
            rintro v w H ⟨rfl, rfl, hv⟩
            obtain ⟨x7, rfl, r8⟩ := hv
            have r8' : x7 = 0 ∨ x7 = 1 := r8
            try dsimp only [Option.toList, List.append, List.cons_append, List.nil_append]
            refine J.ifc rfl rfl rfl (show -2147483648 ≤ x7 ∧ x7 ≤ 2147483647 from ⟨by omega, by omega⟩) (fun hc => ?_) (fun hc => ?_)
            · have c9 : x7 = (0 : Int) := hc
              clear hc
              refine J.run0 2 rfl ?_
              try dsimp only
              refine J.icmp rfl rfl rfl ⟨(show -2147483648 ≤ opn ∧ opn ≤ 2147483647 from ⟨by omega, by omega⟩), (show -2147483648 ≤ (16 : Int) ∧ (16 : Int) ≤ 2147483647 from ⟨by omega, by omega⟩)⟩ (fun hc => ?_) (fun hc => ?_)
              · have c10 : (16 : Int) ≤ opn := hc
                clear hc
                refine J.run0 6 rfl ?_
                try dsimp only
                exact J.reti rfl rfl rfl ⟨_, rfl, T, hI, hS, hE, (show ((w.2.1 : Nat) : Int) - 2 * H.1 7 4 F.2.2.1 - 13 * H.1 3 1 F.2.1 - H.1 3 3 F.2.1 ≤ ((w0.2.1 : Nat) : Int) - 2 * H0.1 7 4 F.2.2.1 - 13 * H0.1 3 1 F.2.1 - H0.1 3 3 F.2.1 + (0) by omega), (show ((w.2.2 : Nat) : Int) - 18 * H.1 7 4 F.2.2.1 - 700 * H.1 3 1 F.2.1 - 6 * H.1 3 3 F.2.1 ≤ ((w0.2.2 : Nat) : Int) - 18 * H0.1 7 4 F.2.2.1 - 700 * H0.1 3 1 F.2.1 - 6 * H0.1 3 3 F.2.1 + 10 * (0) by omega), _, rfl, trivial⟩
              · have c11 : ¬ ((16 : Int) ≤ opn) := hc
                clear hc
                refine J.run0 2 rfl ?_
                try dsimp only
                refine J.ins4 rfl rfl rfl (by decide) rfl rfl rfl rfl rfl (jstP.of rfl) (c_X1_isCertified (b := q4) hI t5 ) ?_
                rintro v w H ⟨rfl, rfl, hv⟩
                obtain ⟨x12, rfl, r13⟩ := hv
                have r13' : x12 = 0 ∨ x12 = 1 := r13
                try dsimp only [Option.toList, List.append, List.cons_append, List.nil_append]
                refine J.ifc rfl rfl rfl (show -2147483648 ≤ x12 ∧ x12 ≤ 2147483647 from ⟨by omega, by omega⟩) (fun hc => ?_) (fun hc => ?_)
                · have c14 : x12 = (0 : Int) := hc
                  clear hc
                  refine J.run0 6 rfl ?_
                  try dsimp only
                  exact J.reti rfl rfl rfl ⟨_, rfl, T, hI, hS, hE, (show ((w.2.1 : Nat) : Int) - 2 * H.1 7 4 F.2.2.1 - 13 * H.1 3 1 F.2.1 - H.1 3 3 F.2.1 ≤ ((w0.2.1 : Nat) : Int) - 2 * H0.1 7 4 F.2.2.1 - 13 * H0.1 3 1 F.2.1 - H0.1 3 3 F.2.1 + (0) by omega), (show ((w.2.2 : Nat) : Int) - 18 * H.1 7 4 F.2.2.1 - 700 * H.1 3 1 F.2.1 - 6 * H.1 3 3 F.2.1 ≤ ((w0.2.2 : Nat) : Int) - 18 * H0.1 7 4 F.2.2.1 - 700 * H0.1 3 1 F.2.1 - 6 * H0.1 3 3 F.2.1 + 10 * (0) by omega), _, rfl, trivial⟩
                · have c15 : ¬ (x12 = (0 : Int)) := hc
                  clear hc
                  refine J.run0 2 rfl ?_
                  try dsimp only
                  refine J.inv rfl rfl rfl rfl rfl rfl ((jD_w rfl).mpr (hI.is hI.top.2.2.2)) rfl rfl rfl rfl rfl (c_X1_halfWay (b := q4) hI t5 ) ?_
                  rintro v w H ⟨rfl, rfl, hv⟩
                  rcases hv with ⟨rfl, r18⟩ | ⟨q16, rfl, t17, r18⟩
                  · skip
                    try dsimp only [Option.toList, List.append, List.cons_append, List.nil_append]
                    refine J.run0 6 rfl ?_
                    try dsimp only
                    exact J.reti rfl rfl rfl ⟨_, rfl, T, hI, hS, hE, (show ((w.2.1 : Nat) : Int) - 2 * H.1 7 4 F.2.2.1 - 13 * H.1 3 1 F.2.1 - H.1 3 3 F.2.1 ≤ ((w0.2.1 : Nat) : Int) - 2 * H0.1 7 4 F.2.2.1 - 13 * H0.1 3 1 F.2.1 - H0.1 3 3 F.2.1 + (0) by omega), (show ((w.2.2 : Nat) : Int) - 18 * H.1 7 4 F.2.2.1 - 700 * H.1 3 1 F.2.1 - 6 * H.1 3 3 F.2.1 ≤ ((w0.2.2 : Nat) : Int) - 18 * H0.1 7 4 F.2.2.1 - 700 * H0.1 3 1 F.2.1 - 6 * H0.1 3 3 F.2.1 + 10 * (0) by omega), _, rfl, trivial⟩
                  · skip
                    try dsimp only [Option.toList, List.append, List.cons_append, List.nil_append]
                    have f19 : 0 ≤ H.1 0 1 q16 ∧ H.1 0 1 q16 ≤ 299 := hI.v 0 1 q16 t17
                    refine J.run 9 rfl ⟨⟨(hI.is hI.top.2.2.2), hI.is (hI.r 1 1 20 F.2.2.2 rfl hI.top.2.2.2)⟩, (show w.1 20 F.2.2.2 ∧ w.1 0 q16 ∧ 0 ≤ opn ∧ opn < 16 from ⟨hI.is (hI.r 1 1 20 F.2.2.2 rfl hI.top.2.2.2), hI.is t17, by omega, by omega⟩)⟩ ?_
                    try dsimp only
                    refine J.gn fun H20 hH20 => ?_
                    have hI21 : cJ F T w H20 := by rw [hH20]; exact cI.wB hI rfl (hI.r 1 1 20 F.2.2.2 rfl hI.top.2.2.2) (fun _ z => by cases z; exact t17) (Or.inr (fun z => nomatch z))
                    have hE22 : cEx T0 [20100, 40020] H20 H0 := by rw [hH20]; exact cEx.wB hE (by decide)
                    have g23 : H20.1 7 4 F.2.2.1 = H.1 7 4 F.2.2.1 := by subst hH20; rfl
                    have g24 : H20.1 3 1 F.2.1 = H.1 3 1 F.2.1 := by subst hH20; rfl
                    have g25 : H20.1 3 3 F.2.1 = H.1 3 3 F.2.1 := by subst hH20; rfl
                    have rW : H20.2.2.2.1 20 F.2.2.2 = jup (H.2.2.2.1 20 F.2.2.2) (opn) (some q16) := by subst hH20; exact if_pos rfl
                    clear hH20
                    refine J.run0 3 rfl ?_
                    try dsimp only
                    exact ih (opn + 1) (k + 1) T w H20 _ (show 100000 - (k + 1) < _ by omega) (show 1 ≤ (opn + 1) ∧ (opn + 1) ≤ 16 from ⟨by omega, by omega⟩) (show 1 ≤ (k + 1) ∧ (k + 1) ≤ 100000 from ⟨by omega, by omega⟩) (show 0 ≤ (opn + 1) from by omega) (show ∀ i, 0 ≤ i → i < (opn + 1) → H20.2.2.2.1 20 F.2.2.2 i ≠ none from (by first | (intro i a b; rw [rW]; unfold jup; show (if _ then _ else _) ≠ none; split <;> first | exact hi3 i a (by omega) | (intro z; cases z; done) | (exfalso; omega)) | (intro i a b; rw [rO]; exact hi3 i a (by omega)) | exact hi3)) (show ((w.2.1 : Nat) : Int) - 2 * H20.1 7 4 F.2.2.1 - 13 * H20.1 3 1 F.2.1 - H20.1 3 3 F.2.1 ≤ ((w0.2.1 : Nat) : Int) - 2 * H0.1 7 4 F.2.2.1 - 13 * H0.1 3 1 F.2.1 - H0.1 3 3 F.2.1 + (0) from by omega) (show ((w.2.2 : Nat) : Int) - 18 * H20.1 7 4 F.2.2.1 - 700 * H20.1 3 1 F.2.1 - 6 * H20.1 3 3 F.2.1 ≤ ((w0.2.2 : Nat) : Int) - 18 * H0.1 7 4 F.2.2.1 - 700 * H0.1 3 1 F.2.1 - 6 * H0.1 3 3 F.2.1 + 10 * (0) from by omega) hI21 hS hE22  (Or.inr (Or.inl ⟨_, t17, _, t5, rfl⟩))
            · have c26 : ¬ (x7 = (0 : Int)) := hc
              clear hc
              refine J.run 3 rfl ⟨(hI.is hI.top.2.2.2), (hI.pos t5)⟩ ?_
              try dsimp only
              refine J.gn fun H27 hH27 => ?_
              have hI28 : cJ F T w H27 := by rw [hH27]; exact cI.wo (k := 0) hI rfl ⟨hI.pos t5, t5⟩ (by decide)
              have hE29 : cEx T0 [20100, 40020] H27 H0 := by rw [hH27]; exact cEx.wo hE (by decide)
              have g30 : H27.1 7 4 F.2.2.1 = H.1 7 4 F.2.2.1 := by subst hH27; rfl
              have g31 : H27.1 3 1 F.2.1 = H.1 3 1 F.2.1 := by subst hH27; rfl
              have g32 : H27.1 3 3 F.2.1 = H.1 3 3 F.2.1 := by subst hH27; rfl
              have rO : H27.2.2.2.1 20 F.2.2.2 = H.2.2.2.1 20 F.2.2.2 := by subst hH27; rfl
              clear hH27
              refine J.run0 2 rfl ?_
              try dsimp only
              refine J.ifc rfl rfl rfl (show -2147483648 ≤ opn + (-1) ∧ opn + (-1) ≤ 2147483647 from ⟨by omega, by omega⟩) (fun hc => ?_) (fun hc => ?_)
              · have c33 : ¬ (opn + (-1) = (0 : Int)) := hc
                clear hc
                refine J.run0 2 rfl ?_
                try dsimp only
                exact ih (opn + (-1)) (k + 1) T w H27 _ (show 100000 - (k + 1) < _ by omega) (show 1 ≤ (opn + (-1)) ∧ (opn + (-1)) ≤ 16 from ⟨by omega, by omega⟩) (show 1 ≤ (k + 1) ∧ (k + 1) ≤ 100000 from ⟨by omega, by omega⟩) (show 0 ≤ (opn + (-1)) from by omega) (show ∀ i, 0 ≤ i → i < (opn + (-1)) → H27.2.2.2.1 20 F.2.2.2 i ≠ none from (by first | (intro i a b; rw [rW]; unfold jup; show (if _ then _ else _) ≠ none; split <;> first | exact hi3 i a (by omega) | (intro z; cases z; done) | (exfalso; omega)) | (intro i a b; rw [rO]; exact hi3 i a (by omega)) | exact hi3)) (show ((w.2.1 : Nat) : Int) - 2 * H27.1 7 4 F.2.2.1 - 13 * H27.1 3 1 F.2.1 - H27.1 3 3 F.2.1 ≤ ((w0.2.1 : Nat) : Int) - 2 * H0.1 7 4 F.2.2.1 - 13 * H0.1 3 1 F.2.1 - H0.1 3 3 F.2.1 + (0) from by omega) (show ((w.2.2 : Nat) : Int) - 18 * H27.1 7 4 F.2.2.1 - 700 * H27.1 3 1 F.2.1 - 6 * H27.1 3 3 F.2.1 ≤ ((w0.2.2 : Nat) : Int) - 18 * H0.1 7 4 F.2.2.1 - 700 * H0.1 3 1 F.2.1 - 6 * H0.1 3 3 F.2.1 + 10 * (0) from by omega) hI28 hS hE29  (Or.inr (Or.inr (Or.inl ⟨_, t5, rfl⟩)))
              · have c34 : ¬ (¬ (opn + (-1) = (0 : Int))) := hc
                clear hc
                refine J.run0 1 rfl ?_
                try dsimp only
                exact J.reti rfl rfl rfl ⟨_, rfl, T, hI28, hS, hE29, (show ((w.2.1 : Nat) : Int) - 2 * H27.1 7 4 F.2.2.1 - 13 * H27.1 3 1 F.2.1 - H27.1 3 3 F.2.1 ≤ ((w0.2.1 : Nat) : Int) - 2 * H0.1 7 4 F.2.2.1 - 13 * H0.1 3 1 F.2.1 - H0.1 3 3 F.2.1 + (0) by omega), (show ((w.2.2 : Nat) : Int) - 18 * H27.1 7 4 F.2.2.1 - 700 * H27.1 3 1 F.2.1 - 6 * H27.1 3 3 F.2.1 ≤ ((w0.2.2 : Nat) : Int) - 18 * H0.1 7 4 F.2.2.1 - 700 * H0.1 3 1 F.2.1 - 6 * H0.1 3 3 F.2.1 + 10 * (0) by omega), _, rfl, trivial⟩
      · skip
        refine J.run0 2 rfl ?_
        try dsimp only
        refine J.icmp rfl rfl rfl ⟨(show -2147483648 ≤ k ∧ k ≤ 2147483647 from ⟨by omega, by omega⟩), (show -2147483648 ≤ (100000 : Int) ∧ (100000 : Int) ≤ 2147483647 from ⟨by omega, by omega⟩)⟩ (fun hc => ?_) (fun hc => ?_)
        · have c35 : (100000 : Int) ≤ k := hc
          clear hc
          refine J.run0 1 rfl ?_
          try dsimp only
          exact J.reti rfl rfl rfl ⟨_, rfl, T, hI, hS, hE, (show ((w.2.1 : Nat) : Int) - 2 * H.1 7 4 F.2.2.1 - 13 * H.1 3 1 F.2.1 - H.1 3 3 F.2.1 ≤ ((w0.2.1 : Nat) : Int) - 2 * H0.1 7 4 F.2.2.1 - 13 * H0.1 3 1 F.2.1 - H0.1 3 3 F.2.1 + (0) by omega), (show ((w.2.2 : Nat) : Int) - 18 * H.1 7 4 F.2.2.1 - 700 * H.1 3 1 F.2.1 - 6 * H.1 3 3 F.2.1 ≤ ((w0.2.2 : Nat) : Int) - 18 * H0.1 7 4 F.2.2.1 - 700 * H0.1 3 1 F.2.1 - 6 * H0.1 3 3 F.2.1 + 10 * (0) by omega), _, rfl, trivial⟩
        · have c36 : ¬ ((100000 : Int) ≤ k) := hc
          clear hc
          refine J.run 6 rfl ⟨⟨(hI.is hI.top.2.2.2), hI.is (hI.r 1 1 20 F.2.2.2 rfl hI.top.2.2.2)⟩, (show w.1 20 F.2.2.2 ∧ 0 ≤ opn - (1 : Int) ∧ opn - (1 : Int) < 16 from ⟨hI.is (hI.r 1 1 20 F.2.2.2 rfl hI.top.2.2.2), by omega, by omega⟩)⟩ ?_
          try dsimp only
          try dsimp only
          rcases hn37 : H.2.2.2.1 20 F.2.2.2 (opn - (1 : Int)) with _ | q38
          · exact absurd hn37 (hi3 _ (by omega) (by omega))
          · have t39 : T 0 q38 := hI.a 20 F.2.2.2 rfl (hI.r 1 1 20 F.2.2.2 rfl hI.top.2.2.2) hn37
            have f40 : 0 ≤ H.1 0 1 q38 ∧ H.1 0 1 q38 ≤ 299 := hI.v 0 1 q38 t39
            refine J.run0 4 rfl ?_
            try dsimp only
            refine J.inv rfl rfl rfl rfl rfl rfl ((jD_w rfl).mpr (hI.is hI.top.2.2.2)) rfl rfl rfl rfl rfl (c_X1_mayTrust (b := q38) hI t39 ) ?_
            rintro v w H ⟨rfl, rfl, hv⟩
            obtain ⟨x41, rfl, r42⟩ := hv
            have r42' : x41 = 0 ∨ x41 = 1 := r42
            try dsimp only [Option.toList, List.append, List.cons_append, List.nil_append]
            refine J.ifc rfl rfl rfl (show -2147483648 ≤ x41 ∧ x41 ≤ 2147483647 from ⟨by omega, by omega⟩) (fun hc => ?_) (fun hc => ?_)
            · have c43 : x41 = (0 : Int) := hc
              clear hc
              refine J.run0 2 rfl ?_
              try dsimp only
              refine J.icmp rfl rfl rfl ⟨(show -2147483648 ≤ opn ∧ opn ≤ 2147483647 from ⟨by omega, by omega⟩), (show -2147483648 ≤ (16 : Int) ∧ (16 : Int) ≤ 2147483647 from ⟨by omega, by omega⟩)⟩ (fun hc => ?_) (fun hc => ?_)
              · have c44 : (16 : Int) ≤ opn := hc
                clear hc
                refine J.run0 6 rfl ?_
                try dsimp only
                exact J.reti rfl rfl rfl ⟨_, rfl, T, hI, hS, hE, (show ((w.2.1 : Nat) : Int) - 2 * H.1 7 4 F.2.2.1 - 13 * H.1 3 1 F.2.1 - H.1 3 3 F.2.1 ≤ ((w0.2.1 : Nat) : Int) - 2 * H0.1 7 4 F.2.2.1 - 13 * H0.1 3 1 F.2.1 - H0.1 3 3 F.2.1 + (0) by omega), (show ((w.2.2 : Nat) : Int) - 18 * H.1 7 4 F.2.2.1 - 700 * H.1 3 1 F.2.1 - 6 * H.1 3 3 F.2.1 ≤ ((w0.2.2 : Nat) : Int) - 18 * H0.1 7 4 F.2.2.1 - 700 * H0.1 3 1 F.2.1 - 6 * H0.1 3 3 F.2.1 + 10 * (0) by omega), _, rfl, trivial⟩
              · have c45 : ¬ ((16 : Int) ≤ opn) := hc
                clear hc
                refine J.run0 2 rfl ?_
                try dsimp only
                refine J.ins4 rfl rfl rfl (by decide) rfl rfl rfl rfl rfl (jstP.of rfl) (c_X1_isCertified (b := q38) hI t39 ) ?_
                rintro v w H ⟨rfl, rfl, hv⟩
                obtain ⟨x46, rfl, r47⟩ := hv
                have r47' : x46 = 0 ∨ x46 = 1 := r47
                try dsimp only [Option.toList, List.append, List.cons_append, List.nil_append]
                refine J.ifc rfl rfl rfl (show -2147483648 ≤ x46 ∧ x46 ≤ 2147483647 from ⟨by omega, by omega⟩) (fun hc => ?_) (fun hc => ?_)
                · have c48 : x46 = (0 : Int) := hc
                  clear hc
                  refine J.run0 6 rfl ?_
                  try dsimp only
                  exact J.reti rfl rfl rfl ⟨_, rfl, T, hI, hS, hE, (show ((w.2.1 : Nat) : Int) - 2 * H.1 7 4 F.2.2.1 - 13 * H.1 3 1 F.2.1 - H.1 3 3 F.2.1 ≤ ((w0.2.1 : Nat) : Int) - 2 * H0.1 7 4 F.2.2.1 - 13 * H0.1 3 1 F.2.1 - H0.1 3 3 F.2.1 + (0) by omega), (show ((w.2.2 : Nat) : Int) - 18 * H.1 7 4 F.2.2.1 - 700 * H.1 3 1 F.2.1 - 6 * H.1 3 3 F.2.1 ≤ ((w0.2.2 : Nat) : Int) - 18 * H0.1 7 4 F.2.2.1 - 700 * H0.1 3 1 F.2.1 - 6 * H0.1 3 3 F.2.1 + 10 * (0) by omega), _, rfl, trivial⟩
                · have c49 : ¬ (x46 = (0 : Int)) := hc
                  clear hc
                  refine J.run0 2 rfl ?_
                  try dsimp only
                  refine J.inv rfl rfl rfl rfl rfl rfl ((jD_w rfl).mpr (hI.is hI.top.2.2.2)) rfl rfl rfl rfl rfl (c_X1_halfWay (b := q38) hI t39 ) ?_
                  rintro v w H ⟨rfl, rfl, hv⟩
                  rcases hv with ⟨rfl, r52⟩ | ⟨q50, rfl, t51, r52⟩
                  · skip
                    try dsimp only [Option.toList, List.append, List.cons_append, List.nil_append]
                    refine J.run0 6 rfl ?_
                    try dsimp only
                    exact J.reti rfl rfl rfl ⟨_, rfl, T, hI, hS, hE, (show ((w.2.1 : Nat) : Int) - 2 * H.1 7 4 F.2.2.1 - 13 * H.1 3 1 F.2.1 - H.1 3 3 F.2.1 ≤ ((w0.2.1 : Nat) : Int) - 2 * H0.1 7 4 F.2.2.1 - 13 * H0.1 3 1 F.2.1 - H0.1 3 3 F.2.1 + (0) by omega), (show ((w.2.2 : Nat) : Int) - 18 * H.1 7 4 F.2.2.1 - 700 * H.1 3 1 F.2.1 - 6 * H.1 3 3 F.2.1 ≤ ((w0.2.2 : Nat) : Int) - 18 * H0.1 7 4 F.2.2.1 - 700 * H0.1 3 1 F.2.1 - 6 * H0.1 3 3 F.2.1 + 10 * (0) by omega), _, rfl, trivial⟩
                  · skip
                    try dsimp only [Option.toList, List.append, List.cons_append, List.nil_append]
                    have f53 : 0 ≤ H.1 0 1 q50 ∧ H.1 0 1 q50 ≤ 299 := hI.v 0 1 q50 t51
                    refine J.run 9 rfl ⟨⟨(hI.is hI.top.2.2.2), hI.is (hI.r 1 1 20 F.2.2.2 rfl hI.top.2.2.2)⟩, (show w.1 20 F.2.2.2 ∧ w.1 0 q50 ∧ 0 ≤ opn ∧ opn < 16 from ⟨hI.is (hI.r 1 1 20 F.2.2.2 rfl hI.top.2.2.2), hI.is t51, by omega, by omega⟩)⟩ ?_
                    try dsimp only
                    refine J.gn fun H54 hH54 => ?_
                    have hI55 : cJ F T w H54 := by rw [hH54]; exact cI.wB hI rfl (hI.r 1 1 20 F.2.2.2 rfl hI.top.2.2.2) (fun _ z => by cases z; exact t51) (Or.inr (fun z => nomatch z))
                    have hE56 : cEx T0 [20100, 40020] H54 H0 := by rw [hH54]; exact cEx.wB hE (by decide)
                    have g57 : H54.1 7 4 F.2.2.1 = H.1 7 4 F.2.2.1 := by subst hH54; rfl
                    have g58 : H54.1 3 1 F.2.1 = H.1 3 1 F.2.1 := by subst hH54; rfl
                    have g59 : H54.1 3 3 F.2.1 = H.1 3 3 F.2.1 := by subst hH54; rfl
                    have rW : H54.2.2.2.1 20 F.2.2.2 = jup (H.2.2.2.1 20 F.2.2.2) (opn) (some q50) := by subst hH54; exact if_pos rfl
                    clear hH54
                    refine J.run0 3 rfl ?_
                    try dsimp only
                    exact ih (opn + 1) (k + 1) T w H54 _ (show 100000 - (k + 1) < _ by omega) (show 1 ≤ (opn + 1) ∧ (opn + 1) ≤ 16 from ⟨by omega, by omega⟩) (show 1 ≤ (k + 1) ∧ (k + 1) ≤ 100000 from ⟨by omega, by omega⟩) (show 0 ≤ (opn + 1) from by omega) (show ∀ i, 0 ≤ i → i < (opn + 1) → H54.2.2.2.1 20 F.2.2.2 i ≠ none from (by first | (intro i a b; rw [rW]; unfold jup; show (if _ then _ else _) ≠ none; split <;> first | exact hi3 i a (by omega) | (intro z; cases z; done) | (exfalso; omega)) | (intro i a b; rw [rO]; exact hi3 i a (by omega)) | exact hi3)) (show ((w.2.1 : Nat) : Int) - 2 * H54.1 7 4 F.2.2.1 - 13 * H54.1 3 1 F.2.1 - H54.1 3 3 F.2.1 ≤ ((w0.2.1 : Nat) : Int) - 2 * H0.1 7 4 F.2.2.1 - 13 * H0.1 3 1 F.2.1 - H0.1 3 3 F.2.1 + (0) from by omega) (show ((w.2.2 : Nat) : Int) - 18 * H54.1 7 4 F.2.2.1 - 700 * H54.1 3 1 F.2.1 - 6 * H54.1 3 3 F.2.1 ≤ ((w0.2.2 : Nat) : Int) - 18 * H0.1 7 4 F.2.2.1 - 700 * H0.1 3 1 F.2.1 - 6 * H0.1 3 3 F.2.1 + 10 * (0) from by omega) hI55 hS hE56  (Or.inr (Or.inl ⟨_, t51, _, t39, rfl⟩))
            · have c60 : ¬ (x41 = (0 : Int)) := hc
              clear hc
              refine J.run 3 rfl ⟨(hI.is hI.top.2.2.2), (hI.pos t39)⟩ ?_
              try dsimp only
              refine J.gn fun H61 hH61 => ?_
              have hI62 : cJ F T w H61 := by rw [hH61]; exact cI.wo (k := 0) hI rfl ⟨hI.pos t39, t39⟩ (by decide)
              have hE63 : cEx T0 [20100, 40020] H61 H0 := by rw [hH61]; exact cEx.wo hE (by decide)
              have g64 : H61.1 7 4 F.2.2.1 = H.1 7 4 F.2.2.1 := by subst hH61; rfl
              have g65 : H61.1 3 1 F.2.1 = H.1 3 1 F.2.1 := by subst hH61; rfl
              have g66 : H61.1 3 3 F.2.1 = H.1 3 3 F.2.1 := by subst hH61; rfl
              have rO : H61.2.2.2.1 20 F.2.2.2 = H.2.2.2.1 20 F.2.2.2 := by subst hH61; rfl
              clear hH61
              refine J.run0 2 rfl ?_
              try dsimp only
              refine J.ifc rfl rfl rfl (show -2147483648 ≤ opn + (-1) ∧ opn + (-1) ≤ 2147483647 from ⟨by omega, by omega⟩) (fun hc => ?_) (fun hc => ?_)
              · have c67 : ¬ (opn + (-1) = (0 : Int)) := hc
                clear hc
                refine J.run0 2 rfl ?_
                try dsimp only
                exact ih (opn + (-1)) (k + 1) T w H61 _ (show 100000 - (k + 1) < _ by omega) (show 1 ≤ (opn + (-1)) ∧ (opn + (-1)) ≤ 16 from ⟨by omega, by omega⟩) (show 1 ≤ (k + 1) ∧ (k + 1) ≤ 100000 from ⟨by omega, by omega⟩) (show 0 ≤ (opn + (-1)) from by omega) (show ∀ i, 0 ≤ i → i < (opn + (-1)) → H61.2.2.2.1 20 F.2.2.2 i ≠ none from (by first | (intro i a b; rw [rW]; unfold jup; show (if _ then _ else _) ≠ none; split <;> first | exact hi3 i a (by omega) | (intro z; cases z; done) | (exfalso; omega)) | (intro i a b; rw [rO]; exact hi3 i a (by omega)) | exact hi3)) (show ((w.2.1 : Nat) : Int) - 2 * H61.1 7 4 F.2.2.1 - 13 * H61.1 3 1 F.2.1 - H61.1 3 3 F.2.1 ≤ ((w0.2.1 : Nat) : Int) - 2 * H0.1 7 4 F.2.2.1 - 13 * H0.1 3 1 F.2.1 - H0.1 3 3 F.2.1 + (0) from by omega) (show ((w.2.2 : Nat) : Int) - 18 * H61.1 7 4 F.2.2.1 - 700 * H61.1 3 1 F.2.1 - 6 * H61.1 3 3 F.2.1 ≤ ((w0.2.2 : Nat) : Int) - 18 * H0.1 7 4 F.2.2.1 - 700 * H0.1 3 1 F.2.1 - 6 * H0.1 3 3 F.2.1 + 10 * (0) from by omega) hI62 hS hE63  (Or.inr (Or.inr (Or.inr (⟨_, t39, _, to6, rfl⟩))))
              · have c68 : ¬ (¬ (opn + (-1) = (0 : Int))) := hc
                clear hc
                refine J.run0 1 rfl ?_
                try dsimp only
                exact J.reti rfl rfl rfl ⟨_, rfl, T, hI62, hS, hE63, (show ((w.2.1 : Nat) : Int) - 2 * H61.1 7 4 F.2.2.1 - 13 * H61.1 3 1 F.2.1 - H61.1 3 3 F.2.1 ≤ ((w0.2.1 : Nat) : Int) - 2 * H0.1 7 4 F.2.2.1 - 13 * H0.1 3 1 F.2.1 - H0.1 3 3 F.2.1 + (0) by omega), (show ((w.2.2 : Nat) : Int) - 18 * H61.1 7 4 F.2.2.1 - 700 * H61.1 3 1 F.2.1 - 6 * H61.1 3 3 F.2.1 ≤ ((w0.2.2 : Nat) : Int) - 18 * H0.1 7 4 F.2.2.1 - 700 * H0.1 3 1 F.2.1 - 6 * H0.1 3 3 F.2.1 + 10 * (0) by omega), _, rfl, trivial⟩
      · skip
        refine J.run0 2 rfl ?_
        try dsimp only
        refine J.icmp rfl rfl rfl ⟨(show -2147483648 ≤ k ∧ k ≤ 2147483647 from ⟨by omega, by omega⟩), (show -2147483648 ≤ (100000 : Int) ∧ (100000 : Int) ≤ 2147483647 from ⟨by omega, by omega⟩)⟩ (fun hc => ?_) (fun hc => ?_)
        · have c69 : (100000 : Int) ≤ k := hc
          clear hc
          refine J.run0 1 rfl ?_
          try dsimp only
          exact J.reti rfl rfl rfl ⟨_, rfl, T, hI, hS, hE, (show ((w.2.1 : Nat) : Int) - 2 * H.1 7 4 F.2.2.1 - 13 * H.1 3 1 F.2.1 - H.1 3 3 F.2.1 ≤ ((w0.2.1 : Nat) : Int) - 2 * H0.1 7 4 F.2.2.1 - 13 * H0.1 3 1 F.2.1 - H0.1 3 3 F.2.1 + (0) by omega), (show ((w.2.2 : Nat) : Int) - 18 * H.1 7 4 F.2.2.1 - 700 * H.1 3 1 F.2.1 - 6 * H.1 3 3 F.2.1 ≤ ((w0.2.2 : Nat) : Int) - 18 * H0.1 7 4 F.2.2.1 - 700 * H0.1 3 1 F.2.1 - 6 * H0.1 3 3 F.2.1 + 10 * (0) by omega), _, rfl, trivial⟩
        · have c70 : ¬ ((100000 : Int) ≤ k) := hc
          clear hc
          refine J.run 6 rfl ⟨⟨(hI.is hI.top.2.2.2), hI.is (hI.r 1 1 20 F.2.2.2 rfl hI.top.2.2.2)⟩, (show w.1 20 F.2.2.2 ∧ 0 ≤ opn - (1 : Int) ∧ opn - (1 : Int) < 16 from ⟨hI.is (hI.r 1 1 20 F.2.2.2 rfl hI.top.2.2.2), by omega, by omega⟩)⟩ ?_
          try dsimp only
          try dsimp only
          rcases hn71 : H.2.2.2.1 20 F.2.2.2 (opn - (1 : Int)) with _ | q72
          · exact absurd hn71 (hi3 _ (by omega) (by omega))
          · have t73 : T 0 q72 := hI.a 20 F.2.2.2 rfl (hI.r 1 1 20 F.2.2.2 rfl hI.top.2.2.2) hn71
            have f74 : 0 ≤ H.1 0 1 q72 ∧ H.1 0 1 q72 ≤ 299 := hI.v 0 1 q72 t73
            refine J.run0 4 rfl ?_
            try dsimp only
            refine J.inv rfl rfl rfl rfl rfl rfl ((jD_w rfl).mpr (hI.is hI.top.2.2.2)) rfl rfl rfl rfl rfl (c_X1_mayTrust (b := q72) hI t73 ) ?_
            rintro v w H ⟨rfl, rfl, hv⟩
            obtain ⟨x75, rfl, r76⟩ := hv
            have r76' : x75 = 0 ∨ x75 = 1 := r76
            try dsimp only [Option.toList, List.append, List.cons_append, List.nil_append]
            refine J.ifc rfl rfl rfl (show -2147483648 ≤ x75 ∧ x75 ≤ 2147483647 from ⟨by omega, by omega⟩) (fun hc => ?_) (fun hc => ?_)
            · have c77 : x75 = (0 : Int) := hc
              clear hc
              refine J.run0 2 rfl ?_
              try dsimp only
              refine J.icmp rfl rfl rfl ⟨(show -2147483648 ≤ opn ∧ opn ≤ 2147483647 from ⟨by omega, by omega⟩), (show -2147483648 ≤ (16 : Int) ∧ (16 : Int) ≤ 2147483647 from ⟨by omega, by omega⟩)⟩ (fun hc => ?_) (fun hc => ?_)
              · have c78 : (16 : Int) ≤ opn := hc
                clear hc
                refine J.run0 6 rfl ?_
                try dsimp only
                exact J.reti rfl rfl rfl ⟨_, rfl, T, hI, hS, hE, (show ((w.2.1 : Nat) : Int) - 2 * H.1 7 4 F.2.2.1 - 13 * H.1 3 1 F.2.1 - H.1 3 3 F.2.1 ≤ ((w0.2.1 : Nat) : Int) - 2 * H0.1 7 4 F.2.2.1 - 13 * H0.1 3 1 F.2.1 - H0.1 3 3 F.2.1 + (0) by omega), (show ((w.2.2 : Nat) : Int) - 18 * H.1 7 4 F.2.2.1 - 700 * H.1 3 1 F.2.1 - 6 * H.1 3 3 F.2.1 ≤ ((w0.2.2 : Nat) : Int) - 18 * H0.1 7 4 F.2.2.1 - 700 * H0.1 3 1 F.2.1 - 6 * H0.1 3 3 F.2.1 + 10 * (0) by omega), _, rfl, trivial⟩
              · have c79 : ¬ ((16 : Int) ≤ opn) := hc
                clear hc
                refine J.run0 2 rfl ?_
                try dsimp only
                refine J.ins4 rfl rfl rfl (by decide) rfl rfl rfl rfl rfl (jstP.of rfl) (c_X1_isCertified (b := q72) hI t73 ) ?_
                rintro v w H ⟨rfl, rfl, hv⟩
                obtain ⟨x80, rfl, r81⟩ := hv
                have r81' : x80 = 0 ∨ x80 = 1 := r81
                try dsimp only [Option.toList, List.append, List.cons_append, List.nil_append]
                refine J.ifc rfl rfl rfl (show -2147483648 ≤ x80 ∧ x80 ≤ 2147483647 from ⟨by omega, by omega⟩) (fun hc => ?_) (fun hc => ?_)
                · have c82 : x80 = (0 : Int) := hc
                  clear hc
                  refine J.run0 6 rfl ?_
                  try dsimp only
                  exact J.reti rfl rfl rfl ⟨_, rfl, T, hI, hS, hE, (show ((w.2.1 : Nat) : Int) - 2 * H.1 7 4 F.2.2.1 - 13 * H.1 3 1 F.2.1 - H.1 3 3 F.2.1 ≤ ((w0.2.1 : Nat) : Int) - 2 * H0.1 7 4 F.2.2.1 - 13 * H0.1 3 1 F.2.1 - H0.1 3 3 F.2.1 + (0) by omega), (show ((w.2.2 : Nat) : Int) - 18 * H.1 7 4 F.2.2.1 - 700 * H.1 3 1 F.2.1 - 6 * H.1 3 3 F.2.1 ≤ ((w0.2.2 : Nat) : Int) - 18 * H0.1 7 4 F.2.2.1 - 700 * H0.1 3 1 F.2.1 - 6 * H0.1 3 3 F.2.1 + 10 * (0) by omega), _, rfl, trivial⟩
                · have c83 : ¬ (x80 = (0 : Int)) := hc
                  clear hc
                  refine J.run0 2 rfl ?_
                  try dsimp only
                  refine J.inv rfl rfl rfl rfl rfl rfl ((jD_w rfl).mpr (hI.is hI.top.2.2.2)) rfl rfl rfl rfl rfl (c_X1_halfWay (b := q72) hI t73 ) ?_
                  rintro v w H ⟨rfl, rfl, hv⟩
                  rcases hv with ⟨rfl, r86⟩ | ⟨q84, rfl, t85, r86⟩
                  · skip
                    try dsimp only [Option.toList, List.append, List.cons_append, List.nil_append]
                    refine J.run0 6 rfl ?_
                    try dsimp only
                    exact J.reti rfl rfl rfl ⟨_, rfl, T, hI, hS, hE, (show ((w.2.1 : Nat) : Int) - 2 * H.1 7 4 F.2.2.1 - 13 * H.1 3 1 F.2.1 - H.1 3 3 F.2.1 ≤ ((w0.2.1 : Nat) : Int) - 2 * H0.1 7 4 F.2.2.1 - 13 * H0.1 3 1 F.2.1 - H0.1 3 3 F.2.1 + (0) by omega), (show ((w.2.2 : Nat) : Int) - 18 * H.1 7 4 F.2.2.1 - 700 * H.1 3 1 F.2.1 - 6 * H.1 3 3 F.2.1 ≤ ((w0.2.2 : Nat) : Int) - 18 * H0.1 7 4 F.2.2.1 - 700 * H0.1 3 1 F.2.1 - 6 * H0.1 3 3 F.2.1 + 10 * (0) by omega), _, rfl, trivial⟩
                  · skip
                    try dsimp only [Option.toList, List.append, List.cons_append, List.nil_append]
                    have f87 : 0 ≤ H.1 0 1 q84 ∧ H.1 0 1 q84 ≤ 299 := hI.v 0 1 q84 t85
                    refine J.run 9 rfl ⟨⟨(hI.is hI.top.2.2.2), hI.is (hI.r 1 1 20 F.2.2.2 rfl hI.top.2.2.2)⟩, (show w.1 20 F.2.2.2 ∧ w.1 0 q84 ∧ 0 ≤ opn ∧ opn < 16 from ⟨hI.is (hI.r 1 1 20 F.2.2.2 rfl hI.top.2.2.2), hI.is t85, by omega, by omega⟩)⟩ ?_
                    try dsimp only
                    refine J.gn fun H88 hH88 => ?_
                    have hI89 : cJ F T w H88 := by rw [hH88]; exact cI.wB hI rfl (hI.r 1 1 20 F.2.2.2 rfl hI.top.2.2.2) (fun _ z => by cases z; exact t85) (Or.inr (fun z => nomatch z))
                    have hE90 : cEx T0 [20100, 40020] H88 H0 := by rw [hH88]; exact cEx.wB hE (by decide)
                    have g91 : H88.1 7 4 F.2.2.1 = H.1 7 4 F.2.2.1 := by subst hH88; rfl
                    have g92 : H88.1 3 1 F.2.1 = H.1 3 1 F.2.1 := by subst hH88; rfl
                    have g93 : H88.1 3 3 F.2.1 = H.1 3 3 F.2.1 := by subst hH88; rfl
                    have rW : H88.2.2.2.1 20 F.2.2.2 = jup (H.2.2.2.1 20 F.2.2.2) (opn) (some q84) := by subst hH88; exact if_pos rfl
                    clear hH88
                    refine J.run0 3 rfl ?_
                    try dsimp only
                    exact ih (opn + 1) (k + 1) T w H88 _ (show 100000 - (k + 1) < _ by omega) (show 1 ≤ (opn + 1) ∧ (opn + 1) ≤ 16 from ⟨by omega, by omega⟩) (show 1 ≤ (k + 1) ∧ (k + 1) ≤ 100000 from ⟨by omega, by omega⟩) (show 0 ≤ (opn + 1) from by omega) (show ∀ i, 0 ≤ i → i < (opn + 1) → H88.2.2.2.1 20 F.2.2.2 i ≠ none from (by first | (intro i a b; rw [rW]; unfold jup; show (if _ then _ else _) ≠ none; split <;> first | exact hi3 i a (by omega) | (intro z; cases z; done) | (exfalso; omega)) | (intro i a b; rw [rO]; exact hi3 i a (by omega)) | exact hi3)) (show ((w.2.1 : Nat) : Int) - 2 * H88.1 7 4 F.2.2.1 - 13 * H88.1 3 1 F.2.1 - H88.1 3 3 F.2.1 ≤ ((w0.2.1 : Nat) : Int) - 2 * H0.1 7 4 F.2.2.1 - 13 * H0.1 3 1 F.2.1 - H0.1 3 3 F.2.1 + (0) from by omega) (show ((w.2.2 : Nat) : Int) - 18 * H88.1 7 4 F.2.2.1 - 700 * H88.1 3 1 F.2.1 - 6 * H88.1 3 3 F.2.1 ≤ ((w0.2.2 : Nat) : Int) - 18 * H0.1 7 4 F.2.2.1 - 700 * H0.1 3 1 F.2.1 - 6 * H0.1 3 3 F.2.1 + 10 * (0) from by omega) hI89 hS hE90  (Or.inr (Or.inl ⟨_, t85, _, t73, rfl⟩))
            · have c94 : ¬ (x75 = (0 : Int)) := hc
              clear hc
              refine J.run 3 rfl ⟨(hI.is hI.top.2.2.2), (hI.pos t73)⟩ ?_
              try dsimp only
              refine J.gn fun H95 hH95 => ?_
              have hI96 : cJ F T w H95 := by rw [hH95]; exact cI.wo (k := 0) hI rfl ⟨hI.pos t73, t73⟩ (by decide)
              have hE97 : cEx T0 [20100, 40020] H95 H0 := by rw [hH95]; exact cEx.wo hE (by decide)
              have g98 : H95.1 7 4 F.2.2.1 = H.1 7 4 F.2.2.1 := by subst hH95; rfl
              have g99 : H95.1 3 1 F.2.1 = H.1 3 1 F.2.1 := by subst hH95; rfl
              have g100 : H95.1 3 3 F.2.1 = H.1 3 3 F.2.1 := by subst hH95; rfl
              have rO : H95.2.2.2.1 20 F.2.2.2 = H.2.2.2.1 20 F.2.2.2 := by subst hH95; rfl
              clear hH95
              refine J.run0 2 rfl ?_
              try dsimp only
              refine J.ifc rfl rfl rfl (show -2147483648 ≤ opn + (-1) ∧ opn + (-1) ≤ 2147483647 from ⟨by omega, by omega⟩) (fun hc => ?_) (fun hc => ?_)
              · have c101 : ¬ (opn + (-1) = (0 : Int)) := hc
                clear hc
                refine J.run0 2 rfl ?_
                try dsimp only
                exact ih (opn + (-1)) (k + 1) T w H95 _ (show 100000 - (k + 1) < _ by omega) (show 1 ≤ (opn + (-1)) ∧ (opn + (-1)) ≤ 16 from ⟨by omega, by omega⟩) (show 1 ≤ (k + 1) ∧ (k + 1) ≤ 100000 from ⟨by omega, by omega⟩) (show 0 ≤ (opn + (-1)) from by omega) (show ∀ i, 0 ≤ i → i < (opn + (-1)) → H95.2.2.2.1 20 F.2.2.2 i ≠ none from (by first | (intro i a b; rw [rW]; unfold jup; show (if _ then _ else _) ≠ none; split <;> first | exact hi3 i a (by omega) | (intro z; cases z; done) | (exfalso; omega)) | (intro i a b; rw [rO]; exact hi3 i a (by omega)) | exact hi3)) (show ((w.2.1 : Nat) : Int) - 2 * H95.1 7 4 F.2.2.1 - 13 * H95.1 3 1 F.2.1 - H95.1 3 3 F.2.1 ≤ ((w0.2.1 : Nat) : Int) - 2 * H0.1 7 4 F.2.2.1 - 13 * H0.1 3 1 F.2.1 - H0.1 3 3 F.2.1 + (0) from by omega) (show ((w.2.2 : Nat) : Int) - 18 * H95.1 7 4 F.2.2.1 - 700 * H95.1 3 1 F.2.1 - 6 * H95.1 3 3 F.2.1 ≤ ((w0.2.2 : Nat) : Int) - 18 * H0.1 7 4 F.2.2.1 - 700 * H0.1 3 1 F.2.1 - 6 * H0.1 3 3 F.2.1 + 10 * (0) from by omega) hI96 hS hE97  (Or.inr (Or.inr (Or.inl ⟨_, t73, rfl⟩)))
              · have c102 : ¬ (¬ (opn + (-1) = (0 : Int))) := hc
                clear hc
                refine J.run0 1 rfl ?_
                try dsimp only
                exact J.reti rfl rfl rfl ⟨_, rfl, T, hI96, hS, hE97, (show ((w.2.1 : Nat) : Int) - 2 * H95.1 7 4 F.2.2.1 - 13 * H95.1 3 1 F.2.1 - H95.1 3 3 F.2.1 ≤ ((w0.2.1 : Nat) : Int) - 2 * H0.1 7 4 F.2.2.1 - 13 * H0.1 3 1 F.2.1 - H0.1 3 3 F.2.1 + (0) by omega), (show ((w.2.2 : Nat) : Int) - 18 * H95.1 7 4 F.2.2.1 - 700 * H95.1 3 1 F.2.1 - 6 * H95.1 3 3 F.2.1 ≤ ((w0.2.2 : Nat) : Int) - 18 * H0.1 7 4 F.2.2.1 - 700 * H0.1 3 1 F.2.1 - 6 * H0.1 3 3 F.2.1 + 10 * (0) by omega), _, rfl, trivial⟩
      · skip
        refine J.run0 2 rfl ?_
        try dsimp only
        refine J.icmp rfl rfl rfl ⟨(show -2147483648 ≤ k ∧ k ≤ 2147483647 from ⟨by omega, by omega⟩), (show -2147483648 ≤ (100000 : Int) ∧ (100000 : Int) ≤ 2147483647 from ⟨by omega, by omega⟩)⟩ (fun hc => ?_) (fun hc => ?_)
        · have c103 : (100000 : Int) ≤ k := hc
          clear hc
          refine J.run0 1 rfl ?_
          try dsimp only
          exact J.reti rfl rfl rfl ⟨_, rfl, T, hI, hS, hE, (show ((w.2.1 : Nat) : Int) - 2 * H.1 7 4 F.2.2.1 - 13 * H.1 3 1 F.2.1 - H.1 3 3 F.2.1 ≤ ((w0.2.1 : Nat) : Int) - 2 * H0.1 7 4 F.2.2.1 - 13 * H0.1 3 1 F.2.1 - H0.1 3 3 F.2.1 + (0) by omega), (show ((w.2.2 : Nat) : Int) - 18 * H.1 7 4 F.2.2.1 - 700 * H.1 3 1 F.2.1 - 6 * H.1 3 3 F.2.1 ≤ ((w0.2.2 : Nat) : Int) - 18 * H0.1 7 4 F.2.2.1 - 700 * H0.1 3 1 F.2.1 - 6 * H0.1 3 3 F.2.1 + 10 * (0) by omega), _, rfl, trivial⟩
        · have c104 : ¬ ((100000 : Int) ≤ k) := hc
          clear hc
          refine J.run 6 rfl ⟨⟨(hI.is hI.top.2.2.2), hI.is (hI.r 1 1 20 F.2.2.2 rfl hI.top.2.2.2)⟩, (show w.1 20 F.2.2.2 ∧ 0 ≤ opn - (1 : Int) ∧ opn - (1 : Int) < 16 from ⟨hI.is (hI.r 1 1 20 F.2.2.2 rfl hI.top.2.2.2), by omega, by omega⟩)⟩ ?_
          try dsimp only
          try dsimp only
          rcases hn105 : H.2.2.2.1 20 F.2.2.2 (opn - (1 : Int)) with _ | q106
          · exact absurd hn105 (hi3 _ (by omega) (by omega))
          · have t107 : T 0 q106 := hI.a 20 F.2.2.2 rfl (hI.r 1 1 20 F.2.2.2 rfl hI.top.2.2.2) hn105
            have f108 : 0 ≤ H.1 0 1 q106 ∧ H.1 0 1 q106 ≤ 299 := hI.v 0 1 q106 t107
            refine J.run0 4 rfl ?_
            try dsimp only
            refine J.inv rfl rfl rfl rfl rfl rfl ((jD_w rfl).mpr (hI.is hI.top.2.2.2)) rfl rfl rfl rfl rfl (c_X1_mayTrust (b := q106) hI t107 ) ?_
            rintro v w H ⟨rfl, rfl, hv⟩
            obtain ⟨x109, rfl, r110⟩ := hv
            have r110' : x109 = 0 ∨ x109 = 1 := r110
            try dsimp only [Option.toList, List.append, List.cons_append, List.nil_append]
            refine J.ifc rfl rfl rfl (show -2147483648 ≤ x109 ∧ x109 ≤ 2147483647 from ⟨by omega, by omega⟩) (fun hc => ?_) (fun hc => ?_)
            · have c111 : x109 = (0 : Int) := hc
              clear hc
              refine J.run0 2 rfl ?_
              try dsimp only
              refine J.icmp rfl rfl rfl ⟨(show -2147483648 ≤ opn ∧ opn ≤ 2147483647 from ⟨by omega, by omega⟩), (show -2147483648 ≤ (16 : Int) ∧ (16 : Int) ≤ 2147483647 from ⟨by omega, by omega⟩)⟩ (fun hc => ?_) (fun hc => ?_)
              · have c112 : (16 : Int) ≤ opn := hc
                clear hc
                refine J.run0 6 rfl ?_
                try dsimp only
                exact J.reti rfl rfl rfl ⟨_, rfl, T, hI, hS, hE, (show ((w.2.1 : Nat) : Int) - 2 * H.1 7 4 F.2.2.1 - 13 * H.1 3 1 F.2.1 - H.1 3 3 F.2.1 ≤ ((w0.2.1 : Nat) : Int) - 2 * H0.1 7 4 F.2.2.1 - 13 * H0.1 3 1 F.2.1 - H0.1 3 3 F.2.1 + (0) by omega), (show ((w.2.2 : Nat) : Int) - 18 * H.1 7 4 F.2.2.1 - 700 * H.1 3 1 F.2.1 - 6 * H.1 3 3 F.2.1 ≤ ((w0.2.2 : Nat) : Int) - 18 * H0.1 7 4 F.2.2.1 - 700 * H0.1 3 1 F.2.1 - 6 * H0.1 3 3 F.2.1 + 10 * (0) by omega), _, rfl, trivial⟩
              · have c113 : ¬ ((16 : Int) ≤ opn) := hc
                clear hc
                refine J.run0 2 rfl ?_
                try dsimp only
                refine J.ins4 rfl rfl rfl (by decide) rfl rfl rfl rfl rfl (jstP.of rfl) (c_X1_isCertified (b := q106) hI t107 ) ?_
                rintro v w H ⟨rfl, rfl, hv⟩
                obtain ⟨x114, rfl, r115⟩ := hv
                have r115' : x114 = 0 ∨ x114 = 1 := r115
                try dsimp only [Option.toList, List.append, List.cons_append, List.nil_append]
                refine J.ifc rfl rfl rfl (show -2147483648 ≤ x114 ∧ x114 ≤ 2147483647 from ⟨by omega, by omega⟩) (fun hc => ?_) (fun hc => ?_)
                · have c116 : x114 = (0 : Int) := hc
                  clear hc
                  refine J.run0 6 rfl ?_
                  try dsimp only
                  exact J.reti rfl rfl rfl ⟨_, rfl, T, hI, hS, hE, (show ((w.2.1 : Nat) : Int) - 2 * H.1 7 4 F.2.2.1 - 13 * H.1 3 1 F.2.1 - H.1 3 3 F.2.1 ≤ ((w0.2.1 : Nat) : Int) - 2 * H0.1 7 4 F.2.2.1 - 13 * H0.1 3 1 F.2.1 - H0.1 3 3 F.2.1 + (0) by omega), (show ((w.2.2 : Nat) : Int) - 18 * H.1 7 4 F.2.2.1 - 700 * H.1 3 1 F.2.1 - 6 * H.1 3 3 F.2.1 ≤ ((w0.2.2 : Nat) : Int) - 18 * H0.1 7 4 F.2.2.1 - 700 * H0.1 3 1 F.2.1 - 6 * H0.1 3 3 F.2.1 + 10 * (0) by omega), _, rfl, trivial⟩
                · have c117 : ¬ (x114 = (0 : Int)) := hc
                  clear hc
                  refine J.run0 2 rfl ?_
                  try dsimp only
                  refine J.inv rfl rfl rfl rfl rfl rfl ((jD_w rfl).mpr (hI.is hI.top.2.2.2)) rfl rfl rfl rfl rfl (c_X1_halfWay (b := q106) hI t107 ) ?_
                  rintro v w H ⟨rfl, rfl, hv⟩
                  rcases hv with ⟨rfl, r120⟩ | ⟨q118, rfl, t119, r120⟩
                  · skip
                    try dsimp only [Option.toList, List.append, List.cons_append, List.nil_append]
                    refine J.run0 6 rfl ?_
                    try dsimp only
                    exact J.reti rfl rfl rfl ⟨_, rfl, T, hI, hS, hE, (show ((w.2.1 : Nat) : Int) - 2 * H.1 7 4 F.2.2.1 - 13 * H.1 3 1 F.2.1 - H.1 3 3 F.2.1 ≤ ((w0.2.1 : Nat) : Int) - 2 * H0.1 7 4 F.2.2.1 - 13 * H0.1 3 1 F.2.1 - H0.1 3 3 F.2.1 + (0) by omega), (show ((w.2.2 : Nat) : Int) - 18 * H.1 7 4 F.2.2.1 - 700 * H.1 3 1 F.2.1 - 6 * H.1 3 3 F.2.1 ≤ ((w0.2.2 : Nat) : Int) - 18 * H0.1 7 4 F.2.2.1 - 700 * H0.1 3 1 F.2.1 - 6 * H0.1 3 3 F.2.1 + 10 * (0) by omega), _, rfl, trivial⟩
                  · skip
                    try dsimp only [Option.toList, List.append, List.cons_append, List.nil_append]
                    have f121 : 0 ≤ H.1 0 1 q118 ∧ H.1 0 1 q118 ≤ 299 := hI.v 0 1 q118 t119
                    refine J.run 9 rfl ⟨⟨(hI.is hI.top.2.2.2), hI.is (hI.r 1 1 20 F.2.2.2 rfl hI.top.2.2.2)⟩, (show w.1 20 F.2.2.2 ∧ w.1 0 q118 ∧ 0 ≤ opn ∧ opn < 16 from ⟨hI.is (hI.r 1 1 20 F.2.2.2 rfl hI.top.2.2.2), hI.is t119, by omega, by omega⟩)⟩ ?_
                    try dsimp only
                    refine J.gn fun H122 hH122 => ?_
                    have hI123 : cJ F T w H122 := by rw [hH122]; exact cI.wB hI rfl (hI.r 1 1 20 F.2.2.2 rfl hI.top.2.2.2) (fun _ z => by cases z; exact t119) (Or.inr (fun z => nomatch z))
                    have hE124 : cEx T0 [20100, 40020] H122 H0 := by rw [hH122]; exact cEx.wB hE (by decide)
                    have g125 : H122.1 7 4 F.2.2.1 = H.1 7 4 F.2.2.1 := by subst hH122; rfl
                    have g126 : H122.1 3 1 F.2.1 = H.1 3 1 F.2.1 := by subst hH122; rfl
                    have g127 : H122.1 3 3 F.2.1 = H.1 3 3 F.2.1 := by subst hH122; rfl
                    have rW : H122.2.2.2.1 20 F.2.2.2 = jup (H.2.2.2.1 20 F.2.2.2) (opn) (some q118) := by subst hH122; exact if_pos rfl
                    clear hH122
                    refine J.run0 3 rfl ?_
                    try dsimp only
                    exact ih (opn + 1) (k + 1) T w H122 _ (show 100000 - (k + 1) < _ by omega) (show 1 ≤ (opn + 1) ∧ (opn + 1) ≤ 16 from ⟨by omega, by omega⟩) (show 1 ≤ (k + 1) ∧ (k + 1) ≤ 100000 from ⟨by omega, by omega⟩) (show 0 ≤ (opn + 1) from by omega) (show ∀ i, 0 ≤ i → i < (opn + 1) → H122.2.2.2.1 20 F.2.2.2 i ≠ none from (by first | (intro i a b; rw [rW]; unfold jup; show (if _ then _ else _) ≠ none; split <;> first | exact hi3 i a (by omega) | (intro z; cases z; done) | (exfalso; omega)) | (intro i a b; rw [rO]; exact hi3 i a (by omega)) | exact hi3)) (show ((w.2.1 : Nat) : Int) - 2 * H122.1 7 4 F.2.2.1 - 13 * H122.1 3 1 F.2.1 - H122.1 3 3 F.2.1 ≤ ((w0.2.1 : Nat) : Int) - 2 * H0.1 7 4 F.2.2.1 - 13 * H0.1 3 1 F.2.1 - H0.1 3 3 F.2.1 + (0) from by omega) (show ((w.2.2 : Nat) : Int) - 18 * H122.1 7 4 F.2.2.1 - 700 * H122.1 3 1 F.2.1 - 6 * H122.1 3 3 F.2.1 ≤ ((w0.2.2 : Nat) : Int) - 18 * H0.1 7 4 F.2.2.1 - 700 * H0.1 3 1 F.2.1 - 6 * H0.1 3 3 F.2.1 + 10 * (0) from by omega) hI123 hS hE124  (Or.inr (Or.inl ⟨_, t119, _, t107, rfl⟩))
            · have c128 : ¬ (x109 = (0 : Int)) := hc
              clear hc
              refine J.run 3 rfl ⟨(hI.is hI.top.2.2.2), (hI.pos t107)⟩ ?_
              try dsimp only
              refine J.gn fun H129 hH129 => ?_
              have hI130 : cJ F T w H129 := by rw [hH129]; exact cI.wo (k := 0) hI rfl ⟨hI.pos t107, t107⟩ (by decide)
              have hE131 : cEx T0 [20100, 40020] H129 H0 := by rw [hH129]; exact cEx.wo hE (by decide)
              have g132 : H129.1 7 4 F.2.2.1 = H.1 7 4 F.2.2.1 := by subst hH129; rfl
              have g133 : H129.1 3 1 F.2.1 = H.1 3 1 F.2.1 := by subst hH129; rfl
              have g134 : H129.1 3 3 F.2.1 = H.1 3 3 F.2.1 := by subst hH129; rfl
              have rO : H129.2.2.2.1 20 F.2.2.2 = H.2.2.2.1 20 F.2.2.2 := by subst hH129; rfl
              clear hH129
              refine J.run0 2 rfl ?_
              try dsimp only
              refine J.ifc rfl rfl rfl (show -2147483648 ≤ opn + (-1) ∧ opn + (-1) ≤ 2147483647 from ⟨by omega, by omega⟩) (fun hc => ?_) (fun hc => ?_)
              · have c135 : ¬ (opn + (-1) = (0 : Int)) := hc
                clear hc
                refine J.run0 2 rfl ?_
                try dsimp only
                exact ih (opn + (-1)) (k + 1) T w H129 _ (show 100000 - (k + 1) < _ by omega) (show 1 ≤ (opn + (-1)) ∧ (opn + (-1)) ≤ 16 from ⟨by omega, by omega⟩) (show 1 ≤ (k + 1) ∧ (k + 1) ≤ 100000 from ⟨by omega, by omega⟩) (show 0 ≤ (opn + (-1)) from by omega) (show ∀ i, 0 ≤ i → i < (opn + (-1)) → H129.2.2.2.1 20 F.2.2.2 i ≠ none from (by first | (intro i a b; rw [rW]; unfold jup; show (if _ then _ else _) ≠ none; split <;> first | exact hi3 i a (by omega) | (intro z; cases z; done) | (exfalso; omega)) | (intro i a b; rw [rO]; exact hi3 i a (by omega)) | exact hi3)) (show ((w.2.1 : Nat) : Int) - 2 * H129.1 7 4 F.2.2.1 - 13 * H129.1 3 1 F.2.1 - H129.1 3 3 F.2.1 ≤ ((w0.2.1 : Nat) : Int) - 2 * H0.1 7 4 F.2.2.1 - 13 * H0.1 3 1 F.2.1 - H0.1 3 3 F.2.1 + (0) from by omega) (show ((w.2.2 : Nat) : Int) - 18 * H129.1 7 4 F.2.2.1 - 700 * H129.1 3 1 F.2.1 - 6 * H129.1 3 3 F.2.1 ≤ ((w0.2.2 : Nat) : Int) - 18 * H0.1 7 4 F.2.2.1 - 700 * H0.1 3 1 F.2.1 - 6 * H0.1 3 3 F.2.1 + 10 * (0) from by omega) hI130 hS hE131  (Or.inr (Or.inr (Or.inr (⟨_, t107, _, to6, rfl⟩))))
              · have c136 : ¬ (¬ (opn + (-1) = (0 : Int))) := hc
                clear hc
                refine J.run0 1 rfl ?_
                try dsimp only
                exact J.reti rfl rfl rfl ⟨_, rfl, T, hI130, hS, hE131, (show ((w.2.1 : Nat) : Int) - 2 * H129.1 7 4 F.2.2.1 - 13 * H129.1 3 1 F.2.1 - H129.1 3 3 F.2.1 ≤ ((w0.2.1 : Nat) : Int) - 2 * H0.1 7 4 F.2.2.1 - 13 * H0.1 3 1 F.2.1 - H0.1 3 3 F.2.1 + (0) by omega), (show ((w.2.2 : Nat) : Int) - 18 * H129.1 7 4 F.2.2.1 - 700 * H129.1 3 1 F.2.1 - 6 * H129.1 3 3 F.2.1 ≤ ((w0.2.2 : Nat) : Int) - 18 * H0.1 7 4 F.2.2.1 - 700 * H0.1 3 1 F.2.1 - 6 * H0.1 3 3 F.2.1 + 10 * (0) by omega), _, rfl, trivial⟩
set_option maxRecDepth 20000 in
set_option maxHeartbeats 8000000 in
theorem c_X1_reach {goal : Nat} {T : cP} {w : jW} {H : jH} (hI : cJ F T w H) (ta0 : T 0 goal)  : J false (d + 3) 4 w (0, jargs 0 [.inr (some (1, F.2.2.2)), .inr (some (0, goal)), .inr (some (7, F.2.2.1))], [], H) (jN fun v w' H' => ∃ T', cJ F T' w' H' ∧ (∀ k p, T k p → T' k p) ∧ cEx T [20100, 40020] H' H ∧ ((w'.2.1 : Nat) : Int) - 2 * H'.1 7 4 F.2.2.1 - 13 * H'.1 3 1 F.2.1 - H'.1 3 3 F.2.1 ≤ ((w.2.1 : Nat) : Int) - 2 * H.1 7 4 F.2.2.1 - 13 * H.1 3 1 F.2.1 - H.1 3 3 F.2.1 + (0) ∧ ((w'.2.2 : Nat) : Int) - 18 * H'.1 7 4 F.2.2.1 - 700 * H'.1 3 1 F.2.1 - 6 * H'.1 3 3 F.2.1 ≤ ((w.2.2 : Nat) : Int) - 18 * H.1 7 4 F.2.2.1 - 700 * H.1 3 1 F.2.1 - 6 * H.1 3 3 F.2.1 + 10 * (0) ∧ ∃ rv, v = some (.inl rv) ∧ (True)) := by
  have hE : cEx T [20100, 40020] H H := cEx.refl
  have hS : ∀ k p, T k p → T k p := fun _ _ z => z
  refine J.run 7 rfl ⟨⟨(hI.is hI.top.2.2.2), hI.is (hI.r 1 1 20 F.2.2.2 rfl hI.top.2.2.2)⟩, (show w.1 20 F.2.2.2 ∧ w.1 0 goal ∧ 0 ≤ (0 : Int) ∧ (0 : Int) < 16 from ⟨hI.is (hI.r 1 1 20 F.2.2.2 rfl hI.top.2.2.2), hI.is ta0, by omega, by omega⟩)⟩ ?_
  try dsimp only
  refine J.gn fun H137 hH137 => ?_
  have hI138 : cJ F T w H137 := by rw [hH137]; exact cI.wB hI rfl (hI.r 1 1 20 F.2.2.2 rfl hI.top.2.2.2) (fun _ z => by cases z; exact ta0) (Or.inr (fun z => nomatch z))
  have hE139 : cEx T [20100, 40020] H137 H := by rw [hH137]; exact cEx.wB hE (by decide)
  have g140 : H137.1 7 4 F.2.2.1 = H.1 7 4 F.2.2.1 := by subst hH137; rfl
  have g141 : H137.1 3 1 F.2.1 = H.1 3 1 F.2.1 := by subst hH137; rfl
  have g142 : H137.1 3 3 F.2.1 = H.1 3 3 F.2.1 := by subst hH137; rfl
  have rW : H137.2.2.2.1 20 F.2.2.2 = jup (H.2.2.2.1 20 F.2.2.2) ((0 : Int)) (some goal) := by subst hH137; exact if_pos rfl
  clear hH137
  refine J.run0 2 rfl ?_
  try dsimp only
  exact (c_X1_reach_l0 (goal := goal) hI ta0  ((100000 - ((1 : Int)) : Int).toNat + 1)) ((1 : Int)) ((1 : Int)) T w H137 _ (show 100000 - ((1 : Int)) < _ by omega) (show 1 ≤ ((1 : Int)) ∧ ((1 : Int)) ≤ 16 from ⟨by omega, by omega⟩) (show 1 ≤ ((1 : Int)) ∧ ((1 : Int)) ≤ 100000 from ⟨by omega, by omega⟩) (show 0 ≤ ((1 : Int)) from by omega) (show ∀ i, 0 ≤ i → i < ((1 : Int)) → H137.2.2.2.1 20 F.2.2.2 i ≠ none from (by first | (intro i a b; rw [rW]; unfold jup; show (if _ then _ else _) ≠ none; split <;> first | exact hi3 i a (by omega) | (intro z; cases z; done) | (exfalso; omega)) | (intro i a b; rw [rO]; exact hi3 i a (by omega)) | exact hi3)) (show ((w.2.1 : Nat) : Int) - 2 * H137.1 7 4 F.2.2.1 - 13 * H137.1 3 1 F.2.1 - H137.1 3 3 F.2.1 ≤ ((w.2.1 : Nat) : Int) - 2 * H.1 7 4 F.2.2.1 - 13 * H.1 3 1 F.2.1 - H.1 3 3 F.2.1 + (0) from by omega) (show ((w.2.2 : Nat) : Int) - 18 * H137.1 7 4 F.2.2.1 - 700 * H137.1 3 1 F.2.1 - 6 * H137.1 3 3 F.2.1 ≤ ((w.2.2 : Nat) : Int) - 18 * H.1 7 4 F.2.2.1 - 700 * H.1 3 1 F.2.1 - 6 * H.1 3 3 F.2.1 + 10 * (0) from by omega) hI138 hS hE139  (Or.inl rfl)
end
