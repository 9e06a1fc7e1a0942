-- M: X3_openTrial
section
variable {d : Nat} {F : cG} 
set_option maxRecDepth 20000 in
set_option maxHeartbeats 8000000 in
theorem c_X3_openTrial_l0 {b : Nat} {T0 : cP} {w0 : jW} {H0 : jH} (hI0 : cJ F T0 w0 H0) (ta0 : T0 0 b) (hp0 : H0.2.1 0 6 b ≠ none) : ∀ (m : Nat), (∀ (bb : Nat) (T : cP) (w : jW) (H : jH) (lv : jL), 100 * H.1 0 1 bb + 50 < (m : Int) → (0 ≤ H.1 0 1 bb) → (((w.2.1 : Nat) : Int) - 2 * H.1 7 4 F.2.2.1 - 13 * H.1 3 1 F.2.1 - H.1 3 3 F.2.1 ≤ ((w0.2.1 : Nat) : Int) - 2 * H0.1 7 4 F.2.2.1 - 13 * H0.1 3 1 F.2.1 - H0.1 3 3 F.2.1 + (0)) → (((w.2.2 : Nat) : Int) - 18 * H.1 7 4 F.2.2.1 - 700 * H.1 3 1 F.2.1 - 6 * H.1 3 3 F.2.1 ≤ ((w0.2.2 : Nat) : Int) - 18 * H0.1 7 4 F.2.2.1 - 700 * H0.1 3 1 F.2.1 - 6 * H0.1 3 3 F.2.1 + 10 * (0)) → cJ F T w H → (∀ k p, T0 k p → T k p) → cEx T0 [307, 30024, 30032, 30033, 30034, 30035, 30036, 30037, 30038, 30039, 804, 808, 809, 811] H H0 → T 0 bb → ((lv = [(2, .inr (some (0, bb))), (0, .inr (some (3, F.2.1))), (1, .inr (some (0, b)))]) ∨ (∃ j3 : Int, lv = [(2, .inr (some (0, bb))), (3, .inl j3), (0, .inr (some (3, F.2.1))), (1, .inr (some (0, b)))])) → J false (d + 1) 20 w (12, lv, [], H) (jN fun v w' H' => ∃ T', cJ F T' w' H' ∧ (∀ k p, T0 k p → T' k p) ∧ cEx T0 [307, 30024, 30032, 30033, 30034, 30035, 30036, 30037, 30038, 30039, 804, 808, 809, 811] H' H0 ∧ ((w'.2.1 : Nat) : Int) - 2 * H'.1 7 4 F.2.2.1 - 13 * H'.1 3 1 F.2.1 - H'.1 3 3 F.2.1 ≤ ((w0.2.1 : Nat) : Int) - 2 * H0.1 7 4 F.2.2.1 - 13 * H0.1 3 1 F.2.1 - H0.1 3 3 F.2.1 + (0) ∧ ((w'.2.2 : Nat) : Int) - 18 * H'.1 7 4 F.2.2.1 - 700 * H'.1 3 1 F.2.1 - 6 * H'.1 3 3 F.2.1 ≤ ((w0.2.2 : Nat) : Int) - 18 * H0.1 7 4 F.2.2.1 - 700 * H0.1 3 1 F.2.1 - 6 * H0.1 3 3 F.2.1 + 10 * (0) ∧ v = none)) ∧ (∀ (k : Int) (bb : Nat) (T : cP) (w : jW) (H : jH) (lv : jL), 100 * H.1 0 1 bb + 20 - k < (m : Int) → (0 ≤ H.1 0 1 bb) → (0 ≤ k ∧ k ≤ 12) → (((w.2.1 : Nat) : Int) - 2 * H.1 7 4 F.2.2.1 - 13 * H.1 3 1 F.2.1 - H.1 3 3 F.2.1 ≤ ((w0.2.1 : Nat) : Int) - 2 * H0.1 7 4 F.2.2.1 - 13 * H0.1 3 1 F.2.1 - H0.1 3 3 F.2.1 + (0)) → (((w.2.2 : Nat) : Int) - 18 * H.1 7 4 F.2.2.1 - 700 * H.1 3 1 F.2.1 - 6 * H.1 3 3 F.2.1 ≤ ((w0.2.2 : Nat) : Int) - 18 * H0.1 7 4 F.2.2.1 - 700 * H0.1 3 1 F.2.1 - 6 * H0.1 3 3 F.2.1 + 10 * (0)) → cJ F T w H → (∀ k p, T0 k p → T k p) → cEx T0 [307, 30024, 30032, 30033, 30034, 30035, 30036, 30037, 30038, 30039, 804, 808, 809, 811] H H0 → T 0 bb → ((lv = [(3, .inl k), (2, .inr (some (0, bb))), (0, .inr (some (3, F.2.1))), (1, .inr (some (0, b)))])) → J false (d + 1) 20 w (18, lv, [], H) (jN fun v w' H' => ∃ T', cJ F T' w' H' ∧ (∀ k p, T0 k p → T' k p) ∧ cEx T0 [307, 30024, 30032, 30033, 30034, 30035, 30036, 30037, 30038, 30039, 804, 808, 809, 811] H' H0 ∧ ((w'.2.1 : Nat) : Int) - 2 * H'.1 7 4 F.2.2.1 - 13 * H'.1 3 1 F.2.1 - H'.1 3 3 F.2.1 ≤ ((w0.2.1 : Nat) : Int) - 2 * H0.1 7 4 F.2.2.1 - 13 * H0.1 3 1 F.2.1 - H0.1 3 3 F.2.1 + (0) ∧ ((w'.2.2 : Nat) : Int) - 18 * H'.1 7 4 F.2.2.1 - 700 * H'.1 3 1 F.2.1 - 6 * H'.1 3 3 F.2.1 ≤ ((w0.2.2 : Nat) : Int) - 18 * H0.1 7 4 F.2.2.1 - 700 * H0.1 3 1 F.2.1 - 6 * H0.1 3 3 F.2.1 + 10 * (0) ∧ v = none)) := by
  intro m
  induction m with
  | zero =>
    refine ⟨?_, ?_⟩
    · intro bb T w H lv hm hi0 hi1 hi2 hI hS hE tv2 hlv
      exfalso
      omega
    · intro k bb T w H lv hm hi0 hi1 hi2 hi3 hI hS hE tv2 hlv
      exfalso
      omega
  | succ m ih =>
    refine ⟨?_, ?_⟩
    · intro bb T w H lv hm hi0 hi1 hi2 hI hS hE tv2 hlv
      rcases hlv with rfl | ⟨j3, rfl⟩
      · skip
        refine J.run0 4 rfl ?_
        try dsimp only
        have f1 : 0 ≤ H.1 0 1 bb ∧ H.1 0 1 bb ≤ 299 := hI.v 0 1 bb tv2
        exact ih.2 ((0 : Int)) (bb) T w H _ (show 100 * H.1 0 1 (bb) + 20 - ((0 : Int)) < _ by omega) (show 0 ≤ H.1 0 1 (bb) from by omega) (show 0 ≤ ((0 : Int)) ∧ ((0 : Int)) ≤ 12 from ⟨by omega, by omega⟩) (show ((w.2.1 : Nat) : Int) - 2 * H.1 7 4 F.2.2.1 - 13 * H.1 3 1 F.2.1 - H.1 3 3 F.2.1 ≤ ((w0.2.1 : Nat) : Int) - 2 * H0.1 7 4 F.2.2.1 - 13 * H0.1 3 1 F.2.1 - H0.1 3 3 F.2.1 + (0) from by omega) (show ((w.2.2 : Nat) : Int) - 18 * H.1 7 4 F.2.2.1 - 700 * H.1 3 1 F.2.1 - 6 * H.1 3 3 F.2.1 ≤ ((w0.2.2 : Nat) : Int) - 18 * H0.1 7 4 F.2.2.1 - 700 * H0.1 3 1 F.2.1 - 6 * H0.1 3 3 F.2.1 + 10 * (0) from by omega) hI hS hE tv2 rfl
      · skip
        refine J.run0 4 rfl ?_
        try dsimp only
        have f2 : 0 ≤ H.1 0 1 bb ∧ H.1 0 1 bb ≤ 299 := hI.v 0 1 bb tv2
        exact ih.2 ((0 : Int)) (bb) T w H _ (show 100 * H.1 0 1 (bb) + 20 - ((0 : Int)) < _ by omega) (show 0 ≤ H.1 0 1 (bb) from by omega) (show 0 ≤ ((0 : Int)) ∧ ((0 : Int)) ≤ 12 from ⟨by omega, by omega⟩) (show ((w.2.1 : Nat) : Int) - 2 * H.1 7 4 F.2.2.1 - 13 * H.1 3 1 F.2.1 - H.1 3 3 F.2.1 ≤ ((w0.2.1 : Nat) : Int) - 2 * H0.1 7 4 F.2.2.1 - 13 * H0.1 3 1 F.2.1 - H0.1 3 3 F.2.1 + (0) from by omega) (show ((w.2.2 : Nat) : Int) - 18 * H.1 7 4 F.2.2.1 - 700 * H.1 3 1 F.2.1 - 6 * H.1 3 3 F.2.1 ≤ ((w0.2.2 : Nat) : Int) - 18 * H0.1 7 4 F.2.2.1 - 700 * H0.1 3 1 F.2.1 - 6 * H0.1 3 3 F.2.1 + 10 * (0) from by omega) hI hS hE tv2 rfl
    · intro k bb T w H lv hm hi0 hi1 hi2 hi3 hI hS hE tv2 hlv
      rcases hlv with rfl
      have f3 : 0 ≤ H.1 42 0 (H.2.2.2.2 0 4 bb) ∧ H.1 42 0 (H.2.2.2.2 0 4 bb) ≤ 12 := hI.v 42 0 (H.2.2.2.2 0 4 bb) (hI.o 0 4 42 bb rfl tv2).2
      refine J.run 4 rfl ⟨⟨(hI.is tv2), (hI.o 0 4 42 bb rfl tv2).1⟩, (show w.1 42 (H.2.2.2.2 0 4 bb) ∧ 0 ≤ H.1 42 0 (H.2.2.2.2 0 4 bb) ∧ H.1 42 0 (H.2.2.2.2 0 4 bb) ≤ 2147483647 from ⟨hI.is (hI.o 0 4 42 bb rfl tv2).2, by omega, by omega⟩)⟩ ?_
      try dsimp only
      refine J.icmp rfl rfl rfl ⟨(show -2147483648 ≤ k ∧ k ≤ 2147483647 from ⟨by omega, by omega⟩), (show -2147483648 ≤ H.1 42 0 (H.2.2.2.2 0 4 bb) ∧ H.1 42 0 (H.2.2.2.2 0 4 bb) ≤ 2147483647 from ⟨by omega, by omega⟩)⟩ (fun hc => ?_) (fun hc => ?_)
      · have c4 : H.1 42 0 (H.2.2.2.2 0 4 bb) ≤ k := hc
        clear hc
        refine J.run 2 rfl (hI.is tv2) ?_
        try dsimp only
        try dsimp only
        rcases hn5 : H.2.1 0 2 bb with _ | q6
        · skip
          refine J.run 8 rfl ⟨⟨(hI.is hI.top.2.1), (hI.o 3 4 8 F.2.1 rfl hI.top.2.1).1⟩, (hI.is (hS _ _ ta0))⟩ ?_
          try dsimp only
          try dsimp only
          rcases hn7 : H.2.1 0 6 b with _ | q8
          · exact absurd (((hE.1 0 6 b ta0).2.1 (by decide)).symm.trans hn7) hp0
          · have t9 : T 8 q8 := hI.n 0 6 8 b rfl (hS _ _ ta0) hn7
            have hne : (H.2.2.2.2 3 4 F.2.1) ≠ q8 := fun z => hI.st (hS _ _ ta0) (by rw [z]; exact hn7)
            refine J.inv rfl rfl rfl rfl rfl rfl ((jD_w rfl).mpr (hI.is (hI.o 3 4 8 F.2.1 rfl hI.top.2.1).2)) rfl rfl rfl rfl rfl (c_X8_beLike (a0 := (H.2.2.2.2 3 4 F.2.1)) (s := q8) hI (hI.o 3 4 8 F.2.1 rfl hI.top.2.1).2 t9 (show (H.2.2.2.2 3 4 F.2.1) ≠ q8 from by omega)) ?_
            rintro v w11 H10 ⟨T12, hI13, shS14, ehE15, hr16, hr16s, hv⟩
            have hr16' : ((w11.2.1 : Nat) : Int) - 2 * H10.1 7 4 F.2.2.1 - 13 * H10.1 3 1 F.2.1 - H10.1 3 3 F.2.1 ≤ ((w.2.1 : Nat) : Int) - 2 * H.1 7 4 F.2.2.1 - 13 * H.1 3 1 F.2.1 - H.1 3 3 F.2.1 + (0) := hr16
            have hr16s' : ((w11.2.2 : Nat) : Int) - 18 * H10.1 7 4 F.2.2.1 - 700 * H10.1 3 1 F.2.1 - 6 * H10.1 3 3 F.2.1 ≤ ((w.2.2 : Nat) : Int) - 18 * H.1 7 4 F.2.2.1 - 700 * H.1 3 1 F.2.1 - 6 * H.1 3 3 F.2.1 + 10 * (0) := hr16s
            have hE15 : cEx T0 [307, 30024, 30032, 30033, 30034, 30035, 30036, 30037, 30038, 30039, 804, 808, 809, 811] H10 H0 := cEx.trans ehE15 hE hS (by decide)
            have hS14 : ∀ k p, T0 k p → T12 k p := fun k p z => shS14 k p (hS k p z)
            have g17 : H10.1 7 4 F.2.2.1 = H.1 7 4 F.2.2.1 := (ehE15.1 7 4 F.2.2.1 hI.top.2.2.1).1 (by decide)
            have g18 : H10.1 3 1 F.2.1 = H.1 3 1 F.2.1 := (ehE15.1 3 1 F.2.1 hI.top.2.1).1 (by decide)
            have g19 : H10.1 3 3 F.2.1 = H.1 3 3 F.2.1 := (ehE15.1 3 3 F.2.1 hI.top.2.1).1 (by decide)
            have t20 : T12 3 F.2.1 := shS14 _ _ hI.top.2.1
            have t21 : T12 0 b := shS14 _ _ (hS _ _ ta0)
            obtain rfl := hv
            try dsimp only [Option.toList, List.append, List.cons_append, List.nil_append]
            have f22 : 0 ≤ H10.1 0 1 b ∧ H10.1 0 1 b ≤ 299 := hI13.v 0 1 b t21
            refine J.run 6 rfl ⟨⟨(hI13.is t20), (hI13.o 3 4 8 F.2.1 rfl t20).1⟩, (hI13.is t21)⟩ ?_
            try dsimp only
            refine J.inv rfl rfl rfl rfl rfl rfl ((jD_w rfl).mpr (hI13.is (hI13.o 3 4 8 F.2.1 rfl t20).2)) rfl rfl rfl rfl rfl (c_X8_giveBack (a0 := (H10.2.2.2.2 3 4 F.2.1)) (height := (H10.1 0 1 b) + (1 : Int)) hI13 (hI13.o 3 4 8 F.2.1 rfl t20).2 ) ?_
            rintro v w24 H23 ⟨T25, hI26, shS27, ehE28, hr29, hr29s, hv⟩
            have hr29' : ((w24.2.1 : Nat) : Int) - 2 * H23.1 7 4 F.2.2.1 - 13 * H23.1 3 1 F.2.1 - H23.1 3 3 F.2.1 ≤ ((w11.2.1 : Nat) : Int) - 2 * H10.1 7 4 F.2.2.1 - 13 * H10.1 3 1 F.2.1 - H10.1 3 3 F.2.1 + (0) := hr29
            have hr29s' : ((w24.2.2 : Nat) : Int) - 18 * H23.1 7 4 F.2.2.1 - 700 * H23.1 3 1 F.2.1 - 6 * H23.1 3 3 F.2.1 ≤ ((w11.2.2 : Nat) : Int) - 18 * H10.1 7 4 F.2.2.1 - 700 * H10.1 3 1 F.2.1 - 6 * H10.1 3 3 F.2.1 + 10 * (0) := hr29s
            have hE28 : cEx T0 [307, 30024, 30032, 30033, 30034, 30035, 30036, 30037, 30038, 30039, 804, 808, 809, 811] H23 H0 := cEx.trans ehE28 hE15 hS14 (by decide)
            have hS27 : ∀ k p, T0 k p → T25 k p := fun k p z => shS27 k p (hS14 k p z)
            have g30 : H23.1 7 4 F.2.2.1 = H10.1 7 4 F.2.2.1 := (ehE28.1 7 4 F.2.2.1 hI13.top.2.2.1).1 (by decide)
            have g31 : H23.1 3 1 F.2.1 = H10.1 3 1 F.2.1 := (ehE28.1 3 1 F.2.1 t20).1 (by decide)
            have g32 : H23.1 3 3 F.2.1 = H10.1 3 3 F.2.1 := (ehE28.1 3 3 F.2.1 t20).1 (by decide)
            have g33 : H23.1 0 1 b = H10.1 0 1 b := (ehE28.1 0 1 b t21).1 (by decide)
            have t34 : T25 3 F.2.1 := shS27 _ _ t20
            have t35 : T25 0 b := shS27 _ _ t21
            obtain rfl := hv
            try dsimp only [Option.toList, List.append, List.cons_append, List.nil_append]
            exact J.retv rfl rfl rfl ⟨_, rfl, T25, hI26, hS27, hE28, (show ((w24.2.1 : Nat) : Int) - 2 * H23.1 7 4 F.2.2.1 - 13 * H23.1 3 1 F.2.1 - H23.1 3 3 F.2.1 ≤ ((w0.2.1 : Nat) : Int) - 2 * H0.1 7 4 F.2.2.1 - 13 * H0.1 3 1 F.2.1 - H0.1 3 3 F.2.1 + (0) by omega), (show ((w24.2.2 : Nat) : Int) - 18 * H23.1 7 4 F.2.2.1 - 700 * H23.1 3 1 F.2.1 - 6 * H23.1 3 3 F.2.1 ≤ ((w0.2.2 : Nat) : Int) - 18 * H0.1 7 4 F.2.2.1 - 700 * H0.1 3 1 F.2.1 - 6 * H0.1 3 3 F.2.1 + 10 * (0) by omega), rfl⟩
        · have t36 : T 0 q6 := hI.n 0 2 0 bb rfl tv2 hn5
          have f37 : 0 ≤ H.1 0 1 q6 ∧ H.1 0 1 q6 ≤ 299 := hI.v 0 1 q6 t36
          have f38 := hI.up tv2 hn5
          refine J.run0 2 rfl ?_
          try dsimp only
          exact ih.1 (q6) T w H _ (show 100 * H.1 0 1 (q6) + 50 < _ by omega) (show 0 ≤ H.1 0 1 (q6) from by omega) (show ((w.2.1 : Nat) : Int) - 2 * H.1 7 4 F.2.2.1 - 13 * H.1 3 1 F.2.1 - H.1 3 3 F.2.1 ≤ ((w0.2.1 : Nat) : Int) - 2 * H0.1 7 4 F.2.2.1 - 13 * H0.1 3 1 F.2.1 - H0.1 3 3 F.2.1 + (0) from by omega) (show ((w.2.2 : Nat) : Int) - 18 * H.1 7 4 F.2.2.1 - 700 * H.1 3 1 F.2.1 - 6 * H.1 3 3 F.2.1 ≤ ((w0.2.2 : Nat) : Int) - 18 * H0.1 7 4 F.2.2.1 - 700 * H0.1 3 1 F.2.1 - 6 * H0.1 3 3 F.2.1 + 10 * (0) from by omega) hI hS hE t36 (Or.inr (⟨_, rfl⟩))
      · have c39 : ¬ (H.1 42 0 (H.2.2.2.2 0 4 bb) ≤ k) := hc
        clear hc
        have f40 : 0 ≤ H.2.2.1 42 (H.2.2.2.2 0 4 bb) (k) ∧ H.2.2.1 42 (H.2.2.2.2 0 4 bb) (k) ≤ 1499 := hI.i 42 (H.2.2.2.2 0 4 bb) (k) (hI.o 0 4 42 bb rfl tv2).2
        refine J.run 9 rfl ⟨⟨(hI.is hI.top.2.1), hI.is (hI.r 3 6 24 F.2.1 rfl hI.top.2.1)⟩, ⟨(hI.is tv2), (hI.o 0 4 42 bb rfl tv2).1⟩, (show w.1 42 (H.2.2.2.2 0 4 bb) ∧ 0 ≤ k ∧ k < H.1 42 0 (H.2.2.2.2 0 4 bb) from ⟨hI.is (hI.o 0 4 42 bb rfl tv2).2, by omega, by omega⟩), (hI.is hI.top.2.1), (show w.1 24 F.2.1 ∧ 0 ≤ H.2.2.1 42 (H.2.2.2.2 0 4 bb) (k) ∧ H.2.2.1 42 (H.2.2.2.2 0 4 bb) (k) < 1500 from ⟨hI.is (hI.r 3 6 24 F.2.1 rfl hI.top.2.1), by omega, by omega⟩)⟩ ?_
        try dsimp only
        refine J.gn fun H41 hH41 => ?_
        have hI42 : cJ F T w H41 := by rw [hH41]; exact cI.wRj hI (hI.r 3 6 24 F.2.1 rfl hI.top.2.1) trivial
        have hE43 : cEx T0 [307, 30024, 30032, 30033, 30034, 30035, 30036, 30037, 30038, 30039, 804, 808, 809, 811] H41 H0 := by rw [hH41]; exact cEx.wR hE (by decide)
        have g44 : H41.1 0 1 bb = H.1 0 1 bb := by subst hH41; rfl
        have g45 : H41.1 7 4 F.2.2.1 = H.1 7 4 F.2.2.1 := by subst hH41; rfl
        have g46 : H41.1 3 1 F.2.1 = H.1 3 1 F.2.1 := by subst hH41; rfl
        have g47 : H41.1 3 3 F.2.1 = H.1 3 3 F.2.1 := by subst hH41; rfl
        have g48 : H41.1 42 0 (H.2.2.2.2 0 4 bb) = H.1 42 0 (H.2.2.2.2 0 4 bb) := by subst hH41; rfl
        clear hH41
        refine J.run0 2 rfl ?_
        try dsimp only
        have f49 : 0 ≤ H41.1 0 1 bb ∧ H41.1 0 1 bb ≤ 299 := hI42.v 0 1 bb tv2
        exact ih.2 (k + 1) (bb) T w H41 _ (show 100 * H41.1 0 1 (bb) + 20 - (k + 1) < _ by omega) (show 0 ≤ H41.1 0 1 (bb) from by omega) (show 0 ≤ (k + 1) ∧ (k + 1) ≤ 12 from ⟨by omega, by omega⟩) (show ((w.2.1 : Nat) : Int) - 2 * H41.1 7 4 F.2.2.1 - 13 * H41.1 3 1 F.2.1 - H41.1 3 3 F.2.1 ≤ ((w0.2.1 : Nat) : Int) - 2 * H0.1 7 4 F.2.2.1 - 13 * H0.1 3 1 F.2.1 - H0.1 3 3 F.2.1 + (0) from by omega) (show ((w.2.2 : Nat) : Int) - 18 * H41.1 7 4 F.2.2.1 - 700 * H41.1 3 1 F.2.1 - 6 * H41.1 3 3 F.2.1 ≤ ((w0.2.2 : Nat) : Int) - 18 * H0.1 7 4 F.2.2.1 - 700 * H0.1 3 1 F.2.1 - 6 * H0.1 3 3 F.2.1 + 10 * (0) from by omega) hI42 hS hE43 tv2 rfl
set_option maxRecDepth 20000 in
set_option maxHeartbeats 8000000 in
theorem c_X3_openTrial {b : Nat} {T : cP} {w : jW} {H : jH} (hI : cJ F T w H) (ta0 : T 0 b) (hp0 : H.2.1 0 6 b ≠ none) : J false (d + 1) 20 w (0, jargs 0 [.inr (some (3, F.2.1)), .inr (some (0, b))], [], H) (jN fun v w' H' => ∃ T', cJ F T' w' H' ∧ (∀ k p, T k p → T' k p) ∧ cEx T [307, 30024, 30032, 30033, 30034, 30035, 30036, 30037, 30038, 30039, 804, 808, 809, 811] H' H ∧ ((w'.2.1 : Nat) : Int) - 2 * H'.1 7 4 F.2.2.1 - 13 * H'.1 3 1 F.2.1 - H'.1 3 3 F.2.1 ≤ ((w.2.1 : Nat) : Int) - 2 * H.1 7 4 F.2.2.1 - 13 * H.1 3 1 F.2.1 - H.1 3 3 F.2.1 + (0) ∧ ((w'.2.2 : Nat) : Int) - 18 * H'.1 7 4 F.2.2.1 - 700 * H'.1 3 1 F.2.1 - 6 * H'.1 3 3 F.2.1 ≤ ((w.2.2 : Nat) : Int) - 18 * H.1 7 4 F.2.2.1 - 700 * H.1 3 1 F.2.1 - 6 * H.1 3 3 F.2.1 + 10 * (0) ∧ v = none) := by
  have hE : cEx T [307, 30024, 30032, 30033, 30034, 30035, 30036, 30037, 30038, 30039, 804, 808, 809, 811] H H := cEx.refl
  have hS : ∀ k p, T k p → T k p := fun _ _ z => z
  refine J.run 6 rfl ⟨(hI.is hI.top.2.1), (hI.is hI.top.2.1)⟩ ?_
  try dsimp only
  refine J.gn fun H50 hH50 => ?_
  have hI51 : cJ F T w H50 := by rw [hH50]; exact cJ.wi hI trivial rfl rfl
  have hE52 : cEx T [307, 30024, 30032, 30033, 30034, 30035, 30036, 30037, 30038, 30039, 804, 808, 809, 811] H50 H := by rw [hH50]; exact cEx.wi hE (by decide)
  have g53 : H50.1 7 4 F.2.2.1 = H.1 7 4 F.2.2.1 := by subst hH50; rfl
  have g54 : H50.1 3 1 F.2.1 = H.1 3 1 F.2.1 := by subst hH50; rfl
  have g55 : H50.1 3 3 F.2.1 = H.1 3 3 F.2.1 := by subst hH50; rfl
  have g56 : H50.1 3 7 F.2.1 = (H.1 3 7 F.2.1) + (1 : Int) := by subst hH50; exact if_pos rfl
  clear hH50
  refine J.run0 2 rfl ?_
  try dsimp only
  have f57 : 0 ≤ H50.1 0 1 b ∧ H50.1 0 1 b ≤ 299 := hI51.v 0 1 b ta0
  exact (c_X3_openTrial_l0 (b := b) hI ta0 hp0 ((100 * H50.1 0 1 (b) + 50 : Int).toNat + 1)).1 (b) T w H50 _ (show 100 * H50.1 0 1 (b) + 50 < _ by omega) (show 0 ≤ H50.1 0 1 (b) from by omega) (show ((w.2.1 : Nat) : Int) - 2 * H50.1 7 4 F.2.2.1 - 13 * H50.1 3 1 F.2.1 - H50.1 3 3 F.2.1 ≤ ((w.2.1 : Nat) : Int) - 2 * H.1 7 4 F.2.2.1 - 13 * H.1 3 1 F.2.1 - H.1 3 3 F.2.1 + (0) from by omega) (show ((w.2.2 : Nat) : Int) - 18 * H50.1 7 4 F.2.2.1 - 700 * H50.1 3 1 F.2.1 - 6 * H50.1 3 3 F.2.1 ≤ ((w.2.2 : Nat) : Int) - 18 * H.1 7 4 F.2.2.1 - 700 * H.1 3 1 F.2.1 - 6 * H.1 3 3 F.2.1 + 10 * (0) from by omega) hI51 hS hE52 ta0 (Or.inl rfl)
end
-- M: X3_isValid
section
variable {d : Nat} {F : cG} 
set_option maxRecDepth 20000 in
set_option maxHeartbeats 8000000 in
theorem c_X3_isValid_l0 {b : Nat} {proposer : Int} {row : Nat} {T0 : cP} {w0 : jW} {H0 : jH} (hI0 : cJ F T0 w0 H0) (ta0 : T0 0 b) (ta1 : T0 42 row) (hp0 : H0.2.1 0 6 b ≠ none) (hp1 : ∀ i, 0 ≤ i → i < H0.1 42 0 row → 0 ≤ H0.2.2.1 42 row i ∧ H0.2.2.1 42 row i < H0.1 3 3 F.2.1) (hp2 : 0 ≤ proposer ∧ proposer ≤ 15) : ∀ (m : Nat), (∀ (k : Int) (T : cP) (w : jW) (H : jH) (lv : jL), 12 - k < (m : Int) → (0 ≤ k ∧ k ≤ 12) → (((w.2.1 : Nat) : Int) - 2 * H.1 7 4 F.2.2.1 - 13 * H.1 3 1 F.2.1 - H.1 3 3 F.2.1 ≤ ((w0.2.1 : Nat) : Int) - 2 * H0.1 7 4 F.2.2.1 - 13 * H0.1 3 1 F.2.1 - H0.1 3 3 F.2.1 + (0)) → (((w.2.2 : Nat) : Int) - 18 * H.1 7 4 F.2.2.1 - 700 * H.1 3 1 F.2.1 - 6 * H.1 3 3 F.2.1 ≤ ((w0.2.2 : Nat) : Int) - 18 * H0.1 7 4 F.2.2.1 - 700 * H0.1 3 1 F.2.1 - 6 * H0.1 3 3 F.2.1 + 10 * (0)) → cJ F T w H → (∀ k p, T0 k p → T k p) → cEx T0 [307, 30024, 30032, 30033, 30034, 30035, 30036, 30037, 30038, 30039, 804, 808, 809, 811] H H0 → ((lv = [(4, .inl k), (0, .inr (some (3, F.2.1))), (1, .inr (some (0, b))), (2, .inl proposer), (3, .inr (some (42, row)))])) → J false (d + 2) 19 w (8, lv, [], H) (jN fun v w' H' => ∃ T', cJ F T' w' H' ∧ (∀ k p, T0 k p → T' k p) ∧ cEx T0 [307, 30024, 30032, 30033, 30034, 30035, 30036, 30037, 30038, 30039, 804, 808, 809, 811] H' H0 ∧ ((w'.2.1 : Nat) : Int) - 2 * H'.1 7 4 F.2.2.1 - 13 * H'.1 3 1 F.2.1 - H'.1 3 3 F.2.1 ≤ ((w0.2.1 : Nat) : Int) - 2 * H0.1 7 4 F.2.2.1 - 13 * H0.1 3 1 F.2.1 - H0.1 3 3 F.2.1 + (0) ∧ ((w'.2.2 : Nat) : Int) - 18 * H'.1 7 4 F.2.2.1 - 700 * H'.1 3 1 F.2.1 - 6 * H'.1 3 3 F.2.1 ≤ ((w0.2.2 : Nat) : Int) - 18 * H0.1 7 4 F.2.2.1 - 700 * H0.1 3 1 F.2.1 - 6 * H0.1 3 3 F.2.1 + 10 * (0) ∧ ∃ rv, v = some (.inl rv) ∧ (rv = 0 ∨ rv = 1))) := by
  intro m
  induction m with
  | zero =>
    skip
    · intro k T w H lv hm hi0 hi1 hi2 hI hS hE hlv
      exfalso
      omega
  | succ m ih =>
    skip
    · intro k T w H lv hm hi0 hi1 hi2 hI hS hE hlv
      rcases hlv with rfl
      have f1 : 0 ≤ H.1 42 0 row ∧ H.1 42 0 row ≤ 12 := hI.v 42 0 row (hS _ _ ta1)
      refine J.run 3 rfl (show w.1 42 row ∧ 0 ≤ H.1 42 0 row ∧ H.1 42 0 row ≤ 2147483647 from ⟨hI.is (hS _ _ ta1), by omega, by omega⟩) ?_
      try dsimp only
      refine J.icmp rfl rfl rfl ⟨(show -2147483648 ≤ k ∧ k ≤ 2147483647 from ⟨by omega, by omega⟩), (show -2147483648 ≤ H.1 42 0 row ∧ H.1 42 0 row ≤ 2147483647 from ⟨by omega, by omega⟩)⟩ (fun hc => ?_) (fun hc => ?_)
      · have c2 : H.1 42 0 row ≤ k := hc
        clear hc
        refine J.run0 1 rfl ?_
        try dsimp only
        exact J.retb rfl rfl rfl (show (1 : Int) = 0 ∨ (1 : Int) = 1 by omega) ⟨_, rfl, T, hI, hS, hE, (show ((w.2.1 : Nat) : Int) - 2 * H.1 7 4 F.2.2.1 - 13 * H.1 3 1 F.2.1 - H.1 3 3 F.2.1 ≤ ((w0.2.1 : Nat) : Int) - 2 * H0.1 7 4 F.2.2.1 - 13 * H0.1 3 1 F.2.1 - H0.1 3 3 F.2.1 + (0) by omega), (show ((w.2.2 : Nat) : Int) - 18 * H.1 7 4 F.2.2.1 - 700 * H.1 3 1 F.2.1 - 6 * H.1 3 3 F.2.1 ≤ ((w0.2.2 : Nat) : Int) - 18 * H0.1 7 4 F.2.2.1 - 700 * H0.1 3 1 F.2.1 - 6 * H0.1 3 3 F.2.1 + 10 * (0) by omega), _, rfl, (show ((1 : Int)) = 0 ∨ ((1 : Int)) = 1 from by omega)⟩
      · have c3 : ¬ (H.1 42 0 row ≤ k) := hc
        clear hc
        have hl0 := (hE.1 42 0 row ta1).1 (by decide)
        have hr := hp1 (k) (by omega) (by omega)
        have er := congrFun ((hE.2 42 row ta1).1 (by decide)) (k)
        have ec := (hE.1 3 3 F.2.1 hI0.top.2.1).1 (by decide)
        have f4 : 0 ≤ H.2.2.1 42 row (k) ∧ H.2.2.1 42 row (k) ≤ 1499 := hI.i 42 row (k) (hS _ _ ta1)
        refine J.run 8 rfl ⟨⟨(hI.is hI.top.2.1), hI.is (hI.r 3 6 24 F.2.1 rfl hI.top.2.1)⟩, (show w.1 42 row ∧ 0 ≤ k ∧ k < H.1 42 0 row from ⟨hI.is (hS _ _ ta1), by omega, by omega⟩), (show w.1 24 F.2.1 ∧ 0 ≤ H.2.2.1 42 row (k) ∧ H.2.2.1 42 row (k) < 1500 from ⟨hI.is (hI.r 3 6 24 F.2.1 rfl hI.top.2.1), by omega, by omega⟩), (hI.is hI.top.2.1)⟩ ?_
        try dsimp only
        refine J.icmpN rfl rfl rfl (fun hc => ?_) (fun hc => ?_)
        · have c5 : jn (H.2.2.1 24 F.2.1 (H.2.2.1 42 row (k))) = jn (H.1 3 7 F.2.1) := hc
          clear hc
          refine J.run0 1 rfl ?_
          try dsimp only
          exact J.retb rfl rfl rfl (show (0 : Int) = 0 ∨ (0 : Int) = 1 by omega) ⟨_, rfl, T, hI, hS, hE, (show ((w.2.1 : Nat) : Int) - 2 * H.1 7 4 F.2.2.1 - 13 * H.1 3 1 F.2.1 - H.1 3 3 F.2.1 ≤ ((w0.2.1 : Nat) : Int) - 2 * H0.1 7 4 F.2.2.1 - 13 * H0.1 3 1 F.2.1 - H0.1 3 3 F.2.1 + (0) by omega), (show ((w.2.2 : Nat) : Int) - 18 * H.1 7 4 F.2.2.1 - 700 * H.1 3 1 F.2.1 - 6 * H.1 3 3 F.2.1 ≤ ((w0.2.2 : Nat) : Int) - 18 * H0.1 7 4 F.2.2.1 - 700 * H0.1 3 1 F.2.1 - 6 * H0.1 3 3 F.2.1 + 10 * (0) by omega), _, rfl, (show ((0 : Int)) = 0 ∨ ((0 : Int)) = 1 from by omega)⟩
        · have c6 : ¬ (jn (H.2.2.1 24 F.2.1 (H.2.2.1 42 row (k))) = jn (H.1 3 7 F.2.1)) := hc
          clear hc
          refine J.run 8 rfl ⟨⟨(hI.is hI.top.2.1), (hI.o 3 4 8 F.2.1 rfl hI.top.2.1).1⟩, ⟨(hI.is hI.top.2.1), hI.is (hI.r 3 2 22 F.2.1 rfl hI.top.2.1)⟩, (show w.1 42 row ∧ 0 ≤ k ∧ k < H.1 42 0 row from ⟨hI.is (hS _ _ ta1), by omega, by omega⟩), (show w.1 22 F.2.1 ∧ 0 ≤ H.2.2.1 42 row (k) ∧ H.2.2.1 42 row (k) < 1500 from ⟨hI.is (hI.r 3 2 22 F.2.1 rfl hI.top.2.1), by omega, by omega⟩)⟩ ?_
          try dsimp only
          try dsimp only
          rcases hn7 : H.2.2.2.1 22 F.2.1 (H.2.2.1 42 row (k)) with _ | q8
          · exact absurd hn7 (hI.tr (by omega) (by omega))
          · have t9 : T 9 q8 := hI.a 22 F.2.1 rfl (hI.r 3 2 22 F.2.1 rfl hI.top.2.1) hn7
            have f10 : 0 ≤ H.1 0 1 b ∧ H.1 0 1 b ≤ 299 := hI.v 0 1 b (hS _ _ ta0)
            refine J.run 5 rfl (hI.is (hS _ _ ta0)) ?_
            try dsimp only
            refine J.inv rfl rfl rfl rfl rfl rfl ((jD_w rfl).mpr (hI.is (hI.o 3 4 8 F.2.1 rfl hI.top.2.1).2)) rfl rfl rfl rfl rfl (c_X8_perform (a0 := (H.2.2.2.2 3 4 F.2.1)) (t := q8) (proposer := proposer) (height := (H.1 0 1 b) + (1 : Int)) hI (hI.o 3 4 8 F.2.1 rfl hI.top.2.1).2 t9 (show 0 ≤ proposer ∧ proposer ≤ 15 from ⟨by omega, by omega⟩)) ?_
            rintro v w12 H11 ⟨T13, hI14, shS15, ehE16, hr17, hr17s, hv⟩
            have hr17' : ((w12.2.1 : Nat) : Int) - 2 * H11.1 7 4 F.2.2.1 - 13 * H11.1 3 1 F.2.1 - H11.1 3 3 F.2.1 ≤ ((w.2.1 : Nat) : Int) - 2 * H.1 7 4 F.2.2.1 - 13 * H.1 3 1 F.2.1 - H.1 3 3 F.2.1 + (0) := hr17
            have hr17s' : ((w12.2.2 : Nat) : Int) - 18 * H11.1 7 4 F.2.2.1 - 700 * H11.1 3 1 F.2.1 - 6 * H11.1 3 3 F.2.1 ≤ ((w.2.2 : Nat) : Int) - 18 * H.1 7 4 F.2.2.1 - 700 * H.1 3 1 F.2.1 - 6 * H.1 3 3 F.2.1 + 10 * (0) := hr17s
            have hE16 : cEx T0 [307, 30024, 30032, 30033, 30034, 30035, 30036, 30037, 30038, 30039, 804, 808, 809, 811] H11 H0 := cEx.trans ehE16 hE hS (by decide)
            have hS15 : ∀ k p, T0 k p → T13 k p := fun k p z => shS15 k p (hS k p z)
            have g18 : H11.1 7 4 F.2.2.1 = H.1 7 4 F.2.2.1 := (ehE16.1 7 4 F.2.2.1 hI.top.2.2.1).1 (by decide)
            have g19 : H11.1 3 1 F.2.1 = H.1 3 1 F.2.1 := (ehE16.1 3 1 F.2.1 hI.top.2.1).1 (by decide)
            have g20 : H11.1 3 3 F.2.1 = H.1 3 3 F.2.1 := (ehE16.1 3 3 F.2.1 hI.top.2.1).1 (by decide)
            have g21 : H11.1 42 0 row = H.1 42 0 row := (ehE16.1 42 0 row (hS _ _ ta1)).1 (by decide)
            have g22 : H11.1 0 1 b = H.1 0 1 b := (ehE16.1 0 1 b (hS _ _ ta0)).1 (by decide)
            have t23 : T13 3 F.2.1 := shS15 _ _ hI.top.2.1
            have t24 : T13 0 b := shS15 _ _ (hS _ _ ta0)
            have t25 : T13 42 row := shS15 _ _ (hS _ _ ta1)
            obtain ⟨x26, rfl, r27⟩ := hv
            have r27' : x26 = 0 ∨ x26 = 1 := r27
            try dsimp only [Option.toList, List.append, List.cons_append, List.nil_append]
            refine J.ifc rfl rfl rfl (show -2147483648 ≤ x26 ∧ x26 ≤ 2147483647 from ⟨by omega, by omega⟩) (fun hc => ?_) (fun hc => ?_)
            · have c28 : ¬ (x26 = (0 : Int)) := hc
              clear hc
              have f29 : 0 ≤ H11.1 42 0 row ∧ H11.1 42 0 row ≤ 12 := hI14.v 42 0 row t25
              have f30 : 0 ≤ H11.2.2.1 42 row (k) ∧ H11.2.2.1 42 row (k) ≤ 1499 := hI14.i 42 row (k) t25
              refine J.run 8 rfl ⟨⟨(hI14.is t23), hI14.is (hI14.r 3 6 24 F.2.1 rfl t23)⟩, (show w12.1 42 row ∧ 0 ≤ k ∧ k < H11.1 42 0 row from ⟨hI14.is t25, by omega, by omega⟩), (hI14.is t23), (show w12.1 24 F.2.1 ∧ 0 ≤ H11.2.2.1 42 row (k) ∧ H11.2.2.1 42 row (k) < 1500 from ⟨hI14.is (hI14.r 3 6 24 F.2.1 rfl t23), by omega, by omega⟩)⟩ ?_
              try dsimp only
              refine J.gn fun H31 hH31 => ?_
              have hI32 : cJ F T13 w12 H31 := by rw [hH31]; exact cI.wRj hI14 (hI14.r 3 6 24 F.2.1 rfl t23) trivial
              have hE33 : cEx T0 [307, 30024, 30032, 30033, 30034, 30035, 30036, 30037, 30038, 30039, 804, 808, 809, 811] H31 H0 := by rw [hH31]; exact cEx.wR hE16 (by decide)
              have g34 : H31.1 7 4 F.2.2.1 = H11.1 7 4 F.2.2.1 := by subst hH31; rfl
              have g35 : H31.1 3 1 F.2.1 = H11.1 3 1 F.2.1 := by subst hH31; rfl
              have g36 : H31.1 3 3 F.2.1 = H11.1 3 3 F.2.1 := by subst hH31; rfl
              have g37 : H31.1 42 0 row = H11.1 42 0 row := by subst hH31; rfl
              have g38 : H31.1 0 1 b = H11.1 0 1 b := by subst hH31; rfl
              clear hH31
              refine J.run0 2 rfl ?_
              try dsimp only
              exact ih (k + 1) T13 w12 H31 _ (show 12 - (k + 1) < _ by omega) (show 0 ≤ (k + 1) ∧ (k + 1) ≤ 12 from ⟨by omega, by omega⟩) (show ((w12.2.1 : Nat) : Int) - 2 * H31.1 7 4 F.2.2.1 - 13 * H31.1 3 1 F.2.1 - H31.1 3 3 F.2.1 ≤ ((w0.2.1 : Nat) : Int) - 2 * H0.1 7 4 F.2.2.1 - 13 * H0.1 3 1 F.2.1 - H0.1 3 3 F.2.1 + (0) from by omega) (show ((w12.2.2 : Nat) : Int) - 18 * H31.1 7 4 F.2.2.1 - 700 * H31.1 3 1 F.2.1 - 6 * H31.1 3 3 F.2.1 ≤ ((w0.2.2 : Nat) : Int) - 18 * H0.1 7 4 F.2.2.1 - 700 * H0.1 3 1 F.2.1 - 6 * H0.1 3 3 F.2.1 + 10 * (0) from by omega) hI32 hS15 hE33  rfl
            · have c39 : ¬ (¬ (x26 = (0 : Int))) := hc
              clear hc
              refine J.run0 1 rfl ?_
              try dsimp only
              exact J.retb rfl rfl rfl (show (0 : Int) = 0 ∨ (0 : Int) = 1 by omega) ⟨_, rfl, T13, hI14, hS15, hE16, (show ((w12.2.1 : Nat) : Int) - 2 * H11.1 7 4 F.2.2.1 - 13 * H11.1 3 1 F.2.1 - H11.1 3 3 F.2.1 ≤ ((w0.2.1 : Nat) : Int) - 2 * H0.1 7 4 F.2.2.1 - 13 * H0.1 3 1 F.2.1 - H0.1 3 3 F.2.1 + (0) by omega), (show ((w12.2.2 : Nat) : Int) - 18 * H11.1 7 4 F.2.2.1 - 700 * H11.1 3 1 F.2.1 - 6 * H11.1 3 3 F.2.1 ≤ ((w0.2.2 : Nat) : Int) - 18 * H0.1 7 4 F.2.2.1 - 700 * H0.1 3 1 F.2.1 - 6 * H0.1 3 3 F.2.1 + 10 * (0) by omega), _, rfl, (show ((0 : Int)) = 0 ∨ ((0 : Int)) = 1 from by omega)⟩
set_option maxRecDepth 20000 in
set_option maxHeartbeats 8000000 in
theorem c_X3_isValid {b : Nat} {proposer : Int} {row : Nat} {T : cP} {w : jW} {H : jH} (hI : cJ F T w H) (ta0 : T 0 b) (ta1 : T 42 row) (hp0 : H.2.1 0 6 b ≠ none) (hp1 : ∀ i, 0 ≤ i → i < H.1 42 0 row → 0 ≤ H.2.2.1 42 row i ∧ H.2.2.1 42 row i < H.1 3 3 F.2.1) (hp2 : 0 ≤ proposer ∧ proposer ≤ 15) : J false (d + 2) 19 w (0, jargs 0 [.inr (some (3, F.2.1)), .inr (some (0, b)), .inl proposer, .inr (some (42, row))], [], H) (jN fun v w' H' => ∃ T', cJ F T' w' H' ∧ (∀ k p, T k p → T' k p) ∧ cEx T [307, 30024, 30032, 30033, 30034, 30035, 30036, 30037, 30038, 30039, 804, 808, 809, 811] H' H ∧ ((w'.2.1 : Nat) : Int) - 2 * H'.1 7 4 F.2.2.1 - 13 * H'.1 3 1 F.2.1 - H'.1 3 3 F.2.1 ≤ ((w.2.1 : Nat) : Int) - 2 * H.1 7 4 F.2.2.1 - 13 * H.1 3 1 F.2.1 - H.1 3 3 F.2.1 + (0) ∧ ((w'.2.2 : Nat) : Int) - 18 * H'.1 7 4 F.2.2.1 - 700 * H'.1 3 1 F.2.1 - 6 * H'.1 3 3 F.2.1 ≤ ((w.2.2 : Nat) : Int) - 18 * H.1 7 4 F.2.2.1 - 700 * H.1 3 1 F.2.1 - 6 * H.1 3 3 F.2.1 + 10 * (0) ∧ ∃ rv, v = some (.inl rv) ∧ (rv = 0 ∨ rv = 1)) := by
  have hE : cEx T [307, 30024, 30032, 30033, 30034, 30035, 30036, 30037, 30038, 30039, 804, 808, 809, 811] H H := cEx.refl
  have hS : ∀ k p, T k p → T k p := fun _ _ z => z
  refine J.run0 2 rfl ?_
  try dsimp only
  refine J.inv rfl rfl rfl rfl rfl rfl ((jD_w rfl).mpr (hI.is hI.top.2.1)) rfl rfl rfl rfl rfl (c_X3_openTrial (b := b) hI ta0 (show H.2.1 0 6 b ≠ none by first | exact hp0 | (rw [hn]; exact (nomatch ·)) | (intro z; simp_all))) ?_
  rintro v w41 H40 ⟨T42, hI43, shS44, ehE45, hr46, hr46s, hv⟩
  have hr46' : ((w41.2.1 : Nat) : Int) - 2 * H40.1 7 4 F.2.2.1 - 13 * H40.1 3 1 F.2.1 - H40.1 3 3 F.2.1 ≤ ((w.2.1 : Nat) : Int) - 2 * H.1 7 4 F.2.2.1 - 13 * H.1 3 1 F.2.1 - H.1 3 3 F.2.1 + (0) := hr46
  have hr46s' : ((w41.2.2 : Nat) : Int) - 18 * H40.1 7 4 F.2.2.1 - 700 * H40.1 3 1 F.2.1 - 6 * H40.1 3 3 F.2.1 ≤ ((w.2.2 : Nat) : Int) - 18 * H.1 7 4 F.2.2.1 - 700 * H.1 3 1 F.2.1 - 6 * H.1 3 3 F.2.1 + 10 * (0) := hr46s
  have hE45 : cEx T [307, 30024, 30032, 30033, 30034, 30035, 30036, 30037, 30038, 30039, 804, 808, 809, 811] H40 H := cEx.trans ehE45 hE hS (by decide)
  have hS44 : ∀ k p, T k p → T42 k p := fun k p z => shS44 k p (hS k p z)
  have g47 : H40.1 7 4 F.2.2.1 = H.1 7 4 F.2.2.1 := (ehE45.1 7 4 F.2.2.1 hI.top.2.2.1).1 (by decide)
  have g48 : H40.1 3 1 F.2.1 = H.1 3 1 F.2.1 := (ehE45.1 3 1 F.2.1 hI.top.2.1).1 (by decide)
  have g49 : H40.1 3 3 F.2.1 = H.1 3 3 F.2.1 := (ehE45.1 3 3 F.2.1 hI.top.2.1).1 (by decide)
  have t50 : T42 3 F.2.1 := shS44 _ _ hI.top.2.1
  have t51 : T42 0 b := shS44 _ _ ta0
  have t52 : T42 42 row := shS44 _ _ ta1
  obtain rfl := hv
  try dsimp only [Option.toList, List.append, List.cons_append, List.nil_append]
  refine J.run0 2 rfl ?_
  try dsimp only
  exact (c_X3_isValid_l0 (b := b) (proposer := proposer) (row := row) hI ta0 ta1 hp0 hp1 hp2 ((12 - ((0 : Int)) : Int).toNat + 1)) ((0 : Int)) T42 w41 H40 _ (show 12 - ((0 : Int)) < _ by omega) (show 0 ≤ ((0 : Int)) ∧ ((0 : Int)) ≤ 12 from ⟨by omega, by omega⟩) (show ((w41.2.1 : Nat) : Int) - 2 * H40.1 7 4 F.2.2.1 - 13 * H40.1 3 1 F.2.1 - H40.1 3 3 F.2.1 ≤ ((w.2.1 : Nat) : Int) - 2 * H.1 7 4 F.2.2.1 - 13 * H.1 3 1 F.2.1 - H.1 3 3 F.2.1 + (0) from by omega) (show ((w41.2.2 : Nat) : Int) - 18 * H40.1 7 4 F.2.2.1 - 700 * H40.1 3 1 F.2.1 - 6 * H40.1 3 3 F.2.1 ≤ ((w.2.2 : Nat) : Int) - 18 * H.1 7 4 F.2.2.1 - 700 * H.1 3 1 F.2.1 - 6 * H.1 3 3 F.2.1 + 10 * (0) from by omega) hI43 hS44 hE45  rfl
end
-- M: X3_add
section
variable {d : Nat} {F : cG} 
set_option maxRecDepth 20000 in
set_option maxHeartbeats 8000000 in
theorem c_X3_add {b : Nat} {proposer : Int} {row : Nat} {cl : Nat} {sound : Int} {T : cP} {w : jW} {H : jH} (hI : cJ F T w H) (ta0 : T 0 b) (ta1 : T 42 row) (ta2 : T 43 cl) (hp0 : H.1 3 1 F.2.1 < 300) (hp1 : 0 ≤ sound ∧ sound ≤ 1) : J false (d + 1) 21 w (0, jargs 0 [.inr (some (3, F.2.1)), .inr (some (0, b)), .inl proposer, .inr (some (42, row)), .inr (some (43, cl)), .inl sound], [], H) (jN fun v w' H' => ∃ T', cJ F T' w' H' ∧ (∀ k p, T k p → T' k p) ∧ cEx T [301, 40021, 30043, 813, 30032, 30033, 30034, 30035, 30036, 30037, 30038, 30039, 804, 808, 809, 811] H' H ∧ ((w'.2.1 : Nat) : Int) - 2 * H'.1 7 4 F.2.2.1 - 13 * H'.1 3 1 F.2.1 - H'.1 3 3 F.2.1 ≤ ((w.2.1 : Nat) : Int) - 2 * H.1 7 4 F.2.2.1 - 13 * H.1 3 1 F.2.1 - H.1 3 3 F.2.1 + (-2) ∧ ((w'.2.2 : Nat) : Int) - 18 * H'.1 7 4 F.2.2.1 - 700 * H'.1 3 1 F.2.1 - 6 * H'.1 3 3 F.2.1 ≤ ((w.2.2 : Nat) : Int) - 18 * H.1 7 4 F.2.2.1 - 700 * H.1 3 1 F.2.1 - 6 * H.1 3 3 F.2.1 + 10 * (-2) ∧ ∃ rv, v = some (.inl rv) ∧ (0 ≤ rv ∧ rv ≤ 299)) := by
  have hE : cEx T [301, 40021, 30043, 813, 30032, 30033, 30034, 30035, 30036, 30037, 30038, 30039, 804, 808, 809, 811] H H := cEx.refl
  have hS : ∀ k p, T k p → T k p := fun _ _ z => z
  refine J.run0 3 rfl ?_
  try dsimp only
  refine J.ifc rfl rfl rfl (show -2147483648 ≤ sound ∧ sound ≤ 2147483647 from ⟨by omega, by omega⟩) (fun hc => ?_) (fun hc => ?_)
  · have c1 : sound = (0 : Int) := hc
    clear hc
    refine s_blk (o := none) hI (by omega) ta0 ta1 ta2 (fun q z => nomatch z) fun w3 H2 q9  hI4 ehE6 ca7 cb8 p10 => ?_
    have p10' : H2.1 3 1 F.2.1 = H.1 3 1 F.2.1 + 1 := p10
    have pM0 := p10
    have eM := ehE6
    have g11 : H2.1 7 4 F.2.2.1 = H.1 7 4 F.2.2.1 := (ehE6.1 7 4 F.2.2.1 hI.top.2.2.1).1 (by decide)
    have g12 : H2.1 3 3 F.2.1 = H.1 3 3 F.2.1 := (ehE6.1 3 3 F.2.1 hI.top.2.1).1 (by decide)
    have hE6 : cEx T [301, 40021, 30043, 813, 30032, 30033, 30034, 30035, 30036, 30037, 30038, 30039, 804, 808, 809, 811] H2 H := cEx.trans ehE6 hE hS (by decide)
    have hS5 : ∀ k p, T k p → (tA T 0 q9) k p := fun k p z => Or.inl (hS k p z)
    have t13 : (tA T 0 q9) 3 F.2.1 := Or.inl hI.top.2.1
    have t14 : (tA T 0 q9) 0 b := Or.inl ta0
    have t15 : (tA T 0 q9) 42 row := Or.inl ta1
    have t16 : (tA T 0 q9) 43 cl := Or.inl ta2
    have t17 : (tA T 0 q9) 0 q9 := tA.new
    try dsimp only [Option.toList, List.append, List.cons_append, List.nil_append, Option.map]
    have f18 : 1 ≤ H2.1 3 1 F.2.1 ∧ H2.1 3 1 F.2.1 ≤ 300 := hI4.v 3 1 F.2.1 t13
    refine J.run 4 rfl (hI4.is t13) ?_
    try dsimp only
    exact J.reti rfl rfl rfl ⟨_, rfl, (tA T 0 q9), hI4, hS5, hE6, (show ((w3.2.1 : Nat) : Int) - 2 * H2.1 7 4 F.2.2.1 - 13 * H2.1 3 1 F.2.1 - H2.1 3 3 F.2.1 ≤ ((w.2.1 : Nat) : Int) - 2 * H.1 7 4 F.2.2.1 - 13 * H.1 3 1 F.2.1 - H.1 3 3 F.2.1 + (-2) by omega), (show ((w3.2.2 : Nat) : Int) - 18 * H2.1 7 4 F.2.2.1 - 700 * H2.1 3 1 F.2.1 - 6 * H2.1 3 3 F.2.1 ≤ ((w.2.2 : Nat) : Int) - 18 * H.1 7 4 F.2.2.1 - 700 * H.1 3 1 F.2.1 - 6 * H.1 3 3 F.2.1 + 10 * (-2) by omega), _, rfl, (show 0 ≤ ((H2.1 3 1 F.2.1) - (1 : Int)) ∧ ((H2.1 3 1 F.2.1) - (1 : Int)) ≤ 299 from ⟨by omega, by omega⟩)⟩
  · have c19 : ¬ (sound = (0 : Int)) := hc
    clear hc
    refine s_st hI fun w21 H20 q27 pw28 hI22 ehE24 ca25 cb26 p29 => ?_
    have p29' : ∀ k p, T k p → p ≠ q27 := p29
    have pM0 := p29
    have eM := ehE24
    have g30 : H20.1 7 4 F.2.2.1 = H.1 7 4 F.2.2.1 := (ehE24.1 7 4 F.2.2.1 hI.top.2.2.1).1 (by decide)
    have g31 : H20.1 3 1 F.2.1 = H.1 3 1 F.2.1 := (ehE24.1 3 1 F.2.1 hI.top.2.1).1 (by decide)
    have g32 : H20.1 3 3 F.2.1 = H.1 3 3 F.2.1 := (ehE24.1 3 3 F.2.1 hI.top.2.1).1 (by decide)
    have hE24 : cEx T [301, 40021, 30043, 813, 30032, 30033, 30034, 30035, 30036, 30037, 30038, 30039, 804, 808, 809, 811] H20 H := cEx.trans ehE24 hE hS (by decide)
    have hS23 : ∀ k p, T k p → (tSt T q27 pw28) k p := fun k p z => tSt.sub _ _ (hS k p z)
    have t33 : (tSt T q27 pw28) 3 F.2.1 := tSt.sub _ _ hI.top.2.1
    have t34 : (tSt T q27 pw28) 0 b := tSt.sub _ _ ta0
    have t35 : (tSt T q27 pw28) 42 row := tSt.sub _ _ ta1
    have t36 : (tSt T q27 pw28) 43 cl := tSt.sub _ _ ta2
    have t37 : (tSt T q27 pw28) 8 q27 := tSt.new
    try dsimp only [Option.toList, List.append, List.cons_append, List.nil_append, Option.map]
    refine J.run 4 rfl ⟨(hI22.is t33), (hI22.o 3 4 8 F.2.1 rfl t33).1⟩ ?_
    try dsimp only
    have hne : q27 ≠ (H20.2.2.2.2 3 4 F.2.1) := fun z => pM0 8 _ (hI.o 3 4 8 F.2.1 rfl hI.top.2.1).2 (((eM.1 3 4 F.2.1 hI.top.2.1).2.2 (by decide)).symm.trans z.symm)
    refine J.inv rfl rfl rfl rfl rfl rfl ((jD_w rfl).mpr (hI22.is t37)) rfl rfl rfl rfl rfl (c_X8_beLike (a0 := q27) (s := (H20.2.2.2.2 3 4 F.2.1)) hI22 t37 (hI22.o 3 4 8 F.2.1 rfl t33).2 (show q27 ≠ (H20.2.2.2.2 3 4 F.2.1) from by omega)) ?_
    rintro v w39 H38 ⟨T40, hI41, shS42, ehE43, hr44, hr44s, hv⟩
    have hr44' : ((w39.2.1 : Nat) : Int) - 2 * H38.1 7 4 F.2.2.1 - 13 * H38.1 3 1 F.2.1 - H38.1 3 3 F.2.1 ≤ ((w21.2.1 : Nat) : Int) - 2 * H20.1 7 4 F.2.2.1 - 13 * H20.1 3 1 F.2.1 - H20.1 3 3 F.2.1 + (0) := hr44
    have hr44s' : ((w39.2.2 : Nat) : Int) - 18 * H38.1 7 4 F.2.2.1 - 700 * H38.1 3 1 F.2.1 - 6 * H38.1 3 3 F.2.1 ≤ ((w21.2.2 : Nat) : Int) - 18 * H20.1 7 4 F.2.2.1 - 700 * H20.1 3 1 F.2.1 - 6 * H20.1 3 3 F.2.1 + 10 * (0) := hr44s
    have hE43 : cEx T [301, 40021, 30043, 813, 30032, 30033, 30034, 30035, 30036, 30037, 30038, 30039, 804, 808, 809, 811] H38 H := cEx.trans ehE43 hE24 hS23 (by decide)
    have hS42 : ∀ k p, T k p → T40 k p := fun k p z => shS42 k p (hS23 k p z)
    have g45 : H38.1 7 4 F.2.2.1 = H20.1 7 4 F.2.2.1 := (ehE43.1 7 4 F.2.2.1 hI22.top.2.2.1).1 (by decide)
    have g46 : H38.1 3 1 F.2.1 = H20.1 3 1 F.2.1 := (ehE43.1 3 1 F.2.1 t33).1 (by decide)
    have g47 : H38.1 3 3 F.2.1 = H20.1 3 3 F.2.1 := (ehE43.1 3 3 F.2.1 t33).1 (by decide)
    have t48 : T40 8 q27 := shS42 _ _ t37
    have t49 : T40 3 F.2.1 := shS42 _ _ t33
    have t50 : T40 0 b := shS42 _ _ t34
    have t51 : T40 42 row := shS42 _ _ t35
    have t52 : T40 43 cl := shS42 _ _ t36
    obtain rfl := hv
    try dsimp only [Option.toList, List.append, List.cons_append, List.nil_append]
    refine J.run0 1 rfl ?_
    try dsimp only
    refine J.inv rfl rfl rfl rfl rfl rfl ((jD_w rfl).mpr (hI41.is t48)) rfl rfl rfl rfl rfl (c_X8_settle (a0 := q27) hI41 t48 ) ?_
    rintro v w54 H53 ⟨T55, hI56, shS57, ehE58, hr59, hr59s, hv⟩
    have hr59' : ((w54.2.1 : Nat) : Int) - 2 * H53.1 7 4 F.2.2.1 - 13 * H53.1 3 1 F.2.1 - H53.1 3 3 F.2.1 ≤ ((w39.2.1 : Nat) : Int) - 2 * H38.1 7 4 F.2.2.1 - 13 * H38.1 3 1 F.2.1 - H38.1 3 3 F.2.1 + (0) := hr59
    have hr59s' : ((w54.2.2 : Nat) : Int) - 18 * H53.1 7 4 F.2.2.1 - 700 * H53.1 3 1 F.2.1 - 6 * H53.1 3 3 F.2.1 ≤ ((w39.2.2 : Nat) : Int) - 18 * H38.1 7 4 F.2.2.1 - 700 * H38.1 3 1 F.2.1 - 6 * H38.1 3 3 F.2.1 + 10 * (0) := hr59s
    have hE58 : cEx T [301, 40021, 30043, 813, 30032, 30033, 30034, 30035, 30036, 30037, 30038, 30039, 804, 808, 809, 811] H53 H := cEx.trans ehE58 hE43 hS42 (by decide)
    have hS57 : ∀ k p, T k p → T55 k p := fun k p z => shS57 k p (hS42 k p z)
    have g60 : H53.1 7 4 F.2.2.1 = H38.1 7 4 F.2.2.1 := (ehE58.1 7 4 F.2.2.1 hI41.top.2.2.1).1 (by decide)
    have g61 : H53.1 3 1 F.2.1 = H38.1 3 1 F.2.1 := (ehE58.1 3 1 F.2.1 t49).1 (by decide)
    have g62 : H53.1 3 3 F.2.1 = H38.1 3 3 F.2.1 := (ehE58.1 3 3 F.2.1 t49).1 (by decide)
    have t63 : T55 8 q27 := shS57 _ _ t48
    have t64 : T55 3 F.2.1 := shS57 _ _ t49
    have t65 : T55 0 b := shS57 _ _ t50
    have t66 : T55 42 row := shS57 _ _ t51
    have t67 : T55 43 cl := shS57 _ _ t52
    obtain rfl := hv
    try dsimp only [Option.toList, List.append, List.cons_append, List.nil_append]
    refine s_blk (o := some q27) hI56 (by omega) t65 t66 t67 (fun q z => by cases z; exact ⟨t63, fun z => pM0 8 _ (hI.o 3 4 8 F.2.1 rfl hI.top.2.1).2 (((hE58.1 3 4 F.2.1 hI.top.2.1).2.2 (by decide)).symm.trans z.symm)⟩) fun w69 H68 q75  hI70 ehE72 ca73 cb74 p76 => ?_
    have p76' : H68.1 3 1 F.2.1 = H53.1 3 1 F.2.1 + 1 := p76
    have pM0 := p76
    have eM := ehE72
    have g77 : H68.1 7 4 F.2.2.1 = H53.1 7 4 F.2.2.1 := (ehE72.1 7 4 F.2.2.1 hI56.top.2.2.1).1 (by decide)
    have g78 : H68.1 3 3 F.2.1 = H53.1 3 3 F.2.1 := (ehE72.1 3 3 F.2.1 hI56.top.2.1).1 (by decide)
    have hE72 : cEx T [301, 40021, 30043, 813, 30032, 30033, 30034, 30035, 30036, 30037, 30038, 30039, 804, 808, 809, 811] H68 H := cEx.trans ehE72 hE58 hS57 (by decide)
    have hS71 : ∀ k p, T k p → (tA T55 0 q75) k p := fun k p z => Or.inl (hS57 k p z)
    have t79 : (tA T55 0 q75) 8 q27 := Or.inl t63
    have t80 : (tA T55 0 q75) 3 F.2.1 := Or.inl t64
    have t81 : (tA T55 0 q75) 0 b := Or.inl t65
    have t82 : (tA T55 0 q75) 42 row := Or.inl t66
    have t83 : (tA T55 0 q75) 43 cl := Or.inl t67
    have t84 : (tA T55 0 q75) 0 q75 := tA.new
    try dsimp only [Option.toList, List.append, List.cons_append, List.nil_append, Option.map]
    have f85 : 1 ≤ H68.1 3 1 F.2.1 ∧ H68.1 3 1 F.2.1 ≤ 300 := hI70.v 3 1 F.2.1 t80
    refine J.run 4 rfl (hI70.is t80) ?_
    try dsimp only
    exact J.reti rfl rfl rfl ⟨_, rfl, (tA T55 0 q75), hI70, hS71, hE72, (show ((w69.2.1 : Nat) : Int) - 2 * H68.1 7 4 F.2.2.1 - 13 * H68.1 3 1 F.2.1 - H68.1 3 3 F.2.1 ≤ ((w.2.1 : Nat) : Int) - 2 * H.1 7 4 F.2.2.1 - 13 * H.1 3 1 F.2.1 - H.1 3 3 F.2.1 + (-2) by omega), (show ((w69.2.2 : Nat) : Int) - 18 * H68.1 7 4 F.2.2.1 - 700 * H68.1 3 1 F.2.1 - 6 * H68.1 3 3 F.2.1 ≤ ((w.2.2 : Nat) : Int) - 18 * H.1 7 4 F.2.2.1 - 700 * H.1 3 1 F.2.1 - 6 * H.1 3 3 F.2.1 + 10 * (-2) by omega), _, rfl, (show 0 ≤ ((H68.1 3 1 F.2.1) - (1 : Int)) ∧ ((H68.1 3 1 F.2.1) - (1 : Int)) ≤ 299 from ⟨by omega, by omega⟩)⟩
end
