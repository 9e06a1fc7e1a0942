-- M: X6_learn
section
variable {d : Nat} {F : cG} 
set_option maxRecDepth 20000 in
set_option maxHeartbeats 8000000 in
theorem c_X6_learn_l0 {a0 : Nat} {m0 : Nat}  {T0 : cP} {w0 : jW} {H0 : jH} (hI0 : cJ F T0 w0 H0) (ta0 : T0 6 a0) (ta1 : T0 5 m0)  : ∀ (m : Nat), (∀ (z : Nat) (T : cP) (w : jW) (H : jH) (lv : jL), 6000 - H.1 5 0 z < (m : Int) → (0 ≤ H.1 5 0 z ∧ H.1 5 0 z ≤ 5999) → (((w.2.1 : Nat) : Int) - 2 * H.1 7 4 F.2.2.1 - 13 * H.1 3 1 F.2.1 - H.1 3 3 F.2.1 ≤ ((w0.2.1 : Nat) : Int) - 2 * H0.1 7 4 F.2.2.1 - 13 * H0.1 3 1 F.2.1 - H0.1 3 3 F.2.1 + (0)) → (((w.2.2 : Nat) : Int) - 18 * H.1 7 4 F.2.2.1 - 700 * H.1 3 1 F.2.1 - 6 * H.1 3 3 F.2.1 ≤ ((w0.2.2 : Nat) : Int) - 18 * H0.1 7 4 F.2.2.1 - 700 * H0.1 3 1 F.2.1 - 6 * H0.1 3 3 F.2.1 + 10 * (0)) → cJ F T w H → (∀ k p, T0 k p → T k p) → cEx T0 [30026, 30027, 616] H H0 → T 5 z → ((∃ o2 : Nat, T 5 o2 ∧ lv = [(3, .inr (some (5, z))), (0, .inr (some (6, a0))), (1, .inr (some (5, m0))), (2, .inr (some (5, o2)))])) → J false (d + 1) 42 w (51, lv, [], H) (jN fun v w' H' => ∃ T', cJ F T' w' H' ∧ (∀ k p, T0 k p → T' k p) ∧ cEx T0 [30026, 30027, 616] H' H0 ∧ ((w'.2.1 : Nat) : Int) - 2 * H'.1 7 4 F.2.2.1 - 13 * H'.1 3 1 F.2.1 - H'.1 3 3 F.2.1 ≤ ((w0.2.1 : Nat) : Int) - 2 * H0.1 7 4 F.2.2.1 - 13 * H0.1 3 1 F.2.1 - H0.1 3 3 F.2.1 + (0) ∧ ((w'.2.2 : Nat) : Int) - 18 * H'.1 7 4 F.2.2.1 - 700 * H'.1 3 1 F.2.1 - 6 * H'.1 3 3 F.2.1 ≤ ((w0.2.2 : Nat) : Int) - 18 * H0.1 7 4 F.2.2.1 - 700 * H0.1 3 1 F.2.1 - 6 * H0.1 3 3 F.2.1 + 10 * (0) ∧ v = none)) := by
  intro m
  induction m with
  | zero =>
    skip
    · intro z T w H lv hm hi0 hi1 hi2 hI hS hE tv3 hlv
      exfalso
      omega
  | succ m ih =>
    skip
    · intro z T w H lv hm hi0 hi1 hi2 hI hS hE tv3 hlv
      rcases hlv with ⟨o2, to2, rfl⟩
      have f1 : 0 ≤ H.1 5 2 z ∧ H.1 5 2 z ≤ 15 := hI.v 5 2 z tv3
      have f2 : 0 ≤ H.1 5 2 m0 ∧ H.1 5 2 m0 ≤ 15 := hI.v 5 2 m0 (hS _ _ ta1)
      refine J.run 6 rfl ⟨(hI.is tv3), (hI.is (hS _ _ ta1))⟩ ?_
      try dsimp only
      refine J.icmp rfl rfl rfl ⟨(show -2147483648 ≤ H.1 5 2 z ∧ H.1 5 2 z ≤ 2147483647 from ⟨by omega, by omega⟩), (show -2147483648 ≤ H.1 5 2 m0 ∧ H.1 5 2 m0 ≤ 2147483647 from ⟨by omega, by omega⟩)⟩ (fun hc => ?_) (fun hc => ?_)
      · have c3 : ¬ (H.1 5 2 z = H.1 5 2 m0) := hc
        clear hc
        refine J.run 2 rfl (hI.is tv3) ?_
        try dsimp only
        try dsimp only
        rcases hn4 : H.2.1 5 7 z with _ | q5
        · skip
          have f6 : 0 ≤ H.1 5 0 m0 ∧ H.1 5 0 m0 ≤ 5999 := hI.v 5 0 m0 (hS _ _ ta1)
          have f7 : -2147483648 ≤ jushr (H.1 5 0 m0) ((5 : Int)) ∧ jushr (H.1 5 0 m0) ((5 : Int)) ≤ 2147483647 := jI32 _
          have f8 : 0 ≤ H.1 5 0 m0 ∧ H.1 5 0 m0 < 6000 → 0 ≤ jushr (H.1 5 0 m0) ((5 : Int)) ∧ jushr (H.1 5 0 m0) ((5 : Int)) < 188 := jix5 _
          have f9 : -2147483648 ≤ jand (H.1 5 0 m0) ((31 : Int)) ∧ jand (H.1 5 0 m0) ((31 : Int)) ≤ 2147483647 := jI32 _
          have f10 : -2147483648 ≤ jshl ((1 : Int)) (jand (H.1 5 0 m0) ((31 : Int))) ∧ jshl ((1 : Int)) (jand (H.1 5 0 m0) ((31 : Int))) ≤ 2147483647 := jI32 _
          have f11 : -2147483648 ≤ jor (H.2.2.1 27 a0 (jushr (H.1 5 0 m0) ((5 : Int)))) (jshl ((1 : Int)) (jand (H.1 5 0 m0) ((31 : Int)))) ∧ jor (H.2.2.1 27 a0 (jushr (H.1 5 0 m0) ((5 : Int)))) (jshl ((1 : Int)) (jand (H.1 5 0 m0) ((31 : Int)))) ≤ 2147483647 := jI32 _
          refine J.run 20 rfl ⟨⟨(hI.is (hS _ _ ta0)), hI.is (hI.r 6 15 27 a0 rfl (hS _ _ ta0))⟩, (hI.is (hS _ _ ta1)), (show w.1 27 a0 ∧ 0 ≤ jushr (H.1 5 0 m0) ((5 : Int)) ∧ jushr (H.1 5 0 m0) ((5 : Int)) < 188 from ⟨hI.is (hI.r 6 15 27 a0 rfl (hS _ _ ta0)), by omega, by omega⟩), (hI.is (hS _ _ ta1)), (show w.1 27 a0 ∧ 0 ≤ jushr (H.1 5 0 m0) ((5 : Int)) ∧ jushr (H.1 5 0 m0) ((5 : Int)) < 188 from ⟨hI.is (hI.r 6 15 27 a0 rfl (hS _ _ ta0)), by omega, by omega⟩)⟩ ?_
          try dsimp only
          refine J.gn fun H12 hH12 => ?_
          have hI13 : cJ F T w H12 := by rw [hH12]; exact cI.wRj hI (hI.r 6 15 27 a0 rfl (hS _ _ ta0)) trivial
          have hE14 : cEx T0 [30026, 30027, 616] H12 H0 := by rw [hH12]; exact cEx.wR hE (by decide)
          have g15 : H12.1 5 0 z = H.1 5 0 z := by subst hH12; rfl
          have g16 : H12.1 7 4 F.2.2.1 = H.1 7 4 F.2.2.1 := by subst hH12; rfl
          have g17 : H12.1 3 1 F.2.1 = H.1 3 1 F.2.1 := by subst hH12; rfl
          have g18 : H12.1 3 3 F.2.1 = H.1 3 3 F.2.1 := by subst hH12; rfl
          have g19 : H12.1 5 2 z = H.1 5 2 z := by subst hH12; rfl
          have g20 : H12.1 5 2 m0 = H.1 5 2 m0 := by subst hH12; rfl
          have g21 : H12.1 5 0 m0 = H.1 5 0 m0 := by subst hH12; rfl
          clear hH12
          exact J.retv rfl rfl rfl ⟨_, rfl, T, hI13, hS, hE14, (show ((w.2.1 : Nat) : Int) - 2 * H12.1 7 4 F.2.2.1 - 13 * H12.1 3 1 F.2.1 - H12.1 3 3 F.2.1 ≤ ((w0.2.1 : Nat) : Int) - 2 * H0.1 7 4 F.2.2.1 - 13 * H0.1 3 1 F.2.1 - H0.1 3 3 F.2.1 + (0) by omega), (show ((w.2.2 : Nat) : Int) - 18 * H12.1 7 4 F.2.2.1 - 700 * H12.1 3 1 F.2.1 - 6 * H12.1 3 3 F.2.1 ≤ ((w0.2.2 : Nat) : Int) - 18 * H0.1 7 4 F.2.2.1 - 700 * H0.1 3 1 F.2.1 - 6 * H0.1 3 3 F.2.1 + 10 * (0) by omega), rfl⟩
        · have t22 : T 5 q5 := hI.n 5 7 5 z rfl tv3 hn4
          have f23 : 0 ≤ H.1 5 0 q5 ∧ H.1 5 0 q5 ≤ 5999 := hI.v 5 0 q5 t22
          have f24 := hI.nx tv3 hn4
          refine J.run0 2 rfl ?_
          try dsimp only
          exact ih (q5) T w H _ (show 6000 - H.1 5 0 (q5) < _ by omega) (show 0 ≤ H.1 5 0 (q5) ∧ H.1 5 0 (q5) ≤ 5999 from ⟨by omega, by omega⟩) (show ((w.2.1 : Nat) : Int) - 2 * H.1 7 4 F.2.2.1 - 13 * H.1 3 1 F.2.1 - H.1 3 3 F.2.1 ≤ ((w0.2.1 : Nat) : Int) - 2 * H0.1 7 4 F.2.2.1 - 13 * H0.1 3 1 F.2.1 - H0.1 3 3 F.2.1 + (0) from by omega) (show ((w.2.2 : Nat) : Int) - 18 * H.1 7 4 F.2.2.1 - 700 * H.1 3 1 F.2.1 - 6 * H.1 3 3 F.2.1 ≤ ((w0.2.2 : Nat) : Int) - 18 * H0.1 7 4 F.2.2.1 - 700 * H0.1 3 1 F.2.1 - 6 * H0.1 3 3 F.2.1 + 10 * (0) from by omega) hI hS hE t22 ⟨_, to2, rfl⟩
      · have c25 : ¬ (¬ (H.1 5 2 z = H.1 5 2 m0)) := hc
        clear hc
        refine J.run0 2 rfl ?_
        try dsimp only
        refine J.inv rfl rfl rfl rfl rfl rfl ((jD_w rfl).mpr (hI.is (hS _ _ ta0))) rfl rfl rfl rfl rfl (c_X6_heardAsFirst (a0 := a0) (m0 := z) hI (hS _ _ ta0) tv3 ) ?_
        rintro v w H ⟨rfl, rfl, hv⟩
        obtain ⟨x26, rfl, r27⟩ := hv
        have r27' : x26 = 0 ∨ x26 = 1 := r27
        try dsimp only [Option.toList, List.append, List.cons_append, List.nil_append]
        refine J.ifc rfl rfl rfl (show -2147483648 ≤ x26 ∧ x26 ≤ 2147483647 from ⟨by omega, by omega⟩) (fun hc => ?_) (fun hc => ?_)
        · have c28 : x26 = (0 : Int) := hc
          clear hc
          refine J.run 2 rfl (hI.is tv3) ?_
          try dsimp only
          try dsimp only
          rcases hn29 : H.2.1 5 7 z with _ | q30
          · skip
            have f31 : 0 ≤ H.1 5 0 m0 ∧ H.1 5 0 m0 ≤ 5999 := hI.v 5 0 m0 (hS _ _ ta1)
            have f32 : -2147483648 ≤ jushr (H.1 5 0 m0) ((5 : Int)) ∧ jushr (H.1 5 0 m0) ((5 : Int)) ≤ 2147483647 := jI32 _
            have f33 : 0 ≤ H.1 5 0 m0 ∧ H.1 5 0 m0 < 6000 → 0 ≤ jushr (H.1 5 0 m0) ((5 : Int)) ∧ jushr (H.1 5 0 m0) ((5 : Int)) < 188 := jix5 _
            have f34 : -2147483648 ≤ jand (H.1 5 0 m0) ((31 : Int)) ∧ jand (H.1 5 0 m0) ((31 : Int)) ≤ 2147483647 := jI32 _
            have f35 : -2147483648 ≤ jshl ((1 : Int)) (jand (H.1 5 0 m0) ((31 : Int))) ∧ jshl ((1 : Int)) (jand (H.1 5 0 m0) ((31 : Int))) ≤ 2147483647 := jI32 _
            have f36 : -2147483648 ≤ jor (H.2.2.1 27 a0 (jushr (H.1 5 0 m0) ((5 : Int)))) (jshl ((1 : Int)) (jand (H.1 5 0 m0) ((31 : Int)))) ∧ jor (H.2.2.1 27 a0 (jushr (H.1 5 0 m0) ((5 : Int)))) (jshl ((1 : Int)) (jand (H.1 5 0 m0) ((31 : Int)))) ≤ 2147483647 := jI32 _
            refine J.run 20 rfl ⟨⟨(hI.is (hS _ _ ta0)), hI.is (hI.r 6 15 27 a0 rfl (hS _ _ ta0))⟩, (hI.is (hS _ _ ta1)), (show w.1 27 a0 ∧ 0 ≤ jushr (H.1 5 0 m0) ((5 : Int)) ∧ jushr (H.1 5 0 m0) ((5 : Int)) < 188 from ⟨hI.is (hI.r 6 15 27 a0 rfl (hS _ _ ta0)), by omega, by omega⟩), (hI.is (hS _ _ ta1)), (show w.1 27 a0 ∧ 0 ≤ jushr (H.1 5 0 m0) ((5 : Int)) ∧ jushr (H.1 5 0 m0) ((5 : Int)) < 188 from ⟨hI.is (hI.r 6 15 27 a0 rfl (hS _ _ ta0)), by omega, by omega⟩)⟩ ?_
            try dsimp only
            refine J.gn fun H37 hH37 => ?_
            have hI38 : cJ F T w H37 := by rw [hH37]; exact cI.wRj hI (hI.r 6 15 27 a0 rfl (hS _ _ ta0)) trivial
            have hE39 : cEx T0 [30026, 30027, 616] H37 H0 := by rw [hH37]; exact cEx.wR hE (by decide)
            have g40 : H37.1 5 0 z = H.1 5 0 z := by subst hH37; rfl
            have g41 : H37.1 7 4 F.2.2.1 = H.1 7 4 F.2.2.1 := by subst hH37; rfl
            have g42 : H37.1 3 1 F.2.1 = H.1 3 1 F.2.1 := by subst hH37; rfl
            have g43 : H37.1 3 3 F.2.1 = H.1 3 3 F.2.1 := by subst hH37; rfl
            have g44 : H37.1 5 2 z = H.1 5 2 z := by subst hH37; rfl
            have g45 : H37.1 5 2 m0 = H.1 5 2 m0 := by subst hH37; rfl
            have g46 : H37.1 5 0 m0 = H.1 5 0 m0 := by subst hH37; rfl
            clear hH37
            exact J.retv rfl rfl rfl ⟨_, rfl, T, hI38, hS, hE39, (show ((w.2.1 : Nat) : Int) - 2 * H37.1 7 4 F.2.2.1 - 13 * H37.1 3 1 F.2.1 - H37.1 3 3 F.2.1 ≤ ((w0.2.1 : Nat) : Int) - 2 * H0.1 7 4 F.2.2.1 - 13 * H0.1 3 1 F.2.1 - H0.1 3 3 F.2.1 + (0) by omega), (show ((w.2.2 : Nat) : Int) - 18 * H37.1 7 4 F.2.2.1 - 700 * H37.1 3 1 F.2.1 - 6 * H37.1 3 3 F.2.1 ≤ ((w0.2.2 : Nat) : Int) - 18 * H0.1 7 4 F.2.2.1 - 700 * H0.1 3 1 F.2.1 - 6 * H0.1 3 3 F.2.1 + 10 * (0) by omega), rfl⟩
          · have t47 : T 5 q30 := hI.n 5 7 5 z rfl tv3 hn29
            have f48 : 0 ≤ H.1 5 0 q30 ∧ H.1 5 0 q30 ≤ 5999 := hI.v 5 0 q30 t47
            have f49 := hI.nx tv3 hn29
            refine J.run0 2 rfl ?_
            try dsimp only
            exact ih (q30) T w H _ (show 6000 - H.1 5 0 (q30) < _ by omega) (show 0 ≤ H.1 5 0 (q30) ∧ H.1 5 0 (q30) ≤ 5999 from ⟨by omega, by omega⟩) (show ((w.2.1 : Nat) : Int) - 2 * H.1 7 4 F.2.2.1 - 13 * H.1 3 1 F.2.1 - H.1 3 3 F.2.1 ≤ ((w0.2.1 : Nat) : Int) - 2 * H0.1 7 4 F.2.2.1 - 13 * H0.1 3 1 F.2.1 - H0.1 3 3 F.2.1 + (0) from by omega) (show ((w.2.2 : Nat) : Int) - 18 * H.1 7 4 F.2.2.1 - 700 * H.1 3 1 F.2.1 - 6 * H.1 3 3 F.2.1 ≤ ((w0.2.2 : Nat) : Int) - 18 * H0.1 7 4 F.2.2.1 - 700 * H0.1 3 1 F.2.1 - 6 * H0.1 3 3 F.2.1 + 10 * (0) from by omega) hI hS hE t47 ⟨_, to2, rfl⟩
        · have c50 : ¬ (x26 = (0 : Int)) := hc
          clear hc
          exact J.retv rfl rfl rfl ⟨_, rfl, T, hI, hS, hE, (show ((w.2.1 : Nat) : Int) - 2 * H.1 7 4 F.2.2.1 - 13 * H.1 3 1 F.2.1 - H.1 3 3 F.2.1 ≤ ((w0.2.1 : Nat) : Int) - 2 * H0.1 7 4 F.2.2.1 - 13 * H0.1 3 1 F.2.1 - H0.1 3 3 F.2.1 + (0) by omega), (show ((w.2.2 : Nat) : Int) - 18 * H.1 7 4 F.2.2.1 - 700 * H.1 3 1 F.2.1 - 6 * H.1 3 3 F.2.1 ≤ ((w0.2.2 : Nat) : Int) - 18 * H0.1 7 4 F.2.2.1 - 700 * H0.1 3 1 F.2.1 - 6 * H0.1 3 3 F.2.1 + 10 * (0) by omega), rfl⟩
set_option maxRecDepth 20000 in
set_option maxHeartbeats 8000000 in
theorem c_X6_learn {a0 : Nat} {m0 : Nat} {row : Option Nat} {T : cP} {w : jW} {H : jH} (hI : cJ F T w H) (ta0 : T 6 a0) (ta1 : T 5 m0) (ta2 : ∀ q, row = some q → T 5 q)  : J false (d + 1) 42 w (0, jargs 0 [.inr (some (6, a0)), .inr (some (5, m0)), .inr ((row).map fun q => (5, q))], [], H) (jN fun v w' H' => ∃ T', cJ F T' w' H' ∧ (∀ k p, T k p → T' k p) ∧ cEx T [30026, 30027, 616] H' H ∧ ((w'.2.1 : Nat) : Int) - 2 * H'.1 7 4 F.2.2.1 - 13 * H'.1 3 1 F.2.1 - H'.1 3 3 F.2.1 ≤ ((w.2.1 : Nat) : Int) - 2 * H.1 7 4 F.2.2.1 - 13 * H.1 3 1 F.2.1 - H.1 3 3 F.2.1 + (0) ∧ ((w'.2.2 : Nat) : Int) - 18 * H'.1 7 4 F.2.2.1 - 700 * H'.1 3 1 F.2.1 - 6 * H'.1 3 3 F.2.1 ≤ ((w.2.2 : Nat) : Int) - 18 * H.1 7 4 F.2.2.1 - 700 * H.1 3 1 F.2.1 - 6 * H.1 3 3 F.2.1 + 10 * (0) ∧ v = none) := by
  have hE : cEx T [30026, 30027, 616] H H := cEx.refl
  have hS : ∀ k p, T k p → T k p := fun _ _ z => z
  rcases row with _ | row
  · skip
    have f51 : 0 ≤ H.1 5 0 m0 ∧ H.1 5 0 m0 ≤ 5999 := hI.v 5 0 m0 ta1
    have f52 : -2147483648 ≤ jushr (H.1 5 0 m0) ((5 : Int)) ∧ jushr (H.1 5 0 m0) ((5 : Int)) ≤ 2147483647 := jI32 _
    have f53 : 0 ≤ H.1 5 0 m0 ∧ H.1 5 0 m0 < 6000 → 0 ≤ jushr (H.1 5 0 m0) ((5 : Int)) ∧ jushr (H.1 5 0 m0) ((5 : Int)) < 188 := jix5 _
    have f54 : -2147483648 ≤ jand (H.1 5 0 m0) ((31 : Int)) ∧ jand (H.1 5 0 m0) ((31 : Int)) ≤ 2147483647 := jI32 _
    have f55 : -2147483648 ≤ jshl ((1 : Int)) (jand (H.1 5 0 m0) ((31 : Int))) ∧ jshl ((1 : Int)) (jand (H.1 5 0 m0) ((31 : Int))) ≤ 2147483647 := jI32 _
    have f56 : -2147483648 ≤ jor (H.2.2.1 26 a0 (jushr (H.1 5 0 m0) ((5 : Int)))) (jshl ((1 : Int)) (jand (H.1 5 0 m0) ((31 : Int)))) ∧ jor (H.2.2.1 26 a0 (jushr (H.1 5 0 m0) ((5 : Int)))) (jshl ((1 : Int)) (jand (H.1 5 0 m0) ((31 : Int)))) ≤ 2147483647 := jI32 _
    refine J.run 16 rfl ⟨⟨(hI.is ta0), hI.is (hI.r 6 14 26 a0 rfl ta0)⟩, (hI.is ta1), (show w.1 26 a0 ∧ 0 ≤ jushr (H.1 5 0 m0) ((5 : Int)) ∧ jushr (H.1 5 0 m0) ((5 : Int)) < 188 from ⟨hI.is (hI.r 6 14 26 a0 rfl ta0), by omega, by omega⟩), (hI.is ta1), (show w.1 26 a0 ∧ 0 ≤ jushr (H.1 5 0 m0) ((5 : Int)) ∧ jushr (H.1 5 0 m0) ((5 : Int)) < 188 from ⟨hI.is (hI.r 6 14 26 a0 rfl ta0), by omega, by omega⟩)⟩ ?_
    try dsimp only
    refine J.gn fun H57 hH57 => ?_
    have hI58 : cJ F T w H57 := by rw [hH57]; exact cI.wRj hI (hI.r 6 14 26 a0 rfl ta0) trivial
    have hE59 : cEx T [30026, 30027, 616] H57 H := by rw [hH57]; exact cEx.wR hE (by decide)
    have g60 : H57.1 5 0 m0 = H.1 5 0 m0 := by subst hH57; rfl
    have g61 : H57.1 7 4 F.2.2.1 = H.1 7 4 F.2.2.1 := by subst hH57; rfl
    have g62 : H57.1 3 1 F.2.1 = H.1 3 1 F.2.1 := by subst hH57; rfl
    have g63 : H57.1 3 3 F.2.1 = H.1 3 3 F.2.1 := by subst hH57; rfl
    clear hH57
    refine J.run 6 rfl ⟨(hI58.is ta0), (hI58.is ta0)⟩ ?_
    try dsimp only
    refine J.gn fun H64 hH64 => ?_
    have hI65 : cJ F T w H64 := by rw [hH64]; exact cJ.wi hI58 trivial rfl rfl
    have hE66 : cEx T [30026, 30027, 616] H64 H := by rw [hH64]; exact cEx.wi hE59 (by decide)
    have g67 : H64.1 5 0 m0 = H57.1 5 0 m0 := by subst hH64; rfl
    have g68 : H64.1 7 4 F.2.2.1 = H57.1 7 4 F.2.2.1 := by subst hH64; rfl
    have g69 : H64.1 3 1 F.2.1 = H57.1 3 1 F.2.1 := by subst hH64; rfl
    have g70 : H64.1 3 3 F.2.1 = H57.1 3 3 F.2.1 := by subst hH64; rfl
    have g71 : H64.1 6 16 a0 = (H57.1 6 16 a0) + (1 : Int) := by subst hH64; exact if_pos rfl
    clear hH64
    refine J.run 2 rfl (hI65.is ta1) ?_
    try dsimp only
    refine J.ifcN rfl rfl rfl (fun hc => ?_) (fun hc => ?_)
    · have c72 : ¬ (jn (H64.1 5 1 m0) = (0 : Int)) := hc
      clear hc
      exact J.retv rfl rfl rfl ⟨_, rfl, T, hI65, hS, hE66, (show ((w.2.1 : Nat) : Int) - 2 * H64.1 7 4 F.2.2.1 - 13 * H64.1 3 1 F.2.1 - H64.1 3 3 F.2.1 ≤ ((w.2.1 : Nat) : Int) - 2 * H.1 7 4 F.2.2.1 - 13 * H.1 3 1 F.2.1 - H.1 3 3 F.2.1 + (0) by omega), (show ((w.2.2 : Nat) : Int) - 18 * H64.1 7 4 F.2.2.1 - 700 * H64.1 3 1 F.2.1 - 6 * H64.1 3 3 F.2.1 ≤ ((w.2.2 : Nat) : Int) - 18 * H.1 7 4 F.2.2.1 - 700 * H.1 3 1 F.2.1 - 6 * H.1 3 3 F.2.1 + 10 * (0) by omega), rfl⟩
    · have c73 : ¬ (¬ (jn (H64.1 5 1 m0) = (0 : Int))) := hc
      clear hc
      have f74 : (-2147483648) ≤ H64.1 5 5 m0 ∧ H64.1 5 5 m0 ≤ 2147483647 := hI65.v 5 5 m0 ta1
      refine J.run 3 rfl (hI65.is ta1) ?_
      try dsimp only
      refine J.icmp rfl rfl rfl ⟨(show -2147483648 ≤ H64.1 5 5 m0 ∧ H64.1 5 5 m0 ≤ 2147483647 from ⟨by omega, by omega⟩), (show -2147483648 ≤ (-1 : Int) ∧ (-1 : Int) ≤ 2147483647 from ⟨by omega, by omega⟩)⟩ (fun hc => ?_) (fun hc => ?_)
      · have c75 : ¬ (H64.1 5 5 m0 = (-1 : Int)) := hc
        clear hc
        have f76 : 0 ≤ H64.1 5 0 m0 ∧ H64.1 5 0 m0 ≤ 5999 := hI65.v 5 0 m0 ta1
        have f77 : -2147483648 ≤ jushr (H64.1 5 0 m0) ((5 : Int)) ∧ jushr (H64.1 5 0 m0) ((5 : Int)) ≤ 2147483647 := jI32 _
        have f78 : 0 ≤ H64.1 5 0 m0 ∧ H64.1 5 0 m0 < 6000 → 0 ≤ jushr (H64.1 5 0 m0) ((5 : Int)) ∧ jushr (H64.1 5 0 m0) ((5 : Int)) < 188 := jix5 _
        have f79 : -2147483648 ≤ jand (H64.1 5 0 m0) ((31 : Int)) ∧ jand (H64.1 5 0 m0) ((31 : Int)) ≤ 2147483647 := jI32 _
        have f80 : -2147483648 ≤ jshl ((1 : Int)) (jand (H64.1 5 0 m0) ((31 : Int))) ∧ jshl ((1 : Int)) (jand (H64.1 5 0 m0) ((31 : Int))) ≤ 2147483647 := jI32 _
        have f81 : -2147483648 ≤ jor (H64.2.2.1 27 a0 (jushr (H64.1 5 0 m0) ((5 : Int)))) (jshl ((1 : Int)) (jand (H64.1 5 0 m0) ((31 : Int)))) ∧ jor (H64.2.2.1 27 a0 (jushr (H64.1 5 0 m0) ((5 : Int)))) (jshl ((1 : Int)) (jand (H64.1 5 0 m0) ((31 : Int)))) ≤ 2147483647 := jI32 _
        refine J.run 20 rfl ⟨⟨(hI65.is ta0), hI65.is (hI65.r 6 15 27 a0 rfl ta0)⟩, (hI65.is ta1), (show w.1 27 a0 ∧ 0 ≤ jushr (H64.1 5 0 m0) ((5 : Int)) ∧ jushr (H64.1 5 0 m0) ((5 : Int)) < 188 from ⟨hI65.is (hI65.r 6 15 27 a0 rfl ta0), by omega, by omega⟩), (hI65.is ta1), (show w.1 27 a0 ∧ 0 ≤ jushr (H64.1 5 0 m0) ((5 : Int)) ∧ jushr (H64.1 5 0 m0) ((5 : Int)) < 188 from ⟨hI65.is (hI65.r 6 15 27 a0 rfl ta0), by omega, by omega⟩)⟩ ?_
        try dsimp only
        refine J.gn fun H82 hH82 => ?_
        have hI83 : cJ F T w H82 := by rw [hH82]; exact cI.wRj hI65 (hI65.r 6 15 27 a0 rfl ta0) trivial
        have hE84 : cEx T [30026, 30027, 616] H82 H := by rw [hH82]; exact cEx.wR hE66 (by decide)
        have g85 : H82.1 5 0 m0 = H64.1 5 0 m0 := by subst hH82; rfl
        have g86 : H82.1 7 4 F.2.2.1 = H64.1 7 4 F.2.2.1 := by subst hH82; rfl
        have g87 : H82.1 3 1 F.2.1 = H64.1 3 1 F.2.1 := by subst hH82; rfl
        have g88 : H82.1 3 3 F.2.1 = H64.1 3 3 F.2.1 := by subst hH82; rfl
        have g89 : H82.1 6 16 a0 = H64.1 6 16 a0 := by subst hH82; rfl
        have g90 : H82.1 5 5 m0 = H64.1 5 5 m0 := by subst hH82; rfl
        clear hH82
        exact J.retv rfl rfl rfl ⟨_, rfl, T, hI83, hS, hE84, (show ((w.2.1 : Nat) : Int) - 2 * H82.1 7 4 F.2.2.1 - 13 * H82.1 3 1 F.2.1 - H82.1 3 3 F.2.1 ≤ ((w.2.1 : Nat) : Int) - 2 * H.1 7 4 F.2.2.1 - 13 * H.1 3 1 F.2.1 - H.1 3 3 F.2.1 + (0) by omega), (show ((w.2.2 : Nat) : Int) - 18 * H82.1 7 4 F.2.2.1 - 700 * H82.1 3 1 F.2.1 - 6 * H82.1 3 3 F.2.1 ≤ ((w.2.2 : Nat) : Int) - 18 * H.1 7 4 F.2.2.1 - 700 * H.1 3 1 F.2.1 - 6 * H.1 3 3 F.2.1 + 10 * (0) by omega), rfl⟩
      · have c91 : ¬ (¬ (H64.1 5 5 m0 = (-1 : Int))) := hc
        clear hc
        exact J.retv rfl rfl rfl ⟨_, rfl, T, hI65, hS, hE66, (show ((w.2.1 : Nat) : Int) - 2 * H64.1 7 4 F.2.2.1 - 13 * H64.1 3 1 F.2.1 - H64.1 3 3 F.2.1 ≤ ((w.2.1 : Nat) : Int) - 2 * H.1 7 4 F.2.2.1 - 13 * H.1 3 1 F.2.1 - H.1 3 3 F.2.1 + (0) by omega), (show ((w.2.2 : Nat) : Int) - 18 * H64.1 7 4 F.2.2.1 - 700 * H64.1 3 1 F.2.1 - 6 * H64.1 3 3 F.2.1 ≤ ((w.2.2 : Nat) : Int) - 18 * H.1 7 4 F.2.2.1 - 700 * H.1 3 1 F.2.1 - 6 * H.1 3 3 F.2.1 + 10 * (0) by omega), rfl⟩
  · have t92 : T 5 row := ta2 _ rfl
    have f93 : 0 ≤ H.1 5 0 m0 ∧ H.1 5 0 m0 ≤ 5999 := hI.v 5 0 m0 ta1
    have f94 : -2147483648 ≤ jushr (H.1 5 0 m0) ((5 : Int)) ∧ jushr (H.1 5 0 m0) ((5 : Int)) ≤ 2147483647 := jI32 _
    have f95 : 0 ≤ H.1 5 0 m0 ∧ H.1 5 0 m0 < 6000 → 0 ≤ jushr (H.1 5 0 m0) ((5 : Int)) ∧ jushr (H.1 5 0 m0) ((5 : Int)) < 188 := jix5 _
    have f96 : -2147483648 ≤ jand (H.1 5 0 m0) ((31 : Int)) ∧ jand (H.1 5 0 m0) ((31 : Int)) ≤ 2147483647 := jI32 _
    have f97 : -2147483648 ≤ jshl ((1 : Int)) (jand (H.1 5 0 m0) ((31 : Int))) ∧ jshl ((1 : Int)) (jand (H.1 5 0 m0) ((31 : Int))) ≤ 2147483647 := jI32 _
    have f98 : -2147483648 ≤ jor (H.2.2.1 26 a0 (jushr (H.1 5 0 m0) ((5 : Int)))) (jshl ((1 : Int)) (jand (H.1 5 0 m0) ((31 : Int)))) ∧ jor (H.2.2.1 26 a0 (jushr (H.1 5 0 m0) ((5 : Int)))) (jshl ((1 : Int)) (jand (H.1 5 0 m0) ((31 : Int)))) ≤ 2147483647 := jI32 _
    refine J.run 16 rfl ⟨⟨(hI.is ta0), hI.is (hI.r 6 14 26 a0 rfl ta0)⟩, (hI.is ta1), (show w.1 26 a0 ∧ 0 ≤ jushr (H.1 5 0 m0) ((5 : Int)) ∧ jushr (H.1 5 0 m0) ((5 : Int)) < 188 from ⟨hI.is (hI.r 6 14 26 a0 rfl ta0), by omega, by omega⟩), (hI.is ta1), (show w.1 26 a0 ∧ 0 ≤ jushr (H.1 5 0 m0) ((5 : Int)) ∧ jushr (H.1 5 0 m0) ((5 : Int)) < 188 from ⟨hI.is (hI.r 6 14 26 a0 rfl ta0), by omega, by omega⟩)⟩ ?_
    try dsimp only
    refine J.gn fun H99 hH99 => ?_
    have hI100 : cJ F T w H99 := by rw [hH99]; exact cI.wRj hI (hI.r 6 14 26 a0 rfl ta0) trivial
    have hE101 : cEx T [30026, 30027, 616] H99 H := by rw [hH99]; exact cEx.wR hE (by decide)
    have g102 : H99.1 5 0 m0 = H.1 5 0 m0 := by subst hH99; rfl
    have g103 : H99.1 7 4 F.2.2.1 = H.1 7 4 F.2.2.1 := by subst hH99; rfl
    have g104 : H99.1 3 1 F.2.1 = H.1 3 1 F.2.1 := by subst hH99; rfl
    have g105 : H99.1 3 3 F.2.1 = H.1 3 3 F.2.1 := by subst hH99; rfl
    clear hH99
    refine J.run 6 rfl ⟨(hI100.is ta0), (hI100.is ta0)⟩ ?_
    try dsimp only
    refine J.gn fun H106 hH106 => ?_
    have hI107 : cJ F T w H106 := by rw [hH106]; exact cJ.wi hI100 trivial rfl rfl
    have hE108 : cEx T [30026, 30027, 616] H106 H := by rw [hH106]; exact cEx.wi hE101 (by decide)
    have g109 : H106.1 5 0 m0 = H99.1 5 0 m0 := by subst hH106; rfl
    have g110 : H106.1 7 4 F.2.2.1 = H99.1 7 4 F.2.2.1 := by subst hH106; rfl
    have g111 : H106.1 3 1 F.2.1 = H99.1 3 1 F.2.1 := by subst hH106; rfl
    have g112 : H106.1 3 3 F.2.1 = H99.1 3 3 F.2.1 := by subst hH106; rfl
    have g113 : H106.1 6 16 a0 = (H99.1 6 16 a0) + (1 : Int) := by subst hH106; exact if_pos rfl
    clear hH106
    refine J.run 2 rfl (hI107.is ta1) ?_
    try dsimp only
    refine J.ifcN rfl rfl rfl (fun hc => ?_) (fun hc => ?_)
    · have c114 : ¬ (jn (H106.1 5 1 m0) = (0 : Int)) := hc
      clear hc
      exact J.retv rfl rfl rfl ⟨_, rfl, T, hI107, hS, hE108, (show ((w.2.1 : Nat) : Int) - 2 * H106.1 7 4 F.2.2.1 - 13 * H106.1 3 1 F.2.1 - H106.1 3 3 F.2.1 ≤ ((w.2.1 : Nat) : Int) - 2 * H.1 7 4 F.2.2.1 - 13 * H.1 3 1 F.2.1 - H.1 3 3 F.2.1 + (0) by omega), (show ((w.2.2 : Nat) : Int) - 18 * H106.1 7 4 F.2.2.1 - 700 * H106.1 3 1 F.2.1 - 6 * H106.1 3 3 F.2.1 ≤ ((w.2.2 : Nat) : Int) - 18 * H.1 7 4 F.2.2.1 - 700 * H.1 3 1 F.2.1 - 6 * H.1 3 3 F.2.1 + 10 * (0) by omega), rfl⟩
    · have c115 : ¬ (¬ (jn (H106.1 5 1 m0) = (0 : Int))) := hc
      clear hc
      have f116 : (-2147483648) ≤ H106.1 5 5 m0 ∧ H106.1 5 5 m0 ≤ 2147483647 := hI107.v 5 5 m0 ta1
      refine J.run 3 rfl (hI107.is ta1) ?_
      try dsimp only
      refine J.icmp rfl rfl rfl ⟨(show -2147483648 ≤ H106.1 5 5 m0 ∧ H106.1 5 5 m0 ≤ 2147483647 from ⟨by omega, by omega⟩), (show -2147483648 ≤ (-1 : Int) ∧ (-1 : Int) ≤ 2147483647 from ⟨by omega, by omega⟩)⟩ (fun hc => ?_) (fun hc => ?_)
      · have c117 : ¬ (H106.1 5 5 m0 = (-1 : Int)) := hc
        clear hc
        refine J.run0 2 rfl ?_
        try dsimp only
        have f118 : 0 ≤ H106.1 5 0 row ∧ H106.1 5 0 row ≤ 5999 := hI107.v 5 0 row t92
        exact (c_X6_learn_l0 (a0 := a0) (m0 := m0) hI ta0 ta1  ((6000 - H106.1 5 0 (row) : Int).toNat + 1)) (row) T w H106 _ (show 6000 - H106.1 5 0 (row) < _ by omega) (show 0 ≤ H106.1 5 0 (row) ∧ H106.1 5 0 (row) ≤ 5999 from ⟨by omega, by omega⟩) (show ((w.2.1 : Nat) : Int) - 2 * H106.1 7 4 F.2.2.1 - 13 * H106.1 3 1 F.2.1 - H106.1 3 3 F.2.1 ≤ ((w.2.1 : Nat) : Int) - 2 * H.1 7 4 F.2.2.1 - 13 * H.1 3 1 F.2.1 - H.1 3 3 F.2.1 + (0) from by omega) (show ((w.2.2 : Nat) : Int) - 18 * H106.1 7 4 F.2.2.1 - 700 * H106.1 3 1 F.2.1 - 6 * H106.1 3 3 F.2.1 ≤ ((w.2.2 : Nat) : Int) - 18 * H.1 7 4 F.2.2.1 - 700 * H.1 3 1 F.2.1 - 6 * H.1 3 3 F.2.1 + 10 * (0) from by omega) hI107 hS hE108 t92 ⟨_, t92, rfl⟩
      · have c119 : ¬ (¬ (H106.1 5 5 m0 = (-1 : Int))) := hc
        clear hc
        exact J.retv rfl rfl rfl ⟨_, rfl, T, hI107, hS, hE108, (show ((w.2.1 : Nat) : Int) - 2 * H106.1 7 4 F.2.2.1 - 13 * H106.1 3 1 F.2.1 - H106.1 3 3 F.2.1 ≤ ((w.2.1 : Nat) : Int) - 2 * H.1 7 4 F.2.2.1 - 13 * H.1 3 1 F.2.1 - H.1 3 3 F.2.1 + (0) by omega), (show ((w.2.2 : Nat) : Int) - 18 * H106.1 7 4 F.2.2.1 - 700 * H106.1 3 1 F.2.1 - 6 * H106.1 3 3 F.2.1 ≤ ((w.2.2 : Nat) : Int) - 18 * H.1 7 4 F.2.2.1 - 700 * H.1 3 1 F.2.1 - 6 * H.1 3 3 F.2.1 + 10 * (0) by omega), rfl⟩
end
-- M: J7_fill_53178_26
section
variable {d : Nat} {F : cG} 
set_option maxRecDepth 20000 in
set_option maxHeartbeats 8000000 in
theorem c_J7_fill_53178_26_l0 {row : Nat} {val : Int} {T0 : cP} {w0 : jW} {H0 : jH} (hI0 : cJ F T0 w0 H0) (ta0 : T0 26 row) (hp0 : -2147483648 ≤ val ∧ val ≤ 2147483647) : ∀ (m : Nat), (∀ (k n : Int) (T : cP) (w : jW) (H : jH) (lv : jL), n - k < (m : Int) → (0 ≤ k ∧ k ≤ n) → (n = 188) → (((w.2.1 : Nat) : Int) - 2 * H.1 7 4 F.2.2.1 - 13 * H.1 3 1 F.2.1 - H.1 3 3 F.2.1 ≤ ((w0.2.1 : Nat) : Int) - 2 * H0.1 7 4 F.2.2.1 - 13 * H0.1 3 1 F.2.1 - H0.1 3 3 F.2.1 + (0)) → (((w.2.2 : Nat) : Int) - 18 * H.1 7 4 F.2.2.1 - 700 * H.1 3 1 F.2.1 - 6 * H.1 3 3 F.2.1 ≤ ((w0.2.2 : Nat) : Int) - 18 * H0.1 7 4 F.2.2.1 - 700 * H0.1 3 1 F.2.1 - 6 * H0.1 3 3 F.2.1 + 10 * (0)) → cJ F T w H → (∀ k p, T0 k p → T k p) → cEx T0 [30026] H H0 → ((lv = [(3, .inl n), (2, .inl k), (0, .inr (some (26, row))), (1, .inl val)]) ∨ (lv = [(2, .inl k), (3, .inl n), (0, .inr (some (26, row))), (1, .inl val)])) → J false d 172 w (5, lv, [], H) (jN fun v w' H' => ∃ T', cJ F T' w' H' ∧ (∀ k p, T0 k p → T' k p) ∧ cEx T0 [30026] H' H0 ∧ ((w'.2.1 : Nat) : Int) - 2 * H'.1 7 4 F.2.2.1 - 13 * H'.1 3 1 F.2.1 - H'.1 3 3 F.2.1 ≤ ((w0.2.1 : Nat) : Int) - 2 * H0.1 7 4 F.2.2.1 - 13 * H0.1 3 1 F.2.1 - H0.1 3 3 F.2.1 + (0) ∧ ((w'.2.2 : Nat) : Int) - 18 * H'.1 7 4 F.2.2.1 - 700 * H'.1 3 1 F.2.1 - 6 * H'.1 3 3 F.2.1 ≤ ((w0.2.2 : Nat) : Int) - 18 * H0.1 7 4 F.2.2.1 - 700 * H0.1 3 1 F.2.1 - 6 * H0.1 3 3 F.2.1 + 10 * (0) ∧ v = none)) := by
  intro m
  induction m with
  | zero =>
    skip
    · intro k n T w H lv hm hi0 hi1 hi2 hi3 hI hS hE hlv
      exfalso
      omega
  | succ m ih =>
    skip
    · intro k n T w H lv hm hi0 hi1 hi2 hi3 hI hS hE hlv
      rcases hlv with rfl | rfl
      · skip
        refine J.run0 2 rfl ?_
        try dsimp only
        refine J.icmp rfl rfl rfl ⟨(show -2147483648 ≤ k ∧ k ≤ 2147483647 from ⟨by omega, by omega⟩), (show -2147483648 ≤ n ∧ n ≤ 2147483647 from ⟨by omega, by omega⟩)⟩ (fun hc => ?_) (fun hc => ?_)
        · have c1 : n ≤ k := hc
          clear hc
          exact J.retv rfl rfl rfl ⟨_, rfl, T, hI, hS, hE, (show ((w.2.1 : Nat) : Int) - 2 * H.1 7 4 F.2.2.1 - 13 * H.1 3 1 F.2.1 - H.1 3 3 F.2.1 ≤ ((w0.2.1 : Nat) : Int) - 2 * H0.1 7 4 F.2.2.1 - 13 * H0.1 3 1 F.2.1 - H0.1 3 3 F.2.1 + (0) by omega), (show ((w.2.2 : Nat) : Int) - 18 * H.1 7 4 F.2.2.1 - 700 * H.1 3 1 F.2.1 - 6 * H.1 3 3 F.2.1 ≤ ((w0.2.2 : Nat) : Int) - 18 * H0.1 7 4 F.2.2.1 - 700 * H0.1 3 1 F.2.1 - 6 * H0.1 3 3 F.2.1 + 10 * (0) by omega), rfl⟩
        · have c2 : ¬ (n ≤ k) := hc
          clear hc
          refine J.run 4 rfl (show w.1 26 row ∧ 0 ≤ k ∧ k < 188 from ⟨hI.is (hS _ _ ta0), by omega, by omega⟩) ?_
          try dsimp only
          refine J.gn fun H3 hH3 => ?_
          have hI4 : cJ F T w H3 := by rw [hH3]; exact cI.wRj hI (hS _ _ ta0) trivial
          have hE5 : cEx T0 [30026] H3 H0 := by rw [hH3]; exact cEx.wR hE (by decide)
          have g6 : H3.1 7 4 F.2.2.1 = H.1 7 4 F.2.2.1 := by subst hH3; rfl
          have g7 : H3.1 3 1 F.2.1 = H.1 3 1 F.2.1 := by subst hH3; rfl
          have g8 : H3.1 3 3 F.2.1 = H.1 3 3 F.2.1 := by subst hH3; rfl
          clear hH3
          refine J.run0 2 rfl ?_
          try dsimp only
          exact ih (k + 1) (n) T w H3 _ (show (n) - (k + 1) < _ by omega) (show 0 ≤ (k + 1) ∧ (k + 1) ≤ (n) from ⟨by omega, by omega⟩) (show (n) = 188 from by omega) (show ((w.2.1 : Nat) : Int) - 2 * H3.1 7 4 F.2.2.1 - 13 * H3.1 3 1 F.2.1 - H3.1 3 3 F.2.1 ≤ ((w0.2.1 : Nat) : Int) - 2 * H0.1 7 4 F.2.2.1 - 13 * H0.1 3 1 F.2.1 - H0.1 3 3 F.2.1 + (0) from by omega) (show ((w.2.2 : Nat) : Int) - 18 * H3.1 7 4 F.2.2.1 - 700 * H3.1 3 1 F.2.1 - 6 * H3.1 3 3 F.2.1 ≤ ((w0.2.2 : Nat) : Int) - 18 * H0.1 7 4 F.2.2.1 - 700 * H0.1 3 1 F.2.1 - 6 * H0.1 3 3 F.2.1 + 10 * (0) from by omega) hI4 hS hE5  (Or.inr (rfl))
      · skip
        refine J.run0 2 rfl ?_
        try dsimp only
        refine J.icmp rfl rfl rfl ⟨(show -2147483648 ≤ k ∧ k ≤ 2147483647 from ⟨by omega, by omega⟩), (show -2147483648 ≤ n ∧ n ≤ 2147483647 from ⟨by omega, by omega⟩)⟩ (fun hc => ?_) (fun hc => ?_)
        · have c9 : n ≤ k := hc
          clear hc
          exact J.retv rfl rfl rfl ⟨_, rfl, T, hI, hS, hE, (show ((w.2.1 : Nat) : Int) - 2 * H.1 7 4 F.2.2.1 - 13 * H.1 3 1 F.2.1 - H.1 3 3 F.2.1 ≤ ((w0.2.1 : Nat) : Int) - 2 * H0.1 7 4 F.2.2.1 - 13 * H0.1 3 1 F.2.1 - H0.1 3 3 F.2.1 + (0) by omega), (show ((w.2.2 : Nat) : Int) - 18 * H.1 7 4 F.2.2.1 - 700 * H.1 3 1 F.2.1 - 6 * H.1 3 3 F.2.1 ≤ ((w0.2.2 : Nat) : Int) - 18 * H0.1 7 4 F.2.2.1 - 700 * H0.1 3 1 F.2.1 - 6 * H0.1 3 3 F.2.1 + 10 * (0) by omega), rfl⟩
        · have c10 : ¬ (n ≤ k) := hc
          clear hc
          refine J.run 4 rfl (show w.1 26 row ∧ 0 ≤ k ∧ k < 188 from ⟨hI.is (hS _ _ ta0), by omega, by omega⟩) ?_
          try dsimp only
          refine J.gn fun H11 hH11 => ?_
          have hI12 : cJ F T w H11 := by rw [hH11]; exact cI.wRj hI (hS _ _ ta0) trivial
          have hE13 : cEx T0 [30026] H11 H0 := by rw [hH11]; exact cEx.wR hE (by decide)
          have g14 : H11.1 7 4 F.2.2.1 = H.1 7 4 F.2.2.1 := by subst hH11; rfl
          have g15 : H11.1 3 1 F.2.1 = H.1 3 1 F.2.1 := by subst hH11; rfl
          have g16 : H11.1 3 3 F.2.1 = H.1 3 3 F.2.1 := by subst hH11; rfl
          clear hH11
          refine J.run0 2 rfl ?_
          try dsimp only
          exact ih (k + 1) (n) T w H11 _ (show (n) - (k + 1) < _ by omega) (show 0 ≤ (k + 1) ∧ (k + 1) ≤ (n) from ⟨by omega, by omega⟩) (show (n) = 188 from by omega) (show ((w.2.1 : Nat) : Int) - 2 * H11.1 7 4 F.2.2.1 - 13 * H11.1 3 1 F.2.1 - H11.1 3 3 F.2.1 ≤ ((w0.2.1 : Nat) : Int) - 2 * H0.1 7 4 F.2.2.1 - 13 * H0.1 3 1 F.2.1 - H0.1 3 3 F.2.1 + (0) from by omega) (show ((w.2.2 : Nat) : Int) - 18 * H11.1 7 4 F.2.2.1 - 700 * H11.1 3 1 F.2.1 - 6 * H11.1 3 3 F.2.1 ≤ ((w0.2.2 : Nat) : Int) - 18 * H0.1 7 4 F.2.2.1 - 700 * H0.1 3 1 F.2.1 - 6 * H0.1 3 3 F.2.1 + 10 * (0) from by omega) hI12 hS hE13  (Or.inr (rfl))
set_option maxRecDepth 20000 in
set_option maxHeartbeats 8000000 in
theorem c_J7_fill_53178_26 {row : Nat} {val : Int} {T : cP} {w : jW} {H : jH} (hI : cJ F T w H) (ta0 : T 26 row) (hp0 : -2147483648 ≤ val ∧ val ≤ 2147483647) : J false d 172 w (0, jargs 0 [.inr (some (26, row)), .inl val], [], H) (jN fun v w' H' => ∃ T', cJ F T' w' H' ∧ (∀ k p, T k p → T' k p) ∧ cEx T [30026] H' H ∧ ((w'.2.1 : Nat) : Int) - 2 * H'.1 7 4 F.2.2.1 - 13 * H'.1 3 1 F.2.1 - H'.1 3 3 F.2.1 ≤ ((w.2.1 : Nat) : Int) - 2 * H.1 7 4 F.2.2.1 - 13 * H.1 3 1 F.2.1 - H.1 3 3 F.2.1 + (0) ∧ ((w'.2.2 : Nat) : Int) - 18 * H'.1 7 4 F.2.2.1 - 700 * H'.1 3 1 F.2.1 - 6 * H'.1 3 3 F.2.1 ≤ ((w.2.2 : Nat) : Int) - 18 * H.1 7 4 F.2.2.1 - 700 * H.1 3 1 F.2.1 - 6 * H.1 3 3 F.2.1 + 10 * (0) ∧ v = none) := by
  have hE : cEx T [30026] H H := cEx.refl
  have hS : ∀ k p, T k p → T k p := fun _ _ z => z
  refine J.run 5 rfl (show w.1 26 row ∧ 0 ≤ (188 : Int) ∧ (188 : Int) ≤ 2147483647 from ⟨hI.is ta0, by omega, by omega⟩) ?_
  try dsimp only
  exact (c_J7_fill_53178_26_l0 (row := row) (val := val) hI ta0 hp0 ((((188 : Int)) - ((0 : Int)) : Int).toNat + 1)) ((0 : Int)) ((188 : Int)) T w H _ (show ((188 : Int)) - ((0 : Int)) < _ by omega) (show 0 ≤ ((0 : Int)) ∧ ((0 : Int)) ≤ ((188 : Int)) from ⟨by omega, by omega⟩) (show ((188 : Int)) = 188 from by omega) (show ((w.2.1 : Nat) : Int) - 2 * H.1 7 4 F.2.2.1 - 13 * H.1 3 1 F.2.1 - H.1 3 3 F.2.1 ≤ ((w.2.1 : Nat) : Int) - 2 * H.1 7 4 F.2.2.1 - 13 * H.1 3 1 F.2.1 - H.1 3 3 F.2.1 + (0) from by omega) (show ((w.2.2 : Nat) : Int) - 18 * H.1 7 4 F.2.2.1 - 700 * H.1 3 1 F.2.1 - 6 * H.1 3 3 F.2.1 ≤ ((w.2.2 : Nat) : Int) - 18 * H.1 7 4 F.2.2.1 - 700 * H.1 3 1 F.2.1 - 6 * H.1 3 3 F.2.1 + 10 * (0) from by omega) hI hS hE  (Or.inl rfl)
end
-- M: J7_fill_53178_27
section
variable {d : Nat} {F : cG} 
set_option maxRecDepth 20000 in
set_option maxHeartbeats 8000000 in
theorem c_J7_fill_53178_27_l0 {row : Nat} {val : Int} {T0 : cP} {w0 : jW} {H0 : jH} (hI0 : cJ F T0 w0 H0) (ta0 : T0 27 row) (hp0 : -2147483648 ≤ val ∧ val ≤ 2147483647) : ∀ (m : Nat), (∀ (k n : Int) (T : cP) (w : jW) (H : jH) (lv : jL), n - k < (m : Int) → (0 ≤ k ∧ k ≤ n) → (n = 188) → (((w.2.1 : Nat) : Int) - 2 * H.1 7 4 F.2.2.1 - 13 * H.1 3 1 F.2.1 - H.1 3 3 F.2.1 ≤ ((w0.2.1 : Nat) : Int) - 2 * H0.1 7 4 F.2.2.1 - 13 * H0.1 3 1 F.2.1 - H0.1 3 3 F.2.1 + (0)) → (((w.2.2 : Nat) : Int) - 18 * H.1 7 4 F.2.2.1 - 700 * H.1 3 1 F.2.1 - 6 * H.1 3 3 F.2.1 ≤ ((w0.2.2 : Nat) : Int) - 18 * H0.1 7 4 F.2.2.1 - 700 * H0.1 3 1 F.2.1 - 6 * H0.1 3 3 F.2.1 + 10 * (0)) → cJ F T w H → (∀ k p, T0 k p → T k p) → cEx T0 [30027] H H0 → ((lv = [(3, .inl n), (2, .inl k), (0, .inr (some (27, row))), (1, .inl val)]) ∨ (lv = [(2, .inl k), (3, .inl n), (0, .inr (some (27, row))), (1, .inl val)])) → J false d 172 w (5, lv, [], H) (jN fun v w' H' => ∃ T', cJ F T' w' H' ∧ (∀ k p, T0 k p → T' k p) ∧ cEx T0 [30027] H' H0 ∧ ((w'.2.1 : Nat) : Int) - 2 * H'.1 7 4 F.2.2.1 - 13 * H'.1 3 1 F.2.1 - H'.1 3 3 F.2.1 ≤ ((w0.2.1 : Nat) : Int) - 2 * H0.1 7 4 F.2.2.1 - 13 * H0.1 3 1 F.2.1 - H0.1 3 3 F.2.1 + (0) ∧ ((w'.2.2 : Nat) : Int) - 18 * H'.1 7 4 F.2.2.1 - 700 * H'.1 3 1 F.2.1 - 6 * H'.1 3 3 F.2.1 ≤ ((w0.2.2 : Nat) : Int) - 18 * H0.1 7 4 F.2.2.1 - 700 * H0.1 3 1 F.2.1 - 6 * H0.1 3 3 F.2.1 + 10 * (0) ∧ v = none)) := by
  intro m
  induction m with
  | zero =>
    skip
    · intro k n T w H lv hm hi0 hi1 hi2 hi3 hI hS hE hlv
      exfalso
      omega
  | succ m ih =>
    skip
    · intro k n T w H lv hm hi0 hi1 hi2 hi3 hI hS hE hlv
      rcases hlv with rfl | rfl
      · skip
        refine J.run0 2 rfl ?_
        try dsimp only
        refine J.icmp rfl rfl rfl ⟨(show -2147483648 ≤ k ∧ k ≤ 2147483647 from ⟨by omega, by omega⟩), (show -2147483648 ≤ n ∧ n ≤ 2147483647 from ⟨by omega, by omega⟩)⟩ (fun hc => ?_) (fun hc => ?_)
        · have c1 : n ≤ k := hc
          clear hc
          exact J.retv rfl rfl rfl ⟨_, rfl, T, hI, hS, hE, (show ((w.2.1 : Nat) : Int) - 2 * H.1 7 4 F.2.2.1 - 13 * H.1 3 1 F.2.1 - H.1 3 3 F.2.1 ≤ ((w0.2.1 : Nat) : Int) - 2 * H0.1 7 4 F.2.2.1 - 13 * H0.1 3 1 F.2.1 - H0.1 3 3 F.2.1 + (0) by omega), (show ((w.2.2 : Nat) : Int) - 18 * H.1 7 4 F.2.2.1 - 700 * H.1 3 1 F.2.1 - 6 * H.1 3 3 F.2.1 ≤ ((w0.2.2 : Nat) : Int) - 18 * H0.1 7 4 F.2.2.1 - 700 * H0.1 3 1 F.2.1 - 6 * H0.1 3 3 F.2.1 + 10 * (0) by omega), rfl⟩
        · have c2 : ¬ (n ≤ k) := hc
          clear hc
          refine J.run 4 rfl (show w.1 27 row ∧ 0 ≤ k ∧ k < 188 from ⟨hI.is (hS _ _ ta0), by omega, by omega⟩) ?_
          try dsimp only
          refine J.gn fun H3 hH3 => ?_
          have hI4 : cJ F T w H3 := by rw [hH3]; exact cI.wRj hI (hS _ _ ta0) trivial
          have hE5 : cEx T0 [30027] H3 H0 := by rw [hH3]; exact cEx.wR hE (by decide)
          have g6 : H3.1 7 4 F.2.2.1 = H.1 7 4 F.2.2.1 := by subst hH3; rfl
          have g7 : H3.1 3 1 F.2.1 = H.1 3 1 F.2.1 := by subst hH3; rfl
          have g8 : H3.1 3 3 F.2.1 = H.1 3 3 F.2.1 := by subst hH3; rfl
          clear hH3
          refine J.run0 2 rfl ?_
          try dsimp only
          exact ih (k + 1) (n) T w H3 _ (show (n) - (k + 1) < _ by omega) (show 0 ≤ (k + 1) ∧ (k + 1) ≤ (n) from ⟨by omega, by omega⟩) (show (n) = 188 from by omega) (show ((w.2.1 : Nat) : Int) - 2 * H3.1 7 4 F.2.2.1 - 13 * H3.1 3 1 F.2.1 - H3.1 3 3 F.2.1 ≤ ((w0.2.1 : Nat) : Int) - 2 * H0.1 7 4 F.2.2.1 - 13 * H0.1 3 1 F.2.1 - H0.1 3 3 F.2.1 + (0) from by omega) (show ((w.2.2 : Nat) : Int) - 18 * H3.1 7 4 F.2.2.1 - 700 * H3.1 3 1 F.2.1 - 6 * H3.1 3 3 F.2.1 ≤ ((w0.2.2 : Nat) : Int) - 18 * H0.1 7 4 F.2.2.1 - 700 * H0.1 3 1 F.2.1 - 6 * H0.1 3 3 F.2.1 + 10 * (0) from by omega) hI4 hS hE5  (Or.inr (rfl))
      · skip
        refine J.run0 2 rfl ?_
        try dsimp only
        refine J.icmp rfl rfl rfl ⟨(show -2147483648 ≤ k ∧ k ≤ 2147483647 from ⟨by omega, by omega⟩), (show -2147483648 ≤ n ∧ n ≤ 2147483647 from ⟨by omega, by omega⟩)⟩ (fun hc => ?_) (fun hc => ?_)
        · have c9 : n ≤ k := hc
          clear hc
          exact J.retv rfl rfl rfl ⟨_, rfl, T, hI, hS, hE, (show ((w.2.1 : Nat) : Int) - 2 * H.1 7 4 F.2.2.1 - 13 * H.1 3 1 F.2.1 - H.1 3 3 F.2.1 ≤ ((w0.2.1 : Nat) : Int) - 2 * H0.1 7 4 F.2.2.1 - 13 * H0.1 3 1 F.2.1 - H0.1 3 3 F.2.1 + (0) by omega), (show ((w.2.2 : Nat) : Int) - 18 * H.1 7 4 F.2.2.1 - 700 * H.1 3 1 F.2.1 - 6 * H.1 3 3 F.2.1 ≤ ((w0.2.2 : Nat) : Int) - 18 * H0.1 7 4 F.2.2.1 - 700 * H0.1 3 1 F.2.1 - 6 * H0.1 3 3 F.2.1 + 10 * (0) by omega), rfl⟩
        · have c10 : ¬ (n ≤ k) := hc
          clear hc
          refine J.run 4 rfl (show w.1 27 row ∧ 0 ≤ k ∧ k < 188 from ⟨hI.is (hS _ _ ta0), by omega, by omega⟩) ?_
          try dsimp only
          refine J.gn fun H11 hH11 => ?_
          have hI12 : cJ F T w H11 := by rw [hH11]; exact cI.wRj hI (hS _ _ ta0) trivial
          have hE13 : cEx T0 [30027] H11 H0 := by rw [hH11]; exact cEx.wR hE (by decide)
          have g14 : H11.1 7 4 F.2.2.1 = H.1 7 4 F.2.2.1 := by subst hH11; rfl
          have g15 : H11.1 3 1 F.2.1 = H.1 3 1 F.2.1 := by subst hH11; rfl
          have g16 : H11.1 3 3 F.2.1 = H.1 3 3 F.2.1 := by subst hH11; rfl
          clear hH11
          refine J.run0 2 rfl ?_
          try dsimp only
          exact ih (k + 1) (n) T w H11 _ (show (n) - (k + 1) < _ by omega) (show 0 ≤ (k + 1) ∧ (k + 1) ≤ (n) from ⟨by omega, by omega⟩) (show (n) = 188 from by omega) (show ((w.2.1 : Nat) : Int) - 2 * H11.1 7 4 F.2.2.1 - 13 * H11.1 3 1 F.2.1 - H11.1 3 3 F.2.1 ≤ ((w0.2.1 : Nat) : Int) - 2 * H0.1 7 4 F.2.2.1 - 13 * H0.1 3 1 F.2.1 - H0.1 3 3 F.2.1 + (0) from by omega) (show ((w.2.2 : Nat) : Int) - 18 * H11.1 7 4 F.2.2.1 - 700 * H11.1 3 1 F.2.1 - 6 * H11.1 3 3 F.2.1 ≤ ((w0.2.2 : Nat) : Int) - 18 * H0.1 7 4 F.2.2.1 - 700 * H0.1 3 1 F.2.1 - 6 * H0.1 3 3 F.2.1 + 10 * (0) from by omega) hI12 hS hE13  (Or.inr (rfl))
set_option maxRecDepth 20000 in
set_option maxHeartbeats 8000000 in
theorem c_J7_fill_53178_27 {row : Nat} {val : Int} {T : cP} {w : jW} {H : jH} (hI : cJ F T w H) (ta0 : T 27 row) (hp0 : -2147483648 ≤ val ∧ val ≤ 2147483647) : J false d 172 w (0, jargs 0 [.inr (some (27, row)), .inl val], [], H) (jN fun v w' H' => ∃ T', cJ F T' w' H' ∧ (∀ k p, T k p → T' k p) ∧ cEx T [30027] H' H ∧ ((w'.2.1 : Nat) : Int) - 2 * H'.1 7 4 F.2.2.1 - 13 * H'.1 3 1 F.2.1 - H'.1 3 3 F.2.1 ≤ ((w.2.1 : Nat) : Int) - 2 * H.1 7 4 F.2.2.1 - 13 * H.1 3 1 F.2.1 - H.1 3 3 F.2.1 + (0) ∧ ((w'.2.2 : Nat) : Int) - 18 * H'.1 7 4 F.2.2.1 - 700 * H'.1 3 1 F.2.1 - 6 * H'.1 3 3 F.2.1 ≤ ((w.2.2 : Nat) : Int) - 18 * H.1 7 4 F.2.2.1 - 700 * H.1 3 1 F.2.1 - 6 * H.1 3 3 F.2.1 + 10 * (0) ∧ v = none) := by
  have hE : cEx T [30027] H H := cEx.refl
  have hS : ∀ k p, T k p → T k p := fun _ _ z => z
  refine J.run 5 rfl (show w.1 27 row ∧ 0 ≤ (188 : Int) ∧ (188 : Int) ≤ 2147483647 from ⟨hI.is ta0, by omega, by omega⟩) ?_
  try dsimp only
  exact (c_J7_fill_53178_27_l0 (row := row) (val := val) hI ta0 hp0 ((((188 : Int)) - ((0 : Int)) : Int).toNat + 1)) ((0 : Int)) ((188 : Int)) T w H _ (show ((188 : Int)) - ((0 : Int)) < _ by omega) (show 0 ≤ ((0 : Int)) ∧ ((0 : Int)) ≤ ((188 : Int)) from ⟨by omega, by omega⟩) (show ((188 : Int)) = 188 from by omega) (show ((w.2.1 : Nat) : Int) - 2 * H.1 7 4 F.2.2.1 - 13 * H.1 3 1 F.2.1 - H.1 3 3 F.2.1 ≤ ((w.2.1 : Nat) : Int) - 2 * H.1 7 4 F.2.2.1 - 13 * H.1 3 1 F.2.1 - H.1 3 3 F.2.1 + (0) from by omega) (show ((w.2.2 : Nat) : Int) - 18 * H.1 7 4 F.2.2.1 - 700 * H.1 3 1 F.2.1 - 6 * H.1 3 3 F.2.1 ≤ ((w.2.2 : Nat) : Int) - 18 * H.1 7 4 F.2.2.1 - 700 * H.1 3 1 F.2.1 - 6 * H.1 3 3 F.2.1 + 10 * (0) from by omega) hI hS hE  (Or.inl rfl)
end
-- M: J7_fill_53178_32
section
variable {d : Nat} {F : cG} 
set_option maxRecDepth 20000 in
set_option maxHeartbeats 8000000 in
theorem c_J7_fill_53178_32_l0 {row : Nat} {val : Int} {T0 : cP} {w0 : jW} {H0 : jH} (hI0 : cJ F T0 w0 H0) (ta0 : T0 32 row) (hp0 : -2147483648 ≤ val ∧ val ≤ 2147483647) : ∀ (m : Nat), (∀ (k n : Int) (T : cP) (w : jW) (H : jH) (lv : jL), n - k < (m : Int) → (0 ≤ k ∧ k ≤ n) → (n = 200) → (((w.2.1 : Nat) : Int) - 2 * H.1 7 4 F.2.2.1 - 13 * H.1 3 1 F.2.1 - H.1 3 3 F.2.1 ≤ ((w0.2.1 : Nat) : Int) - 2 * H0.1 7 4 F.2.2.1 - 13 * H0.1 3 1 F.2.1 - H0.1 3 3 F.2.1 + (0)) → (((w.2.2 : Nat) : Int) - 18 * H.1 7 4 F.2.2.1 - 700 * H.1 3 1 F.2.1 - 6 * H.1 3 3 F.2.1 ≤ ((w0.2.2 : Nat) : Int) - 18 * H0.1 7 4 F.2.2.1 - 700 * H0.1 3 1 F.2.1 - 6 * H0.1 3 3 F.2.1 + 10 * (0)) → cJ F T w H → (∀ k p, T0 k p → T k p) → cEx T0 [30032] H H0 → ((lv = [(3, .inl n), (2, .inl k), (0, .inr (some (32, row))), (1, .inl val)]) ∨ (lv = [(2, .inl k), (3, .inl n), (0, .inr (some (32, row))), (1, .inl val)])) → J false d 172 w (5, lv, [], H) (jN fun v w' H' => ∃ T', cJ F T' w' H' ∧ (∀ k p, T0 k p → T' k p) ∧ cEx T0 [30032] H' H0 ∧ ((w'.2.1 : Nat) : Int) - 2 * H'.1 7 4 F.2.2.1 - 13 * H'.1 3 1 F.2.1 - H'.1 3 3 F.2.1 ≤ ((w0.2.1 : Nat) : Int) - 2 * H0.1 7 4 F.2.2.1 - 13 * H0.1 3 1 F.2.1 - H0.1 3 3 F.2.1 + (0) ∧ ((w'.2.2 : Nat) : Int) - 18 * H'.1 7 4 F.2.2.1 - 700 * H'.1 3 1 F.2.1 - 6 * H'.1 3 3 F.2.1 ≤ ((w0.2.2 : Nat) : Int) - 18 * H0.1 7 4 F.2.2.1 - 700 * H0.1 3 1 F.2.1 - 6 * H0.1 3 3 F.2.1 + 10 * (0) ∧ v = none)) := by
  intro m
  induction m with
  | zero =>
    skip
    · intro k n T w H lv hm hi0 hi1 hi2 hi3 hI hS hE hlv
      exfalso
      omega
  | succ m ih =>
    skip
    · intro k n T w H lv hm hi0 hi1 hi2 hi3 hI hS hE hlv
      rcases hlv with rfl | rfl
      · skip
        refine J.run0 2 rfl ?_
        try dsimp only
        refine J.icmp rfl rfl rfl ⟨(show -2147483648 ≤ k ∧ k ≤ 2147483647 from ⟨by omega, by omega⟩), (show -2147483648 ≤ n ∧ n ≤ 2147483647 from ⟨by omega, by omega⟩)⟩ (fun hc => ?_) (fun hc => ?_)
        · have c1 : n ≤ k := hc
          clear hc
          exact J.retv rfl rfl rfl ⟨_, rfl, T, hI, hS, hE, (show ((w.2.1 : Nat) : Int) - 2 * H.1 7 4 F.2.2.1 - 13 * H.1 3 1 F.2.1 - H.1 3 3 F.2.1 ≤ ((w0.2.1 : Nat) : Int) - 2 * H0.1 7 4 F.2.2.1 - 13 * H0.1 3 1 F.2.1 - H0.1 3 3 F.2.1 + (0) by omega), (show ((w.2.2 : Nat) : Int) - 18 * H.1 7 4 F.2.2.1 - 700 * H.1 3 1 F.2.1 - 6 * H.1 3 3 F.2.1 ≤ ((w0.2.2 : Nat) : Int) - 18 * H0.1 7 4 F.2.2.1 - 700 * H0.1 3 1 F.2.1 - 6 * H0.1 3 3 F.2.1 + 10 * (0) by omega), rfl⟩
        · have c2 : ¬ (n ≤ k) := hc
          clear hc
          refine J.run 4 rfl (show w.1 32 row ∧ 0 ≤ k ∧ k < 200 from ⟨hI.is (hS _ _ ta0), by omega, by omega⟩) ?_
          try dsimp only
          refine J.gn fun H3 hH3 => ?_
          have hI4 : cJ F T w H3 := by rw [hH3]; exact cI.wRj hI (hS _ _ ta0) trivial
          have hE5 : cEx T0 [30032] H3 H0 := by rw [hH3]; exact cEx.wR hE (by decide)
          have g6 : H3.1 7 4 F.2.2.1 = H.1 7 4 F.2.2.1 := by subst hH3; rfl
          have g7 : H3.1 3 1 F.2.1 = H.1 3 1 F.2.1 := by subst hH3; rfl
          have g8 : H3.1 3 3 F.2.1 = H.1 3 3 F.2.1 := by subst hH3; rfl
          clear hH3
          refine J.run0 2 rfl ?_
          try dsimp only
          exact ih (k + 1) (n) T w H3 _ (show (n) - (k + 1) < _ by omega) (show 0 ≤ (k + 1) ∧ (k + 1) ≤ (n) from ⟨by omega, by omega⟩) (show (n) = 200 from by omega) (show ((w.2.1 : Nat) : Int) - 2 * H3.1 7 4 F.2.2.1 - 13 * H3.1 3 1 F.2.1 - H3.1 3 3 F.2.1 ≤ ((w0.2.1 : Nat) : Int) - 2 * H0.1 7 4 F.2.2.1 - 13 * H0.1 3 1 F.2.1 - H0.1 3 3 F.2.1 + (0) from by omega) (show ((w.2.2 : Nat) : Int) - 18 * H3.1 7 4 F.2.2.1 - 700 * H3.1 3 1 F.2.1 - 6 * H3.1 3 3 F.2.1 ≤ ((w0.2.2 : Nat) : Int) - 18 * H0.1 7 4 F.2.2.1 - 700 * H0.1 3 1 F.2.1 - 6 * H0.1 3 3 F.2.1 + 10 * (0) from by omega) hI4 hS hE5  (Or.inr (rfl))
      · skip
        refine J.run0 2 rfl ?_
        try dsimp only
        refine J.icmp rfl rfl rfl ⟨(show -2147483648 ≤ k ∧ k ≤ 2147483647 from ⟨by omega, by omega⟩), (show -2147483648 ≤ n ∧ n ≤ 2147483647 from ⟨by omega, by omega⟩)⟩ (fun hc => ?_) (fun hc => ?_)
        · have c9 : n ≤ k := hc
          clear hc
          exact J.retv rfl rfl rfl ⟨_, rfl, T, hI, hS, hE, (show ((w.2.1 : Nat) : Int) - 2 * H.1 7 4 F.2.2.1 - 13 * H.1 3 1 F.2.1 - H.1 3 3 F.2.1 ≤ ((w0.2.1 : Nat) : Int) - 2 * H0.1 7 4 F.2.2.1 - 13 * H0.1 3 1 F.2.1 - H0.1 3 3 F.2.1 + (0) by omega), (show ((w.2.2 : Nat) : Int) - 18 * H.1 7 4 F.2.2.1 - 700 * H.1 3 1 F.2.1 - 6 * H.1 3 3 F.2.1 ≤ ((w0.2.2 : Nat) : Int) - 18 * H0.1 7 4 F.2.2.1 - 700 * H0.1 3 1 F.2.1 - 6 * H0.1 3 3 F.2.1 + 10 * (0) by omega), rfl⟩
        · have c10 : ¬ (n ≤ k) := hc
          clear hc
          refine J.run 4 rfl (show w.1 32 row ∧ 0 ≤ k ∧ k < 200 from ⟨hI.is (hS _ _ ta0), by omega, by omega⟩) ?_
          try dsimp only
          refine J.gn fun H11 hH11 => ?_
          have hI12 : cJ F T w H11 := by rw [hH11]; exact cI.wRj hI (hS _ _ ta0) trivial
          have hE13 : cEx T0 [30032] H11 H0 := by rw [hH11]; exact cEx.wR hE (by decide)
          have g14 : H11.1 7 4 F.2.2.1 = H.1 7 4 F.2.2.1 := by subst hH11; rfl
          have g15 : H11.1 3 1 F.2.1 = H.1 3 1 F.2.1 := by subst hH11; rfl
          have g16 : H11.1 3 3 F.2.1 = H.1 3 3 F.2.1 := by subst hH11; rfl
          clear hH11
          refine J.run0 2 rfl ?_
          try dsimp only
          exact ih (k + 1) (n) T w H11 _ (show (n) - (k + 1) < _ by omega) (show 0 ≤ (k + 1) ∧ (k + 1) ≤ (n) from ⟨by omega, by omega⟩) (show (n) = 200 from by omega) (show ((w.2.1 : Nat) : Int) - 2 * H11.1 7 4 F.2.2.1 - 13 * H11.1 3 1 F.2.1 - H11.1 3 3 F.2.1 ≤ ((w0.2.1 : Nat) : Int) - 2 * H0.1 7 4 F.2.2.1 - 13 * H0.1 3 1 F.2.1 - H0.1 3 3 F.2.1 + (0) from by omega) (show ((w.2.2 : Nat) : Int) - 18 * H11.1 7 4 F.2.2.1 - 700 * H11.1 3 1 F.2.1 - 6 * H11.1 3 3 F.2.1 ≤ ((w0.2.2 : Nat) : Int) - 18 * H0.1 7 4 F.2.2.1 - 700 * H0.1 3 1 F.2.1 - 6 * H0.1 3 3 F.2.1 + 10 * (0) from by omega) hI12 hS hE13  (Or.inr (rfl))
set_option maxRecDepth 20000 in
set_option maxHeartbeats 8000000 in
theorem c_J7_fill_53178_32 {row : Nat} {val : Int} {T : cP} {w : jW} {H : jH} (hI : cJ F T w H) (ta0 : T 32 row) (hp0 : -2147483648 ≤ val ∧ val ≤ 2147483647) : J false d 172 w (0, jargs 0 [.inr (some (32, row)), .inl val], [], H) (jN fun v w' H' => ∃ T', cJ F T' w' H' ∧ (∀ k p, T k p → T' k p) ∧ cEx T [30032] H' H ∧ ((w'.2.1 : Nat) : Int) - 2 * H'.1 7 4 F.2.2.1 - 13 * H'.1 3 1 F.2.1 - H'.1 3 3 F.2.1 ≤ ((w.2.1 : Nat) : Int) - 2 * H.1 7 4 F.2.2.1 - 13 * H.1 3 1 F.2.1 - H.1 3 3 F.2.1 + (0) ∧ ((w'.2.2 : Nat) : Int) - 18 * H'.1 7 4 F.2.2.1 - 700 * H'.1 3 1 F.2.1 - 6 * H'.1 3 3 F.2.1 ≤ ((w.2.2 : Nat) : Int) - 18 * H.1 7 4 F.2.2.1 - 700 * H.1 3 1 F.2.1 - 6 * H.1 3 3 F.2.1 + 10 * (0) ∧ v = none) := by
  have hE : cEx T [30032] H H := cEx.refl
  have hS : ∀ k p, T k p → T k p := fun _ _ z => z
  refine J.run 5 rfl (show w.1 32 row ∧ 0 ≤ (200 : Int) ∧ (200 : Int) ≤ 2147483647 from ⟨hI.is ta0, by omega, by omega⟩) ?_
  try dsimp only
  exact (c_J7_fill_53178_32_l0 (row := row) (val := val) hI ta0 hp0 ((((200 : Int)) - ((0 : Int)) : Int).toNat + 1)) ((0 : Int)) ((200 : Int)) T w H _ (show ((200 : Int)) - ((0 : Int)) < _ by omega) (show 0 ≤ ((0 : Int)) ∧ ((0 : Int)) ≤ ((200 : Int)) from ⟨by omega, by omega⟩) (show ((200 : Int)) = 200 from by omega) (show ((w.2.1 : Nat) : Int) - 2 * H.1 7 4 F.2.2.1 - 13 * H.1 3 1 F.2.1 - H.1 3 3 F.2.1 ≤ ((w.2.1 : Nat) : Int) - 2 * H.1 7 4 F.2.2.1 - 13 * H.1 3 1 F.2.1 - H.1 3 3 F.2.1 + (0) from by omega) (show ((w.2.2 : Nat) : Int) - 18 * H.1 7 4 F.2.2.1 - 700 * H.1 3 1 F.2.1 - 6 * H.1 3 3 F.2.1 ≤ ((w.2.2 : Nat) : Int) - 18 * H.1 7 4 F.2.2.1 - 700 * H.1 3 1 F.2.1 - 6 * H.1 3 3 F.2.1 + 10 * (0) from by omega) hI hS hE  (Or.inl rfl)
end
