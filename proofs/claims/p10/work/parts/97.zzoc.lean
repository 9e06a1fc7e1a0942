-- M: X10_passOn
section
variable {d : Nat} {F : cG} 
set_option maxRecDepth 20000 in
set_option maxHeartbeats 8000000 in
theorem c_X10_passOn_l0 {x : Nat} {T0 : cP} {w0 : jW} {H0 : jH} (hI0 : cJ F T0 w0 H0) (ta0 : T0 6 x) (hp0 : H0.1 6 11 x = 0) (hp1 : H0.1 0 1 (H0.2.2.2.2 6 1 x) < 120) : ∀ (m : Nat), (∀ (q : Int) (T : cP) (w : jW) (H : jH) (lv : jL), q + 1 < (m : Int) → (-1 ≤ q ∧ q ≤ 31) → (H.1 6 11 x = 0) → (H.1 0 1 (H.2.2.2.2 6 1 x) < 120) → (((w.2.1 : Nat) : Int) - 2 * H.1 7 4 F.2.2.1 - 13 * H.1 3 1 F.2.1 - H.1 3 3 F.2.1 ≤ ((w0.2.1 : Nat) : Int) - 2 * H0.1 7 4 F.2.2.1 - 13 * H0.1 3 1 F.2.1 - H0.1 3 3 F.2.1 + (0)) → (((w.2.2 : Nat) : Int) - 18 * H.1 7 4 F.2.2.1 - 700 * H.1 3 1 F.2.1 - 6 * H.1 3 3 F.2.1 ≤ ((w0.2.2 : Nat) : Int) - 18 * H0.1 7 4 F.2.2.1 - 700 * H0.1 3 1 F.2.1 - 6 * H0.1 3 3 F.2.1 + 10 * (0)) → cJ F T w H → (∀ k p, T0 k p → T k p) → cEx T0 [602, 603, 608, 609] H H0 → ((∃ j2 : Int, lv = [(3, .inl q), (2, .inl j2), (0, .inr (some (10, F.1))), (1, .inr (some (6, x)))])) → J false (d + 3) 92 w (15, lv, [], H) (jN fun v w' H' => ∃ T', cJ F T' w' H' ∧ (∀ k p, T0 k p → T' k p) ∧ cEx T0 [602, 603, 608, 609] H' H0 ∧ ((w'.2.1 : Nat) : Int) - 2 * H'.1 7 4 F.2.2.1 - 13 * H'.1 3 1 F.2.1 - H'.1 3 3 F.2.1 ≤ ((w0.2.1 : Nat) : Int) - 2 * H0.1 7 4 F.2.2.1 - 13 * H0.1 3 1 F.2.1 - H0.1 3 3 F.2.1 + (H'.1 6 11 x) ∧ ((w'.2.2 : Nat) : Int) - 18 * H'.1 7 4 F.2.2.1 - 700 * H'.1 3 1 F.2.1 - 6 * H'.1 3 3 F.2.1 ≤ ((w0.2.2 : Nat) : Int) - 18 * H0.1 7 4 F.2.2.1 - 700 * H0.1 3 1 F.2.1 - 6 * H0.1 3 3 F.2.1 + 10 * (H'.1 6 11 x) ∧ ∃ rv, v = some (.inl rv) ∧ ((rv = 0 ∨ rv = 1) ∧ (rv = 0 → H'.1 6 11 x = 0) ∧ (rv = 0 → H'.1 0 1 (H'.2.2.2.2 6 1 x) < 120)))) := by
  intro m
  induction m with
  | zero =>
    skip
    · intro q T w H lv hm hi0 hi1 hi2 hi3 hi4 hI hS hE hlv
      exfalso
      omega
  | succ m ih =>
    skip
    · intro q T w H lv hm hi0 hi1 hi2 hi3 hi4 hI hS hE hlv
      rcases hlv with ⟨j2, rfl⟩
      have f1 : 0 ≤ H.1 6 2 x ∧ H.1 6 2 x ≤ 31 := hI.v 6 2 x (hS _ _ ta0)
      refine J.run 3 rfl (hI.is (hS _ _ ta0)) ?_
      try dsimp only
      refine J.icmp rfl rfl rfl ⟨(show -2147483648 ≤ q ∧ q ≤ 2147483647 from ⟨by omega, by omega⟩), (show -2147483648 ≤ H.1 6 2 x ∧ H.1 6 2 x ≤ 2147483647 from ⟨by omega, by omega⟩)⟩ (fun hc => ?_) (fun hc => ?_)
      · have c2 : q ≤ H.1 6 2 x := hc
        clear hc
        refine J.run0 1 rfl ?_
        try dsimp only
        exact J.retb rfl rfl rfl (show (0 : Int) = 0 ∨ (0 : Int) = 1 by omega) ⟨_, rfl, T, hI, hS, hE, (show ((w.2.1 : Nat) : Int) - 2 * H.1 7 4 F.2.2.1 - 13 * H.1 3 1 F.2.1 - H.1 3 3 F.2.1 ≤ ((w0.2.1 : Nat) : Int) - 2 * H0.1 7 4 F.2.2.1 - 13 * H0.1 3 1 F.2.1 - H0.1 3 3 F.2.1 + (H.1 6 11 x) by omega), (show ((w.2.2 : Nat) : Int) - 18 * H.1 7 4 F.2.2.1 - 700 * H.1 3 1 F.2.1 - 6 * H.1 3 3 F.2.1 ≤ ((w0.2.2 : Nat) : Int) - 18 * H0.1 7 4 F.2.2.1 - 700 * H0.1 3 1 F.2.1 - 6 * H0.1 3 3 F.2.1 + 10 * (H.1 6 11 x) by omega), _, rfl, (show (((0 : Int)) = 0 ∨ ((0 : Int)) = 1) ∧ (((0 : Int)) = 0 → H.1 6 11 x = 0) ∧ (((0 : Int)) = 0 → H.1 0 1 (H.2.2.2.2 6 1 x) < 120) from ⟨by omega, by omega, by omega⟩)⟩
      · have c3 : ¬ (q ≤ H.1 6 2 x) := hc
        clear hc
        have f4 : -2147483648 ≤ jushr (j2) (q) ∧ jushr (j2) (q) ≤ 2147483647 := jI32 _
        have f5 : -2147483648 ≤ jand (jushr (j2) (q)) ((1 : Int)) ∧ jand (jushr (j2) (q)) ((1 : Int)) ≤ 2147483647 := jI32 _
        refine J.run0 6 rfl ?_
        try dsimp only
        refine J.icmp rfl rfl rfl ⟨(show -2147483648 ≤ jand (jushr (j2) (q)) ((1 : Int)) ∧ jand (jushr (j2) (q)) ((1 : Int)) ≤ 2147483647 from ⟨by omega, by omega⟩), (show -2147483648 ≤ (1 : Int) ∧ (1 : Int) ≤ 2147483647 from ⟨by omega, by omega⟩)⟩ (fun hc => ?_) (fun hc => ?_)
        · have c6 : ¬ (jand (jushr (j2) (q)) ((1 : Int)) = (1 : Int)) := hc
          clear hc
          refine J.run0 2 rfl ?_
          try dsimp only
          exact ih (q + (-1)) T w H _ (show (q + (-1)) + 1 < _ by omega) (show -1 ≤ (q + (-1)) ∧ (q + (-1)) ≤ 31 from ⟨by omega, by omega⟩) (show H.1 6 11 x = 0 from by omega) (show H.1 0 1 (H.2.2.2.2 6 1 x) < 120 from by omega) (show ((w.2.1 : Nat) : Int) - 2 * H.1 7 4 F.2.2.1 - 13 * H.1 3 1 F.2.1 - H.1 3 3 F.2.1 ≤ ((w0.2.1 : Nat) : Int) - 2 * H0.1 7 4 F.2.2.1 - 13 * H0.1 3 1 F.2.1 - H0.1 3 3 F.2.1 + (0) from by omega) (show ((w.2.2 : Nat) : Int) - 18 * H.1 7 4 F.2.2.1 - 700 * H.1 3 1 F.2.1 - 6 * H.1 3 3 F.2.1 ≤ ((w0.2.2 : Nat) : Int) - 18 * H0.1 7 4 F.2.2.1 - 700 * H0.1 3 1 F.2.1 - 6 * H0.1 3 3 F.2.1 + 10 * (0) from by omega) hI hS hE  ⟨_, rfl⟩
        · have c7 : ¬ (¬ (jand (jushr (j2) (q)) ((1 : Int)) = (1 : Int))) := hc
          clear hc
          refine J.run0 6 rfl ?_
          try dsimp only
          refine J.inv rfl rfl rfl rfl rfl rfl ((jD_w rfl).mpr (hI.is hI.top.1)) rfl rfl rfl rfl rfl (c_X10_heardFrom (x := x) (kind := (-2 : Int)) (round := q) (block := (-2 : Int)) hI (hS _ _ ta0) (show -2147483648 ≤ (-2 : Int) ∧ (-2 : Int) ≤ 2147483647 from ⟨by omega, by omega⟩) (show -2147483648 ≤ q ∧ q ≤ 2147483647 from ⟨by omega, by omega⟩)) ?_
          rintro v w H ⟨rfl, rfl, hv⟩
          obtain ⟨x8, rfl, r9⟩ := hv
          try dsimp only [Option.toList, List.append, List.cons_append, List.nil_append]
          refine J.inv rfl rfl rfl rfl rfl rfl ((jD_w rfl).mpr (hI.is (hS _ _ ta0))) rfl rfl rfl rfl rfl (c_X6_isSome (a0 := x) (bits := x8) hI (hS _ _ ta0) ) ?_
          rintro v w H ⟨rfl, rfl, hv⟩
          obtain ⟨x10, rfl, r11⟩ := hv
          have r11' : x10 = 0 ∨ x10 = 1 := r11
          try dsimp only [Option.toList, List.append, List.cons_append, List.nil_append]
          refine J.ifc rfl rfl rfl (show -2147483648 ≤ x10 ∧ x10 ≤ 2147483647 from ⟨by omega, by omega⟩) (fun hc => ?_) (fun hc => ?_)
          · have c12 : x10 = (0 : Int) := hc
            clear hc
            refine J.run0 2 rfl ?_
            try dsimp only
            exact ih (q + (-1)) T w H _ (show (q + (-1)) + 1 < _ by omega) (show -1 ≤ (q + (-1)) ∧ (q + (-1)) ≤ 31 from ⟨by omega, by omega⟩) (show H.1 6 11 x = 0 from by omega) (show H.1 0 1 (H.2.2.2.2 6 1 x) < 120 from by omega) (show ((w.2.1 : Nat) : Int) - 2 * H.1 7 4 F.2.2.1 - 13 * H.1 3 1 F.2.1 - H.1 3 3 F.2.1 ≤ ((w0.2.1 : Nat) : Int) - 2 * H0.1 7 4 F.2.2.1 - 13 * H0.1 3 1 F.2.1 - H0.1 3 3 F.2.1 + (0) from by omega) (show ((w.2.2 : Nat) : Int) - 18 * H.1 7 4 F.2.2.1 - 700 * H.1 3 1 F.2.1 - 6 * H.1 3 3 F.2.1 ≤ ((w0.2.2 : Nat) : Int) - 18 * H0.1 7 4 F.2.2.1 - 700 * H0.1 3 1 F.2.1 - 6 * H0.1 3 3 F.2.1 + 10 * (0) from by omega) hI hS hE  ⟨_, rfl⟩
          · have c13 : ¬ (x10 = (0 : Int)) := hc
            clear hc
            refine J.run0 2 rfl ?_
            try dsimp only
            refine J.inv rfl rfl rfl rfl rfl rfl ((jD_w rfl).mpr (hI.is (hS _ _ ta0))) rfl rfl rfl rfl rfl (c_X6_enter (a0 := x) (r := q) hI (hS _ _ ta0) (show 0 ≤ q ∧ q ≤ 31 from ⟨by omega, by omega⟩)) ?_
            rintro v w15 H14 ⟨T16, hI17, shS18, ehE19, hr20, hr20s, hv⟩
            have hr20' : ((w15.2.1 : Nat) : Int) - 2 * H14.1 7 4 F.2.2.1 - 13 * H14.1 3 1 F.2.1 - H14.1 3 3 F.2.1 ≤ ((w.2.1 : Nat) : Int) - 2 * H.1 7 4 F.2.2.1 - 13 * H.1 3 1 F.2.1 - H.1 3 3 F.2.1 + (0) := hr20
            have hr20s' : ((w15.2.2 : Nat) : Int) - 18 * H14.1 7 4 F.2.2.1 - 700 * H14.1 3 1 F.2.1 - 6 * H14.1 3 3 F.2.1 ≤ ((w.2.2 : Nat) : Int) - 18 * H.1 7 4 F.2.2.1 - 700 * H.1 3 1 F.2.1 - 6 * H.1 3 3 F.2.1 + 10 * (0) := hr20s
            have hE19 : cEx T0 [602, 603, 608, 609] H14 H0 := cEx.trans ehE19 hE hS (by decide)
            have hS18 : ∀ k p, T0 k p → T16 k p := fun k p z => shS18 k p (hS k p z)
            have g21 : H14.1 6 11 x = H.1 6 11 x := (ehE19.1 6 11 x (hS _ _ ta0)).1 (by decide)
            have g22 : H14.1 7 4 F.2.2.1 = H.1 7 4 F.2.2.1 := (ehE19.1 7 4 F.2.2.1 hI.top.2.2.1).1 (by decide)
            have g23 : H14.1 3 1 F.2.1 = H.1 3 1 F.2.1 := (ehE19.1 3 1 F.2.1 hI.top.2.1).1 (by decide)
            have g24 : H14.1 3 3 F.2.1 = H.1 3 3 F.2.1 := (ehE19.1 3 3 F.2.1 hI.top.2.1).1 (by decide)
            have t25 : T16 10 F.1 := shS18 _ _ hI.top.1
            have t26 : T16 6 x := shS18 _ _ (hS _ _ ta0)
            obtain rfl := hv
            try dsimp only [Option.toList, List.append, List.cons_append, List.nil_append]
            refine J.run0 1 rfl ?_
            try dsimp only
            exact J.retb rfl rfl rfl (show (1 : Int) = 0 ∨ (1 : Int) = 1 by omega) ⟨_, rfl, T16, hI17, hS18, hE19, (show ((w15.2.1 : Nat) : Int) - 2 * H14.1 7 4 F.2.2.1 - 13 * H14.1 3 1 F.2.1 - H14.1 3 3 F.2.1 ≤ ((w0.2.1 : Nat) : Int) - 2 * H0.1 7 4 F.2.2.1 - 13 * H0.1 3 1 F.2.1 - H0.1 3 3 F.2.1 + (H14.1 6 11 x) by omega), (show ((w15.2.2 : Nat) : Int) - 18 * H14.1 7 4 F.2.2.1 - 700 * H14.1 3 1 F.2.1 - 6 * H14.1 3 3 F.2.1 ≤ ((w0.2.2 : Nat) : Int) - 18 * H0.1 7 4 F.2.2.1 - 700 * H0.1 3 1 F.2.1 - 6 * H0.1 3 3 F.2.1 + 10 * (H14.1 6 11 x) by omega), _, rfl, (show (((1 : Int)) = 0 ∨ ((1 : Int)) = 1) ∧ (((1 : Int)) = 0 → H14.1 6 11 x = 0) ∧ (((1 : Int)) = 0 → H14.1 0 1 (H14.2.2.2.2 6 1 x) < 120) from ⟨by omega, by omega, by omega⟩)⟩
set_option maxRecDepth 20000 in
set_option maxHeartbeats 8000000 in
theorem c_X10_passOn {x : Nat} {T : cP} {w : jW} {H : jH} (hI : cJ F T w H) (ta0 : T 6 x) (hp0 : H.1 6 11 x = 0) (hp1 : H.1 0 1 (H.2.2.2.2 6 1 x) < 120) : J false (d + 3) 92 w (0, jargs 0 [.inr (some (10, F.1)), .inr (some (6, x))], [], H) (jN fun v w' H' => ∃ T', cJ F T' w' H' ∧ (∀ k p, T k p → T' k p) ∧ cEx T [602, 603, 608, 609] H' H ∧ ((w'.2.1 : Nat) : Int) - 2 * H'.1 7 4 F.2.2.1 - 13 * H'.1 3 1 F.2.1 - H'.1 3 3 F.2.1 ≤ ((w.2.1 : Nat) : Int) - 2 * H.1 7 4 F.2.2.1 - 13 * H.1 3 1 F.2.1 - H.1 3 3 F.2.1 + (H'.1 6 11 x) ∧ ((w'.2.2 : Nat) : Int) - 18 * H'.1 7 4 F.2.2.1 - 700 * H'.1 3 1 F.2.1 - 6 * H'.1 3 3 F.2.1 ≤ ((w.2.2 : Nat) : Int) - 18 * H.1 7 4 F.2.2.1 - 700 * H.1 3 1 F.2.1 - 6 * H.1 3 3 F.2.1 + 10 * (H'.1 6 11 x) ∧ ∃ rv, v = some (.inl rv) ∧ ((rv = 0 ∨ rv = 1) ∧ (rv = 0 → H'.1 6 11 x = 0) ∧ (rv = 0 → H'.1 0 1 (H'.2.2.2.2 6 1 x) < 120))) := by
  have hE : cEx T [602, 603, 608, 609] H H := cEx.refl
  have hS : ∀ k p, T k p → T k p := fun _ _ z => z
  refine J.run 2 rfl ⟨(hI.is hI.top.1), (hI.o 10 1 7 F.1 rfl hI.top.1).1⟩ ?_
  try dsimp only
  try dsimp only
  rw [show (H.2.2.2.2 10 1 F.1) = F.2.2.1 from hI.one.2.2.1 _ (hI.o 10 1 7 F.1 rfl hI.top.1).2]
  refine J.run0 1 rfl ?_
  try dsimp only
  refine J.inv rfl rfl rfl rfl rfl rfl ((jD_w rfl).mpr (hI.is ta0)) rfl rfl rfl rfl rfl (c_X6_height (a0 := x) hI ta0 ) ?_
  rintro v w H ⟨rfl, rfl, hv⟩
  obtain ⟨x27, rfl, r28⟩ := hv
  have r28' : x27 = H.1 0 1 (H.2.2.2.2 6 1 x) + 1 ∧ 1 ≤ x27 ∧ x27 ≤ 300 := r28
  try dsimp only [Option.toList, List.append, List.cons_append, List.nil_append]
  refine J.inv rfl rfl rfl rfl rfl rfl ((jD_w rfl).mpr (hI.is hI.top.2.2.1)) rfl rfl rfl rfl rfl (c_X7_roundsOf (height := x27) hI  (show -2147483648 ≤ x27 ∧ x27 ≤ 2147483647 from ⟨by omega, by omega⟩)) ?_
  rintro v w H ⟨rfl, rfl, hv⟩
  obtain ⟨x29, rfl, r30⟩ := hv
  try dsimp only [Option.toList, List.append, List.cons_append, List.nil_append]
  refine J.run0 3 rfl ?_
  try dsimp only
  exact (c_X10_passOn_l0 (x := x) hI ta0 hp0 hp1 ((((31 : Int)) + 1 : Int).toNat + 1)) ((31 : Int)) T w H _ (show ((31 : Int)) + 1 < _ by omega) (show -1 ≤ ((31 : Int)) ∧ ((31 : Int)) ≤ 31 from ⟨by omega, by omega⟩) (show H.1 6 11 x = 0 from by omega) (show H.1 0 1 (H.2.2.2.2 6 1 x) < 120 from by omega) (show ((w.2.1 : Nat) : Int) - 2 * H.1 7 4 F.2.2.1 - 13 * H.1 3 1 F.2.1 - H.1 3 3 F.2.1 ≤ ((w.2.1 : Nat) : Int) - 2 * H.1 7 4 F.2.2.1 - 13 * H.1 3 1 F.2.1 - H.1 3 3 F.2.1 + (0) from by omega) (show ((w.2.2 : Nat) : Int) - 18 * H.1 7 4 F.2.2.1 - 700 * H.1 3 1 F.2.1 - 6 * H.1 3 3 F.2.1 ≤ ((w.2.2 : Nat) : Int) - 18 * H.1 7 4 F.2.2.1 - 700 * H.1 3 1 F.2.1 - 6 * H.1 3 3 F.2.1 + 10 * (0) from by omega) hI hS hE  ⟨_, rfl⟩
end
