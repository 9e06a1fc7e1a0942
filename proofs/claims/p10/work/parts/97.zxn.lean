-- M: X11_act
section
variable {d : Nat} {w : jW} 
-- 
theorem g_act_l0 {n u : Int} {H0 : jH} (hp0 : 0 ≤ n ∧ n < 16) (hp1 : n < u) : ∀ (m : Nat), (∀ (H : jH) (lv : jL), 58000 - (192 * H.2.2.1 56 0 (H.2.2.1 72 0 (n)) + 6 * H.2.2.1 73 0 (n) + 2 * H.2.2.1 74 0 (n) + H.2.2.1 115 0 (n)) < (m : Int) → (H0.1 11 19 0 ≤ H.1 11 19 0) → (192 * H.2.2.1 56 0 (H.2.2.1 72 0 (n)) + 6 * H.2.2.1 73 0 (n) + 2 * H.2.2.1 74 0 (n) + H.2.2.1 115 0 (n) ≤ 58000) → gT H → jEx [19, 12, 48, 56, 57] [60, 56, 59, 58, 55, 57, 61, 99, 100, 77, 78, 82, 80, 114, 115, 81, 105, 71, 70, 72, 75, 76, 68, 67, 65, 63, 64, 66, 112, 113, 108, 110, 101, 102, 103, 104, 83, 73, 74, 84, 111, 89, 88, 93, 94, 86, 91, 92, 85, 87, 90] H H0 → gP H → gX H → gL H → gZ H → gQ H → gB H → gK H → gN H → gW H (H.1 11 19 0) → gU H u → (lv = [(0, jT), (1, .inl n)]) → J true (d + 305) 141 w (0, lv, [], H) (jN fun v w' H' => w' = w ∧ gT H' ∧ jEx [19, 12, 48, 56, 57] [60, 56, 59, 58, 55, 57, 61, 99, 100, 77, 78, 82, 80, 114, 115, 81, 105, 71, 70, 72, 75, 76, 68, 67, 65, 63, 64, 66, 112, 113, 108, 110, 101, 102, 103, 104, 83, 73, 74, 84, 111, 89, 88, 93, 94, 86, 91, 92, 85, 87, 90] H' H0 ∧ gP H' ∧ gX H' ∧ gL H' ∧ gZ H' ∧ gQ H' ∧ gB H' ∧ gK H' ∧ gN H' ∧ gW H' (H'.1 11 19 0) ∧ gU H' u ∧ (H0.1 11 19 0 ≤ H'.1 11 19 0) ∧ v = none)) := by
  intro m
  induction m with
  | zero =>
    skip
    · intro H lv hm hi0 hi1 hT hE k0gP k0gX k0gL k0gZ k0gQ k0gB k0gK k0gN k0gW k0gU hlv
      exfalso
      omega
  | succ m ih =>
    skip
    · intro H lv hm hi0 hi1 hT hE k0gP k0gX k0gL k0gZ k0gQ k0gB k0gK k0gN k0gW k0gU hlv
      rcases hlv with rfl
      have f1 : 0 ≤ H.2.2.1 79 0 (n) ∧ H.2.2.1 79 0 (n) ≤ 1 := hT.1 79 (n)
      refine J.run 4 rfl (show 0 ≤ n ∧ n < 16 from ⟨by omega, by omega⟩) ?_
      try dsimp only
      refine J.ifc rfl rfl rfl (show -2147483648 ≤ H.2.2.1 79 0 (n) ∧ H.2.2.1 79 0 (n) ≤ 2147483647 from ⟨by omega, by omega⟩) (fun hc => ?_) (fun hc => ?_)
      · have c2 : ¬ (H.2.2.1 79 0 (n) = (0 : Int)) := hc
        clear hc
        exact J.retv rfl rfl rfl ⟨_, rfl, rfl, hT, hE, k0gP, k0gX, k0gL, k0gZ, k0gQ, k0gB, k0gK, k0gN, k0gW, k0gU, (show H0.1 11 19 0 ≤ H.1 11 19 0 by omega), rfl⟩
      · have c3 : ¬ (¬ (H.2.2.1 79 0 (n) = (0 : Int))) := hc
        clear hc
        have f4 : 0 ≤ H.2.2.1 80 0 (n) ∧ H.2.2.1 80 0 (n) ≤ 1 := hT.1 80 (n)
        refine J.run 4 rfl (show 0 ≤ n ∧ n < 16 from ⟨by omega, by omega⟩) ?_
        try dsimp only
        refine J.ifc rfl rfl rfl (show -2147483648 ≤ H.2.2.1 80 0 (n) ∧ H.2.2.1 80 0 (n) ≤ 2147483647 from ⟨by omega, by omega⟩) (fun hc => ?_) (fun hc => ?_)
        · have c5 : ¬ (H.2.2.1 80 0 (n) = (0 : Int)) := hc
          clear hc
          exact J.retv rfl rfl rfl ⟨_, rfl, rfl, hT, hE, k0gP, k0gX, k0gL, k0gZ, k0gQ, k0gB, k0gK, k0gN, k0gW, k0gU, (show H0.1 11 19 0 ≤ H.1 11 19 0 by omega), rfl⟩
        · have c6 : ¬ (¬ (H.2.2.1 80 0 (n) = (0 : Int))) := hc
          clear hc
          refine J.run0 2 rfl ?_
          try dsimp only
          refine J.inv rfl rfl rfl rfl rfl rfl jDr rfl rfl rfl rfl rfl (g_heightE (n := n) hT  (show 0 ≤ (n) ∧ (n) < 16 from ⟨by omega, by omega⟩)) ?_
          rintro v w H ⟨rfl, rfl, x7, rfl, r8⟩
          have r8' : x7 = H.2.2.1 56 0 (H.2.2.1 72 0 ((n))) + 1 ∧ 1 ≤ x7 ∧ x7 ≤ 301 := r8
          try dsimp only [Option.toList, List.append, List.cons_append, List.nil_append]
          refine J.run0 1 rfl ?_
          try dsimp only
          refine J.icmp rfl rfl rfl ⟨(show -2147483648 ≤ x7 ∧ x7 ≤ 2147483647 from ⟨by omega, by omega⟩), (show -2147483648 ≤ (120 : Int) ∧ (120 : Int) ≤ 2147483647 from ⟨by omega, by omega⟩)⟩ (fun hc => ?_) (fun hc => ?_)
          · have c9 : (120 : Int) < x7 := hc
            clear hc
            exact J.retv rfl rfl rfl ⟨_, rfl, rfl, hT, hE, k0gP, k0gX, k0gL, k0gZ, k0gQ, k0gB, k0gK, k0gN, k0gW, k0gU, (show H0.1 11 19 0 ≤ H.1 11 19 0 by omega), rfl⟩
          · have c10 : ¬ ((120 : Int) < x7) := hc
            clear hc
            refine J.run0 2 rfl ?_
            try dsimp only
            refine J.inv rfl rfl rfl rfl rfl rfl jDr rfl rfl rfl rfl rfl (g_isMoved (n := n) (u := u) hT k0gP k0gX k0gL k0gZ k0gQ k0gB k0gK k0gN k0gW k0gU (show 0 ≤ (n) ∧ (n) < 16 from ⟨by omega, by omega⟩) (show H.2.2.1 79 0 ((n)) = 0 from by omega) (show H.2.2.1 80 0 ((n)) = 0 from by omega) (show (n) < (u) from by omega)) ?_
            rintro v w H13 ⟨rfl, hT14, ehE15, k16, k17, k18, k19, k20, k21, k22, k23, k24, k25, x11, rfl, r12⟩
            have hE15 := jEx.trans ehE15 hE (by decide) (by decide)
            have r12' : (x11 = 0 ∨ x11 = 1) ∧ (x11 = 1 → 192 * H.2.2.1 56 0 (H.2.2.1 72 0 ((n))) + 6 * H.2.2.1 73 0 ((n)) + 2 * H.2.2.1 74 0 ((n)) + H.2.2.1 115 0 ((n)) + 1 ≤ 192 * H13.2.2.1 56 0 (H13.2.2.1 72 0 ((n))) + 6 * H13.2.2.1 73 0 ((n)) + 2 * H13.2.2.1 74 0 ((n)) + H13.2.2.1 115 0 ((n))) ∧ H.1 11 19 0 ≤ H13.1 11 19 0 := r12
            have g26 : H13.2.2.1 79 0 (n) = H.2.2.1 79 0 (n) := congrFun (ehE15.r 79 (by decide)) _
            try dsimp only [Option.toList, List.append, List.cons_append, List.nil_append]
            refine J.ifc rfl rfl rfl (show -2147483648 ≤ x11 ∧ x11 ≤ 2147483647 from ⟨by omega, by omega⟩) (fun hc => ?_) (fun hc => ?_)
            · have c27 : x11 = (0 : Int) := hc
              clear hc
              exact J.retv rfl rfl rfl ⟨_, rfl, rfl, hT14, hE15, k16, k17, k18, k19, k20, k21, k22, k23, k24, k25, (show H0.1 11 19 0 ≤ H13.1 11 19 0 by omega), rfl⟩
            · have c28 : ¬ (x11 = (0 : Int)) := hc
              clear hc
              refine J.run0 1 rfl ?_
              try dsimp only
              exact ih  H13 _ (show 58000 - (192 * H13.2.2.1 56 0 (H13.2.2.1 72 0 (n)) + 6 * H13.2.2.1 73 0 (n) + 2 * H13.2.2.1 74 0 (n) + H13.2.2.1 115 0 (n)) < _ by omega) (show H0.1 11 19 0 ≤ H13.1 11 19 0 from by omega) (show 192 * H13.2.2.1 56 0 (H13.2.2.1 72 0 (n)) + 6 * H13.2.2.1 73 0 (n) + 2 * H13.2.2.1 74 0 (n) + H13.2.2.1 115 0 (n) ≤ 58000 from (by have y1 : 0 ≤ H13.2.2.1 74 0 (n) ∧ H13.2.2.1 74 0 (n) ≤ 2 := hT14.1 74 n; have y2 : 0 ≤ H13.2.2.1 115 0 (n) ∧ H13.2.2.1 115 0 (n) ≤ 1 := hT14.1 115 n; have y3 : 0 ≤ H13.2.2.1 73 0 (n) ∧ H13.2.2.1 73 0 (n) ≤ 31 := hT14.1 73 n; have y4 : 0 ≤ H13.2.2.1 56 0 (H13.2.2.1 72 0 (n)) ∧ H13.2.2.1 56 0 (H13.2.2.1 72 0 (n)) ≤ 300 := hT14.1 56 _; omega)) hT14 hE15 k16 k17 k18 k19 k20 k21 k22 k23 k24 k25 rfl
-- 
theorem g_act {n u : Int} {H : jH} (hT : gT H) (k0gP : gP H) (k0gX : gX H) (k0gL : gL H) (k0gZ : gZ H) (k0gQ : gQ H) (k0gB : gB H) (k0gK : gK H) (k0gN : gN H) (k0gW : gW H (H.1 11 19 0)) (k0gU : gU H u) (hp0 : 0 ≤ n ∧ n < 16) (hp1 : n < u) : J true (d + 305) 141 w (0, jargs 0 [jT, .inl n], [], H) (jN fun v w' H' => w' = w ∧ gT H' ∧ jEx [19, 12, 48, 56, 57] [60, 56, 59, 58, 55, 57, 61, 99, 100, 77, 78, 82, 80, 114, 115, 81, 105, 71, 70, 72, 75, 76, 68, 67, 65, 63, 64, 66, 112, 113, 108, 110, 101, 102, 103, 104, 83, 73, 74, 84, 111, 89, 88, 93, 94, 86, 91, 92, 85, 87, 90] H' H ∧ gP H' ∧ gX H' ∧ gL H' ∧ gZ H' ∧ gQ H' ∧ gB H' ∧ gK H' ∧ gN H' ∧ gW H' (H'.1 11 19 0) ∧ gU H' u ∧ (H.1 11 19 0 ≤ H'.1 11 19 0) ∧ v = none) := by
  have hE : jEx [19, 12, 48, 56, 57] [60, 56, 59, 58, 55, 57, 61, 99, 100, 77, 78, 82, 80, 114, 115, 81, 105, 71, 70, 72, 75, 76, 68, 67, 65, 63, 64, 66, 112, 113, 108, 110, 101, 102, 103, 104, 83, 73, 74, 84, 111, 89, 88, 93, 94, 86, 91, 92, 85, 87, 90] H H := jEx.refl _ _ _
  have f29 : 0 ≤ H.2.2.1 79 0 (n) ∧ H.2.2.1 79 0 (n) ≤ 1 := hT.1 79 (n)
  refine J.run 4 rfl (show 0 ≤ n ∧ n < 16 from ⟨by omega, by omega⟩) ?_
  try dsimp only
  refine J.ifc rfl rfl rfl (show -2147483648 ≤ H.2.2.1 79 0 (n) ∧ H.2.2.1 79 0 (n) ≤ 2147483647 from ⟨by omega, by omega⟩) (fun hc => ?_) (fun hc => ?_)
  · have c30 : ¬ (H.2.2.1 79 0 (n) = (0 : Int)) := hc
    clear hc
    exact J.retv rfl rfl rfl ⟨_, rfl, rfl, hT, hE, k0gP, k0gX, k0gL, k0gZ, k0gQ, k0gB, k0gK, k0gN, k0gW, k0gU, (show H.1 11 19 0 ≤ H.1 11 19 0 by omega), rfl⟩
  · have c31 : ¬ (¬ (H.2.2.1 79 0 (n) = (0 : Int))) := hc
    clear hc
    have f32 : 0 ≤ H.2.2.1 80 0 (n) ∧ H.2.2.1 80 0 (n) ≤ 1 := hT.1 80 (n)
    refine J.run 4 rfl (show 0 ≤ n ∧ n < 16 from ⟨by omega, by omega⟩) ?_
    try dsimp only
    refine J.ifc rfl rfl rfl (show -2147483648 ≤ H.2.2.1 80 0 (n) ∧ H.2.2.1 80 0 (n) ≤ 2147483647 from ⟨by omega, by omega⟩) (fun hc => ?_) (fun hc => ?_)
    · have c33 : ¬ (H.2.2.1 80 0 (n) = (0 : Int)) := hc
      clear hc
      exact J.retv rfl rfl rfl ⟨_, rfl, rfl, hT, hE, k0gP, k0gX, k0gL, k0gZ, k0gQ, k0gB, k0gK, k0gN, k0gW, k0gU, (show H.1 11 19 0 ≤ H.1 11 19 0 by omega), rfl⟩
    · have c34 : ¬ (¬ (H.2.2.1 80 0 (n) = (0 : Int))) := hc
      clear hc
      refine J.run0 2 rfl ?_
      try dsimp only
      refine J.inv rfl rfl rfl rfl rfl rfl jDr rfl rfl rfl rfl rfl (g_heightE (n := n) hT  (show 0 ≤ (n) ∧ (n) < 16 from ⟨by omega, by omega⟩)) ?_
      rintro v w H ⟨rfl, rfl, x35, rfl, r36⟩
      have r36' : x35 = H.2.2.1 56 0 (H.2.2.1 72 0 ((n))) + 1 ∧ 1 ≤ x35 ∧ x35 ≤ 301 := r36
      try dsimp only [Option.toList, List.append, List.cons_append, List.nil_append]
      refine J.run0 1 rfl ?_
      try dsimp only
      refine J.icmp rfl rfl rfl ⟨(show -2147483648 ≤ x35 ∧ x35 ≤ 2147483647 from ⟨by omega, by omega⟩), (show -2147483648 ≤ (120 : Int) ∧ (120 : Int) ≤ 2147483647 from ⟨by omega, by omega⟩)⟩ (fun hc => ?_) (fun hc => ?_)
      · have c37 : (120 : Int) < x35 := hc
        clear hc
        exact J.retv rfl rfl rfl ⟨_, rfl, rfl, hT, hE, k0gP, k0gX, k0gL, k0gZ, k0gQ, k0gB, k0gK, k0gN, k0gW, k0gU, (show H.1 11 19 0 ≤ H.1 11 19 0 by omega), rfl⟩
      · have c38 : ¬ ((120 : Int) < x35) := hc
        clear hc
        refine J.run0 2 rfl ?_
        try dsimp only
        refine J.inv rfl rfl rfl rfl rfl rfl jDr rfl rfl rfl rfl rfl (g_isMoved (n := n) (u := u) hT k0gP k0gX k0gL k0gZ k0gQ k0gB k0gK k0gN k0gW k0gU (show 0 ≤ (n) ∧ (n) < 16 from ⟨by omega, by omega⟩) (show H.2.2.1 79 0 ((n)) = 0 from by omega) (show H.2.2.1 80 0 ((n)) = 0 from by omega) (show (n) < (u) from by omega)) ?_
        rintro v w H41 ⟨rfl, hT42, ehE43, k44, k45, k46, k47, k48, k49, k50, k51, k52, k53, x39, rfl, r40⟩
        have hE43 := jEx.trans ehE43 hE (by decide) (by decide)
        have r40' : (x39 = 0 ∨ x39 = 1) ∧ (x39 = 1 → 192 * H.2.2.1 56 0 (H.2.2.1 72 0 ((n))) + 6 * H.2.2.1 73 0 ((n)) + 2 * H.2.2.1 74 0 ((n)) + H.2.2.1 115 0 ((n)) + 1 ≤ 192 * H41.2.2.1 56 0 (H41.2.2.1 72 0 ((n))) + 6 * H41.2.2.1 73 0 ((n)) + 2 * H41.2.2.1 74 0 ((n)) + H41.2.2.1 115 0 ((n))) ∧ H.1 11 19 0 ≤ H41.1 11 19 0 := r40
        have g54 : H41.2.2.1 79 0 (n) = H.2.2.1 79 0 (n) := congrFun (ehE43.r 79 (by decide)) _
        try dsimp only [Option.toList, List.append, List.cons_append, List.nil_append]
        refine J.ifc rfl rfl rfl (show -2147483648 ≤ x39 ∧ x39 ≤ 2147483647 from ⟨by omega, by omega⟩) (fun hc => ?_) (fun hc => ?_)
        · have c55 : x39 = (0 : Int) := hc
          clear hc
          exact J.retv rfl rfl rfl ⟨_, rfl, rfl, hT42, hE43, k44, k45, k46, k47, k48, k49, k50, k51, k52, k53, (show H.1 11 19 0 ≤ H41.1 11 19 0 by omega), rfl⟩
        · have c56 : ¬ (x39 = (0 : Int)) := hc
          clear hc
          refine J.run0 1 rfl ?_
          try dsimp only
          exact (g_act_l0 (H0 := H) (n := n) (u := u)  hp0 hp1 ((58000 - (192 * H41.2.2.1 56 0 (H41.2.2.1 72 0 (n)) + 6 * H41.2.2.1 73 0 (n) + 2 * H41.2.2.1 74 0 (n) + H41.2.2.1 115 0 (n)) : Int).toNat + 1))  H41 _ (show 58000 - (192 * H41.2.2.1 56 0 (H41.2.2.1 72 0 (n)) + 6 * H41.2.2.1 73 0 (n) + 2 * H41.2.2.1 74 0 (n) + H41.2.2.1 115 0 (n)) < _ by omega) (show H.1 11 19 0 ≤ H41.1 11 19 0 from by omega) (show 192 * H41.2.2.1 56 0 (H41.2.2.1 72 0 (n)) + 6 * H41.2.2.1 73 0 (n) + 2 * H41.2.2.1 74 0 (n) + H41.2.2.1 115 0 (n) ≤ 58000 from (by have y1 : 0 ≤ H41.2.2.1 74 0 (n) ∧ H41.2.2.1 74 0 (n) ≤ 2 := hT42.1 74 n; have y2 : 0 ≤ H41.2.2.1 115 0 (n) ∧ H41.2.2.1 115 0 (n) ≤ 1 := hT42.1 115 n; have y3 : 0 ≤ H41.2.2.1 73 0 (n) ∧ H41.2.2.1 73 0 (n) ≤ 31 := hT42.1 73 n; have y4 : 0 ≤ H41.2.2.1 56 0 (H41.2.2.1 72 0 (n)) ∧ H41.2.2.1 56 0 (H41.2.2.1 72 0 (n)) ≤ 300 := hT42.1 56 _; omega)) hT42 hE43 k44 k45 k46 k47 k48 k49 k50 k51 k52 k53 rfl
end
-- M: X11_came
section
variable {d : Nat} {w : jW} 
-- 
theorem g_came {m n : Int} {H : jH} (hT : gT H) (k0gP : gP H) (k0gX : gX H) (k0gL : gL H) (k0gZ : gZ H) (k0gQ : gQ H) (k0gB : gB H) (k0gK : gK H) (k0gN : gN H) (k0gW : gW H (H.1 11 19 0)) (hp0 : 0 ≤ m ∧ m < 6000) (hp1 : m < H.1 11 19 0) (hp2 : 0 ≤ n ∧ n < 16) : J true (d + 306) 148 w (0, jargs 0 [jT, .inl m, .inl n], [], H) (jN fun v w' H' => w' = w ∧ gT H' ∧ jEx [19, 12, 48, 56, 57] [60, 56, 59, 58, 55, 57, 61, 99, 100, 77, 78, 82, 80, 114, 115, 81, 105, 71, 70, 72, 75, 76, 68, 67, 65, 63, 64, 66, 112, 113, 108, 110, 101, 102, 103, 104, 83, 73, 74, 84, 111, 89, 88, 93, 94, 86, 91, 92, 85, 87, 90] H' H ∧ gP H' ∧ gX H' ∧ gL H' ∧ gZ H' ∧ gQ H' ∧ gB H' ∧ gK H' ∧ gN H' ∧ gW H' (H'.1 11 19 0) ∧ (H.1 11 19 0 ≤ H'.1 11 19 0) ∧ ∃ x, v = some (.inl x) ∧ (-6000) ≤ x ∧ x ≤ 6000) := by
  have hE : jEx [19, 12, 48, 56, 57] [60, 56, 59, 58, 55, 57, 61, 99, 100, 77, 78, 82, 80, 114, 115, 81, 105, 71, 70, 72, 75, 76, 68, 67, 65, 63, 64, 66, 112, 113, 108, 110, 101, 102, 103, 104, 83, 73, 74, 84, 111, 89, 88, 93, 94, 86, 91, 92, 85, 87, 90] H H := jEx.refl _ _ _
  have f1 : 0 ≤ H.1 11 19 0 ∧ H.1 11 19 0 ≤ 6000 := hT.2.1 19
  have f2 : 0 ≤ H.2.2.1 80 0 (n) ∧ H.2.2.1 80 0 (n) ≤ 1 := hT.1 80 (n)
  refine J.run 7 rfl (show 0 ≤ n ∧ n < 16 from ⟨by omega, by omega⟩) ?_
  try dsimp only
  refine J.ifc rfl rfl rfl (show -2147483648 ≤ H.2.2.1 80 0 (n) ∧ H.2.2.1 80 0 (n) ≤ 2147483647 from ⟨by omega, by omega⟩) (fun hc => ?_) (fun hc => ?_)
  · have c3 : ¬ (H.2.2.1 80 0 (n) = (0 : Int)) := hc
    clear hc
    refine J.run0 1 rfl ?_
    try dsimp only
    exact J.reti rfl rfl rfl ⟨_, rfl, rfl, hT, hE, k0gP, k0gX, k0gL, k0gZ, k0gQ, k0gB, k0gK, k0gN, k0gW, (show H.1 11 19 0 ≤ H.1 11 19 0 by omega), _, rfl, (show (-6000) ≤ ((0 : Int)) ∧ ((0 : Int)) ≤ 6000 from ⟨by omega, by omega⟩)⟩
  · have c4 : ¬ (¬ (H.2.2.1 80 0 (n) = (0 : Int))) := hc
    clear hc
    have f5 : 0 ≤ H.2.2.1 114 0 (((6000 : Int) * n) + m) ∧ H.2.2.1 114 0 (((6000 : Int) * n) + m) ≤ 1 := hT.1 114 (((6000 : Int) * n) + m)
    refine J.run 8 rfl (show 0 ≤ ((6000 : Int) * n) + m ∧ ((6000 : Int) * n) + m < 96000 from ⟨by omega, by omega⟩) ?_
    try dsimp only
    refine J.ifc rfl rfl rfl (show -2147483648 ≤ H.2.2.1 114 0 (((6000 : Int) * n) + m) ∧ H.2.2.1 114 0 (((6000 : Int) * n) + m) ≤ 2147483647 from ⟨by omega, by omega⟩) (fun hc => ?_) (fun hc => ?_)
    · have c6 : H.2.2.1 114 0 (((6000 : Int) * n) + m) = (0 : Int) := hc
      clear hc
      refine J.run0 3 rfl ?_
      try dsimp only
      refine J.inv rfl rfl rfl rfl rfl rfl jDr rfl rfl rfl rfl rfl (g_know (n := n) (m := m) hT k0gB k0gK k0gN (show 0 ≤ (n) ∧ (n) < 16 from ⟨by omega, by omega⟩) (show 0 ≤ (m) ∧ (m) < 6000 from ⟨by omega, by omega⟩) (show (m) < H.1 11 19 0 from by omega) (show H.2.2.1 114 0 (6000 * (n) + (m)) = 0 from by omega) (show H.2.2.1 80 0 ((n)) = 0 from by omega)) ?_
      rintro v w H9 ⟨rfl, hT10, ehE11, k12, k13, k14, p15, rfl⟩
      have hE11 := jEx.trans ehE11 hE (by decide) (by decide)
      have p15' : ∀ z, z ≠ 6000 * (n) + (m) → H9.2.2.1 114 0 z = H.2.2.1 114 0 z := p15
      have k16 : gP H9 := gP.ex k0gP ehE11 (by decide)
      have k17 : gX H9 := gX.ex k0gX ehE11 (by decide)
      have k18 : gL H9 := gL.ex k0gL ehE11 (by decide)
      have k19 : gZ H9 := gZ.ex k0gZ ehE11 (by decide)
      have k20 : gQ H9 := gQ.ex k0gQ ehE11 (by decide)
      have k21 : gW H9 (H9.1 11 19 0) := gWm.ex k0gW ehE11 (by decide)
      have g22 : H9.1 11 12 0 = H.1 11 12 0 := ehE11.v 12 (by decide)
      have g23 : H9.1 11 19 0 = H.1 11 19 0 := ehE11.v 19 (by decide)
      have g24 : H9.2.2.1 80 0 (n) = H.2.2.1 80 0 (n) := congrFun (ehE11.r 80 (by decide)) _
      try dsimp only [Option.toList, List.append, List.cons_append, List.nil_append]
      refine J.run0 2 rfl ?_
      try dsimp only
      refine J.inv rfl rfl rfl rfl rfl rfl jDr rfl rfl rfl rfl rfl (g_act (n := n) (u := 16) hT10 k16 k17 k18 k19 k20 k12 k13 k14 k21 gU.triv (show 0 ≤ (n) ∧ (n) < 16 from ⟨by omega, by omega⟩) (show (n) < (16) from by omega)) ?_
      rintro v w H27 ⟨rfl, hT28, ehE29, k30, k31, k32, k33, k34, k35, k36, k37, k38, k39, p40, rfl⟩
      have hE29 := jEx.trans ehE29 hE11 (by decide) (by decide)
      have p40' : H9.1 11 19 0 ≤ H27.1 11 19 0 := p40
      try dsimp only [Option.toList, List.append, List.cons_append, List.nil_append]
      have f41 : 0 ≤ H27.1 11 19 0 ∧ H27.1 11 19 0 ≤ 6000 := hT28.2.1 19
      refine J.run0 4 rfl ?_
      try dsimp only
      exact J.reti rfl rfl rfl ⟨_, rfl, rfl, hT28, hE29, k30, k31, k32, k33, k34, k35, k36, k37, k38, (show H.1 11 19 0 ≤ H27.1 11 19 0 by omega), _, rfl, (show (-6000) ≤ ((H27.1 11 19 0) - (H.1 11 19 0)) ∧ ((H27.1 11 19 0) - (H.1 11 19 0)) ≤ 6000 from ⟨by omega, by omega⟩)⟩
    · have c42 : ¬ (H.2.2.1 114 0 (((6000 : Int) * n) + m) = (0 : Int)) := hc
      clear hc
      refine J.run0 1 rfl ?_
      try dsimp only
      exact J.reti rfl rfl rfl ⟨_, rfl, rfl, hT, hE, k0gP, k0gX, k0gL, k0gZ, k0gQ, k0gB, k0gK, k0gN, k0gW, (show H.1 11 19 0 ≤ H.1 11 19 0 by omega), _, rfl, (show (-6000) ≤ ((0 : Int)) ∧ ((0 : Int)) ≤ 6000 from ⟨by omega, by omega⟩)⟩
end
