-- M: X11_isMoved#0
section
variable {d : Nat} {w : jW} 
set_option maxRecDepth 20000 in
set_option maxHeartbeats 8000000 in
theorem g_isMoved_l0 {n u : Int} {H0 : jH} (hp0 : 0 ≤ n ∧ n < 16) (hp1 : H0.2.2.1 79 0 (n) = 0) (hp2 : H0.2.2.1 80 0 (n) = 0) (hp3 : n < u) : ∀ (m : Nat), (∀ (r : Int) (H : jH) (lv : jL), 0 < (m : Int) → (r = H0.2.2.1 73 0 (n)) → (H.2.2.1 73 0 (n) = H0.2.2.1 73 0 (n)) → (H.2.2.1 74 0 (n) = H0.2.2.1 74 0 (n)) → (H.2.2.1 115 0 (n) = H0.2.2.1 115 0 (n)) → (H.2.2.1 72 0 (n) = H0.2.2.1 72 0 (n)) → (H.2.2.1 79 0 (n) = 0) → (H.2.2.1 80 0 (n) = 0) → (H.2.2.1 56 0 (H0.2.2.1 72 0 (n)) = H0.2.2.1 56 0 (H0.2.2.1 72 0 (n))) → (H.2.2.1 83 0 (n) ≤ 3 * H0.2.2.1 73 0 (n) + H0.2.2.1 74 0 (n) + 1) → (H0.1 11 19 0 ≤ H.1 11 19 0) → (0 ≤ H0.2.2.1 73 0 (n) ∧ H0.2.2.1 73 0 (n) ≤ 31) → (0 ≤ H0.2.2.1 74 0 (n) ∧ H0.2.2.1 74 0 (n) ≤ 2) → (0 ≤ H0.2.2.1 115 0 (n) ∧ H0.2.2.1 115 0 (n) ≤ 1) → (0 ≤ H0.2.2.1 72 0 (n) ∧ H0.2.2.1 72 0 (n) ≤ 299) → gT H → jEx [19, 12, 48, 56, 57] [60, 56, 59, 58, 55, 57, 61, 99, 100, 77, 78, 82, 80, 114, 115, 81, 105, 71, 70, 72, 75, 76, 68, 67, 65, 63, 64, 66, 112, 113, 108, 110, 101, 102, 103, 104, 83, 73, 74, 84, 111, 89, 88, 93, 94, 86, 91, 92, 85, 87, 90] H H0 → gP H → gX H → gL H → gZ H → gQ H → gB H → gK H → gN H → gW H (H.1 11 19 0) → gU H u → ((∃ j4 j2 : Int, lv = [(4, .inl j4), (3, .inl r), (2, .inl j2), (0, jT), (1, .inl n)]) ∨ (∃ j7 j6 j5 j4 j2 : Int, lv = [(7, .inl j7), (6, .inl j6), (5, .inl j5), (4, .inl j4), (3, .inl r), (2, .inl j2), (0, jT), (1, .inl n)]) ∨ (∃ j4 j5 j2 : Int, lv = [(4, .inl j4), (3, .inl r), (5, .inl j5), (2, .inl j2), (0, jT), (1, .inl n)])) → J true (d + 304) 143 w (519, lv, [], H) (jN fun v w' H' => w' = w ∧ gT H' ∧ jEx [19, 12, 48, 56, 57] [60, 56, 59, 58, 55, 57, 61, 99, 100, 77, 78, 82, 80, 114, 115, 81, 105, 71, 70, 72, 75, 76, 68, 67, 65, 63, 64, 66, 112, 113, 108, 110, 101, 102, 103, 104, 83, 73, 74, 84, 111, 89, 88, 93, 94, 86, 91, 92, 85, 87, 90] H' H0 ∧ gP H' ∧ gX H' ∧ gL H' ∧ gZ H' ∧ gQ H' ∧ gB H' ∧ gK H' ∧ gN H' ∧ gW H' (H'.1 11 19 0) ∧ gU H' u ∧ ∃ x, v = some (.inl x) ∧ (x = 0 ∨ x = 1) ∧ (x = 1 → 192 * H0.2.2.1 56 0 (H0.2.2.1 72 0 (n)) + 6 * H0.2.2.1 73 0 (n) + 2 * H0.2.2.1 74 0 (n) + H0.2.2.1 115 0 (n) + 1 ≤ 192 * H'.2.2.1 56 0 (H'.2.2.1 72 0 (n)) + 6 * H'.2.2.1 73 0 (n) + 2 * H'.2.2.1 74 0 (n) + H'.2.2.1 115 0 (n)) ∧ H0.1 11 19 0 ≤ H'.1 11 19 0)) := by
  intro m
  induction m with
  | zero =>
    skip
    · intro r H lv hm hi0 hi1 hi2 hi3 hi4 hi5 hi6 hi7 hi8 hi9 hi10 hi11 hi12 hi13 hT hE k0gP k0gX k0gL k0gZ k0gQ k0gB k0gK k0gN k0gW k0gU hlv
      exfalso
      omega
  | succ m ih =>
    skip
    · intro r H lv hm hi0 hi1 hi2 hi3 hi4 hi5 hi6 hi7 hi8 hi9 hi10 hi11 hi12 hi13 hT hE k0gP k0gX k0gL k0gZ k0gQ k0gB k0gK k0gN k0gW k0gU hlv
      rcases hlv with ⟨j4, j2, rfl⟩ | ⟨j7, j6, j5, j4, j2, rfl⟩ | ⟨j4, j5, j2, rfl⟩
      · skip
        have f1 : 0 ≤ H.2.2.1 74 0 (n) ∧ H.2.2.1 74 0 (n) ≤ 2 := hT.1 74 (n)
        refine J.run 5 rfl (show 0 ≤ n ∧ n < 16 from ⟨by omega, by omega⟩) ?_
        try dsimp only
        refine J.icmp rfl rfl rfl ⟨(show -2147483648 ≤ H.2.2.1 74 0 (n) ∧ H.2.2.1 74 0 (n) ≤ 2147483647 from ⟨by omega, by omega⟩), (show -2147483648 ≤ (1 : Int) ∧ (1 : Int) ≤ 2147483647 from ⟨by omega, by omega⟩)⟩ (fun hc => ?_) (fun hc => ?_)
        · have c2 : ¬ (H.2.2.1 74 0 (n) = (1 : Int)) := hc
          clear hc
          refine J.run0 1 rfl ?_
          try dsimp only
          exact J.retb rfl rfl rfl (show (0 : Int) = 0 ∨ (0 : Int) = 1 by omega) ⟨_, rfl, rfl, hT, hE, k0gP, k0gX, k0gL, k0gZ, k0gQ, k0gB, k0gK, k0gN, k0gW, k0gU, _, rfl, (show (((0 : Int)) = 0 ∨ ((0 : Int)) = 1) ∧ (((0 : Int)) = 1 → 192 * H0.2.2.1 56 0 (H0.2.2.1 72 0 (n)) + 6 * H0.2.2.1 73 0 (n) + 2 * H0.2.2.1 74 0 (n) + H0.2.2.1 115 0 (n) + 1 ≤ 192 * H.2.2.1 56 0 (H.2.2.1 72 0 (n)) + 6 * H.2.2.1 73 0 (n) + 2 * H.2.2.1 74 0 (n) + H.2.2.1 115 0 (n)) ∧ H0.1 11 19 0 ≤ H.1 11 19 0 from (by refine ⟨by omega, fun hv => ?_, by omega⟩; first | omega | (have y1 : 0 ≤ H.2.2.1 74 0 (n) ∧ H.2.2.1 74 0 (n) ≤ 2 := hT.1 74 n; have y2 : 0 ≤ H.2.2.1 115 0 (n) ∧ H.2.2.1 115 0 (n) ≤ 1 := hT.1 115 n; have y3 : 0 ≤ H.2.2.1 73 0 (n) ∧ H.2.2.1 73 0 (n) ≤ 31 := hT.1 73 n; rw [show H.2.2.1 72 0 (n) = H0.2.2.1 72 0 (n) by omega]; omega)))⟩
        · have c3 : ¬ (¬ (H.2.2.1 74 0 (n) = (1 : Int))) := hc
          clear hc
          refine J.run0 5 rfl ?_
          try dsimp only
          refine J.inv rfl rfl rfl rfl rfl rfl jDr rfl rfl rfl rfl rfl (g_isMost (n := n) (kind := (1 : Int)) (r := r) (b := (-1 : Int)) hT  (show 0 ≤ (n) ∧ (n) < 16 from ⟨by omega, by omega⟩) (show -2147483648 ≤ ((1 : Int)) ∧ ((1 : Int)) ≤ 2147483647 from ⟨by omega, by omega⟩) (show -2147483648 ≤ (r) ∧ (r) ≤ 2147483647 from ⟨by omega, by omega⟩) (show -2147483648 ≤ ((-1 : Int)) ∧ ((-1 : Int)) ≤ 2147483647 from ⟨by omega, by omega⟩)) ?_
          rintro v w H6 ⟨rfl, hT7, ehE8, x4, rfl, r5⟩
          have hE8 := jEx.trans ehE8 hE (by decide) (by decide)
          have r5' : 0 ≤ x4 ∧ x4 ≤ 1 := r5
          have k9 : gP H6 := gP.ex k0gP ehE8 (by decide)
          have k10 : gX H6 := gX.ex k0gX ehE8 (by decide)
          have k11 : gL H6 := gL.ex k0gL ehE8 (by decide)
          have k12 : gZ H6 := gZ.ex k0gZ ehE8 (by decide)
          have k13 : gQ H6 := gQ.ex k0gQ ehE8 (by decide)
          have k14 : gB H6 := gB.ex k0gB ehE8 (by decide)
          have k15 : gK H6 := gK.ex k0gK ehE8 (by decide)
          have k16 : gN H6 := gN.ex k0gN ehE8 (by decide)
          have k17 : gW H6 (H6.1 11 19 0) := gWm.ex k0gW ehE8 (by decide)
          have k18 : gU H6 u := gU.ex k0gU ehE8 (by decide)
          have g19 : H6.1 11 12 0 = H.1 11 12 0 := ehE8.v 12 (by decide)
          have g20 : H6.1 11 19 0 = H.1 11 19 0 := ehE8.v 19 (by decide)
          have g21 : H6.2.2.1 73 0 (n) = H.2.2.1 73 0 (n) := congrFun (ehE8.r 73 (by decide)) _
          have g22 : H6.2.2.1 74 0 (n) = H.2.2.1 74 0 (n) := congrFun (ehE8.r 74 (by decide)) _
          have g23 : H6.2.2.1 115 0 (n) = H.2.2.1 115 0 (n) := congrFun (ehE8.r 115 (by decide)) _
          have g24 : H6.2.2.1 72 0 (n) = H.2.2.1 72 0 (n) := congrFun (ehE8.r 72 (by decide)) _
          have g25 : H6.2.2.1 79 0 (n) = H.2.2.1 79 0 (n) := congrFun (ehE8.r 79 (by decide)) _
          have g26 : H6.2.2.1 80 0 (n) = H.2.2.1 80 0 (n) := congrFun (ehE8.r 80 (by decide)) _
          have g27 : H6.2.2.1 56 0 (H0.2.2.1 72 0 (n)) = H.2.2.1 56 0 (H0.2.2.1 72 0 (n)) := congrFun (ehE8.r 56 (by decide)) _
          have g28 : H6.2.2.1 83 0 (n) = H.2.2.1 83 0 (n) := congrFun (ehE8.r 83 (by decide)) _
          have rL_isMost := r5'
          have eL_isMost := ehE8
          try dsimp only [Option.toList, List.append, List.cons_append, List.nil_append]
          refine J.ifc rfl rfl rfl (show -2147483648 ≤ x4 ∧ x4 ≤ 2147483647 from ⟨by omega, by omega⟩) (fun hc => ?_) (fun hc => ?_)
          · have c29 : x4 = (0 : Int) := hc
            clear hc
            refine J.run0 1 rfl ?_
            try dsimp only
            exact J.retb rfl rfl rfl (show (0 : Int) = 0 ∨ (0 : Int) = 1 by omega) ⟨_, rfl, rfl, hT7, hE8, k9, k10, k11, k12, k13, k14, k15, k16, k17, k18, _, rfl, (show (((0 : Int)) = 0 ∨ ((0 : Int)) = 1) ∧ (((0 : Int)) = 1 → 192 * H0.2.2.1 56 0 (H0.2.2.1 72 0 (n)) + 6 * H0.2.2.1 73 0 (n) + 2 * H0.2.2.1 74 0 (n) + H0.2.2.1 115 0 (n) + 1 ≤ 192 * H6.2.2.1 56 0 (H6.2.2.1 72 0 (n)) + 6 * H6.2.2.1 73 0 (n) + 2 * H6.2.2.1 74 0 (n) + H6.2.2.1 115 0 (n)) ∧ H0.1 11 19 0 ≤ H6.1 11 19 0 from (by refine ⟨by omega, fun hv => ?_, by omega⟩; first | omega | (have y1 : 0 ≤ H6.2.2.1 74 0 (n) ∧ H6.2.2.1 74 0 (n) ≤ 2 := hT7.1 74 n; have y2 : 0 ≤ H6.2.2.1 115 0 (n) ∧ H6.2.2.1 115 0 (n) ≤ 1 := hT7.1 115 n; have y3 : 0 ≤ H6.2.2.1 73 0 (n) ∧ H6.2.2.1 73 0 (n) ≤ 31 := hT7.1 73 n; rw [show H6.2.2.1 72 0 (n) = H0.2.2.1 72 0 (n) by omega]; omega)))⟩
          · have c30 : ¬ (x4 = (0 : Int)) := hc
            clear hc
            refine J.run 5 rfl (show 0 ≤ n ∧ n < 16 from ⟨by omega, by omega⟩) ?_
            try dsimp only
            refine J.gn fun H31 hH31 => ?_
            have hT32 : gT H31 := by rw [hH31]; exact gT.upd hT7 (show 0 ≤ (2 : Int) ∧ (2 : Int) ≤ 2 from ⟨by omega, by omega⟩) (fun z => absurd z (by decide))
            have hE33 : jEx [19, 12, 48, 56, 57] [60, 56, 59, 58, 55, 57, 61, 99, 100, 77, 78, 82, 80, 114, 115, 81, 105, 71, 70, 72, 75, 76, 68, 67, 65, 63, 64, 66, 112, 113, 108, 110, 101, 102, 103, 104, 83, 73, 74, 84, 111, 89, 88, 93, 94, 86, 91, 92, 85, 87, 90] H31 H0 := by rw [hH31]; exact jEx.row hE8 (by decide)
            have k34 : gP H31 := by rw [hH31]; exact k9
            have k35 : gX H31 := by rw [hH31]; exact k10
            have k36 : gL H31 := by rw [hH31]; exact k11
            have k37 : gZ H31 := by rw [hH31]; exact k12
            have k38 : gQ H31 := by rw [hH31]; exact k13
            have k39 : gB H31 := by rw [hH31]; exact k14
            have k40 : gK H31 := by rw [hH31]; exact k15
            have k41 : gN H31 := by rw [hH31]; exact k16
            have k42 : gW H31 (H31.1 11 19 0) := by rw [hH31]; exact gWm.step k17 (by omega)
            have k43 : gU H31 u := by rw [hH31]; exact k18
            have g44 : H31.2.2.1 74 0 (n) = (2 : Int) := by subst hH31; exact if_pos rfl
            have g45 : H31.1 11 12 0 = H6.1 11 12 0 := by subst hH31; rfl
            have g46 : H31.1 11 19 0 = H6.1 11 19 0 := by subst hH31; rfl
            have g47 : H31.2.2.1 73 0 (n) = H6.2.2.1 73 0 (n) := by subst hH31; rfl
            have g49 : H31.2.2.1 115 0 (n) = H6.2.2.1 115 0 (n) := by subst hH31; rfl
            have g50 : H31.2.2.1 72 0 (n) = H6.2.2.1 72 0 (n) := by subst hH31; rfl
            have g51 : H31.2.2.1 79 0 (n) = H6.2.2.1 79 0 (n) := by subst hH31; rfl
            have g52 : H31.2.2.1 80 0 (n) = H6.2.2.1 80 0 (n) := by subst hH31; rfl
            have g53 : H31.2.2.1 56 0 (H0.2.2.1 72 0 (n)) = H6.2.2.1 56 0 (H0.2.2.1 72 0 (n)) := by subst hH31; rfl
            have g54 : H31.2.2.1 83 0 (n) = H6.2.2.1 83 0 (n) := by subst hH31; rfl
            clear hH31
            refine J.run0 6 rfl ?_
            try dsimp only
            have f55 : 1 ≤ H31.1 11 12 0 ∧ H31.1 11 12 0 ≤ 300 := hT32.2.1 12
            refine J.inv rfl rfl rfl rfl rfl rfl jDr rfl rfl rfl rfl rfl (g_sent (n := n) (kind := (2 : Int)) (r := r) (block := (-1 : Int)) (before := (-1 : Int)) (u := u) hT32 k39 k40 k41 k43 (show 0 ≤ (n) ∧ (n) < 16 from ⟨by omega, by omega⟩) (show 0 ≤ ((2 : Int)) ∧ ((2 : Int)) ≤ 2 from ⟨by omega, by omega⟩) (show 0 ≤ (r) ∧ (r) < 32 from ⟨by omega, by omega⟩) (show -1 ≤ ((-1 : Int)) ∧ ((-1 : Int)) < 300 from ⟨by omega, by omega⟩) (show ((-1 : Int)) < H31.1 11 12 0 from by omega) (show -1 ≤ ((-1 : Int)) ∧ ((-1 : Int)) < 32 from ⟨by omega, by omega⟩) k42 (show H31.2.2.1 79 0 ((n)) = 0 → (r) = H31.2.2.1 73 0 ((n)) from by omega) (show H31.2.2.1 79 0 ((n)) = 0 → H31.2.2.1 83 0 ((n)) ≤ 3 * H31.2.2.1 73 0 ((n)) + H31.2.2.1 74 0 ((n)) from by omega) (show H31.2.2.1 80 0 ((n)) = 0 from by omega) (show (n) < (u) from by omega)) ?_
            rintro v w H58 ⟨rfl, hT59, ehE60, k61, k62, k63, k64, p65, p66, x56, rfl, r57⟩
            have hE60 := jEx.trans ehE60 hE33 (by decide) (by decide)
            have p65' : gW H58 (H58.1 11 19 0) := p65
            have p66' : H31.1 11 19 0 ≤ H58.1 11 19 0 := p66
            have r57' : (-1) ≤ x56 ∧ x56 ≤ 5999 := r57
            have pL_sent_0 := p65'
            have pL_sent_1 := p66'
            have k67 : gP H58 := gP.ex k34 ehE60 (by decide)
            have k68 : gX H58 := gX.ex k35 ehE60 (by decide)
            have k69 : gL H58 := gL.ex k36 ehE60 (by decide)
            have k70 : gZ H58 := gZ.ex k37 ehE60 (by decide)
            have k71 : gQ H58 := gQ.ex k38 ehE60 (by decide)
            have g72 : H58.1 11 12 0 = H31.1 11 12 0 := ehE60.v 12 (by decide)
            have g73 : H58.2.2.1 74 0 (n) = H31.2.2.1 74 0 (n) := congrFun (ehE60.r 74 (by decide)) _
            have g74 : H58.2.2.1 73 0 (n) = H31.2.2.1 73 0 (n) := congrFun (ehE60.r 73 (by decide)) _
            have g75 : H58.2.2.1 115 0 (n) = H31.2.2.1 115 0 (n) := congrFun (ehE60.r 115 (by decide)) _
            have g76 : H58.2.2.1 72 0 (n) = H31.2.2.1 72 0 (n) := congrFun (ehE60.r 72 (by decide)) _
            have g77 : H58.2.2.1 79 0 (n) = H31.2.2.1 79 0 (n) := congrFun (ehE60.r 79 (by decide)) _
            have g78 : H58.2.2.1 56 0 (H0.2.2.1 72 0 (n)) = H31.2.2.1 56 0 (H0.2.2.1 72 0 (n)) := congrFun (ehE60.r 56 (by decide)) _
            have rL_sent := r57'
            have eL_sent := ehE60
            try dsimp only [Option.toList, List.append, List.cons_append, List.nil_append]
            refine J.run0 2 rfl ?_
            try dsimp only
            exact J.retb rfl rfl rfl (show (1 : Int) = 0 ∨ (1 : Int) = 1 by omega) ⟨_, rfl, rfl, hT59, hE60, k67, k68, k69, k70, k71, k61, k62, k63, p65, k64, _, rfl, (show (((1 : Int)) = 0 ∨ ((1 : Int)) = 1) ∧ (((1 : Int)) = 1 → 192 * H0.2.2.1 56 0 (H0.2.2.1 72 0 (n)) + 6 * H0.2.2.1 73 0 (n) + 2 * H0.2.2.1 74 0 (n) + H0.2.2.1 115 0 (n) + 1 ≤ 192 * H58.2.2.1 56 0 (H58.2.2.1 72 0 (n)) + 6 * H58.2.2.1 73 0 (n) + 2 * H58.2.2.1 74 0 (n) + H58.2.2.1 115 0 (n)) ∧ H0.1 11 19 0 ≤ H58.1 11 19 0 from (by refine ⟨by omega, fun hv => ?_, by omega⟩; first | omega | (have y1 : 0 ≤ H58.2.2.1 74 0 (n) ∧ H58.2.2.1 74 0 (n) ≤ 2 := hT59.1 74 n; have y2 : 0 ≤ H58.2.2.1 115 0 (n) ∧ H58.2.2.1 115 0 (n) ≤ 1 := hT59.1 115 n; have y3 : 0 ≤ H58.2.2.1 73 0 (n) ∧ H58.2.2.1 73 0 (n) ≤ 31 := hT59.1 73 n; rw [show H58.2.2.1 72 0 (n) = H0.2.2.1 72 0 (n) by omega]; omega)))⟩
      · skip
        have f79 : 0 ≤ H.2.2.1 74 0 (n) ∧ H.2.2.1 74 0 (n) ≤ 2 := hT.1 74 (n)
        refine J.run 5 rfl (show 0 ≤ n ∧ n < 16 from ⟨by omega, by omega⟩) ?_
        try dsimp only
        refine J.icmp rfl rfl rfl ⟨(show -2147483648 ≤ H.2.2.1 74 0 (n) ∧ H.2.2.1 74 0 (n) ≤ 2147483647 from ⟨by omega, by omega⟩), (show -2147483648 ≤ (1 : Int) ∧ (1 : Int) ≤ 2147483647 from ⟨by omega, by omega⟩)⟩ (fun hc => ?_) (fun hc => ?_)
        · have c80 : ¬ (H.2.2.1 74 0 (n) = (1 : Int)) := hc
          clear hc
          refine J.run0 1 rfl ?_
          try dsimp only
          exact J.retb rfl rfl rfl (show (0 : Int) = 0 ∨ (0 : Int) = 1 by omega) ⟨_, rfl, rfl, hT, hE, k0gP, k0gX, k0gL, k0gZ, k0gQ, k0gB, k0gK, k0gN, k0gW, k0gU, _, rfl, (show (((0 : Int)) = 0 ∨ ((0 : Int)) = 1) ∧ (((0 : Int)) = 1 → 192 * H0.2.2.1 56 0 (H0.2.2.1 72 0 (n)) + 6 * H0.2.2.1 73 0 (n) + 2 * H0.2.2.1 74 0 (n) + H0.2.2.1 115 0 (n) + 1 ≤ 192 * H.2.2.1 56 0 (H.2.2.1 72 0 (n)) + 6 * H.2.2.1 73 0 (n) + 2 * H.2.2.1 74 0 (n) + H.2.2.1 115 0 (n)) ∧ H0.1 11 19 0 ≤ H.1 11 19 0 from (by refine ⟨by omega, fun hv => ?_, by omega⟩; first | omega | (have y1 : 0 ≤ H.2.2.1 74 0 (n) ∧ H.2.2.1 74 0 (n) ≤ 2 := hT.1 74 n; have y2 : 0 ≤ H.2.2.1 115 0 (n) ∧ H.2.2.1 115 0 (n) ≤ 1 := hT.1 115 n; have y3 : 0 ≤ H.2.2.1 73 0 (n) ∧ H.2.2.1 73 0 (n) ≤ 31 := hT.1 73 n; rw [show H.2.2.1 72 0 (n) = H0.2.2.1 72 0 (n) by omega]; omega)))⟩
        · have c81 : ¬ (¬ (H.2.2.1 74 0 (n) = (1 : Int))) := hc
          clear hc
          refine J.run0 5 rfl ?_
          try dsimp only
          refine J.inv rfl rfl rfl rfl rfl rfl jDr rfl rfl rfl rfl rfl (g_isMost (n := n) (kind := (1 : Int)) (r := r) (b := (-1 : Int)) hT  (show 0 ≤ (n) ∧ (n) < 16 from ⟨by omega, by omega⟩) (show -2147483648 ≤ ((1 : Int)) ∧ ((1 : Int)) ≤ 2147483647 from ⟨by omega, by omega⟩) (show -2147483648 ≤ (r) ∧ (r) ≤ 2147483647 from ⟨by omega, by omega⟩) (show -2147483648 ≤ ((-1 : Int)) ∧ ((-1 : Int)) ≤ 2147483647 from ⟨by omega, by omega⟩)) ?_
          rintro v w H84 ⟨rfl, hT85, ehE86, x82, rfl, r83⟩
          have hE86 := jEx.trans ehE86 hE (by decide) (by decide)
          have r83' : 0 ≤ x82 ∧ x82 ≤ 1 := r83
          have k87 : gP H84 := gP.ex k0gP ehE86 (by decide)
          have k88 : gX H84 := gX.ex k0gX ehE86 (by decide)
          have k89 : gL H84 := gL.ex k0gL ehE86 (by decide)
          have k90 : gZ H84 := gZ.ex k0gZ ehE86 (by decide)
          have k91 : gQ H84 := gQ.ex k0gQ ehE86 (by decide)
          have k92 : gB H84 := gB.ex k0gB ehE86 (by decide)
          have k93 : gK H84 := gK.ex k0gK ehE86 (by decide)
          have k94 : gN H84 := gN.ex k0gN ehE86 (by decide)
          have k95 : gW H84 (H84.1 11 19 0) := gWm.ex k0gW ehE86 (by decide)
          have k96 : gU H84 u := gU.ex k0gU ehE86 (by decide)
          have g97 : H84.1 11 12 0 = H.1 11 12 0 := ehE86.v 12 (by decide)
          have g98 : H84.1 11 19 0 = H.1 11 19 0 := ehE86.v 19 (by decide)
          have g99 : H84.2.2.1 73 0 (n) = H.2.2.1 73 0 (n) := congrFun (ehE86.r 73 (by decide)) _
          have g100 : H84.2.2.1 74 0 (n) = H.2.2.1 74 0 (n) := congrFun (ehE86.r 74 (by decide)) _
          have g101 : H84.2.2.1 115 0 (n) = H.2.2.1 115 0 (n) := congrFun (ehE86.r 115 (by decide)) _
          have g102 : H84.2.2.1 72 0 (n) = H.2.2.1 72 0 (n) := congrFun (ehE86.r 72 (by decide)) _
          have g103 : H84.2.2.1 79 0 (n) = H.2.2.1 79 0 (n) := congrFun (ehE86.r 79 (by decide)) _
          have g104 : H84.2.2.1 80 0 (n) = H.2.2.1 80 0 (n) := congrFun (ehE86.r 80 (by decide)) _
          have g105 : H84.2.2.1 56 0 (H0.2.2.1 72 0 (n)) = H.2.2.1 56 0 (H0.2.2.1 72 0 (n)) := congrFun (ehE86.r 56 (by decide)) _
          have g106 : H84.2.2.1 83 0 (n) = H.2.2.1 83 0 (n) := congrFun (ehE86.r 83 (by decide)) _
          have rL_isMost := r83'
          have eL_isMost := ehE86
          try dsimp only [Option.toList, List.append, List.cons_append, List.nil_append]
          refine J.ifc rfl rfl rfl (show -2147483648 ≤ x82 ∧ x82 ≤ 2147483647 from ⟨by omega, by omega⟩) (fun hc => ?_) (fun hc => ?_)
          · have c107 : x82 = (0 : Int) := hc
            clear hc
            refine J.run0 1 rfl ?_
            try dsimp only
            exact J.retb rfl rfl rfl (show (0 : Int) = 0 ∨ (0 : Int) = 1 by omega) ⟨_, rfl, rfl, hT85, hE86, k87, k88, k89, k90, k91, k92, k93, k94, k95, k96, _, rfl, (show (((0 : Int)) = 0 ∨ ((0 : Int)) = 1) ∧ (((0 : Int)) = 1 → 192 * H0.2.2.1 56 0 (H0.2.2.1 72 0 (n)) + 6 * H0.2.2.1 73 0 (n) + 2 * H0.2.2.1 74 0 (n) + H0.2.2.1 115 0 (n) + 1 ≤ 192 * H84.2.2.1 56 0 (H84.2.2.1 72 0 (n)) + 6 * H84.2.2.1 73 0 (n) + 2 * H84.2.2.1 74 0 (n) + H84.2.2.1 115 0 (n)) ∧ H0.1 11 19 0 ≤ H84.1 11 19 0 from (by refine ⟨by omega, fun hv => ?_, by omega⟩; first | omega | (have y1 : 0 ≤ H84.2.2.1 74 0 (n) ∧ H84.2.2.1 74 0 (n) ≤ 2 := hT85.1 74 n; have y2 : 0 ≤ H84.2.2.1 115 0 (n) ∧ H84.2.2.1 115 0 (n) ≤ 1 := hT85.1 115 n; have y3 : 0 ≤ H84.2.2.1 73 0 (n) ∧ H84.2.2.1 73 0 (n) ≤ 31 := hT85.1 73 n; rw [show H84.2.2.1 72 0 (n) = H0.2.2.1 72 0 (n) by omega]; omega)))⟩
          · have c108 : ¬ (x82 = (0 : Int)) := hc
            clear hc
            refine J.run 5 rfl (show 0 ≤ n ∧ n < 16 from ⟨by omega, by omega⟩) ?_
            try dsimp only
            refine J.gn fun H109 hH109 => ?_
            have hT110 : gT H109 := by rw [hH109]; exact gT.upd hT85 (show 0 ≤ (2 : Int) ∧ (2 : Int) ≤ 2 from ⟨by omega, by omega⟩) (fun z => absurd z (by decide))
            have hE111 : jEx [19, 12, 48, 56, 57] [60, 56, 59, 58, 55, 57, 61, 99, 100, 77, 78, 82, 80, 114, 115, 81, 105, 71, 70, 72, 75, 76, 68, 67, 65, 63, 64, 66, 112, 113, 108, 110, 101, 102, 103, 104, 83, 73, 74, 84, 111, 89, 88, 93, 94, 86, 91, 92, 85, 87, 90] H109 H0 := by rw [hH109]; exact jEx.row hE86 (by decide)
            have k112 : gP H109 := by rw [hH109]; exact k87
            have k113 : gX H109 := by rw [hH109]; exact k88
            have k114 : gL H109 := by rw [hH109]; exact k89
            have k115 : gZ H109 := by rw [hH109]; exact k90
            have k116 : gQ H109 := by rw [hH109]; exact k91
            have k117 : gB H109 := by rw [hH109]; exact k92
            have k118 : gK H109 := by rw [hH109]; exact k93
            have k119 : gN H109 := by rw [hH109]; exact k94
            have k120 : gW H109 (H109.1 11 19 0) := by rw [hH109]; exact gWm.step k95 (by omega)
            have k121 : gU H109 u := by rw [hH109]; exact k96
            have g122 : H109.2.2.1 74 0 (n) = (2 : Int) := by subst hH109; exact if_pos rfl
            have g123 : H109.1 11 12 0 = H84.1 11 12 0 := by subst hH109; rfl
            have g124 : H109.1 11 19 0 = H84.1 11 19 0 := by subst hH109; rfl
            have g125 : H109.2.2.1 73 0 (n) = H84.2.2.1 73 0 (n) := by subst hH109; rfl
            have g127 : H109.2.2.1 115 0 (n) = H84.2.2.1 115 0 (n) := by subst hH109; rfl
            have g128 : H109.2.2.1 72 0 (n) = H84.2.2.1 72 0 (n) := by subst hH109; rfl
            have g129 : H109.2.2.1 79 0 (n) = H84.2.2.1 79 0 (n) := by subst hH109; rfl
            have g130 : H109.2.2.1 80 0 (n) = H84.2.2.1 80 0 (n) := by subst hH109; rfl
            have g131 : H109.2.2.1 56 0 (H0.2.2.1 72 0 (n)) = H84.2.2.1 56 0 (H0.2.2.1 72 0 (n)) := by subst hH109; rfl
            have g132 : H109.2.2.1 83 0 (n) = H84.2.2.1 83 0 (n) := by subst hH109; rfl
            clear hH109
            refine J.run0 6 rfl ?_
            try dsimp only
            have f133 : 1 ≤ H109.1 11 12 0 ∧ H109.1 11 12 0 ≤ 300 := hT110.2.1 12
            refine J.inv rfl rfl rfl rfl rfl rfl jDr rfl rfl rfl rfl rfl (g_sent (n := n) (kind := (2 : Int)) (r := r) (block := (-1 : Int)) (before := (-1 : Int)) (u := u) hT110 k117 k118 k119 k121 (show 0 ≤ (n) ∧ (n) < 16 from ⟨by omega, by omega⟩) (show 0 ≤ ((2 : Int)) ∧ ((2 : Int)) ≤ 2 from ⟨by omega, by omega⟩) (show 0 ≤ (r) ∧ (r) < 32 from ⟨by omega, by omega⟩) (show -1 ≤ ((-1 : Int)) ∧ ((-1 : Int)) < 300 from ⟨by omega, by omega⟩) (show ((-1 : Int)) < H109.1 11 12 0 from by omega) (show -1 ≤ ((-1 : Int)) ∧ ((-1 : Int)) < 32 from ⟨by omega, by omega⟩) k120 (show H109.2.2.1 79 0 ((n)) = 0 → (r) = H109.2.2.1 73 0 ((n)) from by omega) (show H109.2.2.1 79 0 ((n)) = 0 → H109.2.2.1 83 0 ((n)) ≤ 3 * H109.2.2.1 73 0 ((n)) + H109.2.2.1 74 0 ((n)) from by omega) (show H109.2.2.1 80 0 ((n)) = 0 from by omega) (show (n) < (u) from by omega)) ?_
            rintro v w H136 ⟨rfl, hT137, ehE138, k139, k140, k141, k142, p143, p144, x134, rfl, r135⟩
            have hE138 := jEx.trans ehE138 hE111 (by decide) (by decide)
            have p143' : gW H136 (H136.1 11 19 0) := p143
            have p144' : H109.1 11 19 0 ≤ H136.1 11 19 0 := p144
            have r135' : (-1) ≤ x134 ∧ x134 ≤ 5999 := r135
            have pL_sent_0 := p143'
            have pL_sent_1 := p144'
            have k145 : gP H136 := gP.ex k112 ehE138 (by decide)
            have k146 : gX H136 := gX.ex k113 ehE138 (by decide)
            have k147 : gL H136 := gL.ex k114 ehE138 (by decide)
            have k148 : gZ H136 := gZ.ex k115 ehE138 (by decide)
            have k149 : gQ H136 := gQ.ex k116 ehE138 (by decide)
            have g150 : H136.1 11 12 0 = H109.1 11 12 0 := ehE138.v 12 (by decide)
            have g151 : H136.2.2.1 74 0 (n) = H109.2.2.1 74 0 (n) := congrFun (ehE138.r 74 (by decide)) _
            have g152 : H136.2.2.1 73 0 (n) = H109.2.2.1 73 0 (n) := congrFun (ehE138.r 73 (by decide)) _
            have g153 : H136.2.2.1 115 0 (n) = H109.2.2.1 115 0 (n) := congrFun (ehE138.r 115 (by decide)) _
            have g154 : H136.2.2.1 72 0 (n) = H109.2.2.1 72 0 (n) := congrFun (ehE138.r 72 (by decide)) _
            have g155 : H136.2.2.1 79 0 (n) = H109.2.2.1 79 0 (n) := congrFun (ehE138.r 79 (by decide)) _
            have g156 : H136.2.2.1 56 0 (H0.2.2.1 72 0 (n)) = H109.2.2.1 56 0 (H0.2.2.1 72 0 (n)) := congrFun (ehE138.r 56 (by decide)) _
            have rL_sent := r135'
            have eL_sent := ehE138
            try dsimp only [Option.toList, List.append, List.cons_append, List.nil_append]
            refine J.run0 2 rfl ?_
            try dsimp only
            exact J.retb rfl rfl rfl (show (1 : Int) = 0 ∨ (1 : Int) = 1 by omega) ⟨_, rfl, rfl, hT137, hE138, k145, k146, k147, k148, k149, k139, k140, k141, p143, k142, _, rfl, (show (((1 : Int)) = 0 ∨ ((1 : Int)) = 1) ∧ (((1 : Int)) = 1 → 192 * H0.2.2.1 56 0 (H0.2.2.1 72 0 (n)) + 6 * H0.2.2.1 73 0 (n) + 2 * H0.2.2.1 74 0 (n) + H0.2.2.1 115 0 (n) + 1 ≤ 192 * H136.2.2.1 56 0 (H136.2.2.1 72 0 (n)) + 6 * H136.2.2.1 73 0 (n) + 2 * H136.2.2.1 74 0 (n) + H136.2.2.1 115 0 (n)) ∧ H0.1 11 19 0 ≤ H136.1 11 19 0 from (by refine ⟨by omega, fun hv => ?_, by omega⟩; first | omega | (have y1 : 0 ≤ H136.2.2.1 74 0 (n) ∧ H136.2.2.1 74 0 (n) ≤ 2 := hT137.1 74 n; have y2 : 0 ≤ H136.2.2.1 115 0 (n) ∧ H136.2.2.1 115 0 (n) ≤ 1 := hT137.1 115 n; have y3 : 0 ≤ H136.2.2.1 73 0 (n) ∧ H136.2.2.1 73 0 (n) ≤ 31 := hT137.1 73 n; rw [show H136.2.2.1 72 0 (n) = H0.2.2.1 72 0 (n) by omega]; omega)))⟩
      · skip
        have f157 : 0 ≤ H.2.2.1 74 0 (n) ∧ H.2.2.1 74 0 (n) ≤ 2 := hT.1 74 (n)
        refine J.run 5 rfl (show 0 ≤ n ∧ n < 16 from ⟨by omega, by omega⟩) ?_
        try dsimp only
        refine J.icmp rfl rfl rfl ⟨(show -2147483648 ≤ H.2.2.1 74 0 (n) ∧ H.2.2.1 74 0 (n) ≤ 2147483647 from ⟨by omega, by omega⟩), (show -2147483648 ≤ (1 : Int) ∧ (1 : Int) ≤ 2147483647 from ⟨by omega, by omega⟩)⟩ (fun hc => ?_) (fun hc => ?_)
        · have c158 : ¬ (H.2.2.1 74 0 (n) = (1 : Int)) := hc
          clear hc
          refine J.run0 1 rfl ?_
          try dsimp only
          exact J.retb rfl rfl rfl (show (0 : Int) = 0 ∨ (0 : Int) = 1 by omega) ⟨_, rfl, rfl, hT, hE, k0gP, k0gX, k0gL, k0gZ, k0gQ, k0gB, k0gK, k0gN, k0gW, k0gU, _, rfl, (show (((0 : Int)) = 0 ∨ ((0 : Int)) = 1) ∧ (((0 : Int)) = 1 → 192 * H0.2.2.1 56 0 (H0.2.2.1 72 0 (n)) + 6 * H0.2.2.1 73 0 (n) + 2 * H0.2.2.1 74 0 (n) + H0.2.2.1 115 0 (n) + 1 ≤ 192 * H.2.2.1 56 0 (H.2.2.1 72 0 (n)) + 6 * H.2.2.1 73 0 (n) + 2 * H.2.2.1 74 0 (n) + H.2.2.1 115 0 (n)) ∧ H0.1 11 19 0 ≤ H.1 11 19 0 from (by refine ⟨by omega, fun hv => ?_, by omega⟩; first | omega | (have y1 : 0 ≤ H.2.2.1 74 0 (n) ∧ H.2.2.1 74 0 (n) ≤ 2 := hT.1 74 n; have y2 : 0 ≤ H.2.2.1 115 0 (n) ∧ H.2.2.1 115 0 (n) ≤ 1 := hT.1 115 n; have y3 : 0 ≤ H.2.2.1 73 0 (n) ∧ H.2.2.1 73 0 (n) ≤ 31 := hT.1 73 n; rw [show H.2.2.1 72 0 (n) = H0.2.2.1 72 0 (n) by omega]; omega)))⟩
        · have c159 : ¬ (¬ (H.2.2.1 74 0 (n) = (1 : Int))) := hc
          clear hc
          refine J.run0 5 rfl ?_
          try dsimp only
          refine J.inv rfl rfl rfl rfl rfl rfl jDr rfl rfl rfl rfl rfl (g_isMost (n := n) (kind := (1 : Int)) (r := r) (b := (-1 : Int)) hT  (show 0 ≤ (n) ∧ (n) < 16 from ⟨by omega, by omega⟩) (show -2147483648 ≤ ((1 : Int)) ∧ ((1 : Int)) ≤ 2147483647 from ⟨by omega, by omega⟩) (show -2147483648 ≤ (r) ∧ (r) ≤ 2147483647 from ⟨by omega, by omega⟩) (show -2147483648 ≤ ((-1 : Int)) ∧ ((-1 : Int)) ≤ 2147483647 from ⟨by omega, by omega⟩)) ?_
          rintro v w H162 ⟨rfl, hT163, ehE164, x160, rfl, r161⟩
          have hE164 := jEx.trans ehE164 hE (by decide) (by decide)
          have r161' : 0 ≤ x160 ∧ x160 ≤ 1 := r161
          have k165 : gP H162 := gP.ex k0gP ehE164 (by decide)
          have k166 : gX H162 := gX.ex k0gX ehE164 (by decide)
          have k167 : gL H162 := gL.ex k0gL ehE164 (by decide)
          have k168 : gZ H162 := gZ.ex k0gZ ehE164 (by decide)
          have k169 : gQ H162 := gQ.ex k0gQ ehE164 (by decide)
          have k170 : gB H162 := gB.ex k0gB ehE164 (by decide)
          have k171 : gK H162 := gK.ex k0gK ehE164 (by decide)
          have k172 : gN H162 := gN.ex k0gN ehE164 (by decide)
          have k173 : gW H162 (H162.1 11 19 0) := gWm.ex k0gW ehE164 (by decide)
          have k174 : gU H162 u := gU.ex k0gU ehE164 (by decide)
          have g175 : H162.1 11 12 0 = H.1 11 12 0 := ehE164.v 12 (by decide)
          have g176 : H162.1 11 19 0 = H.1 11 19 0 := ehE164.v 19 (by decide)
          have g177 : H162.2.2.1 73 0 (n) = H.2.2.1 73 0 (n) := congrFun (ehE164.r 73 (by decide)) _
          have g178 : H162.2.2.1 74 0 (n) = H.2.2.1 74 0 (n) := congrFun (ehE164.r 74 (by decide)) _
          have g179 : H162.2.2.1 115 0 (n) = H.2.2.1 115 0 (n) := congrFun (ehE164.r 115 (by decide)) _
          have g180 : H162.2.2.1 72 0 (n) = H.2.2.1 72 0 (n) := congrFun (ehE164.r 72 (by decide)) _
          have g181 : H162.2.2.1 79 0 (n) = H.2.2.1 79 0 (n) := congrFun (ehE164.r 79 (by decide)) _
          have g182 : H162.2.2.1 80 0 (n) = H.2.2.1 80 0 (n) := congrFun (ehE164.r 80 (by decide)) _
          have g183 : H162.2.2.1 56 0 (H0.2.2.1 72 0 (n)) = H.2.2.1 56 0 (H0.2.2.1 72 0 (n)) := congrFun (ehE164.r 56 (by decide)) _
          have g184 : H162.2.2.1 83 0 (n) = H.2.2.1 83 0 (n) := congrFun (ehE164.r 83 (by decide)) _
          have rL_isMost := r161'
          have eL_isMost := ehE164
          try dsimp only [Option.toList, List.append, List.cons_append, List.nil_append]
          refine J.ifc rfl rfl rfl (show -2147483648 ≤ x160 ∧ x160 ≤ 2147483647 from ⟨by omega, by omega⟩) (fun hc => ?_) (fun hc => ?_)
          · have c185 : x160 = (0 : Int) := hc
            clear hc
            refine J.run0 1 rfl ?_
            try dsimp only
            exact J.retb rfl rfl rfl (show (0 : Int) = 0 ∨ (0 : Int) = 1 by omega) ⟨_, rfl, rfl, hT163, hE164, k165, k166, k167, k168, k169, k170, k171, k172, k173, k174, _, rfl, (show (((0 : Int)) = 0 ∨ ((0 : Int)) = 1) ∧ (((0 : Int)) = 1 → 192 * H0.2.2.1 56 0 (H0.2.2.1 72 0 (n)) + 6 * H0.2.2.1 73 0 (n) + 2 * H0.2.2.1 74 0 (n) + H0.2.2.1 115 0 (n) + 1 ≤ 192 * H162.2.2.1 56 0 (H162.2.2.1 72 0 (n)) + 6 * H162.2.2.1 73 0 (n) + 2 * H162.2.2.1 74 0 (n) + H162.2.2.1 115 0 (n)) ∧ H0.1 11 19 0 ≤ H162.1 11 19 0 from (by refine ⟨by omega, fun hv => ?_, by omega⟩; first | omega | (have y1 : 0 ≤ H162.2.2.1 74 0 (n) ∧ H162.2.2.1 74 0 (n) ≤ 2 := hT163.1 74 n; have y2 : 0 ≤ H162.2.2.1 115 0 (n) ∧ H162.2.2.1 115 0 (n) ≤ 1 := hT163.1 115 n; have y3 : 0 ≤ H162.2.2.1 73 0 (n) ∧ H162.2.2.1 73 0 (n) ≤ 31 := hT163.1 73 n; rw [show H162.2.2.1 72 0 (n) = H0.2.2.1 72 0 (n) by omega]; omega)))⟩
          · have c186 : ¬ (x160 = (0 : Int)) := hc
            clear hc
            refine J.run 5 rfl (show 0 ≤ n ∧ n < 16 from ⟨by omega, by omega⟩) ?_
            try dsimp only
            refine J.gn fun H187 hH187 => ?_
            have hT188 : gT H187 := by rw [hH187]; exact gT.upd hT163 (show 0 ≤ (2 : Int) ∧ (2 : Int) ≤ 2 from ⟨by omega, by omega⟩) (fun z => absurd z (by decide))
            have hE189 : jEx [19, 12, 48, 56, 57] [60, 56, 59, 58, 55, 57, 61, 99, 100, 77, 78, 82, 80, 114, 115, 81, 105, 71, 70, 72, 75, 76, 68, 67, 65, 63, 64, 66, 112, 113, 108, 110, 101, 102, 103, 104, 83, 73, 74, 84, 111, 89, 88, 93, 94, 86, 91, 92, 85, 87, 90] H187 H0 := by rw [hH187]; exact jEx.row hE164 (by decide)
            have k190 : gP H187 := by rw [hH187]; exact k165
            have k191 : gX H187 := by rw [hH187]; exact k166
            have k192 : gL H187 := by rw [hH187]; exact k167
            have k193 : gZ H187 := by rw [hH187]; exact k168
            have k194 : gQ H187 := by rw [hH187]; exact k169
            have k195 : gB H187 := by rw [hH187]; exact k170
            have k196 : gK H187 := by rw [hH187]; exact k171
            have k197 : gN H187 := by rw [hH187]; exact k172
            have k198 : gW H187 (H187.1 11 19 0) := by rw [hH187]; exact gWm.step k173 (by omega)
            have k199 : gU H187 u := by rw [hH187]; exact k174
            have g200 : H187.2.2.1 74 0 (n) = (2 : Int) := by subst hH187; exact if_pos rfl
            have g201 : H187.1 11 12 0 = H162.1 11 12 0 := by subst hH187; rfl
            have g202 : H187.1 11 19 0 = H162.1 11 19 0 := by subst hH187; rfl
            have g203 : H187.2.2.1 73 0 (n) = H162.2.2.1 73 0 (n) := by subst hH187; rfl
            have g205 : H187.2.2.1 115 0 (n) = H162.2.2.1 115 0 (n) := by subst hH187; rfl
            have g206 : H187.2.2.1 72 0 (n) = H162.2.2.1 72 0 (n) := by subst hH187; rfl
            have g207 : H187.2.2.1 79 0 (n) = H162.2.2.1 79 0 (n) := by subst hH187; rfl
            have g208 : H187.2.2.1 80 0 (n) = H162.2.2.1 80 0 (n) := by subst hH187; rfl
            have g209 : H187.2.2.1 56 0 (H0.2.2.1 72 0 (n)) = H162.2.2.1 56 0 (H0.2.2.1 72 0 (n)) := by subst hH187; rfl
            have g210 : H187.2.2.1 83 0 (n) = H162.2.2.1 83 0 (n) := by subst hH187; rfl
            clear hH187
            refine J.run0 6 rfl ?_
            try dsimp only
            have f211 : 1 ≤ H187.1 11 12 0 ∧ H187.1 11 12 0 ≤ 300 := hT188.2.1 12
            refine J.inv rfl rfl rfl rfl rfl rfl jDr rfl rfl rfl rfl rfl (g_sent (n := n) (kind := (2 : Int)) (r := r) (block := (-1 : Int)) (before := (-1 : Int)) (u := u) hT188 k195 k196 k197 k199 (show 0 ≤ (n) ∧ (n) < 16 from ⟨by omega, by omega⟩) (show 0 ≤ ((2 : Int)) ∧ ((2 : Int)) ≤ 2 from ⟨by omega, by omega⟩) (show 0 ≤ (r) ∧ (r) < 32 from ⟨by omega, by omega⟩) (show -1 ≤ ((-1 : Int)) ∧ ((-1 : Int)) < 300 from ⟨by omega, by omega⟩) (show ((-1 : Int)) < H187.1 11 12 0 from by omega) (show -1 ≤ ((-1 : Int)) ∧ ((-1 : Int)) < 32 from ⟨by omega, by omega⟩) k198 (show H187.2.2.1 79 0 ((n)) = 0 → (r) = H187.2.2.1 73 0 ((n)) from by omega) (show H187.2.2.1 79 0 ((n)) = 0 → H187.2.2.1 83 0 ((n)) ≤ 3 * H187.2.2.1 73 0 ((n)) + H187.2.2.1 74 0 ((n)) from by omega) (show H187.2.2.1 80 0 ((n)) = 0 from by omega) (show (n) < (u) from by omega)) ?_
            rintro v w H214 ⟨rfl, hT215, ehE216, k217, k218, k219, k220, p221, p222, x212, rfl, r213⟩
            have hE216 := jEx.trans ehE216 hE189 (by decide) (by decide)
            have p221' : gW H214 (H214.1 11 19 0) := p221
            have p222' : H187.1 11 19 0 ≤ H214.1 11 19 0 := p222
            have r213' : (-1) ≤ x212 ∧ x212 ≤ 5999 := r213
            have pL_sent_0 := p221'
            have pL_sent_1 := p222'
            have k223 : gP H214 := gP.ex k190 ehE216 (by decide)
            have k224 : gX H214 := gX.ex k191 ehE216 (by decide)
            have k225 : gL H214 := gL.ex k192 ehE216 (by decide)
            have k226 : gZ H214 := gZ.ex k193 ehE216 (by decide)
            have k227 : gQ H214 := gQ.ex k194 ehE216 (by decide)
            have g228 : H214.1 11 12 0 = H187.1 11 12 0 := ehE216.v 12 (by decide)
            have g229 : H214.2.2.1 74 0 (n) = H187.2.2.1 74 0 (n) := congrFun (ehE216.r 74 (by decide)) _
            have g230 : H214.2.2.1 73 0 (n) = H187.2.2.1 73 0 (n) := congrFun (ehE216.r 73 (by decide)) _
            have g231 : H214.2.2.1 115 0 (n) = H187.2.2.1 115 0 (n) := congrFun (ehE216.r 115 (by decide)) _
            have g232 : H214.2.2.1 72 0 (n) = H187.2.2.1 72 0 (n) := congrFun (ehE216.r 72 (by decide)) _
            have g233 : H214.2.2.1 79 0 (n) = H187.2.2.1 79 0 (n) := congrFun (ehE216.r 79 (by decide)) _
            have g234 : H214.2.2.1 56 0 (H0.2.2.1 72 0 (n)) = H187.2.2.1 56 0 (H0.2.2.1 72 0 (n)) := congrFun (ehE216.r 56 (by decide)) _
            have rL_sent := r213'
            have eL_sent := ehE216
            try dsimp only [Option.toList, List.append, List.cons_append, List.nil_append]
            refine J.run0 2 rfl ?_
            try dsimp only
            exact J.retb rfl rfl rfl (show (1 : Int) = 0 ∨ (1 : Int) = 1 by omega) ⟨_, rfl, rfl, hT215, hE216, k223, k224, k225, k226, k227, k217, k218, k219, p221, k220, _, rfl, (show (((1 : Int)) = 0 ∨ ((1 : Int)) = 1) ∧ (((1 : Int)) = 1 → 192 * H0.2.2.1 56 0 (H0.2.2.1 72 0 (n)) + 6 * H0.2.2.1 73 0 (n) + 2 * H0.2.2.1 74 0 (n) + H0.2.2.1 115 0 (n) + 1 ≤ 192 * H214.2.2.1 56 0 (H214.2.2.1 72 0 (n)) + 6 * H214.2.2.1 73 0 (n) + 2 * H214.2.2.1 74 0 (n) + H214.2.2.1 115 0 (n)) ∧ H0.1 11 19 0 ≤ H214.1 11 19 0 from (by refine ⟨by omega, fun hv => ?_, by omega⟩; first | omega | (have y1 : 0 ≤ H214.2.2.1 74 0 (n) ∧ H214.2.2.1 74 0 (n) ≤ 2 := hT215.1 74 n; have y2 : 0 ≤ H214.2.2.1 115 0 (n) ∧ H214.2.2.1 115 0 (n) ≤ 1 := hT215.1 115 n; have y3 : 0 ≤ H214.2.2.1 73 0 (n) ∧ H214.2.2.1 73 0 (n) ≤ 31 := hT215.1 73 n; rw [show H214.2.2.1 72 0 (n) = H0.2.2.1 72 0 (n) by omega]; omega)))⟩
end
