-- M: X11_begins
section
variable {d : Nat} {w : jW} 
-- 
theorem g_begins_l0 {n q u : Int} {H0 : jH} (hp0 : 0 ≤ n ∧ n < 16) (hp1 : 0 ≤ q ∧ q < 32) (hp2 : H0.2.2.1 83 0 (n) ≤ 3 * q) (hp3 : H0.2.2.1 80 0 (n) = 0) (hp4 : n < u) : ∀ (m : Nat), (∀ (c t : Int) (H : jH) (lv : jL), 1500 - t < (m : Int) → (0 ≤ t ∧ t ≤ 1500) → (H.2.2.1 73 0 (n) = q) → (H.2.2.1 74 0 (n) = 0) → (H.2.2.1 83 0 (n) ≤ 3 * q) → (H.2.2.1 72 0 (n) = H0.2.2.1 72 0 (n)) → (H.2.2.1 56 0 (H0.2.2.1 72 0 (n)) = H0.2.2.1 56 0 (H0.2.2.1 72 0 (n))) → (0 ≤ c ∧ c < 300) → (c < H.1 11 12 0) → (H.2.2.1 80 0 (n) = 0) → (H0.1 11 19 0 ≤ H.1 11 19 0) → gT H → jEx [19, 12, 48, 56, 57] [60, 56, 59, 58, 55, 57, 99, 100, 82, 80, 114, 115, 105, 71, 70, 68, 67, 65, 63, 64, 66, 112, 113, 108, 101, 102, 103, 104, 83, 73, 74, 84, 89, 88, 93, 94, 86, 91, 92, 85, 87, 90] H H0 → gP H → gX H → gL H → gZ H → gQ H → gB H → gK H → gN H → gW H (H.1 11 19 0) → gU H u → (lv = [(4, .inl t), (3, .inl c), (0, jT), (1, .inl n), (2, .inl q)]) → J true (d + 5) 140 w (167, lv, [], H) (jN fun v w' H' => w' = w ∧ gT H' ∧ jEx [19, 12, 48, 56, 57] [60, 56, 59, 58, 55, 57, 99, 100, 82, 80, 114, 115, 105, 71, 70, 68, 67, 65, 63, 64, 66, 112, 113, 108, 101, 102, 103, 104, 83, 73, 74, 84, 89, 88, 93, 94, 86, 91, 92, 85, 87, 90] H' H0 ∧ gP H' ∧ gX H' ∧ gL H' ∧ gZ H' ∧ gQ H' ∧ gB H' ∧ gK H' ∧ gN H' ∧ gW H' (H'.1 11 19 0) ∧ gU H' u ∧ (192 * H0.2.2.1 56 0 (H0.2.2.1 72 0 (n)) + 6 * q ≤ 192 * H'.2.2.1 56 0 (H'.2.2.1 72 0 (n)) + 6 * H'.2.2.1 73 0 (n) + 2 * H'.2.2.1 74 0 (n) + H'.2.2.1 115 0 (n)) ∧ (H0.1 11 19 0 ≤ H'.1 11 19 0) ∧ v = none)) := by
  intro m
  induction m with
  | zero =>
    skip
    · intro c t H lv hm hi0 hi1 hi2 hi3 hi4 hi5 hi6 hi7 hi8 hi9 hT hE k0gP k0gX k0gL k0gZ k0gQ k0gB k0gK k0gN k0gW k0gU hlv
      exfalso
      omega
  | succ m ih =>
    skip
    · intro c t H lv hm hi0 hi1 hi2 hi3 hi4 hi5 hi6 hi7 hi8 hi9 hT hE k0gP k0gX k0gL k0gZ k0gQ k0gB k0gK k0gN k0gW k0gU hlv
      rcases hlv with rfl
      have f1 : 0 ≤ H.1 11 4 0 ∧ H.1 11 4 0 ≤ 1500 := hT.2.1 4
      refine J.run0 3 rfl ?_
      try dsimp only
      refine J.icmp rfl rfl rfl ⟨(show -2147483648 ≤ t ∧ t ≤ 2147483647 from ⟨by omega, by omega⟩), (show -2147483648 ≤ H.1 11 4 0 ∧ H.1 11 4 0 ≤ 2147483647 from ⟨by omega, by omega⟩)⟩ (fun hc => ?_) (fun hc => ?_)
      · have c2 : H.1 11 4 0 ≤ t := hc
        clear hc
        refine J.run0 6 rfl ?_
        try dsimp only
        have f3 : 1 ≤ H.1 11 12 0 ∧ H.1 11 12 0 ≤ 300 := hT.2.1 12
        refine J.inv rfl rfl rfl rfl rfl rfl jDr rfl rfl rfl rfl rfl (g_sent (n := n) (kind := (0 : Int)) (r := q) (block := c) (before := (-1 : Int)) (u := u) hT k0gB k0gK k0gN k0gU (show 0 ≤ (n) ∧ (n) < 16 from ⟨by omega, by omega⟩) (show 0 ≤ ((0 : Int)) ∧ ((0 : Int)) ≤ 2 from ⟨by omega, by omega⟩) (show 0 ≤ (q) ∧ (q) < 32 from ⟨by omega, by omega⟩) (show -1 ≤ (c) ∧ (c) < 300 from ⟨by omega, by omega⟩) (show (c) < H.1 11 12 0 from by omega) (show -1 ≤ ((-1 : Int)) ∧ ((-1 : Int)) < 32 from ⟨by omega, by omega⟩) k0gW (show H.2.2.1 79 0 ((n)) = 0 → (q) = H.2.2.1 73 0 ((n)) from by omega) (show H.2.2.1 79 0 ((n)) = 0 → H.2.2.1 83 0 ((n)) ≤ 3 * H.2.2.1 73 0 ((n)) + H.2.2.1 74 0 ((n)) from by omega) (show H.2.2.1 80 0 ((n)) = 0 from by omega) (show (n) < (u) from by omega)) ?_
        rintro v w H6 ⟨rfl, hT7, ehE8, k9, k10, k11, k12, p13, p14, x4, rfl, r5⟩
        have hE8 := jEx.trans ehE8 hE (by decide) (by decide)
        have p13' : gW H6 (H6.1 11 19 0) := p13
        have p14' : H.1 11 19 0 ≤ H6.1 11 19 0 := p14
        have r5' : (-1) ≤ x4 ∧ x4 ≤ 5999 := r5
        have pL_sent_0 := p13'
        have pL_sent_1 := p14'
        have k15 : gP H6 := gP.ex k0gP ehE8 (by decide)
        have k16 : gX H6 := gX.ex k0gX ehE8 (by decide)
        have k17 : gL H6 := gL.ex k0gL ehE8 (by decide)
        have k18 : gZ H6 := gZ.ex k0gZ ehE8 (by decide)
        have k19 : gQ H6 := gQ.ex k0gQ ehE8 (by decide)
        have g20 : H6.1 11 12 0 = H.1 11 12 0 := ehE8.v 12 (by decide)
        have g21 : H6.2.2.1 73 0 (n) = H.2.2.1 73 0 (n) := congrFun (ehE8.r 73 (by decide)) _
        have g22 : H6.2.2.1 74 0 (n) = H.2.2.1 74 0 (n) := congrFun (ehE8.r 74 (by decide)) _
        have g23 : H6.2.2.1 72 0 (n) = H.2.2.1 72 0 (n) := congrFun (ehE8.r 72 (by decide)) _
        have g24 : H6.2.2.1 56 0 (H0.2.2.1 72 0 (n)) = H.2.2.1 56 0 (H0.2.2.1 72 0 (n)) := congrFun (ehE8.r 56 (by decide)) _
        have rL_sent := r5'
        have eL_sent := ehE8
        try dsimp only [Option.toList, List.append, List.cons_append, List.nil_append]
        refine J.run0 1 rfl ?_
        try dsimp only
        exact J.retv rfl rfl rfl ⟨_, rfl, rfl, hT7, hE8, k15, k16, k17, k18, k19, k9, k10, k11, p13, k12, (show 192 * H0.2.2.1 56 0 (H0.2.2.1 72 0 (n)) + 6 * q ≤ 192 * H6.2.2.1 56 0 (H6.2.2.1 72 0 (n)) + 6 * H6.2.2.1 73 0 (n) + 2 * H6.2.2.1 74 0 (n) + H6.2.2.1 115 0 (n) by have y1 : 0 ≤ H6.2.2.1 74 0 (n) ∧ H6.2.2.1 74 0 (n) ≤ 2 := hT7.1 74 n; have y2 : 0 ≤ H6.2.2.1 115 0 (n) ∧ H6.2.2.1 115 0 (n) ≤ 1 := hT7.1 115 n; have y3 : 0 ≤ H6.2.2.1 73 0 (n) ∧ H6.2.2.1 73 0 (n) ≤ 31 := hT7.1 73 n; rw [show H6.2.2.1 72 0 (n) = H0.2.2.1 72 0 (n) by omega]; omega), (show H0.1 11 19 0 ≤ H6.1 11 19 0 by omega), rfl⟩
      · have c25 : ¬ (H.1 11 4 0 ≤ t) := hc
        clear hc
        have f26 : 0 ≤ H.2.2.1 58 0 (c) ∧ H.2.2.1 58 0 (c) ≤ 12 := hT.1 58 (c)
        refine J.run 5 rfl (show 0 ≤ c ∧ c < 300 from ⟨by omega, by omega⟩) ?_
        try dsimp only
        refine J.icmp rfl rfl rfl ⟨(show -2147483648 ≤ H.2.2.1 58 0 (c) ∧ H.2.2.1 58 0 (c) ≤ 2147483647 from ⟨by omega, by omega⟩), (show -2147483648 ≤ (12 : Int) ∧ (12 : Int) ≤ 2147483647 from ⟨by omega, by omega⟩)⟩ (fun hc => ?_) (fun hc => ?_)
        · have c27 : (12 : Int) ≤ H.2.2.1 58 0 (c) := hc
          clear hc
          refine J.run0 6 rfl ?_
          try dsimp only
          have f28 : 1 ≤ H.1 11 12 0 ∧ H.1 11 12 0 ≤ 300 := hT.2.1 12
          refine J.inv rfl rfl rfl rfl rfl rfl jDr rfl rfl rfl rfl rfl (g_sent (n := n) (kind := (0 : Int)) (r := q) (block := c) (before := (-1 : Int)) (u := u) hT k0gB k0gK k0gN k0gU (show 0 ≤ (n) ∧ (n) < 16 from ⟨by omega, by omega⟩) (show 0 ≤ ((0 : Int)) ∧ ((0 : Int)) ≤ 2 from ⟨by omega, by omega⟩) (show 0 ≤ (q) ∧ (q) < 32 from ⟨by omega, by omega⟩) (show -1 ≤ (c) ∧ (c) < 300 from ⟨by omega, by omega⟩) (show (c) < H.1 11 12 0 from by omega) (show -1 ≤ ((-1 : Int)) ∧ ((-1 : Int)) < 32 from ⟨by omega, by omega⟩) k0gW (show H.2.2.1 79 0 ((n)) = 0 → (q) = H.2.2.1 73 0 ((n)) from by omega) (show H.2.2.1 79 0 ((n)) = 0 → H.2.2.1 83 0 ((n)) ≤ 3 * H.2.2.1 73 0 ((n)) + H.2.2.1 74 0 ((n)) from by omega) (show H.2.2.1 80 0 ((n)) = 0 from by omega) (show (n) < (u) from by omega)) ?_
          rintro v w H31 ⟨rfl, hT32, ehE33, k34, k35, k36, k37, p38, p39, x29, rfl, r30⟩
          have hE33 := jEx.trans ehE33 hE (by decide) (by decide)
          have p38' : gW H31 (H31.1 11 19 0) := p38
          have p39' : H.1 11 19 0 ≤ H31.1 11 19 0 := p39
          have r30' : (-1) ≤ x29 ∧ x29 ≤ 5999 := r30
          have pL_sent_0 := p38'
          have pL_sent_1 := p39'
          have k40 : gP H31 := gP.ex k0gP ehE33 (by decide)
          have k41 : gX H31 := gX.ex k0gX ehE33 (by decide)
          have k42 : gL H31 := gL.ex k0gL ehE33 (by decide)
          have k43 : gZ H31 := gZ.ex k0gZ ehE33 (by decide)
          have k44 : gQ H31 := gQ.ex k0gQ ehE33 (by decide)
          have g45 : H31.1 11 12 0 = H.1 11 12 0 := ehE33.v 12 (by decide)
          have g46 : H31.2.2.1 73 0 (n) = H.2.2.1 73 0 (n) := congrFun (ehE33.r 73 (by decide)) _
          have g47 : H31.2.2.1 74 0 (n) = H.2.2.1 74 0 (n) := congrFun (ehE33.r 74 (by decide)) _
          have g48 : H31.2.2.1 72 0 (n) = H.2.2.1 72 0 (n) := congrFun (ehE33.r 72 (by decide)) _
          have g49 : H31.2.2.1 56 0 (H0.2.2.1 72 0 (n)) = H.2.2.1 56 0 (H0.2.2.1 72 0 (n)) := congrFun (ehE33.r 56 (by decide)) _
          have g50 : H31.2.2.1 58 0 (c) = H.2.2.1 58 0 (c) := congrFun (ehE33.r 58 (by decide)) _
          have rL_sent := r30'
          have eL_sent := ehE33
          try dsimp only [Option.toList, List.append, List.cons_append, List.nil_append]
          refine J.run0 1 rfl ?_
          try dsimp only
          exact J.retv rfl rfl rfl ⟨_, rfl, rfl, hT32, hE33, k40, k41, k42, k43, k44, k34, k35, k36, p38, k37, (show 192 * H0.2.2.1 56 0 (H0.2.2.1 72 0 (n)) + 6 * q ≤ 192 * H31.2.2.1 56 0 (H31.2.2.1 72 0 (n)) + 6 * H31.2.2.1 73 0 (n) + 2 * H31.2.2.1 74 0 (n) + H31.2.2.1 115 0 (n) by have y1 : 0 ≤ H31.2.2.1 74 0 (n) ∧ H31.2.2.1 74 0 (n) ≤ 2 := hT32.1 74 n; have y2 : 0 ≤ H31.2.2.1 115 0 (n) ∧ H31.2.2.1 115 0 (n) ≤ 1 := hT32.1 115 n; have y3 : 0 ≤ H31.2.2.1 73 0 (n) ∧ H31.2.2.1 73 0 (n) ≤ 31 := hT32.1 73 n; rw [show H31.2.2.1 72 0 (n) = H0.2.2.1 72 0 (n) by omega]; omega), (show H0.1 11 19 0 ≤ H31.1 11 19 0 by omega), rfl⟩
        · have c51 : ¬ ((12 : Int) ≤ H.2.2.1 58 0 (c)) := hc
          clear hc
          have f52 : 0 ≤ H.2.2.1 72 0 (n) ∧ H.2.2.1 72 0 (n) ≤ 299 := hT.1 72 (n)
          have f53 : 1 ≤ H.1 11 12 0 ∧ H.1 11 12 0 ≤ 300 := hT.2.1 12
          have f52b : H.2.2.1 72 0 (n) < H.1 11 12 0 := hT.2.2.1 72 (n) rfl
          refine J.run 6 rfl (show 0 ≤ n ∧ n < 16 from ⟨by omega, by omega⟩) ?_
          try dsimp only
          refine J.inv rfl rfl rfl rfl rfl rfl jDr rfl rfl rfl rfl rfl (g_isIn (t := t) (chain := H.2.2.1 72 0 (n)) hT k0gP (show -2147483648 ≤ (t) ∧ (t) ≤ 2147483647 from ⟨by omega, by omega⟩) (show -1 ≤ (H.2.2.1 72 0 (n)) ∧ (H.2.2.1 72 0 (n)) < 300 from ⟨by omega, by omega⟩)) ?_
          rintro v w H ⟨rfl, rfl, x54, rfl, r55⟩
          have r55' : 0 ≤ x54 ∧ x54 ≤ 1 := r55
          have rL_isIn := r55'
          try dsimp only [Option.toList, List.append, List.cons_append, List.nil_append]
          refine J.ifc rfl rfl rfl (show -2147483648 ≤ x54 ∧ x54 ≤ 2147483647 from ⟨by omega, by omega⟩) (fun hc => ?_) (fun hc => ?_)
          · have c56 : ¬ (x54 = (0 : Int)) := hc
            clear hc
            refine J.run0 2 rfl ?_
            try dsimp only
            exact ih (c) (t + 1) H _ (show 1500 - (t + 1) < _ by omega) (show 0 ≤ (t + 1) ∧ (t + 1) ≤ 1500 from ⟨by omega, by omega⟩) (show H.2.2.1 73 0 (n) = q from by omega) (show H.2.2.1 74 0 (n) = 0 from by omega) (show H.2.2.1 83 0 (n) ≤ 3 * q from by omega) (show H.2.2.1 72 0 (n) = H0.2.2.1 72 0 (n) from by omega) (show H.2.2.1 56 0 (H0.2.2.1 72 0 (n)) = H0.2.2.1 56 0 (H0.2.2.1 72 0 (n)) from by omega) (show 0 ≤ (c) ∧ (c) < 300 from ⟨by omega, by omega⟩) (show (c) < H.1 11 12 0 from by omega) (show H.2.2.1 80 0 (n) = 0 from by omega) (show H0.1 11 19 0 ≤ H.1 11 19 0 from by omega) hT hE k0gP k0gX k0gL k0gZ k0gQ k0gB k0gK k0gN k0gW k0gU rfl
          · have c57 : ¬ (¬ (x54 = (0 : Int))) := hc
            clear hc
            have g58 : c = H0.2.2.1 72 0 (n) → H.2.2.1 56 0 (c) = H.2.2.1 56 0 (H0.2.2.1 72 0 (n)) := fun z => by rw [z]
            have f59 : 0 ≤ H.2.2.1 56 0 (c) ∧ H.2.2.1 56 0 (c) ≤ 300 := hT.1 56 (c)
            have f59gP : 0 ≤ c → c < 300 → H.2.2.1 56 0 (c) ≤ c := k0gP.2.2.2.2.1 (c)
            refine J.run 7 rfl (show 0 ≤ c ∧ c < 300 from ⟨by omega, by omega⟩) ?_
            try dsimp only
            refine J.inv rfl rfl rfl rfl rfl rfl jDr rfl rfl rfl rfl rfl (g_isDone (t := t) (p := n) (h := H.2.2.1 56 0 (c)) hT k0gX k0gL (show 0 ≤ (t) ∧ (t) < 1500 from ⟨by omega, by omega⟩) (show 0 ≤ (n) ∧ (n) < 16 from ⟨by omega, by omega⟩) (show 0 ≤ (H.2.2.1 56 0 (c)) ∧ (H.2.2.1 56 0 (c)) ≤ 300 from ⟨by omega, by omega⟩)) ?_
            rintro v w H62 ⟨rfl, hT63, ehE64, k65, k66, x60, rfl, r61⟩
            have hE64 := jEx.trans ehE64 hE (by decide) (by decide)
            have r61' : 0 ≤ x60 ∧ x60 ≤ 1 := r61
            have k67 : gP H62 := gP.ex k0gP ehE64 (by decide)
            have k68 : gZ H62 := gZ.ex k0gZ ehE64 (by decide)
            have k69 : gQ H62 := gQ.ex k0gQ ehE64 (by decide)
            have k70 : gB H62 := gB.ex k0gB ehE64 (by decide)
            have k71 : gK H62 := gK.ex k0gK ehE64 (by decide)
            have k72 : gN H62 := gN.ex k0gN ehE64 (by decide)
            have k73 : gW H62 (H62.1 11 19 0) := gWm.ex k0gW ehE64 (by decide)
            have k74 : gU H62 u := gU.ex k0gU ehE64 (by decide)
            have g75 : H62.1 11 12 0 = H.1 11 12 0 := ehE64.v 12 (by decide)
            have g76 : H62.1 11 19 0 = H.1 11 19 0 := ehE64.v 19 (by decide)
            have g77 : H62.2.2.1 73 0 (n) = H.2.2.1 73 0 (n) := congrFun (ehE64.r 73 (by decide)) _
            have g78 : H62.2.2.1 74 0 (n) = H.2.2.1 74 0 (n) := congrFun (ehE64.r 74 (by decide)) _
            have g79 : H62.2.2.1 83 0 (n) = H.2.2.1 83 0 (n) := congrFun (ehE64.r 83 (by decide)) _
            have g80 : H62.2.2.1 72 0 (n) = H.2.2.1 72 0 (n) := congrFun (ehE64.r 72 (by decide)) _
            have g81 : H62.2.2.1 56 0 (H0.2.2.1 72 0 (n)) = H.2.2.1 56 0 (H0.2.2.1 72 0 (n)) := congrFun (ehE64.r 56 (by decide)) _
            have g82 : H62.2.2.1 80 0 (n) = H.2.2.1 80 0 (n) := congrFun (ehE64.r 80 (by decide)) _
            have g83 : H62.2.2.1 58 0 (c) = H.2.2.1 58 0 (c) := congrFun (ehE64.r 58 (by decide)) _
            have g84 : H62.2.2.1 56 0 (c) = H.2.2.1 56 0 (c) := congrFun (ehE64.r 56 (by decide)) _
            have rL_isDone := r61'
            have eL_isDone := ehE64
            try dsimp only [Option.toList, List.append, List.cons_append, List.nil_append]
            refine J.ifc rfl rfl rfl (show -2147483648 ≤ x60 ∧ x60 ≤ 2147483647 from ⟨by omega, by omega⟩) (fun hc => ?_) (fun hc => ?_)
            · have c85 : ¬ (x60 = (0 : Int)) := hc
              clear hc
              refine J.run 12 rfl ⟨(show 0 ≤ c ∧ c < 300 from ⟨by omega, by omega⟩), (show 0 ≤ ((12 : Int) * c) + (H62.2.2.1 58 0 (c)) ∧ ((12 : Int) * c) + (H62.2.2.1 58 0 (c)) < 3600 from ⟨by omega, by omega⟩)⟩ ?_
              try dsimp only
              refine J.gn fun H86 hH86 => ?_
              have hT87 : gT H86 := by rw [hH86]; exact gT.upd hT63 (show 0 ≤ t ∧ t ≤ 1499 from ⟨by omega, by omega⟩) (fun z => absurd z (by decide))
              have hE88 : jEx [19, 12, 48, 56, 57] [60, 56, 59, 58, 55, 57, 99, 100, 82, 80, 114, 115, 105, 71, 70, 68, 67, 65, 63, 64, 66, 112, 113, 108, 101, 102, 103, 104, 83, 73, 74, 84, 89, 88, 93, 94, 86, 91, 92, 85, 87, 90] H86 H0 := by rw [hH86]; exact jEx.row hE64 (by decide)
              have k89 : gP H86 := by rw [hH86]; exact k67
              have k90 : gX H86 := by rw [hH86]; exact k65
              have k91 : gL H86 := by rw [hH86]; exact k66
              have k92 : gZ H86 := by rw [hH86]; exact k68
              have k93 : gQ H86 := by rw [hH86]; exact k69
              have k94 : gB H86 := by rw [hH86]; exact k70
              have k95 : gK H86 := by rw [hH86]; exact k71
              have k96 : gN H86 := by rw [hH86]; exact k72
              have k97 : gW H86 (H86.1 11 19 0) := by rw [hH86]; exact k73
              have k98 : gU H86 u := by rw [hH86]; exact k74
              have g99 : H86.2.2.1 59 0 (((12 : Int) * c) + (H62.2.2.1 58 0 (c))) = t := by subst hH86; exact if_pos rfl
              have g100 : H86.1 11 12 0 = H62.1 11 12 0 := by subst hH86; rfl
              have g101 : H86.1 11 19 0 = H62.1 11 19 0 := by subst hH86; rfl
              have g102 : H86.2.2.1 73 0 (n) = H62.2.2.1 73 0 (n) := by subst hH86; rfl
              have g103 : H86.2.2.1 74 0 (n) = H62.2.2.1 74 0 (n) := by subst hH86; rfl
              have g104 : H86.2.2.1 83 0 (n) = H62.2.2.1 83 0 (n) := by subst hH86; rfl
              have g105 : H86.2.2.1 72 0 (n) = H62.2.2.1 72 0 (n) := by subst hH86; rfl
              have g106 : H86.2.2.1 56 0 (H0.2.2.1 72 0 (n)) = H62.2.2.1 56 0 (H0.2.2.1 72 0 (n)) := by subst hH86; rfl
              have g107 : H86.2.2.1 80 0 (n) = H62.2.2.1 80 0 (n) := by subst hH86; rfl
              have g108 : H86.2.2.1 58 0 (c) = H62.2.2.1 58 0 (c) := by subst hH86; rfl
              have g109 : H86.2.2.1 56 0 (c) = H62.2.2.1 56 0 (c) := by subst hH86; rfl
              clear hH86
              refine J.run 8 rfl ⟨(show 0 ≤ c ∧ c < 300 from ⟨by omega, by omega⟩), (show 0 ≤ c ∧ c < 300 from ⟨by omega, by omega⟩)⟩ ?_
              try dsimp only
              refine J.gn fun H110 hH110 => ?_
              have hT111 : gT H110 := by rw [hH110]; exact gT.upd hT87 (show 0 ≤ (H86.2.2.1 58 0 (c)) + (1 : Int) ∧ (H86.2.2.1 58 0 (c)) + (1 : Int) ≤ 12 from ⟨by omega, by omega⟩) (fun z => absurd z (by decide))
              have hE112 : jEx [19, 12, 48, 56, 57] [60, 56, 59, 58, 55, 57, 99, 100, 82, 80, 114, 115, 105, 71, 70, 68, 67, 65, 63, 64, 66, 112, 113, 108, 101, 102, 103, 104, 83, 73, 74, 84, 89, 88, 93, 94, 86, 91, 92, 85, 87, 90] H110 H0 := by rw [hH110]; exact jEx.row hE88 (by decide)
              have k113 : gP H110 := by rw [hH110]; exact k89
              have k114 : gX H110 := by rw [hH110]; exact k90
              have k115 : gL H110 := by rw [hH110]; exact k91
              have k116 : gZ H110 := by rw [hH110]; exact k92
              have k117 : gQ H110 := by rw [hH110]; exact k93
              have k118 : gB H110 := by rw [hH110]; exact k94
              have k119 : gK H110 := by rw [hH110]; exact k95
              have k120 : gN H110 := by rw [hH110]; exact k96
              have k121 : gW H110 (H110.1 11 19 0) := by rw [hH110]; exact k97
              have k122 : gU H110 u := by rw [hH110]; exact k98
              have g123 : H110.2.2.1 58 0 (c) = (H86.2.2.1 58 0 (c)) + (1 : Int) := by subst hH110; exact if_pos rfl
              have g124 : H110.1 11 12 0 = H86.1 11 12 0 := by subst hH110; rfl
              have g125 : H110.1 11 19 0 = H86.1 11 19 0 := by subst hH110; rfl
              have g126 : H110.2.2.1 59 0 (((12 : Int) * c) + (H62.2.2.1 58 0 (c))) = H86.2.2.1 59 0 (((12 : Int) * c) + (H62.2.2.1 58 0 (c))) := by subst hH110; rfl
              have g127 : H110.2.2.1 73 0 (n) = H86.2.2.1 73 0 (n) := by subst hH110; rfl
              have g128 : H110.2.2.1 74 0 (n) = H86.2.2.1 74 0 (n) := by subst hH110; rfl
              have g129 : H110.2.2.1 83 0 (n) = H86.2.2.1 83 0 (n) := by subst hH110; rfl
              have g130 : H110.2.2.1 72 0 (n) = H86.2.2.1 72 0 (n) := by subst hH110; rfl
              have g131 : H110.2.2.1 56 0 (H0.2.2.1 72 0 (n)) = H86.2.2.1 56 0 (H0.2.2.1 72 0 (n)) := by subst hH110; rfl
              have g132 : H110.2.2.1 80 0 (n) = H86.2.2.1 80 0 (n) := by subst hH110; rfl
              have g134 : H110.2.2.1 56 0 (c) = H86.2.2.1 56 0 (c) := by subst hH110; rfl
              clear hH110
              refine J.run0 2 rfl ?_
              try dsimp only
              exact ih (c) (t + 1) H110 _ (show 1500 - (t + 1) < _ by omega) (show 0 ≤ (t + 1) ∧ (t + 1) ≤ 1500 from ⟨by omega, by omega⟩) (show H110.2.2.1 73 0 (n) = q from by omega) (show H110.2.2.1 74 0 (n) = 0 from by omega) (show H110.2.2.1 83 0 (n) ≤ 3 * q from by omega) (show H110.2.2.1 72 0 (n) = H0.2.2.1 72 0 (n) from by omega) (show H110.2.2.1 56 0 (H0.2.2.1 72 0 (n)) = H0.2.2.1 56 0 (H0.2.2.1 72 0 (n)) from by omega) (show 0 ≤ (c) ∧ (c) < 300 from ⟨by omega, by omega⟩) (show (c) < H110.1 11 12 0 from by omega) (show H110.2.2.1 80 0 (n) = 0 from by omega) (show H0.1 11 19 0 ≤ H110.1 11 19 0 from by omega) hT111 hE112 k113 k114 k115 k116 k117 k118 k119 k120 k121 k122 rfl
            · have c135 : ¬ (¬ (x60 = (0 : Int))) := hc
              clear hc
              refine J.run0 3 rfl ?_
              try dsimp only
              exact ih (c) (t + 1) H62 _ (show 1500 - (t + 1) < _ by omega) (show 0 ≤ (t + 1) ∧ (t + 1) ≤ 1500 from ⟨by omega, by omega⟩) (show H62.2.2.1 73 0 (n) = q from by omega) (show H62.2.2.1 74 0 (n) = 0 from by omega) (show H62.2.2.1 83 0 (n) ≤ 3 * q from by omega) (show H62.2.2.1 72 0 (n) = H0.2.2.1 72 0 (n) from by omega) (show H62.2.2.1 56 0 (H0.2.2.1 72 0 (n)) = H0.2.2.1 56 0 (H0.2.2.1 72 0 (n)) from by omega) (show 0 ≤ (c) ∧ (c) < 300 from ⟨by omega, by omega⟩) (show (c) < H62.1 11 12 0 from by omega) (show H62.2.2.1 80 0 (n) = 0 from by omega) (show H0.1 11 19 0 ≤ H62.1 11 19 0 from by omega) hT63 hE64 k67 k65 k66 k68 k69 k70 k71 k72 k73 k74 rfl
-- 
theorem g_begins_l1 {n q u : Int} {H0 : jH} (hp0 : 0 ≤ n ∧ n < 16) (hp1 : 0 ≤ q ∧ q < 32) (hp2 : H0.2.2.1 83 0 (n) ≤ 3 * q) (hp3 : H0.2.2.1 80 0 (n) = 0) (hp4 : n < u) : ∀ (m : Nat), (∀ (c k : Int) (H : jH) (lv : jL), 16 - k < (m : Int) → (0 ≤ k ∧ k ≤ 16) → (H.2.2.1 58 0 (c) = 0) → (H.2.2.1 73 0 (n) = q) → (H.2.2.1 74 0 (n) = 0) → (H.2.2.1 83 0 (n) ≤ 3 * q) → (H.2.2.1 72 0 (n) = H0.2.2.1 72 0 (n)) → (H.2.2.1 56 0 (H0.2.2.1 72 0 (n)) = H0.2.2.1 56 0 (H0.2.2.1 72 0 (n))) → (0 ≤ c ∧ c < 300) → (c < H.1 11 12 0) → (H.2.2.1 80 0 (n) = 0) → (H0.1 11 19 0 ≤ H.1 11 19 0) → gT H → jEx [19, 12, 48, 56, 57] [60, 56, 59, 58, 55, 57, 99, 100, 82, 80, 114, 115, 105, 71, 70, 68, 67, 65, 63, 64, 66, 112, 113, 108, 101, 102, 103, 104, 83, 73, 74, 84, 89, 88, 93, 94, 86, 91, 92, 85, 87, 90] H H0 → gP H → gX H → gL H → gZ H → gQ H → gB H → gK H → gN H → gW H (H.1 11 19 0) → gU H u → (lv = [(4, .inl k), (3, .inl c), (0, jT), (1, .inl n), (2, .inl q)]) → J true (d + 5) 140 w (118, lv, [], H) (jN fun v w' H' => w' = w ∧ gT H' ∧ jEx [19, 12, 48, 56, 57] [60, 56, 59, 58, 55, 57, 99, 100, 82, 80, 114, 115, 105, 71, 70, 68, 67, 65, 63, 64, 66, 112, 113, 108, 101, 102, 103, 104, 83, 73, 74, 84, 89, 88, 93, 94, 86, 91, 92, 85, 87, 90] H' H0 ∧ gP H' ∧ gX H' ∧ gL H' ∧ gZ H' ∧ gQ H' ∧ gB H' ∧ gK H' ∧ gN H' ∧ gW H' (H'.1 11 19 0) ∧ gU H' u ∧ (192 * H0.2.2.1 56 0 (H0.2.2.1 72 0 (n)) + 6 * q ≤ 192 * H'.2.2.1 56 0 (H'.2.2.1 72 0 (n)) + 6 * H'.2.2.1 73 0 (n) + 2 * H'.2.2.1 74 0 (n) + H'.2.2.1 115 0 (n)) ∧ (H0.1 11 19 0 ≤ H'.1 11 19 0) ∧ v = none)) := by
  intro m
  induction m with
  | zero =>
    skip
    · intro c k H lv hm hi0 hi1 hi2 hi3 hi4 hi5 hi6 hi7 hi8 hi9 hi10 hT hE k0gP k0gX k0gL k0gZ k0gQ k0gB k0gK k0gN k0gW k0gU hlv
      exfalso
      omega
  | succ m ih =>
    skip
    · intro c k H lv hm hi0 hi1 hi2 hi3 hi4 hi5 hi6 hi7 hi8 hi9 hi10 hT hE k0gP k0gX k0gL k0gZ k0gQ k0gB k0gK k0gN k0gW k0gU hlv
      rcases hlv with rfl
      refine J.run0 2 rfl ?_
      try dsimp only
      refine J.icmp rfl rfl rfl ⟨(show -2147483648 ≤ k ∧ k ≤ 2147483647 from ⟨by omega, by omega⟩), (show -2147483648 ≤ (16 : Int) ∧ (16 : Int) ≤ 2147483647 from ⟨by omega, by omega⟩)⟩ (fun hc => ?_) (fun hc => ?_)
      · have c136 : (16 : Int) ≤ k := hc
        clear hc
        have f137 : 1 ≤ H.1 11 12 0 ∧ H.1 11 12 0 ≤ 300 := hT.2.1 12
        refine J.run0 3 rfl ?_
        try dsimp only
        refine J.gn fun H138 hH138 => ?_
        have hT139 : gT H138 := by rw [hH138]; exact gT.num (f := 48) hT (show -1 ≤ (-1 : Int) ∧ (-1 : Int) ≤ 299 from ⟨by omega, by omega⟩) (by decide) (fun _ => show (-1 : Int) < H.1 11 12 0 by omega)
        have hE140 : jEx [19, 12, 48, 56, 57] [60, 56, 59, 58, 55, 57, 99, 100, 82, 80, 114, 115, 105, 71, 70, 68, 67, 65, 63, 64, 66, 112, 113, 108, 101, 102, 103, 104, 83, 73, 74, 84, 89, 88, 93, 94, 86, 91, 92, 85, 87, 90] H138 H0 := by rw [hH138]; exact jEx.num hE (by decide)
        have k141 : gP H138 := by rw [hH138]; exact k0gP
        have k142 : gX H138 := by rw [hH138]; exact k0gX
        have k143 : gL H138 := by rw [hH138]; exact k0gL
        have k144 : gZ H138 := by rw [hH138]; exact k0gZ
        have k145 : gQ H138 := by rw [hH138]; exact k0gQ
        have k146 : gB H138 := by rw [hH138]; exact k0gB
        have k147 : gK H138 := by rw [hH138]; exact k0gK
        have k148 : gN H138 := by rw [hH138]; exact k0gN
        have k149 : gW H138 (H138.1 11 19 0) := by rw [hH138]; exact k0gW
        have k150 : gU H138 u := by rw [hH138]; exact k0gU
        have g151 : H138.1 11 48 0 = (-1 : Int) := by subst hH138; rfl
        have g152 : H138.1 11 12 0 = H.1 11 12 0 := by subst hH138; rfl
        have g153 : H138.1 11 19 0 = H.1 11 19 0 := by subst hH138; rfl
        have g154 : H138.2.2.1 58 0 (c) = H.2.2.1 58 0 (c) := by subst hH138; rfl
        have g155 : H138.2.2.1 73 0 (n) = H.2.2.1 73 0 (n) := by subst hH138; rfl
        have g156 : H138.2.2.1 74 0 (n) = H.2.2.1 74 0 (n) := by subst hH138; rfl
        have g157 : H138.2.2.1 83 0 (n) = H.2.2.1 83 0 (n) := by subst hH138; rfl
        have g158 : H138.2.2.1 72 0 (n) = H.2.2.1 72 0 (n) := by subst hH138; rfl
        have g159 : H138.2.2.1 56 0 (H0.2.2.1 72 0 (n)) = H.2.2.1 56 0 (H0.2.2.1 72 0 (n)) := by subst hH138; rfl
        have g160 : H138.2.2.1 80 0 (n) = H.2.2.1 80 0 (n) := by subst hH138; rfl
        clear hH138
        have g161 : c = H0.2.2.1 72 0 (n) → H138.2.2.1 56 0 (c) = H138.2.2.1 56 0 (H0.2.2.1 72 0 (n)) := fun z => by rw [z]
        have f162 : 0 ≤ H138.2.2.1 56 0 (c) ∧ H138.2.2.1 56 0 (c) ≤ 300 := hT139.1 56 (c)
        have f162gP : 0 ≤ c → c < 300 → H138.2.2.1 56 0 (c) ≤ c := k141.2.2.2.2.1 (c)
        refine J.run 5 rfl (show 0 ≤ c ∧ c < 300 from ⟨by omega, by omega⟩) ?_
        try dsimp only
        refine J.inv rfl rfl rfl rfl rfl rfl jDr rfl rfl rfl rfl rfl (g_due (h := H138.2.2.1 56 0 (c)) hT139 k143 (show -2147483648 ≤ (H138.2.2.1 56 0 (c)) ∧ (H138.2.2.1 56 0 (c)) ≤ 2147483647 from ⟨by omega, by omega⟩)) ?_
        rintro v w H165 ⟨rfl, hT166, ehE167, k168, rfl⟩
        have hE167 := jEx.trans ehE167 hE140 (by decide) (by decide)
        have k169 : gP H165 := gP.ex k141 ehE167 (by decide)
        have k170 : gX H165 := gX.ex k142 ehE167 (by decide)
        have k171 : gZ H165 := gZ.ex k144 ehE167 (by decide)
        have k172 : gQ H165 := gQ.ex k145 ehE167 (by decide)
        have k173 : gB H165 := gB.ex k146 ehE167 (by decide)
        have k174 : gK H165 := gK.ex k147 ehE167 (by decide)
        have k175 : gN H165 := gN.ex k148 ehE167 (by decide)
        have k176 : gW H165 (H165.1 11 19 0) := gWm.ex k149 ehE167 (by decide)
        have k177 : gU H165 u := gU.ex k150 ehE167 (by decide)
        have g178 : H165.1 11 12 0 = H138.1 11 12 0 := ehE167.v 12 (by decide)
        have g179 : H165.1 11 19 0 = H138.1 11 19 0 := ehE167.v 19 (by decide)
        have g180 : H165.2.2.1 58 0 (c) = H138.2.2.1 58 0 (c) := congrFun (ehE167.r 58 (by decide)) _
        have g181 : H165.2.2.1 73 0 (n) = H138.2.2.1 73 0 (n) := congrFun (ehE167.r 73 (by decide)) _
        have g182 : H165.2.2.1 74 0 (n) = H138.2.2.1 74 0 (n) := congrFun (ehE167.r 74 (by decide)) _
        have g183 : H165.2.2.1 83 0 (n) = H138.2.2.1 83 0 (n) := congrFun (ehE167.r 83 (by decide)) _
        have g184 : H165.2.2.1 72 0 (n) = H138.2.2.1 72 0 (n) := congrFun (ehE167.r 72 (by decide)) _
        have g185 : H165.2.2.1 56 0 (H0.2.2.1 72 0 (n)) = H138.2.2.1 56 0 (H0.2.2.1 72 0 (n)) := congrFun (ehE167.r 56 (by decide)) _
        have g186 : H165.2.2.1 80 0 (n) = H138.2.2.1 80 0 (n) := congrFun (ehE167.r 80 (by decide)) _
        have g187 : H165.2.2.1 56 0 (c) = H138.2.2.1 56 0 (c) := congrFun (ehE167.r 56 (by decide)) _
        have eL_due := ehE167
        try dsimp only [Option.toList, List.append, List.cons_append, List.nil_append]
        refine J.run0 2 rfl ?_
        try dsimp only
        exact (g_begins_l0 (H0 := H0) (n := n) (q := q) (u := u)  hp0 hp1 hp2 hp3 hp4 ((1500 - ((0 : Int)) : Int).toNat + 1)) (c) ((0 : Int)) H165 _ (show 1500 - ((0 : Int)) < _ by omega) (show 0 ≤ ((0 : Int)) ∧ ((0 : Int)) ≤ 1500 from ⟨by omega, by omega⟩) (show H165.2.2.1 73 0 (n) = q from by omega) (show H165.2.2.1 74 0 (n) = 0 from by omega) (show H165.2.2.1 83 0 (n) ≤ 3 * q from by omega) (show H165.2.2.1 72 0 (n) = H0.2.2.1 72 0 (n) from by omega) (show H165.2.2.1 56 0 (H0.2.2.1 72 0 (n)) = H0.2.2.1 56 0 (H0.2.2.1 72 0 (n)) from by omega) (show 0 ≤ (c) ∧ (c) < 300 from ⟨by omega, by omega⟩) (show (c) < H165.1 11 12 0 from by omega) (show H165.2.2.1 80 0 (n) = 0 from by omega) (show H0.1 11 19 0 ≤ H165.1 11 19 0 from by omega) hT166 hE167 k169 k170 k168 k171 k172 k173 k174 k175 k176 k177 rfl
      · have c188 : ¬ ((16 : Int) ≤ k) := hc
        clear hc
        refine J.run0 9 rfl ?_
        try dsimp only
        refine J.inv rfl rfl rfl rfl rfl rfl jDr rfl rfl rfl rfl rfl (g_powerOf (n := k) hT  (show 0 ≤ (k) ∧ (k) < 16 from ⟨by omega, by omega⟩)) ?_
        rintro v w H ⟨rfl, rfl, x189, rfl, r190⟩
        have r190' : x189 = gpow H ((k)) ∧ 0 ≤ x189 ∧ x189 ≤ 40320000 := r190
        have rL_powerOf := r190'
        try dsimp only [Option.toList, List.append, List.cons_append, List.nil_append]
        refine J.run 1 rfl (show 0 ≤ ((16 : Int) * c) + k ∧ ((16 : Int) * c) + k < 4800 from ⟨by omega, by omega⟩) ?_
        try dsimp only
        refine J.gn fun H191 hH191 => ?_
        have hT192 : gT H191 := by rw [hH191]; exact gT.upd hT (show 0 ≤ x189 ∧ x189 ≤ 40320000 from ⟨by omega, by omega⟩) (fun z => absurd z (by decide))
        have hE193 : jEx [19, 12, 48, 56, 57] [60, 56, 59, 58, 55, 57, 99, 100, 82, 80, 114, 115, 105, 71, 70, 68, 67, 65, 63, 64, 66, 112, 113, 108, 101, 102, 103, 104, 83, 73, 74, 84, 89, 88, 93, 94, 86, 91, 92, 85, 87, 90] H191 H0 := by rw [hH191]; exact jEx.row hE (by decide)
        have k194 : gP H191 := by rw [hH191]; exact k0gP
        have k195 : gX H191 := by rw [hH191]; exact k0gX
        have k196 : gL H191 := by rw [hH191]; exact k0gL
        have k197 : gZ H191 := by rw [hH191]; exact k0gZ
        have k198 : gQ H191 := by rw [hH191]; exact k0gQ
        have k199 : gB H191 := by rw [hH191]; exact k0gB
        have k200 : gK H191 := by rw [hH191]; exact k0gK
        have k201 : gN H191 := by rw [hH191]; exact k0gN
        have k202 : gW H191 (H191.1 11 19 0) := by rw [hH191]; exact k0gW
        have k203 : gU H191 u := by rw [hH191]; exact k0gU
        have g204 : H191.2.2.1 60 0 (((16 : Int) * c) + k) = x189 := by subst hH191; exact if_pos rfl
        have g205 : H191.1 11 12 0 = H.1 11 12 0 := by subst hH191; rfl
        have g206 : H191.1 11 19 0 = H.1 11 19 0 := by subst hH191; rfl
        have g207 : H191.2.2.1 58 0 (c) = H.2.2.1 58 0 (c) := by subst hH191; rfl
        have g208 : H191.2.2.1 73 0 (n) = H.2.2.1 73 0 (n) := by subst hH191; rfl
        have g209 : H191.2.2.1 74 0 (n) = H.2.2.1 74 0 (n) := by subst hH191; rfl
        have g210 : H191.2.2.1 83 0 (n) = H.2.2.1 83 0 (n) := by subst hH191; rfl
        have g211 : H191.2.2.1 72 0 (n) = H.2.2.1 72 0 (n) := by subst hH191; rfl
        have g212 : H191.2.2.1 56 0 (H0.2.2.1 72 0 (n)) = H.2.2.1 56 0 (H0.2.2.1 72 0 (n)) := by subst hH191; rfl
        have g213 : H191.2.2.1 80 0 (n) = H.2.2.1 80 0 (n) := by subst hH191; rfl
        clear hH191
        refine J.run0 2 rfl ?_
        try dsimp only
        exact ih (c) (k + 1) H191 _ (show 16 - (k + 1) < _ by omega) (show 0 ≤ (k + 1) ∧ (k + 1) ≤ 16 from ⟨by omega, by omega⟩) (show H191.2.2.1 58 0 ((c)) = 0 from by omega) (show H191.2.2.1 73 0 (n) = q from by omega) (show H191.2.2.1 74 0 (n) = 0 from by omega) (show H191.2.2.1 83 0 (n) ≤ 3 * q from by omega) (show H191.2.2.1 72 0 (n) = H0.2.2.1 72 0 (n) from by omega) (show H191.2.2.1 56 0 (H0.2.2.1 72 0 (n)) = H0.2.2.1 56 0 (H0.2.2.1 72 0 (n)) from by omega) (show 0 ≤ (c) ∧ (c) < 300 from ⟨by omega, by omega⟩) (show (c) < H191.1 11 12 0 from by omega) (show H191.2.2.1 80 0 (n) = 0 from by omega) (show H0.1 11 19 0 ≤ H191.1 11 19 0 from by omega) hT192 hE193 k194 k195 k196 k197 k198 k199 k200 k201 k202 k203 rfl
-- 
theorem g_begins {n q u : Int} {H : jH} (hT : gT H) (k0gP : gP H) (k0gX : gX H) (k0gL : gL H) (k0gZ : gZ H) (k0gQ : gQ H) (k0gB : gB H) (k0gK : gK H) (k0gN : gN H) (k0gW : gW H (H.1 11 19 0)) (k0gU : gU H u) (hp0 : 0 ≤ n ∧ n < 16) (hp1 : 0 ≤ q ∧ q < 32) (hp2 : H.2.2.1 83 0 (n) ≤ 3 * q) (hp3 : H.2.2.1 80 0 (n) = 0) (hp4 : n < u) : J true (d + 5) 140 w (0, jargs 0 [jT, .inl n, .inl q], [], H) (jN fun v w' H' => w' = w ∧ gT H' ∧ jEx [19, 12, 48, 56, 57] [60, 56, 59, 58, 55, 57, 99, 100, 82, 80, 114, 115, 105, 71, 70, 68, 67, 65, 63, 64, 66, 112, 113, 108, 101, 102, 103, 104, 83, 73, 74, 84, 89, 88, 93, 94, 86, 91, 92, 85, 87, 90] H' H ∧ gP H' ∧ gX H' ∧ gL H' ∧ gZ H' ∧ gQ H' ∧ gB H' ∧ gK H' ∧ gN H' ∧ gW H' (H'.1 11 19 0) ∧ gU H' u ∧ (192 * H.2.2.1 56 0 (H.2.2.1 72 0 (n)) + 6 * q ≤ 192 * H'.2.2.1 56 0 (H'.2.2.1 72 0 (n)) + 6 * H'.2.2.1 73 0 (n) + 2 * H'.2.2.1 74 0 (n) + H'.2.2.1 115 0 (n)) ∧ (H.1 11 19 0 ≤ H'.1 11 19 0) ∧ v = none) := by
  have qs : 0 ≤ H.2.2.1 74 0 (n) ∧ H.2.2.1 74 0 (n) ≤ 2 := hT.1 74 n
  have ql : 0 ≤ H.2.2.1 72 0 (n) ∧ H.2.2.1 72 0 (n) ≤ 299 := hT.1 72 n
  have hE : jEx [19, 12, 48, 56, 57] [60, 56, 59, 58, 55, 57, 99, 100, 82, 80, 114, 115, 105, 71, 70, 68, 67, 65, 63, 64, 66, 112, 113, 108, 101, 102, 103, 104, 83, 73, 74, 84, 89, 88, 93, 94, 86, 91, 92, 85, 87, 90] H H := jEx.refl _ _ _
  refine J.run 5 rfl (show 0 ≤ n ∧ n < 16 from ⟨by omega, by omega⟩) ?_
  try dsimp only
  refine J.gn fun H214 hH214 => ?_
  have hT215 : gT H214 := by rw [hH214]; exact gT.upd hT (show 0 ≤ q ∧ q ≤ 31 from ⟨by omega, by omega⟩) (fun z => absurd z (by decide))
  have hE216 : jEx [19, 12, 48, 56, 57] [60, 56, 59, 58, 55, 57, 99, 100, 82, 80, 114, 115, 105, 71, 70, 68, 67, 65, 63, 64, 66, 112, 113, 108, 101, 102, 103, 104, 83, 73, 74, 84, 89, 88, 93, 94, 86, 91, 92, 85, 87, 90] H214 H := by rw [hH214]; exact jEx.row hE (by decide)
  have k217 : gP H214 := by rw [hH214]; exact k0gP
  have k218 : gX H214 := by rw [hH214]; exact k0gX
  have k219 : gL H214 := by rw [hH214]; exact k0gL
  have k220 : gZ H214 := by rw [hH214]; exact k0gZ
  have k221 : gQ H214 := by rw [hH214]; exact k0gQ
  have k222 : gB H214 := by rw [hH214]; exact k0gB
  have k223 : gK H214 := by rw [hH214]; exact k0gK
  have k224 : gN H214 := by rw [hH214]; exact k0gN
  have k225 : gW H214 (H214.1 11 19 0) := by rw [hH214]; exact gWm.round k0gW (by omega)
  have k226 : gU H214 u := by rw [hH214]; exact k0gU
  have g227 : H214.2.2.1 73 0 (n) = q := by subst hH214; exact if_pos rfl
  have g228 : H214.1 11 12 0 = H.1 11 12 0 := by subst hH214; rfl
  have g229 : H214.1 11 19 0 = H.1 11 19 0 := by subst hH214; rfl
  have g230 : H214.2.2.1 83 0 (n) = H.2.2.1 83 0 (n) := by subst hH214; rfl
  have g231 : H214.2.2.1 74 0 (n) = H.2.2.1 74 0 (n) := by subst hH214; rfl
  have g233 : H214.2.2.1 72 0 (n) = H.2.2.1 72 0 (n) := by subst hH214; rfl
  have g234 : H214.2.2.1 56 0 (H.2.2.1 72 0 (n)) = H.2.2.1 56 0 (H.2.2.1 72 0 (n)) := by subst hH214; rfl
  have g235 : H214.2.2.1 80 0 (n) = H.2.2.1 80 0 (n) := by subst hH214; rfl
  clear hH214
  refine J.run 5 rfl (show 0 ≤ n ∧ n < 16 from ⟨by omega, by omega⟩) ?_
  try dsimp only
  refine J.gn fun H236 hH236 => ?_
  have hT237 : gT H236 := by rw [hH236]; exact gT.upd hT215 (show 0 ≤ (0 : Int) ∧ (0 : Int) ≤ 2 from ⟨by omega, by omega⟩) (fun z => absurd z (by decide))
  have hE238 : jEx [19, 12, 48, 56, 57] [60, 56, 59, 58, 55, 57, 99, 100, 82, 80, 114, 115, 105, 71, 70, 68, 67, 65, 63, 64, 66, 112, 113, 108, 101, 102, 103, 104, 83, 73, 74, 84, 89, 88, 93, 94, 86, 91, 92, 85, 87, 90] H236 H := by rw [hH236]; exact jEx.row hE216 (by decide)
  have k239 : gP H236 := by rw [hH236]; exact k217
  have k240 : gX H236 := by rw [hH236]; exact k218
  have k241 : gL H236 := by rw [hH236]; exact k219
  have k242 : gZ H236 := by rw [hH236]; exact k220
  have k243 : gQ H236 := by rw [hH236]; exact k221
  have k244 : gB H236 := by rw [hH236]; exact k222
  have k245 : gK H236 := by rw [hH236]; exact k223
  have k246 : gN H236 := by rw [hH236]; exact k224
  have k247 : gW H236 (H236.1 11 19 0) := by rw [hH236]; exact gWm.step k225 (by omega)
  have k248 : gU H236 u := by rw [hH236]; exact k226
  have g249 : H236.2.2.1 74 0 (n) = (0 : Int) := by subst hH236; exact if_pos rfl
  have g250 : H236.1 11 12 0 = H214.1 11 12 0 := by subst hH236; rfl
  have g251 : H236.1 11 19 0 = H214.1 11 19 0 := by subst hH236; rfl
  have g252 : H236.2.2.1 73 0 (n) = H214.2.2.1 73 0 (n) := by subst hH236; rfl
  have g253 : H236.2.2.1 83 0 (n) = H214.2.2.1 83 0 (n) := by subst hH236; rfl
  have g255 : H236.2.2.1 72 0 (n) = H214.2.2.1 72 0 (n) := by subst hH236; rfl
  have g256 : H236.2.2.1 56 0 (H.2.2.1 72 0 (n)) = H214.2.2.1 56 0 (H.2.2.1 72 0 (n)) := by subst hH236; rfl
  have g257 : H236.2.2.1 80 0 (n) = H214.2.2.1 80 0 (n) := by subst hH236; rfl
  clear hH236
  refine J.run 5 rfl (show ((0 : Int) = 0 ∨ (0 : Int) = 1) ∧ 0 ≤ n ∧ n < 16 from ⟨by omega, by omega, by omega⟩) ?_
  try dsimp only
  refine J.gn fun H258 hH258 => ?_
  have hT259 : gT H258 := by rw [hH258]; exact gT.upd hT237 (show 0 ≤ (0 : Int) ∧ (0 : Int) ≤ 1 from ⟨by omega, by omega⟩) (fun z => absurd z (by decide))
  have hE260 : jEx [19, 12, 48, 56, 57] [60, 56, 59, 58, 55, 57, 99, 100, 82, 80, 114, 115, 105, 71, 70, 68, 67, 65, 63, 64, 66, 112, 113, 108, 101, 102, 103, 104, 83, 73, 74, 84, 89, 88, 93, 94, 86, 91, 92, 85, 87, 90] H258 H := by rw [hH258]; exact jEx.row hE238 (by decide)
  have k261 : gP H258 := by rw [hH258]; exact k239
  have k262 : gX H258 := by rw [hH258]; exact k240
  have k263 : gL H258 := by rw [hH258]; exact k241
  have k264 : gZ H258 := by rw [hH258]; exact k242
  have k265 : gQ H258 := by rw [hH258]; exact k243
  have k266 : gB H258 := by rw [hH258]; exact k244
  have k267 : gK H258 := by rw [hH258]; exact k245
  have k268 : gN H258 := by rw [hH258]; exact k246
  have k269 : gW H258 (H258.1 11 19 0) := by rw [hH258]; exact k247
  have k270 : gU H258 u := by rw [hH258]; exact k248
  have g271 : H258.2.2.1 115 0 (n) = (0 : Int) := by subst hH258; exact if_pos rfl
  have g272 : H258.1 11 12 0 = H236.1 11 12 0 := by subst hH258; rfl
  have g273 : H258.1 11 19 0 = H236.1 11 19 0 := by subst hH258; rfl
  have g274 : H258.2.2.1 74 0 (n) = H236.2.2.1 74 0 (n) := by subst hH258; rfl
  have g275 : H258.2.2.1 73 0 (n) = H236.2.2.1 73 0 (n) := by subst hH258; rfl
  have g276 : H258.2.2.1 83 0 (n) = H236.2.2.1 83 0 (n) := by subst hH258; rfl
  have g277 : H258.2.2.1 72 0 (n) = H236.2.2.1 72 0 (n) := by subst hH258; rfl
  have g278 : H258.2.2.1 56 0 (H.2.2.1 72 0 (n)) = H236.2.2.1 56 0 (H.2.2.1 72 0 (n)) := by subst hH258; rfl
  have g279 : H258.2.2.1 80 0 (n) = H236.2.2.1 80 0 (n) := by subst hH258; rfl
  clear hH258
  refine J.run0 2 rfl ?_
  try dsimp only
  refine J.inv rfl rfl rfl rfl rfl rfl jDr rfl rfl rfl rfl rfl (g_heightE (n := n) hT259  (show 0 ≤ (n) ∧ (n) < 16 from ⟨by omega, by omega⟩)) ?_
  rintro v w H258 ⟨rfl, rfl, x280, rfl, r281⟩
  have r281' : x280 = H258.2.2.1 56 0 (H258.2.2.1 72 0 ((n))) + 1 ∧ 1 ≤ x280 ∧ x280 ≤ 301 := r281
  have rL_heightE := r281'
  try dsimp only [Option.toList, List.append, List.cons_append, List.nil_append]
  refine J.run0 1 rfl ?_
  try dsimp only
  refine J.icmp rfl rfl rfl ⟨(show -2147483648 ≤ x280 ∧ x280 ≤ 2147483647 from ⟨by omega, by omega⟩), (show -2147483648 ≤ (120 : Int) ∧ (120 : Int) ≤ 2147483647 from ⟨by omega, by omega⟩)⟩ (fun hc => ?_) (fun hc => ?_)
  · have c282 : (120 : Int) < x280 := hc
    clear hc
    exact J.retv rfl rfl rfl ⟨_, rfl, rfl, hT259, hE260, k261, k262, k263, k264, k265, k266, k267, k268, k269, k270, (show 192 * H.2.2.1 56 0 (H.2.2.1 72 0 (n)) + 6 * q ≤ 192 * H258.2.2.1 56 0 (H258.2.2.1 72 0 (n)) + 6 * H258.2.2.1 73 0 (n) + 2 * H258.2.2.1 74 0 (n) + H258.2.2.1 115 0 (n) by have y1 : 0 ≤ H258.2.2.1 74 0 (n) ∧ H258.2.2.1 74 0 (n) ≤ 2 := hT259.1 74 n; have y2 : 0 ≤ H258.2.2.1 115 0 (n) ∧ H258.2.2.1 115 0 (n) ≤ 1 := hT259.1 115 n; have y3 : 0 ≤ H258.2.2.1 73 0 (n) ∧ H258.2.2.1 73 0 (n) ≤ 31 := hT259.1 73 n; rw [show H258.2.2.1 72 0 (n) = H.2.2.1 72 0 (n) by omega]; omega), (show H.1 11 19 0 ≤ H258.1 11 19 0 by omega), rfl⟩
  · have c283 : ¬ ((120 : Int) < x280) := hc
    clear hc
    refine J.run0 3 rfl ?_
    try dsimp only
    refine J.inv rfl rfl rfl rfl rfl rfl jDr rfl rfl rfl rfl rfl (g_proposer (n := n) (r := q) hT259 k265 (show 0 ≤ (n) ∧ (n) < 16 from ⟨by omega, by omega⟩) (show 0 ≤ (q) ∧ (q) < 32 from ⟨by omega, by omega⟩)) ?_
    rintro v w H258 ⟨rfl, rfl, x284, rfl, r285⟩
    have r285' : (-1) ≤ x284 ∧ x284 ≤ 15 := r285
    have rL_proposer := r285'
    try dsimp only [Option.toList, List.append, List.cons_append, List.nil_append]
    refine J.run0 1 rfl ?_
    try dsimp only
    refine J.icmp rfl rfl rfl ⟨(show -2147483648 ≤ x284 ∧ x284 ≤ 2147483647 from ⟨by omega, by omega⟩), (show -2147483648 ≤ n ∧ n ≤ 2147483647 from ⟨by omega, by omega⟩)⟩ (fun hc => ?_) (fun hc => ?_)
    · have c286 : x284 = n := hc
      clear hc
      have f287 : -1 ≤ H258.2.2.1 77 0 (n) ∧ H258.2.2.1 77 0 (n) ≤ 299 := hT259.1 77 (n)
      have f288 : 1 ≤ H258.1 11 12 0 ∧ H258.1 11 12 0 ≤ 300 := hT259.2.1 12
      have f287b : H258.2.2.1 77 0 (n) < H258.1 11 12 0 := hT259.2.2.1 77 (n) rfl
      refine J.run 4 rfl (show 0 ≤ n ∧ n < 16 from ⟨by omega, by omega⟩) ?_
      try dsimp only
      refine J.ifc rfl rfl rfl (show -2147483648 ≤ H258.2.2.1 77 0 (n) ∧ H258.2.2.1 77 0 (n) ≤ 2147483647 from ⟨by omega, by omega⟩) (fun hc => ?_) (fun hc => ?_)
      · have c289 : H258.2.2.1 77 0 (n) < (0 : Int) := hc
        clear hc
        have f290 : 0 ≤ H258.1 11 19 0 ∧ H258.1 11 19 0 ≤ 6000 := hT259.2.1 19
        refine J.run0 3 rfl ?_
        try dsimp only
        refine J.icmp rfl rfl rfl ⟨(show -2147483648 ≤ H258.1 11 19 0 ∧ H258.1 11 19 0 ≤ 2147483647 from ⟨by omega, by omega⟩), (show -2147483648 ≤ (6000 : Int) ∧ (6000 : Int) ≤ 2147483647 from ⟨by omega, by omega⟩)⟩ (fun hc => ?_) (fun hc => ?_)
        · have c291 : H258.1 11 19 0 = (6000 : Int) := hc
          clear hc
          exact J.retv rfl rfl rfl ⟨_, rfl, rfl, hT259, hE260, k261, k262, k263, k264, k265, k266, k267, k268, k269, k270, (show 192 * H.2.2.1 56 0 (H.2.2.1 72 0 (n)) + 6 * q ≤ 192 * H258.2.2.1 56 0 (H258.2.2.1 72 0 (n)) + 6 * H258.2.2.1 73 0 (n) + 2 * H258.2.2.1 74 0 (n) + H258.2.2.1 115 0 (n) by have y1 : 0 ≤ H258.2.2.1 74 0 (n) ∧ H258.2.2.1 74 0 (n) ≤ 2 := hT259.1 74 n; have y2 : 0 ≤ H258.2.2.1 115 0 (n) ∧ H258.2.2.1 115 0 (n) ≤ 1 := hT259.1 115 n; have y3 : 0 ≤ H258.2.2.1 73 0 (n) ∧ H258.2.2.1 73 0 (n) ≤ 31 := hT259.1 73 n; rw [show H258.2.2.1 72 0 (n) = H.2.2.1 72 0 (n) by omega]; omega), (show H.1 11 19 0 ≤ H258.1 11 19 0 by omega), rfl⟩
        · have c292 : ¬ (H258.1 11 19 0 = (6000 : Int)) := hc
          clear hc
          refine J.run0 3 rfl ?_
          try dsimp only
          refine J.icmp rfl rfl rfl ⟨(show -2147483648 ≤ H258.1 11 12 0 ∧ H258.1 11 12 0 ≤ 2147483647 from ⟨by omega, by omega⟩), (show -2147483648 ≤ (300 : Int) ∧ (300 : Int) ≤ 2147483647 from ⟨by omega, by omega⟩)⟩ (fun hc => ?_) (fun hc => ?_)
          · have c293 : ¬ (H258.1 11 12 0 = (300 : Int)) := hc
            clear hc
            have f294 : 0 ≤ H258.2.2.1 72 0 (n) ∧ H258.2.2.1 72 0 (n) ≤ 299 := hT259.1 72 (n)
            have f294b : H258.2.2.1 72 0 (n) < H258.1 11 12 0 := hT259.2.2.1 72 (n) rfl
            refine J.run 6 rfl (show 0 ≤ n ∧ n < 16 from ⟨by omega, by omega⟩) ?_
            try dsimp only
            have e72 : H258.2.2.1 72 0 (n) = H.2.2.1 72 0 (n) := by omega
            refine J.inv rfl rfl rfl rfl rfl rfl jDr rfl rfl rfl rfl rfl (g_made (p := H258.2.2.1 72 0 (n)) (q := n) hT259 k261 (show 0 ≤ (H258.2.2.1 72 0 (n)) ∧ (H258.2.2.1 72 0 (n)) < 300 from ⟨by omega, by omega⟩) (show (H258.2.2.1 72 0 (n)) < H258.1 11 12 0 from by omega) (show 0 ≤ (n) ∧ (n) < 16 from ⟨by omega, by omega⟩) (show H258.1 11 12 0 < 300 from by omega)) ?_
            rintro v w H297 ⟨rfl, hT298, ehE299, k300, x295, rfl, r296⟩
            have hE299 := jEx.trans ehE299 hE260 (by decide) (by decide)
            have r296' : x295 = H258.1 11 12 0 ∧ H297.1 11 12 0 = H258.1 11 12 0 + 1 ∧ H297.2.2.1 58 0 (x295) = 0 ∧ H297.2.2.1 56 0 (x295) = H258.2.2.1 56 0 ((H258.2.2.1 72 0 (n))) + 1 ∧ H297.2.2.1 55 0 (x295) = (H258.2.2.1 72 0 (n)) ∧ H297.2.2.1 56 0 ((H258.2.2.1 72 0 (n))) = H258.2.2.1 56 0 ((H258.2.2.1 72 0 (n))) := r296
            have k301 : gX H297 := gX.ex k262 ehE299 (by decide)
            have k302 : gL H297 := gL.ex k263 ehE299 (by decide)
            have k303 : gZ H297 := gZ.ex k264 ehE299 (by decide)
            have k304 : gQ H297 := gQ.ex k265 ehE299 (by decide)
            have k305 : gB H297 := gB.ex k266 ehE299 (by decide)
            have k306 : gK H297 := gK.ex k267 ehE299 (by decide)
            have k307 : gN H297 := gN.ex k268 ehE299 (by decide)
            have k308 : gW H297 (H297.1 11 19 0) := gWm.ex k269 ehE299 (by decide)
            have k309 : gU H297 u := gU.ex k270 ehE299 (by decide)
            have g310 : H297.1 11 19 0 = H258.1 11 19 0 := ehE299.v 19 (by decide)
            have g311 : H297.2.2.1 115 0 (n) = H258.2.2.1 115 0 (n) := congrFun (ehE299.r 115 (by decide)) _
            have g312 : H297.2.2.1 74 0 (n) = H258.2.2.1 74 0 (n) := congrFun (ehE299.r 74 (by decide)) _
            have g313 : H297.2.2.1 73 0 (n) = H258.2.2.1 73 0 (n) := congrFun (ehE299.r 73 (by decide)) _
            have g314 : H297.2.2.1 83 0 (n) = H258.2.2.1 83 0 (n) := congrFun (ehE299.r 83 (by decide)) _
            have g315 : H297.2.2.1 72 0 (n) = H258.2.2.1 72 0 (n) := congrFun (ehE299.r 72 (by decide)) _
            have g316 : H297.2.2.1 80 0 (n) = H258.2.2.1 80 0 (n) := congrFun (ehE299.r 80 (by decide)) _
            have g317 : H297.2.2.1 77 0 (n) = H258.2.2.1 77 0 (n) := congrFun (ehE299.r 77 (by decide)) _
            have rL_made := r296'
            have eL_made := ehE299
            try dsimp only [Option.toList, List.append, List.cons_append, List.nil_append]
            have hq := rL_made.2.2.2.2.2
            rw [e72] at hq
            refine J.run 6 rfl (show 0 ≤ n ∧ n < 16 from ⟨by omega, by omega⟩) ?_
            try dsimp only
            have f318 : 1 ≤ H297.1 11 12 0 ∧ H297.1 11 12 0 ≤ 300 := hT298.2.1 12
            refine J.inv rfl rfl rfl rfl rfl rfl jDr rfl rfl rfl rfl rfl (g_state (b := H297.2.2.1 72 0 (n)) hT298 k300 k301 k302 (show 0 ≤ (H297.2.2.1 72 0 (n)) ∧ (H297.2.2.1 72 0 (n)) < 300 from ⟨by omega, by omega⟩) (show (H297.2.2.1 72 0 (n)) < H297.1 11 12 0 from by omega)) ?_
            rintro v w H321 ⟨rfl, hT322, ehE323, k324, k325, k326, rfl⟩
            have hE323 := jEx.trans ehE323 hE299 (by decide) (by decide)
            have k327 : gZ H321 := gZ.ex k303 ehE323 (by decide)
            have k328 : gQ H321 := gQ.ex k304 ehE323 (by decide)
            have k329 : gB H321 := gB.ex k305 ehE323 (by decide)
            have k330 : gK H321 := gK.ex k306 ehE323 (by decide)
            have k331 : gN H321 := gN.ex k307 ehE323 (by decide)
            have k332 : gW H321 (H321.1 11 19 0) := gWm.ex k308 ehE323 (by decide)
            have k333 : gU H321 u := gU.ex k309 ehE323 (by decide)
            have g334 : H321.1 11 12 0 = H297.1 11 12 0 := ehE323.v 12 (by decide)
            have g335 : H321.1 11 19 0 = H297.1 11 19 0 := ehE323.v 19 (by decide)
            have g336 : H321.2.2.1 115 0 (n) = H297.2.2.1 115 0 (n) := congrFun (ehE323.r 115 (by decide)) _
            have g337 : H321.2.2.1 74 0 (n) = H297.2.2.1 74 0 (n) := congrFun (ehE323.r 74 (by decide)) _
            have g338 : H321.2.2.1 73 0 (n) = H297.2.2.1 73 0 (n) := congrFun (ehE323.r 73 (by decide)) _
            have g339 : H321.2.2.1 83 0 (n) = H297.2.2.1 83 0 (n) := congrFun (ehE323.r 83 (by decide)) _
            have g340 : H321.2.2.1 72 0 (n) = H297.2.2.1 72 0 (n) := congrFun (ehE323.r 72 (by decide)) _
            have g341 : H321.2.2.1 80 0 (n) = H297.2.2.1 80 0 (n) := congrFun (ehE323.r 80 (by decide)) _
            have g342 : H321.2.2.1 77 0 (n) = H297.2.2.1 77 0 (n) := congrFun (ehE323.r 77 (by decide)) _
            have g343 : H321.2.2.1 58 0 (x295) = H297.2.2.1 58 0 (x295) := congrFun (ehE323.r 58 (by decide)) _
            have g344 : H321.2.2.1 56 0 (x295) = H297.2.2.1 56 0 (x295) := congrFun (ehE323.r 56 (by decide)) _
            have g345 : H321.2.2.1 55 0 (x295) = H297.2.2.1 55 0 (x295) := congrFun (ehE323.r 55 (by decide)) _
            have g346 : H321.2.2.1 56 0 (H258.2.2.1 72 0 (n)) = H297.2.2.1 56 0 (H258.2.2.1 72 0 (n)) := congrFun (ehE323.r 56 (by decide)) _
            have g347 : H321.2.2.1 56 0 (H.2.2.1 72 0 (n)) = H297.2.2.1 56 0 (H.2.2.1 72 0 (n)) := congrFun (ehE323.r 56 (by decide)) _
            have eL_state := ehE323
            try dsimp only [Option.toList, List.append, List.cons_append, List.nil_append]
            refine J.run0 2 rfl ?_
            try dsimp only
            exact (g_begins_l1 (H0 := H) (n := n) (q := q) (u := u)  hp0 hp1 hp2 hp3 hp4 ((16 - ((0 : Int)) : Int).toNat + 1)) (x295) ((0 : Int)) H321 _ (show 16 - ((0 : Int)) < _ by omega) (show 0 ≤ ((0 : Int)) ∧ ((0 : Int)) ≤ 16 from ⟨by omega, by omega⟩) (show H321.2.2.1 58 0 ((x295)) = 0 from by omega) (show H321.2.2.1 73 0 (n) = q from by omega) (show H321.2.2.1 74 0 (n) = 0 from by omega) (show H321.2.2.1 83 0 (n) ≤ 3 * q from by omega) (show H321.2.2.1 72 0 (n) = H.2.2.1 72 0 (n) from by omega) (show H321.2.2.1 56 0 (H.2.2.1 72 0 (n)) = H.2.2.1 56 0 (H.2.2.1 72 0 (n)) from by omega) (show 0 ≤ (x295) ∧ (x295) < 300 from ⟨by omega, by omega⟩) (show (x295) < H321.1 11 12 0 from by omega) (show H321.2.2.1 80 0 (n) = 0 from by omega) (show H.1 11 19 0 ≤ H321.1 11 19 0 from by omega) hT322 hE323 k324 k325 k326 k327 k328 k329 k330 k331 k332 k333 rfl
          · have c348 : ¬ (¬ (H258.1 11 12 0 = (300 : Int))) := hc
            clear hc
            exact J.retv rfl rfl rfl ⟨_, rfl, rfl, hT259, hE260, k261, k262, k263, k264, k265, k266, k267, k268, k269, k270, (show 192 * H.2.2.1 56 0 (H.2.2.1 72 0 (n)) + 6 * q ≤ 192 * H258.2.2.1 56 0 (H258.2.2.1 72 0 (n)) + 6 * H258.2.2.1 73 0 (n) + 2 * H258.2.2.1 74 0 (n) + H258.2.2.1 115 0 (n) by have y1 : 0 ≤ H258.2.2.1 74 0 (n) ∧ H258.2.2.1 74 0 (n) ≤ 2 := hT259.1 74 n; have y2 : 0 ≤ H258.2.2.1 115 0 (n) ∧ H258.2.2.1 115 0 (n) ≤ 1 := hT259.1 115 n; have y3 : 0 ≤ H258.2.2.1 73 0 (n) ∧ H258.2.2.1 73 0 (n) ≤ 31 := hT259.1 73 n; rw [show H258.2.2.1 72 0 (n) = H.2.2.1 72 0 (n) by omega]; omega), (show H.1 11 19 0 ≤ H258.1 11 19 0 by omega), rfl⟩
      · have c349 : ¬ (H258.2.2.1 77 0 (n) < (0 : Int)) := hc
        clear hc
        have f350 : -1 ≤ H258.2.2.1 78 0 (n) ∧ H258.2.2.1 78 0 (n) ≤ 31 := hT259.1 78 (n)
        refine J.run 12 rfl ⟨(show 0 ≤ n ∧ n < 16 from ⟨by omega, by omega⟩), (show 0 ≤ n ∧ n < 16 from ⟨by omega, by omega⟩)⟩ ?_
        try dsimp only
        refine J.inv rfl rfl rfl rfl rfl rfl jDr rfl rfl rfl rfl rfl (g_sent (n := n) (kind := (0 : Int)) (r := q) (block := H258.2.2.1 77 0 (n)) (before := H258.2.2.1 78 0 (n)) (u := u) hT259 k266 k267 k268 k270 (show 0 ≤ (n) ∧ (n) < 16 from ⟨by omega, by omega⟩) (show 0 ≤ ((0 : Int)) ∧ ((0 : Int)) ≤ 2 from ⟨by omega, by omega⟩) (show 0 ≤ (q) ∧ (q) < 32 from ⟨by omega, by omega⟩) (show -1 ≤ (H258.2.2.1 77 0 (n)) ∧ (H258.2.2.1 77 0 (n)) < 300 from ⟨by omega, by omega⟩) (show (H258.2.2.1 77 0 (n)) < H258.1 11 12 0 from by omega) (show -1 ≤ (H258.2.2.1 78 0 (n)) ∧ (H258.2.2.1 78 0 (n)) < 32 from ⟨by omega, by omega⟩) k269 (show H258.2.2.1 79 0 ((n)) = 0 → (q) = H258.2.2.1 73 0 ((n)) from by omega) (show H258.2.2.1 79 0 ((n)) = 0 → H258.2.2.1 83 0 ((n)) ≤ 3 * H258.2.2.1 73 0 ((n)) + H258.2.2.1 74 0 ((n)) from by omega) (show H258.2.2.1 80 0 ((n)) = 0 from by omega) (show (n) < (u) from by omega)) ?_
        rintro v w H353 ⟨rfl, hT354, ehE355, k356, k357, k358, k359, p360, p361, x351, rfl, r352⟩
        have hE355 := jEx.trans ehE355 hE260 (by decide) (by decide)
        have p360' : gW H353 (H353.1 11 19 0) := p360
        have p361' : H258.1 11 19 0 ≤ H353.1 11 19 0 := p361
        have r352' : (-1) ≤ x351 ∧ x351 ≤ 5999 := r352
        have pL_sent_0 := p360'
        have pL_sent_1 := p361'
        have k362 : gP H353 := gP.ex k261 ehE355 (by decide)
        have k363 : gX H353 := gX.ex k262 ehE355 (by decide)
        have k364 : gL H353 := gL.ex k263 ehE355 (by decide)
        have k365 : gZ H353 := gZ.ex k264 ehE355 (by decide)
        have k366 : gQ H353 := gQ.ex k265 ehE355 (by decide)
        have g367 : H353.1 11 12 0 = H258.1 11 12 0 := ehE355.v 12 (by decide)
        have g368 : H353.2.2.1 115 0 (n) = H258.2.2.1 115 0 (n) := congrFun (ehE355.r 115 (by decide)) _
        have g369 : H353.2.2.1 74 0 (n) = H258.2.2.1 74 0 (n) := congrFun (ehE355.r 74 (by decide)) _
        have g370 : H353.2.2.1 73 0 (n) = H258.2.2.1 73 0 (n) := congrFun (ehE355.r 73 (by decide)) _
        have g371 : H353.2.2.1 72 0 (n) = H258.2.2.1 72 0 (n) := congrFun (ehE355.r 72 (by decide)) _
        have g372 : H353.2.2.1 56 0 (H.2.2.1 72 0 (n)) = H258.2.2.1 56 0 (H.2.2.1 72 0 (n)) := congrFun (ehE355.r 56 (by decide)) _
        have g373 : H353.2.2.1 77 0 (n) = H258.2.2.1 77 0 (n) := congrFun (ehE355.r 77 (by decide)) _
        have g374 : H353.2.2.1 78 0 (n) = H258.2.2.1 78 0 (n) := congrFun (ehE355.r 78 (by decide)) _
        have rL_sent := r352'
        have eL_sent := ehE355
        try dsimp only [Option.toList, List.append, List.cons_append, List.nil_append]
        refine J.run0 1 rfl ?_
        try dsimp only
        exact J.retv rfl rfl rfl ⟨_, rfl, rfl, hT354, hE355, k362, k363, k364, k365, k366, k356, k357, k358, p360, k359, (show 192 * H.2.2.1 56 0 (H.2.2.1 72 0 (n)) + 6 * q ≤ 192 * H353.2.2.1 56 0 (H353.2.2.1 72 0 (n)) + 6 * H353.2.2.1 73 0 (n) + 2 * H353.2.2.1 74 0 (n) + H353.2.2.1 115 0 (n) by have y1 : 0 ≤ H353.2.2.1 74 0 (n) ∧ H353.2.2.1 74 0 (n) ≤ 2 := hT354.1 74 n; have y2 : 0 ≤ H353.2.2.1 115 0 (n) ∧ H353.2.2.1 115 0 (n) ≤ 1 := hT354.1 115 n; have y3 : 0 ≤ H353.2.2.1 73 0 (n) ∧ H353.2.2.1 73 0 (n) ≤ 31 := hT354.1 73 n; rw [show H353.2.2.1 72 0 (n) = H.2.2.1 72 0 (n) by omega]; omega), (show H.1 11 19 0 ≤ H353.1 11 19 0 by omega), rfl⟩
    · have c375 : ¬ (x284 = n) := hc
      clear hc
      exact J.retv rfl rfl rfl ⟨_, rfl, rfl, hT259, hE260, k261, k262, k263, k264, k265, k266, k267, k268, k269, k270, (show 192 * H.2.2.1 56 0 (H.2.2.1 72 0 (n)) + 6 * q ≤ 192 * H258.2.2.1 56 0 (H258.2.2.1 72 0 (n)) + 6 * H258.2.2.1 73 0 (n) + 2 * H258.2.2.1 74 0 (n) + H258.2.2.1 115 0 (n) by have y1 : 0 ≤ H258.2.2.1 74 0 (n) ∧ H258.2.2.1 74 0 (n) ≤ 2 := hT259.1 74 n; have y2 : 0 ≤ H258.2.2.1 115 0 (n) ∧ H258.2.2.1 115 0 (n) ≤ 1 := hT259.1 115 n; have y3 : 0 ≤ H258.2.2.1 73 0 (n) ∧ H258.2.2.1 73 0 (n) ≤ 31 := hT259.1 73 n; rw [show H258.2.2.1 72 0 (n) = H.2.2.1 72 0 (n) by omega]; omega), (show H.1 11 19 0 ≤ H258.1 11 19 0 by omega), rfl⟩
end
