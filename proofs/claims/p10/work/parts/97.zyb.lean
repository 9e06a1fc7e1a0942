-- M: X11_spread
section
variable {d : Nat} {w : jW} 
-- 
theorem g_spread_l0 {mm many nodes : Int} {H0 : jH} (hp0 : -2147483648 ≤ mm ∧ mm ≤ 2147483647) (hp1 : -2147483648 ≤ many ∧ many ≤ 2147483647) (hp2 : -2147483648 ≤ nodes ∧ nodes ≤ 2147483647) : ∀ (m : Nat), (∀ (k : Int) (H : jH) (lv : jL), 100 * (200 - k) < (m : Int) → (0 ≤ mm ∧ mm ≤ 6000) → (1 ≤ many ∧ many ≤ 100) → (0 ≤ k ∧ k ≤ 100) → (k ≤ many) → gT H → jEx [19, 12, 48, 56, 57, 47] [60, 56, 59, 58, 55, 57, 61, 99, 100, 77, 78, 82, 80, 114, 115, 81, 105, 71, 70, 72, 75, 76, 68, 67, 65, 63, 64, 66, 112, 113, 108, 110, 101, 102, 103, 104, 83, 73, 74, 84, 111, 89, 88, 93, 94, 86, 91, 92, 85, 87, 90] H H0 → gP H → gX H → gL H → gZ H → gQ H → gB H → gK H → gN H → gW H (H.1 11 19 0) → (lv = [(4, .inl k), (0, jT), (1, .inl mm), (2, .inl many), (3, .inl nodes)] ∨ (∃ j5 : Int, lv = [(4, .inl k), (5, .inl j5), (0, jT), (1, .inl mm), (2, .inl many), (3, .inl nodes)])) → J true (d + 307) 150 w (47, lv, [], H) (jN fun v w' H' => w' = w ∧ gT H' ∧ jEx [19, 12, 48, 56, 57, 47] [60, 56, 59, 58, 55, 57, 61, 99, 100, 77, 78, 82, 80, 114, 115, 81, 105, 71, 70, 72, 75, 76, 68, 67, 65, 63, 64, 66, 112, 113, 108, 110, 101, 102, 103, 104, 83, 73, 74, 84, 111, 89, 88, 93, 94, 86, 91, 92, 85, 87, 90] H' H0 ∧ gP H' ∧ gX H' ∧ gL H' ∧ gZ H' ∧ gQ H' ∧ gB H' ∧ gK H' ∧ gN H' ∧ gW H' (H'.1 11 19 0) ∧ ∃ x, v = some (.inl x) ∧ 0 ≤ x ∧ x ≤ 100)) ∧ (∀ (k i : Int) (H : jH) (lv : jL), 100 * (200 - k) - 1 - i < (m : Int) → (0 ≤ mm ∧ mm ≤ 6000) → (1 ≤ many ∧ many ≤ 100) → (0 ≤ k ∧ k < many) → (0 ≤ i ∧ i ≤ 16) → (mm + k < H.1 11 19 0) → (mm + k < 6000) → gT H → jEx [19, 12, 48, 56, 57, 47] [60, 56, 59, 58, 55, 57, 61, 99, 100, 77, 78, 82, 80, 114, 115, 81, 105, 71, 70, 72, 75, 76, 68, 67, 65, 63, 64, 66, 112, 113, 108, 110, 101, 102, 103, 104, 83, 73, 74, 84, 111, 89, 88, 93, 94, 86, 91, 92, 85, 87, 90] H H0 → gP H → gX H → gL H → gZ H → gQ H → gB H → gK H → gN H → gW H (H.1 11 19 0) → (lv = [(5, .inl i), (4, .inl k), (0, jT), (1, .inl mm), (2, .inl many), (3, .inl nodes)]) → J true (d + 307) 150 w (67, lv, [], H) (jN fun v w' H' => w' = w ∧ gT H' ∧ jEx [19, 12, 48, 56, 57, 47] [60, 56, 59, 58, 55, 57, 61, 99, 100, 77, 78, 82, 80, 114, 115, 81, 105, 71, 70, 72, 75, 76, 68, 67, 65, 63, 64, 66, 112, 113, 108, 110, 101, 102, 103, 104, 83, 73, 74, 84, 111, 89, 88, 93, 94, 86, 91, 92, 85, 87, 90] H' H0 ∧ gP H' ∧ gX H' ∧ gL H' ∧ gZ H' ∧ gQ H' ∧ gB H' ∧ gK H' ∧ gN H' ∧ gW H' (H'.1 11 19 0) ∧ ∃ x, v = some (.inl x) ∧ 0 ≤ x ∧ x ≤ 100)) := by
  intro m
  induction m with
  | zero =>
    refine ⟨?_, ?_⟩
    · intro k H lv hm hi0 hi1 hi2 hi3 hT hE k0gP k0gX k0gL k0gZ k0gQ k0gB k0gK k0gN k0gW hlv
      exfalso
      omega
    · intro k i H lv hm hi0 hi1 hi2 hi3 hi4 hi5 hT hE k0gP k0gX k0gL k0gZ k0gQ k0gB k0gK k0gN k0gW hlv
      exfalso
      omega
  | succ m ih =>
    refine ⟨?_, ?_⟩
    · intro k H lv hm hi0 hi1 hi2 hi3 hT hE k0gP k0gX k0gL k0gZ k0gQ k0gB k0gK k0gN k0gW hlv
      rcases hlv with rfl | ⟨j5, rfl⟩
      · skip
        refine J.run0 2 rfl ?_
        try dsimp only
        refine J.icmp rfl rfl rfl ⟨(show -2147483648 ≤ k ∧ k ≤ 2147483647 from ⟨by omega, by omega⟩), (show -2147483648 ≤ many ∧ many ≤ 2147483647 from ⟨by omega, by omega⟩)⟩ (fun hc => ?_) (fun hc => ?_)
        · have c1 : many ≤ k := hc
          clear hc
          refine J.run0 1 rfl ?_
          try dsimp only
          exact J.reti rfl rfl rfl ⟨_, rfl, rfl, hT, hE, k0gP, k0gX, k0gL, k0gZ, k0gQ, k0gB, k0gK, k0gN, k0gW, _, rfl, (show 0 ≤ (k) ∧ (k) ≤ 100 from ⟨by omega, by omega⟩)⟩
        · have c2 : ¬ (many ≤ k) := hc
          clear hc
          have f3 : 0 ≤ H.1 11 19 0 ∧ H.1 11 19 0 ≤ 6000 := hT.2.1 19
          refine J.run0 5 rfl ?_
          try dsimp only
          refine J.icmp rfl rfl rfl ⟨(show -2147483648 ≤ mm + k ∧ mm + k ≤ 2147483647 from ⟨by omega, by omega⟩), (show -2147483648 ≤ H.1 11 19 0 ∧ H.1 11 19 0 ≤ 2147483647 from ⟨by omega, by omega⟩)⟩ (fun hc => ?_) (fun hc => ?_)
          · have c4 : H.1 11 19 0 ≤ mm + k := hc
            clear hc
            refine J.run0 1 rfl ?_
            try dsimp only
            exact J.reti rfl rfl rfl ⟨_, rfl, rfl, hT, hE, k0gP, k0gX, k0gL, k0gZ, k0gQ, k0gB, k0gK, k0gN, k0gW, _, rfl, (show 0 ≤ (k) ∧ (k) ≤ 100 from ⟨by omega, by omega⟩)⟩
          · have c5 : ¬ (H.1 11 19 0 ≤ mm + k) := hc
            clear hc
            refine J.run0 2 rfl ?_
            try dsimp only
            exact ih.2 (k) ((0 : Int)) H _ (show 100 * (200 - (k)) - 1 - ((0 : Int)) < _ by omega) (show 0 ≤ mm ∧ mm ≤ 6000 from ⟨by omega, by omega⟩) (show 1 ≤ many ∧ many ≤ 100 from ⟨by omega, by omega⟩) (show 0 ≤ (k) ∧ (k) < many from ⟨by omega, by omega⟩) (show 0 ≤ ((0 : Int)) ∧ ((0 : Int)) ≤ 16 from ⟨by omega, by omega⟩) (show mm + (k) < H.1 11 19 0 from by omega) (show mm + (k) < 6000 from by omega) hT hE k0gP k0gX k0gL k0gZ k0gQ k0gB k0gK k0gN k0gW rfl
      · skip
        refine J.run0 2 rfl ?_
        try dsimp only
        refine J.icmp rfl rfl rfl ⟨(show -2147483648 ≤ k ∧ k ≤ 2147483647 from ⟨by omega, by omega⟩), (show -2147483648 ≤ many ∧ many ≤ 2147483647 from ⟨by omega, by omega⟩)⟩ (fun hc => ?_) (fun hc => ?_)
        · have c6 : many ≤ k := hc
          clear hc
          refine J.run0 1 rfl ?_
          try dsimp only
          exact J.reti rfl rfl rfl ⟨_, rfl, rfl, hT, hE, k0gP, k0gX, k0gL, k0gZ, k0gQ, k0gB, k0gK, k0gN, k0gW, _, rfl, (show 0 ≤ (k) ∧ (k) ≤ 100 from ⟨by omega, by omega⟩)⟩
        · have c7 : ¬ (many ≤ k) := hc
          clear hc
          have f8 : 0 ≤ H.1 11 19 0 ∧ H.1 11 19 0 ≤ 6000 := hT.2.1 19
          refine J.run0 5 rfl ?_
          try dsimp only
          refine J.icmp rfl rfl rfl ⟨(show -2147483648 ≤ mm + k ∧ mm + k ≤ 2147483647 from ⟨by omega, by omega⟩), (show -2147483648 ≤ H.1 11 19 0 ∧ H.1 11 19 0 ≤ 2147483647 from ⟨by omega, by omega⟩)⟩ (fun hc => ?_) (fun hc => ?_)
          · have c9 : H.1 11 19 0 ≤ mm + k := hc
            clear hc
            refine J.run0 1 rfl ?_
            try dsimp only
            exact J.reti rfl rfl rfl ⟨_, rfl, rfl, hT, hE, k0gP, k0gX, k0gL, k0gZ, k0gQ, k0gB, k0gK, k0gN, k0gW, _, rfl, (show 0 ≤ (k) ∧ (k) ≤ 100 from ⟨by omega, by omega⟩)⟩
          · have c10 : ¬ (H.1 11 19 0 ≤ mm + k) := hc
            clear hc
            refine J.run0 2 rfl ?_
            try dsimp only
            exact ih.2 (k) ((0 : Int)) H _ (show 100 * (200 - (k)) - 1 - ((0 : Int)) < _ by omega) (show 0 ≤ mm ∧ mm ≤ 6000 from ⟨by omega, by omega⟩) (show 1 ≤ many ∧ many ≤ 100 from ⟨by omega, by omega⟩) (show 0 ≤ (k) ∧ (k) < many from ⟨by omega, by omega⟩) (show 0 ≤ ((0 : Int)) ∧ ((0 : Int)) ≤ 16 from ⟨by omega, by omega⟩) (show mm + (k) < H.1 11 19 0 from by omega) (show mm + (k) < 6000 from by omega) hT hE k0gP k0gX k0gL k0gZ k0gQ k0gB k0gK k0gN k0gW rfl
    · intro k i H lv hm hi0 hi1 hi2 hi3 hi4 hi5 hT hE k0gP k0gX k0gL k0gZ k0gQ k0gB k0gK k0gN k0gW hlv
      rcases hlv with rfl
      refine J.run0 2 rfl ?_
      try dsimp only
      refine J.icmp rfl rfl rfl ⟨(show -2147483648 ≤ i ∧ i ≤ 2147483647 from ⟨by omega, by omega⟩), (show -2147483648 ≤ (16 : Int) ∧ (16 : Int) ≤ 2147483647 from ⟨by omega, by omega⟩)⟩ (fun hc => ?_) (fun hc => ?_)
      · have c11 : (16 : Int) ≤ i := hc
        clear hc
        refine J.run0 2 rfl ?_
        try dsimp only
        exact ih.1 (k + 1) H _ (show 100 * (200 - (k + 1)) < _ by omega) (show 0 ≤ mm ∧ mm ≤ 6000 from ⟨by omega, by omega⟩) (show 1 ≤ many ∧ many ≤ 100 from ⟨by omega, by omega⟩) (show 0 ≤ (k + 1) ∧ (k + 1) ≤ 100 from ⟨by omega, by omega⟩) (show (k + 1) ≤ many from by omega) hT hE k0gP k0gX k0gL k0gZ k0gQ k0gB k0gK k0gN k0gW (Or.inr (⟨_, rfl⟩))
      · have c12 : ¬ ((16 : Int) ≤ i) := hc
        clear hc
        have f13 : -2147483648 ≤ jshr (nodes) (i) ∧ jshr (nodes) (i) ≤ 2147483647 := jI32 _
        have f14 : -2147483648 ≤ jand (jshr (nodes) (i)) ((1 : Int)) ∧ jand (jshr (nodes) (i)) ((1 : Int)) ≤ 2147483647 := jI32 _
        refine J.run0 6 rfl ?_
        try dsimp only
        refine J.icmp rfl rfl rfl ⟨(show -2147483648 ≤ jand (jshr (nodes) (i)) ((1 : Int)) ∧ jand (jshr (nodes) (i)) ((1 : Int)) ≤ 2147483647 from ⟨by omega, by omega⟩), (show -2147483648 ≤ (1 : Int) ∧ (1 : Int) ≤ 2147483647 from ⟨by omega, by omega⟩)⟩ (fun hc => ?_) (fun hc => ?_)
        · have c15 : ¬ (jand (jshr (nodes) (i)) ((1 : Int)) = (1 : Int)) := hc
          clear hc
          refine J.run0 2 rfl ?_
          try dsimp only
          exact ih.2 (k) (i + 1) H _ (show 100 * (200 - (k)) - 1 - (i + 1) < _ by omega) (show 0 ≤ mm ∧ mm ≤ 6000 from ⟨by omega, by omega⟩) (show 1 ≤ many ∧ many ≤ 100 from ⟨by omega, by omega⟩) (show 0 ≤ (k) ∧ (k) < many from ⟨by omega, by omega⟩) (show 0 ≤ (i + 1) ∧ (i + 1) ≤ 16 from ⟨by omega, by omega⟩) (show mm + (k) < H.1 11 19 0 from by omega) (show mm + (k) < 6000 from by omega) hT hE k0gP k0gX k0gL k0gZ k0gQ k0gB k0gK k0gN k0gW rfl
        · have c16 : ¬ (¬ (jand (jshr (nodes) (i)) ((1 : Int)) = (1 : Int))) := hc
          clear hc
          refine J.run0 5 rfl ?_
          try dsimp only
          refine J.inv rfl rfl rfl rfl rfl rfl jDr rfl rfl rfl rfl rfl (g_came (m := mm + k) (n := i) hT k0gP k0gX k0gL k0gZ k0gQ k0gB k0gK k0gN k0gW (show 0 ≤ (mm + k) ∧ (mm + k) < 6000 from ⟨by omega, by omega⟩) (show (mm + k) < H.1 11 19 0 from by omega) (show 0 ≤ (i) ∧ (i) < 16 from ⟨by omega, by omega⟩)) ?_
          rintro v w H19 ⟨rfl, hT20, ehE21, k22, k23, k24, k25, k26, k27, k28, k29, k30, p31, x17, rfl, r18⟩
          have hE21 := jEx.trans ehE21 hE (by decide) (by decide)
          have p31' : H.1 11 19 0 ≤ H19.1 11 19 0 := p31
          have r18' : (-6000) ≤ x17 ∧ x17 ≤ 6000 := r18
          try dsimp only [Option.toList, List.append, List.cons_append, List.nil_append]
          refine J.run0 3 rfl ?_
          try dsimp only
          exact ih.2 (k) (i + 1) H19 _ (show 100 * (200 - (k)) - 1 - (i + 1) < _ by omega) (show 0 ≤ mm ∧ mm ≤ 6000 from ⟨by omega, by omega⟩) (show 1 ≤ many ∧ many ≤ 100 from ⟨by omega, by omega⟩) (show 0 ≤ (k) ∧ (k) < many from ⟨by omega, by omega⟩) (show 0 ≤ (i + 1) ∧ (i + 1) ≤ 16 from ⟨by omega, by omega⟩) (show mm + (k) < H19.1 11 19 0 from by omega) (show mm + (k) < 6000 from by omega) hT20 hE21 k22 k23 k24 k25 k26 k27 k28 k29 k30 rfl
-- 
theorem g_spread {mm many nodes : Int} {H : jH} (hT : gT H) (k0gP : gP H) (k0gX : gX H) (k0gL : gL H) (k0gZ : gZ H) (k0gQ : gQ H) (k0gB : gB H) (k0gK : gK H) (k0gN : gN H) (k0gW : gW H (H.1 11 19 0)) (hp0 : -2147483648 ≤ mm ∧ mm ≤ 2147483647) (hp1 : -2147483648 ≤ many ∧ many ≤ 2147483647) (hp2 : -2147483648 ≤ nodes ∧ nodes ≤ 2147483647) : J true (d + 307) 150 w (0, jargs 0 [jT, .inl mm, .inl many, .inl nodes], [], H) (jN fun v w' H' => w' = w ∧ gT H' ∧ jEx [19, 12, 48, 56, 57, 47] [60, 56, 59, 58, 55, 57, 61, 99, 100, 77, 78, 82, 80, 114, 115, 81, 105, 71, 70, 72, 75, 76, 68, 67, 65, 63, 64, 66, 112, 113, 108, 110, 101, 102, 103, 104, 83, 73, 74, 84, 111, 89, 88, 93, 94, 86, 91, 92, 85, 87, 90] H' H ∧ gP H' ∧ gX H' ∧ gL H' ∧ gZ H' ∧ gQ H' ∧ gB H' ∧ gK H' ∧ gN H' ∧ gW H' (H'.1 11 19 0) ∧ ∃ x, v = some (.inl x) ∧ 0 ≤ x ∧ x ≤ 100) := by
  have hE : jEx [19, 12, 48, 56, 57, 47] [60, 56, 59, 58, 55, 57, 61, 99, 100, 77, 78, 82, 80, 114, 115, 81, 105, 71, 70, 72, 75, 76, 68, 67, 65, 63, 64, 66, 112, 113, 108, 110, 101, 102, 103, 104, 83, 73, 74, 84, 111, 89, 88, 93, 94, 86, 91, 92, 85, 87, 90] H H := jEx.refl _ _ _
  refine J.run0 4 rfl ?_
  try dsimp only
  refine J.ins rfl rfl rfl rfl rfl rfl rfl rfl rfl (g_in (u := many) (a := (1 : Int)) (b := (100 : Int)) hT  (show -2147483648 ≤ (many) ∧ (many) ≤ 2147483647 from ⟨by omega, by omega⟩) (show -2147483648 ≤ ((1 : Int)) ∧ ((1 : Int)) ≤ 2147483647 from ⟨by omega, by omega⟩) (show -2147483648 ≤ ((100 : Int)) ∧ ((100 : Int)) ≤ 2147483647 from ⟨by omega, by omega⟩)) ?_
  rintro v w H ⟨rfl, rfl, x32, rfl, r33⟩
  have r33' : (x32 = 0 ∨ x32 = 1) ∧ (x32 = 1 → (many) ≥ ((1 : Int)) ∧ (many) ≤ ((100 : Int))) ∧ (x32 = 0 → (many) < ((1 : Int)) ∨ ((100 : Int)) < (many)) := r33
  try dsimp only [Option.toList, List.append, List.cons_append, List.nil_append]
  refine J.ifc rfl rfl rfl (show -2147483648 ≤ x32 ∧ x32 ≤ 2147483647 from ⟨by omega, by omega⟩) (fun hc => ?_) (fun hc => ?_)
  · have c34 : ¬ (x32 = (0 : Int)) := hc
    clear hc
    have f35 : 0 ≤ H.1 11 19 0 ∧ H.1 11 19 0 ≤ 6000 := hT.2.1 19
    refine J.run0 4 rfl ?_
    try dsimp only
    refine J.ins rfl rfl rfl rfl rfl rfl rfl rfl rfl (g_in (u := mm) (a := (0 : Int)) (b := H.1 11 19 0) hT  (show -2147483648 ≤ (mm) ∧ (mm) ≤ 2147483647 from ⟨by omega, by omega⟩) (show -2147483648 ≤ ((0 : Int)) ∧ ((0 : Int)) ≤ 2147483647 from ⟨by omega, by omega⟩) (show -2147483648 ≤ (H.1 11 19 0) ∧ (H.1 11 19 0) ≤ 2147483647 from ⟨by omega, by omega⟩)) ?_
    rintro v w H ⟨rfl, rfl, x36, rfl, r37⟩
    have r37' : (x36 = 0 ∨ x36 = 1) ∧ (x36 = 1 → (mm) ≥ ((0 : Int)) ∧ (mm) ≤ (H.1 11 19 0)) ∧ (x36 = 0 → (mm) < ((0 : Int)) ∨ (H.1 11 19 0) < (mm)) := r37
    try dsimp only [Option.toList, List.append, List.cons_append, List.nil_append]
    refine J.ifc rfl rfl rfl (show -2147483648 ≤ x36 ∧ x36 ≤ 2147483647 from ⟨by omega, by omega⟩) (fun hc => ?_) (fun hc => ?_)
    · have c38 : ¬ (x36 = (0 : Int)) := hc
      clear hc
      refine J.run0 2 rfl ?_
      try dsimp only
      refine J.gn fun H39 hH39 => ?_
      have hT40 : gT H39 := by rw [hH39]; exact gT.num (f := 47) hT (show 0 ≤ (0 : Int) ∧ (0 : Int) ≤ 3 from ⟨by omega, by omega⟩) (by decide) (fun z => absurd z (by decide))
      have hE41 : jEx [19, 12, 48, 56, 57, 47] [60, 56, 59, 58, 55, 57, 61, 99, 100, 77, 78, 82, 80, 114, 115, 81, 105, 71, 70, 72, 75, 76, 68, 67, 65, 63, 64, 66, 112, 113, 108, 110, 101, 102, 103, 104, 83, 73, 74, 84, 111, 89, 88, 93, 94, 86, 91, 92, 85, 87, 90] H39 H := by rw [hH39]; exact jEx.num hE (by decide)
      have k42 : gP H39 := by rw [hH39]; exact k0gP
      have k43 : gX H39 := by rw [hH39]; exact k0gX
      have k44 : gL H39 := by rw [hH39]; exact k0gL
      have k45 : gZ H39 := by rw [hH39]; exact k0gZ
      have k46 : gQ H39 := by rw [hH39]; exact k0gQ
      have k47 : gB H39 := by rw [hH39]; exact k0gB
      have k48 : gK H39 := by rw [hH39]; exact k0gK
      have k49 : gN H39 := by rw [hH39]; exact k0gN
      have k50 : gW H39 (H39.1 11 19 0) := by rw [hH39]; exact k0gW
      have g51 : H39.1 11 47 0 = (0 : Int) := by subst hH39; rfl
      have g52 : H39.1 11 12 0 = H.1 11 12 0 := by subst hH39; rfl
      have g53 : H39.1 11 19 0 = H.1 11 19 0 := by subst hH39; rfl
      clear hH39
      have f54 : 0 ≤ H39.1 11 47 0 ∧ H39.1 11 47 0 ≤ 3 := hT40.2.1 47
      refine J.run0 2 rfl ?_
      try dsimp only
      refine J.ifc rfl rfl rfl (show -2147483648 ≤ H39.1 11 47 0 ∧ H39.1 11 47 0 ≤ 2147483647 from ⟨by omega, by omega⟩) (fun hc => ?_) (fun hc => ?_)
      · have c55 : H39.1 11 47 0 ≤ (0 : Int) := hc
        clear hc
        refine J.run0 2 rfl ?_
        try dsimp only
        exact (g_spread_l0 (H0 := H) (mm := mm) (many := many) (nodes := nodes)  hp0 hp1 hp2 ((100 * (200 - ((0 : Int))) : Int).toNat + 1)).1 ((0 : Int)) H39 _ (show 100 * (200 - ((0 : Int))) < _ by omega) (show 0 ≤ mm ∧ mm ≤ 6000 from ⟨by omega, by omega⟩) (show 1 ≤ many ∧ many ≤ 100 from ⟨by omega, by omega⟩) (show 0 ≤ ((0 : Int)) ∧ ((0 : Int)) ≤ 100 from ⟨by omega, by omega⟩) (show ((0 : Int)) ≤ many from by omega) hT40 hE41 k42 k43 k44 k45 k46 k47 k48 k49 k50 (Or.inl rfl)
      · have c56 : ¬ (H39.1 11 47 0 ≤ (0 : Int)) := hc
        clear hc
        refine J.run0 1 rfl ?_
        try dsimp only
        exact J.reti rfl rfl rfl ⟨_, rfl, rfl, hT40, hE41, k42, k43, k44, k45, k46, k47, k48, k49, k50, _, rfl, (show 0 ≤ ((0 : Int)) ∧ ((0 : Int)) ≤ 100 from ⟨by omega, by omega⟩)⟩
    · have c57 : ¬ (¬ (x36 = (0 : Int))) := hc
      clear hc
      refine J.run0 3 rfl ?_
      try dsimp only
      refine J.gn fun H58 hH58 => ?_
      have hT59 : gT H58 := by rw [hH58]; exact gT.num (f := 47) hT (show 0 ≤ (2 : Int) ∧ (2 : Int) ≤ 3 from ⟨by omega, by omega⟩) (by decide) (fun z => absurd z (by decide))
      have hE60 : jEx [19, 12, 48, 56, 57, 47] [60, 56, 59, 58, 55, 57, 61, 99, 100, 77, 78, 82, 80, 114, 115, 81, 105, 71, 70, 72, 75, 76, 68, 67, 65, 63, 64, 66, 112, 113, 108, 110, 101, 102, 103, 104, 83, 73, 74, 84, 111, 89, 88, 93, 94, 86, 91, 92, 85, 87, 90] H58 H := by rw [hH58]; exact jEx.num hE (by decide)
      have k61 : gP H58 := by rw [hH58]; exact k0gP
      have k62 : gX H58 := by rw [hH58]; exact k0gX
      have k63 : gL H58 := by rw [hH58]; exact k0gL
      have k64 : gZ H58 := by rw [hH58]; exact k0gZ
      have k65 : gQ H58 := by rw [hH58]; exact k0gQ
      have k66 : gB H58 := by rw [hH58]; exact k0gB
      have k67 : gK H58 := by rw [hH58]; exact k0gK
      have k68 : gN H58 := by rw [hH58]; exact k0gN
      have k69 : gW H58 (H58.1 11 19 0) := by rw [hH58]; exact k0gW
      have g70 : H58.1 11 47 0 = (2 : Int) := by subst hH58; rfl
      have g71 : H58.1 11 12 0 = H.1 11 12 0 := by subst hH58; rfl
      have g72 : H58.1 11 19 0 = H.1 11 19 0 := by subst hH58; rfl
      clear hH58
      have f73 : 0 ≤ H58.1 11 47 0 ∧ H58.1 11 47 0 ≤ 3 := hT59.2.1 47
      refine J.run0 2 rfl ?_
      try dsimp only
      refine J.ifc rfl rfl rfl (show -2147483648 ≤ H58.1 11 47 0 ∧ H58.1 11 47 0 ≤ 2147483647 from ⟨by omega, by omega⟩) (fun hc => ?_) (fun hc => ?_)
      · have c74 : H58.1 11 47 0 ≤ (0 : Int) := hc
        clear hc
        refine J.run0 2 rfl ?_
        try dsimp only
        exact (g_spread_l0 (H0 := H) (mm := mm) (many := many) (nodes := nodes)  hp0 hp1 hp2 ((100 * (200 - ((0 : Int))) : Int).toNat + 1)).1 ((0 : Int)) H58 _ (show 100 * (200 - ((0 : Int))) < _ by omega) (show 0 ≤ mm ∧ mm ≤ 6000 from ⟨by omega, by omega⟩) (show 1 ≤ many ∧ many ≤ 100 from ⟨by omega, by omega⟩) (show 0 ≤ ((0 : Int)) ∧ ((0 : Int)) ≤ 100 from ⟨by omega, by omega⟩) (show ((0 : Int)) ≤ many from by omega) hT59 hE60 k61 k62 k63 k64 k65 k66 k67 k68 k69 (Or.inl rfl)
      · have c75 : ¬ (H58.1 11 47 0 ≤ (0 : Int)) := hc
        clear hc
        refine J.run0 1 rfl ?_
        try dsimp only
        exact J.reti rfl rfl rfl ⟨_, rfl, rfl, hT59, hE60, k61, k62, k63, k64, k65, k66, k67, k68, k69, _, rfl, (show 0 ≤ ((0 : Int)) ∧ ((0 : Int)) ≤ 100 from ⟨by omega, by omega⟩)⟩
  · have c76 : ¬ (¬ (x32 = (0 : Int))) := hc
    clear hc
    refine J.run0 3 rfl ?_
    try dsimp only
    refine J.gn fun H77 hH77 => ?_
    have hT78 : gT H77 := by rw [hH77]; exact gT.num (f := 47) hT (show 0 ≤ (1 : Int) ∧ (1 : Int) ≤ 3 from ⟨by omega, by omega⟩) (by decide) (fun z => absurd z (by decide))
    have hE79 : jEx [19, 12, 48, 56, 57, 47] [60, 56, 59, 58, 55, 57, 61, 99, 100, 77, 78, 82, 80, 114, 115, 81, 105, 71, 70, 72, 75, 76, 68, 67, 65, 63, 64, 66, 112, 113, 108, 110, 101, 102, 103, 104, 83, 73, 74, 84, 111, 89, 88, 93, 94, 86, 91, 92, 85, 87, 90] H77 H := by rw [hH77]; exact jEx.num hE (by decide)
    have k80 : gP H77 := by rw [hH77]; exact k0gP
    have k81 : gX H77 := by rw [hH77]; exact k0gX
    have k82 : gL H77 := by rw [hH77]; exact k0gL
    have k83 : gZ H77 := by rw [hH77]; exact k0gZ
    have k84 : gQ H77 := by rw [hH77]; exact k0gQ
    have k85 : gB H77 := by rw [hH77]; exact k0gB
    have k86 : gK H77 := by rw [hH77]; exact k0gK
    have k87 : gN H77 := by rw [hH77]; exact k0gN
    have k88 : gW H77 (H77.1 11 19 0) := by rw [hH77]; exact k0gW
    have g89 : H77.1 11 47 0 = (1 : Int) := by subst hH77; rfl
    have g90 : H77.1 11 12 0 = H.1 11 12 0 := by subst hH77; rfl
    have g91 : H77.1 11 19 0 = H.1 11 19 0 := by subst hH77; rfl
    clear hH77
    have f92 : 0 ≤ H77.1 11 47 0 ∧ H77.1 11 47 0 ≤ 3 := hT78.2.1 47
    refine J.run0 2 rfl ?_
    try dsimp only
    refine J.ifc rfl rfl rfl (show -2147483648 ≤ H77.1 11 47 0 ∧ H77.1 11 47 0 ≤ 2147483647 from ⟨by omega, by omega⟩) (fun hc => ?_) (fun hc => ?_)
    · have c93 : H77.1 11 47 0 ≤ (0 : Int) := hc
      clear hc
      refine J.run0 2 rfl ?_
      try dsimp only
      exact (g_spread_l0 (H0 := H) (mm := mm) (many := many) (nodes := nodes)  hp0 hp1 hp2 ((100 * (200 - ((0 : Int))) : Int).toNat + 1)).1 ((0 : Int)) H77 _ (show 100 * (200 - ((0 : Int))) < _ by omega) (show 0 ≤ mm ∧ mm ≤ 6000 from ⟨by omega, by omega⟩) (show 1 ≤ many ∧ many ≤ 100 from ⟨by omega, by omega⟩) (show 0 ≤ ((0 : Int)) ∧ ((0 : Int)) ≤ 100 from ⟨by omega, by omega⟩) (show ((0 : Int)) ≤ many from by omega) hT78 hE79 k80 k81 k82 k83 k84 k85 k86 k87 k88 (Or.inl rfl)
    · have c94 : ¬ (H77.1 11 47 0 ≤ (0 : Int)) := hc
      clear hc
      refine J.run0 1 rfl ?_
      try dsimp only
      exact J.reti rfl rfl rfl ⟨_, rfl, rfl, hT78, hE79, k80, k81, k82, k83, k84, k85, k86, k87, k88, _, rfl, (show 0 ≤ ((0 : Int)) ∧ ((0 : Int)) ≤ 100 from ⟨by omega, by omega⟩)⟩
end
