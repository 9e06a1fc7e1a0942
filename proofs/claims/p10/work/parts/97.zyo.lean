-- M: X11_looks
section
variable {d : Nat} {w : jW} 
-- 
theorem g_looks_l0 {b : Int} {H0 : jH} (hp0 : 0 ≤ b ∧ b < 300) (hp1 : b < H0.1 11 12 0) : ∀ (m : Nat), (∀ (k : Int) (H : jH) (lv : jL), 16 - k < (m : Int) → (0 ≤ k ∧ k ≤ 16) → (b < H.1 11 12 0) → (H.1 11 45 0 = H0.1 11 45 0) → gT H → jEx [48, 56, 57, 46, 45] [108, 99, 100, 101, 105, 102, 103, 104, 61, 81] H H0 → gP H → gX H → gL H → gZ H → gQ H → gB H → gK H → gN H → gW H (H.1 11 19 0) → ((∃ j2 : Int, lv = [(3, .inl k), (2, .inl j2), (0, jT), (1, .inl b)])) → J true (d + 305) 166 w (90, lv, [], H) (jN fun v w' H' => w' = w ∧ gT H' ∧ jEx [48, 56, 57, 46, 45] [108, 99, 100, 101, 105, 102, 103, 104, 61, 81] H' H0 ∧ gP H' ∧ gX H' ∧ gL H' ∧ gZ H' ∧ gQ H' ∧ gB H' ∧ gK H' ∧ gN H' ∧ gW H' (H'.1 11 19 0) ∧ ∃ x, v = some (.inl x) ∧ (x = 0 ∨ x = 1) ∧ (x = 1 → H'.1 11 45 0 = b) ∧ (x = 0 → H'.1 11 45 0 = H0.1 11 45 0))) := by
  intro m
  induction m with
  | zero =>
    skip
    · intro k H lv hm hi0 hi1 hi2 hT hE k0gP k0gX k0gL k0gZ k0gQ k0gB k0gK k0gN k0gW hlv
      exfalso
      omega
  | succ m ih =>
    skip
    · intro k H lv hm hi0 hi1 hi2 hT hE k0gP k0gX k0gL k0gZ k0gQ k0gB k0gK k0gN k0gW hlv
      rcases hlv with ⟨j2, rfl⟩
      refine J.run0 2 rfl ?_
      try dsimp only
      refine J.icmp rfl rfl rfl ⟨(show -2147483648 ≤ k ∧ k ≤ 2147483647 from ⟨by omega, by omega⟩), (show -2147483648 ≤ (16 : Int) ∧ (16 : Int) ≤ 2147483647 from ⟨by omega, by omega⟩)⟩ (fun hc => ?_) (fun hc => ?_)
      · have c1 : (16 : Int) ≤ k := hc
        clear hc
        refine J.run0 3 rfl ?_
        try dsimp only
        refine J.gn fun H2 hH2 => ?_
        have hT3 : gT H2 := by rw [hH2]; exact gT.num (f := 45) hT (show 0 ≤ b ∧ b ≤ 299 from ⟨by omega, by omega⟩) (by decide) (fun _ => show b < H.1 11 12 0 by omega)
        have hE4 : jEx [48, 56, 57, 46, 45] [108, 99, 100, 101, 105, 102, 103, 104, 61, 81] H2 H0 := by rw [hH2]; exact jEx.num hE (by decide)
        have k5 : gP H2 := by rw [hH2]; exact k0gP
        have k6 : gX H2 := by rw [hH2]; exact k0gX
        have k7 : gL H2 := by rw [hH2]; exact k0gL
        have k8 : gZ H2 := by rw [hH2]; exact k0gZ
        have k9 : gQ H2 := by rw [hH2]; exact k0gQ
        have k10 : gB H2 := by rw [hH2]; exact k0gB
        have k11 : gK H2 := by rw [hH2]; exact k0gK
        have k12 : gN H2 := by rw [hH2]; exact k0gN
        have k13 : gW H2 (H2.1 11 19 0) := by rw [hH2]; exact k0gW
        have g14 : H2.1 11 45 0 = b := by subst hH2; rfl
        have g15 : H2.1 11 12 0 = H.1 11 12 0 := by subst hH2; rfl
        clear hH2
        refine J.run0 1 rfl ?_
        try dsimp only
        exact J.retb rfl rfl rfl (show (1 : Int) = 0 ∨ (1 : Int) = 1 by omega) ⟨_, rfl, rfl, hT3, hE4, k5, k6, k7, k8, k9, k10, k11, k12, k13, _, rfl, (show (((1 : Int)) = 0 ∨ ((1 : Int)) = 1) ∧ (((1 : Int)) = 1 → H2.1 11 45 0 = b) ∧ (((1 : Int)) = 0 → H2.1 11 45 0 = H0.1 11 45 0) from ⟨by omega, by omega, by omega⟩)⟩
      · have c16 : ¬ ((16 : Int) ≤ k) := hc
        clear hc
        have f17 : 0 ≤ H.2.2.1 60 0 (((16 : Int) * b) + k) ∧ H.2.2.1 60 0 (((16 : Int) * b) + k) ≤ 40320000 := hT.1 60 (((16 : Int) * b) + k)
        refine J.run 10 rfl (show 0 ≤ ((16 : Int) * b) + k ∧ ((16 : Int) * b) + k < 4800 from ⟨by omega, by omega⟩) ?_
        try dsimp only
        refine J.inv rfl rfl rfl rfl rfl rfl jDr rfl rfl rfl rfl rfl (g_powerOf (n := k) hT  (show 0 ≤ (k) ∧ (k) < 16 from ⟨by omega, by omega⟩)) ?_
        rintro v w H ⟨rfl, rfl, x18, rfl, r19⟩
        have r19' : x18 = gpow H ((k)) ∧ 0 ≤ x18 ∧ x18 ≤ 40320000 := r19
        try dsimp only [Option.toList, List.append, List.cons_append, List.nil_append]
        refine J.icmp rfl rfl rfl ⟨(show -2147483648 ≤ H.2.2.1 60 0 (((16 : Int) * b) + k) ∧ H.2.2.1 60 0 (((16 : Int) * b) + k) ≤ 2147483647 from ⟨by omega, by omega⟩), (show -2147483648 ≤ x18 ∧ x18 ≤ 2147483647 from ⟨by omega, by omega⟩)⟩ (fun hc => ?_) (fun hc => ?_)
        · have c20 : H.2.2.1 60 0 (((16 : Int) * b) + k) = x18 := hc
          clear hc
          refine J.run0 2 rfl ?_
          try dsimp only
          exact ih (k + 1) H _ (show 16 - (k + 1) < _ by omega) (show 0 ≤ (k + 1) ∧ (k + 1) ≤ 16 from ⟨by omega, by omega⟩) (show b < H.1 11 12 0 from by omega) (show H.1 11 45 0 = H0.1 11 45 0 from by omega) hT hE k0gP k0gX k0gL k0gZ k0gQ k0gB k0gK k0gN k0gW ⟨_, rfl⟩
        · have c21 : ¬ (H.2.2.1 60 0 (((16 : Int) * b) + k) = x18) := hc
          clear hc
          refine J.run0 1 rfl ?_
          try dsimp only
          exact J.retb rfl rfl rfl (show (0 : Int) = 0 ∨ (0 : Int) = 1 by omega) ⟨_, rfl, rfl, hT, hE, k0gP, k0gX, k0gL, k0gZ, k0gQ, k0gB, k0gK, k0gN, k0gW, _, rfl, (show (((0 : Int)) = 0 ∨ ((0 : Int)) = 1) ∧ (((0 : Int)) = 1 → H.1 11 45 0 = b) ∧ (((0 : Int)) = 0 → H.1 11 45 0 = H0.1 11 45 0) from ⟨by omega, by omega, by omega⟩)⟩
-- 
theorem g_looks {b : Int} {H : jH} (hT : gT H) (k0gP : gP H) (k0gX : gX H) (k0gL : gL H) (k0gZ : gZ H) (k0gQ : gQ H) (k0gB : gB H) (k0gK : gK H) (k0gN : gN H) (k0gW : gW H (H.1 11 19 0)) (hp0 : 0 ≤ b ∧ b < 300) (hp1 : b < H.1 11 12 0) : J true (d + 305) 166 w (0, jargs 0 [jT, .inl b], [], H) (jN fun v w' H' => w' = w ∧ gT H' ∧ jEx [48, 56, 57, 46, 45] [108, 99, 100, 101, 105, 102, 103, 104, 61, 81] H' H ∧ gP H' ∧ gX H' ∧ gL H' ∧ gZ H' ∧ gQ H' ∧ gB H' ∧ gK H' ∧ gN H' ∧ gW H' (H'.1 11 19 0) ∧ ∃ x, v = some (.inl x) ∧ (x = 0 ∨ x = 1) ∧ (x = 1 → H'.1 11 45 0 = b) ∧ (x = 0 → H'.1 11 45 0 = H.1 11 45 0)) := by
  have hE : jEx [48, 56, 57, 46, 45] [108, 99, 100, 101, 105, 102, 103, 104, 61, 81] H H := jEx.refl _ _ _
  refine J.run0 6 rfl ?_
  try dsimp only
  refine J.gn fun H22 hH22 => ?_
  have hT23 : gT H22 := by rw [hH22]; exact gT.num (f := 46) hT trivial (by decide) (fun z => absurd z (by decide))
  have hE24 : jEx [48, 56, 57, 46, 45] [108, 99, 100, 101, 105, 102, 103, 104, 61, 81] H22 H := by rw [hH22]; exact jEx.num hE (by decide)
  have k25 : gP H22 := by rw [hH22]; exact k0gP
  have k26 : gX H22 := by rw [hH22]; exact k0gX
  have k27 : gL H22 := by rw [hH22]; exact k0gL
  have k28 : gZ H22 := by rw [hH22]; exact k0gZ
  have k29 : gQ H22 := by rw [hH22]; exact k0gQ
  have k30 : gB H22 := by rw [hH22]; exact k0gB
  have k31 : gK H22 := by rw [hH22]; exact k0gK
  have k32 : gN H22 := by rw [hH22]; exact k0gN
  have k33 : gW H22 (H22.1 11 19 0) := by rw [hH22]; exact k0gW
  have g34 : H22.1 11 46 0 = (H.1 11 46 0) + (1 : Int) := by subst hH22; rfl
  have g35 : H22.1 11 12 0 = H.1 11 12 0 := by subst hH22; rfl
  have g36 : H22.1 11 45 0 = H.1 11 45 0 := by subst hH22; rfl
  clear hH22
  have f37 : 0 ≤ H22.2.2.1 56 0 (b) ∧ H22.2.2.1 56 0 (b) ≤ 300 := hT23.1 56 (b)
  have f37gP : 0 ≤ b → b < 300 → H22.2.2.1 56 0 (b) ≤ b := k25.2.2.2.2.1 (b)
  have f38 : 0 ≤ H22.1 11 45 0 ∧ H22.1 11 45 0 ≤ 299 := hT23.2.1 45
  have f39 : 1 ≤ H22.1 11 12 0 ∧ H22.1 11 12 0 ≤ 300 := hT23.2.1 12
  have f38b : H22.1 11 45 0 < H22.1 11 12 0 := hT23.2.2.2 45 rfl
  have g40 : H22.1 11 45 0 = b → H22.2.2.1 56 0 (H22.1 11 45 0) = H22.2.2.1 56 0 (b) := fun z => by rw [z]
  have f41 : 0 ≤ H22.2.2.1 56 0 (H22.1 11 45 0) ∧ H22.2.2.1 56 0 (H22.1 11 45 0) ≤ 300 := hT23.1 56 (H22.1 11 45 0)
  have f41gP : 0 ≤ H22.1 11 45 0 → H22.1 11 45 0 < 300 → H22.2.2.1 56 0 (H22.1 11 45 0) ≤ H22.1 11 45 0 := k25.2.2.2.2.1 (H22.1 11 45 0)
  refine J.run 13 rfl ⟨(show 0 ≤ b ∧ b < 300 from ⟨by omega, by omega⟩), (show 0 ≤ H22.1 11 45 0 ∧ H22.1 11 45 0 < 300 from ⟨by omega, by omega⟩)⟩ ?_
  try dsimp only
  refine J.icmp rfl rfl rfl ⟨(show -2147483648 ≤ (H22.2.2.1 56 0 (b)) - (H22.2.2.1 56 0 (H22.1 11 45 0)) ∧ (H22.2.2.1 56 0 (b)) - (H22.2.2.1 56 0 (H22.1 11 45 0)) ≤ 2147483647 from ⟨by omega, by omega⟩), (show -2147483648 ≤ (1 : Int) ∧ (1 : Int) ≤ 2147483647 from ⟨by omega, by omega⟩)⟩ (fun hc => ?_) (fun hc => ?_)
  · have c42 : (H22.2.2.1 56 0 (b)) - (H22.2.2.1 56 0 (H22.1 11 45 0)) < (1 : Int) := hc
    clear hc
    refine J.run0 1 rfl ?_
    try dsimp only
    exact J.retb rfl rfl rfl (show (0 : Int) = 0 ∨ (0 : Int) = 1 by omega) ⟨_, rfl, rfl, hT23, hE24, k25, k26, k27, k28, k29, k30, k31, k32, k33, _, rfl, (show (((0 : Int)) = 0 ∨ ((0 : Int)) = 1) ∧ (((0 : Int)) = 1 → H22.1 11 45 0 = b) ∧ (((0 : Int)) = 0 → H22.1 11 45 0 = H.1 11 45 0) from ⟨by omega, by omega, by omega⟩)⟩
  · have c43 : ¬ ((H22.2.2.1 56 0 (b)) - (H22.2.2.1 56 0 (H22.1 11 45 0)) < (1 : Int)) := hc
    clear hc
    refine J.run0 2 rfl ?_
    try dsimp only
    refine J.icmp rfl rfl rfl ⟨(show -2147483648 ≤ (H22.2.2.1 56 0 (b)) - (H22.2.2.1 56 0 (H22.1 11 45 0)) ∧ (H22.2.2.1 56 0 (b)) - (H22.2.2.1 56 0 (H22.1 11 45 0)) ≤ 2147483647 from ⟨by omega, by omega⟩), (show -2147483648 ≤ (40 : Int) ∧ (40 : Int) ≤ 2147483647 from ⟨by omega, by omega⟩)⟩ (fun hc => ?_) (fun hc => ?_)
    · have c44 : (40 : Int) < (H22.2.2.1 56 0 (b)) - (H22.2.2.1 56 0 (H22.1 11 45 0)) := hc
      clear hc
      refine J.run0 1 rfl ?_
      try dsimp only
      exact J.retb rfl rfl rfl (show (0 : Int) = 0 ∨ (0 : Int) = 1 by omega) ⟨_, rfl, rfl, hT23, hE24, k25, k26, k27, k28, k29, k30, k31, k32, k33, _, rfl, (show (((0 : Int)) = 0 ∨ ((0 : Int)) = 1) ∧ (((0 : Int)) = 1 → H22.1 11 45 0 = b) ∧ (((0 : Int)) = 0 → H22.1 11 45 0 = H.1 11 45 0) from ⟨by omega, by omega, by omega⟩)⟩
    · have c45 : ¬ ((40 : Int) < (H22.2.2.1 56 0 (b)) - (H22.2.2.1 56 0 (H22.1 11 45 0))) := hc
      clear hc
      refine J.run0 3 rfl ?_
      try dsimp only
      refine J.inv rfl rfl rfl rfl rfl rfl jDr rfl rfl rfl rfl rfl (g_isEnough (b := b) (both := (1 : Int)) hT23 k25 k26 k27 k28 k29 k30 k31 k32 k33 (show 0 ≤ (b) ∧ (b) < 300 from ⟨by omega, by omega⟩) (show (b) < H22.1 11 12 0 from by omega) (show 0 ≤ ((1 : Int)) ∧ ((1 : Int)) ≤ 1 from ⟨by omega, by omega⟩)) ?_
      rintro v w H48 ⟨rfl, hT49, ehE50, k51, k52, k53, k54, k55, k56, k57, k58, k59, x46, rfl, r47⟩
      have hE50 := jEx.trans ehE50 hE24 (by decide) (by decide)
      have r47' : 0 ≤ x46 ∧ x46 ≤ 1 := r47
      have g60 : H48.1 11 12 0 = H22.1 11 12 0 := ehE50.v 12 (by decide)
      have g61 : H48.1 11 45 0 = H22.1 11 45 0 := ehE50.v 45 (by decide)
      have g62 : H48.2.2.1 56 0 (b) = H22.2.2.1 56 0 (b) := congrFun (ehE50.r 56 (by decide)) _
      have g63 : H48.2.2.1 56 0 (H22.1 11 45 0) = H22.2.2.1 56 0 (H22.1 11 45 0) := congrFun (ehE50.r 56 (by decide)) _
      try dsimp only [Option.toList, List.append, List.cons_append, List.nil_append]
      refine J.ifc rfl rfl rfl (show -2147483648 ≤ x46 ∧ x46 ≤ 2147483647 from ⟨by omega, by omega⟩) (fun hc => ?_) (fun hc => ?_)
      · have c64 : ¬ (x46 = (0 : Int)) := hc
        clear hc
        refine J.run0 2 rfl ?_
        try dsimp only
        refine J.icmp rfl rfl rfl ⟨(show -2147483648 ≤ (H22.2.2.1 56 0 (b)) - (H22.2.2.1 56 0 (H22.1 11 45 0)) ∧ (H22.2.2.1 56 0 (b)) - (H22.2.2.1 56 0 (H22.1 11 45 0)) ≤ 2147483647 from ⟨by omega, by omega⟩), (show -2147483648 ≤ (1 : Int) ∧ (1 : Int) ≤ 2147483647 from ⟨by omega, by omega⟩)⟩ (fun hc => ?_) (fun hc => ?_)
        · have c65 : ¬ ((H22.2.2.1 56 0 (b)) - (H22.2.2.1 56 0 (H22.1 11 45 0)) = (1 : Int)) := hc
          clear hc
          refine J.run0 3 rfl ?_
          try dsimp only
          refine J.gn fun H66 hH66 => ?_
          have hT67 : gT H66 := by rw [hH66]; exact gT.num (f := 45) hT49 (show 0 ≤ b ∧ b ≤ 299 from ⟨by omega, by omega⟩) (by decide) (fun _ => show b < H48.1 11 12 0 by omega)
          have hE68 : jEx [48, 56, 57, 46, 45] [108, 99, 100, 101, 105, 102, 103, 104, 61, 81] H66 H := by rw [hH66]; exact jEx.num hE50 (by decide)
          have k69 : gP H66 := by rw [hH66]; exact k51
          have k70 : gX H66 := by rw [hH66]; exact k52
          have k71 : gL H66 := by rw [hH66]; exact k53
          have k72 : gZ H66 := by rw [hH66]; exact k54
          have k73 : gQ H66 := by rw [hH66]; exact k55
          have k74 : gB H66 := by rw [hH66]; exact k56
          have k75 : gK H66 := by rw [hH66]; exact k57
          have k76 : gN H66 := by rw [hH66]; exact k58
          have k77 : gW H66 (H66.1 11 19 0) := by rw [hH66]; exact k59
          have g78 : H66.1 11 45 0 = b := by subst hH66; rfl
          have g79 : H66.1 11 12 0 = H48.1 11 12 0 := by subst hH66; rfl
          have g80 : H66.2.2.1 56 0 (b) = H48.2.2.1 56 0 (b) := by subst hH66; rfl
          have g81 : H66.2.2.1 56 0 (H22.1 11 45 0) = H48.2.2.1 56 0 (H22.1 11 45 0) := by subst hH66; rfl
          clear hH66
          refine J.run0 1 rfl ?_
          try dsimp only
          exact J.retb rfl rfl rfl (show (1 : Int) = 0 ∨ (1 : Int) = 1 by omega) ⟨_, rfl, rfl, hT67, hE68, k69, k70, k71, k72, k73, k74, k75, k76, k77, _, rfl, (show (((1 : Int)) = 0 ∨ ((1 : Int)) = 1) ∧ (((1 : Int)) = 1 → H66.1 11 45 0 = b) ∧ (((1 : Int)) = 0 → H66.1 11 45 0 = H.1 11 45 0) from ⟨by omega, by omega, by omega⟩)⟩
        · have c82 : ¬ (¬ ((H22.2.2.1 56 0 (b)) - (H22.2.2.1 56 0 (H22.1 11 45 0)) = (1 : Int))) := hc
          clear hc
          have f83 : -1 ≤ H48.2.2.1 55 0 (b) ∧ H48.2.2.1 55 0 (b) ≤ 299 := hT49.1 55 (b)
          have f84 : 1 ≤ H48.1 11 12 0 ∧ H48.1 11 12 0 ≤ 300 := hT49.2.1 12
          have f83b : H48.2.2.1 55 0 (b) < H48.1 11 12 0 := hT49.2.2.1 55 (b) rfl
          have f83gP : (b = 0 → H48.2.2.1 55 0 (b) = -1) ∧ (1 ≤ b → b < 300 → 0 ≤ H48.2.2.1 55 0 (b) ∧ H48.2.2.1 55 0 (b) < b) := ⟨fun z => by rw [z]; exact k51.1, fun z z' => k51.2.1 _ z z'⟩
          have f85 : 0 ≤ H48.1 11 45 0 ∧ H48.1 11 45 0 ≤ 299 := hT49.2.1 45
          have f85b : H48.1 11 45 0 < H48.1 11 12 0 := hT49.2.2.2 45 rfl
          refine J.run 6 rfl (show 0 ≤ b ∧ b < 300 from ⟨by omega, by omega⟩) ?_
          try dsimp only
          refine J.icmp rfl rfl rfl ⟨(show -2147483648 ≤ H48.2.2.1 55 0 (b) ∧ H48.2.2.1 55 0 (b) ≤ 2147483647 from ⟨by omega, by omega⟩), (show -2147483648 ≤ H48.1 11 45 0 ∧ H48.1 11 45 0 ≤ 2147483647 from ⟨by omega, by omega⟩)⟩ (fun hc => ?_) (fun hc => ?_)
          · have c86 : ¬ (H48.2.2.1 55 0 (b) = H48.1 11 45 0) := hc
            clear hc
            refine J.run0 1 rfl ?_
            try dsimp only
            exact J.retb rfl rfl rfl (show (0 : Int) = 0 ∨ (0 : Int) = 1 by omega) ⟨_, rfl, rfl, hT49, hE50, k51, k52, k53, k54, k55, k56, k57, k58, k59, _, rfl, (show (((0 : Int)) = 0 ∨ ((0 : Int)) = 1) ∧ (((0 : Int)) = 1 → H48.1 11 45 0 = b) ∧ (((0 : Int)) = 0 → H48.1 11 45 0 = H.1 11 45 0) from ⟨by omega, by omega, by omega⟩)⟩
          · have c87 : ¬ (¬ (H48.2.2.1 55 0 (b) = H48.1 11 45 0)) := hc
            clear hc
            refine J.run0 3 rfl ?_
            try dsimp only
            refine J.inv rfl rfl rfl rfl rfl rfl jDr rfl rfl rfl rfl rfl (g_isSound (b := H48.1 11 45 0) hT49 k51 k52 k53 k54 (show 0 ≤ (H48.1 11 45 0) ∧ (H48.1 11 45 0) < 300 from ⟨by omega, by omega⟩) (show (H48.1 11 45 0) < H48.1 11 12 0 from by omega)) ?_
            rintro v w H90 ⟨rfl, hT91, ehE92, k93, k94, k95, k96, x88, rfl, r89⟩
            have hE92 := jEx.trans ehE92 hE50 (by decide) (by decide)
            have r89' : 0 ≤ x88 ∧ x88 ≤ 1 := r89
            have k97 : gQ H90 := gQ.ex k55 ehE92 (by decide)
            have k98 : gB H90 := gB.ex k56 ehE92 (by decide)
            have k99 : gK H90 := gK.ex k57 ehE92 (by decide)
            have k100 : gN H90 := gN.ex k58 ehE92 (by decide)
            have k101 : gW H90 (H90.1 11 19 0) := gWm.ex k59 ehE92 (by decide)
            have g102 : H90.1 11 12 0 = H48.1 11 12 0 := ehE92.v 12 (by decide)
            have g103 : H90.1 11 45 0 = H48.1 11 45 0 := ehE92.v 45 (by decide)
            have g104 : H90.2.2.1 56 0 (b) = H48.2.2.1 56 0 (b) := congrFun (ehE92.r 56 (by decide)) _
            have g105 : H90.2.2.1 56 0 (H22.1 11 45 0) = H48.2.2.1 56 0 (H22.1 11 45 0) := congrFun (ehE92.r 56 (by decide)) _
            have g106 : H90.2.2.1 55 0 (b) = H48.2.2.1 55 0 (b) := congrFun (ehE92.r 55 (by decide)) _
            try dsimp only [Option.toList, List.append, List.cons_append, List.nil_append]
            refine J.ifc rfl rfl rfl (show -2147483648 ≤ x88 ∧ x88 ≤ 2147483647 from ⟨by omega, by omega⟩) (fun hc => ?_) (fun hc => ?_)
            · have c107 : ¬ (x88 = (0 : Int)) := hc
              clear hc
              have f108 : 0 ≤ H90.1 11 45 0 ∧ H90.1 11 45 0 ≤ 299 := hT91.2.1 45
              have f109 : 1 ≤ H90.1 11 12 0 ∧ H90.1 11 12 0 ≤ 300 := hT91.2.1 12
              have f108b : H90.1 11 45 0 < H90.1 11 12 0 := hT91.2.2.2 45 rfl
              refine J.run0 3 rfl ?_
              try dsimp only
              refine J.inv rfl rfl rfl rfl rfl rfl jDr rfl rfl rfl rfl rfl (g_state (b := H90.1 11 45 0) hT91 k93 k94 k95 (show 0 ≤ (H90.1 11 45 0) ∧ (H90.1 11 45 0) < 300 from ⟨by omega, by omega⟩) (show (H90.1 11 45 0) < H90.1 11 12 0 from by omega)) ?_
              rintro v w H112 ⟨rfl, hT113, ehE114, k115, k116, k117, rfl⟩
              have hE114 := jEx.trans ehE114 hE92 (by decide) (by decide)
              have k118 : gZ H112 := gZ.ex k96 ehE114 (by decide)
              have k119 : gQ H112 := gQ.ex k97 ehE114 (by decide)
              have k120 : gB H112 := gB.ex k98 ehE114 (by decide)
              have k121 : gK H112 := gK.ex k99 ehE114 (by decide)
              have k122 : gN H112 := gN.ex k100 ehE114 (by decide)
              have k123 : gW H112 (H112.1 11 19 0) := gWm.ex k101 ehE114 (by decide)
              have g124 : H112.1 11 12 0 = H90.1 11 12 0 := ehE114.v 12 (by decide)
              have g125 : H112.1 11 45 0 = H90.1 11 45 0 := ehE114.v 45 (by decide)
              have g126 : H112.2.2.1 56 0 (b) = H90.2.2.1 56 0 (b) := congrFun (ehE114.r 56 (by decide)) _
              have g127 : H112.2.2.1 56 0 (H22.1 11 45 0) = H90.2.2.1 56 0 (H22.1 11 45 0) := congrFun (ehE114.r 56 (by decide)) _
              have g128 : H112.2.2.1 55 0 (b) = H90.2.2.1 55 0 (b) := congrFun (ehE114.r 55 (by decide)) _
              try dsimp only [Option.toList, List.append, List.cons_append, List.nil_append]
              refine J.run0 2 rfl ?_
              try dsimp only
              exact (g_looks_l0 (H0 := H) (b := b)  hp0 hp1 ((16 - ((0 : Int)) : Int).toNat + 1)) ((0 : Int)) H112 _ (show 16 - ((0 : Int)) < _ by omega) (show 0 ≤ ((0 : Int)) ∧ ((0 : Int)) ≤ 16 from ⟨by omega, by omega⟩) (show b < H112.1 11 12 0 from by omega) (show H112.1 11 45 0 = H.1 11 45 0 from by omega) hT113 hE114 k115 k116 k117 k118 k119 k120 k121 k122 k123 ⟨_, rfl⟩
            · have c129 : ¬ (¬ (x88 = (0 : Int))) := hc
              clear hc
              refine J.run0 1 rfl ?_
              try dsimp only
              exact J.retb rfl rfl rfl (show (0 : Int) = 0 ∨ (0 : Int) = 1 by omega) ⟨_, rfl, rfl, hT91, hE92, k93, k94, k95, k96, k97, k98, k99, k100, k101, _, rfl, (show (((0 : Int)) = 0 ∨ ((0 : Int)) = 1) ∧ (((0 : Int)) = 1 → H90.1 11 45 0 = b) ∧ (((0 : Int)) = 0 → H90.1 11 45 0 = H.1 11 45 0) from ⟨by omega, by omega, by omega⟩)⟩
      · have c130 : ¬ (¬ (x46 = (0 : Int))) := hc
        clear hc
        refine J.run0 1 rfl ?_
        try dsimp only
        exact J.retb rfl rfl rfl (show (0 : Int) = 0 ∨ (0 : Int) = 1 by omega) ⟨_, rfl, rfl, hT49, hE50, k51, k52, k53, k54, k55, k56, k57, k58, k59, _, rfl, (show (((0 : Int)) = 0 ∨ ((0 : Int)) = 1) ∧ (((0 : Int)) = 1 → H48.1 11 45 0 = b) ∧ (((0 : Int)) = 0 → H48.1 11 45 0 = H.1 11 45 0) from ⟨by omega, by omega, by omega⟩)⟩
end
