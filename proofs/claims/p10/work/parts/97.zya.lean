-- M: X11_deliver
section
variable {d : Nat} {w : jW} 
-- 
theorem g_deliver {m n : Int} {H : jH} (hT : gT H) (k0gP : gP H) (k0gX : gX H) (k0gL : gL H) (k0gZ : gZ H) (k0gQ : gQ H) (k0gB : gB H) (k0gK : gK H) (k0gN : gN H) (k0gW : gW H (H.1 11 19 0)) (hp0 : -2147483648 ≤ m ∧ m ≤ 2147483647) (hp1 : -2147483648 ≤ n ∧ n ≤ 2147483647) : J true (d + 307) 149 w (0, jargs 0 [jT, .inl m, .inl n], [], H) (jN fun v w' H' => w' = w ∧ gT H' ∧ jEx [19, 12, 48, 56, 57, 47] [60, 56, 59, 58, 55, 57, 61, 99, 100, 77, 78, 82, 80, 114, 115, 81, 105, 71, 70, 72, 75, 76, 68, 67, 65, 63, 64, 66, 112, 113, 108, 110, 101, 102, 103, 104, 83, 73, 74, 84, 111, 89, 88, 93, 94, 86, 91, 92, 85, 87, 90] H' H ∧ gP H' ∧ gX H' ∧ gL H' ∧ gZ H' ∧ gQ H' ∧ gB H' ∧ gK H' ∧ gN H' ∧ gW H' (H'.1 11 19 0) ∧ ∃ x, v = some (.inl x) ∧ (-6000) ≤ x ∧ x ≤ 6000) := by
  have hE : jEx [19, 12, 48, 56, 57, 47] [60, 56, 59, 58, 55, 57, 61, 99, 100, 77, 78, 82, 80, 114, 115, 81, 105, 71, 70, 72, 75, 76, 68, 67, 65, 63, 64, 66, 112, 113, 108, 110, 101, 102, 103, 104, 83, 73, 74, 84, 111, 89, 88, 93, 94, 86, 91, 92, 85, 87, 90] H H := jEx.refl _ _ _
  have f1 : 0 ≤ H.1 11 19 0 ∧ H.1 11 19 0 ≤ 6000 := hT.2.1 19
  refine J.run0 7 rfl ?_
  try dsimp only
  refine J.ins rfl rfl rfl rfl rfl rfl rfl rfl rfl (g_in (u := m) (a := (0 : Int)) (b := (H.1 11 19 0) - (1 : Int)) hT  (show -2147483648 ≤ (m) ∧ (m) ≤ 2147483647 from ⟨by omega, by omega⟩) (show -2147483648 ≤ ((0 : Int)) ∧ ((0 : Int)) ≤ 2147483647 from ⟨by omega, by omega⟩) (show -2147483648 ≤ ((H.1 11 19 0) - (1 : Int)) ∧ ((H.1 11 19 0) - (1 : Int)) ≤ 2147483647 from ⟨by omega, by omega⟩)) ?_
  rintro v w H ⟨rfl, rfl, x2, rfl, r3⟩
  have r3' : (x2 = 0 ∨ x2 = 1) ∧ (x2 = 1 → (m) ≥ ((0 : Int)) ∧ (m) ≤ ((H.1 11 19 0) - (1 : Int))) ∧ (x2 = 0 → (m) < ((0 : Int)) ∨ ((H.1 11 19 0) - (1 : Int)) < (m)) := r3
  try dsimp only [Option.toList, List.append, List.cons_append, List.nil_append]
  refine J.ifc rfl rfl rfl (show -2147483648 ≤ x2 ∧ x2 ≤ 2147483647 from ⟨by omega, by omega⟩) (fun hc => ?_) (fun hc => ?_)
  · have c4 : x2 = (0 : Int) := hc
    clear hc
    refine J.run0 2 rfl ?_
    try dsimp only
    refine J.gn fun H5 hH5 => ?_
    have hT6 : gT H5 := by rw [hH5]; exact gT.num (f := 47) hT (show 0 ≤ (1 : Int) ∧ (1 : Int) ≤ 3 from ⟨by omega, by omega⟩) (by decide) (fun z => absurd z (by decide))
    have hE7 : jEx [19, 12, 48, 56, 57, 47] [60, 56, 59, 58, 55, 57, 61, 99, 100, 77, 78, 82, 80, 114, 115, 81, 105, 71, 70, 72, 75, 76, 68, 67, 65, 63, 64, 66, 112, 113, 108, 110, 101, 102, 103, 104, 83, 73, 74, 84, 111, 89, 88, 93, 94, 86, 91, 92, 85, 87, 90] H5 H := by rw [hH5]; exact jEx.num hE (by decide)
    have k8 : gP H5 := by rw [hH5]; exact k0gP
    have k9 : gX H5 := by rw [hH5]; exact k0gX
    have k10 : gL H5 := by rw [hH5]; exact k0gL
    have k11 : gZ H5 := by rw [hH5]; exact k0gZ
    have k12 : gQ H5 := by rw [hH5]; exact k0gQ
    have k13 : gB H5 := by rw [hH5]; exact k0gB
    have k14 : gK H5 := by rw [hH5]; exact k0gK
    have k15 : gN H5 := by rw [hH5]; exact k0gN
    have k16 : gW H5 (H5.1 11 19 0) := by rw [hH5]; exact k0gW
    have g17 : H5.1 11 47 0 = (1 : Int) := by subst hH5; rfl
    have g18 : H5.1 11 12 0 = H.1 11 12 0 := by subst hH5; rfl
    have g19 : H5.1 11 19 0 = H.1 11 19 0 := by subst hH5; rfl
    clear hH5
    have f20 : 0 ≤ H5.1 11 47 0 ∧ H5.1 11 47 0 ≤ 3 := hT6.2.1 47
    refine J.run0 2 rfl ?_
    try dsimp only
    refine J.ifc rfl rfl rfl (show -2147483648 ≤ H5.1 11 47 0 ∧ H5.1 11 47 0 ≤ 2147483647 from ⟨by omega, by omega⟩) (fun hc => ?_) (fun hc => ?_)
    · have c21 : H5.1 11 47 0 ≤ (0 : Int) := hc
      clear hc
      refine J.run0 3 rfl ?_
      try dsimp only
      refine J.inv rfl rfl rfl rfl rfl rfl jDr rfl rfl rfl rfl rfl (g_came (m := m) (n := n) hT6 k8 k9 k10 k11 k12 k13 k14 k15 k16 (show 0 ≤ (m) ∧ (m) < 6000 from ⟨by omega, by omega⟩) (show (m) < H5.1 11 19 0 from by omega) (show 0 ≤ (n) ∧ (n) < 16 from ⟨by omega, by omega⟩)) ?_
      rintro v w H24 ⟨rfl, hT25, ehE26, k27, k28, k29, k30, k31, k32, k33, k34, k35, p36, x22, rfl, r23⟩
      have hE26 := jEx.trans ehE26 hE7 (by decide) (by decide)
      have p36' : H5.1 11 19 0 ≤ H24.1 11 19 0 := p36
      have r23' : (-6000) ≤ x22 ∧ x22 ≤ 6000 := r23
      try dsimp only [Option.toList, List.append, List.cons_append, List.nil_append]
      exact J.reti rfl rfl rfl ⟨_, rfl, rfl, hT25, hE26, k27, k28, k29, k30, k31, k32, k33, k34, k35, _, rfl, (show (-6000) ≤ (x22) ∧ (x22) ≤ 6000 from ⟨by omega, by omega⟩)⟩
    · have c37 : ¬ (H5.1 11 47 0 ≤ (0 : Int)) := hc
      clear hc
      refine J.run0 2 rfl ?_
      try dsimp only
      exact J.reti rfl rfl rfl ⟨_, rfl, rfl, hT6, hE7, k8, k9, k10, k11, k12, k13, k14, k15, k16, _, rfl, (show (-6000) ≤ ((0 : Int)) ∧ ((0 : Int)) ≤ 6000 from ⟨by omega, by omega⟩)⟩
  · have c38 : ¬ (x2 = (0 : Int)) := hc
    clear hc
    refine J.run0 3 rfl ?_
    try dsimp only
    refine J.ins rfl rfl rfl rfl rfl rfl rfl rfl rfl (g_in (u := n) (a := (0 : Int)) (b := (15 : Int)) hT  (show -2147483648 ≤ (n) ∧ (n) ≤ 2147483647 from ⟨by omega, by omega⟩) (show -2147483648 ≤ ((0 : Int)) ∧ ((0 : Int)) ≤ 2147483647 from ⟨by omega, by omega⟩) (show -2147483648 ≤ ((15 : Int)) ∧ ((15 : Int)) ≤ 2147483647 from ⟨by omega, by omega⟩)) ?_
    rintro v w H ⟨rfl, rfl, x39, rfl, r40⟩
    have r40' : (x39 = 0 ∨ x39 = 1) ∧ (x39 = 1 → (n) ≥ ((0 : Int)) ∧ (n) ≤ ((15 : Int))) ∧ (x39 = 0 → (n) < ((0 : Int)) ∨ ((15 : Int)) < (n)) := r40
    try dsimp only [Option.toList, List.append, List.cons_append, List.nil_append]
    refine J.ifc rfl rfl rfl (show -2147483648 ≤ x39 ∧ x39 ≤ 2147483647 from ⟨by omega, by omega⟩) (fun hc => ?_) (fun hc => ?_)
    · have c41 : x39 = (0 : Int) := hc
      clear hc
      refine J.run0 2 rfl ?_
      try dsimp only
      refine J.gn fun H42 hH42 => ?_
      have hT43 : gT H42 := by rw [hH42]; exact gT.num (f := 47) hT (show 0 ≤ (1 : Int) ∧ (1 : Int) ≤ 3 from ⟨by omega, by omega⟩) (by decide) (fun z => absurd z (by decide))
      have hE44 : jEx [19, 12, 48, 56, 57, 47] [60, 56, 59, 58, 55, 57, 61, 99, 100, 77, 78, 82, 80, 114, 115, 81, 105, 71, 70, 72, 75, 76, 68, 67, 65, 63, 64, 66, 112, 113, 108, 110, 101, 102, 103, 104, 83, 73, 74, 84, 111, 89, 88, 93, 94, 86, 91, 92, 85, 87, 90] H42 H := by rw [hH42]; exact jEx.num hE (by decide)
      have k45 : gP H42 := by rw [hH42]; exact k0gP
      have k46 : gX H42 := by rw [hH42]; exact k0gX
      have k47 : gL H42 := by rw [hH42]; exact k0gL
      have k48 : gZ H42 := by rw [hH42]; exact k0gZ
      have k49 : gQ H42 := by rw [hH42]; exact k0gQ
      have k50 : gB H42 := by rw [hH42]; exact k0gB
      have k51 : gK H42 := by rw [hH42]; exact k0gK
      have k52 : gN H42 := by rw [hH42]; exact k0gN
      have k53 : gW H42 (H42.1 11 19 0) := by rw [hH42]; exact k0gW
      have g54 : H42.1 11 47 0 = (1 : Int) := by subst hH42; rfl
      have g55 : H42.1 11 12 0 = H.1 11 12 0 := by subst hH42; rfl
      have g56 : H42.1 11 19 0 = H.1 11 19 0 := by subst hH42; rfl
      clear hH42
      have f57 : 0 ≤ H42.1 11 47 0 ∧ H42.1 11 47 0 ≤ 3 := hT43.2.1 47
      refine J.run0 2 rfl ?_
      try dsimp only
      refine J.ifc rfl rfl rfl (show -2147483648 ≤ H42.1 11 47 0 ∧ H42.1 11 47 0 ≤ 2147483647 from ⟨by omega, by omega⟩) (fun hc => ?_) (fun hc => ?_)
      · have c58 : H42.1 11 47 0 ≤ (0 : Int) := hc
        clear hc
        refine J.run0 3 rfl ?_
        try dsimp only
        refine J.inv rfl rfl rfl rfl rfl rfl jDr rfl rfl rfl rfl rfl (g_came (m := m) (n := n) hT43 k45 k46 k47 k48 k49 k50 k51 k52 k53 (show 0 ≤ (m) ∧ (m) < 6000 from ⟨by omega, by omega⟩) (show (m) < H42.1 11 19 0 from by omega) (show 0 ≤ (n) ∧ (n) < 16 from ⟨by omega, by omega⟩)) ?_
        rintro v w H61 ⟨rfl, hT62, ehE63, k64, k65, k66, k67, k68, k69, k70, k71, k72, p73, x59, rfl, r60⟩
        have hE63 := jEx.trans ehE63 hE44 (by decide) (by decide)
        have p73' : H42.1 11 19 0 ≤ H61.1 11 19 0 := p73
        have r60' : (-6000) ≤ x59 ∧ x59 ≤ 6000 := r60
        try dsimp only [Option.toList, List.append, List.cons_append, List.nil_append]
        exact J.reti rfl rfl rfl ⟨_, rfl, rfl, hT62, hE63, k64, k65, k66, k67, k68, k69, k70, k71, k72, _, rfl, (show (-6000) ≤ (x59) ∧ (x59) ≤ 6000 from ⟨by omega, by omega⟩)⟩
      · have c74 : ¬ (H42.1 11 47 0 ≤ (0 : Int)) := hc
        clear hc
        refine J.run0 2 rfl ?_
        try dsimp only
        exact J.reti rfl rfl rfl ⟨_, rfl, rfl, hT43, hE44, k45, k46, k47, k48, k49, k50, k51, k52, k53, _, rfl, (show (-6000) ≤ ((0 : Int)) ∧ ((0 : Int)) ≤ 6000 from ⟨by omega, by omega⟩)⟩
    · have c75 : ¬ (x39 = (0 : Int)) := hc
      clear hc
      refine J.run0 3 rfl ?_
      try dsimp only
      refine J.gn fun H76 hH76 => ?_
      have hT77 : gT H76 := by rw [hH76]; exact gT.num (f := 47) hT (show 0 ≤ (0 : Int) ∧ (0 : Int) ≤ 3 from ⟨by omega, by omega⟩) (by decide) (fun z => absurd z (by decide))
      have hE78 : jEx [19, 12, 48, 56, 57, 47] [60, 56, 59, 58, 55, 57, 61, 99, 100, 77, 78, 82, 80, 114, 115, 81, 105, 71, 70, 72, 75, 76, 68, 67, 65, 63, 64, 66, 112, 113, 108, 110, 101, 102, 103, 104, 83, 73, 74, 84, 111, 89, 88, 93, 94, 86, 91, 92, 85, 87, 90] H76 H := by rw [hH76]; exact jEx.num hE (by decide)
      have k79 : gP H76 := by rw [hH76]; exact k0gP
      have k80 : gX H76 := by rw [hH76]; exact k0gX
      have k81 : gL H76 := by rw [hH76]; exact k0gL
      have k82 : gZ H76 := by rw [hH76]; exact k0gZ
      have k83 : gQ H76 := by rw [hH76]; exact k0gQ
      have k84 : gB H76 := by rw [hH76]; exact k0gB
      have k85 : gK H76 := by rw [hH76]; exact k0gK
      have k86 : gN H76 := by rw [hH76]; exact k0gN
      have k87 : gW H76 (H76.1 11 19 0) := by rw [hH76]; exact k0gW
      have g88 : H76.1 11 47 0 = (0 : Int) := by subst hH76; rfl
      have g89 : H76.1 11 12 0 = H.1 11 12 0 := by subst hH76; rfl
      have g90 : H76.1 11 19 0 = H.1 11 19 0 := by subst hH76; rfl
      clear hH76
      have f91 : 0 ≤ H76.1 11 47 0 ∧ H76.1 11 47 0 ≤ 3 := hT77.2.1 47
      refine J.run0 2 rfl ?_
      try dsimp only
      refine J.ifc rfl rfl rfl (show -2147483648 ≤ H76.1 11 47 0 ∧ H76.1 11 47 0 ≤ 2147483647 from ⟨by omega, by omega⟩) (fun hc => ?_) (fun hc => ?_)
      · have c92 : H76.1 11 47 0 ≤ (0 : Int) := hc
        clear hc
        refine J.run0 3 rfl ?_
        try dsimp only
        refine J.inv rfl rfl rfl rfl rfl rfl jDr rfl rfl rfl rfl rfl (g_came (m := m) (n := n) hT77 k79 k80 k81 k82 k83 k84 k85 k86 k87 (show 0 ≤ (m) ∧ (m) < 6000 from ⟨by omega, by omega⟩) (show (m) < H76.1 11 19 0 from by omega) (show 0 ≤ (n) ∧ (n) < 16 from ⟨by omega, by omega⟩)) ?_
        rintro v w H95 ⟨rfl, hT96, ehE97, k98, k99, k100, k101, k102, k103, k104, k105, k106, p107, x93, rfl, r94⟩
        have hE97 := jEx.trans ehE97 hE78 (by decide) (by decide)
        have p107' : H76.1 11 19 0 ≤ H95.1 11 19 0 := p107
        have r94' : (-6000) ≤ x93 ∧ x93 ≤ 6000 := r94
        try dsimp only [Option.toList, List.append, List.cons_append, List.nil_append]
        exact J.reti rfl rfl rfl ⟨_, rfl, rfl, hT96, hE97, k98, k99, k100, k101, k102, k103, k104, k105, k106, _, rfl, (show (-6000) ≤ (x93) ∧ (x93) ≤ 6000 from ⟨by omega, by omega⟩)⟩
      · have c108 : ¬ (H76.1 11 47 0 ≤ (0 : Int)) := hc
        clear hc
        refine J.run0 2 rfl ?_
        try dsimp only
        exact J.reti rfl rfl rfl ⟨_, rfl, rfl, hT77, hE78, k79, k80, k81, k82, k83, k84, k85, k86, k87, _, rfl, (show (-6000) ≤ ((0 : Int)) ∧ ((0 : Int)) ≤ 6000 from ⟨by omega, by omega⟩)⟩
end
