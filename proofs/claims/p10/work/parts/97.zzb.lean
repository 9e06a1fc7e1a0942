-- M: X11_follow
section
variable {d : Nat} {w : jW} 
-- 
theorem g_follow {b : Int} {H : jH} (hT : gT H) (k0gP : gP H) (k0gX : gX H) (k0gL : gL H) (k0gZ : gZ H) (k0gQ : gQ H) (k0gB : gB H) (k0gK : gK H) (k0gN : gN H) (k0gW : gW H (H.1 11 19 0)) (hp0 : -2147483648 ≤ b ∧ b ≤ 2147483647) : J true (d + 607) 168 w (0, jargs 0 [jT, .inl b], [], H) (jN fun v w' H' => w' = w ∧ gT H' ∧ jEx [48, 56, 57, 46, 45, 47] [108, 99, 100, 101, 105, 102, 103, 104, 61, 81] H' H ∧ gP H' ∧ gX H' ∧ gL H' ∧ gZ H' ∧ gQ H' ∧ gB H' ∧ gK H' ∧ gN H' ∧ gW H' (H'.1 11 19 0) ∧ ∃ x, v = some (.inl x) ∧ True) := by
  have hE : jEx [48, 56, 57, 46, 45, 47] [108, 99, 100, 101, 105, 102, 103, 104, 61, 81] H H := jEx.refl _ _ _
  have f1 : 1 ≤ H.1 11 12 0 ∧ H.1 11 12 0 ≤ 300 := hT.2.1 12
  refine J.run0 7 rfl ?_
  try dsimp only
  refine J.ins rfl rfl rfl rfl rfl rfl rfl rfl rfl (g_in (u := b) (a := (0 : Int)) (b := (H.1 11 12 0) - (1 : Int)) hT  (show -2147483648 ≤ (b) ∧ (b) ≤ 2147483647 from ⟨by omega, by omega⟩) (show -2147483648 ≤ ((0 : Int)) ∧ ((0 : Int)) ≤ 2147483647 from ⟨by omega, by omega⟩) (show -2147483648 ≤ ((H.1 11 12 0) - (1 : Int)) ∧ ((H.1 11 12 0) - (1 : Int)) ≤ 2147483647 from ⟨by omega, by omega⟩)) ?_
  rintro v w H ⟨rfl, rfl, x2, rfl, r3⟩
  have r3' : (x2 = 0 ∨ x2 = 1) ∧ (x2 = 1 → (b) ≥ ((0 : Int)) ∧ (b) ≤ ((H.1 11 12 0) - (1 : Int))) ∧ (x2 = 0 → (b) < ((0 : Int)) ∨ ((H.1 11 12 0) - (1 : Int)) < (b)) := r3
  try dsimp only [Option.toList, List.append, List.cons_append, List.nil_append]
  refine J.ifc rfl rfl rfl (show -2147483648 ≤ x2 ∧ x2 ≤ 2147483647 from ⟨by omega, by omega⟩) (fun hc => ?_) (fun hc => ?_)
  · have c4 : x2 = (0 : Int) := hc
    clear hc
    refine J.run0 2 rfl ?_
    try dsimp only
    refine J.gn fun H5 hH5 => ?_
    have hT6 : gT H5 := by rw [hH5]; exact gT.num (f := 47) hT (show 0 ≤ (1 : Int) ∧ (1 : Int) ≤ 3 from ⟨by omega, by omega⟩) (by decide) (fun z => absurd z (by decide))
    have hE7 : jEx [48, 56, 57, 46, 45, 47] [108, 99, 100, 101, 105, 102, 103, 104, 61, 81] H5 H := by rw [hH5]; exact jEx.num hE (by decide)
    have k8 : gP H5 := by rw [hH5]; exact k0gP
    have k9 : gX H5 := by rw [hH5]; exact k0gX
    have k10 : gL H5 := by rw [hH5]; exact k0gL
    have k11 : gZ H5 := by rw [hH5]; exact k0gZ
    have k12 : gQ H5 := by rw [hH5]; exact k0gQ
    have k13 : gB H5 := by rw [hH5]; exact k0gB
    have k14 : gK H5 := by rw [hH5]; exact k0gK
    have k15 : gN H5 := by rw [hH5]; exact k0gN
    have k16 : gW H5 (H5.1 11 19 0) := by rw [hH5]; exact k0gW
    have g17 : H5.1 11 47 0 = (1 : Int) := by subst hH5; rfl
    have g18 : H5.1 11 12 0 = H.1 11 12 0 := by subst hH5; rfl
    clear hH5
    have f19 : 0 ≤ H5.1 11 47 0 ∧ H5.1 11 47 0 ≤ 3 := hT6.2.1 47
    refine J.run0 2 rfl ?_
    try dsimp only
    refine J.ifc rfl rfl rfl (show -2147483648 ≤ H5.1 11 47 0 ∧ H5.1 11 47 0 ≤ 2147483647 from ⟨by omega, by omega⟩) (fun hc => ?_) (fun hc => ?_)
    · have c20 : H5.1 11 47 0 ≤ (0 : Int) := hc
      clear hc
      refine J.run0 3 rfl ?_
      try dsimp only
      refine J.gn fun H21 hH21 => ?_
      have hT22 : gT H21 := by rw [hH21]; exact gT.num (f := 46) hT6 trivial (by decide) (fun z => absurd z (by decide))
      have hE23 : jEx [48, 56, 57, 46, 45, 47] [108, 99, 100, 101, 105, 102, 103, 104, 61, 81] H21 H := by rw [hH21]; exact jEx.num hE7 (by decide)
      have k24 : gP H21 := by rw [hH21]; exact k8
      have k25 : gX H21 := by rw [hH21]; exact k9
      have k26 : gL H21 := by rw [hH21]; exact k10
      have k27 : gZ H21 := by rw [hH21]; exact k11
      have k28 : gQ H21 := by rw [hH21]; exact k12
      have k29 : gB H21 := by rw [hH21]; exact k13
      have k30 : gK H21 := by rw [hH21]; exact k14
      have k31 : gN H21 := by rw [hH21]; exact k15
      have k32 : gW H21 (H21.1 11 19 0) := by rw [hH21]; exact k16
      have g33 : H21.1 11 46 0 = (0 : Int) := by subst hH21; rfl
      have g34 : H21.1 11 12 0 = H5.1 11 12 0 := by subst hH21; rfl
      clear hH21
      refine J.run0 2 rfl ?_
      try dsimp only
      have f35 : 1 ≤ H21.1 11 12 0 ∧ H21.1 11 12 0 ≤ 300 := hT22.2.1 12
      refine J.inv rfl rfl rfl rfl rfl rfl jDr rfl rfl rfl rfl rfl (g_follows (b := b) hT22 k24 k25 k26 k27 k28 k29 k30 k31 k32 (show 0 ≤ (b) ∧ (b) < 300 from ⟨by omega, by omega⟩) (show (b) < H21.1 11 12 0 from by omega)) ?_
      rintro v w H38 ⟨rfl, hT39, ehE40, k41, k42, k43, k44, k45, k46, k47, k48, k49, x36, rfl, r37⟩
      have hE40 := jEx.trans ehE40 hE23 (by decide) (by decide)
      have r37' : (x36 = 0 ∨ x36 = 1) ∧ (x36 = 1 → H38.1 11 45 0 = (b)) := r37
      have g50 : H38.1 11 12 0 = H21.1 11 12 0 := ehE40.v 12 (by decide)
      try dsimp only [Option.toList, List.append, List.cons_append, List.nil_append]
      refine J.ifc rfl rfl rfl (show -2147483648 ≤ x36 ∧ x36 ≤ 2147483647 from ⟨by omega, by omega⟩) (fun hc => ?_) (fun hc => ?_)
      · have c51 : x36 = (0 : Int) := hc
        clear hc
        refine J.run0 3 rfl ?_
        try dsimp only
        exact J.reti rfl rfl rfl ⟨_, rfl, rfl, hT39, hE40, k41, k42, k43, k44, k45, k46, k47, k48, k49, _, rfl, (show True from trivial)⟩
      · have c52 : ¬ (x36 = (0 : Int)) := hc
        clear hc
        refine J.run0 3 rfl ?_
        try dsimp only
        exact J.reti rfl rfl rfl ⟨_, rfl, rfl, hT39, hE40, k41, k42, k43, k44, k45, k46, k47, k48, k49, _, rfl, (show True from trivial)⟩
    · have c53 : ¬ (H5.1 11 47 0 ≤ (0 : Int)) := hc
      clear hc
      refine J.run0 1 rfl ?_
      try dsimp only
      exact J.reti rfl rfl rfl ⟨_, rfl, rfl, hT6, hE7, k8, k9, k10, k11, k12, k13, k14, k15, k16, _, rfl, (show True from trivial)⟩
  · have c54 : ¬ (x2 = (0 : Int)) := hc
    clear hc
    refine J.run0 3 rfl ?_
    try dsimp only
    refine J.gn fun H55 hH55 => ?_
    have hT56 : gT H55 := by rw [hH55]; exact gT.num (f := 47) hT (show 0 ≤ (0 : Int) ∧ (0 : Int) ≤ 3 from ⟨by omega, by omega⟩) (by decide) (fun z => absurd z (by decide))
    have hE57 : jEx [48, 56, 57, 46, 45, 47] [108, 99, 100, 101, 105, 102, 103, 104, 61, 81] H55 H := by rw [hH55]; exact jEx.num hE (by decide)
    have k58 : gP H55 := by rw [hH55]; exact k0gP
    have k59 : gX H55 := by rw [hH55]; exact k0gX
    have k60 : gL H55 := by rw [hH55]; exact k0gL
    have k61 : gZ H55 := by rw [hH55]; exact k0gZ
    have k62 : gQ H55 := by rw [hH55]; exact k0gQ
    have k63 : gB H55 := by rw [hH55]; exact k0gB
    have k64 : gK H55 := by rw [hH55]; exact k0gK
    have k65 : gN H55 := by rw [hH55]; exact k0gN
    have k66 : gW H55 (H55.1 11 19 0) := by rw [hH55]; exact k0gW
    have g67 : H55.1 11 47 0 = (0 : Int) := by subst hH55; rfl
    have g68 : H55.1 11 12 0 = H.1 11 12 0 := by subst hH55; rfl
    clear hH55
    have f69 : 0 ≤ H55.1 11 47 0 ∧ H55.1 11 47 0 ≤ 3 := hT56.2.1 47
    refine J.run0 2 rfl ?_
    try dsimp only
    refine J.ifc rfl rfl rfl (show -2147483648 ≤ H55.1 11 47 0 ∧ H55.1 11 47 0 ≤ 2147483647 from ⟨by omega, by omega⟩) (fun hc => ?_) (fun hc => ?_)
    · have c70 : H55.1 11 47 0 ≤ (0 : Int) := hc
      clear hc
      refine J.run0 3 rfl ?_
      try dsimp only
      refine J.gn fun H71 hH71 => ?_
      have hT72 : gT H71 := by rw [hH71]; exact gT.num (f := 46) hT56 trivial (by decide) (fun z => absurd z (by decide))
      have hE73 : jEx [48, 56, 57, 46, 45, 47] [108, 99, 100, 101, 105, 102, 103, 104, 61, 81] H71 H := by rw [hH71]; exact jEx.num hE57 (by decide)
      have k74 : gP H71 := by rw [hH71]; exact k58
      have k75 : gX H71 := by rw [hH71]; exact k59
      have k76 : gL H71 := by rw [hH71]; exact k60
      have k77 : gZ H71 := by rw [hH71]; exact k61
      have k78 : gQ H71 := by rw [hH71]; exact k62
      have k79 : gB H71 := by rw [hH71]; exact k63
      have k80 : gK H71 := by rw [hH71]; exact k64
      have k81 : gN H71 := by rw [hH71]; exact k65
      have k82 : gW H71 (H71.1 11 19 0) := by rw [hH71]; exact k66
      have g83 : H71.1 11 46 0 = (0 : Int) := by subst hH71; rfl
      have g84 : H71.1 11 12 0 = H55.1 11 12 0 := by subst hH71; rfl
      clear hH71
      refine J.run0 2 rfl ?_
      try dsimp only
      have f85 : 1 ≤ H71.1 11 12 0 ∧ H71.1 11 12 0 ≤ 300 := hT72.2.1 12
      refine J.inv rfl rfl rfl rfl rfl rfl jDr rfl rfl rfl rfl rfl (g_follows (b := b) hT72 k74 k75 k76 k77 k78 k79 k80 k81 k82 (show 0 ≤ (b) ∧ (b) < 300 from ⟨by omega, by omega⟩) (show (b) < H71.1 11 12 0 from by omega)) ?_
      rintro v w H88 ⟨rfl, hT89, ehE90, k91, k92, k93, k94, k95, k96, k97, k98, k99, x86, rfl, r87⟩
      have hE90 := jEx.trans ehE90 hE73 (by decide) (by decide)
      have r87' : (x86 = 0 ∨ x86 = 1) ∧ (x86 = 1 → H88.1 11 45 0 = (b)) := r87
      have g100 : H88.1 11 12 0 = H71.1 11 12 0 := ehE90.v 12 (by decide)
      try dsimp only [Option.toList, List.append, List.cons_append, List.nil_append]
      refine J.ifc rfl rfl rfl (show -2147483648 ≤ x86 ∧ x86 ≤ 2147483647 from ⟨by omega, by omega⟩) (fun hc => ?_) (fun hc => ?_)
      · have c101 : x86 = (0 : Int) := hc
        clear hc
        refine J.run0 3 rfl ?_
        try dsimp only
        exact J.reti rfl rfl rfl ⟨_, rfl, rfl, hT89, hE90, k91, k92, k93, k94, k95, k96, k97, k98, k99, _, rfl, (show True from trivial)⟩
      · have c102 : ¬ (x86 = (0 : Int)) := hc
        clear hc
        refine J.run0 3 rfl ?_
        try dsimp only
        exact J.reti rfl rfl rfl ⟨_, rfl, rfl, hT89, hE90, k91, k92, k93, k94, k95, k96, k97, k98, k99, _, rfl, (show True from trivial)⟩
    · have c103 : ¬ (H55.1 11 47 0 ≤ (0 : Int)) := hc
      clear hc
      refine J.run0 1 rfl ?_
      try dsimp only
      exact J.reti rfl rfl rfl ⟨_, rfl, rfl, hT56, hE57, k58, k59, k60, k61, k62, k63, k64, k65, k66, _, rfl, (show True from trivial)⟩
end
