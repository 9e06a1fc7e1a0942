-- M: X11_isSound
section
variable {d : Nat} {w : jW} 
-- 
theorem g_isSound_l0 {b : Int} {H0 : jH} (hp0 : 0 ≤ b ∧ b < 300) (hp1 : b < H0.1 11 12 0) : ∀ (m : Nat), (∀ (fine i : Int) (H : jH) (lv : jL), 100 * (12 - i) < (m : Int) → (0 ≤ fine ∧ fine ≤ 1) → (0 ≤ i ∧ i ≤ 12) → (1 ≤ b) → gT H → jEx [48, 56, 57] [108, 99, 100, 101, 105, 102, 103, 104, 61] H H0 → gP H → gX H → gL H → gZ H → (lv = [(3, .inl i), (2, .inl fine), (0, jT), (1, .inl b)] ∨ (∃ j5 j4 : Int, lv = [(3, .inl i), (2, .inl fine), (5, .inl j5), (4, .inl j4), (0, jT), (1, .inl b)])) → J true (d + 3) 125 w (117, lv, [], H) (jN fun v w' H' => w' = w ∧ gT H' ∧ jEx [48, 56, 57] [108, 99, 100, 101, 105, 102, 103, 104, 61] H' H0 ∧ gP H' ∧ gX H' ∧ gL H' ∧ gZ H' ∧ ∃ x, v = some (.inl x) ∧ 0 ≤ x ∧ x ≤ 1)) ∧ (∀ (fine i t j : Int) (H : jH) (lv : jL), 100 * (12 - i) - 1 - j < (m : Int) → (0 ≤ fine ∧ fine ≤ 1) → (0 ≤ i ∧ i < 12) → (0 ≤ t ∧ t < 1500) → (0 ≤ j ∧ j ≤ i) → (1 ≤ b) → gT H → jEx [48, 56, 57] [108, 99, 100, 101, 105, 102, 103, 104, 61] H H0 → gP H → gX H → gL H → gZ H → (lv = [(5, .inl j), (4, .inl t), (3, .inl i), (2, .inl fine), (0, jT), (1, .inl b)] ∨ lv = [(5, .inl j), (2, .inl fine), (4, .inl t), (3, .inl i), (0, jT), (1, .inl b)]) → J true (d + 3) 125 w (147, lv, [], H) (jN fun v w' H' => w' = w ∧ gT H' ∧ jEx [48, 56, 57] [108, 99, 100, 101, 105, 102, 103, 104, 61] H' H0 ∧ gP H' ∧ gX H' ∧ gL H' ∧ gZ H' ∧ ∃ x, v = some (.inl x) ∧ 0 ≤ x ∧ x ≤ 1)) := by
  intro m
  induction m with
  | zero =>
    refine ⟨?_, ?_⟩
    · intro fine i H lv hm hi0 hi1 hi2 hT hE k0gP k0gX k0gL k0gZ hlv
      exfalso
      omega
    · intro fine i t j H lv hm hi0 hi1 hi2 hi3 hi4 hT hE k0gP k0gX k0gL k0gZ hlv
      exfalso
      omega
  | succ m ih =>
    refine ⟨?_, ?_⟩
    · intro fine i H lv hm hi0 hi1 hi2 hT hE k0gP k0gX k0gL k0gZ hlv
      rcases hlv with rfl | ⟨j5, j4, rfl⟩
      · skip
        have f1 : 0 ≤ H.2.2.1 58 0 (b) ∧ H.2.2.1 58 0 (b) ≤ 12 := hT.1 58 (b)
        refine J.run 5 rfl (show 0 ≤ b ∧ b < 300 from ⟨by omega, by omega⟩) ?_
        try dsimp only
        refine J.icmp rfl rfl rfl ⟨(show -2147483648 ≤ i ∧ i ≤ 2147483647 from ⟨by omega, by omega⟩), (show -2147483648 ≤ H.2.2.1 58 0 (b) ∧ H.2.2.1 58 0 (b) ≤ 2147483647 from ⟨by omega, by omega⟩)⟩ (fun hc => ?_) (fun hc => ?_)
        · have c2 : H.2.2.1 58 0 (b) ≤ i := hc
          clear hc
          refine J.run0 1 rfl ?_
          try dsimp only
          refine J.ifc rfl rfl rfl (show -2147483648 ≤ fine ∧ fine ≤ 2147483647 from ⟨by omega, by omega⟩) (fun hc => ?_) (fun hc => ?_)
          · have c3 : fine = (0 : Int) := hc
            clear hc
            refine J.run0 1 rfl ?_
            try dsimp only
            exact J.retb rfl rfl rfl (show fine = 0 ∨ fine = 1 by omega) ⟨_, rfl, rfl, hT, hE, k0gP, k0gX, k0gL, k0gZ, _, rfl, (show 0 ≤ (fine) ∧ (fine) ≤ 1 from ⟨by omega, by omega⟩)⟩
          · have c4 : ¬ (fine = (0 : Int)) := hc
            clear hc
            refine J.run 5 rfl (show 0 ≤ b ∧ b < 300 from ⟨by omega, by omega⟩) ?_
            try dsimp only
            refine J.gn fun H5 hH5 => ?_
            have hT6 : gT H5 := by rw [hH5]; exact gT.upd hT (show 0 ≤ (1 : Int) ∧ (1 : Int) ≤ 2 from ⟨by omega, by omega⟩) (fun z => absurd z (by decide))
            have hE7 : jEx [48, 56, 57] [108, 99, 100, 101, 105, 102, 103, 104, 61] H5 H0 := by rw [hH5]; exact jEx.row hE (by decide)
            have k8 : gP H5 := by rw [hH5]; exact k0gP
            have k9 : gX H5 := by rw [hH5]; exact k0gX
            have k10 : gL H5 := by rw [hH5]; exact k0gL
            have k11 : gZ H5 := by rw [hH5]; exact (if_neg (show ¬ (0 : Int) = b by omega)).trans k0gZ
            have g12 : H5.2.2.1 61 0 (b) = (1 : Int) := by subst hH5; exact if_pos rfl
            have g13 : H5.1 11 12 0 = H.1 11 12 0 := by subst hH5; rfl
            have g14 : H5.2.2.1 58 0 (b) = H.2.2.1 58 0 (b) := by subst hH5; rfl
            clear hH5
            refine J.run0 1 rfl ?_
            try dsimp only
            exact J.retb rfl rfl rfl (show fine = 0 ∨ fine = 1 by omega) ⟨_, rfl, rfl, hT6, hE7, k8, k9, k10, k11, _, rfl, (show 0 ≤ (fine) ∧ (fine) ≤ 1 from ⟨by omega, by omega⟩)⟩
        · have c15 : ¬ (H.2.2.1 58 0 (b) ≤ i) := hc
          clear hc
          refine J.run0 1 rfl ?_
          try dsimp only
          refine J.ifc rfl rfl rfl (show -2147483648 ≤ fine ∧ fine ≤ 2147483647 from ⟨by omega, by omega⟩) (fun hc => ?_) (fun hc => ?_)
          · have c16 : fine = (0 : Int) := hc
            clear hc
            refine J.run0 1 rfl ?_
            try dsimp only
            refine J.ifc rfl rfl rfl (show -2147483648 ≤ fine ∧ fine ≤ 2147483647 from ⟨by omega, by omega⟩) (fun hc => ?_) (fun hc => ?_)
            · have c17 : fine = (0 : Int) := hc
              clear hc
              refine J.run0 1 rfl ?_
              try dsimp only
              exact J.retb rfl rfl rfl (show fine = 0 ∨ fine = 1 by omega) ⟨_, rfl, rfl, hT, hE, k0gP, k0gX, k0gL, k0gZ, _, rfl, (show 0 ≤ (fine) ∧ (fine) ≤ 1 from ⟨by omega, by omega⟩)⟩
            · have c18 : ¬ (fine = (0 : Int)) := hc
              clear hc
              refine J.run 5 rfl (show 0 ≤ b ∧ b < 300 from ⟨by omega, by omega⟩) ?_
              try dsimp only
              refine J.gn fun H19 hH19 => ?_
              have hT20 : gT H19 := by rw [hH19]; exact gT.upd hT (show 0 ≤ (1 : Int) ∧ (1 : Int) ≤ 2 from ⟨by omega, by omega⟩) (fun z => absurd z (by decide))
              have hE21 : jEx [48, 56, 57] [108, 99, 100, 101, 105, 102, 103, 104, 61] H19 H0 := by rw [hH19]; exact jEx.row hE (by decide)
              have k22 : gP H19 := by rw [hH19]; exact k0gP
              have k23 : gX H19 := by rw [hH19]; exact k0gX
              have k24 : gL H19 := by rw [hH19]; exact k0gL
              have k25 : gZ H19 := by rw [hH19]; exact (if_neg (show ¬ (0 : Int) = b by omega)).trans k0gZ
              have g26 : H19.2.2.1 61 0 (b) = (1 : Int) := by subst hH19; exact if_pos rfl
              have g27 : H19.1 11 12 0 = H.1 11 12 0 := by subst hH19; rfl
              have g28 : H19.2.2.1 58 0 (b) = H.2.2.1 58 0 (b) := by subst hH19; rfl
              clear hH19
              refine J.run0 1 rfl ?_
              try dsimp only
              exact J.retb rfl rfl rfl (show fine = 0 ∨ fine = 1 by omega) ⟨_, rfl, rfl, hT20, hE21, k22, k23, k24, k25, _, rfl, (show 0 ≤ (fine) ∧ (fine) ≤ 1 from ⟨by omega, by omega⟩)⟩
          · have c29 : ¬ (fine = (0 : Int)) := hc
            clear hc
            have f30 : 0 ≤ H.2.2.1 59 0 (((12 : Int) * b) + i) ∧ H.2.2.1 59 0 (((12 : Int) * b) + i) ≤ 1499 := hT.1 59 (((12 : Int) * b) + i)
            refine J.run 11 rfl (show 0 ≤ ((12 : Int) * b) + i ∧ ((12 : Int) * b) + i < 3600 from ⟨by omega, by omega⟩) ?_
            try dsimp only
            exact ih.2 (fine) (i) (H.2.2.1 59 0 (((12 : Int) * b) + i)) ((0 : Int)) H _ (show 100 * (12 - (i)) - 1 - ((0 : Int)) < _ by omega) (show 0 ≤ (fine) ∧ (fine) ≤ 1 from ⟨by omega, by omega⟩) (show 0 ≤ (i) ∧ (i) < 12 from ⟨by omega, by omega⟩) (show 0 ≤ (H.2.2.1 59 0 (((12 : Int) * b) + i)) ∧ (H.2.2.1 59 0 (((12 : Int) * b) + i)) < 1500 from ⟨by omega, by omega⟩) (show 0 ≤ ((0 : Int)) ∧ ((0 : Int)) ≤ (i) from ⟨by omega, by omega⟩) (show 1 ≤ b from by omega) hT hE k0gP k0gX k0gL k0gZ (Or.inl rfl)
      · skip
        have f31 : 0 ≤ H.2.2.1 58 0 (b) ∧ H.2.2.1 58 0 (b) ≤ 12 := hT.1 58 (b)
        refine J.run 5 rfl (show 0 ≤ b ∧ b < 300 from ⟨by omega, by omega⟩) ?_
        try dsimp only
        refine J.icmp rfl rfl rfl ⟨(show -2147483648 ≤ i ∧ i ≤ 2147483647 from ⟨by omega, by omega⟩), (show -2147483648 ≤ H.2.2.1 58 0 (b) ∧ H.2.2.1 58 0 (b) ≤ 2147483647 from ⟨by omega, by omega⟩)⟩ (fun hc => ?_) (fun hc => ?_)
        · have c32 : H.2.2.1 58 0 (b) ≤ i := hc
          clear hc
          refine J.run0 1 rfl ?_
          try dsimp only
          refine J.ifc rfl rfl rfl (show -2147483648 ≤ fine ∧ fine ≤ 2147483647 from ⟨by omega, by omega⟩) (fun hc => ?_) (fun hc => ?_)
          · have c33 : fine = (0 : Int) := hc
            clear hc
            refine J.run0 1 rfl ?_
            try dsimp only
            exact J.retb rfl rfl rfl (show fine = 0 ∨ fine = 1 by omega) ⟨_, rfl, rfl, hT, hE, k0gP, k0gX, k0gL, k0gZ, _, rfl, (show 0 ≤ (fine) ∧ (fine) ≤ 1 from ⟨by omega, by omega⟩)⟩
          · have c34 : ¬ (fine = (0 : Int)) := hc
            clear hc
            refine J.run 5 rfl (show 0 ≤ b ∧ b < 300 from ⟨by omega, by omega⟩) ?_
            try dsimp only
            refine J.gn fun H35 hH35 => ?_
            have hT36 : gT H35 := by rw [hH35]; exact gT.upd hT (show 0 ≤ (1 : Int) ∧ (1 : Int) ≤ 2 from ⟨by omega, by omega⟩) (fun z => absurd z (by decide))
            have hE37 : jEx [48, 56, 57] [108, 99, 100, 101, 105, 102, 103, 104, 61] H35 H0 := by rw [hH35]; exact jEx.row hE (by decide)
            have k38 : gP H35 := by rw [hH35]; exact k0gP
            have k39 : gX H35 := by rw [hH35]; exact k0gX
            have k40 : gL H35 := by rw [hH35]; exact k0gL
            have k41 : gZ H35 := by rw [hH35]; exact (if_neg (show ¬ (0 : Int) = b by omega)).trans k0gZ
            have g42 : H35.2.2.1 61 0 (b) = (1 : Int) := by subst hH35; exact if_pos rfl
            have g43 : H35.1 11 12 0 = H.1 11 12 0 := by subst hH35; rfl
            have g44 : H35.2.2.1 58 0 (b) = H.2.2.1 58 0 (b) := by subst hH35; rfl
            clear hH35
            refine J.run0 1 rfl ?_
            try dsimp only
            exact J.retb rfl rfl rfl (show fine = 0 ∨ fine = 1 by omega) ⟨_, rfl, rfl, hT36, hE37, k38, k39, k40, k41, _, rfl, (show 0 ≤ (fine) ∧ (fine) ≤ 1 from ⟨by omega, by omega⟩)⟩
        · have c45 : ¬ (H.2.2.1 58 0 (b) ≤ i) := hc
          clear hc
          refine J.run0 1 rfl ?_
          try dsimp only
          refine J.ifc rfl rfl rfl (show -2147483648 ≤ fine ∧ fine ≤ 2147483647 from ⟨by omega, by omega⟩) (fun hc => ?_) (fun hc => ?_)
          · have c46 : fine = (0 : Int) := hc
            clear hc
            refine J.run0 1 rfl ?_
            try dsimp only
            refine J.ifc rfl rfl rfl (show -2147483648 ≤ fine ∧ fine ≤ 2147483647 from ⟨by omega, by omega⟩) (fun hc => ?_) (fun hc => ?_)
            · have c47 : fine = (0 : Int) := hc
              clear hc
              refine J.run0 1 rfl ?_
              try dsimp only
              exact J.retb rfl rfl rfl (show fine = 0 ∨ fine = 1 by omega) ⟨_, rfl, rfl, hT, hE, k0gP, k0gX, k0gL, k0gZ, _, rfl, (show 0 ≤ (fine) ∧ (fine) ≤ 1 from ⟨by omega, by omega⟩)⟩
            · have c48 : ¬ (fine = (0 : Int)) := hc
              clear hc
              refine J.run 5 rfl (show 0 ≤ b ∧ b < 300 from ⟨by omega, by omega⟩) ?_
              try dsimp only
              refine J.gn fun H49 hH49 => ?_
              have hT50 : gT H49 := by rw [hH49]; exact gT.upd hT (show 0 ≤ (1 : Int) ∧ (1 : Int) ≤ 2 from ⟨by omega, by omega⟩) (fun z => absurd z (by decide))
              have hE51 : jEx [48, 56, 57] [108, 99, 100, 101, 105, 102, 103, 104, 61] H49 H0 := by rw [hH49]; exact jEx.row hE (by decide)
              have k52 : gP H49 := by rw [hH49]; exact k0gP
              have k53 : gX H49 := by rw [hH49]; exact k0gX
              have k54 : gL H49 := by rw [hH49]; exact k0gL
              have k55 : gZ H49 := by rw [hH49]; exact (if_neg (show ¬ (0 : Int) = b by omega)).trans k0gZ
              have g56 : H49.2.2.1 61 0 (b) = (1 : Int) := by subst hH49; exact if_pos rfl
              have g57 : H49.1 11 12 0 = H.1 11 12 0 := by subst hH49; rfl
              have g58 : H49.2.2.1 58 0 (b) = H.2.2.1 58 0 (b) := by subst hH49; rfl
              clear hH49
              refine J.run0 1 rfl ?_
              try dsimp only
              exact J.retb rfl rfl rfl (show fine = 0 ∨ fine = 1 by omega) ⟨_, rfl, rfl, hT50, hE51, k52, k53, k54, k55, _, rfl, (show 0 ≤ (fine) ∧ (fine) ≤ 1 from ⟨by omega, by omega⟩)⟩
          · have c59 : ¬ (fine = (0 : Int)) := hc
            clear hc
            have f60 : 0 ≤ H.2.2.1 59 0 (((12 : Int) * b) + i) ∧ H.2.2.1 59 0 (((12 : Int) * b) + i) ≤ 1499 := hT.1 59 (((12 : Int) * b) + i)
            refine J.run 11 rfl (show 0 ≤ ((12 : Int) * b) + i ∧ ((12 : Int) * b) + i < 3600 from ⟨by omega, by omega⟩) ?_
            try dsimp only
            exact ih.2 (fine) (i) (H.2.2.1 59 0 (((12 : Int) * b) + i)) ((0 : Int)) H _ (show 100 * (12 - (i)) - 1 - ((0 : Int)) < _ by omega) (show 0 ≤ (fine) ∧ (fine) ≤ 1 from ⟨by omega, by omega⟩) (show 0 ≤ (i) ∧ (i) < 12 from ⟨by omega, by omega⟩) (show 0 ≤ (H.2.2.1 59 0 (((12 : Int) * b) + i)) ∧ (H.2.2.1 59 0 (((12 : Int) * b) + i)) < 1500 from ⟨by omega, by omega⟩) (show 0 ≤ ((0 : Int)) ∧ ((0 : Int)) ≤ (i) from ⟨by omega, by omega⟩) (show 1 ≤ b from by omega) hT hE k0gP k0gX k0gL k0gZ (Or.inl rfl)
    · intro fine i t j H lv hm hi0 hi1 hi2 hi3 hi4 hT hE k0gP k0gX k0gL k0gZ hlv
      rcases hlv with rfl | rfl
      · skip
        refine J.run0 2 rfl ?_
        try dsimp only
        refine J.icmp rfl rfl rfl ⟨(show -2147483648 ≤ j ∧ j ≤ 2147483647 from ⟨by omega, by omega⟩), (show -2147483648 ≤ i ∧ i ≤ 2147483647 from ⟨by omega, by omega⟩)⟩ (fun hc => ?_) (fun hc => ?_)
        · have c61 : i ≤ j := hc
          clear hc
          refine J.run0 1 rfl ?_
          try dsimp only
          refine J.ifc rfl rfl rfl (show -2147483648 ≤ fine ∧ fine ≤ 2147483647 from ⟨by omega, by omega⟩) (fun hc => ?_) (fun hc => ?_)
          · have c62 : fine = (0 : Int) := hc
            clear hc
            refine J.run0 4 rfl ?_
            try dsimp only
            exact ih.1 ((0 : Int)) (i + 1) H _ (show 100 * (12 - (i + 1)) < _ by omega) (show 0 ≤ ((0 : Int)) ∧ ((0 : Int)) ≤ 1 from ⟨by omega, by omega⟩) (show 0 ≤ (i + 1) ∧ (i + 1) ≤ 12 from ⟨by omega, by omega⟩) (show 1 ≤ b from by omega) hT hE k0gP k0gX k0gL k0gZ (Or.inr (⟨_, _, rfl⟩))
          · have c63 : ¬ (fine = (0 : Int)) := hc
            clear hc
            have f64 : -1 ≤ H.2.2.1 55 0 (b) ∧ H.2.2.1 55 0 (b) ≤ 299 := hT.1 55 (b)
            have f65 : 1 ≤ H.1 11 12 0 ∧ H.1 11 12 0 ≤ 300 := hT.2.1 12
            have f64b : H.2.2.1 55 0 (b) < H.1 11 12 0 := hT.2.2.1 55 (b) rfl
            have f64gP : (b = 0 → H.2.2.1 55 0 (b) = -1) ∧ (1 ≤ b → b < 300 → 0 ≤ H.2.2.1 55 0 (b) ∧ H.2.2.1 55 0 (b) < b) := ⟨fun z => by rw [z]; exact k0gP.1, fun z z' => k0gP.2.1 _ z z'⟩
            refine J.run 6 rfl (show 0 ≤ b ∧ b < 300 from ⟨by omega, by omega⟩) ?_
            try dsimp only
            refine J.inv rfl rfl rfl rfl rfl rfl jDr rfl rfl rfl rfl rfl (g_isIn (t := t) (chain := H.2.2.1 55 0 (b)) hT k0gP (show -2147483648 ≤ (t) ∧ (t) ≤ 2147483647 from ⟨by omega, by omega⟩) (show -1 ≤ (H.2.2.1 55 0 (b)) ∧ (H.2.2.1 55 0 (b)) < 300 from ⟨by omega, by omega⟩)) ?_
            rintro v w H ⟨rfl, rfl, x66, rfl, r67⟩
            have r67' : 0 ≤ x66 ∧ x66 ≤ 1 := r67
            try dsimp only [Option.toList, List.append, List.cons_append, List.nil_append]
            refine J.ifc rfl rfl rfl (show -2147483648 ≤ x66 ∧ x66 ≤ 2147483647 from ⟨by omega, by omega⟩) (fun hc => ?_) (fun hc => ?_)
            · have c68 : ¬ (x66 = (0 : Int)) := hc
              clear hc
              refine J.run0 4 rfl ?_
              try dsimp only
              exact ih.1 ((0 : Int)) (i + 1) H _ (show 100 * (12 - (i + 1)) < _ by omega) (show 0 ≤ ((0 : Int)) ∧ ((0 : Int)) ≤ 1 from ⟨by omega, by omega⟩) (show 0 ≤ (i + 1) ∧ (i + 1) ≤ 12 from ⟨by omega, by omega⟩) (show 1 ≤ b from by omega) hT hE k0gP k0gX k0gL k0gZ (Or.inr (⟨_, _, rfl⟩))
            · have c69 : ¬ (¬ (x66 = (0 : Int))) := hc
              clear hc
              have f70 : -1 ≤ H.2.2.1 57 0 (b) ∧ H.2.2.1 57 0 (b) ≤ 15 := hT.1 57 (b)
              have f70gP : 1 ≤ b → 0 ≤ H.2.2.1 57 0 (b) := k0gP.2.2.2.2.2 (b)
              have f71 : 0 ≤ H.2.2.1 56 0 (b) ∧ H.2.2.1 56 0 (b) ≤ 300 := hT.1 56 (b)
              have f71gP : 0 ≤ b → b < 300 → H.2.2.1 56 0 (b) ≤ b := k0gP.2.2.2.2.1 (b)
              refine J.run 10 rfl ⟨(show 0 ≤ b ∧ b < 300 from ⟨by omega, by omega⟩), (show 0 ≤ b ∧ b < 300 from ⟨by omega, by omega⟩)⟩ ?_
              try dsimp only
              refine J.inv rfl rfl rfl rfl rfl rfl jDr rfl rfl rfl rfl rfl (g_isDone (t := t) (p := H.2.2.1 57 0 (b)) (h := H.2.2.1 56 0 (b)) hT k0gX k0gL (show 0 ≤ (t) ∧ (t) < 1500 from ⟨by omega, by omega⟩) (show 0 ≤ (H.2.2.1 57 0 (b)) ∧ (H.2.2.1 57 0 (b)) < 16 from ⟨by omega, by omega⟩) (show 0 ≤ (H.2.2.1 56 0 (b)) ∧ (H.2.2.1 56 0 (b)) ≤ 300 from ⟨by omega, by omega⟩)) ?_
              rintro v w H74 ⟨rfl, hT75, ehE76, k77, k78, x72, rfl, r73⟩
              have hE76 := jEx.trans ehE76 hE (by decide) (by decide)
              have r73' : 0 ≤ x72 ∧ x72 ≤ 1 := r73
              have k79 : gP H74 := gP.ex k0gP ehE76 (by decide)
              have k80 : gZ H74 := gZ.ex k0gZ ehE76 (by decide)
              have g81 : H74.1 11 12 0 = H.1 11 12 0 := ehE76.v 12 (by decide)
              have g82 : H74.2.2.1 55 0 (b) = H.2.2.1 55 0 (b) := congrFun (ehE76.r 55 (by decide)) _
              have g83 : H74.2.2.1 57 0 (b) = H.2.2.1 57 0 (b) := congrFun (ehE76.r 57 (by decide)) _
              have g84 : H74.2.2.1 56 0 (b) = H.2.2.1 56 0 (b) := congrFun (ehE76.r 56 (by decide)) _
              try dsimp only [Option.toList, List.append, List.cons_append, List.nil_append]
              refine J.ifc rfl rfl rfl (show -2147483648 ≤ x72 ∧ x72 ≤ 2147483647 from ⟨by omega, by omega⟩) (fun hc => ?_) (fun hc => ?_)
              · have c85 : x72 = (0 : Int) := hc
                clear hc
                refine J.run0 4 rfl ?_
                try dsimp only
                exact ih.1 ((0 : Int)) (i + 1) H74 _ (show 100 * (12 - (i + 1)) < _ by omega) (show 0 ≤ ((0 : Int)) ∧ ((0 : Int)) ≤ 1 from ⟨by omega, by omega⟩) (show 0 ≤ (i + 1) ∧ (i + 1) ≤ 12 from ⟨by omega, by omega⟩) (show 1 ≤ b from by omega) hT75 hE76 k79 k77 k78 k80 (Or.inr (⟨_, _, rfl⟩))
              · have c86 : ¬ (x72 = (0 : Int)) := hc
                clear hc
                refine J.run0 5 rfl ?_
                try dsimp only
                exact ih.1 ((1 : Int)) (i + 1) H74 _ (show 100 * (12 - (i + 1)) < _ by omega) (show 0 ≤ ((1 : Int)) ∧ ((1 : Int)) ≤ 1 from ⟨by omega, by omega⟩) (show 0 ≤ (i + 1) ∧ (i + 1) ≤ 12 from ⟨by omega, by omega⟩) (show 1 ≤ b from by omega) hT75 hE76 k79 k77 k78 k80 (Or.inr (⟨_, _, rfl⟩))
        · have c87 : ¬ (i ≤ j) := hc
          clear hc
          have f88 : 0 ≤ H.2.2.1 59 0 (((12 : Int) * b) + j) ∧ H.2.2.1 59 0 (((12 : Int) * b) + j) ≤ 1499 := hT.1 59 (((12 : Int) * b) + j)
          refine J.run 10 rfl (show 0 ≤ ((12 : Int) * b) + j ∧ ((12 : Int) * b) + j < 3600 from ⟨by omega, by omega⟩) ?_
          try dsimp only
          refine J.icmp rfl rfl rfl ⟨(show -2147483648 ≤ H.2.2.1 59 0 (((12 : Int) * b) + j) ∧ H.2.2.1 59 0 (((12 : Int) * b) + j) ≤ 2147483647 from ⟨by omega, by omega⟩), (show -2147483648 ≤ t ∧ t ≤ 2147483647 from ⟨by omega, by omega⟩)⟩ (fun hc => ?_) (fun hc => ?_)
          · have c89 : H.2.2.1 59 0 (((12 : Int) * b) + j) = t := hc
            clear hc
            have f90 : -2147483648 ≤ jand (fine) ((0 : Int)) ∧ jand (fine) ((0 : Int)) ≤ 2147483647 := jI32 _
            have f91 : 0 ≤ jand (fine) ((0 : Int)) ∧ jand (fine) ((0 : Int)) ≤ 1 := jand01 ⟨by omega, by omega⟩ ⟨by omega, by omega⟩
            refine J.run0 5 rfl ?_
            try dsimp only
            exact ih.2 (jand (fine) ((0 : Int))) (i) (t) (j + 1) H _ (show 100 * (12 - (i)) - 1 - (j + 1) < _ by omega) (show 0 ≤ (jand (fine) ((0 : Int))) ∧ (jand (fine) ((0 : Int))) ≤ 1 from ⟨by omega, by omega⟩) (show 0 ≤ (i) ∧ (i) < 12 from ⟨by omega, by omega⟩) (show 0 ≤ (t) ∧ (t) < 1500 from ⟨by omega, by omega⟩) (show 0 ≤ (j + 1) ∧ (j + 1) ≤ (i) from ⟨by omega, by omega⟩) (show 1 ≤ b from by omega) hT hE k0gP k0gX k0gL k0gZ (Or.inr (rfl))
          · have c92 : ¬ (H.2.2.1 59 0 (((12 : Int) * b) + j) = t) := hc
            clear hc
            have f93 : -2147483648 ≤ jand (fine) ((1 : Int)) ∧ jand (fine) ((1 : Int)) ≤ 2147483647 := jI32 _
            have f94 : 0 ≤ jand (fine) ((1 : Int)) ∧ jand (fine) ((1 : Int)) ≤ 1 := jand01 ⟨by omega, by omega⟩ ⟨by omega, by omega⟩
            refine J.run0 6 rfl ?_
            try dsimp only
            exact ih.2 (jand (fine) ((1 : Int))) (i) (t) (j + 1) H _ (show 100 * (12 - (i)) - 1 - (j + 1) < _ by omega) (show 0 ≤ (jand (fine) ((1 : Int))) ∧ (jand (fine) ((1 : Int))) ≤ 1 from ⟨by omega, by omega⟩) (show 0 ≤ (i) ∧ (i) < 12 from ⟨by omega, by omega⟩) (show 0 ≤ (t) ∧ (t) < 1500 from ⟨by omega, by omega⟩) (show 0 ≤ (j + 1) ∧ (j + 1) ≤ (i) from ⟨by omega, by omega⟩) (show 1 ≤ b from by omega) hT hE k0gP k0gX k0gL k0gZ (Or.inr (rfl))
      · skip
        refine J.run0 2 rfl ?_
        try dsimp only
        refine J.icmp rfl rfl rfl ⟨(show -2147483648 ≤ j ∧ j ≤ 2147483647 from ⟨by omega, by omega⟩), (show -2147483648 ≤ i ∧ i ≤ 2147483647 from ⟨by omega, by omega⟩)⟩ (fun hc => ?_) (fun hc => ?_)
        · have c95 : i ≤ j := hc
          clear hc
          refine J.run0 1 rfl ?_
          try dsimp only
          refine J.ifc rfl rfl rfl (show -2147483648 ≤ fine ∧ fine ≤ 2147483647 from ⟨by omega, by omega⟩) (fun hc => ?_) (fun hc => ?_)
          · have c96 : fine = (0 : Int) := hc
            clear hc
            refine J.run0 4 rfl ?_
            try dsimp only
            exact ih.1 ((0 : Int)) (i + 1) H _ (show 100 * (12 - (i + 1)) < _ by omega) (show 0 ≤ ((0 : Int)) ∧ ((0 : Int)) ≤ 1 from ⟨by omega, by omega⟩) (show 0 ≤ (i + 1) ∧ (i + 1) ≤ 12 from ⟨by omega, by omega⟩) (show 1 ≤ b from by omega) hT hE k0gP k0gX k0gL k0gZ (Or.inr (⟨_, _, rfl⟩))
          · have c97 : ¬ (fine = (0 : Int)) := hc
            clear hc
            have f98 : -1 ≤ H.2.2.1 55 0 (b) ∧ H.2.2.1 55 0 (b) ≤ 299 := hT.1 55 (b)
            have f99 : 1 ≤ H.1 11 12 0 ∧ H.1 11 12 0 ≤ 300 := hT.2.1 12
            have f98b : H.2.2.1 55 0 (b) < H.1 11 12 0 := hT.2.2.1 55 (b) rfl
            have f98gP : (b = 0 → H.2.2.1 55 0 (b) = -1) ∧ (1 ≤ b → b < 300 → 0 ≤ H.2.2.1 55 0 (b) ∧ H.2.2.1 55 0 (b) < b) := ⟨fun z => by rw [z]; exact k0gP.1, fun z z' => k0gP.2.1 _ z z'⟩
            refine J.run 6 rfl (show 0 ≤ b ∧ b < 300 from ⟨by omega, by omega⟩) ?_
            try dsimp only
            refine J.inv rfl rfl rfl rfl rfl rfl jDr rfl rfl rfl rfl rfl (g_isIn (t := t) (chain := H.2.2.1 55 0 (b)) hT k0gP (show -2147483648 ≤ (t) ∧ (t) ≤ 2147483647 from ⟨by omega, by omega⟩) (show -1 ≤ (H.2.2.1 55 0 (b)) ∧ (H.2.2.1 55 0 (b)) < 300 from ⟨by omega, by omega⟩)) ?_
            rintro v w H ⟨rfl, rfl, x100, rfl, r101⟩
            have r101' : 0 ≤ x100 ∧ x100 ≤ 1 := r101
            try dsimp only [Option.toList, List.append, List.cons_append, List.nil_append]
            refine J.ifc rfl rfl rfl (show -2147483648 ≤ x100 ∧ x100 ≤ 2147483647 from ⟨by omega, by omega⟩) (fun hc => ?_) (fun hc => ?_)
            · have c102 : ¬ (x100 = (0 : Int)) := hc
              clear hc
              refine J.run0 4 rfl ?_
              try dsimp only
              exact ih.1 ((0 : Int)) (i + 1) H _ (show 100 * (12 - (i + 1)) < _ by omega) (show 0 ≤ ((0 : Int)) ∧ ((0 : Int)) ≤ 1 from ⟨by omega, by omega⟩) (show 0 ≤ (i + 1) ∧ (i + 1) ≤ 12 from ⟨by omega, by omega⟩) (show 1 ≤ b from by omega) hT hE k0gP k0gX k0gL k0gZ (Or.inr (⟨_, _, rfl⟩))
            · have c103 : ¬ (¬ (x100 = (0 : Int))) := hc
              clear hc
              have f104 : -1 ≤ H.2.2.1 57 0 (b) ∧ H.2.2.1 57 0 (b) ≤ 15 := hT.1 57 (b)
              have f104gP : 1 ≤ b → 0 ≤ H.2.2.1 57 0 (b) := k0gP.2.2.2.2.2 (b)
              have f105 : 0 ≤ H.2.2.1 56 0 (b) ∧ H.2.2.1 56 0 (b) ≤ 300 := hT.1 56 (b)
              have f105gP : 0 ≤ b → b < 300 → H.2.2.1 56 0 (b) ≤ b := k0gP.2.2.2.2.1 (b)
              refine J.run 10 rfl ⟨(show 0 ≤ b ∧ b < 300 from ⟨by omega, by omega⟩), (show 0 ≤ b ∧ b < 300 from ⟨by omega, by omega⟩)⟩ ?_
              try dsimp only
              refine J.inv rfl rfl rfl rfl rfl rfl jDr rfl rfl rfl rfl rfl (g_isDone (t := t) (p := H.2.2.1 57 0 (b)) (h := H.2.2.1 56 0 (b)) hT k0gX k0gL (show 0 ≤ (t) ∧ (t) < 1500 from ⟨by omega, by omega⟩) (show 0 ≤ (H.2.2.1 57 0 (b)) ∧ (H.2.2.1 57 0 (b)) < 16 from ⟨by omega, by omega⟩) (show 0 ≤ (H.2.2.1 56 0 (b)) ∧ (H.2.2.1 56 0 (b)) ≤ 300 from ⟨by omega, by omega⟩)) ?_
              rintro v w H108 ⟨rfl, hT109, ehE110, k111, k112, x106, rfl, r107⟩
              have hE110 := jEx.trans ehE110 hE (by decide) (by decide)
              have r107' : 0 ≤ x106 ∧ x106 ≤ 1 := r107
              have k113 : gP H108 := gP.ex k0gP ehE110 (by decide)
              have k114 : gZ H108 := gZ.ex k0gZ ehE110 (by decide)
              have g115 : H108.1 11 12 0 = H.1 11 12 0 := ehE110.v 12 (by decide)
              have g116 : H108.2.2.1 55 0 (b) = H.2.2.1 55 0 (b) := congrFun (ehE110.r 55 (by decide)) _
              have g117 : H108.2.2.1 57 0 (b) = H.2.2.1 57 0 (b) := congrFun (ehE110.r 57 (by decide)) _
              have g118 : H108.2.2.1 56 0 (b) = H.2.2.1 56 0 (b) := congrFun (ehE110.r 56 (by decide)) _
              try dsimp only [Option.toList, List.append, List.cons_append, List.nil_append]
              refine J.ifc rfl rfl rfl (show -2147483648 ≤ x106 ∧ x106 ≤ 2147483647 from ⟨by omega, by omega⟩) (fun hc => ?_) (fun hc => ?_)
              · have c119 : x106 = (0 : Int) := hc
                clear hc
                refine J.run0 4 rfl ?_
                try dsimp only
                exact ih.1 ((0 : Int)) (i + 1) H108 _ (show 100 * (12 - (i + 1)) < _ by omega) (show 0 ≤ ((0 : Int)) ∧ ((0 : Int)) ≤ 1 from ⟨by omega, by omega⟩) (show 0 ≤ (i + 1) ∧ (i + 1) ≤ 12 from ⟨by omega, by omega⟩) (show 1 ≤ b from by omega) hT109 hE110 k113 k111 k112 k114 (Or.inr (⟨_, _, rfl⟩))
              · have c120 : ¬ (x106 = (0 : Int)) := hc
                clear hc
                refine J.run0 5 rfl ?_
                try dsimp only
                exact ih.1 ((1 : Int)) (i + 1) H108 _ (show 100 * (12 - (i + 1)) < _ by omega) (show 0 ≤ ((1 : Int)) ∧ ((1 : Int)) ≤ 1 from ⟨by omega, by omega⟩) (show 0 ≤ (i + 1) ∧ (i + 1) ≤ 12 from ⟨by omega, by omega⟩) (show 1 ≤ b from by omega) hT109 hE110 k113 k111 k112 k114 (Or.inr (⟨_, _, rfl⟩))
        · have c121 : ¬ (i ≤ j) := hc
          clear hc
          have f122 : 0 ≤ H.2.2.1 59 0 (((12 : Int) * b) + j) ∧ H.2.2.1 59 0 (((12 : Int) * b) + j) ≤ 1499 := hT.1 59 (((12 : Int) * b) + j)
          refine J.run 10 rfl (show 0 ≤ ((12 : Int) * b) + j ∧ ((12 : Int) * b) + j < 3600 from ⟨by omega, by omega⟩) ?_
          try dsimp only
          refine J.icmp rfl rfl rfl ⟨(show -2147483648 ≤ H.2.2.1 59 0 (((12 : Int) * b) + j) ∧ H.2.2.1 59 0 (((12 : Int) * b) + j) ≤ 2147483647 from ⟨by omega, by omega⟩), (show -2147483648 ≤ t ∧ t ≤ 2147483647 from ⟨by omega, by omega⟩)⟩ (fun hc => ?_) (fun hc => ?_)
          · have c123 : H.2.2.1 59 0 (((12 : Int) * b) + j) = t := hc
            clear hc
            have f124 : -2147483648 ≤ jand (fine) ((0 : Int)) ∧ jand (fine) ((0 : Int)) ≤ 2147483647 := jI32 _
            have f125 : 0 ≤ jand (fine) ((0 : Int)) ∧ jand (fine) ((0 : Int)) ≤ 1 := jand01 ⟨by omega, by omega⟩ ⟨by omega, by omega⟩
            refine J.run0 5 rfl ?_
            try dsimp only
            exact ih.2 (jand (fine) ((0 : Int))) (i) (t) (j + 1) H _ (show 100 * (12 - (i)) - 1 - (j + 1) < _ by omega) (show 0 ≤ (jand (fine) ((0 : Int))) ∧ (jand (fine) ((0 : Int))) ≤ 1 from ⟨by omega, by omega⟩) (show 0 ≤ (i) ∧ (i) < 12 from ⟨by omega, by omega⟩) (show 0 ≤ (t) ∧ (t) < 1500 from ⟨by omega, by omega⟩) (show 0 ≤ (j + 1) ∧ (j + 1) ≤ (i) from ⟨by omega, by omega⟩) (show 1 ≤ b from by omega) hT hE k0gP k0gX k0gL k0gZ (Or.inr (rfl))
          · have c126 : ¬ (H.2.2.1 59 0 (((12 : Int) * b) + j) = t) := hc
            clear hc
            have f127 : -2147483648 ≤ jand (fine) ((1 : Int)) ∧ jand (fine) ((1 : Int)) ≤ 2147483647 := jI32 _
            have f128 : 0 ≤ jand (fine) ((1 : Int)) ∧ jand (fine) ((1 : Int)) ≤ 1 := jand01 ⟨by omega, by omega⟩ ⟨by omega, by omega⟩
            refine J.run0 6 rfl ?_
            try dsimp only
            exact ih.2 (jand (fine) ((1 : Int))) (i) (t) (j + 1) H _ (show 100 * (12 - (i)) - 1 - (j + 1) < _ by omega) (show 0 ≤ (jand (fine) ((1 : Int))) ∧ (jand (fine) ((1 : Int))) ≤ 1 from ⟨by omega, by omega⟩) (show 0 ≤ (i) ∧ (i) < 12 from ⟨by omega, by omega⟩) (show 0 ≤ (t) ∧ (t) < 1500 from ⟨by omega, by omega⟩) (show 0 ≤ (j + 1) ∧ (j + 1) ≤ (i) from ⟨by omega, by omega⟩) (show 1 ≤ b from by omega) hT hE k0gP k0gX k0gL k0gZ (Or.inr (rfl))
-- 
theorem g_isSound_l1 {b : Int} {H0 : jH} (hp0 : 0 ≤ b ∧ b < 300) (hp1 : b < H0.1 11 12 0) : ∀ (m : Nat), (∀ (fine k : Int) (H : jH) (lv : jL), 16 - k < (m : Int) → (0 ≤ fine ∧ fine ≤ 1) → (0 ≤ k ∧ k ≤ 16) → (1 ≤ b) → gT H → jEx [48, 56, 57] [108, 99, 100, 101, 105, 102, 103, 104, 61] H H0 → gP H → gX H → gL H → gZ H → (lv = [(3, .inl k), (2, .inl fine), (0, jT), (1, .inl b)]) → J true (d + 3) 125 w (61, lv, [], H) (jN fun v w' H' => w' = w ∧ gT H' ∧ jEx [48, 56, 57] [108, 99, 100, 101, 105, 102, 103, 104, 61] H' H0 ∧ gP H' ∧ gX H' ∧ gL H' ∧ gZ H' ∧ ∃ x, v = some (.inl x) ∧ 0 ≤ x ∧ x ≤ 1)) := by
  intro m
  induction m with
  | zero =>
    skip
    · intro fine k H lv hm hi0 hi1 hi2 hT hE k0gP k0gX k0gL k0gZ hlv
      exfalso
      omega
  | succ m ih =>
    skip
    · intro fine k H lv hm hi0 hi1 hi2 hT hE k0gP k0gX k0gL k0gZ hlv
      rcases hlv with rfl
      refine J.run0 2 rfl ?_
      try dsimp only
      refine J.icmp rfl rfl rfl ⟨(show -2147483648 ≤ k ∧ k ≤ 2147483647 from ⟨by omega, by omega⟩), (show -2147483648 ≤ (16 : Int) ∧ (16 : Int) ≤ 2147483647 from ⟨by omega, by omega⟩)⟩ (fun hc => ?_) (fun hc => ?_)
      · have c129 : (16 : Int) ≤ k := hc
        clear hc
        have f130 : 1 ≤ H.1 11 12 0 ∧ H.1 11 12 0 ≤ 300 := hT.2.1 12
        refine J.run0 3 rfl ?_
        try dsimp only
        refine J.gn fun H131 hH131 => ?_
        have hT132 : gT H131 := by rw [hH131]; exact gT.num (f := 48) hT (show -1 ≤ (-1 : Int) ∧ (-1 : Int) ≤ 299 from ⟨by omega, by omega⟩) (by decide) (fun _ => show (-1 : Int) < H.1 11 12 0 by omega)
        have hE133 : jEx [48, 56, 57] [108, 99, 100, 101, 105, 102, 103, 104, 61] H131 H0 := by rw [hH131]; exact jEx.num hE (by decide)
        have k134 : gP H131 := by rw [hH131]; exact k0gP
        have k135 : gX H131 := by rw [hH131]; exact k0gX
        have k136 : gL H131 := by rw [hH131]; exact k0gL
        have k137 : gZ H131 := by rw [hH131]; exact k0gZ
        have g138 : H131.1 11 48 0 = (-1 : Int) := by subst hH131; rfl
        have g139 : H131.1 11 12 0 = H.1 11 12 0 := by subst hH131; rfl
        clear hH131
        have f140 : 0 ≤ H131.2.2.1 56 0 (b) ∧ H131.2.2.1 56 0 (b) ≤ 300 := hT132.1 56 (b)
        have f140gP : 0 ≤ b → b < 300 → H131.2.2.1 56 0 (b) ≤ b := k134.2.2.2.2.1 (b)
        refine J.run 5 rfl (show 0 ≤ b ∧ b < 300 from ⟨by omega, by omega⟩) ?_
        try dsimp only
        refine J.inv rfl rfl rfl rfl rfl rfl jDr rfl rfl rfl rfl rfl (g_due (h := H131.2.2.1 56 0 (b)) hT132 k136 (show -2147483648 ≤ (H131.2.2.1 56 0 (b)) ∧ (H131.2.2.1 56 0 (b)) ≤ 2147483647 from ⟨by omega, by omega⟩)) ?_
        rintro v w H143 ⟨rfl, hT144, ehE145, k146, rfl⟩
        have hE145 := jEx.trans ehE145 hE133 (by decide) (by decide)
        have k147 : gP H143 := gP.ex k134 ehE145 (by decide)
        have k148 : gX H143 := gX.ex k135 ehE145 (by decide)
        have k149 : gZ H143 := gZ.ex k137 ehE145 (by decide)
        have g150 : H143.1 11 12 0 = H131.1 11 12 0 := ehE145.v 12 (by decide)
        have g151 : H143.2.2.1 56 0 (b) = H131.2.2.1 56 0 (b) := congrFun (ehE145.r 56 (by decide)) _
        try dsimp only [Option.toList, List.append, List.cons_append, List.nil_append]
        refine J.run0 2 rfl ?_
        try dsimp only
        exact (g_isSound_l0 (H0 := H0) (b := b)  hp0 hp1 ((100 * (12 - ((0 : Int))) : Int).toNat + 1)).1 (fine) ((0 : Int)) H143 _ (show 100 * (12 - ((0 : Int))) < _ by omega) (show 0 ≤ (fine) ∧ (fine) ≤ 1 from ⟨by omega, by omega⟩) (show 0 ≤ ((0 : Int)) ∧ ((0 : Int)) ≤ 12 from ⟨by omega, by omega⟩) (show 1 ≤ b from by omega) hT144 hE145 k147 k148 k146 k149 (Or.inl rfl)
      · have c152 : ¬ ((16 : Int) ≤ k) := hc
        clear hc
        have f153 : 0 ≤ H.2.2.1 60 0 (((16 : Int) * b) + k) ∧ H.2.2.1 60 0 (((16 : Int) * b) + k) ≤ 40320000 := hT.1 60 (((16 : Int) * b) + k)
        refine J.run 11 rfl (show 0 ≤ ((16 : Int) * b) + k ∧ ((16 : Int) * b) + k < 4800 from ⟨by omega, by omega⟩) ?_
        try dsimp only
        refine J.inv rfl rfl rfl rfl rfl rfl jDr rfl rfl rfl rfl rfl (g_powerOf (n := k) hT  (show 0 ≤ (k) ∧ (k) < 16 from ⟨by omega, by omega⟩)) ?_
        rintro v w H ⟨rfl, rfl, x154, rfl, r155⟩
        have r155' : x154 = gpow H ((k)) ∧ 0 ≤ x154 ∧ x154 ≤ 40320000 := r155
        try dsimp only [Option.toList, List.append, List.cons_append, List.nil_append]
        refine J.icmp rfl rfl rfl ⟨(show -2147483648 ≤ H.2.2.1 60 0 (((16 : Int) * b) + k) ∧ H.2.2.1 60 0 (((16 : Int) * b) + k) ≤ 2147483647 from ⟨by omega, by omega⟩), (show -2147483648 ≤ x154 ∧ x154 ≤ 2147483647 from ⟨by omega, by omega⟩)⟩ (fun hc => ?_) (fun hc => ?_)
        · have c156 : ¬ (H.2.2.1 60 0 (((16 : Int) * b) + k) = x154) := hc
          clear hc
          have f157 : -2147483648 ≤ jand (fine) ((0 : Int)) ∧ jand (fine) ((0 : Int)) ≤ 2147483647 := jI32 _
          have f158 : 0 ≤ jand (fine) ((0 : Int)) ∧ jand (fine) ((0 : Int)) ≤ 1 := jand01 ⟨by omega, by omega⟩ ⟨by omega, by omega⟩
          refine J.run0 5 rfl ?_
          try dsimp only
          exact ih (jand (fine) ((0 : Int))) (k + 1) H _ (show 16 - (k + 1) < _ by omega) (show 0 ≤ (jand (fine) ((0 : Int))) ∧ (jand (fine) ((0 : Int))) ≤ 1 from ⟨by omega, by omega⟩) (show 0 ≤ (k + 1) ∧ (k + 1) ≤ 16 from ⟨by omega, by omega⟩) (show 1 ≤ b from by omega) hT hE k0gP k0gX k0gL k0gZ rfl
        · have c159 : ¬ (¬ (H.2.2.1 60 0 (((16 : Int) * b) + k) = x154)) := hc
          clear hc
          have f160 : -2147483648 ≤ jand (fine) ((1 : Int)) ∧ jand (fine) ((1 : Int)) ≤ 2147483647 := jI32 _
          have f161 : 0 ≤ jand (fine) ((1 : Int)) ∧ jand (fine) ((1 : Int)) ≤ 1 := jand01 ⟨by omega, by omega⟩ ⟨by omega, by omega⟩
          refine J.run0 6 rfl ?_
          try dsimp only
          exact ih (jand (fine) ((1 : Int))) (k + 1) H _ (show 16 - (k + 1) < _ by omega) (show 0 ≤ (jand (fine) ((1 : Int))) ∧ (jand (fine) ((1 : Int))) ≤ 1 from ⟨by omega, by omega⟩) (show 0 ≤ (k + 1) ∧ (k + 1) ≤ 16 from ⟨by omega, by omega⟩) (show 1 ≤ b from by omega) hT hE k0gP k0gX k0gL k0gZ rfl
-- 
theorem g_isSound_step {b : Int} {ihS_ : True} (ihS : ∀ {b_ : Int} {H : jH}, b_ < b → gT H → gP H → gX H → gL H → gZ H → 0 ≤ b_ ∧ b_ < 300 → b_ < H.1 11 12 0 → J true (d + 2) 125 w (0, jargs 0 [jT, .inl b_], [], H) (jN fun v w' H' => w' = w ∧ gT H' ∧ jEx [48, 56, 57] [108, 99, 100, 101, 105, 102, 103, 104, 61] H' H ∧ gP H' ∧ gX H' ∧ gL H' ∧ gZ H' ∧ ∃ x, v = some (.inl x) ∧ 0 ≤ x ∧ x ≤ 1)) {H : jH} (hT : gT H) (k0gP : gP H) (k0gX : gX H) (k0gL : gL H) (k0gZ : gZ H) (hp0 : 0 ≤ b ∧ b < 300) (hp1 : b < H.1 11 12 0) : J true (d + 3) 125 w (0, jargs 0 [jT, .inl b], [], H) (jN fun v w' H' => w' = w ∧ gT H' ∧ jEx [48, 56, 57] [108, 99, 100, 101, 105, 102, 103, 104, 61] H' H ∧ gP H' ∧ gX H' ∧ gL H' ∧ gZ H' ∧ ∃ x, v = some (.inl x) ∧ 0 ≤ x ∧ x ≤ 1) := by
  have hE : jEx [48, 56, 57] [108, 99, 100, 101, 105, 102, 103, 104, 61] H H := jEx.refl _ _ _
  have f162 : 0 ≤ H.2.2.1 61 0 (b) ∧ H.2.2.1 61 0 (b) ≤ 2 := hT.1 61 (b)
  have f162gZ : b = 0 → H.2.2.1 61 0 (b) = 1 := fun z => by rw [z]; exact k0gZ
  refine J.run 4 rfl (show 0 ≤ b ∧ b < 300 from ⟨by omega, by omega⟩) ?_
  try dsimp only
  refine J.ifc rfl rfl rfl (show -2147483648 ≤ H.2.2.1 61 0 (b) ∧ H.2.2.1 61 0 (b) ≤ 2147483647 from ⟨by omega, by omega⟩) (fun hc => ?_) (fun hc => ?_)
  · have c163 : H.2.2.1 61 0 (b) ≤ (0 : Int) := hc
    clear hc
    refine J.run 5 rfl (show 0 ≤ b ∧ b < 300 from ⟨by omega, by omega⟩) ?_
    try dsimp only
    refine J.gn fun H164 hH164 => ?_
    have hT165 : gT H164 := by rw [hH164]; exact gT.upd hT (show 0 ≤ (2 : Int) ∧ (2 : Int) ≤ 2 from ⟨by omega, by omega⟩) (fun z => absurd z (by decide))
    have hE166 : jEx [48, 56, 57] [108, 99, 100, 101, 105, 102, 103, 104, 61] H164 H := by rw [hH164]; exact jEx.row hE (by decide)
    have k167 : gP H164 := by rw [hH164]; exact k0gP
    have k168 : gX H164 := by rw [hH164]; exact k0gX
    have k169 : gL H164 := by rw [hH164]; exact k0gL
    have k170 : gZ H164 := by rw [hH164]; exact (if_neg (show ¬ (0 : Int) = b by omega)).trans k0gZ
    have g171 : H164.2.2.1 61 0 (b) = (2 : Int) := by subst hH164; exact if_pos rfl
    have g172 : H164.1 11 12 0 = H.1 11 12 0 := by subst hH164; rfl
    clear hH164
    have f174 : -1 ≤ H164.2.2.1 55 0 (b) ∧ H164.2.2.1 55 0 (b) ≤ 299 := hT165.1 55 (b)
    have f175 : 1 ≤ H164.1 11 12 0 ∧ H164.1 11 12 0 ≤ 300 := hT165.2.1 12
    have f174b : H164.2.2.1 55 0 (b) < H164.1 11 12 0 := hT165.2.2.1 55 (b) rfl
    have f174gP : (b = 0 → H164.2.2.1 55 0 (b) = -1) ∧ (1 ≤ b → b < 300 → 0 ≤ H164.2.2.1 55 0 (b) ∧ H164.2.2.1 55 0 (b) < b) := ⟨fun z => by rw [z]; exact k167.1, fun z z' => k167.2.1 _ z z'⟩
    refine J.run 5 rfl (show 0 ≤ b ∧ b < 300 from ⟨by omega, by omega⟩) ?_
    try dsimp only
    refine J.inv rfl rfl rfl rfl rfl rfl jDr rfl rfl rfl rfl rfl (ihS (b_ := H164.2.2.1 55 0 (b)) (by omega) hT165 k167 k168 k169 k170 (show 0 ≤ (H164.2.2.1 55 0 (b)) ∧ (H164.2.2.1 55 0 (b)) < 300 from ⟨by omega, by omega⟩) (show (H164.2.2.1 55 0 (b)) < H164.1 11 12 0 from by omega)) ?_
    rintro v w H178 ⟨rfl, hT179, ehE180, k181, k182, k183, k184, x176, rfl, r177⟩
    have hE180 := jEx.trans ehE180 hE166 (by decide) (by decide)
    have r177' : 0 ≤ x176 ∧ x176 ≤ 1 := r177
    have g185 : H178.1 11 12 0 = H164.1 11 12 0 := ehE180.v 12 (by decide)
    have g186 : H178.2.2.1 55 0 (b) = H164.2.2.1 55 0 (b) := congrFun (ehE180.r 55 (by decide)) _
    try dsimp only [Option.toList, List.append, List.cons_append, List.nil_append]
    refine J.ifc rfl rfl rfl (show -2147483648 ≤ x176 ∧ x176 ≤ 2147483647 from ⟨by omega, by omega⟩) (fun hc => ?_) (fun hc => ?_)
    · have c187 : ¬ (x176 = (0 : Int)) := hc
      clear hc
      refine J.run 5 rfl (show 0 ≤ b ∧ b < 300 from ⟨by omega, by omega⟩) ?_
      try dsimp only
      have f188 : 1 ≤ H178.1 11 12 0 ∧ H178.1 11 12 0 ≤ 300 := hT179.2.1 12
      refine J.inv rfl rfl rfl rfl rfl rfl jDr rfl rfl rfl rfl rfl (g_state (b := H178.2.2.1 55 0 (b)) hT179 k181 k182 k183 (show 0 ≤ (H178.2.2.1 55 0 (b)) ∧ (H178.2.2.1 55 0 (b)) < 300 from ⟨by omega, by omega⟩) (show (H178.2.2.1 55 0 (b)) < H178.1 11 12 0 from by omega)) ?_
      rintro v w H191 ⟨rfl, hT192, ehE193, k194, k195, k196, rfl⟩
      have hE193 := jEx.trans ehE193 hE180 (by decide) (by decide)
      have k197 : gZ H191 := gZ.ex k184 ehE193 (by decide)
      have g198 : H191.1 11 12 0 = H178.1 11 12 0 := ehE193.v 12 (by decide)
      have g199 : H191.2.2.1 55 0 (b) = H178.2.2.1 55 0 (b) := congrFun (ehE193.r 55 (by decide)) _
      try dsimp only [Option.toList, List.append, List.cons_append, List.nil_append]
      refine J.run0 4 rfl ?_
      try dsimp only
      exact (g_isSound_l1 (H0 := H) (b := b)  hp0 hp1 ((16 - ((0 : Int)) : Int).toNat + 1)) ((1 : Int)) ((0 : Int)) H191 _ (show 16 - ((0 : Int)) < _ by omega) (show 0 ≤ ((1 : Int)) ∧ ((1 : Int)) ≤ 1 from ⟨by omega, by omega⟩) (show 0 ≤ ((0 : Int)) ∧ ((0 : Int)) ≤ 16 from ⟨by omega, by omega⟩) (show 1 ≤ b from by omega) hT192 hE193 k194 k195 k196 k197 rfl
    · have c200 : ¬ (¬ (x176 = (0 : Int))) := hc
      clear hc
      refine J.run0 1 rfl ?_
      try dsimp only
      exact J.retb rfl rfl rfl (show (0 : Int) = 0 ∨ (0 : Int) = 1 by omega) ⟨_, rfl, rfl, hT179, hE180, k181, k182, k183, k184, _, rfl, (show 0 ≤ ((0 : Int)) ∧ ((0 : Int)) ≤ 1 from ⟨by omega, by omega⟩)⟩
  · have c201 : ¬ (H.2.2.1 61 0 (b) ≤ (0 : Int)) := hc
    clear hc
    refine J.run 5 rfl (show 0 ≤ b ∧ b < 300 from ⟨by omega, by omega⟩) ?_
    try dsimp only
    refine J.icmp rfl rfl rfl ⟨(show -2147483648 ≤ H.2.2.1 61 0 (b) ∧ H.2.2.1 61 0 (b) ≤ 2147483647 from ⟨by omega, by omega⟩), (show -2147483648 ≤ (1 : Int) ∧ (1 : Int) ≤ 2147483647 from ⟨by omega, by omega⟩)⟩ (fun hc => ?_) (fun hc => ?_)
    · have c202 : ¬ (H.2.2.1 61 0 (b) = (1 : Int)) := hc
      clear hc
      refine J.run0 1 rfl ?_
      try dsimp only
      exact J.retb rfl rfl rfl (show (0 : Int) = 0 ∨ (0 : Int) = 1 by omega) ⟨_, rfl, rfl, hT, hE, k0gP, k0gX, k0gL, k0gZ, _, rfl, (show 0 ≤ ((0 : Int)) ∧ ((0 : Int)) ≤ 1 from ⟨by omega, by omega⟩)⟩
    · have c203 : ¬ (¬ (H.2.2.1 61 0 (b) = (1 : Int))) := hc
      clear hc
      refine J.run0 2 rfl ?_
      try dsimp only
      exact J.retb rfl rfl rfl (show (1 : Int) = 0 ∨ (1 : Int) = 1 by omega) ⟨_, rfl, rfl, hT, hE, k0gP, k0gX, k0gL, k0gZ, _, rfl, (show 0 ≤ ((1 : Int)) ∧ ((1 : Int)) ≤ 1 from ⟨by omega, by omega⟩)⟩
end
