-- M: X11_block
section
variable {d : Nat} {w : jW} 
-- 
theorem g_block_l0 {n parent one two claim : Int} {H0 : jH} (hp0 : -2147483648 ≤ n ∧ n ≤ 2147483647) (hp1 : -2147483648 ≤ parent ∧ parent ≤ 2147483647) (hp2 : -2147483648 ≤ one ∧ one ≤ 2147483647) (hp3 : -2147483648 ≤ two ∧ two ≤ 2147483647) (hp4 : -2147483648 ≤ claim ∧ claim ≤ 2147483647) : ∀ (m : Nat), (∀ (sound b k : Int) (H : jH) (lv : jL), 16 - k < (m : Int) → (0 ≤ sound ∧ sound ≤ 1) → (0 ≤ b ∧ b < 300) → (b < H.1 11 12 0) → (0 ≤ k ∧ k ≤ 16) → (H.2.2.1 58 0 (b) = 0) → (0 ≤ parent ∧ parent < 300) → (-1 ≤ one ∧ one ≤ 1499) → (-1 ≤ two ∧ two ≤ 1499) → (-1 ≤ claim ∧ claim ≤ 65535) → gT H → jEx [48, 56, 57, 12, 47] [60, 56, 59, 58, 55, 57, 61, 99, 100, 105, 108, 101, 102, 103, 104] H H0 → gP H → gX H → gL H → gZ H → gQ H → gB H → gK H → gN H → gW H (H.1 11 19 0) → ((∃ j6 : Int, lv = [(9, .inl k), (8, .inl b), (7, .inl sound), (6, .inl j6), (0, jT), (1, .inl n), (2, .inl parent), (3, .inl one), (4, .inl two), (5, .inl claim)])) → J true (d + 303) 153 w (146, lv, [], H) (jN fun v w' H' => w' = w ∧ gT H' ∧ jEx [48, 56, 57, 12, 47] [60, 56, 59, 58, 55, 57, 61, 99, 100, 105, 108, 101, 102, 103, 104] H' H0 ∧ gP H' ∧ gX H' ∧ gL H' ∧ gZ H' ∧ gQ H' ∧ gB H' ∧ gK H' ∧ gN H' ∧ gW H' (H'.1 11 19 0) ∧ ∃ x, v = some (.inl x) ∧ 0 ≤ x ∧ x ≤ 299)) := by
  intro m
  induction m with
  | zero =>
    skip
    · intro sound b k H lv hm hi0 hi1 hi2 hi3 hi4 hi5 hi6 hi7 hi8 hT hE k0gP k0gX k0gL k0gZ k0gQ k0gB k0gK k0gN k0gW hlv
      exfalso
      omega
  | succ m ih =>
    skip
    · intro sound b k H lv hm hi0 hi1 hi2 hi3 hi4 hi5 hi6 hi7 hi8 hT hE k0gP k0gX k0gL k0gZ k0gQ k0gB k0gK k0gN k0gW hlv
      rcases hlv with ⟨j6, rfl⟩
      refine J.run0 2 rfl ?_
      try dsimp only
      refine J.icmp rfl rfl rfl ⟨(show -2147483648 ≤ k ∧ k ≤ 2147483647 from ⟨by omega, by omega⟩), (show -2147483648 ≤ (16 : Int) ∧ (16 : Int) ≤ 2147483647 from ⟨by omega, by omega⟩)⟩ (fun hc => ?_) (fun hc => ?_)
      · have c1 : (16 : Int) ≤ k := hc
        clear hc
        refine J.run0 1 rfl ?_
        try dsimp only
        refine J.ifc rfl rfl rfl (show -2147483648 ≤ one ∧ one ≤ 2147483647 from ⟨by omega, by omega⟩) (fun hc => ?_) (fun hc => ?_)
        · have c2 : one < (0 : Int) := hc
          clear hc
          refine J.run0 1 rfl ?_
          try dsimp only
          refine J.ifc rfl rfl rfl (show -2147483648 ≤ two ∧ two ≤ 2147483647 from ⟨by omega, by omega⟩) (fun hc => ?_) (fun hc => ?_)
          · have c3 : two < (0 : Int) := hc
            clear hc
            refine J.run0 1 rfl ?_
            try dsimp only
            exact J.reti rfl rfl rfl ⟨_, rfl, rfl, hT, hE, k0gP, k0gX, k0gL, k0gZ, k0gQ, k0gB, k0gK, k0gN, k0gW, _, rfl, (show 0 ≤ (b) ∧ (b) ≤ 299 from ⟨by omega, by omega⟩)⟩
          · have c4 : ¬ (two < (0 : Int)) := hc
            clear hc
            have f5 : 0 ≤ H.2.2.1 58 0 (b) ∧ H.2.2.1 58 0 (b) ≤ 12 := hT.1 58 (b)
            refine J.run 12 rfl ⟨(show 0 ≤ b ∧ b < 300 from ⟨by omega, by omega⟩), (show 0 ≤ ((12 : Int) * b) + (H.2.2.1 58 0 (b)) ∧ ((12 : Int) * b) + (H.2.2.1 58 0 (b)) < 3600 from ⟨by omega, by omega⟩)⟩ ?_
            try dsimp only
            refine J.gn fun H6 hH6 => ?_
            have hT7 : gT H6 := by rw [hH6]; exact gT.upd hT (show 0 ≤ two ∧ two ≤ 1499 from ⟨by omega, by omega⟩) (fun z => absurd z (by decide))
            have hE8 : jEx [48, 56, 57, 12, 47] [60, 56, 59, 58, 55, 57, 61, 99, 100, 105, 108, 101, 102, 103, 104] H6 H0 := by rw [hH6]; exact jEx.row hE (by decide)
            have k9 : gP H6 := by rw [hH6]; exact k0gP
            have k10 : gX H6 := by rw [hH6]; exact k0gX
            have k11 : gL H6 := by rw [hH6]; exact k0gL
            have k12 : gZ H6 := by rw [hH6]; exact k0gZ
            have k13 : gQ H6 := by rw [hH6]; exact k0gQ
            have k14 : gB H6 := by rw [hH6]; exact k0gB
            have k15 : gK H6 := by rw [hH6]; exact k0gK
            have k16 : gN H6 := by rw [hH6]; exact k0gN
            have k17 : gW H6 (H6.1 11 19 0) := by rw [hH6]; exact k0gW
            have g18 : H6.2.2.1 59 0 (((12 : Int) * b) + (H.2.2.1 58 0 (b))) = two := by subst hH6; exact if_pos rfl
            have g19 : H6.1 11 12 0 = H.1 11 12 0 := by subst hH6; rfl
            have g20 : H6.2.2.1 58 0 (b) = H.2.2.1 58 0 (b) := by subst hH6; rfl
            clear hH6
            refine J.run 8 rfl ⟨(show 0 ≤ b ∧ b < 300 from ⟨by omega, by omega⟩), (show 0 ≤ b ∧ b < 300 from ⟨by omega, by omega⟩)⟩ ?_
            try dsimp only
            refine J.gn fun H21 hH21 => ?_
            have hT22 : gT H21 := by rw [hH21]; exact gT.upd hT7 (show 0 ≤ (H6.2.2.1 58 0 (b)) + (1 : Int) ∧ (H6.2.2.1 58 0 (b)) + (1 : Int) ≤ 12 from ⟨by omega, by omega⟩) (fun z => absurd z (by decide))
            have hE23 : jEx [48, 56, 57, 12, 47] [60, 56, 59, 58, 55, 57, 61, 99, 100, 105, 108, 101, 102, 103, 104] H21 H0 := by rw [hH21]; exact jEx.row hE8 (by decide)
            have k24 : gP H21 := by rw [hH21]; exact k9
            have k25 : gX H21 := by rw [hH21]; exact k10
            have k26 : gL H21 := by rw [hH21]; exact k11
            have k27 : gZ H21 := by rw [hH21]; exact k12
            have k28 : gQ H21 := by rw [hH21]; exact k13
            have k29 : gB H21 := by rw [hH21]; exact k14
            have k30 : gK H21 := by rw [hH21]; exact k15
            have k31 : gN H21 := by rw [hH21]; exact k16
            have k32 : gW H21 (H21.1 11 19 0) := by rw [hH21]; exact k17
            have g33 : H21.2.2.1 58 0 (b) = (H6.2.2.1 58 0 (b)) + (1 : Int) := by subst hH21; exact if_pos rfl
            have g34 : H21.1 11 12 0 = H6.1 11 12 0 := by subst hH21; rfl
            have g35 : H21.2.2.1 59 0 (((12 : Int) * b) + (H.2.2.1 58 0 (b))) = H6.2.2.1 59 0 (((12 : Int) * b) + (H.2.2.1 58 0 (b))) := by subst hH21; rfl
            clear hH21
            refine J.run0 1 rfl ?_
            try dsimp only
            exact J.reti rfl rfl rfl ⟨_, rfl, rfl, hT22, hE23, k24, k25, k26, k27, k28, k29, k30, k31, k32, _, rfl, (show 0 ≤ (b) ∧ (b) ≤ 299 from ⟨by omega, by omega⟩)⟩
        · have c37 : ¬ (one < (0 : Int)) := hc
          clear hc
          refine J.run 7 rfl (show 0 ≤ (12 : Int) * b ∧ (12 : Int) * b < 3600 from ⟨by omega, by omega⟩) ?_
          try dsimp only
          refine J.gn fun H38 hH38 => ?_
          have hT39 : gT H38 := by rw [hH38]; exact gT.upd hT (show 0 ≤ one ∧ one ≤ 1499 from ⟨by omega, by omega⟩) (fun z => absurd z (by decide))
          have hE40 : jEx [48, 56, 57, 12, 47] [60, 56, 59, 58, 55, 57, 61, 99, 100, 105, 108, 101, 102, 103, 104] H38 H0 := by rw [hH38]; exact jEx.row hE (by decide)
          have k41 : gP H38 := by rw [hH38]; exact k0gP
          have k42 : gX H38 := by rw [hH38]; exact k0gX
          have k43 : gL H38 := by rw [hH38]; exact k0gL
          have k44 : gZ H38 := by rw [hH38]; exact k0gZ
          have k45 : gQ H38 := by rw [hH38]; exact k0gQ
          have k46 : gB H38 := by rw [hH38]; exact k0gB
          have k47 : gK H38 := by rw [hH38]; exact k0gK
          have k48 : gN H38 := by rw [hH38]; exact k0gN
          have k49 : gW H38 (H38.1 11 19 0) := by rw [hH38]; exact k0gW
          have g50 : H38.2.2.1 59 0 ((12 : Int) * b) = one := by subst hH38; exact if_pos rfl
          have g51 : H38.1 11 12 0 = H.1 11 12 0 := by subst hH38; rfl
          have g52 : H38.2.2.1 58 0 (b) = H.2.2.1 58 0 (b) := by subst hH38; rfl
          clear hH38
          have f53 : 0 ≤ H38.2.2.1 58 0 (b) ∧ H38.2.2.1 58 0 (b) ≤ 12 := hT39.1 58 (b)
          refine J.run 8 rfl ⟨(show 0 ≤ b ∧ b < 300 from ⟨by omega, by omega⟩), (show 0 ≤ b ∧ b < 300 from ⟨by omega, by omega⟩)⟩ ?_
          try dsimp only
          refine J.gn fun H54 hH54 => ?_
          have hT55 : gT H54 := by rw [hH54]; exact gT.upd hT39 (show 0 ≤ (H38.2.2.1 58 0 (b)) + (1 : Int) ∧ (H38.2.2.1 58 0 (b)) + (1 : Int) ≤ 12 from ⟨by omega, by omega⟩) (fun z => absurd z (by decide))
          have hE56 : jEx [48, 56, 57, 12, 47] [60, 56, 59, 58, 55, 57, 61, 99, 100, 105, 108, 101, 102, 103, 104] H54 H0 := by rw [hH54]; exact jEx.row hE40 (by decide)
          have k57 : gP H54 := by rw [hH54]; exact k41
          have k58 : gX H54 := by rw [hH54]; exact k42
          have k59 : gL H54 := by rw [hH54]; exact k43
          have k60 : gZ H54 := by rw [hH54]; exact k44
          have k61 : gQ H54 := by rw [hH54]; exact k45
          have k62 : gB H54 := by rw [hH54]; exact k46
          have k63 : gK H54 := by rw [hH54]; exact k47
          have k64 : gN H54 := by rw [hH54]; exact k48
          have k65 : gW H54 (H54.1 11 19 0) := by rw [hH54]; exact k49
          have g66 : H54.2.2.1 58 0 (b) = (H38.2.2.1 58 0 (b)) + (1 : Int) := by subst hH54; exact if_pos rfl
          have g67 : H54.1 11 12 0 = H38.1 11 12 0 := by subst hH54; rfl
          have g68 : H54.2.2.1 59 0 ((12 : Int) * b) = H38.2.2.1 59 0 ((12 : Int) * b) := by subst hH54; rfl
          clear hH54
          refine J.run0 1 rfl ?_
          try dsimp only
          refine J.ifc rfl rfl rfl (show -2147483648 ≤ two ∧ two ≤ 2147483647 from ⟨by omega, by omega⟩) (fun hc => ?_) (fun hc => ?_)
          · have c70 : two < (0 : Int) := hc
            clear hc
            refine J.run0 1 rfl ?_
            try dsimp only
            exact J.reti rfl rfl rfl ⟨_, rfl, rfl, hT55, hE56, k57, k58, k59, k60, k61, k62, k63, k64, k65, _, rfl, (show 0 ≤ (b) ∧ (b) ≤ 299 from ⟨by omega, by omega⟩)⟩
          · have c71 : ¬ (two < (0 : Int)) := hc
            clear hc
            refine J.run 12 rfl ⟨(show 0 ≤ b ∧ b < 300 from ⟨by omega, by omega⟩), (show 0 ≤ ((12 : Int) * b) + (H54.2.2.1 58 0 (b)) ∧ ((12 : Int) * b) + (H54.2.2.1 58 0 (b)) < 3600 from ⟨by omega, by omega⟩)⟩ ?_
            try dsimp only
            refine J.gn fun H72 hH72 => ?_
            have hT73 : gT H72 := by rw [hH72]; exact gT.upd hT55 (show 0 ≤ two ∧ two ≤ 1499 from ⟨by omega, by omega⟩) (fun z => absurd z (by decide))
            have hE74 : jEx [48, 56, 57, 12, 47] [60, 56, 59, 58, 55, 57, 61, 99, 100, 105, 108, 101, 102, 103, 104] H72 H0 := by rw [hH72]; exact jEx.row hE56 (by decide)
            have k75 : gP H72 := by rw [hH72]; exact k57
            have k76 : gX H72 := by rw [hH72]; exact k58
            have k77 : gL H72 := by rw [hH72]; exact k59
            have k78 : gZ H72 := by rw [hH72]; exact k60
            have k79 : gQ H72 := by rw [hH72]; exact k61
            have k80 : gB H72 := by rw [hH72]; exact k62
            have k81 : gK H72 := by rw [hH72]; exact k63
            have k82 : gN H72 := by rw [hH72]; exact k64
            have k83 : gW H72 (H72.1 11 19 0) := by rw [hH72]; exact k65
            have g84 : H72.2.2.1 59 0 (((12 : Int) * b) + (H54.2.2.1 58 0 (b))) = two := by subst hH72; exact if_pos rfl
            have g85 : H72.1 11 12 0 = H54.1 11 12 0 := by subst hH72; rfl
            have g86 : H72.2.2.1 58 0 (b) = H54.2.2.1 58 0 (b) := by subst hH72; rfl
            have g87 : ((12 : Int) * b = ((12 : Int) * b) + (H54.2.2.1 58 0 (b)) → H72.2.2.1 59 0 ((12 : Int) * b) = two) ∧ (¬ (12 : Int) * b = ((12 : Int) * b) + (H54.2.2.1 58 0 (b)) → H72.2.2.1 59 0 ((12 : Int) * b) = H54.2.2.1 59 0 ((12 : Int) * b)) := by subst hH72; exact ⟨fun z => if_pos z, fun z => if_neg z⟩
            clear hH72
            refine J.run 8 rfl ⟨(show 0 ≤ b ∧ b < 300 from ⟨by omega, by omega⟩), (show 0 ≤ b ∧ b < 300 from ⟨by omega, by omega⟩)⟩ ?_
            try dsimp only
            refine J.gn fun H88 hH88 => ?_
            have hT89 : gT H88 := by rw [hH88]; exact gT.upd hT73 (show 0 ≤ (H72.2.2.1 58 0 (b)) + (1 : Int) ∧ (H72.2.2.1 58 0 (b)) + (1 : Int) ≤ 12 from ⟨by omega, by omega⟩) (fun z => absurd z (by decide))
            have hE90 : jEx [48, 56, 57, 12, 47] [60, 56, 59, 58, 55, 57, 61, 99, 100, 105, 108, 101, 102, 103, 104] H88 H0 := by rw [hH88]; exact jEx.row hE74 (by decide)
            have k91 : gP H88 := by rw [hH88]; exact k75
            have k92 : gX H88 := by rw [hH88]; exact k76
            have k93 : gL H88 := by rw [hH88]; exact k77
            have k94 : gZ H88 := by rw [hH88]; exact k78
            have k95 : gQ H88 := by rw [hH88]; exact k79
            have k96 : gB H88 := by rw [hH88]; exact k80
            have k97 : gK H88 := by rw [hH88]; exact k81
            have k98 : gN H88 := by rw [hH88]; exact k82
            have k99 : gW H88 (H88.1 11 19 0) := by rw [hH88]; exact k83
            have g100 : H88.2.2.1 58 0 (b) = (H72.2.2.1 58 0 (b)) + (1 : Int) := by subst hH88; exact if_pos rfl
            have g101 : H88.1 11 12 0 = H72.1 11 12 0 := by subst hH88; rfl
            have g102 : H88.2.2.1 59 0 (((12 : Int) * b) + (H54.2.2.1 58 0 (b))) = H72.2.2.1 59 0 (((12 : Int) * b) + (H54.2.2.1 58 0 (b))) := by subst hH88; rfl
            have g104 : H88.2.2.1 59 0 ((12 : Int) * b) = H72.2.2.1 59 0 ((12 : Int) * b) := by subst hH88; rfl
            clear hH88
            refine J.run0 1 rfl ?_
            try dsimp only
            exact J.reti rfl rfl rfl ⟨_, rfl, rfl, hT89, hE90, k91, k92, k93, k94, k95, k96, k97, k98, k99, _, rfl, (show 0 ≤ (b) ∧ (b) ≤ 299 from ⟨by omega, by omega⟩)⟩
      · have c105 : ¬ ((16 : Int) ≤ k) := hc
        clear hc
        refine J.run0 8 rfl ?_
        try dsimp only
        refine J.ifc rfl rfl rfl (show -2147483648 ≤ claim ∧ claim ≤ 2147483647 from ⟨by omega, by omega⟩) (fun hc => ?_) (fun hc => ?_)
        · have c106 : claim < (0 : Int) := hc
          clear hc
          refine J.run0 1 rfl ?_
          try dsimp only
          refine J.ifc rfl rfl rfl (show -2147483648 ≤ sound ∧ sound ≤ 2147483647 from ⟨by omega, by omega⟩) (fun hc => ?_) (fun hc => ?_)
          · have c107 : sound = (0 : Int) := hc
            clear hc
            have f108 : 0 ≤ H.2.2.1 60 0 (((16 : Int) * parent) + k) ∧ H.2.2.1 60 0 (((16 : Int) * parent) + k) ≤ 40320000 := hT.1 60 (((16 : Int) * parent) + k)
            refine J.run 9 rfl ⟨(show 0 ≤ ((16 : Int) * parent) + k ∧ ((16 : Int) * parent) + k < 4800 from ⟨by omega, by omega⟩), (show 0 ≤ ((16 : Int) * b) + k ∧ ((16 : Int) * b) + k < 4800 from ⟨by omega, by omega⟩)⟩ ?_
            try dsimp only
            refine J.gn fun H109 hH109 => ?_
            have hT110 : gT H109 := by rw [hH109]; exact gT.upd hT (show 0 ≤ H.2.2.1 60 0 (((16 : Int) * parent) + k) ∧ H.2.2.1 60 0 (((16 : Int) * parent) + k) ≤ 40320000 from ⟨by omega, by omega⟩) (fun z => absurd z (by decide))
            have hE111 : jEx [48, 56, 57, 12, 47] [60, 56, 59, 58, 55, 57, 61, 99, 100, 105, 108, 101, 102, 103, 104] H109 H0 := by rw [hH109]; exact jEx.row hE (by decide)
            have k112 : gP H109 := by rw [hH109]; exact k0gP
            have k113 : gX H109 := by rw [hH109]; exact k0gX
            have k114 : gL H109 := by rw [hH109]; exact k0gL
            have k115 : gZ H109 := by rw [hH109]; exact k0gZ
            have k116 : gQ H109 := by rw [hH109]; exact k0gQ
            have k117 : gB H109 := by rw [hH109]; exact k0gB
            have k118 : gK H109 := by rw [hH109]; exact k0gK
            have k119 : gN H109 := by rw [hH109]; exact k0gN
            have k120 : gW H109 (H109.1 11 19 0) := by rw [hH109]; exact k0gW
            have g121 : H109.2.2.1 60 0 (((16 : Int) * b) + k) = H.2.2.1 60 0 (((16 : Int) * parent) + k) := by subst hH109; exact if_pos rfl
            have g122 : H109.1 11 12 0 = H.1 11 12 0 := by subst hH109; rfl
            have g123 : H109.2.2.1 58 0 (b) = H.2.2.1 58 0 (b) := by subst hH109; rfl
            have g124 : (((16 : Int) * parent) + k = ((16 : Int) * b) + k → H109.2.2.1 60 0 (((16 : Int) * parent) + k) = H.2.2.1 60 0 (((16 : Int) * parent) + k)) ∧ (¬ ((16 : Int) * parent) + k = ((16 : Int) * b) + k → H109.2.2.1 60 0 (((16 : Int) * parent) + k) = H.2.2.1 60 0 (((16 : Int) * parent) + k)) := by subst hH109; exact ⟨fun z => if_pos z, fun z => if_neg z⟩
            clear hH109
            refine J.run0 2 rfl ?_
            try dsimp only
            exact ih (sound) (b) (k + 1) H109 _ (show 16 - (k + 1) < _ by omega) (show 0 ≤ (sound) ∧ (sound) ≤ 1 from ⟨by omega, by omega⟩) (show 0 ≤ (b) ∧ (b) < 300 from ⟨by omega, by omega⟩) (show (b) < H109.1 11 12 0 from by omega) (show 0 ≤ (k + 1) ∧ (k + 1) ≤ 16 from ⟨by omega, by omega⟩) (show H109.2.2.1 58 0 ((b)) = 0 from by omega) (show 0 ≤ parent ∧ parent < 300 from ⟨by omega, by omega⟩) (show -1 ≤ one ∧ one ≤ 1499 from ⟨by omega, by omega⟩) (show -1 ≤ two ∧ two ≤ 1499 from ⟨by omega, by omega⟩) (show -1 ≤ claim ∧ claim ≤ 65535 from ⟨by omega, by omega⟩) hT110 hE111 k112 k113 k114 k115 k116 k117 k118 k119 k120 ⟨_, rfl⟩
          · have c125 : ¬ (sound = (0 : Int)) := hc
            clear hc
            refine J.run0 2 rfl ?_
            try dsimp only
            refine J.inv rfl rfl rfl rfl rfl rfl jDr rfl rfl rfl rfl rfl (g_powerOf (n := k) hT  (show 0 ≤ (k) ∧ (k) < 16 from ⟨by omega, by omega⟩)) ?_
            rintro v w H ⟨rfl, rfl, x126, rfl, r127⟩
            have r127' : x126 = gpow H ((k)) ∧ 0 ≤ x126 ∧ x126 ≤ 40320000 := r127
            try dsimp only [Option.toList, List.append, List.cons_append, List.nil_append]
            refine J.run 2 rfl (show 0 ≤ ((16 : Int) * b) + k ∧ ((16 : Int) * b) + k < 4800 from ⟨by omega, by omega⟩) ?_
            try dsimp only
            refine J.gn fun H128 hH128 => ?_
            have hT129 : gT H128 := by rw [hH128]; exact gT.upd hT (show 0 ≤ x126 ∧ x126 ≤ 40320000 from ⟨by omega, by omega⟩) (fun z => absurd z (by decide))
            have hE130 : jEx [48, 56, 57, 12, 47] [60, 56, 59, 58, 55, 57, 61, 99, 100, 105, 108, 101, 102, 103, 104] H128 H0 := by rw [hH128]; exact jEx.row hE (by decide)
            have k131 : gP H128 := by rw [hH128]; exact k0gP
            have k132 : gX H128 := by rw [hH128]; exact k0gX
            have k133 : gL H128 := by rw [hH128]; exact k0gL
            have k134 : gZ H128 := by rw [hH128]; exact k0gZ
            have k135 : gQ H128 := by rw [hH128]; exact k0gQ
            have k136 : gB H128 := by rw [hH128]; exact k0gB
            have k137 : gK H128 := by rw [hH128]; exact k0gK
            have k138 : gN H128 := by rw [hH128]; exact k0gN
            have k139 : gW H128 (H128.1 11 19 0) := by rw [hH128]; exact k0gW
            have g140 : H128.2.2.1 60 0 (((16 : Int) * b) + k) = x126 := by subst hH128; exact if_pos rfl
            have g141 : H128.1 11 12 0 = H.1 11 12 0 := by subst hH128; rfl
            have g142 : H128.2.2.1 58 0 (b) = H.2.2.1 58 0 (b) := by subst hH128; rfl
            clear hH128
            refine J.run0 2 rfl ?_
            try dsimp only
            exact ih (sound) (b) (k + 1) H128 _ (show 16 - (k + 1) < _ by omega) (show 0 ≤ (sound) ∧ (sound) ≤ 1 from ⟨by omega, by omega⟩) (show 0 ≤ (b) ∧ (b) < 300 from ⟨by omega, by omega⟩) (show (b) < H128.1 11 12 0 from by omega) (show 0 ≤ (k + 1) ∧ (k + 1) ≤ 16 from ⟨by omega, by omega⟩) (show H128.2.2.1 58 0 ((b)) = 0 from by omega) (show 0 ≤ parent ∧ parent < 300 from ⟨by omega, by omega⟩) (show -1 ≤ one ∧ one ≤ 1499 from ⟨by omega, by omega⟩) (show -1 ≤ two ∧ two ≤ 1499 from ⟨by omega, by omega⟩) (show -1 ≤ claim ∧ claim ≤ 65535 from ⟨by omega, by omega⟩) hT129 hE130 k131 k132 k133 k134 k135 k136 k137 k138 k139 ⟨_, rfl⟩
        · have c143 : ¬ (claim < (0 : Int)) := hc
          clear hc
          have f144 : -2147483648 ≤ jshr (claim) (k) ∧ jshr (claim) (k) ≤ 2147483647 := jI32 _
          have f145 : -2147483648 ≤ jand (jshr (claim) (k)) ((1 : Int)) ∧ jand (jshr (claim) (k)) ((1 : Int)) ≤ 2147483647 := jI32 _
          have f146 : 0 ≤ jand (jshr (claim) (k)) ((1 : Int)) ∧ jand (jshr (claim) (k)) ((1 : Int)) ≤ 1 := jand1 _
          refine J.run 9 rfl (show 0 ≤ ((16 : Int) * b) + k ∧ ((16 : Int) * b) + k < 4800 from ⟨by omega, by omega⟩) ?_
          try dsimp only
          refine J.gn fun H147 hH147 => ?_
          have hT148 : gT H147 := by rw [hH147]; exact gT.upd hT (show 0 ≤ (100 : Int) * (jand (jshr (claim) (k)) ((1 : Int))) ∧ (100 : Int) * (jand (jshr (claim) (k)) ((1 : Int))) ≤ 40320000 from ⟨by omega, by omega⟩) (fun z => absurd z (by decide))
          have hE149 : jEx [48, 56, 57, 12, 47] [60, 56, 59, 58, 55, 57, 61, 99, 100, 105, 108, 101, 102, 103, 104] H147 H0 := by rw [hH147]; exact jEx.row hE (by decide)
          have k150 : gP H147 := by rw [hH147]; exact k0gP
          have k151 : gX H147 := by rw [hH147]; exact k0gX
          have k152 : gL H147 := by rw [hH147]; exact k0gL
          have k153 : gZ H147 := by rw [hH147]; exact k0gZ
          have k154 : gQ H147 := by rw [hH147]; exact k0gQ
          have k155 : gB H147 := by rw [hH147]; exact k0gB
          have k156 : gK H147 := by rw [hH147]; exact k0gK
          have k157 : gN H147 := by rw [hH147]; exact k0gN
          have k158 : gW H147 (H147.1 11 19 0) := by rw [hH147]; exact k0gW
          have g159 : H147.2.2.1 60 0 (((16 : Int) * b) + k) = (100 : Int) * (jand (jshr (claim) (k)) ((1 : Int))) := by subst hH147; exact if_pos rfl
          have g160 : H147.1 11 12 0 = H.1 11 12 0 := by subst hH147; rfl
          have g161 : H147.2.2.1 58 0 (b) = H.2.2.1 58 0 (b) := by subst hH147; rfl
          clear hH147
          refine J.run0 2 rfl ?_
          try dsimp only
          exact ih (sound) (b) (k + 1) H147 _ (show 16 - (k + 1) < _ by omega) (show 0 ≤ (sound) ∧ (sound) ≤ 1 from ⟨by omega, by omega⟩) (show 0 ≤ (b) ∧ (b) < 300 from ⟨by omega, by omega⟩) (show (b) < H147.1 11 12 0 from by omega) (show 0 ≤ (k + 1) ∧ (k + 1) ≤ 16 from ⟨by omega, by omega⟩) (show H147.2.2.1 58 0 ((b)) = 0 from by omega) (show 0 ≤ parent ∧ parent < 300 from ⟨by omega, by omega⟩) (show -1 ≤ one ∧ one ≤ 1499 from ⟨by omega, by omega⟩) (show -1 ≤ two ∧ two ≤ 1499 from ⟨by omega, by omega⟩) (show -1 ≤ claim ∧ claim ≤ 65535 from ⟨by omega, by omega⟩) hT148 hE149 k150 k151 k152 k153 k154 k155 k156 k157 k158 ⟨_, rfl⟩
-- 
theorem g_block {n parent one two claim : Int} {H : jH} (hT : gT H) (k0gP : gP H) (k0gX : gX H) (k0gL : gL H) (k0gZ : gZ H) (k0gQ : gQ H) (k0gB : gB H) (k0gK : gK H) (k0gN : gN H) (k0gW : gW H (H.1 11 19 0)) (hp0 : -2147483648 ≤ n ∧ n ≤ 2147483647) (hp1 : -2147483648 ≤ parent ∧ parent ≤ 2147483647) (hp2 : -2147483648 ≤ one ∧ one ≤ 2147483647) (hp3 : -2147483648 ≤ two ∧ two ≤ 2147483647) (hp4 : -2147483648 ≤ claim ∧ claim ≤ 2147483647) : J true (d + 303) 153 w (0, jargs 0 [jT, .inl n, .inl parent, .inl one, .inl two, .inl claim], [], H) (jN fun v w' H' => w' = w ∧ gT H' ∧ jEx [48, 56, 57, 12, 47] [60, 56, 59, 58, 55, 57, 61, 99, 100, 105, 108, 101, 102, 103, 104] H' H ∧ gP H' ∧ gX H' ∧ gL H' ∧ gZ H' ∧ gQ H' ∧ gB H' ∧ gK H' ∧ gN H' ∧ gW H' (H'.1 11 19 0) ∧ ∃ x, v = some (.inl x) ∧ 0 ≤ x ∧ x ≤ 299) := by
  have hE : jEx [48, 56, 57, 12, 47] [60, 56, 59, 58, 55, 57, 61, 99, 100, 105, 108, 101, 102, 103, 104] H H := jEx.refl _ _ _
  have f162 : 1 ≤ H.1 11 12 0 ∧ H.1 11 12 0 ≤ 300 := hT.2.1 12
  refine J.run0 6 rfl ?_
  try dsimp only
  refine J.ins rfl rfl rfl rfl rfl rfl rfl rfl rfl (g_in (u := parent) (a := (0 : Int)) (b := (H.1 11 12 0) - (1 : Int)) hT  (show -2147483648 ≤ (parent) ∧ (parent) ≤ 2147483647 from ⟨by omega, by omega⟩) (show -2147483648 ≤ ((0 : Int)) ∧ ((0 : Int)) ≤ 2147483647 from ⟨by omega, by omega⟩) (show -2147483648 ≤ ((H.1 11 12 0) - (1 : Int)) ∧ ((H.1 11 12 0) - (1 : Int)) ≤ 2147483647 from ⟨by omega, by omega⟩)) ?_
  rintro v w H ⟨rfl, rfl, x163, rfl, r164⟩
  have r164' : (x163 = 0 ∨ x163 = 1) ∧ (x163 = 1 → (parent) ≥ ((0 : Int)) ∧ (parent) ≤ ((H.1 11 12 0) - (1 : Int))) ∧ (x163 = 0 → (parent) < ((0 : Int)) ∨ ((H.1 11 12 0) - (1 : Int)) < (parent)) := r164
  try dsimp only [Option.toList, List.append, List.cons_append, List.nil_append]
  refine J.ifc rfl rfl rfl (show -2147483648 ≤ x163 ∧ x163 ≤ 2147483647 from ⟨by omega, by omega⟩) (fun hc => ?_) (fun hc => ?_)
  · have c165 : x163 = (0 : Int) := hc
    clear hc
    refine J.run0 5 rfl ?_
    try dsimp only
    refine J.ifc rfl rfl rfl (show -2147483648 ≤ (1 : Int) ∧ (1 : Int) ≤ 2147483647 from ⟨by omega, by omega⟩) (fun hc => ?_) (fun hc => ?_)
    · have c166 : (1 : Int) = (0 : Int) := hc
      clear hc
      exfalso
      omega
    · have c167 : ¬ ((1 : Int) = (0 : Int)) := hc
      clear hc
      refine J.run0 3 rfl ?_
      try dsimp only
      refine J.gn fun H168 hH168 => ?_
      have hT169 : gT H168 := by rw [hH168]; exact gT.num (f := 47) hT (show 0 ≤ (1 : Int) ∧ (1 : Int) ≤ 3 from ⟨by omega, by omega⟩) (by decide) (fun z => absurd z (by decide))
      have hE170 : jEx [48, 56, 57, 12, 47] [60, 56, 59, 58, 55, 57, 61, 99, 100, 105, 108, 101, 102, 103, 104] H168 H := by rw [hH168]; exact jEx.num hE (by decide)
      have k171 : gP H168 := by rw [hH168]; exact k0gP
      have k172 : gX H168 := by rw [hH168]; exact k0gX
      have k173 : gL H168 := by rw [hH168]; exact k0gL
      have k174 : gZ H168 := by rw [hH168]; exact k0gZ
      have k175 : gQ H168 := by rw [hH168]; exact k0gQ
      have k176 : gB H168 := by rw [hH168]; exact k0gB
      have k177 : gK H168 := by rw [hH168]; exact k0gK
      have k178 : gN H168 := by rw [hH168]; exact k0gN
      have k179 : gW H168 (H168.1 11 19 0) := by rw [hH168]; exact k0gW
      have g180 : H168.1 11 47 0 = (1 : Int) := by subst hH168; rfl
      have g181 : H168.1 11 12 0 = H.1 11 12 0 := by subst hH168; rfl
      clear hH168
      have f182 : 0 ≤ H168.1 11 47 0 ∧ H168.1 11 47 0 ≤ 3 := hT169.2.1 47
      refine J.run0 2 rfl ?_
      try dsimp only
      refine J.ifc rfl rfl rfl (show -2147483648 ≤ H168.1 11 47 0 ∧ H168.1 11 47 0 ≤ 2147483647 from ⟨by omega, by omega⟩) (fun hc => ?_) (fun hc => ?_)
      · have c183 : H168.1 11 47 0 ≤ (0 : Int) := hc
        clear hc
        refine J.run0 2 rfl ?_
        try dsimp only
        have f184 : 1 ≤ H168.1 11 12 0 ∧ H168.1 11 12 0 ≤ 300 := hT169.2.1 12
        refine J.inv rfl rfl rfl rfl rfl rfl jDr rfl rfl rfl rfl rfl (g_isSound (b := parent) hT169 k171 k172 k173 k174 (show 0 ≤ (parent) ∧ (parent) < 300 from ⟨by omega, by omega⟩) (show (parent) < H168.1 11 12 0 from by omega)) ?_
        rintro v w H187 ⟨rfl, hT188, ehE189, k190, k191, k192, k193, x185, rfl, r186⟩
        have hE189 := jEx.trans ehE189 hE170 (by decide) (by decide)
        have r186' : 0 ≤ x185 ∧ x185 ≤ 1 := r186
        have k194 : gQ H187 := gQ.ex k175 ehE189 (by decide)
        have k195 : gB H187 := gB.ex k176 ehE189 (by decide)
        have k196 : gK H187 := gK.ex k177 ehE189 (by decide)
        have k197 : gN H187 := gN.ex k178 ehE189 (by decide)
        have k198 : gW H187 (H187.1 11 19 0) := gWm.ex k179 ehE189 (by decide)
        have g199 : H187.1 11 12 0 = H168.1 11 12 0 := ehE189.v 12 (by decide)
        try dsimp only [Option.toList, List.append, List.cons_append, List.nil_append]
        refine J.run0 4 rfl ?_
        try dsimp only
        have f200 : 1 ≤ H187.1 11 12 0 ∧ H187.1 11 12 0 ≤ 300 := hT188.2.1 12
        refine J.inv rfl rfl rfl rfl rfl rfl jDr rfl rfl rfl rfl rfl (g_made (p := parent) (q := n) hT188 k190 (show 0 ≤ (parent) ∧ (parent) < 300 from ⟨by omega, by omega⟩) (show (parent) < H187.1 11 12 0 from by omega) (show 0 ≤ (n) ∧ (n) < 16 from ⟨by omega, by omega⟩) (show H187.1 11 12 0 < 300 from by omega)) ?_
        rintro v w H203 ⟨rfl, hT204, ehE205, k206, x201, rfl, r202⟩
        have hE205 := jEx.trans ehE205 hE189 (by decide) (by decide)
        have r202' : x201 = H187.1 11 12 0 ∧ H203.1 11 12 0 = H187.1 11 12 0 + 1 ∧ H203.2.2.1 58 0 (x201) = 0 ∧ H203.2.2.1 56 0 (x201) = H187.2.2.1 56 0 ((parent)) + 1 ∧ H203.2.2.1 55 0 (x201) = (parent) ∧ H203.2.2.1 56 0 ((parent)) = H187.2.2.1 56 0 ((parent)) := r202
        have k207 : gX H203 := gX.ex k191 ehE205 (by decide)
        have k208 : gL H203 := gL.ex k192 ehE205 (by decide)
        have k209 : gZ H203 := gZ.ex k193 ehE205 (by decide)
        have k210 : gQ H203 := gQ.ex k194 ehE205 (by decide)
        have k211 : gB H203 := gB.ex k195 ehE205 (by decide)
        have k212 : gK H203 := gK.ex k196 ehE205 (by decide)
        have k213 : gN H203 := gN.ex k197 ehE205 (by decide)
        have k214 : gW H203 (H203.1 11 19 0) := gWm.ex k198 ehE205 (by decide)
        try dsimp only [Option.toList, List.append, List.cons_append, List.nil_append]
        refine J.run0 2 rfl ?_
        try dsimp only
        refine J.ifc rfl rfl rfl (show -2147483648 ≤ x185 ∧ x185 ≤ 2147483647 from ⟨by omega, by omega⟩) (fun hc => ?_) (fun hc => ?_)
        · have c215 : x185 = (0 : Int) := hc
          clear hc
          refine J.run0 2 rfl ?_
          try dsimp only
          exact (g_block_l0 (H0 := H) (n := n) (parent := parent) (one := one) (two := two) (claim := claim)  hp0 hp1 hp2 hp3 hp4 ((16 - ((0 : Int)) : Int).toNat + 1)) (x185) (x201) ((0 : Int)) H203 _ (show 16 - ((0 : Int)) < _ by omega) (show 0 ≤ (x185) ∧ (x185) ≤ 1 from ⟨by omega, by omega⟩) (show 0 ≤ (x201) ∧ (x201) < 300 from ⟨by omega, by omega⟩) (show (x201) < H203.1 11 12 0 from by omega) (show 0 ≤ ((0 : Int)) ∧ ((0 : Int)) ≤ 16 from ⟨by omega, by omega⟩) (show H203.2.2.1 58 0 ((x201)) = 0 from by omega) (show 0 ≤ parent ∧ parent < 300 from ⟨by omega, by omega⟩) (show -1 ≤ one ∧ one ≤ 1499 from ⟨by omega, by omega⟩) (show -1 ≤ two ∧ two ≤ 1499 from ⟨by omega, by omega⟩) (show -1 ≤ claim ∧ claim ≤ 65535 from ⟨by omega, by omega⟩) hT204 hE205 k206 k207 k208 k209 k210 k211 k212 k213 k214 ⟨_, rfl⟩
        · have c216 : ¬ (x185 = (0 : Int)) := hc
          clear hc
          refine J.run0 2 rfl ?_
          try dsimp only
          have f217 : 1 ≤ H203.1 11 12 0 ∧ H203.1 11 12 0 ≤ 300 := hT204.2.1 12
          refine J.inv rfl rfl rfl rfl rfl rfl jDr rfl rfl rfl rfl rfl (g_state (b := parent) hT204 k206 k207 k208 (show 0 ≤ (parent) ∧ (parent) < 300 from ⟨by omega, by omega⟩) (show (parent) < H203.1 11 12 0 from by omega)) ?_
          rintro v w H220 ⟨rfl, hT221, ehE222, k223, k224, k225, rfl⟩
          have hE222 := jEx.trans ehE222 hE205 (by decide) (by decide)
          have k226 : gZ H220 := gZ.ex k209 ehE222 (by decide)
          have k227 : gQ H220 := gQ.ex k210 ehE222 (by decide)
          have k228 : gB H220 := gB.ex k211 ehE222 (by decide)
          have k229 : gK H220 := gK.ex k212 ehE222 (by decide)
          have k230 : gN H220 := gN.ex k213 ehE222 (by decide)
          have k231 : gW H220 (H220.1 11 19 0) := gWm.ex k214 ehE222 (by decide)
          have g232 : H220.1 11 12 0 = H203.1 11 12 0 := ehE222.v 12 (by decide)
          have g233 : H220.2.2.1 58 0 (x201) = H203.2.2.1 58 0 (x201) := congrFun (ehE222.r 58 (by decide)) _
          have g234 : H220.2.2.1 56 0 (x201) = H203.2.2.1 56 0 (x201) := congrFun (ehE222.r 56 (by decide)) _
          have g235 : H220.2.2.1 55 0 (x201) = H203.2.2.1 55 0 (x201) := congrFun (ehE222.r 55 (by decide)) _
          have g236 : H220.2.2.1 56 0 (parent) = H203.2.2.1 56 0 (parent) := congrFun (ehE222.r 56 (by decide)) _
          try dsimp only [Option.toList, List.append, List.cons_append, List.nil_append]
          refine J.run0 2 rfl ?_
          try dsimp only
          exact (g_block_l0 (H0 := H) (n := n) (parent := parent) (one := one) (two := two) (claim := claim)  hp0 hp1 hp2 hp3 hp4 ((16 - ((0 : Int)) : Int).toNat + 1)) (x185) (x201) ((0 : Int)) H220 _ (show 16 - ((0 : Int)) < _ by omega) (show 0 ≤ (x185) ∧ (x185) ≤ 1 from ⟨by omega, by omega⟩) (show 0 ≤ (x201) ∧ (x201) < 300 from ⟨by omega, by omega⟩) (show (x201) < H220.1 11 12 0 from by omega) (show 0 ≤ ((0 : Int)) ∧ ((0 : Int)) ≤ 16 from ⟨by omega, by omega⟩) (show H220.2.2.1 58 0 ((x201)) = 0 from by omega) (show 0 ≤ parent ∧ parent < 300 from ⟨by omega, by omega⟩) (show -1 ≤ one ∧ one ≤ 1499 from ⟨by omega, by omega⟩) (show -1 ≤ two ∧ two ≤ 1499 from ⟨by omega, by omega⟩) (show -1 ≤ claim ∧ claim ≤ 65535 from ⟨by omega, by omega⟩) hT221 hE222 k223 k224 k225 k226 k227 k228 k229 k230 k231 ⟨_, rfl⟩
      · have c237 : ¬ (H168.1 11 47 0 ≤ (0 : Int)) := hc
        clear hc
        refine J.run0 1 rfl ?_
        try dsimp only
        exact J.reti rfl rfl rfl ⟨_, rfl, rfl, hT169, hE170, k171, k172, k173, k174, k175, k176, k177, k178, k179, _, rfl, (show 0 ≤ ((0 : Int)) ∧ ((0 : Int)) ≤ 299 from ⟨by omega, by omega⟩)⟩
  · have c238 : ¬ (x163 = (0 : Int)) := hc
    clear hc
    have f239 : 0 ≤ H.1 11 4 0 ∧ H.1 11 4 0 ≤ 1500 := hT.2.1 4
    refine J.run0 6 rfl ?_
    try dsimp only
    refine J.ins rfl rfl rfl rfl rfl rfl rfl rfl rfl (g_in (u := one) (a := (-1 : Int)) (b := (H.1 11 4 0) - (1 : Int)) hT  (show -2147483648 ≤ (one) ∧ (one) ≤ 2147483647 from ⟨by omega, by omega⟩) (show -2147483648 ≤ ((-1 : Int)) ∧ ((-1 : Int)) ≤ 2147483647 from ⟨by omega, by omega⟩) (show -2147483648 ≤ ((H.1 11 4 0) - (1 : Int)) ∧ ((H.1 11 4 0) - (1 : Int)) ≤ 2147483647 from ⟨by omega, by omega⟩)) ?_
    rintro v w H ⟨rfl, rfl, x240, rfl, r241⟩
    have r241' : (x240 = 0 ∨ x240 = 1) ∧ (x240 = 1 → (one) ≥ ((-1 : Int)) ∧ (one) ≤ ((H.1 11 4 0) - (1 : Int))) ∧ (x240 = 0 → (one) < ((-1 : Int)) ∨ ((H.1 11 4 0) - (1 : Int)) < (one)) := r241
    try dsimp only [Option.toList, List.append, List.cons_append, List.nil_append]
    refine J.ifc rfl rfl rfl (show -2147483648 ≤ x240 ∧ x240 ≤ 2147483647 from ⟨by omega, by omega⟩) (fun hc => ?_) (fun hc => ?_)
    · have c242 : x240 = (0 : Int) := hc
      clear hc
      refine J.run0 5 rfl ?_
      try dsimp only
      refine J.ifc rfl rfl rfl (show -2147483648 ≤ (1 : Int) ∧ (1 : Int) ≤ 2147483647 from ⟨by omega, by omega⟩) (fun hc => ?_) (fun hc => ?_)
      · have c243 : (1 : Int) = (0 : Int) := hc
        clear hc
        exfalso
        omega
      · have c244 : ¬ ((1 : Int) = (0 : Int)) := hc
        clear hc
        refine J.run0 3 rfl ?_
        try dsimp only
        refine J.gn fun H245 hH245 => ?_
        have hT246 : gT H245 := by rw [hH245]; exact gT.num (f := 47) hT (show 0 ≤ (1 : Int) ∧ (1 : Int) ≤ 3 from ⟨by omega, by omega⟩) (by decide) (fun z => absurd z (by decide))
        have hE247 : jEx [48, 56, 57, 12, 47] [60, 56, 59, 58, 55, 57, 61, 99, 100, 105, 108, 101, 102, 103, 104] H245 H := by rw [hH245]; exact jEx.num hE (by decide)
        have k248 : gP H245 := by rw [hH245]; exact k0gP
        have k249 : gX H245 := by rw [hH245]; exact k0gX
        have k250 : gL H245 := by rw [hH245]; exact k0gL
        have k251 : gZ H245 := by rw [hH245]; exact k0gZ
        have k252 : gQ H245 := by rw [hH245]; exact k0gQ
        have k253 : gB H245 := by rw [hH245]; exact k0gB
        have k254 : gK H245 := by rw [hH245]; exact k0gK
        have k255 : gN H245 := by rw [hH245]; exact k0gN
        have k256 : gW H245 (H245.1 11 19 0) := by rw [hH245]; exact k0gW
        have g257 : H245.1 11 47 0 = (1 : Int) := by subst hH245; rfl
        have g258 : H245.1 11 12 0 = H.1 11 12 0 := by subst hH245; rfl
        clear hH245
        have f259 : 0 ≤ H245.1 11 47 0 ∧ H245.1 11 47 0 ≤ 3 := hT246.2.1 47
        refine J.run0 2 rfl ?_
        try dsimp only
        refine J.ifc rfl rfl rfl (show -2147483648 ≤ H245.1 11 47 0 ∧ H245.1 11 47 0 ≤ 2147483647 from ⟨by omega, by omega⟩) (fun hc => ?_) (fun hc => ?_)
        · have c260 : H245.1 11 47 0 ≤ (0 : Int) := hc
          clear hc
          refine J.run0 2 rfl ?_
          try dsimp only
          have f261 : 1 ≤ H245.1 11 12 0 ∧ H245.1 11 12 0 ≤ 300 := hT246.2.1 12
          refine J.inv rfl rfl rfl rfl rfl rfl jDr rfl rfl rfl rfl rfl (g_isSound (b := parent) hT246 k248 k249 k250 k251 (show 0 ≤ (parent) ∧ (parent) < 300 from ⟨by omega, by omega⟩) (show (parent) < H245.1 11 12 0 from by omega)) ?_
          rintro v w H264 ⟨rfl, hT265, ehE266, k267, k268, k269, k270, x262, rfl, r263⟩
          have hE266 := jEx.trans ehE266 hE247 (by decide) (by decide)
          have r263' : 0 ≤ x262 ∧ x262 ≤ 1 := r263
          have k271 : gQ H264 := gQ.ex k252 ehE266 (by decide)
          have k272 : gB H264 := gB.ex k253 ehE266 (by decide)
          have k273 : gK H264 := gK.ex k254 ehE266 (by decide)
          have k274 : gN H264 := gN.ex k255 ehE266 (by decide)
          have k275 : gW H264 (H264.1 11 19 0) := gWm.ex k256 ehE266 (by decide)
          have g276 : H264.1 11 12 0 = H245.1 11 12 0 := ehE266.v 12 (by decide)
          try dsimp only [Option.toList, List.append, List.cons_append, List.nil_append]
          refine J.run0 4 rfl ?_
          try dsimp only
          have f277 : 1 ≤ H264.1 11 12 0 ∧ H264.1 11 12 0 ≤ 300 := hT265.2.1 12
          refine J.inv rfl rfl rfl rfl rfl rfl jDr rfl rfl rfl rfl rfl (g_made (p := parent) (q := n) hT265 k267 (show 0 ≤ (parent) ∧ (parent) < 300 from ⟨by omega, by omega⟩) (show (parent) < H264.1 11 12 0 from by omega) (show 0 ≤ (n) ∧ (n) < 16 from ⟨by omega, by omega⟩) (show H264.1 11 12 0 < 300 from by omega)) ?_
          rintro v w H280 ⟨rfl, hT281, ehE282, k283, x278, rfl, r279⟩
          have hE282 := jEx.trans ehE282 hE266 (by decide) (by decide)
          have r279' : x278 = H264.1 11 12 0 ∧ H280.1 11 12 0 = H264.1 11 12 0 + 1 ∧ H280.2.2.1 58 0 (x278) = 0 ∧ H280.2.2.1 56 0 (x278) = H264.2.2.1 56 0 ((parent)) + 1 ∧ H280.2.2.1 55 0 (x278) = (parent) ∧ H280.2.2.1 56 0 ((parent)) = H264.2.2.1 56 0 ((parent)) := r279
          have k284 : gX H280 := gX.ex k268 ehE282 (by decide)
          have k285 : gL H280 := gL.ex k269 ehE282 (by decide)
          have k286 : gZ H280 := gZ.ex k270 ehE282 (by decide)
          have k287 : gQ H280 := gQ.ex k271 ehE282 (by decide)
          have k288 : gB H280 := gB.ex k272 ehE282 (by decide)
          have k289 : gK H280 := gK.ex k273 ehE282 (by decide)
          have k290 : gN H280 := gN.ex k274 ehE282 (by decide)
          have k291 : gW H280 (H280.1 11 19 0) := gWm.ex k275 ehE282 (by decide)
          try dsimp only [Option.toList, List.append, List.cons_append, List.nil_append]
          refine J.run0 2 rfl ?_
          try dsimp only
          refine J.ifc rfl rfl rfl (show -2147483648 ≤ x262 ∧ x262 ≤ 2147483647 from ⟨by omega, by omega⟩) (fun hc => ?_) (fun hc => ?_)
          · have c292 : x262 = (0 : Int) := hc
            clear hc
            refine J.run0 2 rfl ?_
            try dsimp only
            exact (g_block_l0 (H0 := H) (n := n) (parent := parent) (one := one) (two := two) (claim := claim)  hp0 hp1 hp2 hp3 hp4 ((16 - ((0 : Int)) : Int).toNat + 1)) (x262) (x278) ((0 : Int)) H280 _ (show 16 - ((0 : Int)) < _ by omega) (show 0 ≤ (x262) ∧ (x262) ≤ 1 from ⟨by omega, by omega⟩) (show 0 ≤ (x278) ∧ (x278) < 300 from ⟨by omega, by omega⟩) (show (x278) < H280.1 11 12 0 from by omega) (show 0 ≤ ((0 : Int)) ∧ ((0 : Int)) ≤ 16 from ⟨by omega, by omega⟩) (show H280.2.2.1 58 0 ((x278)) = 0 from by omega) (show 0 ≤ parent ∧ parent < 300 from ⟨by omega, by omega⟩) (show -1 ≤ one ∧ one ≤ 1499 from ⟨by omega, by omega⟩) (show -1 ≤ two ∧ two ≤ 1499 from ⟨by omega, by omega⟩) (show -1 ≤ claim ∧ claim ≤ 65535 from ⟨by omega, by omega⟩) hT281 hE282 k283 k284 k285 k286 k287 k288 k289 k290 k291 ⟨_, rfl⟩
          · have c293 : ¬ (x262 = (0 : Int)) := hc
            clear hc
            refine J.run0 2 rfl ?_
            try dsimp only
            have f294 : 1 ≤ H280.1 11 12 0 ∧ H280.1 11 12 0 ≤ 300 := hT281.2.1 12
            refine J.inv rfl rfl rfl rfl rfl rfl jDr rfl rfl rfl rfl rfl (g_state (b := parent) hT281 k283 k284 k285 (show 0 ≤ (parent) ∧ (parent) < 300 from ⟨by omega, by omega⟩) (show (parent) < H280.1 11 12 0 from by omega)) ?_
            rintro v w H297 ⟨rfl, hT298, ehE299, k300, k301, k302, rfl⟩
            have hE299 := jEx.trans ehE299 hE282 (by decide) (by decide)
            have k303 : gZ H297 := gZ.ex k286 ehE299 (by decide)
            have k304 : gQ H297 := gQ.ex k287 ehE299 (by decide)
            have k305 : gB H297 := gB.ex k288 ehE299 (by decide)
            have k306 : gK H297 := gK.ex k289 ehE299 (by decide)
            have k307 : gN H297 := gN.ex k290 ehE299 (by decide)
            have k308 : gW H297 (H297.1 11 19 0) := gWm.ex k291 ehE299 (by decide)
            have g309 : H297.1 11 12 0 = H280.1 11 12 0 := ehE299.v 12 (by decide)
            have g310 : H297.2.2.1 58 0 (x278) = H280.2.2.1 58 0 (x278) := congrFun (ehE299.r 58 (by decide)) _
            have g311 : H297.2.2.1 56 0 (x278) = H280.2.2.1 56 0 (x278) := congrFun (ehE299.r 56 (by decide)) _
            have g312 : H297.2.2.1 55 0 (x278) = H280.2.2.1 55 0 (x278) := congrFun (ehE299.r 55 (by decide)) _
            have g313 : H297.2.2.1 56 0 (parent) = H280.2.2.1 56 0 (parent) := congrFun (ehE299.r 56 (by decide)) _
            try dsimp only [Option.toList, List.append, List.cons_append, List.nil_append]
            refine J.run0 2 rfl ?_
            try dsimp only
            exact (g_block_l0 (H0 := H) (n := n) (parent := parent) (one := one) (two := two) (claim := claim)  hp0 hp1 hp2 hp3 hp4 ((16 - ((0 : Int)) : Int).toNat + 1)) (x262) (x278) ((0 : Int)) H297 _ (show 16 - ((0 : Int)) < _ by omega) (show 0 ≤ (x262) ∧ (x262) ≤ 1 from ⟨by omega, by omega⟩) (show 0 ≤ (x278) ∧ (x278) < 300 from ⟨by omega, by omega⟩) (show (x278) < H297.1 11 12 0 from by omega) (show 0 ≤ ((0 : Int)) ∧ ((0 : Int)) ≤ 16 from ⟨by omega, by omega⟩) (show H297.2.2.1 58 0 ((x278)) = 0 from by omega) (show 0 ≤ parent ∧ parent < 300 from ⟨by omega, by omega⟩) (show -1 ≤ one ∧ one ≤ 1499 from ⟨by omega, by omega⟩) (show -1 ≤ two ∧ two ≤ 1499 from ⟨by omega, by omega⟩) (show -1 ≤ claim ∧ claim ≤ 65535 from ⟨by omega, by omega⟩) hT298 hE299 k300 k301 k302 k303 k304 k305 k306 k307 k308 ⟨_, rfl⟩
        · have c314 : ¬ (H245.1 11 47 0 ≤ (0 : Int)) := hc
          clear hc
          refine J.run0 1 rfl ?_
          try dsimp only
          exact J.reti rfl rfl rfl ⟨_, rfl, rfl, hT246, hE247, k248, k249, k250, k251, k252, k253, k254, k255, k256, _, rfl, (show 0 ≤ ((0 : Int)) ∧ ((0 : Int)) ≤ 299 from ⟨by omega, by omega⟩)⟩
    · have c315 : ¬ (x240 = (0 : Int)) := hc
      clear hc
      refine J.run0 6 rfl ?_
      try dsimp only
      refine J.ins rfl rfl rfl rfl rfl rfl rfl rfl rfl (g_in (u := two) (a := (-1 : Int)) (b := (H.1 11 4 0) - (1 : Int)) hT  (show -2147483648 ≤ (two) ∧ (two) ≤ 2147483647 from ⟨by omega, by omega⟩) (show -2147483648 ≤ ((-1 : Int)) ∧ ((-1 : Int)) ≤ 2147483647 from ⟨by omega, by omega⟩) (show -2147483648 ≤ ((H.1 11 4 0) - (1 : Int)) ∧ ((H.1 11 4 0) - (1 : Int)) ≤ 2147483647 from ⟨by omega, by omega⟩)) ?_
      rintro v w H ⟨rfl, rfl, x316, rfl, r317⟩
      have r317' : (x316 = 0 ∨ x316 = 1) ∧ (x316 = 1 → (two) ≥ ((-1 : Int)) ∧ (two) ≤ ((H.1 11 4 0) - (1 : Int))) ∧ (x316 = 0 → (two) < ((-1 : Int)) ∨ ((H.1 11 4 0) - (1 : Int)) < (two)) := r317
      try dsimp only [Option.toList, List.append, List.cons_append, List.nil_append]
      refine J.ifc rfl rfl rfl (show -2147483648 ≤ x316 ∧ x316 ≤ 2147483647 from ⟨by omega, by omega⟩) (fun hc => ?_) (fun hc => ?_)
      · have c318 : x316 = (0 : Int) := hc
        clear hc
        refine J.run0 5 rfl ?_
        try dsimp only
        refine J.ifc rfl rfl rfl (show -2147483648 ≤ (1 : Int) ∧ (1 : Int) ≤ 2147483647 from ⟨by omega, by omega⟩) (fun hc => ?_) (fun hc => ?_)
        · have c319 : (1 : Int) = (0 : Int) := hc
          clear hc
          exfalso
          omega
        · have c320 : ¬ ((1 : Int) = (0 : Int)) := hc
          clear hc
          refine J.run0 3 rfl ?_
          try dsimp only
          refine J.gn fun H321 hH321 => ?_
          have hT322 : gT H321 := by rw [hH321]; exact gT.num (f := 47) hT (show 0 ≤ (1 : Int) ∧ (1 : Int) ≤ 3 from ⟨by omega, by omega⟩) (by decide) (fun z => absurd z (by decide))
          have hE323 : jEx [48, 56, 57, 12, 47] [60, 56, 59, 58, 55, 57, 61, 99, 100, 105, 108, 101, 102, 103, 104] H321 H := by rw [hH321]; exact jEx.num hE (by decide)
          have k324 : gP H321 := by rw [hH321]; exact k0gP
          have k325 : gX H321 := by rw [hH321]; exact k0gX
          have k326 : gL H321 := by rw [hH321]; exact k0gL
          have k327 : gZ H321 := by rw [hH321]; exact k0gZ
          have k328 : gQ H321 := by rw [hH321]; exact k0gQ
          have k329 : gB H321 := by rw [hH321]; exact k0gB
          have k330 : gK H321 := by rw [hH321]; exact k0gK
          have k331 : gN H321 := by rw [hH321]; exact k0gN
          have k332 : gW H321 (H321.1 11 19 0) := by rw [hH321]; exact k0gW
          have g333 : H321.1 11 47 0 = (1 : Int) := by subst hH321; rfl
          have g334 : H321.1 11 12 0 = H.1 11 12 0 := by subst hH321; rfl
          clear hH321
          have f335 : 0 ≤ H321.1 11 47 0 ∧ H321.1 11 47 0 ≤ 3 := hT322.2.1 47
          refine J.run0 2 rfl ?_
          try dsimp only
          refine J.ifc rfl rfl rfl (show -2147483648 ≤ H321.1 11 47 0 ∧ H321.1 11 47 0 ≤ 2147483647 from ⟨by omega, by omega⟩) (fun hc => ?_) (fun hc => ?_)
          · have c336 : H321.1 11 47 0 ≤ (0 : Int) := hc
            clear hc
            refine J.run0 2 rfl ?_
            try dsimp only
            have f337 : 1 ≤ H321.1 11 12 0 ∧ H321.1 11 12 0 ≤ 300 := hT322.2.1 12
            refine J.inv rfl rfl rfl rfl rfl rfl jDr rfl rfl rfl rfl rfl (g_isSound (b := parent) hT322 k324 k325 k326 k327 (show 0 ≤ (parent) ∧ (parent) < 300 from ⟨by omega, by omega⟩) (show (parent) < H321.1 11 12 0 from by omega)) ?_
            rintro v w H340 ⟨rfl, hT341, ehE342, k343, k344, k345, k346, x338, rfl, r339⟩
            have hE342 := jEx.trans ehE342 hE323 (by decide) (by decide)
            have r339' : 0 ≤ x338 ∧ x338 ≤ 1 := r339
            have k347 : gQ H340 := gQ.ex k328 ehE342 (by decide)
            have k348 : gB H340 := gB.ex k329 ehE342 (by decide)
            have k349 : gK H340 := gK.ex k330 ehE342 (by decide)
            have k350 : gN H340 := gN.ex k331 ehE342 (by decide)
            have k351 : gW H340 (H340.1 11 19 0) := gWm.ex k332 ehE342 (by decide)
            have g352 : H340.1 11 12 0 = H321.1 11 12 0 := ehE342.v 12 (by decide)
            try dsimp only [Option.toList, List.append, List.cons_append, List.nil_append]
            refine J.run0 4 rfl ?_
            try dsimp only
            have f353 : 1 ≤ H340.1 11 12 0 ∧ H340.1 11 12 0 ≤ 300 := hT341.2.1 12
            refine J.inv rfl rfl rfl rfl rfl rfl jDr rfl rfl rfl rfl rfl (g_made (p := parent) (q := n) hT341 k343 (show 0 ≤ (parent) ∧ (parent) < 300 from ⟨by omega, by omega⟩) (show (parent) < H340.1 11 12 0 from by omega) (show 0 ≤ (n) ∧ (n) < 16 from ⟨by omega, by omega⟩) (show H340.1 11 12 0 < 300 from by omega)) ?_
            rintro v w H356 ⟨rfl, hT357, ehE358, k359, x354, rfl, r355⟩
            have hE358 := jEx.trans ehE358 hE342 (by decide) (by decide)
            have r355' : x354 = H340.1 11 12 0 ∧ H356.1 11 12 0 = H340.1 11 12 0 + 1 ∧ H356.2.2.1 58 0 (x354) = 0 ∧ H356.2.2.1 56 0 (x354) = H340.2.2.1 56 0 ((parent)) + 1 ∧ H356.2.2.1 55 0 (x354) = (parent) ∧ H356.2.2.1 56 0 ((parent)) = H340.2.2.1 56 0 ((parent)) := r355
            have k360 : gX H356 := gX.ex k344 ehE358 (by decide)
            have k361 : gL H356 := gL.ex k345 ehE358 (by decide)
            have k362 : gZ H356 := gZ.ex k346 ehE358 (by decide)
            have k363 : gQ H356 := gQ.ex k347 ehE358 (by decide)
            have k364 : gB H356 := gB.ex k348 ehE358 (by decide)
            have k365 : gK H356 := gK.ex k349 ehE358 (by decide)
            have k366 : gN H356 := gN.ex k350 ehE358 (by decide)
            have k367 : gW H356 (H356.1 11 19 0) := gWm.ex k351 ehE358 (by decide)
            try dsimp only [Option.toList, List.append, List.cons_append, List.nil_append]
            refine J.run0 2 rfl ?_
            try dsimp only
            refine J.ifc rfl rfl rfl (show -2147483648 ≤ x338 ∧ x338 ≤ 2147483647 from ⟨by omega, by omega⟩) (fun hc => ?_) (fun hc => ?_)
            · have c368 : x338 = (0 : Int) := hc
              clear hc
              refine J.run0 2 rfl ?_
              try dsimp only
              exact (g_block_l0 (H0 := H) (n := n) (parent := parent) (one := one) (two := two) (claim := claim)  hp0 hp1 hp2 hp3 hp4 ((16 - ((0 : Int)) : Int).toNat + 1)) (x338) (x354) ((0 : Int)) H356 _ (show 16 - ((0 : Int)) < _ by omega) (show 0 ≤ (x338) ∧ (x338) ≤ 1 from ⟨by omega, by omega⟩) (show 0 ≤ (x354) ∧ (x354) < 300 from ⟨by omega, by omega⟩) (show (x354) < H356.1 11 12 0 from by omega) (show 0 ≤ ((0 : Int)) ∧ ((0 : Int)) ≤ 16 from ⟨by omega, by omega⟩) (show H356.2.2.1 58 0 ((x354)) = 0 from by omega) (show 0 ≤ parent ∧ parent < 300 from ⟨by omega, by omega⟩) (show -1 ≤ one ∧ one ≤ 1499 from ⟨by omega, by omega⟩) (show -1 ≤ two ∧ two ≤ 1499 from ⟨by omega, by omega⟩) (show -1 ≤ claim ∧ claim ≤ 65535 from ⟨by omega, by omega⟩) hT357 hE358 k359 k360 k361 k362 k363 k364 k365 k366 k367 ⟨_, rfl⟩
            · have c369 : ¬ (x338 = (0 : Int)) := hc
              clear hc
              refine J.run0 2 rfl ?_
              try dsimp only
              have f370 : 1 ≤ H356.1 11 12 0 ∧ H356.1 11 12 0 ≤ 300 := hT357.2.1 12
              refine J.inv rfl rfl rfl rfl rfl rfl jDr rfl rfl rfl rfl rfl (g_state (b := parent) hT357 k359 k360 k361 (show 0 ≤ (parent) ∧ (parent) < 300 from ⟨by omega, by omega⟩) (show (parent) < H356.1 11 12 0 from by omega)) ?_
              rintro v w H373 ⟨rfl, hT374, ehE375, k376, k377, k378, rfl⟩
              have hE375 := jEx.trans ehE375 hE358 (by decide) (by decide)
              have k379 : gZ H373 := gZ.ex k362 ehE375 (by decide)
              have k380 : gQ H373 := gQ.ex k363 ehE375 (by decide)
              have k381 : gB H373 := gB.ex k364 ehE375 (by decide)
              have k382 : gK H373 := gK.ex k365 ehE375 (by decide)
              have k383 : gN H373 := gN.ex k366 ehE375 (by decide)
              have k384 : gW H373 (H373.1 11 19 0) := gWm.ex k367 ehE375 (by decide)
              have g385 : H373.1 11 12 0 = H356.1 11 12 0 := ehE375.v 12 (by decide)
              have g386 : H373.2.2.1 58 0 (x354) = H356.2.2.1 58 0 (x354) := congrFun (ehE375.r 58 (by decide)) _
              have g387 : H373.2.2.1 56 0 (x354) = H356.2.2.1 56 0 (x354) := congrFun (ehE375.r 56 (by decide)) _
              have g388 : H373.2.2.1 55 0 (x354) = H356.2.2.1 55 0 (x354) := congrFun (ehE375.r 55 (by decide)) _
              have g389 : H373.2.2.1 56 0 (parent) = H356.2.2.1 56 0 (parent) := congrFun (ehE375.r 56 (by decide)) _
              try dsimp only [Option.toList, List.append, List.cons_append, List.nil_append]
              refine J.run0 2 rfl ?_
              try dsimp only
              exact (g_block_l0 (H0 := H) (n := n) (parent := parent) (one := one) (two := two) (claim := claim)  hp0 hp1 hp2 hp3 hp4 ((16 - ((0 : Int)) : Int).toNat + 1)) (x338) (x354) ((0 : Int)) H373 _ (show 16 - ((0 : Int)) < _ by omega) (show 0 ≤ (x338) ∧ (x338) ≤ 1 from ⟨by omega, by omega⟩) (show 0 ≤ (x354) ∧ (x354) < 300 from ⟨by omega, by omega⟩) (show (x354) < H373.1 11 12 0 from by omega) (show 0 ≤ ((0 : Int)) ∧ ((0 : Int)) ≤ 16 from ⟨by omega, by omega⟩) (show H373.2.2.1 58 0 ((x354)) = 0 from by omega) (show 0 ≤ parent ∧ parent < 300 from ⟨by omega, by omega⟩) (show -1 ≤ one ∧ one ≤ 1499 from ⟨by omega, by omega⟩) (show -1 ≤ two ∧ two ≤ 1499 from ⟨by omega, by omega⟩) (show -1 ≤ claim ∧ claim ≤ 65535 from ⟨by omega, by omega⟩) hT374 hE375 k376 k377 k378 k379 k380 k381 k382 k383 k384 ⟨_, rfl⟩
          · have c390 : ¬ (H321.1 11 47 0 ≤ (0 : Int)) := hc
            clear hc
            refine J.run0 1 rfl ?_
            try dsimp only
            exact J.reti rfl rfl rfl ⟨_, rfl, rfl, hT322, hE323, k324, k325, k326, k327, k328, k329, k330, k331, k332, _, rfl, (show 0 ≤ ((0 : Int)) ∧ ((0 : Int)) ≤ 299 from ⟨by omega, by omega⟩)⟩
      · have c391 : ¬ (x316 = (0 : Int)) := hc
        clear hc
        refine J.run0 3 rfl ?_
        try dsimp only
        refine J.ins rfl rfl rfl rfl rfl rfl rfl rfl rfl (g_in (u := claim) (a := (-1 : Int)) (b := (65535 : Int)) hT  (show -2147483648 ≤ (claim) ∧ (claim) ≤ 2147483647 from ⟨by omega, by omega⟩) (show -2147483648 ≤ ((-1 : Int)) ∧ ((-1 : Int)) ≤ 2147483647 from ⟨by omega, by omega⟩) (show -2147483648 ≤ ((65535 : Int)) ∧ ((65535 : Int)) ≤ 2147483647 from ⟨by omega, by omega⟩)) ?_
        rintro v w H ⟨rfl, rfl, x392, rfl, r393⟩
        have r393' : (x392 = 0 ∨ x392 = 1) ∧ (x392 = 1 → (claim) ≥ ((-1 : Int)) ∧ (claim) ≤ ((65535 : Int))) ∧ (x392 = 0 → (claim) < ((-1 : Int)) ∨ ((65535 : Int)) < (claim)) := r393
        try dsimp only [Option.toList, List.append, List.cons_append, List.nil_append]
        refine J.ifc rfl rfl rfl (show -2147483648 ≤ x392 ∧ x392 ≤ 2147483647 from ⟨by omega, by omega⟩) (fun hc => ?_) (fun hc => ?_)
        · have c394 : ¬ (x392 = (0 : Int)) := hc
          clear hc
          refine J.run0 4 rfl ?_
          try dsimp only
          refine J.ifc rfl rfl rfl (show -2147483648 ≤ (0 : Int) ∧ (0 : Int) ≤ 2147483647 from ⟨by omega, by omega⟩) (fun hc => ?_) (fun hc => ?_)
          · have c395 : (0 : Int) = (0 : Int) := hc
            clear hc
            refine J.run0 3 rfl ?_
            try dsimp only
            refine J.ins rfl rfl rfl rfl rfl rfl rfl rfl rfl (g_in (u := n) (a := (0 : Int)) (b := (15 : Int)) hT  (show -2147483648 ≤ (n) ∧ (n) ≤ 2147483647 from ⟨by omega, by omega⟩) (show -2147483648 ≤ ((0 : Int)) ∧ ((0 : Int)) ≤ 2147483647 from ⟨by omega, by omega⟩) (show -2147483648 ≤ ((15 : Int)) ∧ ((15 : Int)) ≤ 2147483647 from ⟨by omega, by omega⟩)) ?_
            rintro v w H ⟨rfl, rfl, x396, rfl, r397⟩
            have r397' : (x396 = 0 ∨ x396 = 1) ∧ (x396 = 1 → (n) ≥ ((0 : Int)) ∧ (n) ≤ ((15 : Int))) ∧ (x396 = 0 → (n) < ((0 : Int)) ∨ ((15 : Int)) < (n)) := r397
            try dsimp only [Option.toList, List.append, List.cons_append, List.nil_append]
            refine J.ifc rfl rfl rfl (show -2147483648 ≤ x396 ∧ x396 ≤ 2147483647 from ⟨by omega, by omega⟩) (fun hc => ?_) (fun hc => ?_)
            · have c398 : x396 = (0 : Int) := hc
              clear hc
              refine J.run0 3 rfl ?_
              try dsimp only
              refine J.gn fun H399 hH399 => ?_
              have hT400 : gT H399 := by rw [hH399]; exact gT.num (f := 47) hT (show 0 ≤ (2 : Int) ∧ (2 : Int) ≤ 3 from ⟨by omega, by omega⟩) (by decide) (fun z => absurd z (by decide))
              have hE401 : jEx [48, 56, 57, 12, 47] [60, 56, 59, 58, 55, 57, 61, 99, 100, 105, 108, 101, 102, 103, 104] H399 H := by rw [hH399]; exact jEx.num hE (by decide)
              have k402 : gP H399 := by rw [hH399]; exact k0gP
              have k403 : gX H399 := by rw [hH399]; exact k0gX
              have k404 : gL H399 := by rw [hH399]; exact k0gL
              have k405 : gZ H399 := by rw [hH399]; exact k0gZ
              have k406 : gQ H399 := by rw [hH399]; exact k0gQ
              have k407 : gB H399 := by rw [hH399]; exact k0gB
              have k408 : gK H399 := by rw [hH399]; exact k0gK
              have k409 : gN H399 := by rw [hH399]; exact k0gN
              have k410 : gW H399 (H399.1 11 19 0) := by rw [hH399]; exact k0gW
              have g411 : H399.1 11 47 0 = (2 : Int) := by subst hH399; rfl
              have g412 : H399.1 11 12 0 = H.1 11 12 0 := by subst hH399; rfl
              clear hH399
              have f413 : 0 ≤ H399.1 11 47 0 ∧ H399.1 11 47 0 ≤ 3 := hT400.2.1 47
              refine J.run0 2 rfl ?_
              try dsimp only
              refine J.ifc rfl rfl rfl (show -2147483648 ≤ H399.1 11 47 0 ∧ H399.1 11 47 0 ≤ 2147483647 from ⟨by omega, by omega⟩) (fun hc => ?_) (fun hc => ?_)
              · have c414 : H399.1 11 47 0 ≤ (0 : Int) := hc
                clear hc
                refine J.run0 2 rfl ?_
                try dsimp only
                have f415 : 1 ≤ H399.1 11 12 0 ∧ H399.1 11 12 0 ≤ 300 := hT400.2.1 12
                refine J.inv rfl rfl rfl rfl rfl rfl jDr rfl rfl rfl rfl rfl (g_isSound (b := parent) hT400 k402 k403 k404 k405 (show 0 ≤ (parent) ∧ (parent) < 300 from ⟨by omega, by omega⟩) (show (parent) < H399.1 11 12 0 from by omega)) ?_
                rintro v w H418 ⟨rfl, hT419, ehE420, k421, k422, k423, k424, x416, rfl, r417⟩
                have hE420 := jEx.trans ehE420 hE401 (by decide) (by decide)
                have r417' : 0 ≤ x416 ∧ x416 ≤ 1 := r417
                have k425 : gQ H418 := gQ.ex k406 ehE420 (by decide)
                have k426 : gB H418 := gB.ex k407 ehE420 (by decide)
                have k427 : gK H418 := gK.ex k408 ehE420 (by decide)
                have k428 : gN H418 := gN.ex k409 ehE420 (by decide)
                have k429 : gW H418 (H418.1 11 19 0) := gWm.ex k410 ehE420 (by decide)
                have g430 : H418.1 11 12 0 = H399.1 11 12 0 := ehE420.v 12 (by decide)
                try dsimp only [Option.toList, List.append, List.cons_append, List.nil_append]
                refine J.run0 4 rfl ?_
                try dsimp only
                have f431 : 1 ≤ H418.1 11 12 0 ∧ H418.1 11 12 0 ≤ 300 := hT419.2.1 12
                refine J.inv rfl rfl rfl rfl rfl rfl jDr rfl rfl rfl rfl rfl (g_made (p := parent) (q := n) hT419 k421 (show 0 ≤ (parent) ∧ (parent) < 300 from ⟨by omega, by omega⟩) (show (parent) < H418.1 11 12 0 from by omega) (show 0 ≤ (n) ∧ (n) < 16 from ⟨by omega, by omega⟩) (show H418.1 11 12 0 < 300 from by omega)) ?_
                rintro v w H434 ⟨rfl, hT435, ehE436, k437, x432, rfl, r433⟩
                have hE436 := jEx.trans ehE436 hE420 (by decide) (by decide)
                have r433' : x432 = H418.1 11 12 0 ∧ H434.1 11 12 0 = H418.1 11 12 0 + 1 ∧ H434.2.2.1 58 0 (x432) = 0 ∧ H434.2.2.1 56 0 (x432) = H418.2.2.1 56 0 ((parent)) + 1 ∧ H434.2.2.1 55 0 (x432) = (parent) ∧ H434.2.2.1 56 0 ((parent)) = H418.2.2.1 56 0 ((parent)) := r433
                have k438 : gX H434 := gX.ex k422 ehE436 (by decide)
                have k439 : gL H434 := gL.ex k423 ehE436 (by decide)
                have k440 : gZ H434 := gZ.ex k424 ehE436 (by decide)
                have k441 : gQ H434 := gQ.ex k425 ehE436 (by decide)
                have k442 : gB H434 := gB.ex k426 ehE436 (by decide)
                have k443 : gK H434 := gK.ex k427 ehE436 (by decide)
                have k444 : gN H434 := gN.ex k428 ehE436 (by decide)
                have k445 : gW H434 (H434.1 11 19 0) := gWm.ex k429 ehE436 (by decide)
                try dsimp only [Option.toList, List.append, List.cons_append, List.nil_append]
                refine J.run0 2 rfl ?_
                try dsimp only
                refine J.ifc rfl rfl rfl (show -2147483648 ≤ x416 ∧ x416 ≤ 2147483647 from ⟨by omega, by omega⟩) (fun hc => ?_) (fun hc => ?_)
                · have c446 : x416 = (0 : Int) := hc
                  clear hc
                  refine J.run0 2 rfl ?_
                  try dsimp only
                  exact (g_block_l0 (H0 := H) (n := n) (parent := parent) (one := one) (two := two) (claim := claim)  hp0 hp1 hp2 hp3 hp4 ((16 - ((0 : Int)) : Int).toNat + 1)) (x416) (x432) ((0 : Int)) H434 _ (show 16 - ((0 : Int)) < _ by omega) (show 0 ≤ (x416) ∧ (x416) ≤ 1 from ⟨by omega, by omega⟩) (show 0 ≤ (x432) ∧ (x432) < 300 from ⟨by omega, by omega⟩) (show (x432) < H434.1 11 12 0 from by omega) (show 0 ≤ ((0 : Int)) ∧ ((0 : Int)) ≤ 16 from ⟨by omega, by omega⟩) (show H434.2.2.1 58 0 ((x432)) = 0 from by omega) (show 0 ≤ parent ∧ parent < 300 from ⟨by omega, by omega⟩) (show -1 ≤ one ∧ one ≤ 1499 from ⟨by omega, by omega⟩) (show -1 ≤ two ∧ two ≤ 1499 from ⟨by omega, by omega⟩) (show -1 ≤ claim ∧ claim ≤ 65535 from ⟨by omega, by omega⟩) hT435 hE436 k437 k438 k439 k440 k441 k442 k443 k444 k445 ⟨_, rfl⟩
                · have c447 : ¬ (x416 = (0 : Int)) := hc
                  clear hc
                  refine J.run0 2 rfl ?_
                  try dsimp only
                  have f448 : 1 ≤ H434.1 11 12 0 ∧ H434.1 11 12 0 ≤ 300 := hT435.2.1 12
                  refine J.inv rfl rfl rfl rfl rfl rfl jDr rfl rfl rfl rfl rfl (g_state (b := parent) hT435 k437 k438 k439 (show 0 ≤ (parent) ∧ (parent) < 300 from ⟨by omega, by omega⟩) (show (parent) < H434.1 11 12 0 from by omega)) ?_
                  rintro v w H451 ⟨rfl, hT452, ehE453, k454, k455, k456, rfl⟩
                  have hE453 := jEx.trans ehE453 hE436 (by decide) (by decide)
                  have k457 : gZ H451 := gZ.ex k440 ehE453 (by decide)
                  have k458 : gQ H451 := gQ.ex k441 ehE453 (by decide)
                  have k459 : gB H451 := gB.ex k442 ehE453 (by decide)
                  have k460 : gK H451 := gK.ex k443 ehE453 (by decide)
                  have k461 : gN H451 := gN.ex k444 ehE453 (by decide)
                  have k462 : gW H451 (H451.1 11 19 0) := gWm.ex k445 ehE453 (by decide)
                  have g463 : H451.1 11 12 0 = H434.1 11 12 0 := ehE453.v 12 (by decide)
                  have g464 : H451.2.2.1 58 0 (x432) = H434.2.2.1 58 0 (x432) := congrFun (ehE453.r 58 (by decide)) _
                  have g465 : H451.2.2.1 56 0 (x432) = H434.2.2.1 56 0 (x432) := congrFun (ehE453.r 56 (by decide)) _
                  have g466 : H451.2.2.1 55 0 (x432) = H434.2.2.1 55 0 (x432) := congrFun (ehE453.r 55 (by decide)) _
                  have g467 : H451.2.2.1 56 0 (parent) = H434.2.2.1 56 0 (parent) := congrFun (ehE453.r 56 (by decide)) _
                  try dsimp only [Option.toList, List.append, List.cons_append, List.nil_append]
                  refine J.run0 2 rfl ?_
                  try dsimp only
                  exact (g_block_l0 (H0 := H) (n := n) (parent := parent) (one := one) (two := two) (claim := claim)  hp0 hp1 hp2 hp3 hp4 ((16 - ((0 : Int)) : Int).toNat + 1)) (x416) (x432) ((0 : Int)) H451 _ (show 16 - ((0 : Int)) < _ by omega) (show 0 ≤ (x416) ∧ (x416) ≤ 1 from ⟨by omega, by omega⟩) (show 0 ≤ (x432) ∧ (x432) < 300 from ⟨by omega, by omega⟩) (show (x432) < H451.1 11 12 0 from by omega) (show 0 ≤ ((0 : Int)) ∧ ((0 : Int)) ≤ 16 from ⟨by omega, by omega⟩) (show H451.2.2.1 58 0 ((x432)) = 0 from by omega) (show 0 ≤ parent ∧ parent < 300 from ⟨by omega, by omega⟩) (show -1 ≤ one ∧ one ≤ 1499 from ⟨by omega, by omega⟩) (show -1 ≤ two ∧ two ≤ 1499 from ⟨by omega, by omega⟩) (show -1 ≤ claim ∧ claim ≤ 65535 from ⟨by omega, by omega⟩) hT452 hE453 k454 k455 k456 k457 k458 k459 k460 k461 k462 ⟨_, rfl⟩
              · have c468 : ¬ (H399.1 11 47 0 ≤ (0 : Int)) := hc
                clear hc
                refine J.run0 1 rfl ?_
                try dsimp only
                exact J.reti rfl rfl rfl ⟨_, rfl, rfl, hT400, hE401, k402, k403, k404, k405, k406, k407, k408, k409, k410, _, rfl, (show 0 ≤ ((0 : Int)) ∧ ((0 : Int)) ≤ 299 from ⟨by omega, by omega⟩)⟩
            · have c469 : ¬ (x396 = (0 : Int)) := hc
              clear hc
              have f470 : 0 ≤ H.2.2.1 79 0 (n) ∧ H.2.2.1 79 0 (n) ≤ 1 := hT.1 79 (n)
              refine J.run 4 rfl (show 0 ≤ n ∧ n < 16 from ⟨by omega, by omega⟩) ?_
              try dsimp only
              refine J.ifc rfl rfl rfl (show -2147483648 ≤ H.2.2.1 79 0 (n) ∧ H.2.2.1 79 0 (n) ≤ 2147483647 from ⟨by omega, by omega⟩) (fun hc => ?_) (fun hc => ?_)
              · have c471 : H.2.2.1 79 0 (n) = (0 : Int) := hc
                clear hc
                refine J.run0 3 rfl ?_
                try dsimp only
                refine J.gn fun H472 hH472 => ?_
                have hT473 : gT H472 := by rw [hH472]; exact gT.num (f := 47) hT (show 0 ≤ (2 : Int) ∧ (2 : Int) ≤ 3 from ⟨by omega, by omega⟩) (by decide) (fun z => absurd z (by decide))
                have hE474 : jEx [48, 56, 57, 12, 47] [60, 56, 59, 58, 55, 57, 61, 99, 100, 105, 108, 101, 102, 103, 104] H472 H := by rw [hH472]; exact jEx.num hE (by decide)
                have k475 : gP H472 := by rw [hH472]; exact k0gP
                have k476 : gX H472 := by rw [hH472]; exact k0gX
                have k477 : gL H472 := by rw [hH472]; exact k0gL
                have k478 : gZ H472 := by rw [hH472]; exact k0gZ
                have k479 : gQ H472 := by rw [hH472]; exact k0gQ
                have k480 : gB H472 := by rw [hH472]; exact k0gB
                have k481 : gK H472 := by rw [hH472]; exact k0gK
                have k482 : gN H472 := by rw [hH472]; exact k0gN
                have k483 : gW H472 (H472.1 11 19 0) := by rw [hH472]; exact k0gW
                have g484 : H472.1 11 47 0 = (2 : Int) := by subst hH472; rfl
                have g485 : H472.1 11 12 0 = H.1 11 12 0 := by subst hH472; rfl
                have g486 : H472.2.2.1 79 0 (n) = H.2.2.1 79 0 (n) := by subst hH472; rfl
                clear hH472
                have f487 : 0 ≤ H472.1 11 47 0 ∧ H472.1 11 47 0 ≤ 3 := hT473.2.1 47
                refine J.run0 2 rfl ?_
                try dsimp only
                refine J.ifc rfl rfl rfl (show -2147483648 ≤ H472.1 11 47 0 ∧ H472.1 11 47 0 ≤ 2147483647 from ⟨by omega, by omega⟩) (fun hc => ?_) (fun hc => ?_)
                · have c488 : H472.1 11 47 0 ≤ (0 : Int) := hc
                  clear hc
                  refine J.run0 2 rfl ?_
                  try dsimp only
                  have f489 : 1 ≤ H472.1 11 12 0 ∧ H472.1 11 12 0 ≤ 300 := hT473.2.1 12
                  refine J.inv rfl rfl rfl rfl rfl rfl jDr rfl rfl rfl rfl rfl (g_isSound (b := parent) hT473 k475 k476 k477 k478 (show 0 ≤ (parent) ∧ (parent) < 300 from ⟨by omega, by omega⟩) (show (parent) < H472.1 11 12 0 from by omega)) ?_
                  rintro v w H492 ⟨rfl, hT493, ehE494, k495, k496, k497, k498, x490, rfl, r491⟩
                  have hE494 := jEx.trans ehE494 hE474 (by decide) (by decide)
                  have r491' : 0 ≤ x490 ∧ x490 ≤ 1 := r491
                  have k499 : gQ H492 := gQ.ex k479 ehE494 (by decide)
                  have k500 : gB H492 := gB.ex k480 ehE494 (by decide)
                  have k501 : gK H492 := gK.ex k481 ehE494 (by decide)
                  have k502 : gN H492 := gN.ex k482 ehE494 (by decide)
                  have k503 : gW H492 (H492.1 11 19 0) := gWm.ex k483 ehE494 (by decide)
                  have g504 : H492.1 11 12 0 = H472.1 11 12 0 := ehE494.v 12 (by decide)
                  have g505 : H492.2.2.1 79 0 (n) = H472.2.2.1 79 0 (n) := congrFun (ehE494.r 79 (by decide)) _
                  try dsimp only [Option.toList, List.append, List.cons_append, List.nil_append]
                  refine J.run0 4 rfl ?_
                  try dsimp only
                  have f506 : 1 ≤ H492.1 11 12 0 ∧ H492.1 11 12 0 ≤ 300 := hT493.2.1 12
                  refine J.inv rfl rfl rfl rfl rfl rfl jDr rfl rfl rfl rfl rfl (g_made (p := parent) (q := n) hT493 k495 (show 0 ≤ (parent) ∧ (parent) < 300 from ⟨by omega, by omega⟩) (show (parent) < H492.1 11 12 0 from by omega) (show 0 ≤ (n) ∧ (n) < 16 from ⟨by omega, by omega⟩) (show H492.1 11 12 0 < 300 from by omega)) ?_
                  rintro v w H509 ⟨rfl, hT510, ehE511, k512, x507, rfl, r508⟩
                  have hE511 := jEx.trans ehE511 hE494 (by decide) (by decide)
                  have r508' : x507 = H492.1 11 12 0 ∧ H509.1 11 12 0 = H492.1 11 12 0 + 1 ∧ H509.2.2.1 58 0 (x507) = 0 ∧ H509.2.2.1 56 0 (x507) = H492.2.2.1 56 0 ((parent)) + 1 ∧ H509.2.2.1 55 0 (x507) = (parent) ∧ H509.2.2.1 56 0 ((parent)) = H492.2.2.1 56 0 ((parent)) := r508
                  have k513 : gX H509 := gX.ex k496 ehE511 (by decide)
                  have k514 : gL H509 := gL.ex k497 ehE511 (by decide)
                  have k515 : gZ H509 := gZ.ex k498 ehE511 (by decide)
                  have k516 : gQ H509 := gQ.ex k499 ehE511 (by decide)
                  have k517 : gB H509 := gB.ex k500 ehE511 (by decide)
                  have k518 : gK H509 := gK.ex k501 ehE511 (by decide)
                  have k519 : gN H509 := gN.ex k502 ehE511 (by decide)
                  have k520 : gW H509 (H509.1 11 19 0) := gWm.ex k503 ehE511 (by decide)
                  have g521 : H509.2.2.1 79 0 (n) = H492.2.2.1 79 0 (n) := congrFun (ehE511.r 79 (by decide)) _
                  try dsimp only [Option.toList, List.append, List.cons_append, List.nil_append]
                  refine J.run0 2 rfl ?_
                  try dsimp only
                  refine J.ifc rfl rfl rfl (show -2147483648 ≤ x490 ∧ x490 ≤ 2147483647 from ⟨by omega, by omega⟩) (fun hc => ?_) (fun hc => ?_)
                  · have c522 : x490 = (0 : Int) := hc
                    clear hc
                    refine J.run0 2 rfl ?_
                    try dsimp only
                    exact (g_block_l0 (H0 := H) (n := n) (parent := parent) (one := one) (two := two) (claim := claim)  hp0 hp1 hp2 hp3 hp4 ((16 - ((0 : Int)) : Int).toNat + 1)) (x490) (x507) ((0 : Int)) H509 _ (show 16 - ((0 : Int)) < _ by omega) (show 0 ≤ (x490) ∧ (x490) ≤ 1 from ⟨by omega, by omega⟩) (show 0 ≤ (x507) ∧ (x507) < 300 from ⟨by omega, by omega⟩) (show (x507) < H509.1 11 12 0 from by omega) (show 0 ≤ ((0 : Int)) ∧ ((0 : Int)) ≤ 16 from ⟨by omega, by omega⟩) (show H509.2.2.1 58 0 ((x507)) = 0 from by omega) (show 0 ≤ parent ∧ parent < 300 from ⟨by omega, by omega⟩) (show -1 ≤ one ∧ one ≤ 1499 from ⟨by omega, by omega⟩) (show -1 ≤ two ∧ two ≤ 1499 from ⟨by omega, by omega⟩) (show -1 ≤ claim ∧ claim ≤ 65535 from ⟨by omega, by omega⟩) hT510 hE511 k512 k513 k514 k515 k516 k517 k518 k519 k520 ⟨_, rfl⟩
                  · have c523 : ¬ (x490 = (0 : Int)) := hc
                    clear hc
                    refine J.run0 2 rfl ?_
                    try dsimp only
                    have f524 : 1 ≤ H509.1 11 12 0 ∧ H509.1 11 12 0 ≤ 300 := hT510.2.1 12
                    refine J.inv rfl rfl rfl rfl rfl rfl jDr rfl rfl rfl rfl rfl (g_state (b := parent) hT510 k512 k513 k514 (show 0 ≤ (parent) ∧ (parent) < 300 from ⟨by omega, by omega⟩) (show (parent) < H509.1 11 12 0 from by omega)) ?_
                    rintro v w H527 ⟨rfl, hT528, ehE529, k530, k531, k532, rfl⟩
                    have hE529 := jEx.trans ehE529 hE511 (by decide) (by decide)
                    have k533 : gZ H527 := gZ.ex k515 ehE529 (by decide)
                    have k534 : gQ H527 := gQ.ex k516 ehE529 (by decide)
                    have k535 : gB H527 := gB.ex k517 ehE529 (by decide)
                    have k536 : gK H527 := gK.ex k518 ehE529 (by decide)
                    have k537 : gN H527 := gN.ex k519 ehE529 (by decide)
                    have k538 : gW H527 (H527.1 11 19 0) := gWm.ex k520 ehE529 (by decide)
                    have g539 : H527.1 11 12 0 = H509.1 11 12 0 := ehE529.v 12 (by decide)
                    have g540 : H527.2.2.1 79 0 (n) = H509.2.2.1 79 0 (n) := congrFun (ehE529.r 79 (by decide)) _
                    have g541 : H527.2.2.1 58 0 (x507) = H509.2.2.1 58 0 (x507) := congrFun (ehE529.r 58 (by decide)) _
                    have g542 : H527.2.2.1 56 0 (x507) = H509.2.2.1 56 0 (x507) := congrFun (ehE529.r 56 (by decide)) _
                    have g543 : H527.2.2.1 55 0 (x507) = H509.2.2.1 55 0 (x507) := congrFun (ehE529.r 55 (by decide)) _
                    have g544 : H527.2.2.1 56 0 (parent) = H509.2.2.1 56 0 (parent) := congrFun (ehE529.r 56 (by decide)) _
                    try dsimp only [Option.toList, List.append, List.cons_append, List.nil_append]
                    refine J.run0 2 rfl ?_
                    try dsimp only
                    exact (g_block_l0 (H0 := H) (n := n) (parent := parent) (one := one) (two := two) (claim := claim)  hp0 hp1 hp2 hp3 hp4 ((16 - ((0 : Int)) : Int).toNat + 1)) (x490) (x507) ((0 : Int)) H527 _ (show 16 - ((0 : Int)) < _ by omega) (show 0 ≤ (x490) ∧ (x490) ≤ 1 from ⟨by omega, by omega⟩) (show 0 ≤ (x507) ∧ (x507) < 300 from ⟨by omega, by omega⟩) (show (x507) < H527.1 11 12 0 from by omega) (show 0 ≤ ((0 : Int)) ∧ ((0 : Int)) ≤ 16 from ⟨by omega, by omega⟩) (show H527.2.2.1 58 0 ((x507)) = 0 from by omega) (show 0 ≤ parent ∧ parent < 300 from ⟨by omega, by omega⟩) (show -1 ≤ one ∧ one ≤ 1499 from ⟨by omega, by omega⟩) (show -1 ≤ two ∧ two ≤ 1499 from ⟨by omega, by omega⟩) (show -1 ≤ claim ∧ claim ≤ 65535 from ⟨by omega, by omega⟩) hT528 hE529 k530 k531 k532 k533 k534 k535 k536 k537 k538 ⟨_, rfl⟩
                · have c545 : ¬ (H472.1 11 47 0 ≤ (0 : Int)) := hc
                  clear hc
                  refine J.run0 1 rfl ?_
                  try dsimp only
                  exact J.reti rfl rfl rfl ⟨_, rfl, rfl, hT473, hE474, k475, k476, k477, k478, k479, k480, k481, k482, k483, _, rfl, (show 0 ≤ ((0 : Int)) ∧ ((0 : Int)) ≤ 299 from ⟨by omega, by omega⟩)⟩
              · have c546 : ¬ (H.2.2.1 79 0 (n) = (0 : Int)) := hc
                clear hc
                refine J.run0 3 rfl ?_
                try dsimp only
                refine J.icmp rfl rfl rfl ⟨(show -2147483648 ≤ H.1 11 12 0 ∧ H.1 11 12 0 ≤ 2147483647 from ⟨by omega, by omega⟩), (show -2147483648 ≤ (300 : Int) ∧ (300 : Int) ≤ 2147483647 from ⟨by omega, by omega⟩)⟩ (fun hc => ?_) (fun hc => ?_)
                · have c547 : ¬ (H.1 11 12 0 = (300 : Int)) := hc
                  clear hc
                  refine J.run0 2 rfl ?_
                  try dsimp only
                  refine J.gn fun H548 hH548 => ?_
                  have hT549 : gT H548 := by rw [hH548]; exact gT.num (f := 47) hT (show 0 ≤ (0 : Int) ∧ (0 : Int) ≤ 3 from ⟨by omega, by omega⟩) (by decide) (fun z => absurd z (by decide))
                  have hE550 : jEx [48, 56, 57, 12, 47] [60, 56, 59, 58, 55, 57, 61, 99, 100, 105, 108, 101, 102, 103, 104] H548 H := by rw [hH548]; exact jEx.num hE (by decide)
                  have k551 : gP H548 := by rw [hH548]; exact k0gP
                  have k552 : gX H548 := by rw [hH548]; exact k0gX
                  have k553 : gL H548 := by rw [hH548]; exact k0gL
                  have k554 : gZ H548 := by rw [hH548]; exact k0gZ
                  have k555 : gQ H548 := by rw [hH548]; exact k0gQ
                  have k556 : gB H548 := by rw [hH548]; exact k0gB
                  have k557 : gK H548 := by rw [hH548]; exact k0gK
                  have k558 : gN H548 := by rw [hH548]; exact k0gN
                  have k559 : gW H548 (H548.1 11 19 0) := by rw [hH548]; exact k0gW
                  have g560 : H548.1 11 47 0 = (0 : Int) := by subst hH548; rfl
                  have g561 : H548.1 11 12 0 = H.1 11 12 0 := by subst hH548; rfl
                  have g562 : H548.2.2.1 79 0 (n) = H.2.2.1 79 0 (n) := by subst hH548; rfl
                  clear hH548
                  have f563 : 0 ≤ H548.1 11 47 0 ∧ H548.1 11 47 0 ≤ 3 := hT549.2.1 47
                  refine J.run0 2 rfl ?_
                  try dsimp only
                  refine J.ifc rfl rfl rfl (show -2147483648 ≤ H548.1 11 47 0 ∧ H548.1 11 47 0 ≤ 2147483647 from ⟨by omega, by omega⟩) (fun hc => ?_) (fun hc => ?_)
                  · have c564 : H548.1 11 47 0 ≤ (0 : Int) := hc
                    clear hc
                    refine J.run0 2 rfl ?_
                    try dsimp only
                    have f565 : 1 ≤ H548.1 11 12 0 ∧ H548.1 11 12 0 ≤ 300 := hT549.2.1 12
                    refine J.inv rfl rfl rfl rfl rfl rfl jDr rfl rfl rfl rfl rfl (g_isSound (b := parent) hT549 k551 k552 k553 k554 (show 0 ≤ (parent) ∧ (parent) < 300 from ⟨by omega, by omega⟩) (show (parent) < H548.1 11 12 0 from by omega)) ?_
                    rintro v w H568 ⟨rfl, hT569, ehE570, k571, k572, k573, k574, x566, rfl, r567⟩
                    have hE570 := jEx.trans ehE570 hE550 (by decide) (by decide)
                    have r567' : 0 ≤ x566 ∧ x566 ≤ 1 := r567
                    have k575 : gQ H568 := gQ.ex k555 ehE570 (by decide)
                    have k576 : gB H568 := gB.ex k556 ehE570 (by decide)
                    have k577 : gK H568 := gK.ex k557 ehE570 (by decide)
                    have k578 : gN H568 := gN.ex k558 ehE570 (by decide)
                    have k579 : gW H568 (H568.1 11 19 0) := gWm.ex k559 ehE570 (by decide)
                    have g580 : H568.1 11 12 0 = H548.1 11 12 0 := ehE570.v 12 (by decide)
                    have g581 : H568.2.2.1 79 0 (n) = H548.2.2.1 79 0 (n) := congrFun (ehE570.r 79 (by decide)) _
                    try dsimp only [Option.toList, List.append, List.cons_append, List.nil_append]
                    refine J.run0 4 rfl ?_
                    try dsimp only
                    have f582 : 1 ≤ H568.1 11 12 0 ∧ H568.1 11 12 0 ≤ 300 := hT569.2.1 12
                    refine J.inv rfl rfl rfl rfl rfl rfl jDr rfl rfl rfl rfl rfl (g_made (p := parent) (q := n) hT569 k571 (show 0 ≤ (parent) ∧ (parent) < 300 from ⟨by omega, by omega⟩) (show (parent) < H568.1 11 12 0 from by omega) (show 0 ≤ (n) ∧ (n) < 16 from ⟨by omega, by omega⟩) (show H568.1 11 12 0 < 300 from by omega)) ?_
                    rintro v w H585 ⟨rfl, hT586, ehE587, k588, x583, rfl, r584⟩
                    have hE587 := jEx.trans ehE587 hE570 (by decide) (by decide)
                    have r584' : x583 = H568.1 11 12 0 ∧ H585.1 11 12 0 = H568.1 11 12 0 + 1 ∧ H585.2.2.1 58 0 (x583) = 0 ∧ H585.2.2.1 56 0 (x583) = H568.2.2.1 56 0 ((parent)) + 1 ∧ H585.2.2.1 55 0 (x583) = (parent) ∧ H585.2.2.1 56 0 ((parent)) = H568.2.2.1 56 0 ((parent)) := r584
                    have k589 : gX H585 := gX.ex k572 ehE587 (by decide)
                    have k590 : gL H585 := gL.ex k573 ehE587 (by decide)
                    have k591 : gZ H585 := gZ.ex k574 ehE587 (by decide)
                    have k592 : gQ H585 := gQ.ex k575 ehE587 (by decide)
                    have k593 : gB H585 := gB.ex k576 ehE587 (by decide)
                    have k594 : gK H585 := gK.ex k577 ehE587 (by decide)
                    have k595 : gN H585 := gN.ex k578 ehE587 (by decide)
                    have k596 : gW H585 (H585.1 11 19 0) := gWm.ex k579 ehE587 (by decide)
                    have g597 : H585.2.2.1 79 0 (n) = H568.2.2.1 79 0 (n) := congrFun (ehE587.r 79 (by decide)) _
                    try dsimp only [Option.toList, List.append, List.cons_append, List.nil_append]
                    refine J.run0 2 rfl ?_
                    try dsimp only
                    refine J.ifc rfl rfl rfl (show -2147483648 ≤ x566 ∧ x566 ≤ 2147483647 from ⟨by omega, by omega⟩) (fun hc => ?_) (fun hc => ?_)
                    · have c598 : x566 = (0 : Int) := hc
                      clear hc
                      refine J.run0 2 rfl ?_
                      try dsimp only
                      exact (g_block_l0 (H0 := H) (n := n) (parent := parent) (one := one) (two := two) (claim := claim)  hp0 hp1 hp2 hp3 hp4 ((16 - ((0 : Int)) : Int).toNat + 1)) (x566) (x583) ((0 : Int)) H585 _ (show 16 - ((0 : Int)) < _ by omega) (show 0 ≤ (x566) ∧ (x566) ≤ 1 from ⟨by omega, by omega⟩) (show 0 ≤ (x583) ∧ (x583) < 300 from ⟨by omega, by omega⟩) (show (x583) < H585.1 11 12 0 from by omega) (show 0 ≤ ((0 : Int)) ∧ ((0 : Int)) ≤ 16 from ⟨by omega, by omega⟩) (show H585.2.2.1 58 0 ((x583)) = 0 from by omega) (show 0 ≤ parent ∧ parent < 300 from ⟨by omega, by omega⟩) (show -1 ≤ one ∧ one ≤ 1499 from ⟨by omega, by omega⟩) (show -1 ≤ two ∧ two ≤ 1499 from ⟨by omega, by omega⟩) (show -1 ≤ claim ∧ claim ≤ 65535 from ⟨by omega, by omega⟩) hT586 hE587 k588 k589 k590 k591 k592 k593 k594 k595 k596 ⟨_, rfl⟩
                    · have c599 : ¬ (x566 = (0 : Int)) := hc
                      clear hc
                      refine J.run0 2 rfl ?_
                      try dsimp only
                      have f600 : 1 ≤ H585.1 11 12 0 ∧ H585.1 11 12 0 ≤ 300 := hT586.2.1 12
                      refine J.inv rfl rfl rfl rfl rfl rfl jDr rfl rfl rfl rfl rfl (g_state (b := parent) hT586 k588 k589 k590 (show 0 ≤ (parent) ∧ (parent) < 300 from ⟨by omega, by omega⟩) (show (parent) < H585.1 11 12 0 from by omega)) ?_
                      rintro v w H603 ⟨rfl, hT604, ehE605, k606, k607, k608, rfl⟩
                      have hE605 := jEx.trans ehE605 hE587 (by decide) (by decide)
                      have k609 : gZ H603 := gZ.ex k591 ehE605 (by decide)
                      have k610 : gQ H603 := gQ.ex k592 ehE605 (by decide)
                      have k611 : gB H603 := gB.ex k593 ehE605 (by decide)
                      have k612 : gK H603 := gK.ex k594 ehE605 (by decide)
                      have k613 : gN H603 := gN.ex k595 ehE605 (by decide)
                      have k614 : gW H603 (H603.1 11 19 0) := gWm.ex k596 ehE605 (by decide)
                      have g615 : H603.1 11 12 0 = H585.1 11 12 0 := ehE605.v 12 (by decide)
                      have g616 : H603.2.2.1 79 0 (n) = H585.2.2.1 79 0 (n) := congrFun (ehE605.r 79 (by decide)) _
                      have g617 : H603.2.2.1 58 0 (x583) = H585.2.2.1 58 0 (x583) := congrFun (ehE605.r 58 (by decide)) _
                      have g618 : H603.2.2.1 56 0 (x583) = H585.2.2.1 56 0 (x583) := congrFun (ehE605.r 56 (by decide)) _
                      have g619 : H603.2.2.1 55 0 (x583) = H585.2.2.1 55 0 (x583) := congrFun (ehE605.r 55 (by decide)) _
                      have g620 : H603.2.2.1 56 0 (parent) = H585.2.2.1 56 0 (parent) := congrFun (ehE605.r 56 (by decide)) _
                      try dsimp only [Option.toList, List.append, List.cons_append, List.nil_append]
                      refine J.run0 2 rfl ?_
                      try dsimp only
                      exact (g_block_l0 (H0 := H) (n := n) (parent := parent) (one := one) (two := two) (claim := claim)  hp0 hp1 hp2 hp3 hp4 ((16 - ((0 : Int)) : Int).toNat + 1)) (x566) (x583) ((0 : Int)) H603 _ (show 16 - ((0 : Int)) < _ by omega) (show 0 ≤ (x566) ∧ (x566) ≤ 1 from ⟨by omega, by omega⟩) (show 0 ≤ (x583) ∧ (x583) < 300 from ⟨by omega, by omega⟩) (show (x583) < H603.1 11 12 0 from by omega) (show 0 ≤ ((0 : Int)) ∧ ((0 : Int)) ≤ 16 from ⟨by omega, by omega⟩) (show H603.2.2.1 58 0 ((x583)) = 0 from by omega) (show 0 ≤ parent ∧ parent < 300 from ⟨by omega, by omega⟩) (show -1 ≤ one ∧ one ≤ 1499 from ⟨by omega, by omega⟩) (show -1 ≤ two ∧ two ≤ 1499 from ⟨by omega, by omega⟩) (show -1 ≤ claim ∧ claim ≤ 65535 from ⟨by omega, by omega⟩) hT604 hE605 k606 k607 k608 k609 k610 k611 k612 k613 k614 ⟨_, rfl⟩
                  · have c621 : ¬ (H548.1 11 47 0 ≤ (0 : Int)) := hc
                    clear hc
                    refine J.run0 1 rfl ?_
                    try dsimp only
                    exact J.reti rfl rfl rfl ⟨_, rfl, rfl, hT549, hE550, k551, k552, k553, k554, k555, k556, k557, k558, k559, _, rfl, (show 0 ≤ ((0 : Int)) ∧ ((0 : Int)) ≤ 299 from ⟨by omega, by omega⟩)⟩
                · have c622 : ¬ (¬ (H.1 11 12 0 = (300 : Int))) := hc
                  clear hc
                  refine J.run0 3 rfl ?_
                  try dsimp only
                  refine J.gn fun H623 hH623 => ?_
                  have hT624 : gT H623 := by rw [hH623]; exact gT.num (f := 47) hT (show 0 ≤ (2 : Int) ∧ (2 : Int) ≤ 3 from ⟨by omega, by omega⟩) (by decide) (fun z => absurd z (by decide))
                  have hE625 : jEx [48, 56, 57, 12, 47] [60, 56, 59, 58, 55, 57, 61, 99, 100, 105, 108, 101, 102, 103, 104] H623 H := by rw [hH623]; exact jEx.num hE (by decide)
                  have k626 : gP H623 := by rw [hH623]; exact k0gP
                  have k627 : gX H623 := by rw [hH623]; exact k0gX
                  have k628 : gL H623 := by rw [hH623]; exact k0gL
                  have k629 : gZ H623 := by rw [hH623]; exact k0gZ
                  have k630 : gQ H623 := by rw [hH623]; exact k0gQ
                  have k631 : gB H623 := by rw [hH623]; exact k0gB
                  have k632 : gK H623 := by rw [hH623]; exact k0gK
                  have k633 : gN H623 := by rw [hH623]; exact k0gN
                  have k634 : gW H623 (H623.1 11 19 0) := by rw [hH623]; exact k0gW
                  have g635 : H623.1 11 47 0 = (2 : Int) := by subst hH623; rfl
                  have g636 : H623.1 11 12 0 = H.1 11 12 0 := by subst hH623; rfl
                  have g637 : H623.2.2.1 79 0 (n) = H.2.2.1 79 0 (n) := by subst hH623; rfl
                  clear hH623
                  have f638 : 0 ≤ H623.1 11 47 0 ∧ H623.1 11 47 0 ≤ 3 := hT624.2.1 47
                  refine J.run0 2 rfl ?_
                  try dsimp only
                  refine J.ifc rfl rfl rfl (show -2147483648 ≤ H623.1 11 47 0 ∧ H623.1 11 47 0 ≤ 2147483647 from ⟨by omega, by omega⟩) (fun hc => ?_) (fun hc => ?_)
                  · have c639 : H623.1 11 47 0 ≤ (0 : Int) := hc
                    clear hc
                    refine J.run0 2 rfl ?_
                    try dsimp only
                    have f640 : 1 ≤ H623.1 11 12 0 ∧ H623.1 11 12 0 ≤ 300 := hT624.2.1 12
                    refine J.inv rfl rfl rfl rfl rfl rfl jDr rfl rfl rfl rfl rfl (g_isSound (b := parent) hT624 k626 k627 k628 k629 (show 0 ≤ (parent) ∧ (parent) < 300 from ⟨by omega, by omega⟩) (show (parent) < H623.1 11 12 0 from by omega)) ?_
                    rintro v w H643 ⟨rfl, hT644, ehE645, k646, k647, k648, k649, x641, rfl, r642⟩
                    have hE645 := jEx.trans ehE645 hE625 (by decide) (by decide)
                    have r642' : 0 ≤ x641 ∧ x641 ≤ 1 := r642
                    have k650 : gQ H643 := gQ.ex k630 ehE645 (by decide)
                    have k651 : gB H643 := gB.ex k631 ehE645 (by decide)
                    have k652 : gK H643 := gK.ex k632 ehE645 (by decide)
                    have k653 : gN H643 := gN.ex k633 ehE645 (by decide)
                    have k654 : gW H643 (H643.1 11 19 0) := gWm.ex k634 ehE645 (by decide)
                    have g655 : H643.1 11 12 0 = H623.1 11 12 0 := ehE645.v 12 (by decide)
                    have g656 : H643.2.2.1 79 0 (n) = H623.2.2.1 79 0 (n) := congrFun (ehE645.r 79 (by decide)) _
                    try dsimp only [Option.toList, List.append, List.cons_append, List.nil_append]
                    refine J.run0 4 rfl ?_
                    try dsimp only
                    have f657 : 1 ≤ H643.1 11 12 0 ∧ H643.1 11 12 0 ≤ 300 := hT644.2.1 12
                    refine J.inv rfl rfl rfl rfl rfl rfl jDr rfl rfl rfl rfl rfl (g_made (p := parent) (q := n) hT644 k646 (show 0 ≤ (parent) ∧ (parent) < 300 from ⟨by omega, by omega⟩) (show (parent) < H643.1 11 12 0 from by omega) (show 0 ≤ (n) ∧ (n) < 16 from ⟨by omega, by omega⟩) (show H643.1 11 12 0 < 300 from by omega)) ?_
                    rintro v w H660 ⟨rfl, hT661, ehE662, k663, x658, rfl, r659⟩
                    have hE662 := jEx.trans ehE662 hE645 (by decide) (by decide)
                    have r659' : x658 = H643.1 11 12 0 ∧ H660.1 11 12 0 = H643.1 11 12 0 + 1 ∧ H660.2.2.1 58 0 (x658) = 0 ∧ H660.2.2.1 56 0 (x658) = H643.2.2.1 56 0 ((parent)) + 1 ∧ H660.2.2.1 55 0 (x658) = (parent) ∧ H660.2.2.1 56 0 ((parent)) = H643.2.2.1 56 0 ((parent)) := r659
                    have k664 : gX H660 := gX.ex k647 ehE662 (by decide)
                    have k665 : gL H660 := gL.ex k648 ehE662 (by decide)
                    have k666 : gZ H660 := gZ.ex k649 ehE662 (by decide)
                    have k667 : gQ H660 := gQ.ex k650 ehE662 (by decide)
                    have k668 : gB H660 := gB.ex k651 ehE662 (by decide)
                    have k669 : gK H660 := gK.ex k652 ehE662 (by decide)
                    have k670 : gN H660 := gN.ex k653 ehE662 (by decide)
                    have k671 : gW H660 (H660.1 11 19 0) := gWm.ex k654 ehE662 (by decide)
                    have g672 : H660.2.2.1 79 0 (n) = H643.2.2.1 79 0 (n) := congrFun (ehE662.r 79 (by decide)) _
                    try dsimp only [Option.toList, List.append, List.cons_append, List.nil_append]
                    refine J.run0 2 rfl ?_
                    try dsimp only
                    refine J.ifc rfl rfl rfl (show -2147483648 ≤ x641 ∧ x641 ≤ 2147483647 from ⟨by omega, by omega⟩) (fun hc => ?_) (fun hc => ?_)
                    · have c673 : x641 = (0 : Int) := hc
                      clear hc
                      refine J.run0 2 rfl ?_
                      try dsimp only
                      exact (g_block_l0 (H0 := H) (n := n) (parent := parent) (one := one) (two := two) (claim := claim)  hp0 hp1 hp2 hp3 hp4 ((16 - ((0 : Int)) : Int).toNat + 1)) (x641) (x658) ((0 : Int)) H660 _ (show 16 - ((0 : Int)) < _ by omega) (show 0 ≤ (x641) ∧ (x641) ≤ 1 from ⟨by omega, by omega⟩) (show 0 ≤ (x658) ∧ (x658) < 300 from ⟨by omega, by omega⟩) (show (x658) < H660.1 11 12 0 from by omega) (show 0 ≤ ((0 : Int)) ∧ ((0 : Int)) ≤ 16 from ⟨by omega, by omega⟩) (show H660.2.2.1 58 0 ((x658)) = 0 from by omega) (show 0 ≤ parent ∧ parent < 300 from ⟨by omega, by omega⟩) (show -1 ≤ one ∧ one ≤ 1499 from ⟨by omega, by omega⟩) (show -1 ≤ two ∧ two ≤ 1499 from ⟨by omega, by omega⟩) (show -1 ≤ claim ∧ claim ≤ 65535 from ⟨by omega, by omega⟩) hT661 hE662 k663 k664 k665 k666 k667 k668 k669 k670 k671 ⟨_, rfl⟩
                    · have c674 : ¬ (x641 = (0 : Int)) := hc
                      clear hc
                      refine J.run0 2 rfl ?_
                      try dsimp only
                      have f675 : 1 ≤ H660.1 11 12 0 ∧ H660.1 11 12 0 ≤ 300 := hT661.2.1 12
                      refine J.inv rfl rfl rfl rfl rfl rfl jDr rfl rfl rfl rfl rfl (g_state (b := parent) hT661 k663 k664 k665 (show 0 ≤ (parent) ∧ (parent) < 300 from ⟨by omega, by omega⟩) (show (parent) < H660.1 11 12 0 from by omega)) ?_
                      rintro v w H678 ⟨rfl, hT679, ehE680, k681, k682, k683, rfl⟩
                      have hE680 := jEx.trans ehE680 hE662 (by decide) (by decide)
                      have k684 : gZ H678 := gZ.ex k666 ehE680 (by decide)
                      have k685 : gQ H678 := gQ.ex k667 ehE680 (by decide)
                      have k686 : gB H678 := gB.ex k668 ehE680 (by decide)
                      have k687 : gK H678 := gK.ex k669 ehE680 (by decide)
                      have k688 : gN H678 := gN.ex k670 ehE680 (by decide)
                      have k689 : gW H678 (H678.1 11 19 0) := gWm.ex k671 ehE680 (by decide)
                      have g690 : H678.1 11 12 0 = H660.1 11 12 0 := ehE680.v 12 (by decide)
                      have g691 : H678.2.2.1 79 0 (n) = H660.2.2.1 79 0 (n) := congrFun (ehE680.r 79 (by decide)) _
                      have g692 : H678.2.2.1 58 0 (x658) = H660.2.2.1 58 0 (x658) := congrFun (ehE680.r 58 (by decide)) _
                      have g693 : H678.2.2.1 56 0 (x658) = H660.2.2.1 56 0 (x658) := congrFun (ehE680.r 56 (by decide)) _
                      have g694 : H678.2.2.1 55 0 (x658) = H660.2.2.1 55 0 (x658) := congrFun (ehE680.r 55 (by decide)) _
                      have g695 : H678.2.2.1 56 0 (parent) = H660.2.2.1 56 0 (parent) := congrFun (ehE680.r 56 (by decide)) _
                      try dsimp only [Option.toList, List.append, List.cons_append, List.nil_append]
                      refine J.run0 2 rfl ?_
                      try dsimp only
                      exact (g_block_l0 (H0 := H) (n := n) (parent := parent) (one := one) (two := two) (claim := claim)  hp0 hp1 hp2 hp3 hp4 ((16 - ((0 : Int)) : Int).toNat + 1)) (x641) (x658) ((0 : Int)) H678 _ (show 16 - ((0 : Int)) < _ by omega) (show 0 ≤ (x641) ∧ (x641) ≤ 1 from ⟨by omega, by omega⟩) (show 0 ≤ (x658) ∧ (x658) < 300 from ⟨by omega, by omega⟩) (show (x658) < H678.1 11 12 0 from by omega) (show 0 ≤ ((0 : Int)) ∧ ((0 : Int)) ≤ 16 from ⟨by omega, by omega⟩) (show H678.2.2.1 58 0 ((x658)) = 0 from by omega) (show 0 ≤ parent ∧ parent < 300 from ⟨by omega, by omega⟩) (show -1 ≤ one ∧ one ≤ 1499 from ⟨by omega, by omega⟩) (show -1 ≤ two ∧ two ≤ 1499 from ⟨by omega, by omega⟩) (show -1 ≤ claim ∧ claim ≤ 65535 from ⟨by omega, by omega⟩) hT679 hE680 k681 k682 k683 k684 k685 k686 k687 k688 k689 ⟨_, rfl⟩
                  · have c696 : ¬ (H623.1 11 47 0 ≤ (0 : Int)) := hc
                    clear hc
                    refine J.run0 1 rfl ?_
                    try dsimp only
                    exact J.reti rfl rfl rfl ⟨_, rfl, rfl, hT624, hE625, k626, k627, k628, k629, k630, k631, k632, k633, k634, _, rfl, (show 0 ≤ ((0 : Int)) ∧ ((0 : Int)) ≤ 299 from ⟨by omega, by omega⟩)⟩
          · have c697 : ¬ ((0 : Int) = (0 : Int)) := hc
            clear hc
            exfalso
            omega
        · have c698 : ¬ (¬ (x392 = (0 : Int))) := hc
          clear hc
          refine J.run0 5 rfl ?_
          try dsimp only
          refine J.ifc rfl rfl rfl (show -2147483648 ≤ (1 : Int) ∧ (1 : Int) ≤ 2147483647 from ⟨by omega, by omega⟩) (fun hc => ?_) (fun hc => ?_)
          · have c699 : (1 : Int) = (0 : Int) := hc
            clear hc
            exfalso
            omega
          · have c700 : ¬ ((1 : Int) = (0 : Int)) := hc
            clear hc
            refine J.run0 3 rfl ?_
            try dsimp only
            refine J.gn fun H701 hH701 => ?_
            have hT702 : gT H701 := by rw [hH701]; exact gT.num (f := 47) hT (show 0 ≤ (1 : Int) ∧ (1 : Int) ≤ 3 from ⟨by omega, by omega⟩) (by decide) (fun z => absurd z (by decide))
            have hE703 : jEx [48, 56, 57, 12, 47] [60, 56, 59, 58, 55, 57, 61, 99, 100, 105, 108, 101, 102, 103, 104] H701 H := by rw [hH701]; exact jEx.num hE (by decide)
            have k704 : gP H701 := by rw [hH701]; exact k0gP
            have k705 : gX H701 := by rw [hH701]; exact k0gX
            have k706 : gL H701 := by rw [hH701]; exact k0gL
            have k707 : gZ H701 := by rw [hH701]; exact k0gZ
            have k708 : gQ H701 := by rw [hH701]; exact k0gQ
            have k709 : gB H701 := by rw [hH701]; exact k0gB
            have k710 : gK H701 := by rw [hH701]; exact k0gK
            have k711 : gN H701 := by rw [hH701]; exact k0gN
            have k712 : gW H701 (H701.1 11 19 0) := by rw [hH701]; exact k0gW
            have g713 : H701.1 11 47 0 = (1 : Int) := by subst hH701; rfl
            have g714 : H701.1 11 12 0 = H.1 11 12 0 := by subst hH701; rfl
            clear hH701
            have f715 : 0 ≤ H701.1 11 47 0 ∧ H701.1 11 47 0 ≤ 3 := hT702.2.1 47
            refine J.run0 2 rfl ?_
            try dsimp only
            refine J.ifc rfl rfl rfl (show -2147483648 ≤ H701.1 11 47 0 ∧ H701.1 11 47 0 ≤ 2147483647 from ⟨by omega, by omega⟩) (fun hc => ?_) (fun hc => ?_)
            · have c716 : H701.1 11 47 0 ≤ (0 : Int) := hc
              clear hc
              refine J.run0 2 rfl ?_
              try dsimp only
              have f717 : 1 ≤ H701.1 11 12 0 ∧ H701.1 11 12 0 ≤ 300 := hT702.2.1 12
              refine J.inv rfl rfl rfl rfl rfl rfl jDr rfl rfl rfl rfl rfl (g_isSound (b := parent) hT702 k704 k705 k706 k707 (show 0 ≤ (parent) ∧ (parent) < 300 from ⟨by omega, by omega⟩) (show (parent) < H701.1 11 12 0 from by omega)) ?_
              rintro v w H720 ⟨rfl, hT721, ehE722, k723, k724, k725, k726, x718, rfl, r719⟩
              have hE722 := jEx.trans ehE722 hE703 (by decide) (by decide)
              have r719' : 0 ≤ x718 ∧ x718 ≤ 1 := r719
              have k727 : gQ H720 := gQ.ex k708 ehE722 (by decide)
              have k728 : gB H720 := gB.ex k709 ehE722 (by decide)
              have k729 : gK H720 := gK.ex k710 ehE722 (by decide)
              have k730 : gN H720 := gN.ex k711 ehE722 (by decide)
              have k731 : gW H720 (H720.1 11 19 0) := gWm.ex k712 ehE722 (by decide)
              have g732 : H720.1 11 12 0 = H701.1 11 12 0 := ehE722.v 12 (by decide)
              try dsimp only [Option.toList, List.append, List.cons_append, List.nil_append]
              refine J.run0 4 rfl ?_
              try dsimp only
              have f733 : 1 ≤ H720.1 11 12 0 ∧ H720.1 11 12 0 ≤ 300 := hT721.2.1 12
              refine J.inv rfl rfl rfl rfl rfl rfl jDr rfl rfl rfl rfl rfl (g_made (p := parent) (q := n) hT721 k723 (show 0 ≤ (parent) ∧ (parent) < 300 from ⟨by omega, by omega⟩) (show (parent) < H720.1 11 12 0 from by omega) (show 0 ≤ (n) ∧ (n) < 16 from ⟨by omega, by omega⟩) (show H720.1 11 12 0 < 300 from by omega)) ?_
              rintro v w H736 ⟨rfl, hT737, ehE738, k739, x734, rfl, r735⟩
              have hE738 := jEx.trans ehE738 hE722 (by decide) (by decide)
              have r735' : x734 = H720.1 11 12 0 ∧ H736.1 11 12 0 = H720.1 11 12 0 + 1 ∧ H736.2.2.1 58 0 (x734) = 0 ∧ H736.2.2.1 56 0 (x734) = H720.2.2.1 56 0 ((parent)) + 1 ∧ H736.2.2.1 55 0 (x734) = (parent) ∧ H736.2.2.1 56 0 ((parent)) = H720.2.2.1 56 0 ((parent)) := r735
              have k740 : gX H736 := gX.ex k724 ehE738 (by decide)
              have k741 : gL H736 := gL.ex k725 ehE738 (by decide)
              have k742 : gZ H736 := gZ.ex k726 ehE738 (by decide)
              have k743 : gQ H736 := gQ.ex k727 ehE738 (by decide)
              have k744 : gB H736 := gB.ex k728 ehE738 (by decide)
              have k745 : gK H736 := gK.ex k729 ehE738 (by decide)
              have k746 : gN H736 := gN.ex k730 ehE738 (by decide)
              have k747 : gW H736 (H736.1 11 19 0) := gWm.ex k731 ehE738 (by decide)
              try dsimp only [Option.toList, List.append, List.cons_append, List.nil_append]
              refine J.run0 2 rfl ?_
              try dsimp only
              refine J.ifc rfl rfl rfl (show -2147483648 ≤ x718 ∧ x718 ≤ 2147483647 from ⟨by omega, by omega⟩) (fun hc => ?_) (fun hc => ?_)
              · have c748 : x718 = (0 : Int) := hc
                clear hc
                refine J.run0 2 rfl ?_
                try dsimp only
                exact (g_block_l0 (H0 := H) (n := n) (parent := parent) (one := one) (two := two) (claim := claim)  hp0 hp1 hp2 hp3 hp4 ((16 - ((0 : Int)) : Int).toNat + 1)) (x718) (x734) ((0 : Int)) H736 _ (show 16 - ((0 : Int)) < _ by omega) (show 0 ≤ (x718) ∧ (x718) ≤ 1 from ⟨by omega, by omega⟩) (show 0 ≤ (x734) ∧ (x734) < 300 from ⟨by omega, by omega⟩) (show (x734) < H736.1 11 12 0 from by omega) (show 0 ≤ ((0 : Int)) ∧ ((0 : Int)) ≤ 16 from ⟨by omega, by omega⟩) (show H736.2.2.1 58 0 ((x734)) = 0 from by omega) (show 0 ≤ parent ∧ parent < 300 from ⟨by omega, by omega⟩) (show -1 ≤ one ∧ one ≤ 1499 from ⟨by omega, by omega⟩) (show -1 ≤ two ∧ two ≤ 1499 from ⟨by omega, by omega⟩) (show -1 ≤ claim ∧ claim ≤ 65535 from ⟨by omega, by omega⟩) hT737 hE738 k739 k740 k741 k742 k743 k744 k745 k746 k747 ⟨_, rfl⟩
              · have c749 : ¬ (x718 = (0 : Int)) := hc
                clear hc
                refine J.run0 2 rfl ?_
                try dsimp only
                have f750 : 1 ≤ H736.1 11 12 0 ∧ H736.1 11 12 0 ≤ 300 := hT737.2.1 12
                refine J.inv rfl rfl rfl rfl rfl rfl jDr rfl rfl rfl rfl rfl (g_state (b := parent) hT737 k739 k740 k741 (show 0 ≤ (parent) ∧ (parent) < 300 from ⟨by omega, by omega⟩) (show (parent) < H736.1 11 12 0 from by omega)) ?_
                rintro v w H753 ⟨rfl, hT754, ehE755, k756, k757, k758, rfl⟩
                have hE755 := jEx.trans ehE755 hE738 (by decide) (by decide)
                have k759 : gZ H753 := gZ.ex k742 ehE755 (by decide)
                have k760 : gQ H753 := gQ.ex k743 ehE755 (by decide)
                have k761 : gB H753 := gB.ex k744 ehE755 (by decide)
                have k762 : gK H753 := gK.ex k745 ehE755 (by decide)
                have k763 : gN H753 := gN.ex k746 ehE755 (by decide)
                have k764 : gW H753 (H753.1 11 19 0) := gWm.ex k747 ehE755 (by decide)
                have g765 : H753.1 11 12 0 = H736.1 11 12 0 := ehE755.v 12 (by decide)
                have g766 : H753.2.2.1 58 0 (x734) = H736.2.2.1 58 0 (x734) := congrFun (ehE755.r 58 (by decide)) _
                have g767 : H753.2.2.1 56 0 (x734) = H736.2.2.1 56 0 (x734) := congrFun (ehE755.r 56 (by decide)) _
                have g768 : H753.2.2.1 55 0 (x734) = H736.2.2.1 55 0 (x734) := congrFun (ehE755.r 55 (by decide)) _
                have g769 : H753.2.2.1 56 0 (parent) = H736.2.2.1 56 0 (parent) := congrFun (ehE755.r 56 (by decide)) _
                try dsimp only [Option.toList, List.append, List.cons_append, List.nil_append]
                refine J.run0 2 rfl ?_
                try dsimp only
                exact (g_block_l0 (H0 := H) (n := n) (parent := parent) (one := one) (two := two) (claim := claim)  hp0 hp1 hp2 hp3 hp4 ((16 - ((0 : Int)) : Int).toNat + 1)) (x718) (x734) ((0 : Int)) H753 _ (show 16 - ((0 : Int)) < _ by omega) (show 0 ≤ (x718) ∧ (x718) ≤ 1 from ⟨by omega, by omega⟩) (show 0 ≤ (x734) ∧ (x734) < 300 from ⟨by omega, by omega⟩) (show (x734) < H753.1 11 12 0 from by omega) (show 0 ≤ ((0 : Int)) ∧ ((0 : Int)) ≤ 16 from ⟨by omega, by omega⟩) (show H753.2.2.1 58 0 ((x734)) = 0 from by omega) (show 0 ≤ parent ∧ parent < 300 from ⟨by omega, by omega⟩) (show -1 ≤ one ∧ one ≤ 1499 from ⟨by omega, by omega⟩) (show -1 ≤ two ∧ two ≤ 1499 from ⟨by omega, by omega⟩) (show -1 ≤ claim ∧ claim ≤ 65535 from ⟨by omega, by omega⟩) hT754 hE755 k756 k757 k758 k759 k760 k761 k762 k763 k764 ⟨_, rfl⟩
            · have c770 : ¬ (H701.1 11 47 0 ≤ (0 : Int)) := hc
              clear hc
              refine J.run0 1 rfl ?_
              try dsimp only
              exact J.reti rfl rfl rfl ⟨_, rfl, rfl, hT702, hE703, k704, k705, k706, k707, k708, k709, k710, k711, k712, _, rfl, (show 0 ≤ ((0 : Int)) ∧ ((0 : Int)) ≤ 299 from ⟨by omega, by omega⟩)⟩
end
