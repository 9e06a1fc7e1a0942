-- M: X11_of
section
variable {d : Nat} {w : jW} 
-- 
theorem g_of {b what : Int} {H : jH} (hT : gT H) (k0gP : gP H) (k0gX : gX H) (k0gL : gL H) (k0gZ : gZ H) (k0gQ : gQ H) (k0gB : gB H) (k0gK : gK H) (k0gN : gN H) (k0gW : gW H (H.1 11 19 0)) (hp0 : -2147483648 ≤ b ∧ b ≤ 2147483647) (hp1 : -2147483648 ≤ what ∧ what ≤ 2147483647) : J true (d + 303) 161 w (0, jargs 0 [jT, .inl b, .inl what], [], H) (jN fun v w' H' => w' = w ∧ gT H' ∧ jEx [48, 56, 57, 47] [108, 99, 100, 101, 105, 102, 103, 104, 61] H' H ∧ gP H' ∧ gX H' ∧ gL H' ∧ gZ H' ∧ gQ H' ∧ gB H' ∧ gK H' ∧ gN H' ∧ gW H' (H'.1 11 19 0) ∧ ∃ x, v = some (.inl x) ∧ -2147483648 ≤ x ∧ x ≤ 2147483647) := by
  have hE : jEx [48, 56, 57, 47] [108, 99, 100, 101, 105, 102, 103, 104, 61] H H := jEx.refl _ _ _
  have f1 : 1 ≤ H.1 11 12 0 ∧ H.1 11 12 0 ≤ 300 := hT.2.1 12
  refine J.run0 7 rfl ?_
  try dsimp only
  refine J.ins rfl rfl rfl rfl rfl rfl rfl rfl rfl (g_in (u := b) (a := (0 : Int)) (b := (H.1 11 12 0) - (1 : Int)) hT  (show -2147483648 ≤ (b) ∧ (b) ≤ 2147483647 from ⟨by omega, by omega⟩) (show -2147483648 ≤ ((0 : Int)) ∧ ((0 : Int)) ≤ 2147483647 from ⟨by omega, by omega⟩) (show -2147483648 ≤ ((H.1 11 12 0) - (1 : Int)) ∧ ((H.1 11 12 0) - (1 : Int)) ≤ 2147483647 from ⟨by omega, by omega⟩)) ?_
  rintro v w H ⟨rfl, rfl, x2, rfl, r3⟩
  have r3' : (x2 = 0 ∨ x2 = 1) ∧ (x2 = 1 → (b) ≥ ((0 : Int)) ∧ (b) ≤ ((H.1 11 12 0) - (1 : Int))) ∧ (x2 = 0 → (b) < ((0 : Int)) ∨ ((H.1 11 12 0) - (1 : Int)) < (b)) := r3
  try dsimp only [Option.toList, List.append, List.cons_append, List.nil_append]
  refine J.ifc rfl rfl rfl (show -2147483648 ≤ x2 ∧ x2 ≤ 2147483647 from ⟨by omega, by omega⟩) (fun hc => ?_) (fun hc => ?_)
  · have c4 : ¬ (x2 = (0 : Int)) := hc
    clear hc
    refine J.run0 3 rfl ?_
    try dsimp only
    refine J.ins rfl rfl rfl rfl rfl rfl rfl rfl rfl (g_in (u := what) (a := (0 : Int)) (b := (32 : Int)) hT  (show -2147483648 ≤ (what) ∧ (what) ≤ 2147483647 from ⟨by omega, by omega⟩) (show -2147483648 ≤ ((0 : Int)) ∧ ((0 : Int)) ≤ 2147483647 from ⟨by omega, by omega⟩) (show -2147483648 ≤ ((32 : Int)) ∧ ((32 : Int)) ≤ 2147483647 from ⟨by omega, by omega⟩)) ?_
    rintro v w H ⟨rfl, rfl, x5, rfl, r6⟩
    have r6' : (x5 = 0 ∨ x5 = 1) ∧ (x5 = 1 → (what) ≥ ((0 : Int)) ∧ (what) ≤ ((32 : Int))) ∧ (x5 = 0 → (what) < ((0 : Int)) ∨ ((32 : Int)) < (what)) := r6
    try dsimp only [Option.toList, List.append, List.cons_append, List.nil_append]
    refine J.ifc rfl rfl rfl (show -2147483648 ≤ x5 ∧ x5 ≤ 2147483647 from ⟨by omega, by omega⟩) (fun hc => ?_) (fun hc => ?_)
    · have c7 : ¬ (x5 = (0 : Int)) := hc
      clear hc
      refine J.run0 2 rfl ?_
      try dsimp only
      refine J.gn fun H8 hH8 => ?_
      have hT9 : gT H8 := by rw [hH8]; exact gT.num (f := 47) hT (show 0 ≤ (0 : Int) ∧ (0 : Int) ≤ 3 from ⟨by omega, by omega⟩) (by decide) (fun z => absurd z (by decide))
      have hE10 : jEx [48, 56, 57, 47] [108, 99, 100, 101, 105, 102, 103, 104, 61] H8 H := by rw [hH8]; exact jEx.num hE (by decide)
      have k11 : gP H8 := by rw [hH8]; exact k0gP
      have k12 : gX H8 := by rw [hH8]; exact k0gX
      have k13 : gL H8 := by rw [hH8]; exact k0gL
      have k14 : gZ H8 := by rw [hH8]; exact k0gZ
      have k15 : gQ H8 := by rw [hH8]; exact k0gQ
      have k16 : gB H8 := by rw [hH8]; exact k0gB
      have k17 : gK H8 := by rw [hH8]; exact k0gK
      have k18 : gN H8 := by rw [hH8]; exact k0gN
      have k19 : gW H8 (H8.1 11 19 0) := by rw [hH8]; exact k0gW
      have g20 : H8.1 11 47 0 = (0 : Int) := by subst hH8; rfl
      have g21 : H8.1 11 12 0 = H.1 11 12 0 := by subst hH8; rfl
      clear hH8
      have f22 : 0 ≤ H8.1 11 47 0 ∧ H8.1 11 47 0 ≤ 3 := hT9.2.1 47
      refine J.run0 2 rfl ?_
      try dsimp only
      refine J.ifc rfl rfl rfl (show -2147483648 ≤ H8.1 11 47 0 ∧ H8.1 11 47 0 ≤ 2147483647 from ⟨by omega, by omega⟩) (fun hc => ?_) (fun hc => ?_)
      · have c23 : H8.1 11 47 0 ≤ (0 : Int) := hc
        clear hc
        refine J.run0 1 rfl ?_
        try dsimp only
        refine J.ifc rfl rfl rfl (show -2147483648 ≤ what ∧ what ≤ 2147483647 from ⟨by omega, by omega⟩) (fun hc => ?_) (fun hc => ?_)
        · have c24 : ¬ (what = (0 : Int)) := hc
          clear hc
          refine J.run0 2 rfl ?_
          try dsimp only
          refine J.icmp rfl rfl rfl ⟨(show -2147483648 ≤ what ∧ what ≤ 2147483647 from ⟨by omega, by omega⟩), (show -2147483648 ≤ (1 : Int) ∧ (1 : Int) ≤ 2147483647 from ⟨by omega, by omega⟩)⟩ (fun hc => ?_) (fun hc => ?_)
          · have c25 : ¬ (what = (1 : Int)) := hc
            clear hc
            refine J.run0 2 rfl ?_
            try dsimp only
            refine J.icmp rfl rfl rfl ⟨(show -2147483648 ≤ what ∧ what ≤ 2147483647 from ⟨by omega, by omega⟩), (show -2147483648 ≤ (2 : Int) ∧ (2 : Int) ≤ 2147483647 from ⟨by omega, by omega⟩)⟩ (fun hc => ?_) (fun hc => ?_)
            · have c26 : ¬ (what = (2 : Int)) := hc
              clear hc
              refine J.run0 2 rfl ?_
              try dsimp only
              refine J.icmp rfl rfl rfl ⟨(show -2147483648 ≤ what ∧ what ≤ 2147483647 from ⟨by omega, by omega⟩), (show -2147483648 ≤ (3 : Int) ∧ (3 : Int) ≤ 2147483647 from ⟨by omega, by omega⟩)⟩ (fun hc => ?_) (fun hc => ?_)
              · have c27 : ¬ (what = (3 : Int)) := hc
                clear hc
                refine J.run0 2 rfl ?_
                try dsimp only
                refine J.icmp rfl rfl rfl ⟨(show -2147483648 ≤ what ∧ what ≤ 2147483647 from ⟨by omega, by omega⟩), (show -2147483648 ≤ (4 : Int) ∧ (4 : Int) ≤ 2147483647 from ⟨by omega, by omega⟩)⟩ (fun hc => ?_) (fun hc => ?_)
                · have c28 : ¬ (what = (4 : Int)) := hc
                  clear hc
                  refine J.run0 2 rfl ?_
                  try dsimp only
                  refine J.icmp rfl rfl rfl ⟨(show -2147483648 ≤ what ∧ what ≤ 2147483647 from ⟨by omega, by omega⟩), (show -2147483648 ≤ (16 : Int) ∧ (16 : Int) ≤ 2147483647 from ⟨by omega, by omega⟩)⟩ (fun hc => ?_) (fun hc => ?_)
                  · have c29 : (16 : Int) < what := hc
                    clear hc
                    have f30 : 0 ≤ H8.2.2.1 60 0 ((((16 : Int) * b) + what) - (17 : Int)) ∧ H8.2.2.1 60 0 ((((16 : Int) * b) + what) - (17 : Int)) ≤ 40320000 := hT9.1 60 ((((16 : Int) * b) + what) - (17 : Int))
                    refine J.run 10 rfl (show 0 ≤ (((16 : Int) * b) + what) - (17 : Int) ∧ (((16 : Int) * b) + what) - (17 : Int) < 4800 from ⟨by omega, by omega⟩) ?_
                    try dsimp only
                    exact J.reti rfl rfl rfl ⟨_, rfl, rfl, hT9, hE10, k11, k12, k13, k14, k15, k16, k17, k18, k19, _, rfl, (show -2147483648 ≤ (H8.2.2.1 60 0 ((((16 : Int) * b) + what) - (17 : Int))) ∧ (H8.2.2.1 60 0 ((((16 : Int) * b) + what) - (17 : Int))) ≤ 2147483647 from ⟨by omega, by omega⟩)⟩
                  · have c31 : ¬ ((16 : Int) < what) := hc
                    clear hc
                    have f32 : 0 ≤ H8.2.2.1 58 0 (b) ∧ H8.2.2.1 58 0 (b) ≤ 12 := hT9.1 58 (b)
                    refine J.run 7 rfl (show 0 ≤ b ∧ b < 300 from ⟨by omega, by omega⟩) ?_
                    try dsimp only
                    refine J.icmp rfl rfl rfl ⟨(show -2147483648 ≤ what - (5 : Int) ∧ what - (5 : Int) ≤ 2147483647 from ⟨by omega, by omega⟩), (show -2147483648 ≤ H8.2.2.1 58 0 (b) ∧ H8.2.2.1 58 0 (b) ≤ 2147483647 from ⟨by omega, by omega⟩)⟩ (fun hc => ?_) (fun hc => ?_)
                    · have c33 : H8.2.2.1 58 0 (b) ≤ what - (5 : Int) := hc
                      clear hc
                      refine J.run0 1 rfl ?_
                      try dsimp only
                      exact J.reti rfl rfl rfl ⟨_, rfl, rfl, hT9, hE10, k11, k12, k13, k14, k15, k16, k17, k18, k19, _, rfl, (show -2147483648 ≤ ((-1 : Int)) ∧ ((-1 : Int)) ≤ 2147483647 from ⟨by omega, by omega⟩)⟩
                    · have c34 : ¬ (H8.2.2.1 58 0 (b) ≤ what - (5 : Int)) := hc
                      clear hc
                      have f35 : 0 ≤ H8.2.2.1 59 0 ((((12 : Int) * b) + what) - (5 : Int)) ∧ H8.2.2.1 59 0 ((((12 : Int) * b) + what) - (5 : Int)) ≤ 1499 := hT9.1 59 ((((12 : Int) * b) + what) - (5 : Int))
                      refine J.run 11 rfl (show 0 ≤ (((12 : Int) * b) + what) - (5 : Int) ∧ (((12 : Int) * b) + what) - (5 : Int) < 3600 from ⟨by omega, by omega⟩) ?_
                      try dsimp only
                      exact J.reti rfl rfl rfl ⟨_, rfl, rfl, hT9, hE10, k11, k12, k13, k14, k15, k16, k17, k18, k19, _, rfl, (show -2147483648 ≤ (H8.2.2.1 59 0 ((((12 : Int) * b) + what) - (5 : Int))) ∧ (H8.2.2.1 59 0 ((((12 : Int) * b) + what) - (5 : Int))) ≤ 2147483647 from ⟨by omega, by omega⟩)⟩
                · have c36 : ¬ (¬ (what = (4 : Int))) := hc
                  clear hc
                  have f37 : 0 ≤ H8.2.2.1 58 0 (b) ∧ H8.2.2.1 58 0 (b) ≤ 12 := hT9.1 58 (b)
                  refine J.run 4 rfl (show 0 ≤ b ∧ b < 300 from ⟨by omega, by omega⟩) ?_
                  try dsimp only
                  exact J.reti rfl rfl rfl ⟨_, rfl, rfl, hT9, hE10, k11, k12, k13, k14, k15, k16, k17, k18, k19, _, rfl, (show -2147483648 ≤ (H8.2.2.1 58 0 (b)) ∧ (H8.2.2.1 58 0 (b)) ≤ 2147483647 from ⟨by omega, by omega⟩)⟩
              · have c38 : ¬ (¬ (what = (3 : Int))) := hc
                clear hc
                refine J.run0 2 rfl ?_
                try dsimp only
                have f39 : 1 ≤ H8.1 11 12 0 ∧ H8.1 11 12 0 ≤ 300 := hT9.2.1 12
                refine J.inv rfl rfl rfl rfl rfl rfl jDr rfl rfl rfl rfl rfl (g_isSound (b := b) hT9 k11 k12 k13 k14 (show 0 ≤ (b) ∧ (b) < 300 from ⟨by omega, by omega⟩) (show (b) < H8.1 11 12 0 from by omega)) ?_
                rintro v w H42 ⟨rfl, hT43, ehE44, k45, k46, k47, k48, x40, rfl, r41⟩
                have hE44 := jEx.trans ehE44 hE10 (by decide) (by decide)
                have r41' : 0 ≤ x40 ∧ x40 ≤ 1 := r41
                have k49 : gQ H42 := gQ.ex k15 ehE44 (by decide)
                have k50 : gB H42 := gB.ex k16 ehE44 (by decide)
                have k51 : gK H42 := gK.ex k17 ehE44 (by decide)
                have k52 : gN H42 := gN.ex k18 ehE44 (by decide)
                have k53 : gW H42 (H42.1 11 19 0) := gWm.ex k19 ehE44 (by decide)
                have g54 : H42.1 11 12 0 = H8.1 11 12 0 := ehE44.v 12 (by decide)
                try dsimp only [Option.toList, List.append, List.cons_append, List.nil_append]
                refine J.ifc rfl rfl rfl (show -2147483648 ≤ x40 ∧ x40 ≤ 2147483647 from ⟨by omega, by omega⟩) (fun hc => ?_) (fun hc => ?_)
                · have c55 : x40 = (0 : Int) := hc
                  clear hc
                  refine J.run0 1 rfl ?_
                  try dsimp only
                  exact J.reti rfl rfl rfl ⟨_, rfl, rfl, hT43, hE44, k45, k46, k47, k48, k49, k50, k51, k52, k53, _, rfl, (show -2147483648 ≤ ((0 : Int)) ∧ ((0 : Int)) ≤ 2147483647 from ⟨by omega, by omega⟩)⟩
                · have c56 : ¬ (x40 = (0 : Int)) := hc
                  clear hc
                  refine J.run0 2 rfl ?_
                  try dsimp only
                  exact J.reti rfl rfl rfl ⟨_, rfl, rfl, hT43, hE44, k45, k46, k47, k48, k49, k50, k51, k52, k53, _, rfl, (show -2147483648 ≤ ((1 : Int)) ∧ ((1 : Int)) ≤ 2147483647 from ⟨by omega, by omega⟩)⟩
            · have c57 : ¬ (¬ (what = (2 : Int))) := hc
              clear hc
              have f58 : -1 ≤ H8.2.2.1 57 0 (b) ∧ H8.2.2.1 57 0 (b) ≤ 15 := hT9.1 57 (b)
              have f58gP : 1 ≤ b → 0 ≤ H8.2.2.1 57 0 (b) := k11.2.2.2.2.2 (b)
              refine J.run 4 rfl (show 0 ≤ b ∧ b < 300 from ⟨by omega, by omega⟩) ?_
              try dsimp only
              exact J.reti rfl rfl rfl ⟨_, rfl, rfl, hT9, hE10, k11, k12, k13, k14, k15, k16, k17, k18, k19, _, rfl, (show -2147483648 ≤ (H8.2.2.1 57 0 (b)) ∧ (H8.2.2.1 57 0 (b)) ≤ 2147483647 from ⟨by omega, by omega⟩)⟩
          · have c59 : ¬ (¬ (what = (1 : Int))) := hc
            clear hc
            have f60 : -1 ≤ H8.2.2.1 55 0 (b) ∧ H8.2.2.1 55 0 (b) ≤ 299 := hT9.1 55 (b)
            have f61 : 1 ≤ H8.1 11 12 0 ∧ H8.1 11 12 0 ≤ 300 := hT9.2.1 12
            have f60b : H8.2.2.1 55 0 (b) < H8.1 11 12 0 := hT9.2.2.1 55 (b) rfl
            have f60gP : (b = 0 → H8.2.2.1 55 0 (b) = -1) ∧ (1 ≤ b → b < 300 → 0 ≤ H8.2.2.1 55 0 (b) ∧ H8.2.2.1 55 0 (b) < b) := ⟨fun z => by rw [z]; exact k11.1, fun z z' => k11.2.1 _ z z'⟩
            refine J.run 4 rfl (show 0 ≤ b ∧ b < 300 from ⟨by omega, by omega⟩) ?_
            try dsimp only
            exact J.reti rfl rfl rfl ⟨_, rfl, rfl, hT9, hE10, k11, k12, k13, k14, k15, k16, k17, k18, k19, _, rfl, (show -2147483648 ≤ (H8.2.2.1 55 0 (b)) ∧ (H8.2.2.1 55 0 (b)) ≤ 2147483647 from ⟨by omega, by omega⟩)⟩
        · have c62 : ¬ (¬ (what = (0 : Int))) := hc
          clear hc
          have f63 : 0 ≤ H8.2.2.1 56 0 (b) ∧ H8.2.2.1 56 0 (b) ≤ 300 := hT9.1 56 (b)
          have f63gP : 0 ≤ b → b < 300 → H8.2.2.1 56 0 (b) ≤ b := k11.2.2.2.2.1 (b)
          refine J.run 4 rfl (show 0 ≤ b ∧ b < 300 from ⟨by omega, by omega⟩) ?_
          try dsimp only
          exact J.reti rfl rfl rfl ⟨_, rfl, rfl, hT9, hE10, k11, k12, k13, k14, k15, k16, k17, k18, k19, _, rfl, (show -2147483648 ≤ (H8.2.2.1 56 0 (b)) ∧ (H8.2.2.1 56 0 (b)) ≤ 2147483647 from ⟨by omega, by omega⟩)⟩
      · have c64 : ¬ (H8.1 11 47 0 ≤ (0 : Int)) := hc
        clear hc
        refine J.run0 1 rfl ?_
        try dsimp only
        exact J.reti rfl rfl rfl ⟨_, rfl, rfl, hT9, hE10, k11, k12, k13, k14, k15, k16, k17, k18, k19, _, rfl, (show -2147483648 ≤ ((0 : Int)) ∧ ((0 : Int)) ≤ 2147483647 from ⟨by omega, by omega⟩)⟩
    · have c65 : ¬ (¬ (x5 = (0 : Int))) := hc
      clear hc
      refine J.run0 3 rfl ?_
      try dsimp only
      refine J.gn fun H66 hH66 => ?_
      have hT67 : gT H66 := by rw [hH66]; exact gT.num (f := 47) hT (show 0 ≤ (2 : Int) ∧ (2 : Int) ≤ 3 from ⟨by omega, by omega⟩) (by decide) (fun z => absurd z (by decide))
      have hE68 : jEx [48, 56, 57, 47] [108, 99, 100, 101, 105, 102, 103, 104, 61] H66 H := by rw [hH66]; exact jEx.num hE (by decide)
      have k69 : gP H66 := by rw [hH66]; exact k0gP
      have k70 : gX H66 := by rw [hH66]; exact k0gX
      have k71 : gL H66 := by rw [hH66]; exact k0gL
      have k72 : gZ H66 := by rw [hH66]; exact k0gZ
      have k73 : gQ H66 := by rw [hH66]; exact k0gQ
      have k74 : gB H66 := by rw [hH66]; exact k0gB
      have k75 : gK H66 := by rw [hH66]; exact k0gK
      have k76 : gN H66 := by rw [hH66]; exact k0gN
      have k77 : gW H66 (H66.1 11 19 0) := by rw [hH66]; exact k0gW
      have g78 : H66.1 11 47 0 = (2 : Int) := by subst hH66; rfl
      have g79 : H66.1 11 12 0 = H.1 11 12 0 := by subst hH66; rfl
      clear hH66
      have f80 : 0 ≤ H66.1 11 47 0 ∧ H66.1 11 47 0 ≤ 3 := hT67.2.1 47
      refine J.run0 2 rfl ?_
      try dsimp only
      refine J.ifc rfl rfl rfl (show -2147483648 ≤ H66.1 11 47 0 ∧ H66.1 11 47 0 ≤ 2147483647 from ⟨by omega, by omega⟩) (fun hc => ?_) (fun hc => ?_)
      · have c81 : H66.1 11 47 0 ≤ (0 : Int) := hc
        clear hc
        refine J.run0 1 rfl ?_
        try dsimp only
        refine J.ifc rfl rfl rfl (show -2147483648 ≤ what ∧ what ≤ 2147483647 from ⟨by omega, by omega⟩) (fun hc => ?_) (fun hc => ?_)
        · have c82 : ¬ (what = (0 : Int)) := hc
          clear hc
          refine J.run0 2 rfl ?_
          try dsimp only
          refine J.icmp rfl rfl rfl ⟨(show -2147483648 ≤ what ∧ what ≤ 2147483647 from ⟨by omega, by omega⟩), (show -2147483648 ≤ (1 : Int) ∧ (1 : Int) ≤ 2147483647 from ⟨by omega, by omega⟩)⟩ (fun hc => ?_) (fun hc => ?_)
          · have c83 : ¬ (what = (1 : Int)) := hc
            clear hc
            refine J.run0 2 rfl ?_
            try dsimp only
            refine J.icmp rfl rfl rfl ⟨(show -2147483648 ≤ what ∧ what ≤ 2147483647 from ⟨by omega, by omega⟩), (show -2147483648 ≤ (2 : Int) ∧ (2 : Int) ≤ 2147483647 from ⟨by omega, by omega⟩)⟩ (fun hc => ?_) (fun hc => ?_)
            · have c84 : ¬ (what = (2 : Int)) := hc
              clear hc
              refine J.run0 2 rfl ?_
              try dsimp only
              refine J.icmp rfl rfl rfl ⟨(show -2147483648 ≤ what ∧ what ≤ 2147483647 from ⟨by omega, by omega⟩), (show -2147483648 ≤ (3 : Int) ∧ (3 : Int) ≤ 2147483647 from ⟨by omega, by omega⟩)⟩ (fun hc => ?_) (fun hc => ?_)
              · have c85 : ¬ (what = (3 : Int)) := hc
                clear hc
                refine J.run0 2 rfl ?_
                try dsimp only
                refine J.icmp rfl rfl rfl ⟨(show -2147483648 ≤ what ∧ what ≤ 2147483647 from ⟨by omega, by omega⟩), (show -2147483648 ≤ (4 : Int) ∧ (4 : Int) ≤ 2147483647 from ⟨by omega, by omega⟩)⟩ (fun hc => ?_) (fun hc => ?_)
                · have c86 : ¬ (what = (4 : Int)) := hc
                  clear hc
                  refine J.run0 2 rfl ?_
                  try dsimp only
                  refine J.icmp rfl rfl rfl ⟨(show -2147483648 ≤ what ∧ what ≤ 2147483647 from ⟨by omega, by omega⟩), (show -2147483648 ≤ (16 : Int) ∧ (16 : Int) ≤ 2147483647 from ⟨by omega, by omega⟩)⟩ (fun hc => ?_) (fun hc => ?_)
                  · have c87 : (16 : Int) < what := hc
                    clear hc
                    have f88 : 0 ≤ H66.2.2.1 60 0 ((((16 : Int) * b) + what) - (17 : Int)) ∧ H66.2.2.1 60 0 ((((16 : Int) * b) + what) - (17 : Int)) ≤ 40320000 := hT67.1 60 ((((16 : Int) * b) + what) - (17 : Int))
                    refine J.run 10 rfl (show 0 ≤ (((16 : Int) * b) + what) - (17 : Int) ∧ (((16 : Int) * b) + what) - (17 : Int) < 4800 from ⟨by omega, by omega⟩) ?_
                    try dsimp only
                    exact J.reti rfl rfl rfl ⟨_, rfl, rfl, hT67, hE68, k69, k70, k71, k72, k73, k74, k75, k76, k77, _, rfl, (show -2147483648 ≤ (H66.2.2.1 60 0 ((((16 : Int) * b) + what) - (17 : Int))) ∧ (H66.2.2.1 60 0 ((((16 : Int) * b) + what) - (17 : Int))) ≤ 2147483647 from ⟨by omega, by omega⟩)⟩
                  · have c89 : ¬ ((16 : Int) < what) := hc
                    clear hc
                    have f90 : 0 ≤ H66.2.2.1 58 0 (b) ∧ H66.2.2.1 58 0 (b) ≤ 12 := hT67.1 58 (b)
                    refine J.run 7 rfl (show 0 ≤ b ∧ b < 300 from ⟨by omega, by omega⟩) ?_
                    try dsimp only
                    refine J.icmp rfl rfl rfl ⟨(show -2147483648 ≤ what - (5 : Int) ∧ what - (5 : Int) ≤ 2147483647 from ⟨by omega, by omega⟩), (show -2147483648 ≤ H66.2.2.1 58 0 (b) ∧ H66.2.2.1 58 0 (b) ≤ 2147483647 from ⟨by omega, by omega⟩)⟩ (fun hc => ?_) (fun hc => ?_)
                    · have c91 : H66.2.2.1 58 0 (b) ≤ what - (5 : Int) := hc
                      clear hc
                      refine J.run0 1 rfl ?_
                      try dsimp only
                      exact J.reti rfl rfl rfl ⟨_, rfl, rfl, hT67, hE68, k69, k70, k71, k72, k73, k74, k75, k76, k77, _, rfl, (show -2147483648 ≤ ((-1 : Int)) ∧ ((-1 : Int)) ≤ 2147483647 from ⟨by omega, by omega⟩)⟩
                    · have c92 : ¬ (H66.2.2.1 58 0 (b) ≤ what - (5 : Int)) := hc
                      clear hc
                      have f93 : 0 ≤ H66.2.2.1 59 0 ((((12 : Int) * b) + what) - (5 : Int)) ∧ H66.2.2.1 59 0 ((((12 : Int) * b) + what) - (5 : Int)) ≤ 1499 := hT67.1 59 ((((12 : Int) * b) + what) - (5 : Int))
                      refine J.run 11 rfl (show 0 ≤ (((12 : Int) * b) + what) - (5 : Int) ∧ (((12 : Int) * b) + what) - (5 : Int) < 3600 from ⟨by omega, by omega⟩) ?_
                      try dsimp only
                      exact J.reti rfl rfl rfl ⟨_, rfl, rfl, hT67, hE68, k69, k70, k71, k72, k73, k74, k75, k76, k77, _, rfl, (show -2147483648 ≤ (H66.2.2.1 59 0 ((((12 : Int) * b) + what) - (5 : Int))) ∧ (H66.2.2.1 59 0 ((((12 : Int) * b) + what) - (5 : Int))) ≤ 2147483647 from ⟨by omega, by omega⟩)⟩
                · have c94 : ¬ (¬ (what = (4 : Int))) := hc
                  clear hc
                  have f95 : 0 ≤ H66.2.2.1 58 0 (b) ∧ H66.2.2.1 58 0 (b) ≤ 12 := hT67.1 58 (b)
                  refine J.run 4 rfl (show 0 ≤ b ∧ b < 300 from ⟨by omega, by omega⟩) ?_
                  try dsimp only
                  exact J.reti rfl rfl rfl ⟨_, rfl, rfl, hT67, hE68, k69, k70, k71, k72, k73, k74, k75, k76, k77, _, rfl, (show -2147483648 ≤ (H66.2.2.1 58 0 (b)) ∧ (H66.2.2.1 58 0 (b)) ≤ 2147483647 from ⟨by omega, by omega⟩)⟩
              · have c96 : ¬ (¬ (what = (3 : Int))) := hc
                clear hc
                refine J.run0 2 rfl ?_
                try dsimp only
                have f97 : 1 ≤ H66.1 11 12 0 ∧ H66.1 11 12 0 ≤ 300 := hT67.2.1 12
                refine J.inv rfl rfl rfl rfl rfl rfl jDr rfl rfl rfl rfl rfl (g_isSound (b := b) hT67 k69 k70 k71 k72 (show 0 ≤ (b) ∧ (b) < 300 from ⟨by omega, by omega⟩) (show (b) < H66.1 11 12 0 from by omega)) ?_
                rintro v w H100 ⟨rfl, hT101, ehE102, k103, k104, k105, k106, x98, rfl, r99⟩
                have hE102 := jEx.trans ehE102 hE68 (by decide) (by decide)
                have r99' : 0 ≤ x98 ∧ x98 ≤ 1 := r99
                have k107 : gQ H100 := gQ.ex k73 ehE102 (by decide)
                have k108 : gB H100 := gB.ex k74 ehE102 (by decide)
                have k109 : gK H100 := gK.ex k75 ehE102 (by decide)
                have k110 : gN H100 := gN.ex k76 ehE102 (by decide)
                have k111 : gW H100 (H100.1 11 19 0) := gWm.ex k77 ehE102 (by decide)
                have g112 : H100.1 11 12 0 = H66.1 11 12 0 := ehE102.v 12 (by decide)
                try dsimp only [Option.toList, List.append, List.cons_append, List.nil_append]
                refine J.ifc rfl rfl rfl (show -2147483648 ≤ x98 ∧ x98 ≤ 2147483647 from ⟨by omega, by omega⟩) (fun hc => ?_) (fun hc => ?_)
                · have c113 : x98 = (0 : Int) := hc
                  clear hc
                  refine J.run0 1 rfl ?_
                  try dsimp only
                  exact J.reti rfl rfl rfl ⟨_, rfl, rfl, hT101, hE102, k103, k104, k105, k106, k107, k108, k109, k110, k111, _, rfl, (show -2147483648 ≤ ((0 : Int)) ∧ ((0 : Int)) ≤ 2147483647 from ⟨by omega, by omega⟩)⟩
                · have c114 : ¬ (x98 = (0 : Int)) := hc
                  clear hc
                  refine J.run0 2 rfl ?_
                  try dsimp only
                  exact J.reti rfl rfl rfl ⟨_, rfl, rfl, hT101, hE102, k103, k104, k105, k106, k107, k108, k109, k110, k111, _, rfl, (show -2147483648 ≤ ((1 : Int)) ∧ ((1 : Int)) ≤ 2147483647 from ⟨by omega, by omega⟩)⟩
            · have c115 : ¬ (¬ (what = (2 : Int))) := hc
              clear hc
              have f116 : -1 ≤ H66.2.2.1 57 0 (b) ∧ H66.2.2.1 57 0 (b) ≤ 15 := hT67.1 57 (b)
              have f116gP : 1 ≤ b → 0 ≤ H66.2.2.1 57 0 (b) := k69.2.2.2.2.2 (b)
              refine J.run 4 rfl (show 0 ≤ b ∧ b < 300 from ⟨by omega, by omega⟩) ?_
              try dsimp only
              exact J.reti rfl rfl rfl ⟨_, rfl, rfl, hT67, hE68, k69, k70, k71, k72, k73, k74, k75, k76, k77, _, rfl, (show -2147483648 ≤ (H66.2.2.1 57 0 (b)) ∧ (H66.2.2.1 57 0 (b)) ≤ 2147483647 from ⟨by omega, by omega⟩)⟩
          · have c117 : ¬ (¬ (what = (1 : Int))) := hc
            clear hc
            have f118 : -1 ≤ H66.2.2.1 55 0 (b) ∧ H66.2.2.1 55 0 (b) ≤ 299 := hT67.1 55 (b)
            have f119 : 1 ≤ H66.1 11 12 0 ∧ H66.1 11 12 0 ≤ 300 := hT67.2.1 12
            have f118b : H66.2.2.1 55 0 (b) < H66.1 11 12 0 := hT67.2.2.1 55 (b) rfl
            have f118gP : (b = 0 → H66.2.2.1 55 0 (b) = -1) ∧ (1 ≤ b → b < 300 → 0 ≤ H66.2.2.1 55 0 (b) ∧ H66.2.2.1 55 0 (b) < b) := ⟨fun z => by rw [z]; exact k69.1, fun z z' => k69.2.1 _ z z'⟩
            refine J.run 4 rfl (show 0 ≤ b ∧ b < 300 from ⟨by omega, by omega⟩) ?_
            try dsimp only
            exact J.reti rfl rfl rfl ⟨_, rfl, rfl, hT67, hE68, k69, k70, k71, k72, k73, k74, k75, k76, k77, _, rfl, (show -2147483648 ≤ (H66.2.2.1 55 0 (b)) ∧ (H66.2.2.1 55 0 (b)) ≤ 2147483647 from ⟨by omega, by omega⟩)⟩
        · have c120 : ¬ (¬ (what = (0 : Int))) := hc
          clear hc
          have f121 : 0 ≤ H66.2.2.1 56 0 (b) ∧ H66.2.2.1 56 0 (b) ≤ 300 := hT67.1 56 (b)
          have f121gP : 0 ≤ b → b < 300 → H66.2.2.1 56 0 (b) ≤ b := k69.2.2.2.2.1 (b)
          refine J.run 4 rfl (show 0 ≤ b ∧ b < 300 from ⟨by omega, by omega⟩) ?_
          try dsimp only
          exact J.reti rfl rfl rfl ⟨_, rfl, rfl, hT67, hE68, k69, k70, k71, k72, k73, k74, k75, k76, k77, _, rfl, (show -2147483648 ≤ (H66.2.2.1 56 0 (b)) ∧ (H66.2.2.1 56 0 (b)) ≤ 2147483647 from ⟨by omega, by omega⟩)⟩
      · have c122 : ¬ (H66.1 11 47 0 ≤ (0 : Int)) := hc
        clear hc
        refine J.run0 1 rfl ?_
        try dsimp only
        exact J.reti rfl rfl rfl ⟨_, rfl, rfl, hT67, hE68, k69, k70, k71, k72, k73, k74, k75, k76, k77, _, rfl, (show -2147483648 ≤ ((0 : Int)) ∧ ((0 : Int)) ≤ 2147483647 from ⟨by omega, by omega⟩)⟩
  · have c123 : ¬ (¬ (x2 = (0 : Int))) := hc
    clear hc
    refine J.run0 3 rfl ?_
    try dsimp only
    refine J.gn fun H124 hH124 => ?_
    have hT125 : gT H124 := by rw [hH124]; exact gT.num (f := 47) hT (show 0 ≤ (1 : Int) ∧ (1 : Int) ≤ 3 from ⟨by omega, by omega⟩) (by decide) (fun z => absurd z (by decide))
    have hE126 : jEx [48, 56, 57, 47] [108, 99, 100, 101, 105, 102, 103, 104, 61] H124 H := by rw [hH124]; exact jEx.num hE (by decide)
    have k127 : gP H124 := by rw [hH124]; exact k0gP
    have k128 : gX H124 := by rw [hH124]; exact k0gX
    have k129 : gL H124 := by rw [hH124]; exact k0gL
    have k130 : gZ H124 := by rw [hH124]; exact k0gZ
    have k131 : gQ H124 := by rw [hH124]; exact k0gQ
    have k132 : gB H124 := by rw [hH124]; exact k0gB
    have k133 : gK H124 := by rw [hH124]; exact k0gK
    have k134 : gN H124 := by rw [hH124]; exact k0gN
    have k135 : gW H124 (H124.1 11 19 0) := by rw [hH124]; exact k0gW
    have g136 : H124.1 11 47 0 = (1 : Int) := by subst hH124; rfl
    have g137 : H124.1 11 12 0 = H.1 11 12 0 := by subst hH124; rfl
    clear hH124
    have f138 : 0 ≤ H124.1 11 47 0 ∧ H124.1 11 47 0 ≤ 3 := hT125.2.1 47
    refine J.run0 2 rfl ?_
    try dsimp only
    refine J.ifc rfl rfl rfl (show -2147483648 ≤ H124.1 11 47 0 ∧ H124.1 11 47 0 ≤ 2147483647 from ⟨by omega, by omega⟩) (fun hc => ?_) (fun hc => ?_)
    · have c139 : H124.1 11 47 0 ≤ (0 : Int) := hc
      clear hc
      refine J.run0 1 rfl ?_
      try dsimp only
      refine J.ifc rfl rfl rfl (show -2147483648 ≤ what ∧ what ≤ 2147483647 from ⟨by omega, by omega⟩) (fun hc => ?_) (fun hc => ?_)
      · have c140 : ¬ (what = (0 : Int)) := hc
        clear hc
        refine J.run0 2 rfl ?_
        try dsimp only
        refine J.icmp rfl rfl rfl ⟨(show -2147483648 ≤ what ∧ what ≤ 2147483647 from ⟨by omega, by omega⟩), (show -2147483648 ≤ (1 : Int) ∧ (1 : Int) ≤ 2147483647 from ⟨by omega, by omega⟩)⟩ (fun hc => ?_) (fun hc => ?_)
        · have c141 : ¬ (what = (1 : Int)) := hc
          clear hc
          refine J.run0 2 rfl ?_
          try dsimp only
          refine J.icmp rfl rfl rfl ⟨(show -2147483648 ≤ what ∧ what ≤ 2147483647 from ⟨by omega, by omega⟩), (show -2147483648 ≤ (2 : Int) ∧ (2 : Int) ≤ 2147483647 from ⟨by omega, by omega⟩)⟩ (fun hc => ?_) (fun hc => ?_)
          · have c142 : ¬ (what = (2 : Int)) := hc
            clear hc
            refine J.run0 2 rfl ?_
            try dsimp only
            refine J.icmp rfl rfl rfl ⟨(show -2147483648 ≤ what ∧ what ≤ 2147483647 from ⟨by omega, by omega⟩), (show -2147483648 ≤ (3 : Int) ∧ (3 : Int) ≤ 2147483647 from ⟨by omega, by omega⟩)⟩ (fun hc => ?_) (fun hc => ?_)
            · have c143 : ¬ (what = (3 : Int)) := hc
              clear hc
              refine J.run0 2 rfl ?_
              try dsimp only
              refine J.icmp rfl rfl rfl ⟨(show -2147483648 ≤ what ∧ what ≤ 2147483647 from ⟨by omega, by omega⟩), (show -2147483648 ≤ (4 : Int) ∧ (4 : Int) ≤ 2147483647 from ⟨by omega, by omega⟩)⟩ (fun hc => ?_) (fun hc => ?_)
              · have c144 : ¬ (what = (4 : Int)) := hc
                clear hc
                refine J.run0 2 rfl ?_
                try dsimp only
                refine J.icmp rfl rfl rfl ⟨(show -2147483648 ≤ what ∧ what ≤ 2147483647 from ⟨by omega, by omega⟩), (show -2147483648 ≤ (16 : Int) ∧ (16 : Int) ≤ 2147483647 from ⟨by omega, by omega⟩)⟩ (fun hc => ?_) (fun hc => ?_)
                · have c145 : (16 : Int) < what := hc
                  clear hc
                  have f146 : 0 ≤ H124.2.2.1 60 0 ((((16 : Int) * b) + what) - (17 : Int)) ∧ H124.2.2.1 60 0 ((((16 : Int) * b) + what) - (17 : Int)) ≤ 40320000 := hT125.1 60 ((((16 : Int) * b) + what) - (17 : Int))
                  refine J.run 10 rfl (show 0 ≤ (((16 : Int) * b) + what) - (17 : Int) ∧ (((16 : Int) * b) + what) - (17 : Int) < 4800 from ⟨by omega, by omega⟩) ?_
                  try dsimp only
                  exact J.reti rfl rfl rfl ⟨_, rfl, rfl, hT125, hE126, k127, k128, k129, k130, k131, k132, k133, k134, k135, _, rfl, (show -2147483648 ≤ (H124.2.2.1 60 0 ((((16 : Int) * b) + what) - (17 : Int))) ∧ (H124.2.2.1 60 0 ((((16 : Int) * b) + what) - (17 : Int))) ≤ 2147483647 from ⟨by omega, by omega⟩)⟩
                · have c147 : ¬ ((16 : Int) < what) := hc
                  clear hc
                  have f148 : 0 ≤ H124.2.2.1 58 0 (b) ∧ H124.2.2.1 58 0 (b) ≤ 12 := hT125.1 58 (b)
                  refine J.run 7 rfl (show 0 ≤ b ∧ b < 300 from ⟨by omega, by omega⟩) ?_
                  try dsimp only
                  refine J.icmp rfl rfl rfl ⟨(show -2147483648 ≤ what - (5 : Int) ∧ what - (5 : Int) ≤ 2147483647 from ⟨by omega, by omega⟩), (show -2147483648 ≤ H124.2.2.1 58 0 (b) ∧ H124.2.2.1 58 0 (b) ≤ 2147483647 from ⟨by omega, by omega⟩)⟩ (fun hc => ?_) (fun hc => ?_)
                  · have c149 : H124.2.2.1 58 0 (b) ≤ what - (5 : Int) := hc
                    clear hc
                    refine J.run0 1 rfl ?_
                    try dsimp only
                    exact J.reti rfl rfl rfl ⟨_, rfl, rfl, hT125, hE126, k127, k128, k129, k130, k131, k132, k133, k134, k135, _, rfl, (show -2147483648 ≤ ((-1 : Int)) ∧ ((-1 : Int)) ≤ 2147483647 from ⟨by omega, by omega⟩)⟩
                  · have c150 : ¬ (H124.2.2.1 58 0 (b) ≤ what - (5 : Int)) := hc
                    clear hc
                    have f151 : 0 ≤ H124.2.2.1 59 0 ((((12 : Int) * b) + what) - (5 : Int)) ∧ H124.2.2.1 59 0 ((((12 : Int) * b) + what) - (5 : Int)) ≤ 1499 := hT125.1 59 ((((12 : Int) * b) + what) - (5 : Int))
                    refine J.run 11 rfl (show 0 ≤ (((12 : Int) * b) + what) - (5 : Int) ∧ (((12 : Int) * b) + what) - (5 : Int) < 3600 from ⟨by omega, by omega⟩) ?_
                    try dsimp only
                    exact J.reti rfl rfl rfl ⟨_, rfl, rfl, hT125, hE126, k127, k128, k129, k130, k131, k132, k133, k134, k135, _, rfl, (show -2147483648 ≤ (H124.2.2.1 59 0 ((((12 : Int) * b) + what) - (5 : Int))) ∧ (H124.2.2.1 59 0 ((((12 : Int) * b) + what) - (5 : Int))) ≤ 2147483647 from ⟨by omega, by omega⟩)⟩
              · have c152 : ¬ (¬ (what = (4 : Int))) := hc
                clear hc
                have f153 : 0 ≤ H124.2.2.1 58 0 (b) ∧ H124.2.2.1 58 0 (b) ≤ 12 := hT125.1 58 (b)
                refine J.run 4 rfl (show 0 ≤ b ∧ b < 300 from ⟨by omega, by omega⟩) ?_
                try dsimp only
                exact J.reti rfl rfl rfl ⟨_, rfl, rfl, hT125, hE126, k127, k128, k129, k130, k131, k132, k133, k134, k135, _, rfl, (show -2147483648 ≤ (H124.2.2.1 58 0 (b)) ∧ (H124.2.2.1 58 0 (b)) ≤ 2147483647 from ⟨by omega, by omega⟩)⟩
            · have c154 : ¬ (¬ (what = (3 : Int))) := hc
              clear hc
              refine J.run0 2 rfl ?_
              try dsimp only
              have f155 : 1 ≤ H124.1 11 12 0 ∧ H124.1 11 12 0 ≤ 300 := hT125.2.1 12
              refine J.inv rfl rfl rfl rfl rfl rfl jDr rfl rfl rfl rfl rfl (g_isSound (b := b) hT125 k127 k128 k129 k130 (show 0 ≤ (b) ∧ (b) < 300 from ⟨by omega, by omega⟩) (show (b) < H124.1 11 12 0 from by omega)) ?_
              rintro v w H158 ⟨rfl, hT159, ehE160, k161, k162, k163, k164, x156, rfl, r157⟩
              have hE160 := jEx.trans ehE160 hE126 (by decide) (by decide)
              have r157' : 0 ≤ x156 ∧ x156 ≤ 1 := r157
              have k165 : gQ H158 := gQ.ex k131 ehE160 (by decide)
              have k166 : gB H158 := gB.ex k132 ehE160 (by decide)
              have k167 : gK H158 := gK.ex k133 ehE160 (by decide)
              have k168 : gN H158 := gN.ex k134 ehE160 (by decide)
              have k169 : gW H158 (H158.1 11 19 0) := gWm.ex k135 ehE160 (by decide)
              have g170 : H158.1 11 12 0 = H124.1 11 12 0 := ehE160.v 12 (by decide)
              try dsimp only [Option.toList, List.append, List.cons_append, List.nil_append]
              refine J.ifc rfl rfl rfl (show -2147483648 ≤ x156 ∧ x156 ≤ 2147483647 from ⟨by omega, by omega⟩) (fun hc => ?_) (fun hc => ?_)
              · have c171 : x156 = (0 : Int) := hc
                clear hc
                refine J.run0 1 rfl ?_
                try dsimp only
                exact J.reti rfl rfl rfl ⟨_, rfl, rfl, hT159, hE160, k161, k162, k163, k164, k165, k166, k167, k168, k169, _, rfl, (show -2147483648 ≤ ((0 : Int)) ∧ ((0 : Int)) ≤ 2147483647 from ⟨by omega, by omega⟩)⟩
              · have c172 : ¬ (x156 = (0 : Int)) := hc
                clear hc
                refine J.run0 2 rfl ?_
                try dsimp only
                exact J.reti rfl rfl rfl ⟨_, rfl, rfl, hT159, hE160, k161, k162, k163, k164, k165, k166, k167, k168, k169, _, rfl, (show -2147483648 ≤ ((1 : Int)) ∧ ((1 : Int)) ≤ 2147483647 from ⟨by omega, by omega⟩)⟩
          · have c173 : ¬ (¬ (what = (2 : Int))) := hc
            clear hc
            have f174 : -1 ≤ H124.2.2.1 57 0 (b) ∧ H124.2.2.1 57 0 (b) ≤ 15 := hT125.1 57 (b)
            have f174gP : 1 ≤ b → 0 ≤ H124.2.2.1 57 0 (b) := k127.2.2.2.2.2 (b)
            refine J.run 4 rfl (show 0 ≤ b ∧ b < 300 from ⟨by omega, by omega⟩) ?_
            try dsimp only
            exact J.reti rfl rfl rfl ⟨_, rfl, rfl, hT125, hE126, k127, k128, k129, k130, k131, k132, k133, k134, k135, _, rfl, (show -2147483648 ≤ (H124.2.2.1 57 0 (b)) ∧ (H124.2.2.1 57 0 (b)) ≤ 2147483647 from ⟨by omega, by omega⟩)⟩
        · have c175 : ¬ (¬ (what = (1 : Int))) := hc
          clear hc
          have f176 : -1 ≤ H124.2.2.1 55 0 (b) ∧ H124.2.2.1 55 0 (b) ≤ 299 := hT125.1 55 (b)
          have f177 : 1 ≤ H124.1 11 12 0 ∧ H124.1 11 12 0 ≤ 300 := hT125.2.1 12
          have f176b : H124.2.2.1 55 0 (b) < H124.1 11 12 0 := hT125.2.2.1 55 (b) rfl
          have f176gP : (b = 0 → H124.2.2.1 55 0 (b) = -1) ∧ (1 ≤ b → b < 300 → 0 ≤ H124.2.2.1 55 0 (b) ∧ H124.2.2.1 55 0 (b) < b) := ⟨fun z => by rw [z]; exact k127.1, fun z z' => k127.2.1 _ z z'⟩
          refine J.run 4 rfl (show 0 ≤ b ∧ b < 300 from ⟨by omega, by omega⟩) ?_
          try dsimp only
          exact J.reti rfl rfl rfl ⟨_, rfl, rfl, hT125, hE126, k127, k128, k129, k130, k131, k132, k133, k134, k135, _, rfl, (show -2147483648 ≤ (H124.2.2.1 55 0 (b)) ∧ (H124.2.2.1 55 0 (b)) ≤ 2147483647 from ⟨by omega, by omega⟩)⟩
      · have c178 : ¬ (¬ (what = (0 : Int))) := hc
        clear hc
        have f179 : 0 ≤ H124.2.2.1 56 0 (b) ∧ H124.2.2.1 56 0 (b) ≤ 300 := hT125.1 56 (b)
        have f179gP : 0 ≤ b → b < 300 → H124.2.2.1 56 0 (b) ≤ b := k127.2.2.2.2.1 (b)
        refine J.run 4 rfl (show 0 ≤ b ∧ b < 300 from ⟨by omega, by omega⟩) ?_
        try dsimp only
        exact J.reti rfl rfl rfl ⟨_, rfl, rfl, hT125, hE126, k127, k128, k129, k130, k131, k132, k133, k134, k135, _, rfl, (show -2147483648 ≤ (H124.2.2.1 56 0 (b)) ∧ (H124.2.2.1 56 0 (b)) ≤ 2147483647 from ⟨by omega, by omega⟩)⟩
    · have c180 : ¬ (H124.1 11 47 0 ≤ (0 : Int)) := hc
      clear hc
      refine J.run0 1 rfl ?_
      try dsimp only
      exact J.reti rfl rfl rfl ⟨_, rfl, rfl, hT125, hE126, k127, k128, k129, k130, k131, k132, k133, k134, k135, _, rfl, (show -2147483648 ≤ ((0 : Int)) ∧ ((0 : Int)) ≤ 2147483647 from ⟨by omega, by omega⟩)⟩
end
