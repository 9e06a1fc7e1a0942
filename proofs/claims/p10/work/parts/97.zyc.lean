-- M: X11_expire
section
variable {d : Nat} {w : jW} 
-- 
theorem g_expire_l0 {n : Int} {H0 : jH} (hp0 : -2147483648 ≤ n ∧ n ≤ 2147483647) : ∀ (m : Nat), (∀ (was : Int) (H : jH) (lv : jL), 0 < (m : Int) → (0 ≤ n ∧ n < 16) → (0 ≤ was ∧ was ≤ 6000) → gT H → jEx [19, 12, 48, 56, 57, 47] [60, 56, 59, 58, 55, 57, 61, 99, 100, 77, 78, 82, 80, 114, 115, 81, 105, 71, 70, 72, 75, 76, 68, 67, 65, 63, 64, 66, 112, 113, 108, 110, 101, 102, 103, 104, 83, 73, 74, 84, 111, 89, 88, 93, 94, 86, 91, 92, 85, 87, 90] H H0 → gP H → gX H → gL H → gZ H → gQ H → gB H → gK H → gN H → gW H (H.1 11 19 0) → ((∃ j3 : Int, lv = [(3, .inl j3), (2, .inl was), (0, jT), (1, .inl n)])) → J true (d + 306) 151 w (165, lv, [], H) (jN fun v w' H' => w' = w ∧ gT H' ∧ jEx [19, 12, 48, 56, 57, 47] [60, 56, 59, 58, 55, 57, 61, 99, 100, 77, 78, 82, 80, 114, 115, 81, 105, 71, 70, 72, 75, 76, 68, 67, 65, 63, 64, 66, 112, 113, 108, 110, 101, 102, 103, 104, 83, 73, 74, 84, 111, 89, 88, 93, 94, 86, 91, 92, 85, 87, 90] H' H0 ∧ gP H' ∧ gX H' ∧ gL H' ∧ gZ H' ∧ gQ H' ∧ gB H' ∧ gK H' ∧ gN H' ∧ gW H' (H'.1 11 19 0) ∧ ∃ x, v = some (.inl x) ∧ (-6000) ≤ x ∧ x ≤ 6000)) := by
  intro m
  induction m with
  | zero =>
    skip
    · intro was H lv hm hi0 hi1 hT hE k0gP k0gX k0gL k0gZ k0gQ k0gB k0gK k0gN k0gW hlv
      exfalso
      omega
  | succ m ih =>
    skip
    · intro was H lv hm hi0 hi1 hT hE k0gP k0gX k0gL k0gZ k0gQ k0gB k0gK k0gN k0gW hlv
      rcases hlv with ⟨j3, rfl⟩
      refine J.run0 2 rfl ?_
      try dsimp only
      refine J.inv rfl rfl rfl rfl rfl rfl jDr rfl rfl rfl rfl rfl (g_act (n := n) (u := 16) hT k0gP k0gX k0gL k0gZ k0gQ k0gB k0gK k0gN k0gW gU.triv (show 0 ≤ (n) ∧ (n) < 16 from ⟨by omega, by omega⟩) (show (n) < (16) from by omega)) ?_
      rintro v w H3 ⟨rfl, hT4, ehE5, k6, k7, k8, k9, k10, k11, k12, k13, k14, k15, p16, rfl⟩
      have hE5 := jEx.trans ehE5 hE (by decide) (by decide)
      have p16' : H.1 11 19 0 ≤ H3.1 11 19 0 := p16
      try dsimp only [Option.toList, List.append, List.cons_append, List.nil_append]
      have f17 : 0 ≤ H3.1 11 19 0 ∧ H3.1 11 19 0 ≤ 6000 := hT4.2.1 19
      refine J.run0 4 rfl ?_
      try dsimp only
      exact J.reti rfl rfl rfl ⟨_, rfl, rfl, hT4, hE5, k6, k7, k8, k9, k10, k11, k12, k13, k14, _, rfl, (show (-6000) ≤ ((H3.1 11 19 0) - was) ∧ ((H3.1 11 19 0) - was) ≤ 6000 from ⟨by omega, by omega⟩)⟩
-- 
theorem g_expire {n : Int} {H : jH} (hT : gT H) (k0gP : gP H) (k0gX : gX H) (k0gL : gL H) (k0gZ : gZ H) (k0gQ : gQ H) (k0gB : gB H) (k0gK : gK H) (k0gN : gN H) (k0gW : gW H (H.1 11 19 0)) (hp0 : -2147483648 ≤ n ∧ n ≤ 2147483647) : J true (d + 306) 151 w (0, jargs 0 [jT, .inl n], [], H) (jN fun v w' H' => w' = w ∧ gT H' ∧ jEx [19, 12, 48, 56, 57, 47] [60, 56, 59, 58, 55, 57, 61, 99, 100, 77, 78, 82, 80, 114, 115, 81, 105, 71, 70, 72, 75, 76, 68, 67, 65, 63, 64, 66, 112, 113, 108, 110, 101, 102, 103, 104, 83, 73, 74, 84, 111, 89, 88, 93, 94, 86, 91, 92, 85, 87, 90] H' H ∧ gP H' ∧ gX H' ∧ gL H' ∧ gZ H' ∧ gQ H' ∧ gB H' ∧ gK H' ∧ gN H' ∧ gW H' (H'.1 11 19 0) ∧ ∃ x, v = some (.inl x) ∧ (-6000) ≤ x ∧ x ≤ 6000) := by
  have hE : jEx [19, 12, 48, 56, 57, 47] [60, 56, 59, 58, 55, 57, 61, 99, 100, 77, 78, 82, 80, 114, 115, 81, 105, 71, 70, 72, 75, 76, 68, 67, 65, 63, 64, 66, 112, 113, 108, 110, 101, 102, 103, 104, 83, 73, 74, 84, 111, 89, 88, 93, 94, 86, 91, 92, 85, 87, 90] H H := jEx.refl _ _ _
  refine J.run0 4 rfl ?_
  try dsimp only
  refine J.ins rfl rfl rfl rfl rfl rfl rfl rfl rfl (g_in (u := n) (a := (0 : Int)) (b := (15 : Int)) hT  (show -2147483648 ≤ (n) ∧ (n) ≤ 2147483647 from ⟨by omega, by omega⟩) (show -2147483648 ≤ ((0 : Int)) ∧ ((0 : Int)) ≤ 2147483647 from ⟨by omega, by omega⟩) (show -2147483648 ≤ ((15 : Int)) ∧ ((15 : Int)) ≤ 2147483647 from ⟨by omega, by omega⟩)) ?_
  rintro v w H ⟨rfl, rfl, x18, rfl, r19⟩
  have r19' : (x18 = 0 ∨ x18 = 1) ∧ (x18 = 1 → (n) ≥ ((0 : Int)) ∧ (n) ≤ ((15 : Int))) ∧ (x18 = 0 → (n) < ((0 : Int)) ∨ ((15 : Int)) < (n)) := r19
  try dsimp only [Option.toList, List.append, List.cons_append, List.nil_append]
  refine J.ifc rfl rfl rfl (show -2147483648 ≤ x18 ∧ x18 ≤ 2147483647 from ⟨by omega, by omega⟩) (fun hc => ?_) (fun hc => ?_)
  · have c20 : x18 = (0 : Int) := hc
    clear hc
    refine J.run0 2 rfl ?_
    try dsimp only
    refine J.gn fun H21 hH21 => ?_
    have hT22 : gT H21 := by rw [hH21]; exact gT.num (f := 47) hT (show 0 ≤ (1 : Int) ∧ (1 : Int) ≤ 3 from ⟨by omega, by omega⟩) (by decide) (fun z => absurd z (by decide))
    have hE23 : jEx [19, 12, 48, 56, 57, 47] [60, 56, 59, 58, 55, 57, 61, 99, 100, 77, 78, 82, 80, 114, 115, 81, 105, 71, 70, 72, 75, 76, 68, 67, 65, 63, 64, 66, 112, 113, 108, 110, 101, 102, 103, 104, 83, 73, 74, 84, 111, 89, 88, 93, 94, 86, 91, 92, 85, 87, 90] H21 H := by rw [hH21]; exact jEx.num hE (by decide)
    have k24 : gP H21 := by rw [hH21]; exact k0gP
    have k25 : gX H21 := by rw [hH21]; exact k0gX
    have k26 : gL H21 := by rw [hH21]; exact k0gL
    have k27 : gZ H21 := by rw [hH21]; exact k0gZ
    have k28 : gQ H21 := by rw [hH21]; exact k0gQ
    have k29 : gB H21 := by rw [hH21]; exact k0gB
    have k30 : gK H21 := by rw [hH21]; exact k0gK
    have k31 : gN H21 := by rw [hH21]; exact k0gN
    have k32 : gW H21 (H21.1 11 19 0) := by rw [hH21]; exact k0gW
    have g33 : H21.1 11 47 0 = (1 : Int) := by subst hH21; rfl
    have g34 : H21.1 11 12 0 = H.1 11 12 0 := by subst hH21; rfl
    have g35 : H21.1 11 19 0 = H.1 11 19 0 := by subst hH21; rfl
    have g36 : H21.2.2.1 83 0 (n) = H.2.2.1 83 0 (n) := by subst hH21; rfl
    have g37 : H21.2.2.1 73 0 (n) = H.2.2.1 73 0 (n) := by subst hH21; rfl
    have g38 : H21.2.2.1 74 0 (n) = H.2.2.1 74 0 (n) := by subst hH21; rfl
    have g39 : H21.2.2.1 79 0 (n) = H.2.2.1 79 0 (n) := by subst hH21; rfl
    have g40 : H21.2.2.1 80 0 (n) = H.2.2.1 80 0 (n) := by subst hH21; rfl
    clear hH21
    have f41 : 0 ≤ H21.1 11 47 0 ∧ H21.1 11 47 0 ≤ 3 := hT22.2.1 47
    refine J.run0 2 rfl ?_
    try dsimp only
    refine J.ifc rfl rfl rfl (show -2147483648 ≤ H21.1 11 47 0 ∧ H21.1 11 47 0 ≤ 2147483647 from ⟨by omega, by omega⟩) (fun hc => ?_) (fun hc => ?_)
    · have c42 : (0 : Int) < H21.1 11 47 0 := hc
      clear hc
      refine J.run0 1 rfl ?_
      try dsimp only
      exact J.reti rfl rfl rfl ⟨_, rfl, rfl, hT22, hE23, k24, k25, k26, k27, k28, k29, k30, k31, k32, _, rfl, (show (-6000) ≤ ((0 : Int)) ∧ ((0 : Int)) ≤ 6000 from ⟨by omega, by omega⟩)⟩
    · have c43 : ¬ ((0 : Int) < H21.1 11 47 0) := hc
      clear hc
      have f44 : 0 ≤ H21.2.2.1 79 0 (n) ∧ H21.2.2.1 79 0 (n) ≤ 1 := hT22.1 79 (n)
      refine J.run 4 rfl (show 0 ≤ n ∧ n < 16 from ⟨by omega, by omega⟩) ?_
      try dsimp only
      refine J.ifc rfl rfl rfl (show -2147483648 ≤ H21.2.2.1 79 0 (n) ∧ H21.2.2.1 79 0 (n) ≤ 2147483647 from ⟨by omega, by omega⟩) (fun hc => ?_) (fun hc => ?_)
      · have c45 : ¬ (H21.2.2.1 79 0 (n) = (0 : Int)) := hc
        clear hc
        refine J.run0 1 rfl ?_
        try dsimp only
        exact J.reti rfl rfl rfl ⟨_, rfl, rfl, hT22, hE23, k24, k25, k26, k27, k28, k29, k30, k31, k32, _, rfl, (show (-6000) ≤ ((0 : Int)) ∧ ((0 : Int)) ≤ 6000 from ⟨by omega, by omega⟩)⟩
      · have c46 : ¬ (¬ (H21.2.2.1 79 0 (n) = (0 : Int))) := hc
        clear hc
        have f47 : 0 ≤ H21.2.2.1 80 0 (n) ∧ H21.2.2.1 80 0 (n) ≤ 1 := hT22.1 80 (n)
        refine J.run 4 rfl (show 0 ≤ n ∧ n < 16 from ⟨by omega, by omega⟩) ?_
        try dsimp only
        refine J.ifc rfl rfl rfl (show -2147483648 ≤ H21.2.2.1 80 0 (n) ∧ H21.2.2.1 80 0 (n) ≤ 2147483647 from ⟨by omega, by omega⟩) (fun hc => ?_) (fun hc => ?_)
        · have c48 : ¬ (H21.2.2.1 80 0 (n) = (0 : Int)) := hc
          clear hc
          refine J.run0 1 rfl ?_
          try dsimp only
          exact J.reti rfl rfl rfl ⟨_, rfl, rfl, hT22, hE23, k24, k25, k26, k27, k28, k29, k30, k31, k32, _, rfl, (show (-6000) ≤ ((0 : Int)) ∧ ((0 : Int)) ≤ 6000 from ⟨by omega, by omega⟩)⟩
        · have c49 : ¬ (¬ (H21.2.2.1 80 0 (n) = (0 : Int))) := hc
          clear hc
          refine J.run0 2 rfl ?_
          try dsimp only
          refine J.inv rfl rfl rfl rfl rfl rfl jDr rfl rfl rfl rfl rfl (g_heightE (n := n) hT22  (show 0 ≤ (n) ∧ (n) < 16 from ⟨by omega, by omega⟩)) ?_
          rintro v w H21 ⟨rfl, rfl, x50, rfl, r51⟩
          have r51' : x50 = H21.2.2.1 56 0 (H21.2.2.1 72 0 ((n))) + 1 ∧ 1 ≤ x50 ∧ x50 ≤ 301 := r51
          try dsimp only [Option.toList, List.append, List.cons_append, List.nil_append]
          refine J.run0 1 rfl ?_
          try dsimp only
          refine J.icmp rfl rfl rfl ⟨(show -2147483648 ≤ x50 ∧ x50 ≤ 2147483647 from ⟨by omega, by omega⟩), (show -2147483648 ≤ (120 : Int) ∧ (120 : Int) ≤ 2147483647 from ⟨by omega, by omega⟩)⟩ (fun hc => ?_) (fun hc => ?_)
          · have c52 : x50 ≤ (120 : Int) := hc
            clear hc
            have qw : H21.2.2.1 83 0 (n) ≤ 3 * H21.2.2.1 73 0 (n) + H21.2.2.1 74 0 (n) + 1 := (k32 n (by omega) (by omega)).1
            have f53 : 0 ≤ H21.1 11 19 0 ∧ H21.1 11 19 0 ≤ 6000 := hT22.2.1 19
            have f54 : 0 ≤ H21.2.2.1 73 0 (n) ∧ H21.2.2.1 73 0 (n) ≤ 31 := hT22.1 73 (n)
            have f55 : 0 ≤ H21.2.2.1 74 0 (n) ∧ H21.2.2.1 74 0 (n) ≤ 2 := hT22.1 74 (n)
            refine J.run 12 rfl ⟨(show 0 ≤ n ∧ n < 16 from ⟨by omega, by omega⟩), (show 0 ≤ n ∧ n < 16 from ⟨by omega, by omega⟩)⟩ ?_
            try dsimp only
            refine J.ifc rfl rfl rfl (show -2147483648 ≤ H21.2.2.1 74 0 (n) ∧ H21.2.2.1 74 0 (n) ≤ 2147483647 from ⟨by omega, by omega⟩) (fun hc => ?_) (fun hc => ?_)
            · have c56 : ¬ (H21.2.2.1 74 0 (n) = (0 : Int)) := hc
              clear hc
              refine J.run 5 rfl (show 0 ≤ n ∧ n < 16 from ⟨by omega, by omega⟩) ?_
              try dsimp only
              refine J.icmp rfl rfl rfl ⟨(show -2147483648 ≤ H21.2.2.1 74 0 (n) ∧ H21.2.2.1 74 0 (n) ≤ 2147483647 from ⟨by omega, by omega⟩), (show -2147483648 ≤ (1 : Int) ∧ (1 : Int) ≤ 2147483647 from ⟨by omega, by omega⟩)⟩ (fun hc => ?_) (fun hc => ?_)
              · have c57 : ¬ (H21.2.2.1 74 0 (n) = (1 : Int)) := hc
                clear hc
                refine J.run0 2 rfl ?_
                try dsimp only
                refine J.icmp rfl rfl rfl ⟨(show -2147483648 ≤ H21.2.2.1 73 0 (n) ∧ H21.2.2.1 73 0 (n) ≤ 2147483647 from ⟨by omega, by omega⟩), (show -2147483648 ≤ (31 : Int) ∧ (31 : Int) ≤ 2147483647 from ⟨by omega, by omega⟩)⟩ (fun hc => ?_) (fun hc => ?_)
                · have c58 : (31 : Int) ≤ H21.2.2.1 73 0 (n) := hc
                  clear hc
                  exact (g_expire_l0 (H0 := H) (n := n)  hp0 ((0 : Int).toNat + 1)) (H21.1 11 19 0) H21 _ (show 0 < _ by omega) (show 0 ≤ n ∧ n < 16 from ⟨by omega, by omega⟩) (show 0 ≤ (H21.1 11 19 0) ∧ (H21.1 11 19 0) ≤ 6000 from ⟨by omega, by omega⟩) hT22 hE23 k24 k25 k26 k27 k28 k29 k30 k31 k32 ⟨_, rfl⟩
                · have c59 : ¬ ((31 : Int) ≤ H21.2.2.1 73 0 (n)) := hc
                  clear hc
                  refine J.run0 5 rfl ?_
                  try dsimp only
                  refine J.inv rfl rfl rfl rfl rfl rfl jDr rfl rfl rfl rfl rfl (g_isMost (n := n) (kind := (2 : Int)) (r := H21.2.2.1 73 0 (n)) (b := (-2 : Int)) hT22  (show 0 ≤ (n) ∧ (n) < 16 from ⟨by omega, by omega⟩) (show -2147483648 ≤ ((2 : Int)) ∧ ((2 : Int)) ≤ 2147483647 from ⟨by omega, by omega⟩) (show -2147483648 ≤ (H21.2.2.1 73 0 (n)) ∧ (H21.2.2.1 73 0 (n)) ≤ 2147483647 from ⟨by omega, by omega⟩) (show -2147483648 ≤ ((-2 : Int)) ∧ ((-2 : Int)) ≤ 2147483647 from ⟨by omega, by omega⟩)) ?_
                  rintro v w H62 ⟨rfl, hT63, ehE64, x60, rfl, r61⟩
                  have hE64 := jEx.trans ehE64 hE23 (by decide) (by decide)
                  have r61' : 0 ≤ x60 ∧ x60 ≤ 1 := r61
                  have k65 : gP H62 := gP.ex k24 ehE64 (by decide)
                  have k66 : gX H62 := gX.ex k25 ehE64 (by decide)
                  have k67 : gL H62 := gL.ex k26 ehE64 (by decide)
                  have k68 : gZ H62 := gZ.ex k27 ehE64 (by decide)
                  have k69 : gQ H62 := gQ.ex k28 ehE64 (by decide)
                  have k70 : gB H62 := gB.ex k29 ehE64 (by decide)
                  have k71 : gK H62 := gK.ex k30 ehE64 (by decide)
                  have k72 : gN H62 := gN.ex k31 ehE64 (by decide)
                  have k73 : gW H62 (H62.1 11 19 0) := gWm.ex k32 ehE64 (by decide)
                  have g74 : H62.1 11 12 0 = H21.1 11 12 0 := ehE64.v 12 (by decide)
                  have g75 : H62.1 11 19 0 = H21.1 11 19 0 := ehE64.v 19 (by decide)
                  have g76 : H62.2.2.1 83 0 (n) = H21.2.2.1 83 0 (n) := congrFun (ehE64.r 83 (by decide)) _
                  have g77 : H62.2.2.1 73 0 (n) = H21.2.2.1 73 0 (n) := congrFun (ehE64.r 73 (by decide)) _
                  have g78 : H62.2.2.1 74 0 (n) = H21.2.2.1 74 0 (n) := congrFun (ehE64.r 74 (by decide)) _
                  have g79 : H62.2.2.1 79 0 (n) = H21.2.2.1 79 0 (n) := congrFun (ehE64.r 79 (by decide)) _
                  have g80 : H62.2.2.1 80 0 (n) = H21.2.2.1 80 0 (n) := congrFun (ehE64.r 80 (by decide)) _
                  try dsimp only [Option.toList, List.append, List.cons_append, List.nil_append]
                  refine J.ifc rfl rfl rfl (show -2147483648 ≤ x60 ∧ x60 ≤ 2147483647 from ⟨by omega, by omega⟩) (fun hc => ?_) (fun hc => ?_)
                  · have c81 : x60 = (0 : Int) := hc
                    clear hc
                    exact (g_expire_l0 (H0 := H) (n := n)  hp0 ((0 : Int).toNat + 1)) (H21.1 11 19 0) H62 _ (show 0 < _ by omega) (show 0 ≤ n ∧ n < 16 from ⟨by omega, by omega⟩) (show 0 ≤ (H21.1 11 19 0) ∧ (H21.1 11 19 0) ≤ 6000 from ⟨by omega, by omega⟩) hT63 hE64 k65 k66 k67 k68 k69 k70 k71 k72 k73 ⟨_, rfl⟩
                  · have c82 : ¬ (x60 = (0 : Int)) := hc
                    clear hc
                    refine J.run0 5 rfl ?_
                    try dsimp only
                    refine J.inv rfl rfl rfl rfl rfl rfl jDr rfl rfl rfl rfl rfl (g_begins (n := n) (q := (H21.2.2.1 73 0 (n)) + (1 : Int)) (u := 16) hT63 k65 k66 k67 k68 k69 k70 k71 k72 k73 gU.triv (show 0 ≤ (n) ∧ (n) < 16 from ⟨by omega, by omega⟩) (show 0 ≤ ((H21.2.2.1 73 0 (n)) + (1 : Int)) ∧ ((H21.2.2.1 73 0 (n)) + (1 : Int)) < 32 from ⟨by omega, by omega⟩) (show H62.2.2.1 83 0 ((n)) ≤ 3 * ((H21.2.2.1 73 0 (n)) + (1 : Int)) from by omega) (show H62.2.2.1 80 0 ((n)) = 0 from by omega) (show (n) < (16) from by omega)) ?_
                    rintro v w H85 ⟨rfl, hT86, ehE87, k88, k89, k90, k91, k92, k93, k94, k95, k96, k97, p98, p99, rfl⟩
                    have hE87 := jEx.trans ehE87 hE64 (by decide) (by decide)
                    have p98' : 192 * H62.2.2.1 56 0 (H62.2.2.1 72 0 ((n))) + 6 * ((H21.2.2.1 73 0 (n)) + (1 : Int)) ≤ 192 * H85.2.2.1 56 0 (H85.2.2.1 72 0 ((n))) + 6 * H85.2.2.1 73 0 ((n)) + 2 * H85.2.2.1 74 0 ((n)) + H85.2.2.1 115 0 ((n)) := p98
                    have p99' : H62.1 11 19 0 ≤ H85.1 11 19 0 := p99
                    have g100 : H85.2.2.1 79 0 (n) = H62.2.2.1 79 0 (n) := congrFun (ehE87.r 79 (by decide)) _
                    try dsimp only [Option.toList, List.append, List.cons_append, List.nil_append]
                    exact (g_expire_l0 (H0 := H) (n := n)  hp0 ((0 : Int).toNat + 1)) (H21.1 11 19 0) H85 _ (show 0 < _ by omega) (show 0 ≤ n ∧ n < 16 from ⟨by omega, by omega⟩) (show 0 ≤ (H21.1 11 19 0) ∧ (H21.1 11 19 0) ≤ 6000 from ⟨by omega, by omega⟩) hT86 hE87 k88 k89 k90 k91 k92 k93 k94 k95 k96 ⟨_, rfl⟩
              · have c101 : ¬ (¬ (H21.2.2.1 74 0 (n) = (1 : Int))) := hc
                clear hc
                refine J.run0 5 rfl ?_
                try dsimp only
                refine J.inv rfl rfl rfl rfl rfl rfl jDr rfl rfl rfl rfl rfl (g_isMost (n := n) (kind := (1 : Int)) (r := H21.2.2.1 73 0 (n)) (b := (-2 : Int)) hT22  (show 0 ≤ (n) ∧ (n) < 16 from ⟨by omega, by omega⟩) (show -2147483648 ≤ ((1 : Int)) ∧ ((1 : Int)) ≤ 2147483647 from ⟨by omega, by omega⟩) (show -2147483648 ≤ (H21.2.2.1 73 0 (n)) ∧ (H21.2.2.1 73 0 (n)) ≤ 2147483647 from ⟨by omega, by omega⟩) (show -2147483648 ≤ ((-2 : Int)) ∧ ((-2 : Int)) ≤ 2147483647 from ⟨by omega, by omega⟩)) ?_
                rintro v w H104 ⟨rfl, hT105, ehE106, x102, rfl, r103⟩
                have hE106 := jEx.trans ehE106 hE23 (by decide) (by decide)
                have r103' : 0 ≤ x102 ∧ x102 ≤ 1 := r103
                have k107 : gP H104 := gP.ex k24 ehE106 (by decide)
                have k108 : gX H104 := gX.ex k25 ehE106 (by decide)
                have k109 : gL H104 := gL.ex k26 ehE106 (by decide)
                have k110 : gZ H104 := gZ.ex k27 ehE106 (by decide)
                have k111 : gQ H104 := gQ.ex k28 ehE106 (by decide)
                have k112 : gB H104 := gB.ex k29 ehE106 (by decide)
                have k113 : gK H104 := gK.ex k30 ehE106 (by decide)
                have k114 : gN H104 := gN.ex k31 ehE106 (by decide)
                have k115 : gW H104 (H104.1 11 19 0) := gWm.ex k32 ehE106 (by decide)
                have g116 : H104.1 11 12 0 = H21.1 11 12 0 := ehE106.v 12 (by decide)
                have g117 : H104.1 11 19 0 = H21.1 11 19 0 := ehE106.v 19 (by decide)
                have g118 : H104.2.2.1 83 0 (n) = H21.2.2.1 83 0 (n) := congrFun (ehE106.r 83 (by decide)) _
                have g119 : H104.2.2.1 73 0 (n) = H21.2.2.1 73 0 (n) := congrFun (ehE106.r 73 (by decide)) _
                have g120 : H104.2.2.1 74 0 (n) = H21.2.2.1 74 0 (n) := congrFun (ehE106.r 74 (by decide)) _
                have g121 : H104.2.2.1 79 0 (n) = H21.2.2.1 79 0 (n) := congrFun (ehE106.r 79 (by decide)) _
                have g122 : H104.2.2.1 80 0 (n) = H21.2.2.1 80 0 (n) := congrFun (ehE106.r 80 (by decide)) _
                try dsimp only [Option.toList, List.append, List.cons_append, List.nil_append]
                refine J.ifc rfl rfl rfl (show -2147483648 ≤ x102 ∧ x102 ≤ 2147483647 from ⟨by omega, by omega⟩) (fun hc => ?_) (fun hc => ?_)
                · have c123 : x102 = (0 : Int) := hc
                  clear hc
                  exact (g_expire_l0 (H0 := H) (n := n)  hp0 ((0 : Int).toNat + 1)) (H21.1 11 19 0) H104 _ (show 0 < _ by omega) (show 0 ≤ n ∧ n < 16 from ⟨by omega, by omega⟩) (show 0 ≤ (H21.1 11 19 0) ∧ (H21.1 11 19 0) ≤ 6000 from ⟨by omega, by omega⟩) hT105 hE106 k107 k108 k109 k110 k111 k112 k113 k114 k115 ⟨_, rfl⟩
                · have c124 : ¬ (x102 = (0 : Int)) := hc
                  clear hc
                  refine J.run 5 rfl (show 0 ≤ n ∧ n < 16 from ⟨by omega, by omega⟩) ?_
                  try dsimp only
                  refine J.gn fun H125 hH125 => ?_
                  have hT126 : gT H125 := by rw [hH125]; exact gT.upd hT105 (show 0 ≤ (2 : Int) ∧ (2 : Int) ≤ 2 from ⟨by omega, by omega⟩) (fun z => absurd z (by decide))
                  have hE127 : jEx [19, 12, 48, 56, 57, 47] [60, 56, 59, 58, 55, 57, 61, 99, 100, 77, 78, 82, 80, 114, 115, 81, 105, 71, 70, 72, 75, 76, 68, 67, 65, 63, 64, 66, 112, 113, 108, 110, 101, 102, 103, 104, 83, 73, 74, 84, 111, 89, 88, 93, 94, 86, 91, 92, 85, 87, 90] H125 H := by rw [hH125]; exact jEx.row hE106 (by decide)
                  have k128 : gP H125 := by rw [hH125]; exact k107
                  have k129 : gX H125 := by rw [hH125]; exact k108
                  have k130 : gL H125 := by rw [hH125]; exact k109
                  have k131 : gZ H125 := by rw [hH125]; exact k110
                  have k132 : gQ H125 := by rw [hH125]; exact k111
                  have k133 : gB H125 := by rw [hH125]; exact k112
                  have k134 : gK H125 := by rw [hH125]; exact k113
                  have k135 : gN H125 := by rw [hH125]; exact k114
                  have k136 : gW H125 (H125.1 11 19 0) := by rw [hH125]; exact gWm.step k115 (by omega)
                  have g137 : H125.2.2.1 74 0 (n) = (2 : Int) := by subst hH125; exact if_pos rfl
                  have g138 : H125.1 11 12 0 = H104.1 11 12 0 := by subst hH125; rfl
                  have g139 : H125.1 11 19 0 = H104.1 11 19 0 := by subst hH125; rfl
                  have g140 : H125.2.2.1 83 0 (n) = H104.2.2.1 83 0 (n) := by subst hH125; rfl
                  have g141 : H125.2.2.1 73 0 (n) = H104.2.2.1 73 0 (n) := by subst hH125; rfl
                  have g143 : H125.2.2.1 79 0 (n) = H104.2.2.1 79 0 (n) := by subst hH125; rfl
                  have g144 : H125.2.2.1 80 0 (n) = H104.2.2.1 80 0 (n) := by subst hH125; rfl
                  clear hH125
                  refine J.run0 6 rfl ?_
                  try dsimp only
                  have f145 : 1 ≤ H125.1 11 12 0 ∧ H125.1 11 12 0 ≤ 300 := hT126.2.1 12
                  refine J.inv rfl rfl rfl rfl rfl rfl jDr rfl rfl rfl rfl rfl (g_sent (n := n) (kind := (2 : Int)) (r := H21.2.2.1 73 0 (n)) (block := (-1 : Int)) (before := (-1 : Int)) (u := 16) hT126 k133 k134 k135 gU.triv (show 0 ≤ (n) ∧ (n) < 16 from ⟨by omega, by omega⟩) (show 0 ≤ ((2 : Int)) ∧ ((2 : Int)) ≤ 2 from ⟨by omega, by omega⟩) (show 0 ≤ (H21.2.2.1 73 0 (n)) ∧ (H21.2.2.1 73 0 (n)) < 32 from ⟨by omega, by omega⟩) (show -1 ≤ ((-1 : Int)) ∧ ((-1 : Int)) < 300 from ⟨by omega, by omega⟩) (show ((-1 : Int)) < H125.1 11 12 0 from by omega) (show -1 ≤ ((-1 : Int)) ∧ ((-1 : Int)) < 32 from ⟨by omega, by omega⟩) k136 (show H125.2.2.1 79 0 ((n)) = 0 → (H21.2.2.1 73 0 (n)) = H125.2.2.1 73 0 ((n)) from by omega) (show H125.2.2.1 79 0 ((n)) = 0 → H125.2.2.1 83 0 ((n)) ≤ 3 * H125.2.2.1 73 0 ((n)) + H125.2.2.1 74 0 ((n)) from by omega) (show H125.2.2.1 80 0 ((n)) = 0 from by omega) (show (n) < (16) from by omega)) ?_
                  rintro v w H148 ⟨rfl, hT149, ehE150, k151, k152, k153, k154, p155, p156, x146, rfl, r147⟩
                  have hE150 := jEx.trans ehE150 hE127 (by decide) (by decide)
                  have p155' : gW H148 (H148.1 11 19 0) := p155
                  have p156' : H125.1 11 19 0 ≤ H148.1 11 19 0 := p156
                  have r147' : (-1) ≤ x146 ∧ x146 ≤ 5999 := r147
                  have k157 : gP H148 := gP.ex k128 ehE150 (by decide)
                  have k158 : gX H148 := gX.ex k129 ehE150 (by decide)
                  have k159 : gL H148 := gL.ex k130 ehE150 (by decide)
                  have k160 : gZ H148 := gZ.ex k131 ehE150 (by decide)
                  have k161 : gQ H148 := gQ.ex k132 ehE150 (by decide)
                  have g162 : H148.1 11 12 0 = H125.1 11 12 0 := ehE150.v 12 (by decide)
                  have g163 : H148.2.2.1 74 0 (n) = H125.2.2.1 74 0 (n) := congrFun (ehE150.r 74 (by decide)) _
                  have g164 : H148.2.2.1 73 0 (n) = H125.2.2.1 73 0 (n) := congrFun (ehE150.r 73 (by decide)) _
                  have g165 : H148.2.2.1 79 0 (n) = H125.2.2.1 79 0 (n) := congrFun (ehE150.r 79 (by decide)) _
                  try dsimp only [Option.toList, List.append, List.cons_append, List.nil_append]
                  refine J.run0 2 rfl ?_
                  try dsimp only
                  exact (g_expire_l0 (H0 := H) (n := n)  hp0 ((0 : Int).toNat + 1)) (H21.1 11 19 0) H148 _ (show 0 < _ by omega) (show 0 ≤ n ∧ n < 16 from ⟨by omega, by omega⟩) (show 0 ≤ (H21.1 11 19 0) ∧ (H21.1 11 19 0) ≤ 6000 from ⟨by omega, by omega⟩) hT149 hE150 k157 k158 k159 k160 k161 k151 k152 k153 p155 ⟨_, rfl⟩
            · have c166 : ¬ (¬ (H21.2.2.1 74 0 (n) = (0 : Int))) := hc
              clear hc
              refine J.run 5 rfl (show 0 ≤ n ∧ n < 16 from ⟨by omega, by omega⟩) ?_
              try dsimp only
              refine J.gn fun H167 hH167 => ?_
              have hT168 : gT H167 := by rw [hH167]; exact gT.upd hT22 (show 0 ≤ (1 : Int) ∧ (1 : Int) ≤ 2 from ⟨by omega, by omega⟩) (fun z => absurd z (by decide))
              have hE169 : jEx [19, 12, 48, 56, 57, 47] [60, 56, 59, 58, 55, 57, 61, 99, 100, 77, 78, 82, 80, 114, 115, 81, 105, 71, 70, 72, 75, 76, 68, 67, 65, 63, 64, 66, 112, 113, 108, 110, 101, 102, 103, 104, 83, 73, 74, 84, 111, 89, 88, 93, 94, 86, 91, 92, 85, 87, 90] H167 H := by rw [hH167]; exact jEx.row hE23 (by decide)
              have k170 : gP H167 := by rw [hH167]; exact k24
              have k171 : gX H167 := by rw [hH167]; exact k25
              have k172 : gL H167 := by rw [hH167]; exact k26
              have k173 : gZ H167 := by rw [hH167]; exact k27
              have k174 : gQ H167 := by rw [hH167]; exact k28
              have k175 : gB H167 := by rw [hH167]; exact k29
              have k176 : gK H167 := by rw [hH167]; exact k30
              have k177 : gN H167 := by rw [hH167]; exact k31
              have k178 : gW H167 (H167.1 11 19 0) := by rw [hH167]; exact gWm.step k32 (by omega)
              have g179 : H167.2.2.1 74 0 (n) = (1 : Int) := by subst hH167; exact if_pos rfl
              have g180 : H167.1 11 12 0 = H21.1 11 12 0 := by subst hH167; rfl
              have g181 : H167.1 11 19 0 = H21.1 11 19 0 := by subst hH167; rfl
              have g182 : H167.2.2.1 83 0 (n) = H21.2.2.1 83 0 (n) := by subst hH167; rfl
              have g183 : H167.2.2.1 73 0 (n) = H21.2.2.1 73 0 (n) := by subst hH167; rfl
              have g185 : H167.2.2.1 79 0 (n) = H21.2.2.1 79 0 (n) := by subst hH167; rfl
              have g186 : H167.2.2.1 80 0 (n) = H21.2.2.1 80 0 (n) := by subst hH167; rfl
              clear hH167
              refine J.run0 6 rfl ?_
              try dsimp only
              have f187 : 1 ≤ H167.1 11 12 0 ∧ H167.1 11 12 0 ≤ 300 := hT168.2.1 12
              refine J.inv rfl rfl rfl rfl rfl rfl jDr rfl rfl rfl rfl rfl (g_sent (n := n) (kind := (1 : Int)) (r := H21.2.2.1 73 0 (n)) (block := (-1 : Int)) (before := (-1 : Int)) (u := 16) hT168 k175 k176 k177 gU.triv (show 0 ≤ (n) ∧ (n) < 16 from ⟨by omega, by omega⟩) (show 0 ≤ ((1 : Int)) ∧ ((1 : Int)) ≤ 2 from ⟨by omega, by omega⟩) (show 0 ≤ (H21.2.2.1 73 0 (n)) ∧ (H21.2.2.1 73 0 (n)) < 32 from ⟨by omega, by omega⟩) (show -1 ≤ ((-1 : Int)) ∧ ((-1 : Int)) < 300 from ⟨by omega, by omega⟩) (show ((-1 : Int)) < H167.1 11 12 0 from by omega) (show -1 ≤ ((-1 : Int)) ∧ ((-1 : Int)) < 32 from ⟨by omega, by omega⟩) k178 (show H167.2.2.1 79 0 ((n)) = 0 → (H21.2.2.1 73 0 (n)) = H167.2.2.1 73 0 ((n)) from by omega) (show H167.2.2.1 79 0 ((n)) = 0 → H167.2.2.1 83 0 ((n)) ≤ 3 * H167.2.2.1 73 0 ((n)) + H167.2.2.1 74 0 ((n)) from by omega) (show H167.2.2.1 80 0 ((n)) = 0 from by omega) (show (n) < (16) from by omega)) ?_
              rintro v w H190 ⟨rfl, hT191, ehE192, k193, k194, k195, k196, p197, p198, x188, rfl, r189⟩
              have hE192 := jEx.trans ehE192 hE169 (by decide) (by decide)
              have p197' : gW H190 (H190.1 11 19 0) := p197
              have p198' : H167.1 11 19 0 ≤ H190.1 11 19 0 := p198
              have r189' : (-1) ≤ x188 ∧ x188 ≤ 5999 := r189
              have k199 : gP H190 := gP.ex k170 ehE192 (by decide)
              have k200 : gX H190 := gX.ex k171 ehE192 (by decide)
              have k201 : gL H190 := gL.ex k172 ehE192 (by decide)
              have k202 : gZ H190 := gZ.ex k173 ehE192 (by decide)
              have k203 : gQ H190 := gQ.ex k174 ehE192 (by decide)
              have g204 : H190.1 11 12 0 = H167.1 11 12 0 := ehE192.v 12 (by decide)
              have g205 : H190.2.2.1 74 0 (n) = H167.2.2.1 74 0 (n) := congrFun (ehE192.r 74 (by decide)) _
              have g206 : H190.2.2.1 73 0 (n) = H167.2.2.1 73 0 (n) := congrFun (ehE192.r 73 (by decide)) _
              have g207 : H190.2.2.1 79 0 (n) = H167.2.2.1 79 0 (n) := congrFun (ehE192.r 79 (by decide)) _
              try dsimp only [Option.toList, List.append, List.cons_append, List.nil_append]
              refine J.run0 2 rfl ?_
              try dsimp only
              exact (g_expire_l0 (H0 := H) (n := n)  hp0 ((0 : Int).toNat + 1)) (H21.1 11 19 0) H190 _ (show 0 < _ by omega) (show 0 ≤ n ∧ n < 16 from ⟨by omega, by omega⟩) (show 0 ≤ (H21.1 11 19 0) ∧ (H21.1 11 19 0) ≤ 6000 from ⟨by omega, by omega⟩) hT191 hE192 k199 k200 k201 k202 k203 k193 k194 k195 p197 ⟨_, rfl⟩
          · have c208 : ¬ (x50 ≤ (120 : Int)) := hc
            clear hc
            refine J.run0 1 rfl ?_
            try dsimp only
            exact J.reti rfl rfl rfl ⟨_, rfl, rfl, hT22, hE23, k24, k25, k26, k27, k28, k29, k30, k31, k32, _, rfl, (show (-6000) ≤ ((0 : Int)) ∧ ((0 : Int)) ≤ 6000 from ⟨by omega, by omega⟩)⟩
  · have c209 : ¬ (x18 = (0 : Int)) := hc
    clear hc
    refine J.run0 3 rfl ?_
    try dsimp only
    refine J.gn fun H210 hH210 => ?_
    have hT211 : gT H210 := by rw [hH210]; exact gT.num (f := 47) hT (show 0 ≤ (0 : Int) ∧ (0 : Int) ≤ 3 from ⟨by omega, by omega⟩) (by decide) (fun z => absurd z (by decide))
    have hE212 : jEx [19, 12, 48, 56, 57, 47] [60, 56, 59, 58, 55, 57, 61, 99, 100, 77, 78, 82, 80, 114, 115, 81, 105, 71, 70, 72, 75, 76, 68, 67, 65, 63, 64, 66, 112, 113, 108, 110, 101, 102, 103, 104, 83, 73, 74, 84, 111, 89, 88, 93, 94, 86, 91, 92, 85, 87, 90] H210 H := by rw [hH210]; exact jEx.num hE (by decide)
    have k213 : gP H210 := by rw [hH210]; exact k0gP
    have k214 : gX H210 := by rw [hH210]; exact k0gX
    have k215 : gL H210 := by rw [hH210]; exact k0gL
    have k216 : gZ H210 := by rw [hH210]; exact k0gZ
    have k217 : gQ H210 := by rw [hH210]; exact k0gQ
    have k218 : gB H210 := by rw [hH210]; exact k0gB
    have k219 : gK H210 := by rw [hH210]; exact k0gK
    have k220 : gN H210 := by rw [hH210]; exact k0gN
    have k221 : gW H210 (H210.1 11 19 0) := by rw [hH210]; exact k0gW
    have g222 : H210.1 11 47 0 = (0 : Int) := by subst hH210; rfl
    have g223 : H210.1 11 12 0 = H.1 11 12 0 := by subst hH210; rfl
    have g224 : H210.1 11 19 0 = H.1 11 19 0 := by subst hH210; rfl
    have g225 : H210.2.2.1 83 0 (n) = H.2.2.1 83 0 (n) := by subst hH210; rfl
    have g226 : H210.2.2.1 73 0 (n) = H.2.2.1 73 0 (n) := by subst hH210; rfl
    have g227 : H210.2.2.1 74 0 (n) = H.2.2.1 74 0 (n) := by subst hH210; rfl
    have g228 : H210.2.2.1 79 0 (n) = H.2.2.1 79 0 (n) := by subst hH210; rfl
    have g229 : H210.2.2.1 80 0 (n) = H.2.2.1 80 0 (n) := by subst hH210; rfl
    clear hH210
    have f230 : 0 ≤ H210.1 11 47 0 ∧ H210.1 11 47 0 ≤ 3 := hT211.2.1 47
    refine J.run0 2 rfl ?_
    try dsimp only
    refine J.ifc rfl rfl rfl (show -2147483648 ≤ H210.1 11 47 0 ∧ H210.1 11 47 0 ≤ 2147483647 from ⟨by omega, by omega⟩) (fun hc => ?_) (fun hc => ?_)
    · have c231 : (0 : Int) < H210.1 11 47 0 := hc
      clear hc
      refine J.run0 1 rfl ?_
      try dsimp only
      exact J.reti rfl rfl rfl ⟨_, rfl, rfl, hT211, hE212, k213, k214, k215, k216, k217, k218, k219, k220, k221, _, rfl, (show (-6000) ≤ ((0 : Int)) ∧ ((0 : Int)) ≤ 6000 from ⟨by omega, by omega⟩)⟩
    · have c232 : ¬ ((0 : Int) < H210.1 11 47 0) := hc
      clear hc
      have f233 : 0 ≤ H210.2.2.1 79 0 (n) ∧ H210.2.2.1 79 0 (n) ≤ 1 := hT211.1 79 (n)
      refine J.run 4 rfl (show 0 ≤ n ∧ n < 16 from ⟨by omega, by omega⟩) ?_
      try dsimp only
      refine J.ifc rfl rfl rfl (show -2147483648 ≤ H210.2.2.1 79 0 (n) ∧ H210.2.2.1 79 0 (n) ≤ 2147483647 from ⟨by omega, by omega⟩) (fun hc => ?_) (fun hc => ?_)
      · have c234 : ¬ (H210.2.2.1 79 0 (n) = (0 : Int)) := hc
        clear hc
        refine J.run0 1 rfl ?_
        try dsimp only
        exact J.reti rfl rfl rfl ⟨_, rfl, rfl, hT211, hE212, k213, k214, k215, k216, k217, k218, k219, k220, k221, _, rfl, (show (-6000) ≤ ((0 : Int)) ∧ ((0 : Int)) ≤ 6000 from ⟨by omega, by omega⟩)⟩
      · have c235 : ¬ (¬ (H210.2.2.1 79 0 (n) = (0 : Int))) := hc
        clear hc
        have f236 : 0 ≤ H210.2.2.1 80 0 (n) ∧ H210.2.2.1 80 0 (n) ≤ 1 := hT211.1 80 (n)
        refine J.run 4 rfl (show 0 ≤ n ∧ n < 16 from ⟨by omega, by omega⟩) ?_
        try dsimp only
        refine J.ifc rfl rfl rfl (show -2147483648 ≤ H210.2.2.1 80 0 (n) ∧ H210.2.2.1 80 0 (n) ≤ 2147483647 from ⟨by omega, by omega⟩) (fun hc => ?_) (fun hc => ?_)
        · have c237 : ¬ (H210.2.2.1 80 0 (n) = (0 : Int)) := hc
          clear hc
          refine J.run0 1 rfl ?_
          try dsimp only
          exact J.reti rfl rfl rfl ⟨_, rfl, rfl, hT211, hE212, k213, k214, k215, k216, k217, k218, k219, k220, k221, _, rfl, (show (-6000) ≤ ((0 : Int)) ∧ ((0 : Int)) ≤ 6000 from ⟨by omega, by omega⟩)⟩
        · have c238 : ¬ (¬ (H210.2.2.1 80 0 (n) = (0 : Int))) := hc
          clear hc
          refine J.run0 2 rfl ?_
          try dsimp only
          refine J.inv rfl rfl rfl rfl rfl rfl jDr rfl rfl rfl rfl rfl (g_heightE (n := n) hT211  (show 0 ≤ (n) ∧ (n) < 16 from ⟨by omega, by omega⟩)) ?_
          rintro v w H210 ⟨rfl, rfl, x239, rfl, r240⟩
          have r240' : x239 = H210.2.2.1 56 0 (H210.2.2.1 72 0 ((n))) + 1 ∧ 1 ≤ x239 ∧ x239 ≤ 301 := r240
          try dsimp only [Option.toList, List.append, List.cons_append, List.nil_append]
          refine J.run0 1 rfl ?_
          try dsimp only
          refine J.icmp rfl rfl rfl ⟨(show -2147483648 ≤ x239 ∧ x239 ≤ 2147483647 from ⟨by omega, by omega⟩), (show -2147483648 ≤ (120 : Int) ∧ (120 : Int) ≤ 2147483647 from ⟨by omega, by omega⟩)⟩ (fun hc => ?_) (fun hc => ?_)
          · have c241 : x239 ≤ (120 : Int) := hc
            clear hc
            have qw : H210.2.2.1 83 0 (n) ≤ 3 * H210.2.2.1 73 0 (n) + H210.2.2.1 74 0 (n) + 1 := (k221 n (by omega) (by omega)).1
            have f242 : 0 ≤ H210.1 11 19 0 ∧ H210.1 11 19 0 ≤ 6000 := hT211.2.1 19
            have f243 : 0 ≤ H210.2.2.1 73 0 (n) ∧ H210.2.2.1 73 0 (n) ≤ 31 := hT211.1 73 (n)
            have f244 : 0 ≤ H210.2.2.1 74 0 (n) ∧ H210.2.2.1 74 0 (n) ≤ 2 := hT211.1 74 (n)
            refine J.run 12 rfl ⟨(show 0 ≤ n ∧ n < 16 from ⟨by omega, by omega⟩), (show 0 ≤ n ∧ n < 16 from ⟨by omega, by omega⟩)⟩ ?_
            try dsimp only
            refine J.ifc rfl rfl rfl (show -2147483648 ≤ H210.2.2.1 74 0 (n) ∧ H210.2.2.1 74 0 (n) ≤ 2147483647 from ⟨by omega, by omega⟩) (fun hc => ?_) (fun hc => ?_)
            · have c245 : ¬ (H210.2.2.1 74 0 (n) = (0 : Int)) := hc
              clear hc
              refine J.run 5 rfl (show 0 ≤ n ∧ n < 16 from ⟨by omega, by omega⟩) ?_
              try dsimp only
              refine J.icmp rfl rfl rfl ⟨(show -2147483648 ≤ H210.2.2.1 74 0 (n) ∧ H210.2.2.1 74 0 (n) ≤ 2147483647 from ⟨by omega, by omega⟩), (show -2147483648 ≤ (1 : Int) ∧ (1 : Int) ≤ 2147483647 from ⟨by omega, by omega⟩)⟩ (fun hc => ?_) (fun hc => ?_)
              · have c246 : ¬ (H210.2.2.1 74 0 (n) = (1 : Int)) := hc
                clear hc
                refine J.run0 2 rfl ?_
                try dsimp only
                refine J.icmp rfl rfl rfl ⟨(show -2147483648 ≤ H210.2.2.1 73 0 (n) ∧ H210.2.2.1 73 0 (n) ≤ 2147483647 from ⟨by omega, by omega⟩), (show -2147483648 ≤ (31 : Int) ∧ (31 : Int) ≤ 2147483647 from ⟨by omega, by omega⟩)⟩ (fun hc => ?_) (fun hc => ?_)
                · have c247 : (31 : Int) ≤ H210.2.2.1 73 0 (n) := hc
                  clear hc
                  exact (g_expire_l0 (H0 := H) (n := n)  hp0 ((0 : Int).toNat + 1)) (H210.1 11 19 0) H210 _ (show 0 < _ by omega) (show 0 ≤ n ∧ n < 16 from ⟨by omega, by omega⟩) (show 0 ≤ (H210.1 11 19 0) ∧ (H210.1 11 19 0) ≤ 6000 from ⟨by omega, by omega⟩) hT211 hE212 k213 k214 k215 k216 k217 k218 k219 k220 k221 ⟨_, rfl⟩
                · have c248 : ¬ ((31 : Int) ≤ H210.2.2.1 73 0 (n)) := hc
                  clear hc
                  refine J.run0 5 rfl ?_
                  try dsimp only
                  refine J.inv rfl rfl rfl rfl rfl rfl jDr rfl rfl rfl rfl rfl (g_isMost (n := n) (kind := (2 : Int)) (r := H210.2.2.1 73 0 (n)) (b := (-2 : Int)) hT211  (show 0 ≤ (n) ∧ (n) < 16 from ⟨by omega, by omega⟩) (show -2147483648 ≤ ((2 : Int)) ∧ ((2 : Int)) ≤ 2147483647 from ⟨by omega, by omega⟩) (show -2147483648 ≤ (H210.2.2.1 73 0 (n)) ∧ (H210.2.2.1 73 0 (n)) ≤ 2147483647 from ⟨by omega, by omega⟩) (show -2147483648 ≤ ((-2 : Int)) ∧ ((-2 : Int)) ≤ 2147483647 from ⟨by omega, by omega⟩)) ?_
                  rintro v w H251 ⟨rfl, hT252, ehE253, x249, rfl, r250⟩
                  have hE253 := jEx.trans ehE253 hE212 (by decide) (by decide)
                  have r250' : 0 ≤ x249 ∧ x249 ≤ 1 := r250
                  have k254 : gP H251 := gP.ex k213 ehE253 (by decide)
                  have k255 : gX H251 := gX.ex k214 ehE253 (by decide)
                  have k256 : gL H251 := gL.ex k215 ehE253 (by decide)
                  have k257 : gZ H251 := gZ.ex k216 ehE253 (by decide)
                  have k258 : gQ H251 := gQ.ex k217 ehE253 (by decide)
                  have k259 : gB H251 := gB.ex k218 ehE253 (by decide)
                  have k260 : gK H251 := gK.ex k219 ehE253 (by decide)
                  have k261 : gN H251 := gN.ex k220 ehE253 (by decide)
                  have k262 : gW H251 (H251.1 11 19 0) := gWm.ex k221 ehE253 (by decide)
                  have g263 : H251.1 11 12 0 = H210.1 11 12 0 := ehE253.v 12 (by decide)
                  have g264 : H251.1 11 19 0 = H210.1 11 19 0 := ehE253.v 19 (by decide)
                  have g265 : H251.2.2.1 83 0 (n) = H210.2.2.1 83 0 (n) := congrFun (ehE253.r 83 (by decide)) _
                  have g266 : H251.2.2.1 73 0 (n) = H210.2.2.1 73 0 (n) := congrFun (ehE253.r 73 (by decide)) _
                  have g267 : H251.2.2.1 74 0 (n) = H210.2.2.1 74 0 (n) := congrFun (ehE253.r 74 (by decide)) _
                  have g268 : H251.2.2.1 79 0 (n) = H210.2.2.1 79 0 (n) := congrFun (ehE253.r 79 (by decide)) _
                  have g269 : H251.2.2.1 80 0 (n) = H210.2.2.1 80 0 (n) := congrFun (ehE253.r 80 (by decide)) _
                  try dsimp only [Option.toList, List.append, List.cons_append, List.nil_append]
                  refine J.ifc rfl rfl rfl (show -2147483648 ≤ x249 ∧ x249 ≤ 2147483647 from ⟨by omega, by omega⟩) (fun hc => ?_) (fun hc => ?_)
                  · have c270 : x249 = (0 : Int) := hc
                    clear hc
                    exact (g_expire_l0 (H0 := H) (n := n)  hp0 ((0 : Int).toNat + 1)) (H210.1 11 19 0) H251 _ (show 0 < _ by omega) (show 0 ≤ n ∧ n < 16 from ⟨by omega, by omega⟩) (show 0 ≤ (H210.1 11 19 0) ∧ (H210.1 11 19 0) ≤ 6000 from ⟨by omega, by omega⟩) hT252 hE253 k254 k255 k256 k257 k258 k259 k260 k261 k262 ⟨_, rfl⟩
                  · have c271 : ¬ (x249 = (0 : Int)) := hc
                    clear hc
                    refine J.run0 5 rfl ?_
                    try dsimp only
                    refine J.inv rfl rfl rfl rfl rfl rfl jDr rfl rfl rfl rfl rfl (g_begins (n := n) (q := (H210.2.2.1 73 0 (n)) + (1 : Int)) (u := 16) hT252 k254 k255 k256 k257 k258 k259 k260 k261 k262 gU.triv (show 0 ≤ (n) ∧ (n) < 16 from ⟨by omega, by omega⟩) (show 0 ≤ ((H210.2.2.1 73 0 (n)) + (1 : Int)) ∧ ((H210.2.2.1 73 0 (n)) + (1 : Int)) < 32 from ⟨by omega, by omega⟩) (show H251.2.2.1 83 0 ((n)) ≤ 3 * ((H210.2.2.1 73 0 (n)) + (1 : Int)) from by omega) (show H251.2.2.1 80 0 ((n)) = 0 from by omega) (show (n) < (16) from by omega)) ?_
                    rintro v w H274 ⟨rfl, hT275, ehE276, k277, k278, k279, k280, k281, k282, k283, k284, k285, k286, p287, p288, rfl⟩
                    have hE276 := jEx.trans ehE276 hE253 (by decide) (by decide)
                    have p287' : 192 * H251.2.2.1 56 0 (H251.2.2.1 72 0 ((n))) + 6 * ((H210.2.2.1 73 0 (n)) + (1 : Int)) ≤ 192 * H274.2.2.1 56 0 (H274.2.2.1 72 0 ((n))) + 6 * H274.2.2.1 73 0 ((n)) + 2 * H274.2.2.1 74 0 ((n)) + H274.2.2.1 115 0 ((n)) := p287
                    have p288' : H251.1 11 19 0 ≤ H274.1 11 19 0 := p288
                    have g289 : H274.2.2.1 79 0 (n) = H251.2.2.1 79 0 (n) := congrFun (ehE276.r 79 (by decide)) _
                    try dsimp only [Option.toList, List.append, List.cons_append, List.nil_append]
                    exact (g_expire_l0 (H0 := H) (n := n)  hp0 ((0 : Int).toNat + 1)) (H210.1 11 19 0) H274 _ (show 0 < _ by omega) (show 0 ≤ n ∧ n < 16 from ⟨by omega, by omega⟩) (show 0 ≤ (H210.1 11 19 0) ∧ (H210.1 11 19 0) ≤ 6000 from ⟨by omega, by omega⟩) hT275 hE276 k277 k278 k279 k280 k281 k282 k283 k284 k285 ⟨_, rfl⟩
              · have c290 : ¬ (¬ (H210.2.2.1 74 0 (n) = (1 : Int))) := hc
                clear hc
                refine J.run0 5 rfl ?_
                try dsimp only
                refine J.inv rfl rfl rfl rfl rfl rfl jDr rfl rfl rfl rfl rfl (g_isMost (n := n) (kind := (1 : Int)) (r := H210.2.2.1 73 0 (n)) (b := (-2 : Int)) hT211  (show 0 ≤ (n) ∧ (n) < 16 from ⟨by omega, by omega⟩) (show -2147483648 ≤ ((1 : Int)) ∧ ((1 : Int)) ≤ 2147483647 from ⟨by omega, by omega⟩) (show -2147483648 ≤ (H210.2.2.1 73 0 (n)) ∧ (H210.2.2.1 73 0 (n)) ≤ 2147483647 from ⟨by omega, by omega⟩) (show -2147483648 ≤ ((-2 : Int)) ∧ ((-2 : Int)) ≤ 2147483647 from ⟨by omega, by omega⟩)) ?_
                rintro v w H293 ⟨rfl, hT294, ehE295, x291, rfl, r292⟩
                have hE295 := jEx.trans ehE295 hE212 (by decide) (by decide)
                have r292' : 0 ≤ x291 ∧ x291 ≤ 1 := r292
                have k296 : gP H293 := gP.ex k213 ehE295 (by decide)
                have k297 : gX H293 := gX.ex k214 ehE295 (by decide)
                have k298 : gL H293 := gL.ex k215 ehE295 (by decide)
                have k299 : gZ H293 := gZ.ex k216 ehE295 (by decide)
                have k300 : gQ H293 := gQ.ex k217 ehE295 (by decide)
                have k301 : gB H293 := gB.ex k218 ehE295 (by decide)
                have k302 : gK H293 := gK.ex k219 ehE295 (by decide)
                have k303 : gN H293 := gN.ex k220 ehE295 (by decide)
                have k304 : gW H293 (H293.1 11 19 0) := gWm.ex k221 ehE295 (by decide)
                have g305 : H293.1 11 12 0 = H210.1 11 12 0 := ehE295.v 12 (by decide)
                have g306 : H293.1 11 19 0 = H210.1 11 19 0 := ehE295.v 19 (by decide)
                have g307 : H293.2.2.1 83 0 (n) = H210.2.2.1 83 0 (n) := congrFun (ehE295.r 83 (by decide)) _
                have g308 : H293.2.2.1 73 0 (n) = H210.2.2.1 73 0 (n) := congrFun (ehE295.r 73 (by decide)) _
                have g309 : H293.2.2.1 74 0 (n) = H210.2.2.1 74 0 (n) := congrFun (ehE295.r 74 (by decide)) _
                have g310 : H293.2.2.1 79 0 (n) = H210.2.2.1 79 0 (n) := congrFun (ehE295.r 79 (by decide)) _
                have g311 : H293.2.2.1 80 0 (n) = H210.2.2.1 80 0 (n) := congrFun (ehE295.r 80 (by decide)) _
                try dsimp only [Option.toList, List.append, List.cons_append, List.nil_append]
                refine J.ifc rfl rfl rfl (show -2147483648 ≤ x291 ∧ x291 ≤ 2147483647 from ⟨by omega, by omega⟩) (fun hc => ?_) (fun hc => ?_)
                · have c312 : x291 = (0 : Int) := hc
                  clear hc
                  exact (g_expire_l0 (H0 := H) (n := n)  hp0 ((0 : Int).toNat + 1)) (H210.1 11 19 0) H293 _ (show 0 < _ by omega) (show 0 ≤ n ∧ n < 16 from ⟨by omega, by omega⟩) (show 0 ≤ (H210.1 11 19 0) ∧ (H210.1 11 19 0) ≤ 6000 from ⟨by omega, by omega⟩) hT294 hE295 k296 k297 k298 k299 k300 k301 k302 k303 k304 ⟨_, rfl⟩
                · have c313 : ¬ (x291 = (0 : Int)) := hc
                  clear hc
                  refine J.run 5 rfl (show 0 ≤ n ∧ n < 16 from ⟨by omega, by omega⟩) ?_
                  try dsimp only
                  refine J.gn fun H314 hH314 => ?_
                  have hT315 : gT H314 := by rw [hH314]; exact gT.upd hT294 (show 0 ≤ (2 : Int) ∧ (2 : Int) ≤ 2 from ⟨by omega, by omega⟩) (fun z => absurd z (by decide))
                  have hE316 : jEx [19, 12, 48, 56, 57, 47] [60, 56, 59, 58, 55, 57, 61, 99, 100, 77, 78, 82, 80, 114, 115, 81, 105, 71, 70, 72, 75, 76, 68, 67, 65, 63, 64, 66, 112, 113, 108, 110, 101, 102, 103, 104, 83, 73, 74, 84, 111, 89, 88, 93, 94, 86, 91, 92, 85, 87, 90] H314 H := by rw [hH314]; exact jEx.row hE295 (by decide)
                  have k317 : gP H314 := by rw [hH314]; exact k296
                  have k318 : gX H314 := by rw [hH314]; exact k297
                  have k319 : gL H314 := by rw [hH314]; exact k298
                  have k320 : gZ H314 := by rw [hH314]; exact k299
                  have k321 : gQ H314 := by rw [hH314]; exact k300
                  have k322 : gB H314 := by rw [hH314]; exact k301
                  have k323 : gK H314 := by rw [hH314]; exact k302
                  have k324 : gN H314 := by rw [hH314]; exact k303
                  have k325 : gW H314 (H314.1 11 19 0) := by rw [hH314]; exact gWm.step k304 (by omega)
                  have g326 : H314.2.2.1 74 0 (n) = (2 : Int) := by subst hH314; exact if_pos rfl
                  have g327 : H314.1 11 12 0 = H293.1 11 12 0 := by subst hH314; rfl
                  have g328 : H314.1 11 19 0 = H293.1 11 19 0 := by subst hH314; rfl
                  have g329 : H314.2.2.1 83 0 (n) = H293.2.2.1 83 0 (n) := by subst hH314; rfl
                  have g330 : H314.2.2.1 73 0 (n) = H293.2.2.1 73 0 (n) := by subst hH314; rfl
                  have g332 : H314.2.2.1 79 0 (n) = H293.2.2.1 79 0 (n) := by subst hH314; rfl
                  have g333 : H314.2.2.1 80 0 (n) = H293.2.2.1 80 0 (n) := by subst hH314; rfl
                  clear hH314
                  refine J.run0 6 rfl ?_
                  try dsimp only
                  have f334 : 1 ≤ H314.1 11 12 0 ∧ H314.1 11 12 0 ≤ 300 := hT315.2.1 12
                  refine J.inv rfl rfl rfl rfl rfl rfl jDr rfl rfl rfl rfl rfl (g_sent (n := n) (kind := (2 : Int)) (r := H210.2.2.1 73 0 (n)) (block := (-1 : Int)) (before := (-1 : Int)) (u := 16) hT315 k322 k323 k324 gU.triv (show 0 ≤ (n) ∧ (n) < 16 from ⟨by omega, by omega⟩) (show 0 ≤ ((2 : Int)) ∧ ((2 : Int)) ≤ 2 from ⟨by omega, by omega⟩) (show 0 ≤ (H210.2.2.1 73 0 (n)) ∧ (H210.2.2.1 73 0 (n)) < 32 from ⟨by omega, by omega⟩) (show -1 ≤ ((-1 : Int)) ∧ ((-1 : Int)) < 300 from ⟨by omega, by omega⟩) (show ((-1 : Int)) < H314.1 11 12 0 from by omega) (show -1 ≤ ((-1 : Int)) ∧ ((-1 : Int)) < 32 from ⟨by omega, by omega⟩) k325 (show H314.2.2.1 79 0 ((n)) = 0 → (H210.2.2.1 73 0 (n)) = H314.2.2.1 73 0 ((n)) from by omega) (show H314.2.2.1 79 0 ((n)) = 0 → H314.2.2.1 83 0 ((n)) ≤ 3 * H314.2.2.1 73 0 ((n)) + H314.2.2.1 74 0 ((n)) from by omega) (show H314.2.2.1 80 0 ((n)) = 0 from by omega) (show (n) < (16) from by omega)) ?_
                  rintro v w H337 ⟨rfl, hT338, ehE339, k340, k341, k342, k343, p344, p345, x335, rfl, r336⟩
                  have hE339 := jEx.trans ehE339 hE316 (by decide) (by decide)
                  have p344' : gW H337 (H337.1 11 19 0) := p344
                  have p345' : H314.1 11 19 0 ≤ H337.1 11 19 0 := p345
                  have r336' : (-1) ≤ x335 ∧ x335 ≤ 5999 := r336
                  have k346 : gP H337 := gP.ex k317 ehE339 (by decide)
                  have k347 : gX H337 := gX.ex k318 ehE339 (by decide)
                  have k348 : gL H337 := gL.ex k319 ehE339 (by decide)
                  have k349 : gZ H337 := gZ.ex k320 ehE339 (by decide)
                  have k350 : gQ H337 := gQ.ex k321 ehE339 (by decide)
                  have g351 : H337.1 11 12 0 = H314.1 11 12 0 := ehE339.v 12 (by decide)
                  have g352 : H337.2.2.1 74 0 (n) = H314.2.2.1 74 0 (n) := congrFun (ehE339.r 74 (by decide)) _
                  have g353 : H337.2.2.1 73 0 (n) = H314.2.2.1 73 0 (n) := congrFun (ehE339.r 73 (by decide)) _
                  have g354 : H337.2.2.1 79 0 (n) = H314.2.2.1 79 0 (n) := congrFun (ehE339.r 79 (by decide)) _
                  try dsimp only [Option.toList, List.append, List.cons_append, List.nil_append]
                  refine J.run0 2 rfl ?_
                  try dsimp only
                  exact (g_expire_l0 (H0 := H) (n := n)  hp0 ((0 : Int).toNat + 1)) (H210.1 11 19 0) H337 _ (show 0 < _ by omega) (show 0 ≤ n ∧ n < 16 from ⟨by omega, by omega⟩) (show 0 ≤ (H210.1 11 19 0) ∧ (H210.1 11 19 0) ≤ 6000 from ⟨by omega, by omega⟩) hT338 hE339 k346 k347 k348 k349 k350 k340 k341 k342 p344 ⟨_, rfl⟩
            · have c355 : ¬ (¬ (H210.2.2.1 74 0 (n) = (0 : Int))) := hc
              clear hc
              refine J.run 5 rfl (show 0 ≤ n ∧ n < 16 from ⟨by omega, by omega⟩) ?_
              try dsimp only
              refine J.gn fun H356 hH356 => ?_
              have hT357 : gT H356 := by rw [hH356]; exact gT.upd hT211 (show 0 ≤ (1 : Int) ∧ (1 : Int) ≤ 2 from ⟨by omega, by omega⟩) (fun z => absurd z (by decide))
              have hE358 : jEx [19, 12, 48, 56, 57, 47] [60, 56, 59, 58, 55, 57, 61, 99, 100, 77, 78, 82, 80, 114, 115, 81, 105, 71, 70, 72, 75, 76, 68, 67, 65, 63, 64, 66, 112, 113, 108, 110, 101, 102, 103, 104, 83, 73, 74, 84, 111, 89, 88, 93, 94, 86, 91, 92, 85, 87, 90] H356 H := by rw [hH356]; exact jEx.row hE212 (by decide)
              have k359 : gP H356 := by rw [hH356]; exact k213
              have k360 : gX H356 := by rw [hH356]; exact k214
              have k361 : gL H356 := by rw [hH356]; exact k215
              have k362 : gZ H356 := by rw [hH356]; exact k216
              have k363 : gQ H356 := by rw [hH356]; exact k217
              have k364 : gB H356 := by rw [hH356]; exact k218
              have k365 : gK H356 := by rw [hH356]; exact k219
              have k366 : gN H356 := by rw [hH356]; exact k220
              have k367 : gW H356 (H356.1 11 19 0) := by rw [hH356]; exact gWm.step k221 (by omega)
              have g368 : H356.2.2.1 74 0 (n) = (1 : Int) := by subst hH356; exact if_pos rfl
              have g369 : H356.1 11 12 0 = H210.1 11 12 0 := by subst hH356; rfl
              have g370 : H356.1 11 19 0 = H210.1 11 19 0 := by subst hH356; rfl
              have g371 : H356.2.2.1 83 0 (n) = H210.2.2.1 83 0 (n) := by subst hH356; rfl
              have g372 : H356.2.2.1 73 0 (n) = H210.2.2.1 73 0 (n) := by subst hH356; rfl
              have g374 : H356.2.2.1 79 0 (n) = H210.2.2.1 79 0 (n) := by subst hH356; rfl
              have g375 : H356.2.2.1 80 0 (n) = H210.2.2.1 80 0 (n) := by subst hH356; rfl
              clear hH356
              refine J.run0 6 rfl ?_
              try dsimp only
              have f376 : 1 ≤ H356.1 11 12 0 ∧ H356.1 11 12 0 ≤ 300 := hT357.2.1 12
              refine J.inv rfl rfl rfl rfl rfl rfl jDr rfl rfl rfl rfl rfl (g_sent (n := n) (kind := (1 : Int)) (r := H210.2.2.1 73 0 (n)) (block := (-1 : Int)) (before := (-1 : Int)) (u := 16) hT357 k364 k365 k366 gU.triv (show 0 ≤ (n) ∧ (n) < 16 from ⟨by omega, by omega⟩) (show 0 ≤ ((1 : Int)) ∧ ((1 : Int)) ≤ 2 from ⟨by omega, by omega⟩) (show 0 ≤ (H210.2.2.1 73 0 (n)) ∧ (H210.2.2.1 73 0 (n)) < 32 from ⟨by omega, by omega⟩) (show -1 ≤ ((-1 : Int)) ∧ ((-1 : Int)) < 300 from ⟨by omega, by omega⟩) (show ((-1 : Int)) < H356.1 11 12 0 from by omega) (show -1 ≤ ((-1 : Int)) ∧ ((-1 : Int)) < 32 from ⟨by omega, by omega⟩) k367 (show H356.2.2.1 79 0 ((n)) = 0 → (H210.2.2.1 73 0 (n)) = H356.2.2.1 73 0 ((n)) from by omega) (show H356.2.2.1 79 0 ((n)) = 0 → H356.2.2.1 83 0 ((n)) ≤ 3 * H356.2.2.1 73 0 ((n)) + H356.2.2.1 74 0 ((n)) from by omega) (show H356.2.2.1 80 0 ((n)) = 0 from by omega) (show (n) < (16) from by omega)) ?_
              rintro v w H379 ⟨rfl, hT380, ehE381, k382, k383, k384, k385, p386, p387, x377, rfl, r378⟩
              have hE381 := jEx.trans ehE381 hE358 (by decide) (by decide)
              have p386' : gW H379 (H379.1 11 19 0) := p386
              have p387' : H356.1 11 19 0 ≤ H379.1 11 19 0 := p387
              have r378' : (-1) ≤ x377 ∧ x377 ≤ 5999 := r378
              have k388 : gP H379 := gP.ex k359 ehE381 (by decide)
              have k389 : gX H379 := gX.ex k360 ehE381 (by decide)
              have k390 : gL H379 := gL.ex k361 ehE381 (by decide)
              have k391 : gZ H379 := gZ.ex k362 ehE381 (by decide)
              have k392 : gQ H379 := gQ.ex k363 ehE381 (by decide)
              have g393 : H379.1 11 12 0 = H356.1 11 12 0 := ehE381.v 12 (by decide)
              have g394 : H379.2.2.1 74 0 (n) = H356.2.2.1 74 0 (n) := congrFun (ehE381.r 74 (by decide)) _
              have g395 : H379.2.2.1 73 0 (n) = H356.2.2.1 73 0 (n) := congrFun (ehE381.r 73 (by decide)) _
              have g396 : H379.2.2.1 79 0 (n) = H356.2.2.1 79 0 (n) := congrFun (ehE381.r 79 (by decide)) _
              try dsimp only [Option.toList, List.append, List.cons_append, List.nil_append]
              refine J.run0 2 rfl ?_
              try dsimp only
              exact (g_expire_l0 (H0 := H) (n := n)  hp0 ((0 : Int).toNat + 1)) (H210.1 11 19 0) H379 _ (show 0 < _ by omega) (show 0 ≤ n ∧ n < 16 from ⟨by omega, by omega⟩) (show 0 ≤ (H210.1 11 19 0) ∧ (H210.1 11 19 0) ≤ 6000 from ⟨by omega, by omega⟩) hT380 hE381 k388 k389 k390 k391 k392 k382 k383 k384 p386 ⟨_, rfl⟩
          · have c397 : ¬ (x239 ≤ (120 : Int)) := hc
            clear hc
            refine J.run0 1 rfl ?_
            try dsimp only
            exact J.reti rfl rfl rfl ⟨_, rfl, rfl, hT211, hE212, k213, k214, k215, k216, k217, k218, k219, k220, k221, _, rfl, (show (-6000) ≤ ((0 : Int)) ∧ ((0 : Int)) ≤ 6000 from ⟨by omega, by omega⟩)⟩
end
