-- M: X11_isEnough
section
variable {d : Nat} {w : jW} 
-- 
theorem g_isEnough_l0 {b both : Int} {H0 : jH} (hp0 : 0 ≤ b ∧ b < 300) (hp1 : b < H0.1 11 12 0) (hp2 : 0 ≤ both ∧ both ≤ 1) : ∀ (m : Nat), (∀ (r : Int) (H : jH) (lv : jL), 32 - r < (m : Int) → (0 ≤ r ∧ r ≤ 32) → (b < H.1 11 12 0) → gT H → jEx [48, 56, 57] [108, 99, 100, 101, 105, 102, 103, 104, 61, 81] H H0 → gP H → gX H → gL H → gZ H → gQ H → gB H → gK H → gN H → gW H (H.1 11 19 0) → (lv = [(3, .inl r), (0, jT), (1, .inl b), (2, .inl both)]) → J true (d + 304) 165 w (2, lv, [], H) (jN fun v w' H' => w' = w ∧ gT H' ∧ jEx [48, 56, 57] [108, 99, 100, 101, 105, 102, 103, 104, 61, 81] H' H0 ∧ gP H' ∧ gX H' ∧ gL H' ∧ gZ H' ∧ gQ H' ∧ gB H' ∧ gK H' ∧ gN H' ∧ gW H' (H'.1 11 19 0) ∧ ∃ x, v = some (.inl x) ∧ 0 ≤ x ∧ x ≤ 1)) := by
  intro m
  induction m with
  | zero =>
    skip
    · intro r H lv hm hi0 hi1 hT hE k0gP k0gX k0gL k0gZ k0gQ k0gB k0gK k0gN k0gW hlv
      exfalso
      omega
  | succ m ih =>
    skip
    · intro r H lv hm hi0 hi1 hT hE k0gP k0gX k0gL k0gZ k0gQ k0gB k0gK k0gN k0gW hlv
      rcases hlv with rfl
      refine J.run0 2 rfl ?_
      try dsimp only
      refine J.icmp rfl rfl rfl ⟨(show -2147483648 ≤ r ∧ r ≤ 2147483647 from ⟨by omega, by omega⟩), (show -2147483648 ≤ (32 : Int) ∧ (32 : Int) ≤ 2147483647 from ⟨by omega, by omega⟩)⟩ (fun hc => ?_) (fun hc => ?_)
      · have c1 : (32 : Int) ≤ r := hc
        clear hc
        refine J.run0 1 rfl ?_
        try dsimp only
        exact J.retb rfl rfl rfl (show (0 : Int) = 0 ∨ (0 : Int) = 1 by omega) ⟨_, rfl, rfl, hT, hE, k0gP, k0gX, k0gL, k0gZ, k0gQ, k0gB, k0gK, k0gN, k0gW, _, rfl, (show 0 ≤ ((0 : Int)) ∧ ((0 : Int)) ≤ 1 from ⟨by omega, by omega⟩)⟩
      · have c2 : ¬ ((32 : Int) ≤ r) := hc
        clear hc
        refine J.run0 4 rfl ?_
        try dsimp only
        have f3 : 1 ≤ H.1 11 12 0 ∧ H.1 11 12 0 ≤ 300 := hT.2.1 12
        refine J.inv rfl rfl rfl rfl rfl rfl jDr rfl rfl rfl rfl rfl (g_isSent (b := b) (r := r) (both := both) hT k0gP k0gX k0gL k0gZ k0gQ k0gB k0gK k0gN k0gW (show 0 ≤ (b) ∧ (b) < 300 from ⟨by omega, by omega⟩) (show (b) < H.1 11 12 0 from by omega) (show -2147483648 ≤ (r) ∧ (r) ≤ 2147483647 from ⟨by omega, by omega⟩) (show 0 ≤ (both) ∧ (both) ≤ 1 from ⟨by omega, by omega⟩)) ?_
        rintro v w H6 ⟨rfl, hT7, ehE8, k9, k10, k11, k12, k13, k14, k15, k16, k17, x4, rfl, r5⟩
        have hE8 := jEx.trans ehE8 hE (by decide) (by decide)
        have r5' : 0 ≤ x4 ∧ x4 ≤ 1 := r5
        have g18 : H6.1 11 12 0 = H.1 11 12 0 := ehE8.v 12 (by decide)
        have g19 : H6.1 11 45 0 = H.1 11 45 0 := ehE8.v 45 (by decide)
        try dsimp only [Option.toList, List.append, List.cons_append, List.nil_append]
        refine J.ifc rfl rfl rfl (show -2147483648 ≤ x4 ∧ x4 ≤ 2147483647 from ⟨by omega, by omega⟩) (fun hc => ?_) (fun hc => ?_)
        · have c20 : x4 = (0 : Int) := hc
          clear hc
          refine J.run0 2 rfl ?_
          try dsimp only
          exact ih (r + 1) H6 _ (show 32 - (r + 1) < _ by omega) (show 0 ≤ (r + 1) ∧ (r + 1) ≤ 32 from ⟨by omega, by omega⟩) (show b < H6.1 11 12 0 from by omega) hT7 hE8 k9 k10 k11 k12 k13 k14 k15 k16 k17 rfl
        · have c21 : ¬ (x4 = (0 : Int)) := hc
          clear hc
          refine J.run0 1 rfl ?_
          try dsimp only
          exact J.retb rfl rfl rfl (show (1 : Int) = 0 ∨ (1 : Int) = 1 by omega) ⟨_, rfl, rfl, hT7, hE8, k9, k10, k11, k12, k13, k14, k15, k16, k17, _, rfl, (show 0 ≤ ((1 : Int)) ∧ ((1 : Int)) ≤ 1 from ⟨by omega, by omega⟩)⟩
-- 
theorem g_isEnough {b both : Int} {H : jH} (hT : gT H) (k0gP : gP H) (k0gX : gX H) (k0gL : gL H) (k0gZ : gZ H) (k0gQ : gQ H) (k0gB : gB H) (k0gK : gK H) (k0gN : gN H) (k0gW : gW H (H.1 11 19 0)) (hp0 : 0 ≤ b ∧ b < 300) (hp1 : b < H.1 11 12 0) (hp2 : 0 ≤ both ∧ both ≤ 1) : J true (d + 304) 165 w (0, jargs 0 [jT, .inl b, .inl both], [], H) (jN fun v w' H' => w' = w ∧ gT H' ∧ jEx [48, 56, 57] [108, 99, 100, 101, 105, 102, 103, 104, 61, 81] H' H ∧ gP H' ∧ gX H' ∧ gL H' ∧ gZ H' ∧ gQ H' ∧ gB H' ∧ gK H' ∧ gN H' ∧ gW H' (H'.1 11 19 0) ∧ ∃ x, v = some (.inl x) ∧ 0 ≤ x ∧ x ≤ 1) := by
  have hE : jEx [48, 56, 57] [108, 99, 100, 101, 105, 102, 103, 104, 61, 81] H H := jEx.refl _ _ _
  refine J.run0 2 rfl ?_
  try dsimp only
  exact (g_isEnough_l0 (H0 := H) (b := b) (both := both)  hp0 hp1 hp2 ((32 - ((0 : Int)) : Int).toNat + 1)) ((0 : Int)) H _ (show 32 - ((0 : Int)) < _ by omega) (show 0 ≤ ((0 : Int)) ∧ ((0 : Int)) ≤ 32 from ⟨by omega, by omega⟩) (show b < H.1 11 12 0 from by omega) hT hE k0gP k0gX k0gL k0gZ k0gQ k0gB k0gK k0gN k0gW rfl
end
