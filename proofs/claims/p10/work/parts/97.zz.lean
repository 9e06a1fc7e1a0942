-- M: X11_follows
section
variable {d : Nat} {w : jW} 
-- 
theorem g_follows_l0 {b : Int} {H0 : jH} {K : Int} (ihS : ∀ {b_ : Int} {H : jH}, 0 < H.2.2.1 56 0 b_ - H.2.2.1 56 0 (H.1 11 45 0) ∧ H.2.2.1 56 0 b_ - H.2.2.1 56 0 (H.1 11 45 0) < K → gT H → gP H → gX H → gL H → gZ H → gQ H → gB H → gK H → gN H → gW H (H.1 11 19 0) → 0 ≤ b_ ∧ b_ < 300 → b_ < H.1 11 12 0 → J true (d + 305) 167 w (0, jargs 0 [jT, .inl b_], [], H) (jN fun v w' H' => w' = w ∧ gT H' ∧ jEx [48, 56, 57, 46, 45] [108, 99, 100, 101, 105, 102, 103, 104, 61, 81] H' H ∧ gP H' ∧ gX H' ∧ gL H' ∧ gZ H' ∧ gQ H' ∧ gB H' ∧ gK H' ∧ gN H' ∧ gW H' (H'.1 11 19 0) ∧ ∃ x, v = some (.inl x) ∧ (x = 0 ∨ x = 1) ∧ (x = 1 → H'.1 11 45 0 = b_))) (hp0 : 0 ≤ b ∧ b < 300) (hp1 : b < H0.1 11 12 0) (hp2 : H0.2.2.1 56 0 (b) - H0.2.2.1 56 0 (H0.1 11 45 0) ≤ K) : ∀ (m : Nat), (∀ (H : jH) (lv : jL), 1000 * (1 + H.2.2.1 56 0 (b) - H.2.2.1 56 0 (H.1 11 45 0)) < (m : Int) → (b < H.1 11 12 0) → (H.2.2.1 56 0 (b) - H.2.2.1 56 0 (H.1 11 45 0) ≤ K) → (1 ≤ H.2.2.1 56 0 (b) - H.2.2.1 56 0 (H.1 11 45 0)) → gT H → jEx [48, 56, 57, 46, 45] [108, 99, 100, 101, 105, 102, 103, 104, 61, 81] H H0 → gP H → gX H → gL H → gZ H → gQ H → gB H → gK H → gN H → gW H (H.1 11 19 0) → ((∃ j4 j3 j2 : Int, lv = [(4, .inl j4), (3, .inl j3), (2, .inl j2), (0, jT), (1, .inl b)])) → J true (d + 306) 167 w (0, lv, [], H) (jN fun v w' H' => w' = w ∧ gT H' ∧ jEx [48, 56, 57, 46, 45] [108, 99, 100, 101, 105, 102, 103, 104, 61, 81] H' H0 ∧ gP H' ∧ gX H' ∧ gL H' ∧ gZ H' ∧ gQ H' ∧ gB H' ∧ gK H' ∧ gN H' ∧ gW H' (H'.1 11 19 0) ∧ ∃ x, v = some (.inl x) ∧ (x = 0 ∨ x = 1) ∧ (x = 1 → H'.1 11 45 0 = b))) ∧ (∀ (half k : Int) (H : jH) (lv : jL), 1000 * (H.2.2.1 56 0 (b) - H.2.2.1 56 0 (H.1 11 45 0)) + 1 + H.2.2.1 56 0 (k) < (m : Int) → (b < H.1 11 12 0) → (H.2.2.1 56 0 (b) - H.2.2.1 56 0 (H.1 11 45 0) ≤ K) → (0 ≤ k ∧ k < 300) → (k < H.1 11 12 0) → (half ≤ H.2.2.1 56 0 (k)) → (H.2.2.1 56 0 (H.1 11 45 0) + 1 ≤ half) → (half < H.2.2.1 56 0 (b)) → (0 ≤ H.2.2.1 56 0 (H.1 11 45 0)) → gT H → jEx [48, 56, 57, 46, 45] [108, 99, 100, 101, 105, 102, 103, 104, 61, 81] H H0 → gP H → gX H → gL H → gZ H → gQ H → gB H → gK H → gN H → gW H (H.1 11 19 0) → ((∃ j2 : Int, lv = [(4, .inl k), (3, .inl half), (2, .inl j2), (0, jT), (1, .inl b)])) → J true (d + 306) 167 w (65, lv, [], H) (jN fun v w' H' => w' = w ∧ gT H' ∧ jEx [48, 56, 57, 46, 45] [108, 99, 100, 101, 105, 102, 103, 104, 61, 81] H' H0 ∧ gP H' ∧ gX H' ∧ gL H' ∧ gZ H' ∧ gQ H' ∧ gB H' ∧ gK H' ∧ gN H' ∧ gW H' (H'.1 11 19 0) ∧ ∃ x, v = some (.inl x) ∧ (x = 0 ∨ x = 1) ∧ (x = 1 → H'.1 11 45 0 = b))) := by
  intro m
  induction m with
  | zero =>
    refine ⟨?_, ?_⟩
    · intro H lv hm hi0 hi1 hi2 hT hE k0gP k0gX k0gL k0gZ k0gQ k0gB k0gK k0gN k0gW hlv
      exfalso
      omega
    · intro half k H lv hm hi0 hi1 hi2 hi3 hi4 hi5 hi6 hi7 hT hE k0gP k0gX k0gL k0gZ k0gQ k0gB k0gK k0gN k0gW hlv
      exfalso
      omega
  | succ m ih =>
    refine ⟨?_, ?_⟩
    · intro H lv hm hi0 hi1 hi2 hT hE k0gP k0gX k0gL k0gZ k0gQ k0gB k0gK k0gN k0gW hlv
      rcases hlv with ⟨j4, j3, j2, rfl⟩
      refine J.run0 2 rfl ?_
      try dsimp only
      have f1 : 1 ≤ H.1 11 12 0 ∧ H.1 11 12 0 ≤ 300 := hT.2.1 12
      refine J.inv rfl rfl rfl rfl rfl rfl jDr rfl rfl rfl rfl rfl (g_looks (b := b) hT k0gP k0gX k0gL k0gZ k0gQ k0gB k0gK k0gN k0gW (show 0 ≤ (b) ∧ (b) < 300 from ⟨by omega, by omega⟩) (show (b) < H.1 11 12 0 from by omega)) ?_
      rintro v w H4 ⟨rfl, hT5, ehE6, k7, k8, k9, k10, k11, k12, k13, k14, k15, x2, rfl, r3⟩
      have hE6 := jEx.trans ehE6 hE (by decide) (by decide)
      have r3' : (x2 = 0 ∨ x2 = 1) ∧ (x2 = 1 → H4.1 11 45 0 = (b)) ∧ (x2 = 0 → H4.1 11 45 0 = H.1 11 45 0) := r3
      have g16 : H4.1 11 12 0 = H.1 11 12 0 := ehE6.v 12 (by decide)
      have g17 : H4.2.2.1 56 0 (b) = H.2.2.1 56 0 (b) := congrFun (ehE6.r 56 (by decide)) _
      have g18 : H4.2.2.1 56 0 (H.1 11 45 0) = H.2.2.1 56 0 (H.1 11 45 0) := congrFun (ehE6.r 56 (by decide)) _
      have rL_looks := r3'
      have eL_looks := ehE6
      try dsimp only [Option.toList, List.append, List.cons_append, List.nil_append]
      refine J.ifc rfl rfl rfl (show -2147483648 ≤ x2 ∧ x2 ≤ 2147483647 from ⟨by omega, by omega⟩) (fun hc => ?_) (fun hc => ?_)
      · have c19 : x2 = (0 : Int) := hc
        clear hc
        have f20 : 0 ≤ H4.2.2.1 56 0 (b) ∧ H4.2.2.1 56 0 (b) ≤ 300 := hT5.1 56 (b)
        have f20gP : 0 ≤ b → b < 300 → H4.2.2.1 56 0 (b) ≤ b := k7.2.2.2.2.1 (b)
        have f21 : 0 ≤ H4.1 11 45 0 ∧ H4.1 11 45 0 ≤ 299 := hT5.2.1 45
        have f22 : 1 ≤ H4.1 11 12 0 ∧ H4.1 11 12 0 ≤ 300 := hT5.2.1 12
        have f21b : H4.1 11 45 0 < H4.1 11 12 0 := hT5.2.2.2 45 rfl
        have g23 : H4.1 11 45 0 = b → H4.2.2.1 56 0 (H4.1 11 45 0) = H4.2.2.1 56 0 (b) := fun z => by rw [z]
        have g24 : H4.1 11 45 0 = H.1 11 45 0 → H4.2.2.1 56 0 (H4.1 11 45 0) = H4.2.2.1 56 0 (H.1 11 45 0) := fun z => by rw [z]
        have f25 : 0 ≤ H4.2.2.1 56 0 (H4.1 11 45 0) ∧ H4.2.2.1 56 0 (H4.1 11 45 0) ≤ 300 := hT5.1 56 (H4.1 11 45 0)
        have f25gP : 0 ≤ H4.1 11 45 0 → H4.1 11 45 0 < 300 → H4.2.2.1 56 0 (H4.1 11 45 0) ≤ H4.1 11 45 0 := k7.2.2.2.2.1 (H4.1 11 45 0)
        refine J.run 13 rfl ⟨(show 0 ≤ b ∧ b < 300 from ⟨by omega, by omega⟩), (show 0 ≤ H4.1 11 45 0 ∧ H4.1 11 45 0 < 300 from ⟨by omega, by omega⟩)⟩ ?_
        try dsimp only
        refine J.icmp rfl rfl rfl ⟨(show -2147483648 ≤ (H4.2.2.1 56 0 (b)) - (H4.2.2.1 56 0 (H4.1 11 45 0)) ∧ (H4.2.2.1 56 0 (b)) - (H4.2.2.1 56 0 (H4.1 11 45 0)) ≤ 2147483647 from ⟨by omega, by omega⟩), (show -2147483648 ≤ (2 : Int) ∧ (2 : Int) ≤ 2147483647 from ⟨by omega, by omega⟩)⟩ (fun hc => ?_) (fun hc => ?_)
        · have c26 : (H4.2.2.1 56 0 (b)) - (H4.2.2.1 56 0 (H4.1 11 45 0)) < (2 : Int) := hc
          clear hc
          refine J.run0 1 rfl ?_
          try dsimp only
          exact J.retb rfl rfl rfl (show (0 : Int) = 0 ∨ (0 : Int) = 1 by omega) ⟨_, rfl, rfl, hT5, hE6, k7, k8, k9, k10, k11, k12, k13, k14, k15, _, rfl, (show (((0 : Int)) = 0 ∨ ((0 : Int)) = 1) ∧ (((0 : Int)) = 1 → H4.1 11 45 0 = b) from ⟨by omega, by omega⟩)⟩
        · have c27 : ¬ ((H4.2.2.1 56 0 (b)) - (H4.2.2.1 56 0 (H4.1 11 45 0)) < (2 : Int)) := hc
          clear hc
          refine J.run0 3 rfl ?_
          try dsimp only
          refine J.inv rfl rfl rfl rfl rfl rfl jDr rfl rfl rfl rfl rfl (g_isEnough (b := b) (both := (0 : Int)) hT5 k7 k8 k9 k10 k11 k12 k13 k14 k15 (show 0 ≤ (b) ∧ (b) < 300 from ⟨by omega, by omega⟩) (show (b) < H4.1 11 12 0 from by omega) (show 0 ≤ ((0 : Int)) ∧ ((0 : Int)) ≤ 1 from ⟨by omega, by omega⟩)) ?_
          rintro v w H30 ⟨rfl, hT31, ehE32, k33, k34, k35, k36, k37, k38, k39, k40, k41, x28, rfl, r29⟩
          have hE32 := jEx.trans ehE32 hE6 (by decide) (by decide)
          have r29' : 0 ≤ x28 ∧ x28 ≤ 1 := r29
          have g42 : H30.1 11 12 0 = H4.1 11 12 0 := ehE32.v 12 (by decide)
          have g43 : H30.1 11 45 0 = H4.1 11 45 0 := ehE32.v 45 (by decide)
          have g44 : H30.2.2.1 56 0 (b) = H4.2.2.1 56 0 (b) := congrFun (ehE32.r 56 (by decide)) _
          have g45 : H30.2.2.1 56 0 (H.1 11 45 0) = H4.2.2.1 56 0 (H.1 11 45 0) := congrFun (ehE32.r 56 (by decide)) _
          have g46 : H30.2.2.1 56 0 (H4.1 11 45 0) = H4.2.2.1 56 0 (H4.1 11 45 0) := congrFun (ehE32.r 56 (by decide)) _
          have rL_isEnough := r29'
          have eL_isEnough := ehE32
          try dsimp only [Option.toList, List.append, List.cons_append, List.nil_append]
          refine J.ifc rfl rfl rfl (show -2147483648 ≤ x28 ∧ x28 ≤ 2147483647 from ⟨by omega, by omega⟩) (fun hc => ?_) (fun hc => ?_)
          · have c47 : ¬ (x28 = (0 : Int)) := hc
            clear hc
            have f48 : 0 ≤ H30.1 11 45 0 ∧ H30.1 11 45 0 ≤ 299 := hT31.2.1 45
            have f49 : 1 ≤ H30.1 11 12 0 ∧ H30.1 11 12 0 ≤ 300 := hT31.2.1 12
            have f48b : H30.1 11 45 0 < H30.1 11 12 0 := hT31.2.2.2 45 rfl
            have g50 : H30.1 11 45 0 = b → H30.2.2.1 56 0 (H30.1 11 45 0) = H30.2.2.1 56 0 (b) := fun z => by rw [z]
            have g51 : H30.1 11 45 0 = H.1 11 45 0 → H30.2.2.1 56 0 (H30.1 11 45 0) = H30.2.2.1 56 0 (H.1 11 45 0) := fun z => by rw [z]
            have g52 : H30.1 11 45 0 = H4.1 11 45 0 → H30.2.2.1 56 0 (H30.1 11 45 0) = H30.2.2.1 56 0 (H4.1 11 45 0) := fun z => by rw [z]
            have f53 : 0 ≤ H30.2.2.1 56 0 (H30.1 11 45 0) ∧ H30.2.2.1 56 0 (H30.1 11 45 0) ≤ 300 := hT31.1 56 (H30.1 11 45 0)
            have f53gP : 0 ≤ H30.1 11 45 0 → H30.1 11 45 0 < 300 → H30.2.2.1 56 0 (H30.1 11 45 0) ≤ H30.1 11 45 0 := k33.2.2.2.2.1 (H30.1 11 45 0)
            refine J.run 15 rfl ⟨(show 0 ≤ b ∧ b < 300 from ⟨by omega, by omega⟩), (show 0 ≤ H30.1 11 45 0 ∧ H30.1 11 45 0 < 300 from ⟨by omega, by omega⟩), (show 0 ≤ (H30.2.2.1 56 0 (b)) + (H30.2.2.1 56 0 (H30.1 11 45 0)) ∧ (H30.2.2.1 56 0 (b)) + (H30.2.2.1 56 0 (H30.1 11 45 0)) ≤ 2147483647 ∧ 0 < (2 : Int) ∧ (2 : Int) ≤ 2147483647 from ⟨by omega, by omega, by omega, by omega⟩)⟩ ?_
            try dsimp only
            exact ih.2 (((H30.2.2.1 56 0 (b)) + (H30.2.2.1 56 0 (H30.1 11 45 0))) / ((2 : Int))) (b) H30 _ (show 1000 * (H30.2.2.1 56 0 (b) - H30.2.2.1 56 0 (H30.1 11 45 0)) + 1 + H30.2.2.1 56 0 ((b)) < _ by omega) (show b < H30.1 11 12 0 from by omega) (show H30.2.2.1 56 0 (b) - H30.2.2.1 56 0 (H30.1 11 45 0) ≤ K from by omega) (show 0 ≤ (b) ∧ (b) < 300 from ⟨by omega, by omega⟩) (show (b) < H30.1 11 12 0 from by omega) (show (((H30.2.2.1 56 0 (b)) + (H30.2.2.1 56 0 (H30.1 11 45 0))) / ((2 : Int))) ≤ H30.2.2.1 56 0 ((b)) from by omega) (show H30.2.2.1 56 0 (H30.1 11 45 0) + 1 ≤ (((H30.2.2.1 56 0 (b)) + (H30.2.2.1 56 0 (H30.1 11 45 0))) / ((2 : Int))) from by omega) (show (((H30.2.2.1 56 0 (b)) + (H30.2.2.1 56 0 (H30.1 11 45 0))) / ((2 : Int))) < H30.2.2.1 56 0 (b) from by omega) (show 0 ≤ H30.2.2.1 56 0 (H30.1 11 45 0) from by omega) hT31 hE32 k33 k34 k35 k36 k37 k38 k39 k40 k41 ⟨_, rfl⟩
          · have c54 : ¬ (¬ (x28 = (0 : Int))) := hc
            clear hc
            refine J.run0 1 rfl ?_
            try dsimp only
            exact J.retb rfl rfl rfl (show (0 : Int) = 0 ∨ (0 : Int) = 1 by omega) ⟨_, rfl, rfl, hT31, hE32, k33, k34, k35, k36, k37, k38, k39, k40, k41, _, rfl, (show (((0 : Int)) = 0 ∨ ((0 : Int)) = 1) ∧ (((0 : Int)) = 1 → H30.1 11 45 0 = b) from ⟨by omega, by omega⟩)⟩
      · have c55 : ¬ (x2 = (0 : Int)) := hc
        clear hc
        refine J.run0 1 rfl ?_
        try dsimp only
        exact J.retb rfl rfl rfl (show (1 : Int) = 0 ∨ (1 : Int) = 1 by omega) ⟨_, rfl, rfl, hT5, hE6, k7, k8, k9, k10, k11, k12, k13, k14, k15, _, rfl, (show (((1 : Int)) = 0 ∨ ((1 : Int)) = 1) ∧ (((1 : Int)) = 1 → H4.1 11 45 0 = b) from ⟨by omega, by omega⟩)⟩
    · intro half k H lv hm hi0 hi1 hi2 hi3 hi4 hi5 hi6 hi7 hT hE k0gP k0gX k0gL k0gZ k0gQ k0gB k0gK k0gN k0gW hlv
      rcases hlv with ⟨j2, rfl⟩
      have f56 : 0 ≤ H.2.2.1 56 0 (k) ∧ H.2.2.1 56 0 (k) ≤ 300 := hT.1 56 (k)
      have f56gP : 0 ≤ k → k < 300 → H.2.2.1 56 0 (k) ≤ k := k0gP.2.2.2.2.1 (k)
      refine J.run 5 rfl (show 0 ≤ k ∧ k < 300 from ⟨by omega, by omega⟩) ?_
      try dsimp only
      refine J.icmp rfl rfl rfl ⟨(show -2147483648 ≤ H.2.2.1 56 0 (k) ∧ H.2.2.1 56 0 (k) ≤ 2147483647 from ⟨by omega, by omega⟩), (show -2147483648 ≤ half ∧ half ≤ 2147483647 from ⟨by omega, by omega⟩)⟩ (fun hc => ?_) (fun hc => ?_)
      · have c57 : H.2.2.1 56 0 (k) ≤ half := hc
        clear hc
        refine J.run0 2 rfl ?_
        try dsimp only
        have f58 : 1 ≤ H.1 11 12 0 ∧ H.1 11 12 0 ≤ 300 := hT.2.1 12
        refine J.inv rfl rfl rfl rfl rfl rfl jDr rfl rfl rfl rfl rfl (ihS (b_ := k) (by omega) hT k0gP k0gX k0gL k0gZ k0gQ k0gB k0gK k0gN k0gW (show 0 ≤ (k) ∧ (k) < 300 from ⟨by omega, by omega⟩) (show (k) < H.1 11 12 0 from by omega)) ?_
        rintro v w H61 ⟨rfl, hT62, ehE63, k64, k65, k66, k67, k68, k69, k70, k71, k72, x59, rfl, r60⟩
        have hE63 := jEx.trans ehE63 hE (by decide) (by decide)
        have r60' : (x59 = 0 ∨ x59 = 1) ∧ (x59 = 1 → H61.1 11 45 0 = (k)) := r60
        have g73 : H61.1 11 12 0 = H.1 11 12 0 := ehE63.v 12 (by decide)
        have g74 : H61.2.2.1 56 0 (b) = H.2.2.1 56 0 (b) := congrFun (ehE63.r 56 (by decide)) _
        have g75 : H61.2.2.1 56 0 (H.1 11 45 0) = H.2.2.1 56 0 (H.1 11 45 0) := congrFun (ehE63.r 56 (by decide)) _
        have g76 : H61.2.2.1 56 0 (k) = H.2.2.1 56 0 (k) := congrFun (ehE63.r 56 (by decide)) _
        have rL_follows := r60'
        have eL_follows := ehE63
        try dsimp only [Option.toList, List.append, List.cons_append, List.nil_append]
        refine J.ifc rfl rfl rfl (show -2147483648 ≤ x59 ∧ x59 ≤ 2147483647 from ⟨by omega, by omega⟩) (fun hc => ?_) (fun hc => ?_)
        · have c77 : ¬ (x59 = (0 : Int)) := hc
          clear hc
          have zt : H61.2.2.1 56 0 (H61.1 11 45 0) = H61.2.2.1 56 0 (k) := by rw [show H61.1 11 45 0 = k by omega]
          refine J.run0 1 rfl ?_
          try dsimp only
          exact ih.1  H61 _ (show 1000 * (1 + H61.2.2.1 56 0 (b) - H61.2.2.1 56 0 (H61.1 11 45 0)) < _ by omega) (show b < H61.1 11 12 0 from by omega) (show H61.2.2.1 56 0 (b) - H61.2.2.1 56 0 (H61.1 11 45 0) ≤ K from by omega) (show 1 ≤ H61.2.2.1 56 0 (b) - H61.2.2.1 56 0 (H61.1 11 45 0) from by omega) hT62 hE63 k64 k65 k66 k67 k68 k69 k70 k71 k72 ⟨_, _, _, rfl⟩
        · have c78 : ¬ (¬ (x59 = (0 : Int))) := hc
          clear hc
          refine J.run0 1 rfl ?_
          try dsimp only
          exact J.retb rfl rfl rfl (show (0 : Int) = 0 ∨ (0 : Int) = 1 by omega) ⟨_, rfl, rfl, hT62, hE63, k64, k65, k66, k67, k68, k69, k70, k71, k72, _, rfl, (show (((0 : Int)) = 0 ∨ ((0 : Int)) = 1) ∧ (((0 : Int)) = 1 → H61.1 11 45 0 = b) from ⟨by omega, by omega⟩)⟩
      · have c79 : ¬ (H.2.2.1 56 0 (k) ≤ half) := hc
        clear hc
        have z2 := k0gP.2.2.2.1 (k) (by omega) (by omega)
        have f80 : -1 ≤ H.2.2.1 55 0 (k) ∧ H.2.2.1 55 0 (k) ≤ 299 := hT.1 55 (k)
        have f81 : 1 ≤ H.1 11 12 0 ∧ H.1 11 12 0 ≤ 300 := hT.2.1 12
        have f80b : H.2.2.1 55 0 (k) < H.1 11 12 0 := hT.2.2.1 55 (k) rfl
        have f80gP : (k = 0 → H.2.2.1 55 0 (k) = -1) ∧ (1 ≤ k → k < 300 → 0 ≤ H.2.2.1 55 0 (k) ∧ H.2.2.1 55 0 (k) < k) := ⟨fun z => by rw [z]; exact k0gP.1, fun z z' => k0gP.2.1 _ z z'⟩
        refine J.run 6 rfl (show 0 ≤ k ∧ k < 300 from ⟨by omega, by omega⟩) ?_
        try dsimp only
        exact ih.2 (half) (H.2.2.1 55 0 (k)) H _ (show 1000 * (H.2.2.1 56 0 (b) - H.2.2.1 56 0 (H.1 11 45 0)) + 1 + H.2.2.1 56 0 ((H.2.2.1 55 0 (k))) < _ by omega) (show b < H.1 11 12 0 from by omega) (show H.2.2.1 56 0 (b) - H.2.2.1 56 0 (H.1 11 45 0) ≤ K from by omega) (show 0 ≤ (H.2.2.1 55 0 (k)) ∧ (H.2.2.1 55 0 (k)) < 300 from ⟨by omega, by omega⟩) (show (H.2.2.1 55 0 (k)) < H.1 11 12 0 from by omega) (show (half) ≤ H.2.2.1 56 0 ((H.2.2.1 55 0 (k))) from by omega) (show H.2.2.1 56 0 (H.1 11 45 0) + 1 ≤ (half) from by omega) (show (half) < H.2.2.1 56 0 (b) from by omega) (show 0 ≤ H.2.2.1 56 0 (H.1 11 45 0) from by omega) hT hE k0gP k0gX k0gL k0gZ k0gQ k0gB k0gK k0gN k0gW ⟨_, rfl⟩
-- 
theorem g_follows_step {b : Int} {K : Int} (ihS : ∀ {b_ : Int} {H : jH}, 0 < H.2.2.1 56 0 b_ - H.2.2.1 56 0 (H.1 11 45 0) ∧ H.2.2.1 56 0 b_ - H.2.2.1 56 0 (H.1 11 45 0) < K → gT H → gP H → gX H → gL H → gZ H → gQ H → gB H → gK H → gN H → gW H (H.1 11 19 0) → 0 ≤ b_ ∧ b_ < 300 → b_ < H.1 11 12 0 → J true (d + 305) 167 w (0, jargs 0 [jT, .inl b_], [], H) (jN fun v w' H' => w' = w ∧ gT H' ∧ jEx [48, 56, 57, 46, 45] [108, 99, 100, 101, 105, 102, 103, 104, 61, 81] H' H ∧ gP H' ∧ gX H' ∧ gL H' ∧ gZ H' ∧ gQ H' ∧ gB H' ∧ gK H' ∧ gN H' ∧ gW H' (H'.1 11 19 0) ∧ ∃ x, v = some (.inl x) ∧ (x = 0 ∨ x = 1) ∧ (x = 1 → H'.1 11 45 0 = b_))) {H : jH} (hT : gT H) (k0gP : gP H) (k0gX : gX H) (k0gL : gL H) (k0gZ : gZ H) (k0gQ : gQ H) (k0gB : gB H) (k0gK : gK H) (k0gN : gN H) (k0gW : gW H (H.1 11 19 0)) (hp0 : 0 ≤ b ∧ b < 300) (hp1 : b < H.1 11 12 0) (hp2 : H.2.2.1 56 0 (b) - H.2.2.1 56 0 (H.1 11 45 0) ≤ K) : J true (d + 306) 167 w (0, jargs 0 [jT, .inl b], [], H) (jN fun v w' H' => w' = w ∧ gT H' ∧ jEx [48, 56, 57, 46, 45] [108, 99, 100, 101, 105, 102, 103, 104, 61, 81] H' H ∧ gP H' ∧ gX H' ∧ gL H' ∧ gZ H' ∧ gQ H' ∧ gB H' ∧ gK H' ∧ gN H' ∧ gW H' (H'.1 11 19 0) ∧ ∃ x, v = some (.inl x) ∧ (x = 0 ∨ x = 1) ∧ (x = 1 → H'.1 11 45 0 = b)) := by
  have hE : jEx [48, 56, 57, 46, 45] [108, 99, 100, 101, 105, 102, 103, 104, 61, 81] H H := jEx.refl _ _ _
  refine J.run0 2 rfl ?_
  try dsimp only
  have f82 : 1 ≤ H.1 11 12 0 ∧ H.1 11 12 0 ≤ 300 := hT.2.1 12
  refine J.inv rfl rfl rfl rfl rfl rfl jDr rfl rfl rfl rfl rfl (g_looks (b := b) hT k0gP k0gX k0gL k0gZ k0gQ k0gB k0gK k0gN k0gW (show 0 ≤ (b) ∧ (b) < 300 from ⟨by omega, by omega⟩) (show (b) < H.1 11 12 0 from by omega)) ?_
  rintro v w H85 ⟨rfl, hT86, ehE87, k88, k89, k90, k91, k92, k93, k94, k95, k96, x83, rfl, r84⟩
  have hE87 := jEx.trans ehE87 hE (by decide) (by decide)
  have r84' : (x83 = 0 ∨ x83 = 1) ∧ (x83 = 1 → H85.1 11 45 0 = (b)) ∧ (x83 = 0 → H85.1 11 45 0 = H.1 11 45 0) := r84
  have g97 : H85.1 11 12 0 = H.1 11 12 0 := ehE87.v 12 (by decide)
  have g98 : H85.2.2.1 56 0 (b) = H.2.2.1 56 0 (b) := congrFun (ehE87.r 56 (by decide)) _
  have g99 : H85.2.2.1 56 0 (H.1 11 45 0) = H.2.2.1 56 0 (H.1 11 45 0) := congrFun (ehE87.r 56 (by decide)) _
  have rL_looks := r84'
  have eL_looks := ehE87
  try dsimp only [Option.toList, List.append, List.cons_append, List.nil_append]
  refine J.ifc rfl rfl rfl (show -2147483648 ≤ x83 ∧ x83 ≤ 2147483647 from ⟨by omega, by omega⟩) (fun hc => ?_) (fun hc => ?_)
  · have c100 : x83 = (0 : Int) := hc
    clear hc
    have f101 : 0 ≤ H85.2.2.1 56 0 (b) ∧ H85.2.2.1 56 0 (b) ≤ 300 := hT86.1 56 (b)
    have f101gP : 0 ≤ b → b < 300 → H85.2.2.1 56 0 (b) ≤ b := k88.2.2.2.2.1 (b)
    have f102 : 0 ≤ H85.1 11 45 0 ∧ H85.1 11 45 0 ≤ 299 := hT86.2.1 45
    have f103 : 1 ≤ H85.1 11 12 0 ∧ H85.1 11 12 0 ≤ 300 := hT86.2.1 12
    have f102b : H85.1 11 45 0 < H85.1 11 12 0 := hT86.2.2.2 45 rfl
    have g104 : H85.1 11 45 0 = b → H85.2.2.1 56 0 (H85.1 11 45 0) = H85.2.2.1 56 0 (b) := fun z => by rw [z]
    have g105 : H85.1 11 45 0 = H.1 11 45 0 → H85.2.2.1 56 0 (H85.1 11 45 0) = H85.2.2.1 56 0 (H.1 11 45 0) := fun z => by rw [z]
    have f106 : 0 ≤ H85.2.2.1 56 0 (H85.1 11 45 0) ∧ H85.2.2.1 56 0 (H85.1 11 45 0) ≤ 300 := hT86.1 56 (H85.1 11 45 0)
    have f106gP : 0 ≤ H85.1 11 45 0 → H85.1 11 45 0 < 300 → H85.2.2.1 56 0 (H85.1 11 45 0) ≤ H85.1 11 45 0 := k88.2.2.2.2.1 (H85.1 11 45 0)
    refine J.run 13 rfl ⟨(show 0 ≤ b ∧ b < 300 from ⟨by omega, by omega⟩), (show 0 ≤ H85.1 11 45 0 ∧ H85.1 11 45 0 < 300 from ⟨by omega, by omega⟩)⟩ ?_
    try dsimp only
    refine J.icmp rfl rfl rfl ⟨(show -2147483648 ≤ (H85.2.2.1 56 0 (b)) - (H85.2.2.1 56 0 (H85.1 11 45 0)) ∧ (H85.2.2.1 56 0 (b)) - (H85.2.2.1 56 0 (H85.1 11 45 0)) ≤ 2147483647 from ⟨by omega, by omega⟩), (show -2147483648 ≤ (2 : Int) ∧ (2 : Int) ≤ 2147483647 from ⟨by omega, by omega⟩)⟩ (fun hc => ?_) (fun hc => ?_)
    · have c107 : (H85.2.2.1 56 0 (b)) - (H85.2.2.1 56 0 (H85.1 11 45 0)) < (2 : Int) := hc
      clear hc
      refine J.run0 1 rfl ?_
      try dsimp only
      exact J.retb rfl rfl rfl (show (0 : Int) = 0 ∨ (0 : Int) = 1 by omega) ⟨_, rfl, rfl, hT86, hE87, k88, k89, k90, k91, k92, k93, k94, k95, k96, _, rfl, (show (((0 : Int)) = 0 ∨ ((0 : Int)) = 1) ∧ (((0 : Int)) = 1 → H85.1 11 45 0 = b) from ⟨by omega, by omega⟩)⟩
    · have c108 : ¬ ((H85.2.2.1 56 0 (b)) - (H85.2.2.1 56 0 (H85.1 11 45 0)) < (2 : Int)) := hc
      clear hc
      refine J.run0 3 rfl ?_
      try dsimp only
      refine J.inv rfl rfl rfl rfl rfl rfl jDr rfl rfl rfl rfl rfl (g_isEnough (b := b) (both := (0 : Int)) hT86 k88 k89 k90 k91 k92 k93 k94 k95 k96 (show 0 ≤ (b) ∧ (b) < 300 from ⟨by omega, by omega⟩) (show (b) < H85.1 11 12 0 from by omega) (show 0 ≤ ((0 : Int)) ∧ ((0 : Int)) ≤ 1 from ⟨by omega, by omega⟩)) ?_
      rintro v w H111 ⟨rfl, hT112, ehE113, k114, k115, k116, k117, k118, k119, k120, k121, k122, x109, rfl, r110⟩
      have hE113 := jEx.trans ehE113 hE87 (by decide) (by decide)
      have r110' : 0 ≤ x109 ∧ x109 ≤ 1 := r110
      have g123 : H111.1 11 12 0 = H85.1 11 12 0 := ehE113.v 12 (by decide)
      have g124 : H111.1 11 45 0 = H85.1 11 45 0 := ehE113.v 45 (by decide)
      have g125 : H111.2.2.1 56 0 (b) = H85.2.2.1 56 0 (b) := congrFun (ehE113.r 56 (by decide)) _
      have g126 : H111.2.2.1 56 0 (H.1 11 45 0) = H85.2.2.1 56 0 (H.1 11 45 0) := congrFun (ehE113.r 56 (by decide)) _
      have g127 : H111.2.2.1 56 0 (H85.1 11 45 0) = H85.2.2.1 56 0 (H85.1 11 45 0) := congrFun (ehE113.r 56 (by decide)) _
      have rL_isEnough := r110'
      have eL_isEnough := ehE113
      try dsimp only [Option.toList, List.append, List.cons_append, List.nil_append]
      refine J.ifc rfl rfl rfl (show -2147483648 ≤ x109 ∧ x109 ≤ 2147483647 from ⟨by omega, by omega⟩) (fun hc => ?_) (fun hc => ?_)
      · have c128 : ¬ (x109 = (0 : Int)) := hc
        clear hc
        have f129 : 0 ≤ H111.1 11 45 0 ∧ H111.1 11 45 0 ≤ 299 := hT112.2.1 45
        have f130 : 1 ≤ H111.1 11 12 0 ∧ H111.1 11 12 0 ≤ 300 := hT112.2.1 12
        have f129b : H111.1 11 45 0 < H111.1 11 12 0 := hT112.2.2.2 45 rfl
        have g131 : H111.1 11 45 0 = b → H111.2.2.1 56 0 (H111.1 11 45 0) = H111.2.2.1 56 0 (b) := fun z => by rw [z]
        have g132 : H111.1 11 45 0 = H.1 11 45 0 → H111.2.2.1 56 0 (H111.1 11 45 0) = H111.2.2.1 56 0 (H.1 11 45 0) := fun z => by rw [z]
        have g133 : H111.1 11 45 0 = H85.1 11 45 0 → H111.2.2.1 56 0 (H111.1 11 45 0) = H111.2.2.1 56 0 (H85.1 11 45 0) := fun z => by rw [z]
        have f134 : 0 ≤ H111.2.2.1 56 0 (H111.1 11 45 0) ∧ H111.2.2.1 56 0 (H111.1 11 45 0) ≤ 300 := hT112.1 56 (H111.1 11 45 0)
        have f134gP : 0 ≤ H111.1 11 45 0 → H111.1 11 45 0 < 300 → H111.2.2.1 56 0 (H111.1 11 45 0) ≤ H111.1 11 45 0 := k114.2.2.2.2.1 (H111.1 11 45 0)
        refine J.run 15 rfl ⟨(show 0 ≤ b ∧ b < 300 from ⟨by omega, by omega⟩), (show 0 ≤ H111.1 11 45 0 ∧ H111.1 11 45 0 < 300 from ⟨by omega, by omega⟩), (show 0 ≤ (H111.2.2.1 56 0 (b)) + (H111.2.2.1 56 0 (H111.1 11 45 0)) ∧ (H111.2.2.1 56 0 (b)) + (H111.2.2.1 56 0 (H111.1 11 45 0)) ≤ 2147483647 ∧ 0 < (2 : Int) ∧ (2 : Int) ≤ 2147483647 from ⟨by omega, by omega, by omega, by omega⟩)⟩ ?_
        try dsimp only
        exact (g_follows_l0 (H0 := H) (b := b) ihS hp0 hp1 hp2 ((1000 * (H111.2.2.1 56 0 (b) - H111.2.2.1 56 0 (H111.1 11 45 0)) + 1 + H111.2.2.1 56 0 ((b)) : Int).toNat + 1)).2 (((H111.2.2.1 56 0 (b)) + (H111.2.2.1 56 0 (H111.1 11 45 0))) / ((2 : Int))) (b) H111 _ (show 1000 * (H111.2.2.1 56 0 (b) - H111.2.2.1 56 0 (H111.1 11 45 0)) + 1 + H111.2.2.1 56 0 ((b)) < _ by omega) (show b < H111.1 11 12 0 from by omega) (show H111.2.2.1 56 0 (b) - H111.2.2.1 56 0 (H111.1 11 45 0) ≤ K from by omega) (show 0 ≤ (b) ∧ (b) < 300 from ⟨by omega, by omega⟩) (show (b) < H111.1 11 12 0 from by omega) (show (((H111.2.2.1 56 0 (b)) + (H111.2.2.1 56 0 (H111.1 11 45 0))) / ((2 : Int))) ≤ H111.2.2.1 56 0 ((b)) from by omega) (show H111.2.2.1 56 0 (H111.1 11 45 0) + 1 ≤ (((H111.2.2.1 56 0 (b)) + (H111.2.2.1 56 0 (H111.1 11 45 0))) / ((2 : Int))) from by omega) (show (((H111.2.2.1 56 0 (b)) + (H111.2.2.1 56 0 (H111.1 11 45 0))) / ((2 : Int))) < H111.2.2.1 56 0 (b) from by omega) (show 0 ≤ H111.2.2.1 56 0 (H111.1 11 45 0) from by omega) hT112 hE113 k114 k115 k116 k117 k118 k119 k120 k121 k122 ⟨_, rfl⟩
      · have c135 : ¬ (¬ (x109 = (0 : Int))) := hc
        clear hc
        refine J.run0 1 rfl ?_
        try dsimp only
        exact J.retb rfl rfl rfl (show (0 : Int) = 0 ∨ (0 : Int) = 1 by omega) ⟨_, rfl, rfl, hT112, hE113, k114, k115, k116, k117, k118, k119, k120, k121, k122, _, rfl, (show (((0 : Int)) = 0 ∨ ((0 : Int)) = 1) ∧ (((0 : Int)) = 1 → H111.1 11 45 0 = b) from ⟨by omega, by omega⟩)⟩
  · have c136 : ¬ (x83 = (0 : Int)) := hc
    clear hc
    refine J.run0 1 rfl ?_
    try dsimp only
    exact J.retb rfl rfl rfl (show (1 : Int) = 0 ∨ (1 : Int) = 1 by omega) ⟨_, rfl, rfl, hT86, hE87, k88, k89, k90, k91, k92, k93, k94, k95, k96, _, rfl, (show (((1 : Int)) = 0 ∨ ((1 : Int)) = 1) ∧ (((1 : Int)) = 1 → H85.1 11 45 0 = b) from ⟨by omega, by omega⟩)⟩
end
