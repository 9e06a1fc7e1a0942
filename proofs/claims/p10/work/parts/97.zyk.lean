-- M: X11_account
section
variable {d : Nat} {w : jW} 
-- 
theorem g_account_l0 {b a what : Int} {H0 : jH} (hp0 : -2147483648 ≤ b ∧ b ≤ 2147483647) (hp1 : -2147483648 ≤ a ∧ a ≤ 2147483647) (hp2 : -2147483648 ≤ what ∧ what ≤ 2147483647) : ∀ (m : Nat), (∀ (s k : Int) (H : jH) (lv : jL), 32 - k < (m : Int) → (0 ≤ k ∧ k ≤ 32) → (0 ≤ s ∧ s ≤ 201600 * k) → (0 ≤ a ∧ a ≤ 199) → gT H → jEx [48, 56, 57, 47] [108, 99, 100, 101, 105, 102, 103, 104, 61] H H0 → gP H → gX H → gL H → gZ H → gQ H → gB H → gK H → gN H → gW H (H.1 11 19 0) → (lv = [(5, .inl k), (4, .inl s), (0, jT), (1, .inl b), (2, .inl a), (3, .inl what)]) → J true (d + 303) 162 w (111, lv, [], H) (jN fun v w' H' => w' = w ∧ gT H' ∧ jEx [48, 56, 57, 47] [108, 99, 100, 101, 105, 102, 103, 104, 61] H' H0 ∧ gP H' ∧ gX H' ∧ gL H' ∧ gZ H' ∧ gQ H' ∧ gB H' ∧ gK H' ∧ gN H' ∧ gW H' (H'.1 11 19 0) ∧ ∃ x, v = some (.inl x) ∧ -2147483648 ≤ x ∧ x ≤ 2147483647)) := by
  intro m
  induction m with
  | zero =>
    skip
    · intro s k H lv hm hi0 hi1 hi2 hT hE k0gP k0gX k0gL k0gZ k0gQ k0gB k0gK k0gN k0gW hlv
      exfalso
      omega
  | succ m ih =>
    skip
    · intro s k H lv hm hi0 hi1 hi2 hT hE k0gP k0gX k0gL k0gZ k0gQ k0gB k0gK k0gN k0gW hlv
      rcases hlv with rfl
      have f1 : 0 ≤ H.1 11 56 0 ∧ H.1 11 56 0 ≤ 32 := hT.2.1 56
      refine J.run0 3 rfl ?_
      try dsimp only
      refine J.icmp rfl rfl rfl ⟨(show -2147483648 ≤ k ∧ k ≤ 2147483647 from ⟨by omega, by omega⟩), (show -2147483648 ≤ H.1 11 56 0 ∧ H.1 11 56 0 ≤ 2147483647 from ⟨by omega, by omega⟩)⟩ (fun hc => ?_) (fun hc => ?_)
      · have c2 : H.1 11 56 0 ≤ k := hc
        clear hc
        refine J.run0 1 rfl ?_
        try dsimp only
        exact J.reti rfl rfl rfl ⟨_, rfl, rfl, hT, hE, k0gP, k0gX, k0gL, k0gZ, k0gQ, k0gB, k0gK, k0gN, k0gW, _, rfl, (show -2147483648 ≤ (s) ∧ (s) ≤ 2147483647 from ⟨by omega, by omega⟩)⟩
      · have c3 : ¬ (H.1 11 56 0 ≤ k) := hc
        clear hc
        have f4 : 0 ≤ H.2.2.1 102 0 (k) ∧ H.2.2.1 102 0 (k) ≤ 199 := hT.1 102 (k)
        refine J.run 5 rfl (show 0 ≤ k ∧ k < 33 from ⟨by omega, by omega⟩) ?_
        try dsimp only
        refine J.icmp rfl rfl rfl ⟨(show -2147483648 ≤ H.2.2.1 102 0 (k) ∧ H.2.2.1 102 0 (k) ≤ 2147483647 from ⟨by omega, by omega⟩), (show -2147483648 ≤ a ∧ a ≤ 2147483647 from ⟨by omega, by omega⟩)⟩ (fun hc => ?_) (fun hc => ?_)
        · have c5 : ¬ (H.2.2.1 102 0 (k) = a) := hc
          clear hc
          refine J.run0 2 rfl ?_
          try dsimp only
          exact ih (s) (k + 1) H _ (show 32 - (k + 1) < _ by omega) (show 0 ≤ (k + 1) ∧ (k + 1) ≤ 32 from ⟨by omega, by omega⟩) (show 0 ≤ (s) ∧ (s) ≤ 201600 * (k + 1) from ⟨by omega, by omega⟩) (show 0 ≤ a ∧ a ≤ 199 from ⟨by omega, by omega⟩) hT hE k0gP k0gX k0gL k0gZ k0gQ k0gB k0gK k0gN k0gW rfl
        · have c6 : ¬ (¬ (H.2.2.1 102 0 (k) = a)) := hc
          clear hc
          have f7 : 0 ≤ H.2.2.1 103 0 (k) ∧ H.2.2.1 103 0 (k) ≤ 201600 := hT.1 103 (k)
          refine J.run 9 rfl (show 0 ≤ k ∧ k < 33 from ⟨by omega, by omega⟩) ?_
          try dsimp only
          exact ih (s + (H.2.2.1 103 0 (k))) (k + 1) H _ (show 32 - (k + 1) < _ by omega) (show 0 ≤ (k + 1) ∧ (k + 1) ≤ 32 from ⟨by omega, by omega⟩) (show 0 ≤ (s + (H.2.2.1 103 0 (k))) ∧ (s + (H.2.2.1 103 0 (k))) ≤ 201600 * (k + 1) from ⟨by omega, by omega⟩) (show 0 ≤ a ∧ a ≤ 199 from ⟨by omega, by omega⟩) hT hE k0gP k0gX k0gL k0gZ k0gQ k0gB k0gK k0gN k0gW rfl
-- 
theorem g_account {b a what : Int} {H : jH} (hT : gT H) (k0gP : gP H) (k0gX : gX H) (k0gL : gL H) (k0gZ : gZ H) (k0gQ : gQ H) (k0gB : gB H) (k0gK : gK H) (k0gN : gN H) (k0gW : gW H (H.1 11 19 0)) (hp0 : -2147483648 ≤ b ∧ b ≤ 2147483647) (hp1 : -2147483648 ≤ a ∧ a ≤ 2147483647) (hp2 : -2147483648 ≤ what ∧ what ≤ 2147483647) : J true (d + 303) 162 w (0, jargs 0 [jT, .inl b, .inl a, .inl what], [], H) (jN fun v w' H' => w' = w ∧ gT H' ∧ jEx [48, 56, 57, 47] [108, 99, 100, 101, 105, 102, 103, 104, 61] H' H ∧ gP H' ∧ gX H' ∧ gL H' ∧ gZ H' ∧ gQ H' ∧ gB H' ∧ gK H' ∧ gN H' ∧ gW H' (H'.1 11 19 0) ∧ ∃ x, v = some (.inl x) ∧ -2147483648 ≤ x ∧ x ≤ 2147483647) := by
  have hE : jEx [48, 56, 57, 47] [108, 99, 100, 101, 105, 102, 103, 104, 61] H H := jEx.refl _ _ _
  have f8 : 1 ≤ H.1 11 12 0 ∧ H.1 11 12 0 ≤ 300 := hT.2.1 12
  refine J.run0 7 rfl ?_
  try dsimp only
  refine J.ins rfl rfl rfl rfl rfl rfl rfl rfl rfl (g_in (u := b) (a := (0 : Int)) (b := (H.1 11 12 0) - (1 : Int)) hT  (show -2147483648 ≤ (b) ∧ (b) ≤ 2147483647 from ⟨by omega, by omega⟩) (show -2147483648 ≤ ((0 : Int)) ∧ ((0 : Int)) ≤ 2147483647 from ⟨by omega, by omega⟩) (show -2147483648 ≤ ((H.1 11 12 0) - (1 : Int)) ∧ ((H.1 11 12 0) - (1 : Int)) ≤ 2147483647 from ⟨by omega, by omega⟩)) ?_
  rintro v w H ⟨rfl, rfl, x9, rfl, r10⟩
  have r10' : (x9 = 0 ∨ x9 = 1) ∧ (x9 = 1 → (b) ≥ ((0 : Int)) ∧ (b) ≤ ((H.1 11 12 0) - (1 : Int))) ∧ (x9 = 0 → (b) < ((0 : Int)) ∨ ((H.1 11 12 0) - (1 : Int)) < (b)) := r10
  try dsimp only [Option.toList, List.append, List.cons_append, List.nil_append]
  refine J.ifc rfl rfl rfl (show -2147483648 ≤ x9 ∧ x9 ≤ 2147483647 from ⟨by omega, by omega⟩) (fun hc => ?_) (fun hc => ?_)
  · have c11 : x9 = (0 : Int) := hc
    clear hc
    refine J.run0 3 rfl ?_
    try dsimp only
    refine J.gn fun H12 hH12 => ?_
    have hT13 : gT H12 := by rw [hH12]; exact gT.num (f := 47) hT (show 0 ≤ (1 : Int) ∧ (1 : Int) ≤ 3 from ⟨by omega, by omega⟩) (by decide) (fun z => absurd z (by decide))
    have hE14 : jEx [48, 56, 57, 47] [108, 99, 100, 101, 105, 102, 103, 104, 61] H12 H := by rw [hH12]; exact jEx.num hE (by decide)
    have k15 : gP H12 := by rw [hH12]; exact k0gP
    have k16 : gX H12 := by rw [hH12]; exact k0gX
    have k17 : gL H12 := by rw [hH12]; exact k0gL
    have k18 : gZ H12 := by rw [hH12]; exact k0gZ
    have k19 : gQ H12 := by rw [hH12]; exact k0gQ
    have k20 : gB H12 := by rw [hH12]; exact k0gB
    have k21 : gK H12 := by rw [hH12]; exact k0gK
    have k22 : gN H12 := by rw [hH12]; exact k0gN
    have k23 : gW H12 (H12.1 11 19 0) := by rw [hH12]; exact k0gW
    have g24 : H12.1 11 47 0 = (1 : Int) := by subst hH12; rfl
    have g25 : H12.1 11 12 0 = H.1 11 12 0 := by subst hH12; rfl
    clear hH12
    have f26 : 0 ≤ H12.1 11 47 0 ∧ H12.1 11 47 0 ≤ 3 := hT13.2.1 47
    refine J.run0 2 rfl ?_
    try dsimp only
    refine J.ifc rfl rfl rfl (show -2147483648 ≤ H12.1 11 47 0 ∧ H12.1 11 47 0 ≤ 2147483647 from ⟨by omega, by omega⟩) (fun hc => ?_) (fun hc => ?_)
    · have c27 : H12.1 11 47 0 ≤ (0 : Int) := hc
      clear hc
      refine J.run0 2 rfl ?_
      try dsimp only
      have f28 : 1 ≤ H12.1 11 12 0 ∧ H12.1 11 12 0 ≤ 300 := hT13.2.1 12
      refine J.inv rfl rfl rfl rfl rfl rfl jDr rfl rfl rfl rfl rfl (g_state (b := b) hT13 k15 k16 k17 (show 0 ≤ (b) ∧ (b) < 300 from ⟨by omega, by omega⟩) (show (b) < H12.1 11 12 0 from by omega)) ?_
      rintro v w H31 ⟨rfl, hT32, ehE33, k34, k35, k36, rfl⟩
      have hE33 := jEx.trans ehE33 hE14 (by decide) (by decide)
      have k37 : gZ H31 := gZ.ex k18 ehE33 (by decide)
      have k38 : gQ H31 := gQ.ex k19 ehE33 (by decide)
      have k39 : gB H31 := gB.ex k20 ehE33 (by decide)
      have k40 : gK H31 := gK.ex k21 ehE33 (by decide)
      have k41 : gN H31 := gN.ex k22 ehE33 (by decide)
      have k42 : gW H31 (H31.1 11 19 0) := gWm.ex k23 ehE33 (by decide)
      have g43 : H31.1 11 12 0 = H12.1 11 12 0 := ehE33.v 12 (by decide)
      try dsimp only [Option.toList, List.append, List.cons_append, List.nil_append]
      refine J.run0 1 rfl ?_
      try dsimp only
      refine J.ifc rfl rfl rfl (show -2147483648 ≤ what ∧ what ≤ 2147483647 from ⟨by omega, by omega⟩) (fun hc => ?_) (fun hc => ?_)
      · have c44 : ¬ (what = (0 : Int)) := hc
        clear hc
        refine J.run0 2 rfl ?_
        try dsimp only
        refine J.icmp rfl rfl rfl ⟨(show -2147483648 ≤ what ∧ what ≤ 2147483647 from ⟨by omega, by omega⟩), (show -2147483648 ≤ (17 : Int) ∧ (17 : Int) ≤ 2147483647 from ⟨by omega, by omega⟩)⟩ (fun hc => ?_) (fun hc => ?_)
        · have c45 : (17 : Int) ≤ what := hc
          clear hc
          refine J.run0 4 rfl ?_
          try dsimp only
          exact (g_account_l0 (H0 := H) (b := b) (a := a) (what := what)  hp0 hp1 hp2 ((32 - ((0 : Int)) : Int).toNat + 1)) ((0 : Int)) ((0 : Int)) H31 _ (show 32 - ((0 : Int)) < _ by omega) (show 0 ≤ ((0 : Int)) ∧ ((0 : Int)) ≤ 32 from ⟨by omega, by omega⟩) (show 0 ≤ ((0 : Int)) ∧ ((0 : Int)) ≤ 201600 * ((0 : Int)) from ⟨by omega, by omega⟩) (show 0 ≤ a ∧ a ≤ 199 from ⟨by omega, by omega⟩) hT32 hE33 k34 k35 k36 k37 k38 k39 k40 k41 k42 rfl
        · have c46 : ¬ ((17 : Int) ≤ what) := hc
          clear hc
          have f47 : 0 ≤ H31.2.2.1 100 0 ((((16 : Int) * a) + what) - (1 : Int)) ∧ H31.2.2.1 100 0 ((((16 : Int) * a) + what) - (1 : Int)) ≤ 201600 := hT32.1 100 ((((16 : Int) * a) + what) - (1 : Int))
          refine J.run 10 rfl (show 0 ≤ (((16 : Int) * a) + what) - (1 : Int) ∧ (((16 : Int) * a) + what) - (1 : Int) < 3200 from ⟨by omega, by omega⟩) ?_
          try dsimp only
          exact J.reti rfl rfl rfl ⟨_, rfl, rfl, hT32, hE33, k34, k35, k36, k37, k38, k39, k40, k41, k42, _, rfl, (show -2147483648 ≤ (H31.2.2.1 100 0 ((((16 : Int) * a) + what) - (1 : Int))) ∧ (H31.2.2.1 100 0 ((((16 : Int) * a) + what) - (1 : Int))) ≤ 2147483647 from ⟨by omega, by omega⟩)⟩
      · have c48 : ¬ (¬ (what = (0 : Int))) := hc
        clear hc
        have f49 : 0 ≤ H31.2.2.1 99 0 (a) ∧ H31.2.2.1 99 0 (a) ≤ 201600 := hT32.1 99 (a)
        refine J.run 4 rfl (show 0 ≤ a ∧ a < 200 from ⟨by omega, by omega⟩) ?_
        try dsimp only
        exact J.reti rfl rfl rfl ⟨_, rfl, rfl, hT32, hE33, k34, k35, k36, k37, k38, k39, k40, k41, k42, _, rfl, (show -2147483648 ≤ (H31.2.2.1 99 0 (a)) ∧ (H31.2.2.1 99 0 (a)) ≤ 2147483647 from ⟨by omega, by omega⟩)⟩
    · have c50 : ¬ (H12.1 11 47 0 ≤ (0 : Int)) := hc
      clear hc
      refine J.run0 1 rfl ?_
      try dsimp only
      exact J.reti rfl rfl rfl ⟨_, rfl, rfl, hT13, hE14, k15, k16, k17, k18, k19, k20, k21, k22, k23, _, rfl, (show -2147483648 ≤ ((0 : Int)) ∧ ((0 : Int)) ≤ 2147483647 from ⟨by omega, by omega⟩)⟩
  · have c51 : ¬ (x9 = (0 : Int)) := hc
    clear hc
    refine J.run0 3 rfl ?_
    try dsimp only
    refine J.ins rfl rfl rfl rfl rfl rfl rfl rfl rfl (g_in (u := a) (a := (0 : Int)) (b := (199 : Int)) hT  (show -2147483648 ≤ (a) ∧ (a) ≤ 2147483647 from ⟨by omega, by omega⟩) (show -2147483648 ≤ ((0 : Int)) ∧ ((0 : Int)) ≤ 2147483647 from ⟨by omega, by omega⟩) (show -2147483648 ≤ ((199 : Int)) ∧ ((199 : Int)) ≤ 2147483647 from ⟨by omega, by omega⟩)) ?_
    rintro v w H ⟨rfl, rfl, x52, rfl, r53⟩
    have r53' : (x52 = 0 ∨ x52 = 1) ∧ (x52 = 1 → (a) ≥ ((0 : Int)) ∧ (a) ≤ ((199 : Int))) ∧ (x52 = 0 → (a) < ((0 : Int)) ∨ ((199 : Int)) < (a)) := r53
    try dsimp only [Option.toList, List.append, List.cons_append, List.nil_append]
    refine J.ifc rfl rfl rfl (show -2147483648 ≤ x52 ∧ x52 ≤ 2147483647 from ⟨by omega, by omega⟩) (fun hc => ?_) (fun hc => ?_)
    · have c54 : ¬ (x52 = (0 : Int)) := hc
      clear hc
      refine J.run0 2 rfl ?_
      try dsimp only
      refine J.inv rfl rfl rfl rfl rfl rfl jDr rfl rfl rfl rfl rfl (g_isSound (b := b) hT k0gP k0gX k0gL k0gZ (show 0 ≤ (b) ∧ (b) < 300 from ⟨by omega, by omega⟩) (show (b) < H.1 11 12 0 from by omega)) ?_
      rintro v w H57 ⟨rfl, hT58, ehE59, k60, k61, k62, k63, x55, rfl, r56⟩
      have hE59 := jEx.trans ehE59 hE (by decide) (by decide)
      have r56' : 0 ≤ x55 ∧ x55 ≤ 1 := r56
      have k64 : gQ H57 := gQ.ex k0gQ ehE59 (by decide)
      have k65 : gB H57 := gB.ex k0gB ehE59 (by decide)
      have k66 : gK H57 := gK.ex k0gK ehE59 (by decide)
      have k67 : gN H57 := gN.ex k0gN ehE59 (by decide)
      have k68 : gW H57 (H57.1 11 19 0) := gWm.ex k0gW ehE59 (by decide)
      have g69 : H57.1 11 12 0 = H.1 11 12 0 := ehE59.v 12 (by decide)
      try dsimp only [Option.toList, List.append, List.cons_append, List.nil_append]
      refine J.ifc rfl rfl rfl (show -2147483648 ≤ x55 ∧ x55 ≤ 2147483647 from ⟨by omega, by omega⟩) (fun hc => ?_) (fun hc => ?_)
      · have c70 : ¬ (x55 = (0 : Int)) := hc
        clear hc
        refine J.run0 3 rfl ?_
        try dsimp only
        refine J.ins rfl rfl rfl rfl rfl rfl rfl rfl rfl (g_in (u := what) (a := (0 : Int)) (b := (17 : Int)) hT58  (show -2147483648 ≤ (what) ∧ (what) ≤ 2147483647 from ⟨by omega, by omega⟩) (show -2147483648 ≤ ((0 : Int)) ∧ ((0 : Int)) ≤ 2147483647 from ⟨by omega, by omega⟩) (show -2147483648 ≤ ((17 : Int)) ∧ ((17 : Int)) ≤ 2147483647 from ⟨by omega, by omega⟩)) ?_
        rintro v w H57 ⟨rfl, rfl, x71, rfl, r72⟩
        have r72' : (x71 = 0 ∨ x71 = 1) ∧ (x71 = 1 → (what) ≥ ((0 : Int)) ∧ (what) ≤ ((17 : Int))) ∧ (x71 = 0 → (what) < ((0 : Int)) ∨ ((17 : Int)) < (what)) := r72
        try dsimp only [Option.toList, List.append, List.cons_append, List.nil_append]
        refine J.ifc rfl rfl rfl (show -2147483648 ≤ x71 ∧ x71 ≤ 2147483647 from ⟨by omega, by omega⟩) (fun hc => ?_) (fun hc => ?_)
        · have c73 : ¬ (x71 = (0 : Int)) := hc
          clear hc
          refine J.run0 2 rfl ?_
          try dsimp only
          refine J.gn fun H74 hH74 => ?_
          have hT75 : gT H74 := by rw [hH74]; exact gT.num (f := 47) hT58 (show 0 ≤ (0 : Int) ∧ (0 : Int) ≤ 3 from ⟨by omega, by omega⟩) (by decide) (fun z => absurd z (by decide))
          have hE76 : jEx [48, 56, 57, 47] [108, 99, 100, 101, 105, 102, 103, 104, 61] H74 H := by rw [hH74]; exact jEx.num hE59 (by decide)
          have k77 : gP H74 := by rw [hH74]; exact k60
          have k78 : gX H74 := by rw [hH74]; exact k61
          have k79 : gL H74 := by rw [hH74]; exact k62
          have k80 : gZ H74 := by rw [hH74]; exact k63
          have k81 : gQ H74 := by rw [hH74]; exact k64
          have k82 : gB H74 := by rw [hH74]; exact k65
          have k83 : gK H74 := by rw [hH74]; exact k66
          have k84 : gN H74 := by rw [hH74]; exact k67
          have k85 : gW H74 (H74.1 11 19 0) := by rw [hH74]; exact k68
          have g86 : H74.1 11 47 0 = (0 : Int) := by subst hH74; rfl
          have g87 : H74.1 11 12 0 = H57.1 11 12 0 := by subst hH74; rfl
          clear hH74
          have f88 : 0 ≤ H74.1 11 47 0 ∧ H74.1 11 47 0 ≤ 3 := hT75.2.1 47
          refine J.run0 2 rfl ?_
          try dsimp only
          refine J.ifc rfl rfl rfl (show -2147483648 ≤ H74.1 11 47 0 ∧ H74.1 11 47 0 ≤ 2147483647 from ⟨by omega, by omega⟩) (fun hc => ?_) (fun hc => ?_)
          · have c89 : H74.1 11 47 0 ≤ (0 : Int) := hc
            clear hc
            refine J.run0 2 rfl ?_
            try dsimp only
            have f90 : 1 ≤ H74.1 11 12 0 ∧ H74.1 11 12 0 ≤ 300 := hT75.2.1 12
            refine J.inv rfl rfl rfl rfl rfl rfl jDr rfl rfl rfl rfl rfl (g_state (b := b) hT75 k77 k78 k79 (show 0 ≤ (b) ∧ (b) < 300 from ⟨by omega, by omega⟩) (show (b) < H74.1 11 12 0 from by omega)) ?_
            rintro v w H93 ⟨rfl, hT94, ehE95, k96, k97, k98, rfl⟩
            have hE95 := jEx.trans ehE95 hE76 (by decide) (by decide)
            have k99 : gZ H93 := gZ.ex k80 ehE95 (by decide)
            have k100 : gQ H93 := gQ.ex k81 ehE95 (by decide)
            have k101 : gB H93 := gB.ex k82 ehE95 (by decide)
            have k102 : gK H93 := gK.ex k83 ehE95 (by decide)
            have k103 : gN H93 := gN.ex k84 ehE95 (by decide)
            have k104 : gW H93 (H93.1 11 19 0) := gWm.ex k85 ehE95 (by decide)
            have g105 : H93.1 11 12 0 = H74.1 11 12 0 := ehE95.v 12 (by decide)
            try dsimp only [Option.toList, List.append, List.cons_append, List.nil_append]
            refine J.run0 1 rfl ?_
            try dsimp only
            refine J.ifc rfl rfl rfl (show -2147483648 ≤ what ∧ what ≤ 2147483647 from ⟨by omega, by omega⟩) (fun hc => ?_) (fun hc => ?_)
            · have c106 : ¬ (what = (0 : Int)) := hc
              clear hc
              refine J.run0 2 rfl ?_
              try dsimp only
              refine J.icmp rfl rfl rfl ⟨(show -2147483648 ≤ what ∧ what ≤ 2147483647 from ⟨by omega, by omega⟩), (show -2147483648 ≤ (17 : Int) ∧ (17 : Int) ≤ 2147483647 from ⟨by omega, by omega⟩)⟩ (fun hc => ?_) (fun hc => ?_)
              · have c107 : (17 : Int) ≤ what := hc
                clear hc
                refine J.run0 4 rfl ?_
                try dsimp only
                exact (g_account_l0 (H0 := H) (b := b) (a := a) (what := what)  hp0 hp1 hp2 ((32 - ((0 : Int)) : Int).toNat + 1)) ((0 : Int)) ((0 : Int)) H93 _ (show 32 - ((0 : Int)) < _ by omega) (show 0 ≤ ((0 : Int)) ∧ ((0 : Int)) ≤ 32 from ⟨by omega, by omega⟩) (show 0 ≤ ((0 : Int)) ∧ ((0 : Int)) ≤ 201600 * ((0 : Int)) from ⟨by omega, by omega⟩) (show 0 ≤ a ∧ a ≤ 199 from ⟨by omega, by omega⟩) hT94 hE95 k96 k97 k98 k99 k100 k101 k102 k103 k104 rfl
              · have c108 : ¬ ((17 : Int) ≤ what) := hc
                clear hc
                have f109 : 0 ≤ H93.2.2.1 100 0 ((((16 : Int) * a) + what) - (1 : Int)) ∧ H93.2.2.1 100 0 ((((16 : Int) * a) + what) - (1 : Int)) ≤ 201600 := hT94.1 100 ((((16 : Int) * a) + what) - (1 : Int))
                refine J.run 10 rfl (show 0 ≤ (((16 : Int) * a) + what) - (1 : Int) ∧ (((16 : Int) * a) + what) - (1 : Int) < 3200 from ⟨by omega, by omega⟩) ?_
                try dsimp only
                exact J.reti rfl rfl rfl ⟨_, rfl, rfl, hT94, hE95, k96, k97, k98, k99, k100, k101, k102, k103, k104, _, rfl, (show -2147483648 ≤ (H93.2.2.1 100 0 ((((16 : Int) * a) + what) - (1 : Int))) ∧ (H93.2.2.1 100 0 ((((16 : Int) * a) + what) - (1 : Int))) ≤ 2147483647 from ⟨by omega, by omega⟩)⟩
            · have c110 : ¬ (¬ (what = (0 : Int))) := hc
              clear hc
              have f111 : 0 ≤ H93.2.2.1 99 0 (a) ∧ H93.2.2.1 99 0 (a) ≤ 201600 := hT94.1 99 (a)
              refine J.run 4 rfl (show 0 ≤ a ∧ a < 200 from ⟨by omega, by omega⟩) ?_
              try dsimp only
              exact J.reti rfl rfl rfl ⟨_, rfl, rfl, hT94, hE95, k96, k97, k98, k99, k100, k101, k102, k103, k104, _, rfl, (show -2147483648 ≤ (H93.2.2.1 99 0 (a)) ∧ (H93.2.2.1 99 0 (a)) ≤ 2147483647 from ⟨by omega, by omega⟩)⟩
          · have c112 : ¬ (H74.1 11 47 0 ≤ (0 : Int)) := hc
            clear hc
            refine J.run0 1 rfl ?_
            try dsimp only
            exact J.reti rfl rfl rfl ⟨_, rfl, rfl, hT75, hE76, k77, k78, k79, k80, k81, k82, k83, k84, k85, _, rfl, (show -2147483648 ≤ ((0 : Int)) ∧ ((0 : Int)) ≤ 2147483647 from ⟨by omega, by omega⟩)⟩
        · have c113 : ¬ (¬ (x71 = (0 : Int))) := hc
          clear hc
          refine J.run0 3 rfl ?_
          try dsimp only
          refine J.gn fun H114 hH114 => ?_
          have hT115 : gT H114 := by rw [hH114]; exact gT.num (f := 47) hT58 (show 0 ≤ (3 : Int) ∧ (3 : Int) ≤ 3 from ⟨by omega, by omega⟩) (by decide) (fun z => absurd z (by decide))
          have hE116 : jEx [48, 56, 57, 47] [108, 99, 100, 101, 105, 102, 103, 104, 61] H114 H := by rw [hH114]; exact jEx.num hE59 (by decide)
          have k117 : gP H114 := by rw [hH114]; exact k60
          have k118 : gX H114 := by rw [hH114]; exact k61
          have k119 : gL H114 := by rw [hH114]; exact k62
          have k120 : gZ H114 := by rw [hH114]; exact k63
          have k121 : gQ H114 := by rw [hH114]; exact k64
          have k122 : gB H114 := by rw [hH114]; exact k65
          have k123 : gK H114 := by rw [hH114]; exact k66
          have k124 : gN H114 := by rw [hH114]; exact k67
          have k125 : gW H114 (H114.1 11 19 0) := by rw [hH114]; exact k68
          have g126 : H114.1 11 47 0 = (3 : Int) := by subst hH114; rfl
          have g127 : H114.1 11 12 0 = H57.1 11 12 0 := by subst hH114; rfl
          clear hH114
          have f128 : 0 ≤ H114.1 11 47 0 ∧ H114.1 11 47 0 ≤ 3 := hT115.2.1 47
          refine J.run0 2 rfl ?_
          try dsimp only
          refine J.ifc rfl rfl rfl (show -2147483648 ≤ H114.1 11 47 0 ∧ H114.1 11 47 0 ≤ 2147483647 from ⟨by omega, by omega⟩) (fun hc => ?_) (fun hc => ?_)
          · have c129 : H114.1 11 47 0 ≤ (0 : Int) := hc
            clear hc
            refine J.run0 2 rfl ?_
            try dsimp only
            have f130 : 1 ≤ H114.1 11 12 0 ∧ H114.1 11 12 0 ≤ 300 := hT115.2.1 12
            refine J.inv rfl rfl rfl rfl rfl rfl jDr rfl rfl rfl rfl rfl (g_state (b := b) hT115 k117 k118 k119 (show 0 ≤ (b) ∧ (b) < 300 from ⟨by omega, by omega⟩) (show (b) < H114.1 11 12 0 from by omega)) ?_
            rintro v w H133 ⟨rfl, hT134, ehE135, k136, k137, k138, rfl⟩
            have hE135 := jEx.trans ehE135 hE116 (by decide) (by decide)
            have k139 : gZ H133 := gZ.ex k120 ehE135 (by decide)
            have k140 : gQ H133 := gQ.ex k121 ehE135 (by decide)
            have k141 : gB H133 := gB.ex k122 ehE135 (by decide)
            have k142 : gK H133 := gK.ex k123 ehE135 (by decide)
            have k143 : gN H133 := gN.ex k124 ehE135 (by decide)
            have k144 : gW H133 (H133.1 11 19 0) := gWm.ex k125 ehE135 (by decide)
            have g145 : H133.1 11 12 0 = H114.1 11 12 0 := ehE135.v 12 (by decide)
            try dsimp only [Option.toList, List.append, List.cons_append, List.nil_append]
            refine J.run0 1 rfl ?_
            try dsimp only
            refine J.ifc rfl rfl rfl (show -2147483648 ≤ what ∧ what ≤ 2147483647 from ⟨by omega, by omega⟩) (fun hc => ?_) (fun hc => ?_)
            · have c146 : ¬ (what = (0 : Int)) := hc
              clear hc
              refine J.run0 2 rfl ?_
              try dsimp only
              refine J.icmp rfl rfl rfl ⟨(show -2147483648 ≤ what ∧ what ≤ 2147483647 from ⟨by omega, by omega⟩), (show -2147483648 ≤ (17 : Int) ∧ (17 : Int) ≤ 2147483647 from ⟨by omega, by omega⟩)⟩ (fun hc => ?_) (fun hc => ?_)
              · have c147 : (17 : Int) ≤ what := hc
                clear hc
                refine J.run0 4 rfl ?_
                try dsimp only
                exact (g_account_l0 (H0 := H) (b := b) (a := a) (what := what)  hp0 hp1 hp2 ((32 - ((0 : Int)) : Int).toNat + 1)) ((0 : Int)) ((0 : Int)) H133 _ (show 32 - ((0 : Int)) < _ by omega) (show 0 ≤ ((0 : Int)) ∧ ((0 : Int)) ≤ 32 from ⟨by omega, by omega⟩) (show 0 ≤ ((0 : Int)) ∧ ((0 : Int)) ≤ 201600 * ((0 : Int)) from ⟨by omega, by omega⟩) (show 0 ≤ a ∧ a ≤ 199 from ⟨by omega, by omega⟩) hT134 hE135 k136 k137 k138 k139 k140 k141 k142 k143 k144 rfl
              · have c148 : ¬ ((17 : Int) ≤ what) := hc
                clear hc
                have f149 : 0 ≤ H133.2.2.1 100 0 ((((16 : Int) * a) + what) - (1 : Int)) ∧ H133.2.2.1 100 0 ((((16 : Int) * a) + what) - (1 : Int)) ≤ 201600 := hT134.1 100 ((((16 : Int) * a) + what) - (1 : Int))
                refine J.run 10 rfl (show 0 ≤ (((16 : Int) * a) + what) - (1 : Int) ∧ (((16 : Int) * a) + what) - (1 : Int) < 3200 from ⟨by omega, by omega⟩) ?_
                try dsimp only
                exact J.reti rfl rfl rfl ⟨_, rfl, rfl, hT134, hE135, k136, k137, k138, k139, k140, k141, k142, k143, k144, _, rfl, (show -2147483648 ≤ (H133.2.2.1 100 0 ((((16 : Int) * a) + what) - (1 : Int))) ∧ (H133.2.2.1 100 0 ((((16 : Int) * a) + what) - (1 : Int))) ≤ 2147483647 from ⟨by omega, by omega⟩)⟩
            · have c150 : ¬ (¬ (what = (0 : Int))) := hc
              clear hc
              have f151 : 0 ≤ H133.2.2.1 99 0 (a) ∧ H133.2.2.1 99 0 (a) ≤ 201600 := hT134.1 99 (a)
              refine J.run 4 rfl (show 0 ≤ a ∧ a < 200 from ⟨by omega, by omega⟩) ?_
              try dsimp only
              exact J.reti rfl rfl rfl ⟨_, rfl, rfl, hT134, hE135, k136, k137, k138, k139, k140, k141, k142, k143, k144, _, rfl, (show -2147483648 ≤ (H133.2.2.1 99 0 (a)) ∧ (H133.2.2.1 99 0 (a)) ≤ 2147483647 from ⟨by omega, by omega⟩)⟩
          · have c152 : ¬ (H114.1 11 47 0 ≤ (0 : Int)) := hc
            clear hc
            refine J.run0 1 rfl ?_
            try dsimp only
            exact J.reti rfl rfl rfl ⟨_, rfl, rfl, hT115, hE116, k117, k118, k119, k120, k121, k122, k123, k124, k125, _, rfl, (show -2147483648 ≤ ((0 : Int)) ∧ ((0 : Int)) ≤ 2147483647 from ⟨by omega, by omega⟩)⟩
      · have c153 : ¬ (¬ (x55 = (0 : Int))) := hc
        clear hc
        refine J.run0 3 rfl ?_
        try dsimp only
        refine J.gn fun H154 hH154 => ?_
        have hT155 : gT H154 := by rw [hH154]; exact gT.num (f := 47) hT58 (show 0 ≤ (2 : Int) ∧ (2 : Int) ≤ 3 from ⟨by omega, by omega⟩) (by decide) (fun z => absurd z (by decide))
        have hE156 : jEx [48, 56, 57, 47] [108, 99, 100, 101, 105, 102, 103, 104, 61] H154 H := by rw [hH154]; exact jEx.num hE59 (by decide)
        have k157 : gP H154 := by rw [hH154]; exact k60
        have k158 : gX H154 := by rw [hH154]; exact k61
        have k159 : gL H154 := by rw [hH154]; exact k62
        have k160 : gZ H154 := by rw [hH154]; exact k63
        have k161 : gQ H154 := by rw [hH154]; exact k64
        have k162 : gB H154 := by rw [hH154]; exact k65
        have k163 : gK H154 := by rw [hH154]; exact k66
        have k164 : gN H154 := by rw [hH154]; exact k67
        have k165 : gW H154 (H154.1 11 19 0) := by rw [hH154]; exact k68
        have g166 : H154.1 11 47 0 = (2 : Int) := by subst hH154; rfl
        have g167 : H154.1 11 12 0 = H57.1 11 12 0 := by subst hH154; rfl
        clear hH154
        have f168 : 0 ≤ H154.1 11 47 0 ∧ H154.1 11 47 0 ≤ 3 := hT155.2.1 47
        refine J.run0 2 rfl ?_
        try dsimp only
        refine J.ifc rfl rfl rfl (show -2147483648 ≤ H154.1 11 47 0 ∧ H154.1 11 47 0 ≤ 2147483647 from ⟨by omega, by omega⟩) (fun hc => ?_) (fun hc => ?_)
        · have c169 : H154.1 11 47 0 ≤ (0 : Int) := hc
          clear hc
          refine J.run0 2 rfl ?_
          try dsimp only
          have f170 : 1 ≤ H154.1 11 12 0 ∧ H154.1 11 12 0 ≤ 300 := hT155.2.1 12
          refine J.inv rfl rfl rfl rfl rfl rfl jDr rfl rfl rfl rfl rfl (g_state (b := b) hT155 k157 k158 k159 (show 0 ≤ (b) ∧ (b) < 300 from ⟨by omega, by omega⟩) (show (b) < H154.1 11 12 0 from by omega)) ?_
          rintro v w H173 ⟨rfl, hT174, ehE175, k176, k177, k178, rfl⟩
          have hE175 := jEx.trans ehE175 hE156 (by decide) (by decide)
          have k179 : gZ H173 := gZ.ex k160 ehE175 (by decide)
          have k180 : gQ H173 := gQ.ex k161 ehE175 (by decide)
          have k181 : gB H173 := gB.ex k162 ehE175 (by decide)
          have k182 : gK H173 := gK.ex k163 ehE175 (by decide)
          have k183 : gN H173 := gN.ex k164 ehE175 (by decide)
          have k184 : gW H173 (H173.1 11 19 0) := gWm.ex k165 ehE175 (by decide)
          have g185 : H173.1 11 12 0 = H154.1 11 12 0 := ehE175.v 12 (by decide)
          try dsimp only [Option.toList, List.append, List.cons_append, List.nil_append]
          refine J.run0 1 rfl ?_
          try dsimp only
          refine J.ifc rfl rfl rfl (show -2147483648 ≤ what ∧ what ≤ 2147483647 from ⟨by omega, by omega⟩) (fun hc => ?_) (fun hc => ?_)
          · have c186 : ¬ (what = (0 : Int)) := hc
            clear hc
            refine J.run0 2 rfl ?_
            try dsimp only
            refine J.icmp rfl rfl rfl ⟨(show -2147483648 ≤ what ∧ what ≤ 2147483647 from ⟨by omega, by omega⟩), (show -2147483648 ≤ (17 : Int) ∧ (17 : Int) ≤ 2147483647 from ⟨by omega, by omega⟩)⟩ (fun hc => ?_) (fun hc => ?_)
            · have c187 : (17 : Int) ≤ what := hc
              clear hc
              refine J.run0 4 rfl ?_
              try dsimp only
              exact (g_account_l0 (H0 := H) (b := b) (a := a) (what := what)  hp0 hp1 hp2 ((32 - ((0 : Int)) : Int).toNat + 1)) ((0 : Int)) ((0 : Int)) H173 _ (show 32 - ((0 : Int)) < _ by omega) (show 0 ≤ ((0 : Int)) ∧ ((0 : Int)) ≤ 32 from ⟨by omega, by omega⟩) (show 0 ≤ ((0 : Int)) ∧ ((0 : Int)) ≤ 201600 * ((0 : Int)) from ⟨by omega, by omega⟩) (show 0 ≤ a ∧ a ≤ 199 from ⟨by omega, by omega⟩) hT174 hE175 k176 k177 k178 k179 k180 k181 k182 k183 k184 rfl
            · have c188 : ¬ ((17 : Int) ≤ what) := hc
              clear hc
              have f189 : 0 ≤ H173.2.2.1 100 0 ((((16 : Int) * a) + what) - (1 : Int)) ∧ H173.2.2.1 100 0 ((((16 : Int) * a) + what) - (1 : Int)) ≤ 201600 := hT174.1 100 ((((16 : Int) * a) + what) - (1 : Int))
              refine J.run 10 rfl (show 0 ≤ (((16 : Int) * a) + what) - (1 : Int) ∧ (((16 : Int) * a) + what) - (1 : Int) < 3200 from ⟨by omega, by omega⟩) ?_
              try dsimp only
              exact J.reti rfl rfl rfl ⟨_, rfl, rfl, hT174, hE175, k176, k177, k178, k179, k180, k181, k182, k183, k184, _, rfl, (show -2147483648 ≤ (H173.2.2.1 100 0 ((((16 : Int) * a) + what) - (1 : Int))) ∧ (H173.2.2.1 100 0 ((((16 : Int) * a) + what) - (1 : Int))) ≤ 2147483647 from ⟨by omega, by omega⟩)⟩
          · have c190 : ¬ (¬ (what = (0 : Int))) := hc
            clear hc
            have f191 : 0 ≤ H173.2.2.1 99 0 (a) ∧ H173.2.2.1 99 0 (a) ≤ 201600 := hT174.1 99 (a)
            refine J.run 4 rfl (show 0 ≤ a ∧ a < 200 from ⟨by omega, by omega⟩) ?_
            try dsimp only
            exact J.reti rfl rfl rfl ⟨_, rfl, rfl, hT174, hE175, k176, k177, k178, k179, k180, k181, k182, k183, k184, _, rfl, (show -2147483648 ≤ (H173.2.2.1 99 0 (a)) ∧ (H173.2.2.1 99 0 (a)) ≤ 2147483647 from ⟨by omega, by omega⟩)⟩
        · have c192 : ¬ (H154.1 11 47 0 ≤ (0 : Int)) := hc
          clear hc
          refine J.run0 1 rfl ?_
          try dsimp only
          exact J.reti rfl rfl rfl ⟨_, rfl, rfl, hT155, hE156, k157, k158, k159, k160, k161, k162, k163, k164, k165, _, rfl, (show -2147483648 ≤ ((0 : Int)) ∧ ((0 : Int)) ≤ 2147483647 from ⟨by omega, by omega⟩)⟩
    · have c193 : ¬ (¬ (x52 = (0 : Int))) := hc
      clear hc
      refine J.run0 3 rfl ?_
      try dsimp only
      refine J.gn fun H194 hH194 => ?_
      have hT195 : gT H194 := by rw [hH194]; exact gT.num (f := 47) hT (show 0 ≤ (1 : Int) ∧ (1 : Int) ≤ 3 from ⟨by omega, by omega⟩) (by decide) (fun z => absurd z (by decide))
      have hE196 : jEx [48, 56, 57, 47] [108, 99, 100, 101, 105, 102, 103, 104, 61] H194 H := by rw [hH194]; exact jEx.num hE (by decide)
      have k197 : gP H194 := by rw [hH194]; exact k0gP
      have k198 : gX H194 := by rw [hH194]; exact k0gX
      have k199 : gL H194 := by rw [hH194]; exact k0gL
      have k200 : gZ H194 := by rw [hH194]; exact k0gZ
      have k201 : gQ H194 := by rw [hH194]; exact k0gQ
      have k202 : gB H194 := by rw [hH194]; exact k0gB
      have k203 : gK H194 := by rw [hH194]; exact k0gK
      have k204 : gN H194 := by rw [hH194]; exact k0gN
      have k205 : gW H194 (H194.1 11 19 0) := by rw [hH194]; exact k0gW
      have g206 : H194.1 11 47 0 = (1 : Int) := by subst hH194; rfl
      have g207 : H194.1 11 12 0 = H.1 11 12 0 := by subst hH194; rfl
      clear hH194
      have f208 : 0 ≤ H194.1 11 47 0 ∧ H194.1 11 47 0 ≤ 3 := hT195.2.1 47
      refine J.run0 2 rfl ?_
      try dsimp only
      refine J.ifc rfl rfl rfl (show -2147483648 ≤ H194.1 11 47 0 ∧ H194.1 11 47 0 ≤ 2147483647 from ⟨by omega, by omega⟩) (fun hc => ?_) (fun hc => ?_)
      · have c209 : H194.1 11 47 0 ≤ (0 : Int) := hc
        clear hc
        refine J.run0 2 rfl ?_
        try dsimp only
        have f210 : 1 ≤ H194.1 11 12 0 ∧ H194.1 11 12 0 ≤ 300 := hT195.2.1 12
        refine J.inv rfl rfl rfl rfl rfl rfl jDr rfl rfl rfl rfl rfl (g_state (b := b) hT195 k197 k198 k199 (show 0 ≤ (b) ∧ (b) < 300 from ⟨by omega, by omega⟩) (show (b) < H194.1 11 12 0 from by omega)) ?_
        rintro v w H213 ⟨rfl, hT214, ehE215, k216, k217, k218, rfl⟩
        have hE215 := jEx.trans ehE215 hE196 (by decide) (by decide)
        have k219 : gZ H213 := gZ.ex k200 ehE215 (by decide)
        have k220 : gQ H213 := gQ.ex k201 ehE215 (by decide)
        have k221 : gB H213 := gB.ex k202 ehE215 (by decide)
        have k222 : gK H213 := gK.ex k203 ehE215 (by decide)
        have k223 : gN H213 := gN.ex k204 ehE215 (by decide)
        have k224 : gW H213 (H213.1 11 19 0) := gWm.ex k205 ehE215 (by decide)
        have g225 : H213.1 11 12 0 = H194.1 11 12 0 := ehE215.v 12 (by decide)
        try dsimp only [Option.toList, List.append, List.cons_append, List.nil_append]
        refine J.run0 1 rfl ?_
        try dsimp only
        refine J.ifc rfl rfl rfl (show -2147483648 ≤ what ∧ what ≤ 2147483647 from ⟨by omega, by omega⟩) (fun hc => ?_) (fun hc => ?_)
        · have c226 : ¬ (what = (0 : Int)) := hc
          clear hc
          refine J.run0 2 rfl ?_
          try dsimp only
          refine J.icmp rfl rfl rfl ⟨(show -2147483648 ≤ what ∧ what ≤ 2147483647 from ⟨by omega, by omega⟩), (show -2147483648 ≤ (17 : Int) ∧ (17 : Int) ≤ 2147483647 from ⟨by omega, by omega⟩)⟩ (fun hc => ?_) (fun hc => ?_)
          · have c227 : (17 : Int) ≤ what := hc
            clear hc
            refine J.run0 4 rfl ?_
            try dsimp only
            exact (g_account_l0 (H0 := H) (b := b) (a := a) (what := what)  hp0 hp1 hp2 ((32 - ((0 : Int)) : Int).toNat + 1)) ((0 : Int)) ((0 : Int)) H213 _ (show 32 - ((0 : Int)) < _ by omega) (show 0 ≤ ((0 : Int)) ∧ ((0 : Int)) ≤ 32 from ⟨by omega, by omega⟩) (show 0 ≤ ((0 : Int)) ∧ ((0 : Int)) ≤ 201600 * ((0 : Int)) from ⟨by omega, by omega⟩) (show 0 ≤ a ∧ a ≤ 199 from ⟨by omega, by omega⟩) hT214 hE215 k216 k217 k218 k219 k220 k221 k222 k223 k224 rfl
          · have c228 : ¬ ((17 : Int) ≤ what) := hc
            clear hc
            have f229 : 0 ≤ H213.2.2.1 100 0 ((((16 : Int) * a) + what) - (1 : Int)) ∧ H213.2.2.1 100 0 ((((16 : Int) * a) + what) - (1 : Int)) ≤ 201600 := hT214.1 100 ((((16 : Int) * a) + what) - (1 : Int))
            refine J.run 10 rfl (show 0 ≤ (((16 : Int) * a) + what) - (1 : Int) ∧ (((16 : Int) * a) + what) - (1 : Int) < 3200 from ⟨by omega, by omega⟩) ?_
            try dsimp only
            exact J.reti rfl rfl rfl ⟨_, rfl, rfl, hT214, hE215, k216, k217, k218, k219, k220, k221, k222, k223, k224, _, rfl, (show -2147483648 ≤ (H213.2.2.1 100 0 ((((16 : Int) * a) + what) - (1 : Int))) ∧ (H213.2.2.1 100 0 ((((16 : Int) * a) + what) - (1 : Int))) ≤ 2147483647 from ⟨by omega, by omega⟩)⟩
        · have c230 : ¬ (¬ (what = (0 : Int))) := hc
          clear hc
          have f231 : 0 ≤ H213.2.2.1 99 0 (a) ∧ H213.2.2.1 99 0 (a) ≤ 201600 := hT214.1 99 (a)
          refine J.run 4 rfl (show 0 ≤ a ∧ a < 200 from ⟨by omega, by omega⟩) ?_
          try dsimp only
          exact J.reti rfl rfl rfl ⟨_, rfl, rfl, hT214, hE215, k216, k217, k218, k219, k220, k221, k222, k223, k224, _, rfl, (show -2147483648 ≤ (H213.2.2.1 99 0 (a)) ∧ (H213.2.2.1 99 0 (a)) ≤ 2147483647 from ⟨by omega, by omega⟩)⟩
      · have c232 : ¬ (H194.1 11 47 0 ≤ (0 : Int)) := hc
        clear hc
        refine J.run0 1 rfl ?_
        try dsimp only
        exact J.reti rfl rfl rfl ⟨_, rfl, rfl, hT195, hE196, k197, k198, k199, k200, k201, k202, k203, k204, k205, _, rfl, (show -2147483648 ≤ ((0 : Int)) ∧ ((0 : Int)) ≤ 2147483647 from ⟨by omega, by omega⟩)⟩
end
