-- M: X11_sum
section
variable {d : Nat} {w : jW} 
-- 
theorem g_sum_l0 {b what : Int} {H0 : jH} (hp0 : -2147483648 ≤ b ∧ b ≤ 2147483647) (hp1 : -2147483648 ≤ what ∧ what ≤ 2147483647) : ∀ (m : Nat), (∀ (bits all k : Int) (H : jH) (lv : jL), 32 - k < (m : Int) → (0 ≤ k ∧ k ≤ 32) → (0 ≤ all ∧ all ≤ 201600 * (k + 3401)) → gT H → jEx [48, 56, 57, 47] [108, 99, 100, 101, 105, 102, 103, 104, 61] H H0 → gP H → gX H → gL H → gZ H → gQ H → gB H → gK H → gN H → gW H (H.1 11 19 0) → (lv = [(5, .inl k), (4, .inl all), (3, .inl bits), (0, jT), (1, .inl b), (2, .inl what)] ∨ lv = [(5, .inl k), (3, .inl bits), (4, .inl all), (0, jT), (1, .inl b), (2, .inl what)]) → J true (d + 303) 163 w (218, lv, [], H) (jN fun v w' H' => w' = w ∧ gT H' ∧ jEx [48, 56, 57, 47] [108, 99, 100, 101, 105, 102, 103, 104, 61] H' H0 ∧ gP H' ∧ gX H' ∧ gL H' ∧ gZ H' ∧ gQ H' ∧ gB H' ∧ gK H' ∧ gN H' ∧ gW H' (H'.1 11 19 0) ∧ ∃ x, v = some (.inl x) ∧ -2147483648 ≤ x ∧ x ≤ 2147483647)) := by
  intro m
  induction m with
  | zero =>
    skip
    · intro bits all k H lv hm hi0 hi1 hT hE k0gP k0gX k0gL k0gZ k0gQ k0gB k0gK k0gN k0gW hlv
      exfalso
      omega
  | succ m ih =>
    skip
    · intro bits all k H lv hm hi0 hi1 hT hE k0gP k0gX k0gL k0gZ k0gQ k0gB k0gK k0gN k0gW hlv
      rcases hlv with rfl | rfl
      · skip
        have f1 : 0 ≤ H.1 11 56 0 ∧ H.1 11 56 0 ≤ 32 := hT.2.1 56
        refine J.run0 3 rfl ?_
        try dsimp only
        refine J.icmp rfl rfl rfl ⟨(show -2147483648 ≤ k ∧ k ≤ 2147483647 from ⟨by omega, by omega⟩), (show -2147483648 ≤ H.1 11 56 0 ∧ H.1 11 56 0 ≤ 2147483647 from ⟨by omega, by omega⟩)⟩ (fun hc => ?_) (fun hc => ?_)
        · have c2 : H.1 11 56 0 ≤ k := hc
          clear hc
          refine J.run0 1 rfl ?_
          try dsimp only
          exact J.reti rfl rfl rfl ⟨_, rfl, rfl, hT, hE, k0gP, k0gX, k0gL, k0gZ, k0gQ, k0gB, k0gK, k0gN, k0gW, _, rfl, (show -2147483648 ≤ (all) ∧ (all) ≤ 2147483647 from ⟨by omega, by omega⟩)⟩
        · have c3 : ¬ (H.1 11 56 0 ≤ k) := hc
          clear hc
          have f4 : 0 ≤ H.2.2.1 103 0 (k) ∧ H.2.2.1 103 0 (k) ≤ 201600 := hT.1 103 (k)
          refine J.run 9 rfl (show 0 ≤ k ∧ k < 33 from ⟨by omega, by omega⟩) ?_
          try dsimp only
          exact ih (bits) (all + (H.2.2.1 103 0 (k))) (k + 1) H _ (show 32 - (k + 1) < _ by omega) (show 0 ≤ (k + 1) ∧ (k + 1) ≤ 32 from ⟨by omega, by omega⟩) (show 0 ≤ (all + (H.2.2.1 103 0 (k))) ∧ (all + (H.2.2.1 103 0 (k))) ≤ 201600 * ((k + 1) + 3401) from ⟨by omega, by omega⟩) hT hE k0gP k0gX k0gL k0gZ k0gQ k0gB k0gK k0gN k0gW (Or.inl rfl)
      · skip
        have f5 : 0 ≤ H.1 11 56 0 ∧ H.1 11 56 0 ≤ 32 := hT.2.1 56
        refine J.run0 3 rfl ?_
        try dsimp only
        refine J.icmp rfl rfl rfl ⟨(show -2147483648 ≤ k ∧ k ≤ 2147483647 from ⟨by omega, by omega⟩), (show -2147483648 ≤ H.1 11 56 0 ∧ H.1 11 56 0 ≤ 2147483647 from ⟨by omega, by omega⟩)⟩ (fun hc => ?_) (fun hc => ?_)
        · have c6 : H.1 11 56 0 ≤ k := hc
          clear hc
          refine J.run0 1 rfl ?_
          try dsimp only
          exact J.reti rfl rfl rfl ⟨_, rfl, rfl, hT, hE, k0gP, k0gX, k0gL, k0gZ, k0gQ, k0gB, k0gK, k0gN, k0gW, _, rfl, (show -2147483648 ≤ (all) ∧ (all) ≤ 2147483647 from ⟨by omega, by omega⟩)⟩
        · have c7 : ¬ (H.1 11 56 0 ≤ k) := hc
          clear hc
          have f8 : 0 ≤ H.2.2.1 103 0 (k) ∧ H.2.2.1 103 0 (k) ≤ 201600 := hT.1 103 (k)
          refine J.run 9 rfl (show 0 ≤ k ∧ k < 33 from ⟨by omega, by omega⟩) ?_
          try dsimp only
          exact ih (bits) (all + (H.2.2.1 103 0 (k))) (k + 1) H _ (show 32 - (k + 1) < _ by omega) (show 0 ≤ (k + 1) ∧ (k + 1) ≤ 32 from ⟨by omega, by omega⟩) (show 0 ≤ (all + (H.2.2.1 103 0 (k))) ∧ (all + (H.2.2.1 103 0 (k))) ≤ 201600 * ((k + 1) + 3401) from ⟨by omega, by omega⟩) hT hE k0gP k0gX k0gL k0gZ k0gQ k0gB k0gK k0gN k0gW (Or.inl rfl)
-- 
theorem g_sum_l1 {b what : Int} {H0 : jH} (hp0 : -2147483648 ≤ b ∧ b ≤ 2147483647) (hp1 : -2147483648 ≤ what ∧ what ≤ 2147483647) : ∀ (m : Nat), (∀ (bits all k : Int) (H : jH) (lv : jL), 3200 - k < (m : Int) → (0 ≤ k ∧ k ≤ 3200) → (0 ≤ all ∧ all ≤ 201600 * (k + 201)) → gT H → jEx [48, 56, 57, 47] [108, 99, 100, 101, 105, 102, 103, 104, 61] H H0 → gP H → gX H → gL H → gZ H → gQ H → gB H → gK H → gN H → gW H (H.1 11 19 0) → (lv = [(5, .inl k), (4, .inl all), (3, .inl bits), (0, jT), (1, .inl b), (2, .inl what)] ∨ lv = [(5, .inl k), (3, .inl bits), (4, .inl all), (0, jT), (1, .inl b), (2, .inl what)]) → J true (d + 303) 163 w (189, lv, [], H) (jN fun v w' H' => w' = w ∧ gT H' ∧ jEx [48, 56, 57, 47] [108, 99, 100, 101, 105, 102, 103, 104, 61] H' H0 ∧ gP H' ∧ gX H' ∧ gL H' ∧ gZ H' ∧ gQ H' ∧ gB H' ∧ gK H' ∧ gN H' ∧ gW H' (H'.1 11 19 0) ∧ ∃ x, v = some (.inl x) ∧ -2147483648 ≤ x ∧ x ≤ 2147483647)) := by
  intro m
  induction m with
  | zero =>
    skip
    · intro bits all k H lv hm hi0 hi1 hT hE k0gP k0gX k0gL k0gZ k0gQ k0gB k0gK k0gN k0gW hlv
      exfalso
      omega
  | succ m ih =>
    skip
    · intro bits all k H lv hm hi0 hi1 hT hE k0gP k0gX k0gL k0gZ k0gQ k0gB k0gK k0gN k0gW hlv
      rcases hlv with rfl | rfl
      · skip
        refine J.run0 2 rfl ?_
        try dsimp only
        refine J.icmp rfl rfl rfl ⟨(show -2147483648 ≤ k ∧ k ≤ 2147483647 from ⟨by omega, by omega⟩), (show -2147483648 ≤ (3200 : Int) ∧ (3200 : Int) ≤ 2147483647 from ⟨by omega, by omega⟩)⟩ (fun hc => ?_) (fun hc => ?_)
        · have c9 : (3200 : Int) ≤ k := hc
          clear hc
          refine J.run0 2 rfl ?_
          try dsimp only
          exact (g_sum_l0 (H0 := H0) (b := b) (what := what)  hp0 hp1 ((32 - ((0 : Int)) : Int).toNat + 1)) (bits) (all) ((0 : Int)) H _ (show 32 - ((0 : Int)) < _ by omega) (show 0 ≤ ((0 : Int)) ∧ ((0 : Int)) ≤ 32 from ⟨by omega, by omega⟩) (show 0 ≤ (all) ∧ (all) ≤ 201600 * (((0 : Int)) + 3401) from ⟨by omega, by omega⟩) hT hE k0gP k0gX k0gL k0gZ k0gQ k0gB k0gK k0gN k0gW (Or.inl rfl)
        · have c10 : ¬ ((3200 : Int) ≤ k) := hc
          clear hc
          have f11 : 0 ≤ H.2.2.1 100 0 (k) ∧ H.2.2.1 100 0 (k) ≤ 201600 := hT.1 100 (k)
          refine J.run 9 rfl (show 0 ≤ k ∧ k < 3200 from ⟨by omega, by omega⟩) ?_
          try dsimp only
          exact ih (bits) (all + (H.2.2.1 100 0 (k))) (k + 1) H _ (show 3200 - (k + 1) < _ by omega) (show 0 ≤ (k + 1) ∧ (k + 1) ≤ 3200 from ⟨by omega, by omega⟩) (show 0 ≤ (all + (H.2.2.1 100 0 (k))) ∧ (all + (H.2.2.1 100 0 (k))) ≤ 201600 * ((k + 1) + 201) from ⟨by omega, by omega⟩) hT hE k0gP k0gX k0gL k0gZ k0gQ k0gB k0gK k0gN k0gW (Or.inl rfl)
      · skip
        refine J.run0 2 rfl ?_
        try dsimp only
        refine J.icmp rfl rfl rfl ⟨(show -2147483648 ≤ k ∧ k ≤ 2147483647 from ⟨by omega, by omega⟩), (show -2147483648 ≤ (3200 : Int) ∧ (3200 : Int) ≤ 2147483647 from ⟨by omega, by omega⟩)⟩ (fun hc => ?_) (fun hc => ?_)
        · have c12 : (3200 : Int) ≤ k := hc
          clear hc
          refine J.run0 2 rfl ?_
          try dsimp only
          exact (g_sum_l0 (H0 := H0) (b := b) (what := what)  hp0 hp1 ((32 - ((0 : Int)) : Int).toNat + 1)) (bits) (all) ((0 : Int)) H _ (show 32 - ((0 : Int)) < _ by omega) (show 0 ≤ ((0 : Int)) ∧ ((0 : Int)) ≤ 32 from ⟨by omega, by omega⟩) (show 0 ≤ (all) ∧ (all) ≤ 201600 * (((0 : Int)) + 3401) from ⟨by omega, by omega⟩) hT hE k0gP k0gX k0gL k0gZ k0gQ k0gB k0gK k0gN k0gW (Or.inr (rfl))
        · have c13 : ¬ ((3200 : Int) ≤ k) := hc
          clear hc
          have f14 : 0 ≤ H.2.2.1 100 0 (k) ∧ H.2.2.1 100 0 (k) ≤ 201600 := hT.1 100 (k)
          refine J.run 9 rfl (show 0 ≤ k ∧ k < 3200 from ⟨by omega, by omega⟩) ?_
          try dsimp only
          exact ih (bits) (all + (H.2.2.1 100 0 (k))) (k + 1) H _ (show 3200 - (k + 1) < _ by omega) (show 0 ≤ (k + 1) ∧ (k + 1) ≤ 3200 from ⟨by omega, by omega⟩) (show 0 ≤ (all + (H.2.2.1 100 0 (k))) ∧ (all + (H.2.2.1 100 0 (k))) ≤ 201600 * ((k + 1) + 201) from ⟨by omega, by omega⟩) hT hE k0gP k0gX k0gL k0gZ k0gQ k0gB k0gK k0gN k0gW (Or.inl rfl)
-- 
theorem g_sum_l2 {b what : Int} {H0 : jH} (hp0 : -2147483648 ≤ b ∧ b ≤ 2147483647) (hp1 : -2147483648 ≤ what ∧ what ≤ 2147483647) : ∀ (m : Nat), (∀ (bits all k : Int) (H : jH) (lv : jL), 200 - k < (m : Int) → (0 ≤ k ∧ k ≤ 200) → (0 ≤ all ∧ all ≤ 201600 * (k + 1)) → gT H → jEx [48, 56, 57, 47] [108, 99, 100, 101, 105, 102, 103, 104, 61] H H0 → gP H → gX H → gL H → gZ H → gQ H → gB H → gK H → gN H → gW H (H.1 11 19 0) → (lv = [(5, .inl k), (4, .inl all), (3, .inl bits), (0, jT), (1, .inl b), (2, .inl what)] ∨ lv = [(5, .inl k), (3, .inl bits), (4, .inl all), (0, jT), (1, .inl b), (2, .inl what)]) → J true (d + 303) 163 w (160, lv, [], H) (jN fun v w' H' => w' = w ∧ gT H' ∧ jEx [48, 56, 57, 47] [108, 99, 100, 101, 105, 102, 103, 104, 61] H' H0 ∧ gP H' ∧ gX H' ∧ gL H' ∧ gZ H' ∧ gQ H' ∧ gB H' ∧ gK H' ∧ gN H' ∧ gW H' (H'.1 11 19 0) ∧ ∃ x, v = some (.inl x) ∧ -2147483648 ≤ x ∧ x ≤ 2147483647)) := by
  intro m
  induction m with
  | zero =>
    skip
    · intro bits all k H lv hm hi0 hi1 hT hE k0gP k0gX k0gL k0gZ k0gQ k0gB k0gK k0gN k0gW hlv
      exfalso
      omega
  | succ m ih =>
    skip
    · intro bits all k H lv hm hi0 hi1 hT hE k0gP k0gX k0gL k0gZ k0gQ k0gB k0gK k0gN k0gW hlv
      rcases hlv with rfl | rfl
      · skip
        refine J.run0 2 rfl ?_
        try dsimp only
        refine J.icmp rfl rfl rfl ⟨(show -2147483648 ≤ k ∧ k ≤ 2147483647 from ⟨by omega, by omega⟩), (show -2147483648 ≤ (200 : Int) ∧ (200 : Int) ≤ 2147483647 from ⟨by omega, by omega⟩)⟩ (fun hc => ?_) (fun hc => ?_)
        · have c15 : (200 : Int) ≤ k := hc
          clear hc
          refine J.run0 2 rfl ?_
          try dsimp only
          exact (g_sum_l1 (H0 := H0) (b := b) (what := what)  hp0 hp1 ((3200 - ((0 : Int)) : Int).toNat + 1)) (bits) (all) ((0 : Int)) H _ (show 3200 - ((0 : Int)) < _ by omega) (show 0 ≤ ((0 : Int)) ∧ ((0 : Int)) ≤ 3200 from ⟨by omega, by omega⟩) (show 0 ≤ (all) ∧ (all) ≤ 201600 * (((0 : Int)) + 201) from ⟨by omega, by omega⟩) hT hE k0gP k0gX k0gL k0gZ k0gQ k0gB k0gK k0gN k0gW (Or.inl rfl)
        · have c16 : ¬ ((200 : Int) ≤ k) := hc
          clear hc
          have f17 : 0 ≤ H.2.2.1 99 0 (k) ∧ H.2.2.1 99 0 (k) ≤ 201600 := hT.1 99 (k)
          refine J.run 9 rfl (show 0 ≤ k ∧ k < 200 from ⟨by omega, by omega⟩) ?_
          try dsimp only
          exact ih (bits) (all + (H.2.2.1 99 0 (k))) (k + 1) H _ (show 200 - (k + 1) < _ by omega) (show 0 ≤ (k + 1) ∧ (k + 1) ≤ 200 from ⟨by omega, by omega⟩) (show 0 ≤ (all + (H.2.2.1 99 0 (k))) ∧ (all + (H.2.2.1 99 0 (k))) ≤ 201600 * ((k + 1) + 1) from ⟨by omega, by omega⟩) hT hE k0gP k0gX k0gL k0gZ k0gQ k0gB k0gK k0gN k0gW (Or.inl rfl)
      · skip
        refine J.run0 2 rfl ?_
        try dsimp only
        refine J.icmp rfl rfl rfl ⟨(show -2147483648 ≤ k ∧ k ≤ 2147483647 from ⟨by omega, by omega⟩), (show -2147483648 ≤ (200 : Int) ∧ (200 : Int) ≤ 2147483647 from ⟨by omega, by omega⟩)⟩ (fun hc => ?_) (fun hc => ?_)
        · have c18 : (200 : Int) ≤ k := hc
          clear hc
          refine J.run0 2 rfl ?_
          try dsimp only
          exact (g_sum_l1 (H0 := H0) (b := b) (what := what)  hp0 hp1 ((3200 - ((0 : Int)) : Int).toNat + 1)) (bits) (all) ((0 : Int)) H _ (show 3200 - ((0 : Int)) < _ by omega) (show 0 ≤ ((0 : Int)) ∧ ((0 : Int)) ≤ 3200 from ⟨by omega, by omega⟩) (show 0 ≤ (all) ∧ (all) ≤ 201600 * (((0 : Int)) + 201) from ⟨by omega, by omega⟩) hT hE k0gP k0gX k0gL k0gZ k0gQ k0gB k0gK k0gN k0gW (Or.inr (rfl))
        · have c19 : ¬ ((200 : Int) ≤ k) := hc
          clear hc
          have f20 : 0 ≤ H.2.2.1 99 0 (k) ∧ H.2.2.1 99 0 (k) ≤ 201600 := hT.1 99 (k)
          refine J.run 9 rfl (show 0 ≤ k ∧ k < 200 from ⟨by omega, by omega⟩) ?_
          try dsimp only
          exact ih (bits) (all + (H.2.2.1 99 0 (k))) (k + 1) H _ (show 200 - (k + 1) < _ by omega) (show 0 ≤ (k + 1) ∧ (k + 1) ≤ 200 from ⟨by omega, by omega⟩) (show 0 ≤ (all + (H.2.2.1 99 0 (k))) ∧ (all + (H.2.2.1 99 0 (k))) ≤ 201600 * ((k + 1) + 1) from ⟨by omega, by omega⟩) hT hE k0gP k0gX k0gL k0gZ k0gQ k0gB k0gK k0gN k0gW (Or.inl rfl)
-- 
theorem g_sum_l3 {b what : Int} {H0 : jH} (hp0 : -2147483648 ≤ b ∧ b ≤ 2147483647) (hp1 : -2147483648 ≤ what ∧ what ≤ 2147483647) : ∀ (m : Nat), (∀ (bits all k : Int) (H : jH) (lv : jL), 16 - k < (m : Int) → (0 ≤ k ∧ k ≤ 16) → (0 ≤ all ∧ all ≤ 201600) → (-2147483648 ≤ bits ∧ bits ≤ 2147483647) → gT H → jEx [48, 56, 57, 47] [108, 99, 100, 101, 105, 102, 103, 104, 61] H H0 → gP H → gX H → gL H → gZ H → gQ H → gB H → gK H → gN H → gW H (H.1 11 19 0) → (lv = [(5, .inl k), (4, .inl all), (3, .inl bits), (0, jT), (1, .inl b), (2, .inl what)] ∨ lv = [(5, .inl k), (3, .inl bits), (4, .inl all), (0, jT), (1, .inl b), (2, .inl what)]) → J true (d + 303) 163 w (86, lv, [], H) (jN fun v w' H' => w' = w ∧ gT H' ∧ jEx [48, 56, 57, 47] [108, 99, 100, 101, 105, 102, 103, 104, 61] H' H0 ∧ gP H' ∧ gX H' ∧ gL H' ∧ gZ H' ∧ gQ H' ∧ gB H' ∧ gK H' ∧ gN H' ∧ gW H' (H'.1 11 19 0) ∧ ∃ x, v = some (.inl x) ∧ -2147483648 ≤ x ∧ x ≤ 2147483647)) := by
  intro m
  induction m with
  | zero =>
    skip
    · intro bits all k H lv hm hi0 hi1 hi2 hT hE k0gP k0gX k0gL k0gZ k0gQ k0gB k0gK k0gN k0gW hlv
      exfalso
      omega
  | succ m ih =>
    skip
    · intro bits all k H lv hm hi0 hi1 hi2 hT hE k0gP k0gX k0gL k0gZ k0gQ k0gB k0gK k0gN k0gW hlv
      rcases hlv with rfl | rfl
      · skip
        refine J.run0 2 rfl ?_
        try dsimp only
        refine J.icmp rfl rfl rfl ⟨(show -2147483648 ≤ k ∧ k ≤ 2147483647 from ⟨by omega, by omega⟩), (show -2147483648 ≤ (16 : Int) ∧ (16 : Int) ≤ 2147483647 from ⟨by omega, by omega⟩)⟩ (fun hc => ?_) (fun hc => ?_)
        · have c21 : (16 : Int) ≤ k := hc
          clear hc
          refine J.run0 2 rfl ?_
          try dsimp only
          refine J.icmp rfl rfl rfl ⟨(show -2147483648 ≤ what ∧ what ≤ 2147483647 from ⟨by omega, by omega⟩), (show -2147483648 ≤ (16 : Int) ∧ (16 : Int) ≤ 2147483647 from ⟨by omega, by omega⟩)⟩ (fun hc => ?_) (fun hc => ?_)
          · have c22 : ¬ (what = (16 : Int)) := hc
            clear hc
            refine J.run0 2 rfl ?_
            try dsimp only
            refine J.icmp rfl rfl rfl ⟨(show -2147483648 ≤ what ∧ what ≤ 2147483647 from ⟨by omega, by omega⟩), (show -2147483648 ≤ (17 : Int) ∧ (17 : Int) ≤ 2147483647 from ⟨by omega, by omega⟩)⟩ (fun hc => ?_) (fun hc => ?_)
            · have c23 : ¬ (what = (17 : Int)) := hc
              clear hc
              refine J.run0 2 rfl ?_
              try dsimp only
              refine J.icmp rfl rfl rfl ⟨(show -2147483648 ≤ what ∧ what ≤ 2147483647 from ⟨by omega, by omega⟩), (show -2147483648 ≤ (18 : Int) ∧ (18 : Int) ≤ 2147483647 from ⟨by omega, by omega⟩)⟩ (fun hc => ?_) (fun hc => ?_)
              · have c24 : ¬ (what = (18 : Int)) := hc
                clear hc
                refine J.run0 2 rfl ?_
                try dsimp only
                refine J.icmp rfl rfl rfl ⟨(show -2147483648 ≤ what ∧ what ≤ 2147483647 from ⟨by omega, by omega⟩), (show -2147483648 ≤ (19 : Int) ∧ (19 : Int) ≤ 2147483647 from ⟨by omega, by omega⟩)⟩ (fun hc => ?_) (fun hc => ?_)
                · have c25 : ¬ (what = (19 : Int)) := hc
                  clear hc
                  refine J.run0 2 rfl ?_
                  try dsimp only
                  exact (g_sum_l2 (H0 := H0) (b := b) (what := what)  hp0 hp1 ((200 - ((0 : Int)) : Int).toNat + 1)) (bits) (all) ((0 : Int)) H _ (show 200 - ((0 : Int)) < _ by omega) (show 0 ≤ ((0 : Int)) ∧ ((0 : Int)) ≤ 200 from ⟨by omega, by omega⟩) (show 0 ≤ (all) ∧ (all) ≤ 201600 * (((0 : Int)) + 1) from ⟨by omega, by omega⟩) hT hE k0gP k0gX k0gL k0gZ k0gQ k0gB k0gK k0gN k0gW (Or.inl rfl)
                · have c26 : ¬ (¬ (what = (19 : Int))) := hc
                  clear hc
                  refine J.run0 1 rfl ?_
                  try dsimp only
                  refine J.inv rfl rfl rfl rfl rfl rfl jDr rfl rfl rfl rfl rfl (g_bonds  hT  ) ?_
                  rintro v w H ⟨rfl, rfl, x27, rfl, r28⟩
                  have r28' : 0 ≤ x27 ∧ x27 ≤ 3200 := r28
                  try dsimp only [Option.toList, List.append, List.cons_append, List.nil_append]
                  exact J.reti rfl rfl rfl ⟨_, rfl, rfl, hT, hE, k0gP, k0gX, k0gL, k0gZ, k0gQ, k0gB, k0gK, k0gN, k0gW, _, rfl, (show -2147483648 ≤ (x27) ∧ (x27) ≤ 2147483647 from ⟨by omega, by omega⟩)⟩
              · have c29 : ¬ (¬ (what = (18 : Int))) := hc
                clear hc
                have f30 : 0 ≤ H.1 11 56 0 ∧ H.1 11 56 0 ≤ 32 := hT.2.1 56
                refine J.run0 2 rfl ?_
                try dsimp only
                exact J.reti rfl rfl rfl ⟨_, rfl, rfl, hT, hE, k0gP, k0gX, k0gL, k0gZ, k0gQ, k0gB, k0gK, k0gN, k0gW, _, rfl, (show -2147483648 ≤ (H.1 11 56 0) ∧ (H.1 11 56 0) ≤ 2147483647 from ⟨by omega, by omega⟩)⟩
            · have c31 : ¬ (¬ (what = (17 : Int))) := hc
              clear hc
              have f32 : 0 ≤ H.1 11 57 0 ∧ H.1 11 57 0 ≤ 201600 := hT.2.1 57
              refine J.run0 2 rfl ?_
              try dsimp only
              exact J.reti rfl rfl rfl ⟨_, rfl, rfl, hT, hE, k0gP, k0gX, k0gL, k0gZ, k0gQ, k0gB, k0gK, k0gN, k0gW, _, rfl, (show -2147483648 ≤ (H.1 11 57 0) ∧ (H.1 11 57 0) ≤ 2147483647 from ⟨by omega, by omega⟩)⟩
          · have c33 : ¬ (¬ (what = (16 : Int))) := hc
            clear hc
            refine J.run0 1 rfl ?_
            try dsimp only
            exact J.reti rfl rfl rfl ⟨_, rfl, rfl, hT, hE, k0gP, k0gX, k0gL, k0gZ, k0gQ, k0gB, k0gK, k0gN, k0gW, _, rfl, (show -2147483648 ≤ (bits) ∧ (bits) ≤ 2147483647 from ⟨by omega, by omega⟩)⟩
        · have c34 : ¬ ((16 : Int) ≤ k) := hc
          clear hc
          have f35 : 0 ≤ H.2.2.1 105 0 (k) ∧ H.2.2.1 105 0 (k) ≤ 1 := hT.1 105 (k)
          refine J.run 4 rfl (show 0 ≤ k ∧ k < 16 from ⟨by omega, by omega⟩) ?_
          try dsimp only
          refine J.ifc rfl rfl rfl (show -2147483648 ≤ H.2.2.1 105 0 (k) ∧ H.2.2.1 105 0 (k) ≤ 2147483647 from ⟨by omega, by omega⟩) (fun hc => ?_) (fun hc => ?_)
          · have c36 : H.2.2.1 105 0 (k) = (0 : Int) := hc
            clear hc
            refine J.run0 2 rfl ?_
            try dsimp only
            exact ih (bits) (all) (k + 1) H _ (show 16 - (k + 1) < _ by omega) (show 0 ≤ (k + 1) ∧ (k + 1) ≤ 16 from ⟨by omega, by omega⟩) (show 0 ≤ (all) ∧ (all) ≤ 201600 from ⟨by omega, by omega⟩) (show -2147483648 ≤ (bits) ∧ (bits) ≤ 2147483647 from ⟨by omega, by omega⟩) hT hE k0gP k0gX k0gL k0gZ k0gQ k0gB k0gK k0gN k0gW (Or.inl rfl)
          · have c37 : ¬ (H.2.2.1 105 0 (k) = (0 : Int)) := hc
            clear hc
            have f38 : -2147483648 ≤ jshl ((1 : Int)) (k) ∧ jshl ((1 : Int)) (k) ≤ 2147483647 := jI32 _
            have f39 : -2147483648 ≤ jor (bits) (jshl ((1 : Int)) (k)) ∧ jor (bits) (jshl ((1 : Int)) (k)) ≤ 2147483647 := jI32 _
            refine J.run0 8 rfl ?_
            try dsimp only
            exact ih (jor (bits) (jshl ((1 : Int)) (k))) (all) (k + 1) H _ (show 16 - (k + 1) < _ by omega) (show 0 ≤ (k + 1) ∧ (k + 1) ≤ 16 from ⟨by omega, by omega⟩) (show 0 ≤ (all) ∧ (all) ≤ 201600 from ⟨by omega, by omega⟩) (show -2147483648 ≤ (jor (bits) (jshl ((1 : Int)) (k))) ∧ (jor (bits) (jshl ((1 : Int)) (k))) ≤ 2147483647 from ⟨by omega, by omega⟩) hT hE k0gP k0gX k0gL k0gZ k0gQ k0gB k0gK k0gN k0gW (Or.inr (rfl))
      · skip
        refine J.run0 2 rfl ?_
        try dsimp only
        refine J.icmp rfl rfl rfl ⟨(show -2147483648 ≤ k ∧ k ≤ 2147483647 from ⟨by omega, by omega⟩), (show -2147483648 ≤ (16 : Int) ∧ (16 : Int) ≤ 2147483647 from ⟨by omega, by omega⟩)⟩ (fun hc => ?_) (fun hc => ?_)
        · have c40 : (16 : Int) ≤ k := hc
          clear hc
          refine J.run0 2 rfl ?_
          try dsimp only
          refine J.icmp rfl rfl rfl ⟨(show -2147483648 ≤ what ∧ what ≤ 2147483647 from ⟨by omega, by omega⟩), (show -2147483648 ≤ (16 : Int) ∧ (16 : Int) ≤ 2147483647 from ⟨by omega, by omega⟩)⟩ (fun hc => ?_) (fun hc => ?_)
          · have c41 : ¬ (what = (16 : Int)) := hc
            clear hc
            refine J.run0 2 rfl ?_
            try dsimp only
            refine J.icmp rfl rfl rfl ⟨(show -2147483648 ≤ what ∧ what ≤ 2147483647 from ⟨by omega, by omega⟩), (show -2147483648 ≤ (17 : Int) ∧ (17 : Int) ≤ 2147483647 from ⟨by omega, by omega⟩)⟩ (fun hc => ?_) (fun hc => ?_)
            · have c42 : ¬ (what = (17 : Int)) := hc
              clear hc
              refine J.run0 2 rfl ?_
              try dsimp only
              refine J.icmp rfl rfl rfl ⟨(show -2147483648 ≤ what ∧ what ≤ 2147483647 from ⟨by omega, by omega⟩), (show -2147483648 ≤ (18 : Int) ∧ (18 : Int) ≤ 2147483647 from ⟨by omega, by omega⟩)⟩ (fun hc => ?_) (fun hc => ?_)
              · have c43 : ¬ (what = (18 : Int)) := hc
                clear hc
                refine J.run0 2 rfl ?_
                try dsimp only
                refine J.icmp rfl rfl rfl ⟨(show -2147483648 ≤ what ∧ what ≤ 2147483647 from ⟨by omega, by omega⟩), (show -2147483648 ≤ (19 : Int) ∧ (19 : Int) ≤ 2147483647 from ⟨by omega, by omega⟩)⟩ (fun hc => ?_) (fun hc => ?_)
                · have c44 : ¬ (what = (19 : Int)) := hc
                  clear hc
                  refine J.run0 2 rfl ?_
                  try dsimp only
                  exact (g_sum_l2 (H0 := H0) (b := b) (what := what)  hp0 hp1 ((200 - ((0 : Int)) : Int).toNat + 1)) (bits) (all) ((0 : Int)) H _ (show 200 - ((0 : Int)) < _ by omega) (show 0 ≤ ((0 : Int)) ∧ ((0 : Int)) ≤ 200 from ⟨by omega, by omega⟩) (show 0 ≤ (all) ∧ (all) ≤ 201600 * (((0 : Int)) + 1) from ⟨by omega, by omega⟩) hT hE k0gP k0gX k0gL k0gZ k0gQ k0gB k0gK k0gN k0gW (Or.inr (rfl))
                · have c45 : ¬ (¬ (what = (19 : Int))) := hc
                  clear hc
                  refine J.run0 1 rfl ?_
                  try dsimp only
                  refine J.inv rfl rfl rfl rfl rfl rfl jDr rfl rfl rfl rfl rfl (g_bonds  hT  ) ?_
                  rintro v w H ⟨rfl, rfl, x46, rfl, r47⟩
                  have r47' : 0 ≤ x46 ∧ x46 ≤ 3200 := r47
                  try dsimp only [Option.toList, List.append, List.cons_append, List.nil_append]
                  exact J.reti rfl rfl rfl ⟨_, rfl, rfl, hT, hE, k0gP, k0gX, k0gL, k0gZ, k0gQ, k0gB, k0gK, k0gN, k0gW, _, rfl, (show -2147483648 ≤ (x46) ∧ (x46) ≤ 2147483647 from ⟨by omega, by omega⟩)⟩
              · have c48 : ¬ (¬ (what = (18 : Int))) := hc
                clear hc
                have f49 : 0 ≤ H.1 11 56 0 ∧ H.1 11 56 0 ≤ 32 := hT.2.1 56
                refine J.run0 2 rfl ?_
                try dsimp only
                exact J.reti rfl rfl rfl ⟨_, rfl, rfl, hT, hE, k0gP, k0gX, k0gL, k0gZ, k0gQ, k0gB, k0gK, k0gN, k0gW, _, rfl, (show -2147483648 ≤ (H.1 11 56 0) ∧ (H.1 11 56 0) ≤ 2147483647 from ⟨by omega, by omega⟩)⟩
            · have c50 : ¬ (¬ (what = (17 : Int))) := hc
              clear hc
              have f51 : 0 ≤ H.1 11 57 0 ∧ H.1 11 57 0 ≤ 201600 := hT.2.1 57
              refine J.run0 2 rfl ?_
              try dsimp only
              exact J.reti rfl rfl rfl ⟨_, rfl, rfl, hT, hE, k0gP, k0gX, k0gL, k0gZ, k0gQ, k0gB, k0gK, k0gN, k0gW, _, rfl, (show -2147483648 ≤ (H.1 11 57 0) ∧ (H.1 11 57 0) ≤ 2147483647 from ⟨by omega, by omega⟩)⟩
          · have c52 : ¬ (¬ (what = (16 : Int))) := hc
            clear hc
            refine J.run0 1 rfl ?_
            try dsimp only
            exact J.reti rfl rfl rfl ⟨_, rfl, rfl, hT, hE, k0gP, k0gX, k0gL, k0gZ, k0gQ, k0gB, k0gK, k0gN, k0gW, _, rfl, (show -2147483648 ≤ (bits) ∧ (bits) ≤ 2147483647 from ⟨by omega, by omega⟩)⟩
        · have c53 : ¬ ((16 : Int) ≤ k) := hc
          clear hc
          have f54 : 0 ≤ H.2.2.1 105 0 (k) ∧ H.2.2.1 105 0 (k) ≤ 1 := hT.1 105 (k)
          refine J.run 4 rfl (show 0 ≤ k ∧ k < 16 from ⟨by omega, by omega⟩) ?_
          try dsimp only
          refine J.ifc rfl rfl rfl (show -2147483648 ≤ H.2.2.1 105 0 (k) ∧ H.2.2.1 105 0 (k) ≤ 2147483647 from ⟨by omega, by omega⟩) (fun hc => ?_) (fun hc => ?_)
          · have c55 : H.2.2.1 105 0 (k) = (0 : Int) := hc
            clear hc
            refine J.run0 2 rfl ?_
            try dsimp only
            exact ih (bits) (all) (k + 1) H _ (show 16 - (k + 1) < _ by omega) (show 0 ≤ (k + 1) ∧ (k + 1) ≤ 16 from ⟨by omega, by omega⟩) (show 0 ≤ (all) ∧ (all) ≤ 201600 from ⟨by omega, by omega⟩) (show -2147483648 ≤ (bits) ∧ (bits) ≤ 2147483647 from ⟨by omega, by omega⟩) hT hE k0gP k0gX k0gL k0gZ k0gQ k0gB k0gK k0gN k0gW (Or.inr (rfl))
          · have c56 : ¬ (H.2.2.1 105 0 (k) = (0 : Int)) := hc
            clear hc
            have f57 : -2147483648 ≤ jshl ((1 : Int)) (k) ∧ jshl ((1 : Int)) (k) ≤ 2147483647 := jI32 _
            have f58 : -2147483648 ≤ jor (bits) (jshl ((1 : Int)) (k)) ∧ jor (bits) (jshl ((1 : Int)) (k)) ≤ 2147483647 := jI32 _
            refine J.run0 8 rfl ?_
            try dsimp only
            exact ih (jor (bits) (jshl ((1 : Int)) (k))) (all) (k + 1) H _ (show 16 - (k + 1) < _ by omega) (show 0 ≤ (k + 1) ∧ (k + 1) ≤ 16 from ⟨by omega, by omega⟩) (show 0 ≤ (all) ∧ (all) ≤ 201600 from ⟨by omega, by omega⟩) (show -2147483648 ≤ (jor (bits) (jshl ((1 : Int)) (k))) ∧ (jor (bits) (jshl ((1 : Int)) (k))) ≤ 2147483647 from ⟨by omega, by omega⟩) hT hE k0gP k0gX k0gL k0gZ k0gQ k0gB k0gK k0gN k0gW (Or.inr (rfl))
-- 
theorem g_sum {b what : Int} {H : jH} (hT : gT H) (k0gP : gP H) (k0gX : gX H) (k0gL : gL H) (k0gZ : gZ H) (k0gQ : gQ H) (k0gB : gB H) (k0gK : gK H) (k0gN : gN H) (k0gW : gW H (H.1 11 19 0)) (hp0 : -2147483648 ≤ b ∧ b ≤ 2147483647) (hp1 : -2147483648 ≤ what ∧ what ≤ 2147483647) : J true (d + 303) 163 w (0, jargs 0 [jT, .inl b, .inl what], [], H) (jN fun v w' H' => w' = w ∧ gT H' ∧ jEx [48, 56, 57, 47] [108, 99, 100, 101, 105, 102, 103, 104, 61] H' H ∧ gP H' ∧ gX H' ∧ gL H' ∧ gZ H' ∧ gQ H' ∧ gB H' ∧ gK H' ∧ gN H' ∧ gW H' (H'.1 11 19 0) ∧ ∃ x, v = some (.inl x) ∧ -2147483648 ≤ x ∧ x ≤ 2147483647) := by
  have hE : jEx [48, 56, 57, 47] [108, 99, 100, 101, 105, 102, 103, 104, 61] H H := jEx.refl _ _ _
  have f59 : 1 ≤ H.1 11 12 0 ∧ H.1 11 12 0 ≤ 300 := hT.2.1 12
  refine J.run0 7 rfl ?_
  try dsimp only
  refine J.ins rfl rfl rfl rfl rfl rfl rfl rfl rfl (g_in (u := b) (a := (0 : Int)) (b := (H.1 11 12 0) - (1 : Int)) hT  (show -2147483648 ≤ (b) ∧ (b) ≤ 2147483647 from ⟨by omega, by omega⟩) (show -2147483648 ≤ ((0 : Int)) ∧ ((0 : Int)) ≤ 2147483647 from ⟨by omega, by omega⟩) (show -2147483648 ≤ ((H.1 11 12 0) - (1 : Int)) ∧ ((H.1 11 12 0) - (1 : Int)) ≤ 2147483647 from ⟨by omega, by omega⟩)) ?_
  rintro v w H ⟨rfl, rfl, x60, rfl, r61⟩
  have r61' : (x60 = 0 ∨ x60 = 1) ∧ (x60 = 1 → (b) ≥ ((0 : Int)) ∧ (b) ≤ ((H.1 11 12 0) - (1 : Int))) ∧ (x60 = 0 → (b) < ((0 : Int)) ∨ ((H.1 11 12 0) - (1 : Int)) < (b)) := r61
  try dsimp only [Option.toList, List.append, List.cons_append, List.nil_append]
  refine J.ifc rfl rfl rfl (show -2147483648 ≤ x60 ∧ x60 ≤ 2147483647 from ⟨by omega, by omega⟩) (fun hc => ?_) (fun hc => ?_)
  · have c62 : ¬ (x60 = (0 : Int)) := hc
    clear hc
    refine J.run0 2 rfl ?_
    try dsimp only
    refine J.inv rfl rfl rfl rfl rfl rfl jDr rfl rfl rfl rfl rfl (g_isSound (b := b) hT k0gP k0gX k0gL k0gZ (show 0 ≤ (b) ∧ (b) < 300 from ⟨by omega, by omega⟩) (show (b) < H.1 11 12 0 from by omega)) ?_
    rintro v w H65 ⟨rfl, hT66, ehE67, k68, k69, k70, k71, x63, rfl, r64⟩
    have hE67 := jEx.trans ehE67 hE (by decide) (by decide)
    have r64' : 0 ≤ x63 ∧ x63 ≤ 1 := r64
    have k72 : gQ H65 := gQ.ex k0gQ ehE67 (by decide)
    have k73 : gB H65 := gB.ex k0gB ehE67 (by decide)
    have k74 : gK H65 := gK.ex k0gK ehE67 (by decide)
    have k75 : gN H65 := gN.ex k0gN ehE67 (by decide)
    have k76 : gW H65 (H65.1 11 19 0) := gWm.ex k0gW ehE67 (by decide)
    have g77 : H65.1 11 12 0 = H.1 11 12 0 := ehE67.v 12 (by decide)
    try dsimp only [Option.toList, List.append, List.cons_append, List.nil_append]
    refine J.ifc rfl rfl rfl (show -2147483648 ≤ x63 ∧ x63 ≤ 2147483647 from ⟨by omega, by omega⟩) (fun hc => ?_) (fun hc => ?_)
    · have c78 : ¬ (x63 = (0 : Int)) := hc
      clear hc
      refine J.run0 3 rfl ?_
      try dsimp only
      refine J.ins rfl rfl rfl rfl rfl rfl rfl rfl rfl (g_in (u := what) (a := (0 : Int)) (b := (20 : Int)) hT66  (show -2147483648 ≤ (what) ∧ (what) ≤ 2147483647 from ⟨by omega, by omega⟩) (show -2147483648 ≤ ((0 : Int)) ∧ ((0 : Int)) ≤ 2147483647 from ⟨by omega, by omega⟩) (show -2147483648 ≤ ((20 : Int)) ∧ ((20 : Int)) ≤ 2147483647 from ⟨by omega, by omega⟩)) ?_
      rintro v w H65 ⟨rfl, rfl, x79, rfl, r80⟩
      have r80' : (x79 = 0 ∨ x79 = 1) ∧ (x79 = 1 → (what) ≥ ((0 : Int)) ∧ (what) ≤ ((20 : Int))) ∧ (x79 = 0 → (what) < ((0 : Int)) ∨ ((20 : Int)) < (what)) := r80
      try dsimp only [Option.toList, List.append, List.cons_append, List.nil_append]
      refine J.ifc rfl rfl rfl (show -2147483648 ≤ x79 ∧ x79 ≤ 2147483647 from ⟨by omega, by omega⟩) (fun hc => ?_) (fun hc => ?_)
      · have c81 : ¬ (x79 = (0 : Int)) := hc
        clear hc
        refine J.run0 2 rfl ?_
        try dsimp only
        refine J.gn fun H82 hH82 => ?_
        have hT83 : gT H82 := by rw [hH82]; exact gT.num (f := 47) hT66 (show 0 ≤ (0 : Int) ∧ (0 : Int) ≤ 3 from ⟨by omega, by omega⟩) (by decide) (fun z => absurd z (by decide))
        have hE84 : jEx [48, 56, 57, 47] [108, 99, 100, 101, 105, 102, 103, 104, 61] H82 H := by rw [hH82]; exact jEx.num hE67 (by decide)
        have k85 : gP H82 := by rw [hH82]; exact k68
        have k86 : gX H82 := by rw [hH82]; exact k69
        have k87 : gL H82 := by rw [hH82]; exact k70
        have k88 : gZ H82 := by rw [hH82]; exact k71
        have k89 : gQ H82 := by rw [hH82]; exact k72
        have k90 : gB H82 := by rw [hH82]; exact k73
        have k91 : gK H82 := by rw [hH82]; exact k74
        have k92 : gN H82 := by rw [hH82]; exact k75
        have k93 : gW H82 (H82.1 11 19 0) := by rw [hH82]; exact k76
        have g94 : H82.1 11 47 0 = (0 : Int) := by subst hH82; rfl
        have g95 : H82.1 11 12 0 = H65.1 11 12 0 := by subst hH82; rfl
        clear hH82
        have f96 : 0 ≤ H82.1 11 47 0 ∧ H82.1 11 47 0 ≤ 3 := hT83.2.1 47
        refine J.run0 2 rfl ?_
        try dsimp only
        refine J.ifc rfl rfl rfl (show -2147483648 ≤ H82.1 11 47 0 ∧ H82.1 11 47 0 ≤ 2147483647 from ⟨by omega, by omega⟩) (fun hc => ?_) (fun hc => ?_)
        · have c97 : H82.1 11 47 0 ≤ (0 : Int) := hc
          clear hc
          refine J.run0 2 rfl ?_
          try dsimp only
          have f98 : 1 ≤ H82.1 11 12 0 ∧ H82.1 11 12 0 ≤ 300 := hT83.2.1 12
          refine J.inv rfl rfl rfl rfl rfl rfl jDr rfl rfl rfl rfl rfl (g_state (b := b) hT83 k85 k86 k87 (show 0 ≤ (b) ∧ (b) < 300 from ⟨by omega, by omega⟩) (show (b) < H82.1 11 12 0 from by omega)) ?_
          rintro v w H101 ⟨rfl, hT102, ehE103, k104, k105, k106, rfl⟩
          have hE103 := jEx.trans ehE103 hE84 (by decide) (by decide)
          have k107 : gZ H101 := gZ.ex k88 ehE103 (by decide)
          have k108 : gQ H101 := gQ.ex k89 ehE103 (by decide)
          have k109 : gB H101 := gB.ex k90 ehE103 (by decide)
          have k110 : gK H101 := gK.ex k91 ehE103 (by decide)
          have k111 : gN H101 := gN.ex k92 ehE103 (by decide)
          have k112 : gW H101 (H101.1 11 19 0) := gWm.ex k93 ehE103 (by decide)
          have g113 : H101.1 11 12 0 = H82.1 11 12 0 := ehE103.v 12 (by decide)
          try dsimp only [Option.toList, List.append, List.cons_append, List.nil_append]
          refine J.run0 2 rfl ?_
          try dsimp only
          refine J.icmp rfl rfl rfl ⟨(show -2147483648 ≤ what ∧ what ≤ 2147483647 from ⟨by omega, by omega⟩), (show -2147483648 ≤ (16 : Int) ∧ (16 : Int) ≤ 2147483647 from ⟨by omega, by omega⟩)⟩ (fun hc => ?_) (fun hc => ?_)
          · have c114 : (16 : Int) ≤ what := hc
            clear hc
            have f115 : 0 ≤ H101.1 11 57 0 ∧ H101.1 11 57 0 ≤ 201600 := hT102.2.1 57
            refine J.run0 7 rfl ?_
            try dsimp only
            exact (g_sum_l3 (H0 := H) (b := b) (what := what)  hp0 hp1 ((16 - ((0 : Int)) : Int).toNat + 1)) ((0 : Int)) (H101.1 11 57 0) ((0 : Int)) H101 _ (show 16 - ((0 : Int)) < _ by omega) (show 0 ≤ ((0 : Int)) ∧ ((0 : Int)) ≤ 16 from ⟨by omega, by omega⟩) (show 0 ≤ (H101.1 11 57 0) ∧ (H101.1 11 57 0) ≤ 201600 from ⟨by omega, by omega⟩) (show -2147483648 ≤ ((0 : Int)) ∧ ((0 : Int)) ≤ 2147483647 from ⟨by omega, by omega⟩) hT102 hE103 k104 k105 k106 k107 k108 k109 k110 k111 k112 (Or.inl rfl)
          · have c116 : ¬ ((16 : Int) ≤ what) := hc
            clear hc
            refine J.run0 2 rfl ?_
            try dsimp only
            refine J.inv rfl rfl rfl rfl rfl rfl jDr rfl rfl rfl rfl rfl (g_powerOf (n := what) hT102  (show 0 ≤ (what) ∧ (what) < 16 from ⟨by omega, by omega⟩)) ?_
            rintro v w H101 ⟨rfl, rfl, x117, rfl, r118⟩
            have r118' : x117 = gpow H101 ((what)) ∧ 0 ≤ x117 ∧ x117 ≤ 40320000 := r118
            try dsimp only [Option.toList, List.append, List.cons_append, List.nil_append]
            exact J.reti rfl rfl rfl ⟨_, rfl, rfl, hT102, hE103, k104, k105, k106, k107, k108, k109, k110, k111, k112, _, rfl, (show -2147483648 ≤ (x117) ∧ (x117) ≤ 2147483647 from ⟨by omega, by omega⟩)⟩
        · have c119 : ¬ (H82.1 11 47 0 ≤ (0 : Int)) := hc
          clear hc
          refine J.run0 1 rfl ?_
          try dsimp only
          exact J.reti rfl rfl rfl ⟨_, rfl, rfl, hT83, hE84, k85, k86, k87, k88, k89, k90, k91, k92, k93, _, rfl, (show -2147483648 ≤ ((0 : Int)) ∧ ((0 : Int)) ≤ 2147483647 from ⟨by omega, by omega⟩)⟩
      · have c120 : ¬ (¬ (x79 = (0 : Int))) := hc
        clear hc
        refine J.run0 3 rfl ?_
        try dsimp only
        refine J.gn fun H121 hH121 => ?_
        have hT122 : gT H121 := by rw [hH121]; exact gT.num (f := 47) hT66 (show 0 ≤ (3 : Int) ∧ (3 : Int) ≤ 3 from ⟨by omega, by omega⟩) (by decide) (fun z => absurd z (by decide))
        have hE123 : jEx [48, 56, 57, 47] [108, 99, 100, 101, 105, 102, 103, 104, 61] H121 H := by rw [hH121]; exact jEx.num hE67 (by decide)
        have k124 : gP H121 := by rw [hH121]; exact k68
        have k125 : gX H121 := by rw [hH121]; exact k69
        have k126 : gL H121 := by rw [hH121]; exact k70
        have k127 : gZ H121 := by rw [hH121]; exact k71
        have k128 : gQ H121 := by rw [hH121]; exact k72
        have k129 : gB H121 := by rw [hH121]; exact k73
        have k130 : gK H121 := by rw [hH121]; exact k74
        have k131 : gN H121 := by rw [hH121]; exact k75
        have k132 : gW H121 (H121.1 11 19 0) := by rw [hH121]; exact k76
        have g133 : H121.1 11 47 0 = (3 : Int) := by subst hH121; rfl
        have g134 : H121.1 11 12 0 = H65.1 11 12 0 := by subst hH121; rfl
        clear hH121
        have f135 : 0 ≤ H121.1 11 47 0 ∧ H121.1 11 47 0 ≤ 3 := hT122.2.1 47
        refine J.run0 2 rfl ?_
        try dsimp only
        refine J.ifc rfl rfl rfl (show -2147483648 ≤ H121.1 11 47 0 ∧ H121.1 11 47 0 ≤ 2147483647 from ⟨by omega, by omega⟩) (fun hc => ?_) (fun hc => ?_)
        · have c136 : H121.1 11 47 0 ≤ (0 : Int) := hc
          clear hc
          refine J.run0 2 rfl ?_
          try dsimp only
          have f137 : 1 ≤ H121.1 11 12 0 ∧ H121.1 11 12 0 ≤ 300 := hT122.2.1 12
          refine J.inv rfl rfl rfl rfl rfl rfl jDr rfl rfl rfl rfl rfl (g_state (b := b) hT122 k124 k125 k126 (show 0 ≤ (b) ∧ (b) < 300 from ⟨by omega, by omega⟩) (show (b) < H121.1 11 12 0 from by omega)) ?_
          rintro v w H140 ⟨rfl, hT141, ehE142, k143, k144, k145, rfl⟩
          have hE142 := jEx.trans ehE142 hE123 (by decide) (by decide)
          have k146 : gZ H140 := gZ.ex k127 ehE142 (by decide)
          have k147 : gQ H140 := gQ.ex k128 ehE142 (by decide)
          have k148 : gB H140 := gB.ex k129 ehE142 (by decide)
          have k149 : gK H140 := gK.ex k130 ehE142 (by decide)
          have k150 : gN H140 := gN.ex k131 ehE142 (by decide)
          have k151 : gW H140 (H140.1 11 19 0) := gWm.ex k132 ehE142 (by decide)
          have g152 : H140.1 11 12 0 = H121.1 11 12 0 := ehE142.v 12 (by decide)
          try dsimp only [Option.toList, List.append, List.cons_append, List.nil_append]
          refine J.run0 2 rfl ?_
          try dsimp only
          refine J.icmp rfl rfl rfl ⟨(show -2147483648 ≤ what ∧ what ≤ 2147483647 from ⟨by omega, by omega⟩), (show -2147483648 ≤ (16 : Int) ∧ (16 : Int) ≤ 2147483647 from ⟨by omega, by omega⟩)⟩ (fun hc => ?_) (fun hc => ?_)
          · have c153 : (16 : Int) ≤ what := hc
            clear hc
            have f154 : 0 ≤ H140.1 11 57 0 ∧ H140.1 11 57 0 ≤ 201600 := hT141.2.1 57
            refine J.run0 7 rfl ?_
            try dsimp only
            exact (g_sum_l3 (H0 := H) (b := b) (what := what)  hp0 hp1 ((16 - ((0 : Int)) : Int).toNat + 1)) ((0 : Int)) (H140.1 11 57 0) ((0 : Int)) H140 _ (show 16 - ((0 : Int)) < _ by omega) (show 0 ≤ ((0 : Int)) ∧ ((0 : Int)) ≤ 16 from ⟨by omega, by omega⟩) (show 0 ≤ (H140.1 11 57 0) ∧ (H140.1 11 57 0) ≤ 201600 from ⟨by omega, by omega⟩) (show -2147483648 ≤ ((0 : Int)) ∧ ((0 : Int)) ≤ 2147483647 from ⟨by omega, by omega⟩) hT141 hE142 k143 k144 k145 k146 k147 k148 k149 k150 k151 (Or.inl rfl)
          · have c155 : ¬ ((16 : Int) ≤ what) := hc
            clear hc
            refine J.run0 2 rfl ?_
            try dsimp only
            refine J.inv rfl rfl rfl rfl rfl rfl jDr rfl rfl rfl rfl rfl (g_powerOf (n := what) hT141  (show 0 ≤ (what) ∧ (what) < 16 from ⟨by omega, by omega⟩)) ?_
            rintro v w H140 ⟨rfl, rfl, x156, rfl, r157⟩
            have r157' : x156 = gpow H140 ((what)) ∧ 0 ≤ x156 ∧ x156 ≤ 40320000 := r157
            try dsimp only [Option.toList, List.append, List.cons_append, List.nil_append]
            exact J.reti rfl rfl rfl ⟨_, rfl, rfl, hT141, hE142, k143, k144, k145, k146, k147, k148, k149, k150, k151, _, rfl, (show -2147483648 ≤ (x156) ∧ (x156) ≤ 2147483647 from ⟨by omega, by omega⟩)⟩
        · have c158 : ¬ (H121.1 11 47 0 ≤ (0 : Int)) := hc
          clear hc
          refine J.run0 1 rfl ?_
          try dsimp only
          exact J.reti rfl rfl rfl ⟨_, rfl, rfl, hT122, hE123, k124, k125, k126, k127, k128, k129, k130, k131, k132, _, rfl, (show -2147483648 ≤ ((0 : Int)) ∧ ((0 : Int)) ≤ 2147483647 from ⟨by omega, by omega⟩)⟩
    · have c159 : ¬ (¬ (x63 = (0 : Int))) := hc
      clear hc
      refine J.run0 3 rfl ?_
      try dsimp only
      refine J.gn fun H160 hH160 => ?_
      have hT161 : gT H160 := by rw [hH160]; exact gT.num (f := 47) hT66 (show 0 ≤ (2 : Int) ∧ (2 : Int) ≤ 3 from ⟨by omega, by omega⟩) (by decide) (fun z => absurd z (by decide))
      have hE162 : jEx [48, 56, 57, 47] [108, 99, 100, 101, 105, 102, 103, 104, 61] H160 H := by rw [hH160]; exact jEx.num hE67 (by decide)
      have k163 : gP H160 := by rw [hH160]; exact k68
      have k164 : gX H160 := by rw [hH160]; exact k69
      have k165 : gL H160 := by rw [hH160]; exact k70
      have k166 : gZ H160 := by rw [hH160]; exact k71
      have k167 : gQ H160 := by rw [hH160]; exact k72
      have k168 : gB H160 := by rw [hH160]; exact k73
      have k169 : gK H160 := by rw [hH160]; exact k74
      have k170 : gN H160 := by rw [hH160]; exact k75
      have k171 : gW H160 (H160.1 11 19 0) := by rw [hH160]; exact k76
      have g172 : H160.1 11 47 0 = (2 : Int) := by subst hH160; rfl
      have g173 : H160.1 11 12 0 = H65.1 11 12 0 := by subst hH160; rfl
      clear hH160
      have f174 : 0 ≤ H160.1 11 47 0 ∧ H160.1 11 47 0 ≤ 3 := hT161.2.1 47
      refine J.run0 2 rfl ?_
      try dsimp only
      refine J.ifc rfl rfl rfl (show -2147483648 ≤ H160.1 11 47 0 ∧ H160.1 11 47 0 ≤ 2147483647 from ⟨by omega, by omega⟩) (fun hc => ?_) (fun hc => ?_)
      · have c175 : H160.1 11 47 0 ≤ (0 : Int) := hc
        clear hc
        refine J.run0 2 rfl ?_
        try dsimp only
        have f176 : 1 ≤ H160.1 11 12 0 ∧ H160.1 11 12 0 ≤ 300 := hT161.2.1 12
        refine J.inv rfl rfl rfl rfl rfl rfl jDr rfl rfl rfl rfl rfl (g_state (b := b) hT161 k163 k164 k165 (show 0 ≤ (b) ∧ (b) < 300 from ⟨by omega, by omega⟩) (show (b) < H160.1 11 12 0 from by omega)) ?_
        rintro v w H179 ⟨rfl, hT180, ehE181, k182, k183, k184, rfl⟩
        have hE181 := jEx.trans ehE181 hE162 (by decide) (by decide)
        have k185 : gZ H179 := gZ.ex k166 ehE181 (by decide)
        have k186 : gQ H179 := gQ.ex k167 ehE181 (by decide)
        have k187 : gB H179 := gB.ex k168 ehE181 (by decide)
        have k188 : gK H179 := gK.ex k169 ehE181 (by decide)
        have k189 : gN H179 := gN.ex k170 ehE181 (by decide)
        have k190 : gW H179 (H179.1 11 19 0) := gWm.ex k171 ehE181 (by decide)
        have g191 : H179.1 11 12 0 = H160.1 11 12 0 := ehE181.v 12 (by decide)
        try dsimp only [Option.toList, List.append, List.cons_append, List.nil_append]
        refine J.run0 2 rfl ?_
        try dsimp only
        refine J.icmp rfl rfl rfl ⟨(show -2147483648 ≤ what ∧ what ≤ 2147483647 from ⟨by omega, by omega⟩), (show -2147483648 ≤ (16 : Int) ∧ (16 : Int) ≤ 2147483647 from ⟨by omega, by omega⟩)⟩ (fun hc => ?_) (fun hc => ?_)
        · have c192 : (16 : Int) ≤ what := hc
          clear hc
          have f193 : 0 ≤ H179.1 11 57 0 ∧ H179.1 11 57 0 ≤ 201600 := hT180.2.1 57
          refine J.run0 7 rfl ?_
          try dsimp only
          exact (g_sum_l3 (H0 := H) (b := b) (what := what)  hp0 hp1 ((16 - ((0 : Int)) : Int).toNat + 1)) ((0 : Int)) (H179.1 11 57 0) ((0 : Int)) H179 _ (show 16 - ((0 : Int)) < _ by omega) (show 0 ≤ ((0 : Int)) ∧ ((0 : Int)) ≤ 16 from ⟨by omega, by omega⟩) (show 0 ≤ (H179.1 11 57 0) ∧ (H179.1 11 57 0) ≤ 201600 from ⟨by omega, by omega⟩) (show -2147483648 ≤ ((0 : Int)) ∧ ((0 : Int)) ≤ 2147483647 from ⟨by omega, by omega⟩) hT180 hE181 k182 k183 k184 k185 k186 k187 k188 k189 k190 (Or.inl rfl)
        · have c194 : ¬ ((16 : Int) ≤ what) := hc
          clear hc
          refine J.run0 2 rfl ?_
          try dsimp only
          refine J.inv rfl rfl rfl rfl rfl rfl jDr rfl rfl rfl rfl rfl (g_powerOf (n := what) hT180  (show 0 ≤ (what) ∧ (what) < 16 from ⟨by omega, by omega⟩)) ?_
          rintro v w H179 ⟨rfl, rfl, x195, rfl, r196⟩
          have r196' : x195 = gpow H179 ((what)) ∧ 0 ≤ x195 ∧ x195 ≤ 40320000 := r196
          try dsimp only [Option.toList, List.append, List.cons_append, List.nil_append]
          exact J.reti rfl rfl rfl ⟨_, rfl, rfl, hT180, hE181, k182, k183, k184, k185, k186, k187, k188, k189, k190, _, rfl, (show -2147483648 ≤ (x195) ∧ (x195) ≤ 2147483647 from ⟨by omega, by omega⟩)⟩
      · have c197 : ¬ (H160.1 11 47 0 ≤ (0 : Int)) := hc
        clear hc
        refine J.run0 1 rfl ?_
        try dsimp only
        exact J.reti rfl rfl rfl ⟨_, rfl, rfl, hT161, hE162, k163, k164, k165, k166, k167, k168, k169, k170, k171, _, rfl, (show -2147483648 ≤ ((0 : Int)) ∧ ((0 : Int)) ≤ 2147483647 from ⟨by omega, by omega⟩)⟩
  · have c198 : ¬ (¬ (x60 = (0 : Int))) := hc
    clear hc
    refine J.run0 3 rfl ?_
    try dsimp only
    refine J.gn fun H199 hH199 => ?_
    have hT200 : gT H199 := by rw [hH199]; exact gT.num (f := 47) hT (show 0 ≤ (1 : Int) ∧ (1 : Int) ≤ 3 from ⟨by omega, by omega⟩) (by decide) (fun z => absurd z (by decide))
    have hE201 : jEx [48, 56, 57, 47] [108, 99, 100, 101, 105, 102, 103, 104, 61] H199 H := by rw [hH199]; exact jEx.num hE (by decide)
    have k202 : gP H199 := by rw [hH199]; exact k0gP
    have k203 : gX H199 := by rw [hH199]; exact k0gX
    have k204 : gL H199 := by rw [hH199]; exact k0gL
    have k205 : gZ H199 := by rw [hH199]; exact k0gZ
    have k206 : gQ H199 := by rw [hH199]; exact k0gQ
    have k207 : gB H199 := by rw [hH199]; exact k0gB
    have k208 : gK H199 := by rw [hH199]; exact k0gK
    have k209 : gN H199 := by rw [hH199]; exact k0gN
    have k210 : gW H199 (H199.1 11 19 0) := by rw [hH199]; exact k0gW
    have g211 : H199.1 11 47 0 = (1 : Int) := by subst hH199; rfl
    have g212 : H199.1 11 12 0 = H.1 11 12 0 := by subst hH199; rfl
    clear hH199
    have f213 : 0 ≤ H199.1 11 47 0 ∧ H199.1 11 47 0 ≤ 3 := hT200.2.1 47
    refine J.run0 2 rfl ?_
    try dsimp only
    refine J.ifc rfl rfl rfl (show -2147483648 ≤ H199.1 11 47 0 ∧ H199.1 11 47 0 ≤ 2147483647 from ⟨by omega, by omega⟩) (fun hc => ?_) (fun hc => ?_)
    · have c214 : H199.1 11 47 0 ≤ (0 : Int) := hc
      clear hc
      refine J.run0 2 rfl ?_
      try dsimp only
      have f215 : 1 ≤ H199.1 11 12 0 ∧ H199.1 11 12 0 ≤ 300 := hT200.2.1 12
      refine J.inv rfl rfl rfl rfl rfl rfl jDr rfl rfl rfl rfl rfl (g_state (b := b) hT200 k202 k203 k204 (show 0 ≤ (b) ∧ (b) < 300 from ⟨by omega, by omega⟩) (show (b) < H199.1 11 12 0 from by omega)) ?_
      rintro v w H218 ⟨rfl, hT219, ehE220, k221, k222, k223, rfl⟩
      have hE220 := jEx.trans ehE220 hE201 (by decide) (by decide)
      have k224 : gZ H218 := gZ.ex k205 ehE220 (by decide)
      have k225 : gQ H218 := gQ.ex k206 ehE220 (by decide)
      have k226 : gB H218 := gB.ex k207 ehE220 (by decide)
      have k227 : gK H218 := gK.ex k208 ehE220 (by decide)
      have k228 : gN H218 := gN.ex k209 ehE220 (by decide)
      have k229 : gW H218 (H218.1 11 19 0) := gWm.ex k210 ehE220 (by decide)
      have g230 : H218.1 11 12 0 = H199.1 11 12 0 := ehE220.v 12 (by decide)
      try dsimp only [Option.toList, List.append, List.cons_append, List.nil_append]
      refine J.run0 2 rfl ?_
      try dsimp only
      refine J.icmp rfl rfl rfl ⟨(show -2147483648 ≤ what ∧ what ≤ 2147483647 from ⟨by omega, by omega⟩), (show -2147483648 ≤ (16 : Int) ∧ (16 : Int) ≤ 2147483647 from ⟨by omega, by omega⟩)⟩ (fun hc => ?_) (fun hc => ?_)
      · have c231 : (16 : Int) ≤ what := hc
        clear hc
        have f232 : 0 ≤ H218.1 11 57 0 ∧ H218.1 11 57 0 ≤ 201600 := hT219.2.1 57
        refine J.run0 7 rfl ?_
        try dsimp only
        exact (g_sum_l3 (H0 := H) (b := b) (what := what)  hp0 hp1 ((16 - ((0 : Int)) : Int).toNat + 1)) ((0 : Int)) (H218.1 11 57 0) ((0 : Int)) H218 _ (show 16 - ((0 : Int)) < _ by omega) (show 0 ≤ ((0 : Int)) ∧ ((0 : Int)) ≤ 16 from ⟨by omega, by omega⟩) (show 0 ≤ (H218.1 11 57 0) ∧ (H218.1 11 57 0) ≤ 201600 from ⟨by omega, by omega⟩) (show -2147483648 ≤ ((0 : Int)) ∧ ((0 : Int)) ≤ 2147483647 from ⟨by omega, by omega⟩) hT219 hE220 k221 k222 k223 k224 k225 k226 k227 k228 k229 (Or.inl rfl)
      · have c233 : ¬ ((16 : Int) ≤ what) := hc
        clear hc
        refine J.run0 2 rfl ?_
        try dsimp only
        refine J.inv rfl rfl rfl rfl rfl rfl jDr rfl rfl rfl rfl rfl (g_powerOf (n := what) hT219  (show 0 ≤ (what) ∧ (what) < 16 from ⟨by omega, by omega⟩)) ?_
        rintro v w H218 ⟨rfl, rfl, x234, rfl, r235⟩
        have r235' : x234 = gpow H218 ((what)) ∧ 0 ≤ x234 ∧ x234 ≤ 40320000 := r235
        try dsimp only [Option.toList, List.append, List.cons_append, List.nil_append]
        exact J.reti rfl rfl rfl ⟨_, rfl, rfl, hT219, hE220, k221, k222, k223, k224, k225, k226, k227, k228, k229, _, rfl, (show -2147483648 ≤ (x234) ∧ (x234) ≤ 2147483647 from ⟨by omega, by omega⟩)⟩
    · have c236 : ¬ (H199.1 11 47 0 ≤ (0 : Int)) := hc
      clear hc
      refine J.run0 1 rfl ?_
      try dsimp only
      exact J.reti rfl rfl rfl ⟨_, rfl, rfl, hT200, hE201, k202, k203, k204, k205, k206, k207, k208, k209, k210, _, rfl, (show -2147483648 ≤ ((0 : Int)) ∧ ((0 : Int)) ≤ 2147483647 from ⟨by omega, by omega⟩)⟩
end
