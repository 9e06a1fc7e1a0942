section GP
/-- BLOCKS stand behind their parents -/
def gP (H : jH) : Prop := H.2.2.1 55 0 0 = -1 ∧ (∀ b, 1 ≤ b → b < 300 → 0 ≤ H.2.2.1 55 0 b ∧ H.2.2.1 55 0 b < b) ∧ H.2.2.1 56 0 0 = 0 ∧ (∀ b, 1 ≤ b → b < H.1 11 12 0 → H.2.2.1 56 0 b = H.2.2.1 56 0 (H.2.2.1 55 0 b) + 1) ∧ (∀ b, 0 ≤ b → b < 300 → H.2.2.1 56 0 b ≤ b) ∧ ∀ b, 1 ≤ b → 0 ≤ H.2.2.1 57 0 b
theorem gP.ex {fs ks : List Nat} {H H1 : jH} (h : gP H) (hE : jEx fs ks H1 H) (hk : 55 ∉ ks ∧ 56 ∉ ks ∧ 12 ∉ fs ∧ 57 ∉ ks) : gP H1 := by
  unfold gP at h ⊢
  rw [hE.r 55 hk.1, hE.r 56 hk.2.1, hE.v 12 hk.2.2.1, hE.r 57 hk.2.2.2]
  exact h
end GP
-- M: X11_isIn
section
variable {d : Nat} {w : jW} {H : jH}
-- 
theorem g_isIn_l0 {t chain : Int} (hT : gT H) (k0gP : gP H) (hp0 : -2147483648 ≤ t ∧ t ≤ 2147483647) (hp1 : -1 ≤ chain ∧ chain < 300) : ∀ (m : Nat), (∀ (b : Int) (lv : jL), 100 * (b + 1) < (m : Int) → (-1 ≤ b ∧ b < 300) → (lv = [(3, .inl b), (0, jT), (1, .inl t), (2, .inl chain)] ∨ (∃ j4 : Int, lv = [(3, .inl b), (4, .inl j4), (0, jT), (1, .inl t), (2, .inl chain)])) → J true d 122 w (2, lv, [], H) (jN fun v w' H' => w' = w ∧ H' = H ∧ ∃ x, v = some (.inl x) ∧ 0 ≤ x ∧ x ≤ 1)) ∧ (∀ (b i : Int) (lv : jL), 100 * (b + 1) - 1 - i < (m : Int) → (0 ≤ b ∧ b < 300) → (0 ≤ i ∧ i ≤ 12) → (lv = [(4, .inl i), (3, .inl b), (0, jT), (1, .inl t), (2, .inl chain)]) → J true d 122 w (9, lv, [], H) (jN fun v w' H' => w' = w ∧ H' = H ∧ ∃ x, v = some (.inl x) ∧ 0 ≤ x ∧ x ≤ 1)) := by
  intro m
  induction m with
  | zero =>
    refine ⟨?_, ?_⟩
    · intro b lv hm hi0 hlv
      exfalso
      omega
    · intro b i lv hm hi0 hi1 hlv
      exfalso
      omega
  | succ m ih =>
    refine ⟨?_, ?_⟩
    · intro b lv hm hi0 hlv
      rcases hlv with rfl | ⟨j4, rfl⟩
      · skip
        refine J.run0 1 rfl ?_
        try dsimp only
        refine J.ifc rfl rfl rfl (show -2147483648 ≤ b ∧ b ≤ 2147483647 from ⟨by omega, by omega⟩) (fun hc => ?_) (fun hc => ?_)
        · have c1 : b < (0 : Int) := hc
          clear hc
          refine J.run0 1 rfl ?_
          try dsimp only
          exact J.retb rfl rfl rfl (show (0 : Int) = 0 ∨ (0 : Int) = 1 by omega) ⟨_, rfl, rfl, rfl, _, rfl, (show 0 ≤ ((0 : Int)) ∧ ((0 : Int)) ≤ 1 from ⟨by omega, by omega⟩)⟩
        · have c2 : ¬ (b < (0 : Int)) := hc
          clear hc
          refine J.run0 2 rfl ?_
          try dsimp only
          exact ih.2 (b) ((0 : Int)) _ (show 100 * ((b) + 1) - 1 - ((0 : Int)) < _ by omega) (show 0 ≤ (b) ∧ (b) < 300 from ⟨by omega, by omega⟩) (show 0 ≤ ((0 : Int)) ∧ ((0 : Int)) ≤ 12 from ⟨by omega, by omega⟩) rfl
      · skip
        refine J.run0 1 rfl ?_
        try dsimp only
        refine J.ifc rfl rfl rfl (show -2147483648 ≤ b ∧ b ≤ 2147483647 from ⟨by omega, by omega⟩) (fun hc => ?_) (fun hc => ?_)
        · have c3 : b < (0 : Int) := hc
          clear hc
          refine J.run0 1 rfl ?_
          try dsimp only
          exact J.retb rfl rfl rfl (show (0 : Int) = 0 ∨ (0 : Int) = 1 by omega) ⟨_, rfl, rfl, rfl, _, rfl, (show 0 ≤ ((0 : Int)) ∧ ((0 : Int)) ≤ 1 from ⟨by omega, by omega⟩)⟩
        · have c4 : ¬ (b < (0 : Int)) := hc
          clear hc
          refine J.run0 2 rfl ?_
          try dsimp only
          exact ih.2 (b) ((0 : Int)) _ (show 100 * ((b) + 1) - 1 - ((0 : Int)) < _ by omega) (show 0 ≤ (b) ∧ (b) < 300 from ⟨by omega, by omega⟩) (show 0 ≤ ((0 : Int)) ∧ ((0 : Int)) ≤ 12 from ⟨by omega, by omega⟩) rfl
    · intro b i lv hm hi0 hi1 hlv
      rcases hlv with rfl
      have f5 : 0 ≤ H.2.2.1 58 0 (b) ∧ H.2.2.1 58 0 (b) ≤ 12 := hT.1 58 (b)
      refine J.run 5 rfl (show 0 ≤ b ∧ b < 300 from ⟨by omega, by omega⟩) ?_
      try dsimp only
      refine J.icmp rfl rfl rfl ⟨(show -2147483648 ≤ i ∧ i ≤ 2147483647 from ⟨by omega, by omega⟩), (show -2147483648 ≤ H.2.2.1 58 0 (b) ∧ H.2.2.1 58 0 (b) ≤ 2147483647 from ⟨by omega, by omega⟩)⟩ (fun hc => ?_) (fun hc => ?_)
      · have c6 : H.2.2.1 58 0 (b) ≤ i := hc
        clear hc
        have f7 : -1 ≤ H.2.2.1 55 0 (b) ∧ H.2.2.1 55 0 (b) ≤ 299 := hT.1 55 (b)
        have f8 : 1 ≤ H.1 11 12 0 ∧ H.1 11 12 0 ≤ 300 := hT.2.1 12
        have f7b : H.2.2.1 55 0 (b) < H.1 11 12 0 := hT.2.2.1 55 (b) rfl
        have f7gP : (b = 0 → H.2.2.1 55 0 (b) = -1) ∧ (1 ≤ b → b < 300 → 0 ≤ H.2.2.1 55 0 (b) ∧ H.2.2.1 55 0 (b) < b) := ⟨fun z => by rw [z]; exact k0gP.1, fun z z' => k0gP.2.1 _ z z'⟩
        refine J.run 6 rfl (show 0 ≤ b ∧ b < 300 from ⟨by omega, by omega⟩) ?_
        try dsimp only
        exact ih.1 (H.2.2.1 55 0 (b)) _ (show 100 * ((H.2.2.1 55 0 (b)) + 1) < _ by omega) (show -1 ≤ (H.2.2.1 55 0 (b)) ∧ (H.2.2.1 55 0 (b)) < 300 from ⟨by omega, by omega⟩) (Or.inr (⟨_, rfl⟩))
      · have c9 : ¬ (H.2.2.1 58 0 (b) ≤ i) := hc
        clear hc
        have f10 : 0 ≤ H.2.2.1 59 0 (((12 : Int) * b) + i) ∧ H.2.2.1 59 0 (((12 : Int) * b) + i) ≤ 1499 := hT.1 59 (((12 : Int) * b) + i)
        refine J.run 9 rfl (show 0 ≤ ((12 : Int) * b) + i ∧ ((12 : Int) * b) + i < 3600 from ⟨by omega, by omega⟩) ?_
        try dsimp only
        refine J.icmp rfl rfl rfl ⟨(show -2147483648 ≤ H.2.2.1 59 0 (((12 : Int) * b) + i) ∧ H.2.2.1 59 0 (((12 : Int) * b) + i) ≤ 2147483647 from ⟨by omega, by omega⟩), (show -2147483648 ≤ t ∧ t ≤ 2147483647 from ⟨by omega, by omega⟩)⟩ (fun hc => ?_) (fun hc => ?_)
        · have c11 : ¬ (H.2.2.1 59 0 (((12 : Int) * b) + i) = t) := hc
          clear hc
          refine J.run0 2 rfl ?_
          try dsimp only
          exact ih.2 (b) (i + 1) _ (show 100 * ((b) + 1) - 1 - (i + 1) < _ by omega) (show 0 ≤ (b) ∧ (b) < 300 from ⟨by omega, by omega⟩) (show 0 ≤ (i + 1) ∧ (i + 1) ≤ 12 from ⟨by omega, by omega⟩) rfl
        · have c12 : ¬ (¬ (H.2.2.1 59 0 (((12 : Int) * b) + i) = t)) := hc
          clear hc
          refine J.run0 1 rfl ?_
          try dsimp only
          exact J.retb rfl rfl rfl (show (1 : Int) = 0 ∨ (1 : Int) = 1 by omega) ⟨_, rfl, rfl, rfl, _, rfl, (show 0 ≤ ((1 : Int)) ∧ ((1 : Int)) ≤ 1 from ⟨by omega, by omega⟩)⟩
-- 
theorem g_isIn {t chain : Int} (hT : gT H) (k0gP : gP H) (hp0 : -2147483648 ≤ t ∧ t ≤ 2147483647) (hp1 : -1 ≤ chain ∧ chain < 300) : J true d 122 w (0, jargs 0 [jT, .inl t, .inl chain], [], H) (jN fun v w' H' => w' = w ∧ H' = H ∧ ∃ x, v = some (.inl x) ∧ 0 ≤ x ∧ x ≤ 1) := by
  refine J.run0 2 rfl ?_
  try dsimp only
  exact (g_isIn_l0 (H := H) (t := t) (chain := chain) hT k0gP hp0 hp1 ((100 * ((chain) + 1) : Int).toNat + 1)).1 (chain) _ (show 100 * ((chain) + 1) < _ by omega) (show -1 ≤ (chain) ∧ (chain) < 300 from ⟨by omega, by omega⟩) (Or.inl rfl)
end
-- M: X11_isAbove
section
variable {d : Nat} {w : jW} {H : jH}
-- 
theorem g_isAbove_l0 {above b : Int} (hT : gT H) (k0gP : gP H) (hp0 : -2147483648 ≤ above ∧ above ≤ 2147483647) (hp1 : -1 ≤ b ∧ b < 300) : ∀ (m : Nat), (∀ (k : Int) (lv : jL), k + 1 < (m : Int) → (-1 ≤ k ∧ k < 300) → (lv = [(3, .inl k), (0, jT), (1, .inl above), (2, .inl b)]) → J true d 123 w (2, lv, [], H) (jN fun v w' H' => w' = w ∧ H' = H ∧ ∃ x, v = some (.inl x) ∧ 0 ≤ x ∧ x ≤ 1)) := by
  intro m
  induction m with
  | zero =>
    skip
    · intro k lv hm hi0 hlv
      exfalso
      omega
  | succ m ih =>
    skip
    · intro k lv hm hi0 hlv
      rcases hlv with rfl
      refine J.run0 1 rfl ?_
      try dsimp only
      refine J.ifc rfl rfl rfl (show -2147483648 ≤ k ∧ k ≤ 2147483647 from ⟨by omega, by omega⟩) (fun hc => ?_) (fun hc => ?_)
      · have c1 : k < (0 : Int) := hc
        clear hc
        refine J.run0 1 rfl ?_
        try dsimp only
        refine J.ifc rfl rfl rfl (show -2147483648 ≤ k ∧ k ≤ 2147483647 from ⟨by omega, by omega⟩) (fun hc => ?_) (fun hc => ?_)
        · have c2 : k < (0 : Int) := hc
          clear hc
          refine J.run0 1 rfl ?_
          try dsimp only
          exact J.retb rfl rfl rfl (show (0 : Int) = 0 ∨ (0 : Int) = 1 by omega) ⟨_, rfl, rfl, rfl, _, rfl, (show 0 ≤ ((0 : Int)) ∧ ((0 : Int)) ≤ 1 from ⟨by omega, by omega⟩)⟩
        · have c3 : ¬ (k < (0 : Int)) := hc
          clear hc
          refine J.run0 2 rfl ?_
          try dsimp only
          exact J.retb rfl rfl rfl (show (1 : Int) = 0 ∨ (1 : Int) = 1 by omega) ⟨_, rfl, rfl, rfl, _, rfl, (show 0 ≤ ((1 : Int)) ∧ ((1 : Int)) ≤ 1 from ⟨by omega, by omega⟩)⟩
      · have c4 : ¬ (k < (0 : Int)) := hc
        clear hc
        refine J.run0 2 rfl ?_
        try dsimp only
        refine J.icmp rfl rfl rfl ⟨(show -2147483648 ≤ k ∧ k ≤ 2147483647 from ⟨by omega, by omega⟩), (show -2147483648 ≤ above ∧ above ≤ 2147483647 from ⟨by omega, by omega⟩)⟩ (fun hc => ?_) (fun hc => ?_)
        · have c5 : k = above := hc
          clear hc
          refine J.run0 1 rfl ?_
          try dsimp only
          refine J.ifc rfl rfl rfl (show -2147483648 ≤ k ∧ k ≤ 2147483647 from ⟨by omega, by omega⟩) (fun hc => ?_) (fun hc => ?_)
          · have c6 : k < (0 : Int) := hc
            clear hc
            refine J.run0 1 rfl ?_
            try dsimp only
            exact J.retb rfl rfl rfl (show (0 : Int) = 0 ∨ (0 : Int) = 1 by omega) ⟨_, rfl, rfl, rfl, _, rfl, (show 0 ≤ ((0 : Int)) ∧ ((0 : Int)) ≤ 1 from ⟨by omega, by omega⟩)⟩
          · have c7 : ¬ (k < (0 : Int)) := hc
            clear hc
            refine J.run0 2 rfl ?_
            try dsimp only
            exact J.retb rfl rfl rfl (show (1 : Int) = 0 ∨ (1 : Int) = 1 by omega) ⟨_, rfl, rfl, rfl, _, rfl, (show 0 ≤ ((1 : Int)) ∧ ((1 : Int)) ≤ 1 from ⟨by omega, by omega⟩)⟩
        · have c8 : ¬ (k = above) := hc
          clear hc
          have f9 : -1 ≤ H.2.2.1 55 0 (k) ∧ H.2.2.1 55 0 (k) ≤ 299 := hT.1 55 (k)
          have f10 : 1 ≤ H.1 11 12 0 ∧ H.1 11 12 0 ≤ 300 := hT.2.1 12
          have f9b : H.2.2.1 55 0 (k) < H.1 11 12 0 := hT.2.2.1 55 (k) rfl
          have f9gP : (k = 0 → H.2.2.1 55 0 (k) = -1) ∧ (1 ≤ k → k < 300 → 0 ≤ H.2.2.1 55 0 (k) ∧ H.2.2.1 55 0 (k) < k) := ⟨fun z => by rw [z]; exact k0gP.1, fun z z' => k0gP.2.1 _ z z'⟩
          refine J.run 6 rfl (show 0 ≤ k ∧ k < 300 from ⟨by omega, by omega⟩) ?_
          try dsimp only
          exact ih (H.2.2.1 55 0 (k)) _ (show (H.2.2.1 55 0 (k)) + 1 < _ by omega) (show -1 ≤ (H.2.2.1 55 0 (k)) ∧ (H.2.2.1 55 0 (k)) < 300 from ⟨by omega, by omega⟩) rfl
-- 
theorem g_isAbove {above b : Int} (hT : gT H) (k0gP : gP H) (hp0 : -2147483648 ≤ above ∧ above ≤ 2147483647) (hp1 : -1 ≤ b ∧ b < 300) : J true d 123 w (0, jargs 0 [jT, .inl above, .inl b], [], H) (jN fun v w' H' => w' = w ∧ H' = H ∧ ∃ x, v = some (.inl x) ∧ 0 ≤ x ∧ x ≤ 1) := by
  refine J.run0 2 rfl ?_
  try dsimp only
  exact (g_isAbove_l0 (H := H) (above := above) (b := b) hT k0gP hp0 hp1 (((b) + 1 : Int).toNat + 1)) (b) _ (show (b) + 1 < _ by omega) (show -1 ≤ (b) ∧ (b) < 300 from ⟨by omega, by omega⟩) rfl
end
-- M: X11_doubles
section
variable {d : Nat} {w : jW} 
-- 
theorem g_doubles_l0 {H0 : jH}  : ∀ (m : Nat), (∀ (n p : Int) (H : jH) (lv : jL), 1000000000 * (16 - n) < (m : Int) → (0 ≤ n ∧ n ≤ 16) → gT H → jEx [] [109] H H0 → (lv = [(2, .inl n), (1, .inl p), (0, jT)] ∨ (∃ j4 j3 : Int, lv = [(2, .inl n), (4, .inl j4), (3, .inl j3), (1, .inl p), (0, jT)]) ∨ (∃ j4 j5 j3 : Int, lv = [(2, .inl n), (4, .inl j4), (5, .inl j5), (3, .inl j3), (1, .inl p), (0, jT)]) ∨ (∃ j4 j5 j3 : Int, lv = [(2, .inl n), (4, .inl j4), (5, .inl j5), (1, .inl p), (3, .inl j3), (0, jT)]) ∨ (∃ j4 j3 j5 : Int, lv = [(2, .inl n), (4, .inl j4), (3, .inl j3), (5, .inl j5), (1, .inl p), (0, jT)])) → J true d 158 w (4, lv, [], H) (jN fun v w' H' => w' = w ∧ gT H' ∧ jEx [] [109] H' H0 ∧ ∃ x, v = some (.inl x) ∧ True)) ∧ (∀ (n p c m0 : Int) (H : jH) (lv : jL), 1000000000 * (16 - n) - 1 - 20000 * m0 < (m : Int) → (0 ≤ n ∧ n < 16) → (0 ≤ c ∧ c ≤ m0) → (m0 ≤ 6000) → gT H → jEx [] [109] H H0 → (lv = [(4, .inl m0), (3, .inl c), (2, .inl n), (1, .inl p), (0, jT)] ∨ (∃ j5 : Int, lv = [(4, .inl m0), (5, .inl j5), (3, .inl c), (2, .inl n), (1, .inl p), (0, jT)]) ∨ (∃ j5 : Int, lv = [(4, .inl m0), (5, .inl j5), (1, .inl p), (3, .inl c), (2, .inl n), (0, jT)]) ∨ (∃ j5 : Int, lv = [(4, .inl m0), (3, .inl c), (2, .inl n), (5, .inl j5), (1, .inl p), (0, jT)]) ∨ (∃ j5 : Int, lv = [(4, .inl m0), (5, .inl j5), (3, .inl c), (1, .inl p), (2, .inl n), (0, jT)])) → J true d 158 w (15, lv, [], H) (jN fun v w' H' => w' = w ∧ gT H' ∧ jEx [] [109] H' H0 ∧ ∃ x, v = some (.inl x) ∧ True)) ∧ (∀ (n p c m0 i : Int) (H : jH) (lv : jL), 1000000000 * (16 - n) - 2 - 20000 * m0 - 2 * i < (m : Int) → (0 ≤ n ∧ n < 16) → (1 ≤ c ∧ c ≤ m0 + 1) → (0 ≤ m0 ∧ m0 < 6000) → (0 ≤ i ∧ i ≤ 6000) → gT H → jEx [] [109] H H0 → (lv = [(5, .inl i), (3, .inl c), (4, .inl m0), (2, .inl n), (1, .inl p), (0, jT)] ∨ lv = [(5, .inl i), (1, .inl p), (3, .inl c), (4, .inl m0), (2, .inl n), (0, jT)] ∨ lv = [(5, .inl i), (3, .inl c), (4, .inl m0), (1, .inl p), (2, .inl n), (0, jT)]) → J true d 158 w (61, lv, [], H) (jN fun v w' H' => w' = w ∧ gT H' ∧ jEx [] [109] H' H0 ∧ ∃ x, v = some (.inl x) ∧ True)) ∧ (∀ (n p c m0 i : Int) (H : jH) (lv : jL), 1000000000 * (16 - n) - 2 - 20000 * m0 - 2 * i - 1 < (m : Int) → (0 ≤ n ∧ n < 16) → (1 ≤ c ∧ c ≤ m0 + 1) → (0 ≤ m0 ∧ m0 < 6000) → (0 ≤ i ∧ i < 6000) → gT H → jEx [] [109] H H0 → (lv = [(5, .inl i), (3, .inl c), (4, .inl m0), (2, .inl n), (1, .inl p), (0, jT)] ∨ lv = [(1, .inl p), (5, .inl i), (3, .inl c), (4, .inl m0), (2, .inl n), (0, jT)] ∨ lv = [(5, .inl i), (1, .inl p), (3, .inl c), (4, .inl m0), (2, .inl n), (0, jT)] ∨ lv = [(5, .inl i), (3, .inl c), (4, .inl m0), (1, .inl p), (2, .inl n), (0, jT)]) → J true d 158 w (160, lv, [], H) (jN fun v w' H' => w' = w ∧ gT H' ∧ jEx [] [109] H' H0 ∧ ∃ x, v = some (.inl x) ∧ True)) ∧ (∀ (n p c m0 : Int) (H : jH) (lv : jL), 1000000000 * (16 - n) - 2 - 20000 * m0 - 16000 < (m : Int) → (0 ≤ n ∧ n < 16) → (0 ≤ c ∧ c ≤ m0 + 1) → (0 ≤ m0 ∧ m0 < 6000) → gT H → jEx [] [109] H H0 → (lv = [(4, .inl m0), (3, .inl c), (2, .inl n), (1, .inl p), (0, jT)] ∨ (∃ j5 : Int, lv = [(5, .inl j5), (3, .inl c), (4, .inl m0), (2, .inl n), (1, .inl p), (0, jT)]) ∨ (∃ j5 : Int, lv = [(4, .inl m0), (5, .inl j5), (3, .inl c), (2, .inl n), (1, .inl p), (0, jT)]) ∨ (∃ j5 : Int, lv = [(5, .inl j5), (1, .inl p), (3, .inl c), (4, .inl m0), (2, .inl n), (0, jT)]) ∨ (∃ j5 : Int, lv = [(4, .inl m0), (5, .inl j5), (1, .inl p), (3, .inl c), (2, .inl n), (0, jT)]) ∨ (∃ j5 : Int, lv = [(4, .inl m0), (3, .inl c), (2, .inl n), (5, .inl j5), (1, .inl p), (0, jT)]) ∨ (∃ j5 : Int, lv = [(5, .inl j5), (3, .inl c), (4, .inl m0), (1, .inl p), (2, .inl n), (0, jT)]) ∨ (∃ j5 : Int, lv = [(4, .inl m0), (5, .inl j5), (3, .inl c), (1, .inl p), (2, .inl n), (0, jT)])) → J true d 158 w (166, lv, [], H) (jN fun v w' H' => w' = w ∧ gT H' ∧ jEx [] [109] H' H0 ∧ ∃ x, v = some (.inl x) ∧ True)) := by
  intro m
  induction m with
  | zero =>
    refine ⟨?_, ?_, ?_, ?_, ?_⟩
    · intro n p H lv hm hi0 hT hE hlv
      exfalso
      omega
    · intro n p c m0 H lv hm hi0 hi1 hi2 hT hE hlv
      exfalso
      omega
    · intro n p c m0 i H lv hm hi0 hi1 hi2 hi3 hT hE hlv
      exfalso
      omega
    · intro n p c m0 i H lv hm hi0 hi1 hi2 hi3 hT hE hlv
      exfalso
      omega
    · intro n p c m0 H lv hm hi0 hi1 hi2 hT hE hlv
      exfalso
      omega
  | succ m ih =>
    refine ⟨?_, ?_, ?_, ?_, ?_⟩
    · intro n p H lv hm hi0 hT hE hlv
      rcases hlv with rfl | ⟨j4, j3, rfl⟩ | ⟨j4, j5, j3, rfl⟩ | ⟨j4, j5, j3, rfl⟩ | ⟨j4, j3, j5, rfl⟩
      · skip
        refine J.run0 2 rfl ?_
        try dsimp only
        refine J.icmp rfl rfl rfl ⟨(show -2147483648 ≤ n ∧ n ≤ 2147483647 from ⟨by omega, by omega⟩), (show -2147483648 ≤ (16 : Int) ∧ (16 : Int) ≤ 2147483647 from ⟨by omega, by omega⟩)⟩ (fun hc => ?_) (fun hc => ?_)
        · have c1 : (16 : Int) ≤ n := hc
          clear hc
          refine J.run0 1 rfl ?_
          try dsimp only
          exact J.reti rfl rfl rfl ⟨_, rfl, rfl, hT, hE, _, rfl, (show True from trivial)⟩
        · have c2 : ¬ ((16 : Int) ≤ n) := hc
          clear hc
          refine J.run0 4 rfl ?_
          try dsimp only
          exact ih.2.1 (n) (p) ((0 : Int)) ((0 : Int)) H _ (show 1000000000 * (16 - (n)) - 1 - 20000 * ((0 : Int)) < _ by omega) (show 0 ≤ (n) ∧ (n) < 16 from ⟨by omega, by omega⟩) (show 0 ≤ ((0 : Int)) ∧ ((0 : Int)) ≤ ((0 : Int)) from ⟨by omega, by omega⟩) (show ((0 : Int)) ≤ 6000 from by omega) hT hE  (Or.inl rfl)
      · skip
        refine J.run0 2 rfl ?_
        try dsimp only
        refine J.icmp rfl rfl rfl ⟨(show -2147483648 ≤ n ∧ n ≤ 2147483647 from ⟨by omega, by omega⟩), (show -2147483648 ≤ (16 : Int) ∧ (16 : Int) ≤ 2147483647 from ⟨by omega, by omega⟩)⟩ (fun hc => ?_) (fun hc => ?_)
        · have c3 : (16 : Int) ≤ n := hc
          clear hc
          refine J.run0 1 rfl ?_
          try dsimp only
          exact J.reti rfl rfl rfl ⟨_, rfl, rfl, hT, hE, _, rfl, (show True from trivial)⟩
        · have c4 : ¬ ((16 : Int) ≤ n) := hc
          clear hc
          refine J.run0 4 rfl ?_
          try dsimp only
          exact ih.2.1 (n) (p) ((0 : Int)) ((0 : Int)) H _ (show 1000000000 * (16 - (n)) - 1 - 20000 * ((0 : Int)) < _ by omega) (show 0 ≤ (n) ∧ (n) < 16 from ⟨by omega, by omega⟩) (show 0 ≤ ((0 : Int)) ∧ ((0 : Int)) ≤ ((0 : Int)) from ⟨by omega, by omega⟩) (show ((0 : Int)) ≤ 6000 from by omega) hT hE  (Or.inl rfl)
      · skip
        refine J.run0 2 rfl ?_
        try dsimp only
        refine J.icmp rfl rfl rfl ⟨(show -2147483648 ≤ n ∧ n ≤ 2147483647 from ⟨by omega, by omega⟩), (show -2147483648 ≤ (16 : Int) ∧ (16 : Int) ≤ 2147483647 from ⟨by omega, by omega⟩)⟩ (fun hc => ?_) (fun hc => ?_)
        · have c5 : (16 : Int) ≤ n := hc
          clear hc
          refine J.run0 1 rfl ?_
          try dsimp only
          exact J.reti rfl rfl rfl ⟨_, rfl, rfl, hT, hE, _, rfl, (show True from trivial)⟩
        · have c6 : ¬ ((16 : Int) ≤ n) := hc
          clear hc
          refine J.run0 4 rfl ?_
          try dsimp only
          exact ih.2.1 (n) (p) ((0 : Int)) ((0 : Int)) H _ (show 1000000000 * (16 - (n)) - 1 - 20000 * ((0 : Int)) < _ by omega) (show 0 ≤ (n) ∧ (n) < 16 from ⟨by omega, by omega⟩) (show 0 ≤ ((0 : Int)) ∧ ((0 : Int)) ≤ ((0 : Int)) from ⟨by omega, by omega⟩) (show ((0 : Int)) ≤ 6000 from by omega) hT hE  (Or.inr (Or.inr (Or.inr (Or.inl ⟨_, rfl⟩))))
      · skip
        refine J.run0 2 rfl ?_
        try dsimp only
        refine J.icmp rfl rfl rfl ⟨(show -2147483648 ≤ n ∧ n ≤ 2147483647 from ⟨by omega, by omega⟩), (show -2147483648 ≤ (16 : Int) ∧ (16 : Int) ≤ 2147483647 from ⟨by omega, by omega⟩)⟩ (fun hc => ?_) (fun hc => ?_)
        · have c7 : (16 : Int) ≤ n := hc
          clear hc
          refine J.run0 1 rfl ?_
          try dsimp only
          exact J.reti rfl rfl rfl ⟨_, rfl, rfl, hT, hE, _, rfl, (show True from trivial)⟩
        · have c8 : ¬ ((16 : Int) ≤ n) := hc
          clear hc
          refine J.run0 4 rfl ?_
          try dsimp only
          exact ih.2.1 (n) (p) ((0 : Int)) ((0 : Int)) H _ (show 1000000000 * (16 - (n)) - 1 - 20000 * ((0 : Int)) < _ by omega) (show 0 ≤ (n) ∧ (n) < 16 from ⟨by omega, by omega⟩) (show 0 ≤ ((0 : Int)) ∧ ((0 : Int)) ≤ ((0 : Int)) from ⟨by omega, by omega⟩) (show ((0 : Int)) ≤ 6000 from by omega) hT hE  (Or.inr (Or.inr (Or.inr (Or.inl ⟨_, rfl⟩))))
      · skip
        refine J.run0 2 rfl ?_
        try dsimp only
        refine J.icmp rfl rfl rfl ⟨(show -2147483648 ≤ n ∧ n ≤ 2147483647 from ⟨by omega, by omega⟩), (show -2147483648 ≤ (16 : Int) ∧ (16 : Int) ≤ 2147483647 from ⟨by omega, by omega⟩)⟩ (fun hc => ?_) (fun hc => ?_)
        · have c9 : (16 : Int) ≤ n := hc
          clear hc
          refine J.run0 1 rfl ?_
          try dsimp only
          exact J.reti rfl rfl rfl ⟨_, rfl, rfl, hT, hE, _, rfl, (show True from trivial)⟩
        · have c10 : ¬ ((16 : Int) ≤ n) := hc
          clear hc
          refine J.run0 4 rfl ?_
          try dsimp only
          exact ih.2.1 (n) (p) ((0 : Int)) ((0 : Int)) H _ (show 1000000000 * (16 - (n)) - 1 - 20000 * ((0 : Int)) < _ by omega) (show 0 ≤ (n) ∧ (n) < 16 from ⟨by omega, by omega⟩) (show 0 ≤ ((0 : Int)) ∧ ((0 : Int)) ≤ ((0 : Int)) from ⟨by omega, by omega⟩) (show ((0 : Int)) ≤ 6000 from by omega) hT hE  (Or.inr (Or.inr (Or.inr (Or.inl ⟨_, rfl⟩))))
    · intro n p c m0 H lv hm hi0 hi1 hi2 hT hE hlv
      rcases hlv with rfl | ⟨j5, rfl⟩ | ⟨j5, rfl⟩ | ⟨j5, rfl⟩ | ⟨j5, rfl⟩
      · skip
        have f11 : 0 ≤ H.1 11 19 0 ∧ H.1 11 19 0 ≤ 6000 := hT.2.1 19
        refine J.run0 3 rfl ?_
        try dsimp only
        refine J.icmp rfl rfl rfl ⟨(show -2147483648 ≤ m0 ∧ m0 ≤ 2147483647 from ⟨by omega, by omega⟩), (show -2147483648 ≤ H.1 11 19 0 ∧ H.1 11 19 0 ≤ 2147483647 from ⟨by omega, by omega⟩)⟩ (fun hc => ?_) (fun hc => ?_)
        · have c12 : H.1 11 19 0 ≤ m0 := hc
          clear hc
          refine J.run0 2 rfl ?_
          try dsimp only
          exact ih.1 (n + 1) (p) H _ (show 1000000000 * (16 - (n + 1)) < _ by omega) (show 0 ≤ (n + 1) ∧ (n + 1) ≤ 16 from ⟨by omega, by omega⟩) hT hE  (Or.inr (Or.inl ⟨_, _, rfl⟩))
        · have c13 : ¬ (H.1 11 19 0 ≤ m0) := hc
          clear hc
          have f14 : 0 ≤ H.2.2.1 79 0 (n) ∧ H.2.2.1 79 0 (n) ≤ 1 := hT.1 79 (n)
          refine J.run 4 rfl (show 0 ≤ n ∧ n < 16 from ⟨by omega, by omega⟩) ?_
          try dsimp only
          refine J.ifc rfl rfl rfl (show -2147483648 ≤ H.2.2.1 79 0 (n) ∧ H.2.2.1 79 0 (n) ≤ 2147483647 from ⟨by omega, by omega⟩) (fun hc => ?_) (fun hc => ?_)
          · have c15 : ¬ (H.2.2.1 79 0 (n) = (0 : Int)) := hc
            clear hc
            refine J.run0 2 rfl ?_
            try dsimp only
            exact ih.1 (n + 1) (p) H _ (show 1000000000 * (16 - (n + 1)) < _ by omega) (show 0 ≤ (n + 1) ∧ (n + 1) ≤ 16 from ⟨by omega, by omega⟩) hT hE  (Or.inr (Or.inl ⟨_, _, rfl⟩))
          · have c16 : ¬ (¬ (H.2.2.1 79 0 (n) = (0 : Int))) := hc
            clear hc
            have f17 : 0 ≤ H.2.2.1 64 0 (m0) ∧ H.2.2.1 64 0 (m0) ≤ 15 := hT.1 64 (m0)
            refine J.run 5 rfl (show 0 ≤ m0 ∧ m0 < 6000 from ⟨by omega, by omega⟩) ?_
            try dsimp only
            refine J.icmp rfl rfl rfl ⟨(show -2147483648 ≤ H.2.2.1 64 0 (m0) ∧ H.2.2.1 64 0 (m0) ≤ 2147483647 from ⟨by omega, by omega⟩), (show -2147483648 ≤ n ∧ n ≤ 2147483647 from ⟨by omega, by omega⟩)⟩ (fun hc => ?_) (fun hc => ?_)
            · have c18 : H.2.2.1 64 0 (m0) = n := hc
              clear hc
              refine J.run 5 rfl (show 0 ≤ c ∧ c < 6000 from ⟨by omega, by omega⟩) ?_
              try dsimp only
              refine J.gn fun H19 hH19 => ?_
              have hT20 : gT H19 := by rw [hH19]; exact gT.upd hT (show 0 ≤ m0 ∧ m0 ≤ 5999 from ⟨by omega, by omega⟩) (fun z => absurd z (by decide))
              have hE21 : jEx [] [109] H19 H0 := by rw [hH19]; exact jEx.row hE (by decide)
              have g22 : H19.2.2.1 109 0 (c) = m0 := by subst hH19; exact if_pos rfl
              have g23 : H19.1 11 12 0 = H.1 11 12 0 := by subst hH19; rfl
              have g24 : H19.2.2.1 79 0 (n) = H.2.2.1 79 0 (n) := by subst hH19; rfl
              have g25 : H19.2.2.1 64 0 (m0) = H.2.2.1 64 0 (m0) := by subst hH19; rfl
              clear hH19
              refine J.run0 3 rfl ?_
              try dsimp only
              exact ih.2.2.1 (n) (p) (c + 1) (m0) ((0 : Int)) H19 _ (show 1000000000 * (16 - (n)) - 2 - 20000 * (m0) - 2 * ((0 : Int)) < _ by omega) (show 0 ≤ (n) ∧ (n) < 16 from ⟨by omega, by omega⟩) (show 1 ≤ (c + 1) ∧ (c + 1) ≤ (m0) + 1 from ⟨by omega, by omega⟩) (show 0 ≤ (m0) ∧ (m0) < 6000 from ⟨by omega, by omega⟩) (show 0 ≤ ((0 : Int)) ∧ ((0 : Int)) ≤ 6000 from ⟨by omega, by omega⟩) hT20 hE21  (Or.inl rfl)
            · have c26 : ¬ (H.2.2.1 64 0 (m0) = n) := hc
              clear hc
              refine J.run0 1 rfl ?_
              try dsimp only
              exact ih.2.2.2.2 (n) (p) (c) (m0) H _ (show 1000000000 * (16 - (n)) - 2 - 20000 * (m0) - 16000 < _ by omega) (show 0 ≤ (n) ∧ (n) < 16 from ⟨by omega, by omega⟩) (show 0 ≤ (c) ∧ (c) ≤ (m0) + 1 from ⟨by omega, by omega⟩) (show 0 ≤ (m0) ∧ (m0) < 6000 from ⟨by omega, by omega⟩) hT hE  (Or.inl rfl)
      · skip
        have f27 : 0 ≤ H.1 11 19 0 ∧ H.1 11 19 0 ≤ 6000 := hT.2.1 19
        refine J.run0 3 rfl ?_
        try dsimp only
        refine J.icmp rfl rfl rfl ⟨(show -2147483648 ≤ m0 ∧ m0 ≤ 2147483647 from ⟨by omega, by omega⟩), (show -2147483648 ≤ H.1 11 19 0 ∧ H.1 11 19 0 ≤ 2147483647 from ⟨by omega, by omega⟩)⟩ (fun hc => ?_) (fun hc => ?_)
        · have c28 : H.1 11 19 0 ≤ m0 := hc
          clear hc
          refine J.run0 2 rfl ?_
          try dsimp only
          exact ih.1 (n + 1) (p) H _ (show 1000000000 * (16 - (n + 1)) < _ by omega) (show 0 ≤ (n + 1) ∧ (n + 1) ≤ 16 from ⟨by omega, by omega⟩) hT hE  (Or.inr (Or.inr (Or.inl ⟨_, _, _, rfl⟩)))
        · have c29 : ¬ (H.1 11 19 0 ≤ m0) := hc
          clear hc
          have f30 : 0 ≤ H.2.2.1 79 0 (n) ∧ H.2.2.1 79 0 (n) ≤ 1 := hT.1 79 (n)
          refine J.run 4 rfl (show 0 ≤ n ∧ n < 16 from ⟨by omega, by omega⟩) ?_
          try dsimp only
          refine J.ifc rfl rfl rfl (show -2147483648 ≤ H.2.2.1 79 0 (n) ∧ H.2.2.1 79 0 (n) ≤ 2147483647 from ⟨by omega, by omega⟩) (fun hc => ?_) (fun hc => ?_)
          · have c31 : ¬ (H.2.2.1 79 0 (n) = (0 : Int)) := hc
            clear hc
            refine J.run0 2 rfl ?_
            try dsimp only
            exact ih.1 (n + 1) (p) H _ (show 1000000000 * (16 - (n + 1)) < _ by omega) (show 0 ≤ (n + 1) ∧ (n + 1) ≤ 16 from ⟨by omega, by omega⟩) hT hE  (Or.inr (Or.inr (Or.inl ⟨_, _, _, rfl⟩)))
          · have c32 : ¬ (¬ (H.2.2.1 79 0 (n) = (0 : Int))) := hc
            clear hc
            have f33 : 0 ≤ H.2.2.1 64 0 (m0) ∧ H.2.2.1 64 0 (m0) ≤ 15 := hT.1 64 (m0)
            refine J.run 5 rfl (show 0 ≤ m0 ∧ m0 < 6000 from ⟨by omega, by omega⟩) ?_
            try dsimp only
            refine J.icmp rfl rfl rfl ⟨(show -2147483648 ≤ H.2.2.1 64 0 (m0) ∧ H.2.2.1 64 0 (m0) ≤ 2147483647 from ⟨by omega, by omega⟩), (show -2147483648 ≤ n ∧ n ≤ 2147483647 from ⟨by omega, by omega⟩)⟩ (fun hc => ?_) (fun hc => ?_)
            · have c34 : H.2.2.1 64 0 (m0) = n := hc
              clear hc
              refine J.run 5 rfl (show 0 ≤ c ∧ c < 6000 from ⟨by omega, by omega⟩) ?_
              try dsimp only
              refine J.gn fun H35 hH35 => ?_
              have hT36 : gT H35 := by rw [hH35]; exact gT.upd hT (show 0 ≤ m0 ∧ m0 ≤ 5999 from ⟨by omega, by omega⟩) (fun z => absurd z (by decide))
              have hE37 : jEx [] [109] H35 H0 := by rw [hH35]; exact jEx.row hE (by decide)
              have g38 : H35.2.2.1 109 0 (c) = m0 := by subst hH35; exact if_pos rfl
              have g39 : H35.1 11 12 0 = H.1 11 12 0 := by subst hH35; rfl
              have g40 : H35.2.2.1 79 0 (n) = H.2.2.1 79 0 (n) := by subst hH35; rfl
              have g41 : H35.2.2.1 64 0 (m0) = H.2.2.1 64 0 (m0) := by subst hH35; rfl
              clear hH35
              refine J.run0 3 rfl ?_
              try dsimp only
              exact ih.2.2.1 (n) (p) (c + 1) (m0) ((0 : Int)) H35 _ (show 1000000000 * (16 - (n)) - 2 - 20000 * (m0) - 2 * ((0 : Int)) < _ by omega) (show 0 ≤ (n) ∧ (n) < 16 from ⟨by omega, by omega⟩) (show 1 ≤ (c + 1) ∧ (c + 1) ≤ (m0) + 1 from ⟨by omega, by omega⟩) (show 0 ≤ (m0) ∧ (m0) < 6000 from ⟨by omega, by omega⟩) (show 0 ≤ ((0 : Int)) ∧ ((0 : Int)) ≤ 6000 from ⟨by omega, by omega⟩) hT36 hE37  (Or.inl rfl)
            · have c42 : ¬ (H.2.2.1 64 0 (m0) = n) := hc
              clear hc
              refine J.run0 1 rfl ?_
              try dsimp only
              exact ih.2.2.2.2 (n) (p) (c) (m0) H _ (show 1000000000 * (16 - (n)) - 2 - 20000 * (m0) - 16000 < _ by omega) (show 0 ≤ (n) ∧ (n) < 16 from ⟨by omega, by omega⟩) (show 0 ≤ (c) ∧ (c) ≤ (m0) + 1 from ⟨by omega, by omega⟩) (show 0 ≤ (m0) ∧ (m0) < 6000 from ⟨by omega, by omega⟩) hT hE  (Or.inr (Or.inr (Or.inl ⟨_, rfl⟩)))
      · skip
        have f43 : 0 ≤ H.1 11 19 0 ∧ H.1 11 19 0 ≤ 6000 := hT.2.1 19
        refine J.run0 3 rfl ?_
        try dsimp only
        refine J.icmp rfl rfl rfl ⟨(show -2147483648 ≤ m0 ∧ m0 ≤ 2147483647 from ⟨by omega, by omega⟩), (show -2147483648 ≤ H.1 11 19 0 ∧ H.1 11 19 0 ≤ 2147483647 from ⟨by omega, by omega⟩)⟩ (fun hc => ?_) (fun hc => ?_)
        · have c44 : H.1 11 19 0 ≤ m0 := hc
          clear hc
          refine J.run0 2 rfl ?_
          try dsimp only
          exact ih.1 (n + 1) (p) H _ (show 1000000000 * (16 - (n + 1)) < _ by omega) (show 0 ≤ (n + 1) ∧ (n + 1) ≤ 16 from ⟨by omega, by omega⟩) hT hE  (Or.inr (Or.inr (Or.inr (Or.inl ⟨_, _, _, rfl⟩))))
        · have c45 : ¬ (H.1 11 19 0 ≤ m0) := hc
          clear hc
          have f46 : 0 ≤ H.2.2.1 79 0 (n) ∧ H.2.2.1 79 0 (n) ≤ 1 := hT.1 79 (n)
          refine J.run 4 rfl (show 0 ≤ n ∧ n < 16 from ⟨by omega, by omega⟩) ?_
          try dsimp only
          refine J.ifc rfl rfl rfl (show -2147483648 ≤ H.2.2.1 79 0 (n) ∧ H.2.2.1 79 0 (n) ≤ 2147483647 from ⟨by omega, by omega⟩) (fun hc => ?_) (fun hc => ?_)
          · have c47 : ¬ (H.2.2.1 79 0 (n) = (0 : Int)) := hc
            clear hc
            refine J.run0 2 rfl ?_
            try dsimp only
            exact ih.1 (n + 1) (p) H _ (show 1000000000 * (16 - (n + 1)) < _ by omega) (show 0 ≤ (n + 1) ∧ (n + 1) ≤ 16 from ⟨by omega, by omega⟩) hT hE  (Or.inr (Or.inr (Or.inr (Or.inl ⟨_, _, _, rfl⟩))))
          · have c48 : ¬ (¬ (H.2.2.1 79 0 (n) = (0 : Int))) := hc
            clear hc
            have f49 : 0 ≤ H.2.2.1 64 0 (m0) ∧ H.2.2.1 64 0 (m0) ≤ 15 := hT.1 64 (m0)
            refine J.run 5 rfl (show 0 ≤ m0 ∧ m0 < 6000 from ⟨by omega, by omega⟩) ?_
            try dsimp only
            refine J.icmp rfl rfl rfl ⟨(show -2147483648 ≤ H.2.2.1 64 0 (m0) ∧ H.2.2.1 64 0 (m0) ≤ 2147483647 from ⟨by omega, by omega⟩), (show -2147483648 ≤ n ∧ n ≤ 2147483647 from ⟨by omega, by omega⟩)⟩ (fun hc => ?_) (fun hc => ?_)
            · have c50 : H.2.2.1 64 0 (m0) = n := hc
              clear hc
              refine J.run 5 rfl (show 0 ≤ c ∧ c < 6000 from ⟨by omega, by omega⟩) ?_
              try dsimp only
              refine J.gn fun H51 hH51 => ?_
              have hT52 : gT H51 := by rw [hH51]; exact gT.upd hT (show 0 ≤ m0 ∧ m0 ≤ 5999 from ⟨by omega, by omega⟩) (fun z => absurd z (by decide))
              have hE53 : jEx [] [109] H51 H0 := by rw [hH51]; exact jEx.row hE (by decide)
              have g54 : H51.2.2.1 109 0 (c) = m0 := by subst hH51; exact if_pos rfl
              have g55 : H51.1 11 12 0 = H.1 11 12 0 := by subst hH51; rfl
              have g56 : H51.2.2.1 79 0 (n) = H.2.2.1 79 0 (n) := by subst hH51; rfl
              have g57 : H51.2.2.1 64 0 (m0) = H.2.2.1 64 0 (m0) := by subst hH51; rfl
              clear hH51
              refine J.run0 3 rfl ?_
              try dsimp only
              exact ih.2.2.1 (n) (p) (c + 1) (m0) ((0 : Int)) H51 _ (show 1000000000 * (16 - (n)) - 2 - 20000 * (m0) - 2 * ((0 : Int)) < _ by omega) (show 0 ≤ (n) ∧ (n) < 16 from ⟨by omega, by omega⟩) (show 1 ≤ (c + 1) ∧ (c + 1) ≤ (m0) + 1 from ⟨by omega, by omega⟩) (show 0 ≤ (m0) ∧ (m0) < 6000 from ⟨by omega, by omega⟩) (show 0 ≤ ((0 : Int)) ∧ ((0 : Int)) ≤ 6000 from ⟨by omega, by omega⟩) hT52 hE53  (Or.inr (Or.inr (rfl)))
            · have c58 : ¬ (H.2.2.1 64 0 (m0) = n) := hc
              clear hc
              refine J.run0 1 rfl ?_
              try dsimp only
              exact ih.2.2.2.2 (n) (p) (c) (m0) H _ (show 1000000000 * (16 - (n)) - 2 - 20000 * (m0) - 16000 < _ by omega) (show 0 ≤ (n) ∧ (n) < 16 from ⟨by omega, by omega⟩) (show 0 ≤ (c) ∧ (c) ≤ (m0) + 1 from ⟨by omega, by omega⟩) (show 0 ≤ (m0) ∧ (m0) < 6000 from ⟨by omega, by omega⟩) hT hE  (Or.inr (Or.inr (Or.inr (Or.inr (Or.inl ⟨_, rfl⟩)))))
      · skip
        have f59 : 0 ≤ H.1 11 19 0 ∧ H.1 11 19 0 ≤ 6000 := hT.2.1 19
        refine J.run0 3 rfl ?_
        try dsimp only
        refine J.icmp rfl rfl rfl ⟨(show -2147483648 ≤ m0 ∧ m0 ≤ 2147483647 from ⟨by omega, by omega⟩), (show -2147483648 ≤ H.1 11 19 0 ∧ H.1 11 19 0 ≤ 2147483647 from ⟨by omega, by omega⟩)⟩ (fun hc => ?_) (fun hc => ?_)
        · have c60 : H.1 11 19 0 ≤ m0 := hc
          clear hc
          refine J.run0 2 rfl ?_
          try dsimp only
          exact ih.1 (n + 1) (p) H _ (show 1000000000 * (16 - (n + 1)) < _ by omega) (show 0 ≤ (n + 1) ∧ (n + 1) ≤ 16 from ⟨by omega, by omega⟩) hT hE  (Or.inr (Or.inr (Or.inr (Or.inr (⟨_, _, _, rfl⟩)))))
        · have c61 : ¬ (H.1 11 19 0 ≤ m0) := hc
          clear hc
          have f62 : 0 ≤ H.2.2.1 79 0 (n) ∧ H.2.2.1 79 0 (n) ≤ 1 := hT.1 79 (n)
          refine J.run 4 rfl (show 0 ≤ n ∧ n < 16 from ⟨by omega, by omega⟩) ?_
          try dsimp only
          refine J.ifc rfl rfl rfl (show -2147483648 ≤ H.2.2.1 79 0 (n) ∧ H.2.2.1 79 0 (n) ≤ 2147483647 from ⟨by omega, by omega⟩) (fun hc => ?_) (fun hc => ?_)
          · have c63 : ¬ (H.2.2.1 79 0 (n) = (0 : Int)) := hc
            clear hc
            refine J.run0 2 rfl ?_
            try dsimp only
            exact ih.1 (n + 1) (p) H _ (show 1000000000 * (16 - (n + 1)) < _ by omega) (show 0 ≤ (n + 1) ∧ (n + 1) ≤ 16 from ⟨by omega, by omega⟩) hT hE  (Or.inr (Or.inr (Or.inr (Or.inr (⟨_, _, _, rfl⟩)))))
          · have c64 : ¬ (¬ (H.2.2.1 79 0 (n) = (0 : Int))) := hc
            clear hc
            have f65 : 0 ≤ H.2.2.1 64 0 (m0) ∧ H.2.2.1 64 0 (m0) ≤ 15 := hT.1 64 (m0)
            refine J.run 5 rfl (show 0 ≤ m0 ∧ m0 < 6000 from ⟨by omega, by omega⟩) ?_
            try dsimp only
            refine J.icmp rfl rfl rfl ⟨(show -2147483648 ≤ H.2.2.1 64 0 (m0) ∧ H.2.2.1 64 0 (m0) ≤ 2147483647 from ⟨by omega, by omega⟩), (show -2147483648 ≤ n ∧ n ≤ 2147483647 from ⟨by omega, by omega⟩)⟩ (fun hc => ?_) (fun hc => ?_)
            · have c66 : H.2.2.1 64 0 (m0) = n := hc
              clear hc
              refine J.run 5 rfl (show 0 ≤ c ∧ c < 6000 from ⟨by omega, by omega⟩) ?_
              try dsimp only
              refine J.gn fun H67 hH67 => ?_
              have hT68 : gT H67 := by rw [hH67]; exact gT.upd hT (show 0 ≤ m0 ∧ m0 ≤ 5999 from ⟨by omega, by omega⟩) (fun z => absurd z (by decide))
              have hE69 : jEx [] [109] H67 H0 := by rw [hH67]; exact jEx.row hE (by decide)
              have g70 : H67.2.2.1 109 0 (c) = m0 := by subst hH67; exact if_pos rfl
              have g71 : H67.1 11 12 0 = H.1 11 12 0 := by subst hH67; rfl
              have g72 : H67.2.2.1 79 0 (n) = H.2.2.1 79 0 (n) := by subst hH67; rfl
              have g73 : H67.2.2.1 64 0 (m0) = H.2.2.1 64 0 (m0) := by subst hH67; rfl
              clear hH67
              refine J.run0 3 rfl ?_
              try dsimp only
              exact ih.2.2.1 (n) (p) (c + 1) (m0) ((0 : Int)) H67 _ (show 1000000000 * (16 - (n)) - 2 - 20000 * (m0) - 2 * ((0 : Int)) < _ by omega) (show 0 ≤ (n) ∧ (n) < 16 from ⟨by omega, by omega⟩) (show 1 ≤ (c + 1) ∧ (c + 1) ≤ (m0) + 1 from ⟨by omega, by omega⟩) (show 0 ≤ (m0) ∧ (m0) < 6000 from ⟨by omega, by omega⟩) (show 0 ≤ ((0 : Int)) ∧ ((0 : Int)) ≤ 6000 from ⟨by omega, by omega⟩) hT68 hE69  (Or.inl rfl)
            · have c74 : ¬ (H.2.2.1 64 0 (m0) = n) := hc
              clear hc
              refine J.run0 1 rfl ?_
              try dsimp only
              exact ih.2.2.2.2 (n) (p) (c) (m0) H _ (show 1000000000 * (16 - (n)) - 2 - 20000 * (m0) - 16000 < _ by omega) (show 0 ≤ (n) ∧ (n) < 16 from ⟨by omega, by omega⟩) (show 0 ≤ (c) ∧ (c) ≤ (m0) + 1 from ⟨by omega, by omega⟩) (show 0 ≤ (m0) ∧ (m0) < 6000 from ⟨by omega, by omega⟩) hT hE  (Or.inr (Or.inr (Or.inr (Or.inr (Or.inr (Or.inl ⟨_, rfl⟩))))))
      · skip
        have f75 : 0 ≤ H.1 11 19 0 ∧ H.1 11 19 0 ≤ 6000 := hT.2.1 19
        refine J.run0 3 rfl ?_
        try dsimp only
        refine J.icmp rfl rfl rfl ⟨(show -2147483648 ≤ m0 ∧ m0 ≤ 2147483647 from ⟨by omega, by omega⟩), (show -2147483648 ≤ H.1 11 19 0 ∧ H.1 11 19 0 ≤ 2147483647 from ⟨by omega, by omega⟩)⟩ (fun hc => ?_) (fun hc => ?_)
        · have c76 : H.1 11 19 0 ≤ m0 := hc
          clear hc
          refine J.run0 2 rfl ?_
          try dsimp only
          exact ih.1 (n + 1) (p) H _ (show 1000000000 * (16 - (n + 1)) < _ by omega) (show 0 ≤ (n + 1) ∧ (n + 1) ≤ 16 from ⟨by omega, by omega⟩) hT hE  (Or.inr (Or.inr (Or.inl ⟨_, _, _, rfl⟩)))
        · have c77 : ¬ (H.1 11 19 0 ≤ m0) := hc
          clear hc
          have f78 : 0 ≤ H.2.2.1 79 0 (n) ∧ H.2.2.1 79 0 (n) ≤ 1 := hT.1 79 (n)
          refine J.run 4 rfl (show 0 ≤ n ∧ n < 16 from ⟨by omega, by omega⟩) ?_
          try dsimp only
          refine J.ifc rfl rfl rfl (show -2147483648 ≤ H.2.2.1 79 0 (n) ∧ H.2.2.1 79 0 (n) ≤ 2147483647 from ⟨by omega, by omega⟩) (fun hc => ?_) (fun hc => ?_)
          · have c79 : ¬ (H.2.2.1 79 0 (n) = (0 : Int)) := hc
            clear hc
            refine J.run0 2 rfl ?_
            try dsimp only
            exact ih.1 (n + 1) (p) H _ (show 1000000000 * (16 - (n + 1)) < _ by omega) (show 0 ≤ (n + 1) ∧ (n + 1) ≤ 16 from ⟨by omega, by omega⟩) hT hE  (Or.inr (Or.inr (Or.inl ⟨_, _, _, rfl⟩)))
          · have c80 : ¬ (¬ (H.2.2.1 79 0 (n) = (0 : Int))) := hc
            clear hc
            have f81 : 0 ≤ H.2.2.1 64 0 (m0) ∧ H.2.2.1 64 0 (m0) ≤ 15 := hT.1 64 (m0)
            refine J.run 5 rfl (show 0 ≤ m0 ∧ m0 < 6000 from ⟨by omega, by omega⟩) ?_
            try dsimp only
            refine J.icmp rfl rfl rfl ⟨(show -2147483648 ≤ H.2.2.1 64 0 (m0) ∧ H.2.2.1 64 0 (m0) ≤ 2147483647 from ⟨by omega, by omega⟩), (show -2147483648 ≤ n ∧ n ≤ 2147483647 from ⟨by omega, by omega⟩)⟩ (fun hc => ?_) (fun hc => ?_)
            · have c82 : H.2.2.1 64 0 (m0) = n := hc
              clear hc
              refine J.run 5 rfl (show 0 ≤ c ∧ c < 6000 from ⟨by omega, by omega⟩) ?_
              try dsimp only
              refine J.gn fun H83 hH83 => ?_
              have hT84 : gT H83 := by rw [hH83]; exact gT.upd hT (show 0 ≤ m0 ∧ m0 ≤ 5999 from ⟨by omega, by omega⟩) (fun z => absurd z (by decide))
              have hE85 : jEx [] [109] H83 H0 := by rw [hH83]; exact jEx.row hE (by decide)
              have g86 : H83.2.2.1 109 0 (c) = m0 := by subst hH83; exact if_pos rfl
              have g87 : H83.1 11 12 0 = H.1 11 12 0 := by subst hH83; rfl
              have g88 : H83.2.2.1 79 0 (n) = H.2.2.1 79 0 (n) := by subst hH83; rfl
              have g89 : H83.2.2.1 64 0 (m0) = H.2.2.1 64 0 (m0) := by subst hH83; rfl
              clear hH83
              refine J.run0 3 rfl ?_
              try dsimp only
              exact ih.2.2.1 (n) (p) (c + 1) (m0) ((0 : Int)) H83 _ (show 1000000000 * (16 - (n)) - 2 - 20000 * (m0) - 2 * ((0 : Int)) < _ by omega) (show 0 ≤ (n) ∧ (n) < 16 from ⟨by omega, by omega⟩) (show 1 ≤ (c + 1) ∧ (c + 1) ≤ (m0) + 1 from ⟨by omega, by omega⟩) (show 0 ≤ (m0) ∧ (m0) < 6000 from ⟨by omega, by omega⟩) (show 0 ≤ ((0 : Int)) ∧ ((0 : Int)) ≤ 6000 from ⟨by omega, by omega⟩) hT84 hE85  (Or.inr (Or.inr (rfl)))
            · have c90 : ¬ (H.2.2.1 64 0 (m0) = n) := hc
              clear hc
              refine J.run0 1 rfl ?_
              try dsimp only
              exact ih.2.2.2.2 (n) (p) (c) (m0) H _ (show 1000000000 * (16 - (n)) - 2 - 20000 * (m0) - 16000 < _ by omega) (show 0 ≤ (n) ∧ (n) < 16 from ⟨by omega, by omega⟩) (show 0 ≤ (c) ∧ (c) ≤ (m0) + 1 from ⟨by omega, by omega⟩) (show 0 ≤ (m0) ∧ (m0) < 6000 from ⟨by omega, by omega⟩) hT hE  (Or.inr (Or.inr (Or.inr (Or.inr (Or.inr (Or.inr (Or.inr (⟨_, rfl⟩))))))))
    · intro n p c m0 i H lv hm hi0 hi1 hi2 hi3 hT hE hlv
      rcases hlv with rfl | rfl | rfl
      · skip
        refine J.run0 4 rfl ?_
        try dsimp only
        refine J.icmp rfl rfl rfl ⟨(show -2147483648 ≤ i ∧ i ≤ 2147483647 from ⟨by omega, by omega⟩), (show -2147483648 ≤ c - (1 : Int) ∧ c - (1 : Int) ≤ 2147483647 from ⟨by omega, by omega⟩)⟩ (fun hc => ?_) (fun hc => ?_)
        · have c91 : c - (1 : Int) ≤ i := hc
          clear hc
          exact ih.2.2.2.2 (n) (p) (c) (m0) H _ (show 1000000000 * (16 - (n)) - 2 - 20000 * (m0) - 16000 < _ by omega) (show 0 ≤ (n) ∧ (n) < 16 from ⟨by omega, by omega⟩) (show 0 ≤ (c) ∧ (c) ≤ (m0) + 1 from ⟨by omega, by omega⟩) (show 0 ≤ (m0) ∧ (m0) < 6000 from ⟨by omega, by omega⟩) hT hE  (Or.inr (Or.inl ⟨_, rfl⟩))
        · have c92 : ¬ (c - (1 : Int) ≤ i) := hc
          clear hc
          have f93 : 0 ≤ H.2.2.1 109 0 (i) ∧ H.2.2.1 109 0 (i) ≤ 5999 := hT.1 109 (i)
          have f94 : 0 ≤ H.2.2.1 63 0 (H.2.2.1 109 0 (i)) ∧ H.2.2.1 63 0 (H.2.2.1 109 0 (i)) ≤ 2 := hT.1 63 (H.2.2.1 109 0 (i))
          have g95 : m0 = H.2.2.1 109 0 (i) → H.2.2.1 63 0 (m0) = H.2.2.1 63 0 (H.2.2.1 109 0 (i)) := fun z => by rw [z]
          have f96 : 0 ≤ H.2.2.1 63 0 (m0) ∧ H.2.2.1 63 0 (m0) ≤ 2 := hT.1 63 (m0)
          refine J.run 11 rfl ⟨(show 0 ≤ i ∧ i < 6000 from ⟨by omega, by omega⟩), (show 0 ≤ H.2.2.1 109 0 (i) ∧ H.2.2.1 109 0 (i) < 6000 from ⟨by omega, by omega⟩), (show 0 ≤ m0 ∧ m0 < 6000 from ⟨by omega, by omega⟩)⟩ ?_
          try dsimp only
          refine J.icmp rfl rfl rfl ⟨(show -2147483648 ≤ H.2.2.1 63 0 (H.2.2.1 109 0 (i)) ∧ H.2.2.1 63 0 (H.2.2.1 109 0 (i)) ≤ 2147483647 from ⟨by omega, by omega⟩), (show -2147483648 ≤ H.2.2.1 63 0 (m0) ∧ H.2.2.1 63 0 (m0) ≤ 2147483647 from ⟨by omega, by omega⟩)⟩ (fun hc => ?_) (fun hc => ?_)
          · have c97 : ¬ (H.2.2.1 63 0 (H.2.2.1 109 0 (i)) = H.2.2.1 63 0 (m0)) := hc
            clear hc
            exact ih.2.2.2.1 (n) (p) (c) (m0) (i) H _ (show 1000000000 * (16 - (n)) - 2 - 20000 * (m0) - 2 * (i) - 1 < _ by omega) (show 0 ≤ (n) ∧ (n) < 16 from ⟨by omega, by omega⟩) (show 1 ≤ (c) ∧ (c) ≤ (m0) + 1 from ⟨by omega, by omega⟩) (show 0 ≤ (m0) ∧ (m0) < 6000 from ⟨by omega, by omega⟩) (show 0 ≤ (i) ∧ (i) < 6000 from ⟨by omega, by omega⟩) hT hE  (Or.inl rfl)
          · have c98 : ¬ (¬ (H.2.2.1 63 0 (H.2.2.1 109 0 (i)) = H.2.2.1 63 0 (m0))) := hc
            clear hc
            have f99 : 0 ≤ H.2.2.1 65 0 (H.2.2.1 109 0 (i)) ∧ H.2.2.1 65 0 (H.2.2.1 109 0 (i)) ≤ 301 := hT.1 65 (H.2.2.1 109 0 (i))
            have g100 : m0 = H.2.2.1 109 0 (i) → H.2.2.1 65 0 (m0) = H.2.2.1 65 0 (H.2.2.1 109 0 (i)) := fun z => by rw [z]
            have f101 : 0 ≤ H.2.2.1 65 0 (m0) ∧ H.2.2.1 65 0 (m0) ≤ 301 := hT.1 65 (m0)
            refine J.run 11 rfl ⟨(show 0 ≤ i ∧ i < 6000 from ⟨by omega, by omega⟩), (show 0 ≤ H.2.2.1 109 0 (i) ∧ H.2.2.1 109 0 (i) < 6000 from ⟨by omega, by omega⟩), (show 0 ≤ m0 ∧ m0 < 6000 from ⟨by omega, by omega⟩)⟩ ?_
            try dsimp only
            refine J.icmp rfl rfl rfl ⟨(show -2147483648 ≤ H.2.2.1 65 0 (H.2.2.1 109 0 (i)) ∧ H.2.2.1 65 0 (H.2.2.1 109 0 (i)) ≤ 2147483647 from ⟨by omega, by omega⟩), (show -2147483648 ≤ H.2.2.1 65 0 (m0) ∧ H.2.2.1 65 0 (m0) ≤ 2147483647 from ⟨by omega, by omega⟩)⟩ (fun hc => ?_) (fun hc => ?_)
            · have c102 : ¬ (H.2.2.1 65 0 (H.2.2.1 109 0 (i)) = H.2.2.1 65 0 (m0)) := hc
              clear hc
              exact ih.2.2.2.1 (n) (p) (c) (m0) (i) H _ (show 1000000000 * (16 - (n)) - 2 - 20000 * (m0) - 2 * (i) - 1 < _ by omega) (show 0 ≤ (n) ∧ (n) < 16 from ⟨by omega, by omega⟩) (show 1 ≤ (c) ∧ (c) ≤ (m0) + 1 from ⟨by omega, by omega⟩) (show 0 ≤ (m0) ∧ (m0) < 6000 from ⟨by omega, by omega⟩) (show 0 ≤ (i) ∧ (i) < 6000 from ⟨by omega, by omega⟩) hT hE  (Or.inl rfl)
            · have c103 : ¬ (¬ (H.2.2.1 65 0 (H.2.2.1 109 0 (i)) = H.2.2.1 65 0 (m0))) := hc
              clear hc
              have f104 : 0 ≤ H.2.2.1 66 0 (H.2.2.1 109 0 (i)) ∧ H.2.2.1 66 0 (H.2.2.1 109 0 (i)) ≤ 31 := hT.1 66 (H.2.2.1 109 0 (i))
              have g105 : m0 = H.2.2.1 109 0 (i) → H.2.2.1 66 0 (m0) = H.2.2.1 66 0 (H.2.2.1 109 0 (i)) := fun z => by rw [z]
              have f106 : 0 ≤ H.2.2.1 66 0 (m0) ∧ H.2.2.1 66 0 (m0) ≤ 31 := hT.1 66 (m0)
              refine J.run 11 rfl ⟨(show 0 ≤ i ∧ i < 6000 from ⟨by omega, by omega⟩), (show 0 ≤ H.2.2.1 109 0 (i) ∧ H.2.2.1 109 0 (i) < 6000 from ⟨by omega, by omega⟩), (show 0 ≤ m0 ∧ m0 < 6000 from ⟨by omega, by omega⟩)⟩ ?_
              try dsimp only
              refine J.icmp rfl rfl rfl ⟨(show -2147483648 ≤ H.2.2.1 66 0 (H.2.2.1 109 0 (i)) ∧ H.2.2.1 66 0 (H.2.2.1 109 0 (i)) ≤ 2147483647 from ⟨by omega, by omega⟩), (show -2147483648 ≤ H.2.2.1 66 0 (m0) ∧ H.2.2.1 66 0 (m0) ≤ 2147483647 from ⟨by omega, by omega⟩)⟩ (fun hc => ?_) (fun hc => ?_)
              · have c107 : ¬ (H.2.2.1 66 0 (H.2.2.1 109 0 (i)) = H.2.2.1 66 0 (m0)) := hc
                clear hc
                exact ih.2.2.2.1 (n) (p) (c) (m0) (i) H _ (show 1000000000 * (16 - (n)) - 2 - 20000 * (m0) - 2 * (i) - 1 < _ by omega) (show 0 ≤ (n) ∧ (n) < 16 from ⟨by omega, by omega⟩) (show 1 ≤ (c) ∧ (c) ≤ (m0) + 1 from ⟨by omega, by omega⟩) (show 0 ≤ (m0) ∧ (m0) < 6000 from ⟨by omega, by omega⟩) (show 0 ≤ (i) ∧ (i) < 6000 from ⟨by omega, by omega⟩) hT hE  (Or.inl rfl)
              · have c108 : ¬ (¬ (H.2.2.1 66 0 (H.2.2.1 109 0 (i)) = H.2.2.1 66 0 (m0))) := hc
                clear hc
                have f109 : -1 ≤ H.2.2.1 67 0 (H.2.2.1 109 0 (i)) ∧ H.2.2.1 67 0 (H.2.2.1 109 0 (i)) ≤ 299 := hT.1 67 (H.2.2.1 109 0 (i))
                have f110 : 1 ≤ H.1 11 12 0 ∧ H.1 11 12 0 ≤ 300 := hT.2.1 12
                have f109b : H.2.2.1 67 0 (H.2.2.1 109 0 (i)) < H.1 11 12 0 := hT.2.2.1 67 (H.2.2.1 109 0 (i)) rfl
                have g111 : m0 = H.2.2.1 109 0 (i) → H.2.2.1 67 0 (m0) = H.2.2.1 67 0 (H.2.2.1 109 0 (i)) := fun z => by rw [z]
                have f112 : -1 ≤ H.2.2.1 67 0 (m0) ∧ H.2.2.1 67 0 (m0) ≤ 299 := hT.1 67 (m0)
                have f112b : H.2.2.1 67 0 (m0) < H.1 11 12 0 := hT.2.2.1 67 (m0) rfl
                refine J.run 11 rfl ⟨(show 0 ≤ i ∧ i < 6000 from ⟨by omega, by omega⟩), (show 0 ≤ H.2.2.1 109 0 (i) ∧ H.2.2.1 109 0 (i) < 6000 from ⟨by omega, by omega⟩), (show 0 ≤ m0 ∧ m0 < 6000 from ⟨by omega, by omega⟩)⟩ ?_
                try dsimp only
                refine J.icmp rfl rfl rfl ⟨(show -2147483648 ≤ H.2.2.1 67 0 (H.2.2.1 109 0 (i)) ∧ H.2.2.1 67 0 (H.2.2.1 109 0 (i)) ≤ 2147483647 from ⟨by omega, by omega⟩), (show -2147483648 ≤ H.2.2.1 67 0 (m0) ∧ H.2.2.1 67 0 (m0) ≤ 2147483647 from ⟨by omega, by omega⟩)⟩ (fun hc => ?_) (fun hc => ?_)
                · have c113 : H.2.2.1 67 0 (H.2.2.1 109 0 (i)) = H.2.2.1 67 0 (m0) := hc
                  clear hc
                  exact ih.2.2.2.1 (n) (p) (c) (m0) (i) H _ (show 1000000000 * (16 - (n)) - 2 - 20000 * (m0) - 2 * (i) - 1 < _ by omega) (show 0 ≤ (n) ∧ (n) < 16 from ⟨by omega, by omega⟩) (show 1 ≤ (c) ∧ (c) ≤ (m0) + 1 from ⟨by omega, by omega⟩) (show 0 ≤ (m0) ∧ (m0) < 6000 from ⟨by omega, by omega⟩) (show 0 ≤ (i) ∧ (i) < 6000 from ⟨by omega, by omega⟩) hT hE  (Or.inl rfl)
                · have c114 : ¬ (H.2.2.1 67 0 (H.2.2.1 109 0 (i)) = H.2.2.1 67 0 (m0)) := hc
                  clear hc
                  refine J.run0 1 rfl ?_
                  try dsimp only
                  exact ih.2.2.2.1 (n) (p + 1) (c) (m0) (i) H _ (show 1000000000 * (16 - (n)) - 2 - 20000 * (m0) - 2 * (i) - 1 < _ by omega) (show 0 ≤ (n) ∧ (n) < 16 from ⟨by omega, by omega⟩) (show 1 ≤ (c) ∧ (c) ≤ (m0) + 1 from ⟨by omega, by omega⟩) (show 0 ≤ (m0) ∧ (m0) < 6000 from ⟨by omega, by omega⟩) (show 0 ≤ (i) ∧ (i) < 6000 from ⟨by omega, by omega⟩) hT hE  (Or.inr (Or.inl rfl))
      · skip
        refine J.run0 4 rfl ?_
        try dsimp only
        refine J.icmp rfl rfl rfl ⟨(show -2147483648 ≤ i ∧ i ≤ 2147483647 from ⟨by omega, by omega⟩), (show -2147483648 ≤ c - (1 : Int) ∧ c - (1 : Int) ≤ 2147483647 from ⟨by omega, by omega⟩)⟩ (fun hc => ?_) (fun hc => ?_)
        · have c115 : c - (1 : Int) ≤ i := hc
          clear hc
          exact ih.2.2.2.2 (n) (p) (c) (m0) H _ (show 1000000000 * (16 - (n)) - 2 - 20000 * (m0) - 16000 < _ by omega) (show 0 ≤ (n) ∧ (n) < 16 from ⟨by omega, by omega⟩) (show 0 ≤ (c) ∧ (c) ≤ (m0) + 1 from ⟨by omega, by omega⟩) (show 0 ≤ (m0) ∧ (m0) < 6000 from ⟨by omega, by omega⟩) hT hE  (Or.inr (Or.inr (Or.inr (Or.inl ⟨_, rfl⟩))))
        · have c116 : ¬ (c - (1 : Int) ≤ i) := hc
          clear hc
          have f117 : 0 ≤ H.2.2.1 109 0 (i) ∧ H.2.2.1 109 0 (i) ≤ 5999 := hT.1 109 (i)
          have f118 : 0 ≤ H.2.2.1 63 0 (H.2.2.1 109 0 (i)) ∧ H.2.2.1 63 0 (H.2.2.1 109 0 (i)) ≤ 2 := hT.1 63 (H.2.2.1 109 0 (i))
          have g119 : m0 = H.2.2.1 109 0 (i) → H.2.2.1 63 0 (m0) = H.2.2.1 63 0 (H.2.2.1 109 0 (i)) := fun z => by rw [z]
          have f120 : 0 ≤ H.2.2.1 63 0 (m0) ∧ H.2.2.1 63 0 (m0) ≤ 2 := hT.1 63 (m0)
          refine J.run 11 rfl ⟨(show 0 ≤ i ∧ i < 6000 from ⟨by omega, by omega⟩), (show 0 ≤ H.2.2.1 109 0 (i) ∧ H.2.2.1 109 0 (i) < 6000 from ⟨by omega, by omega⟩), (show 0 ≤ m0 ∧ m0 < 6000 from ⟨by omega, by omega⟩)⟩ ?_
          try dsimp only
          refine J.icmp rfl rfl rfl ⟨(show -2147483648 ≤ H.2.2.1 63 0 (H.2.2.1 109 0 (i)) ∧ H.2.2.1 63 0 (H.2.2.1 109 0 (i)) ≤ 2147483647 from ⟨by omega, by omega⟩), (show -2147483648 ≤ H.2.2.1 63 0 (m0) ∧ H.2.2.1 63 0 (m0) ≤ 2147483647 from ⟨by omega, by omega⟩)⟩ (fun hc => ?_) (fun hc => ?_)
          · have c121 : ¬ (H.2.2.1 63 0 (H.2.2.1 109 0 (i)) = H.2.2.1 63 0 (m0)) := hc
            clear hc
            exact ih.2.2.2.1 (n) (p) (c) (m0) (i) H _ (show 1000000000 * (16 - (n)) - 2 - 20000 * (m0) - 2 * (i) - 1 < _ by omega) (show 0 ≤ (n) ∧ (n) < 16 from ⟨by omega, by omega⟩) (show 1 ≤ (c) ∧ (c) ≤ (m0) + 1 from ⟨by omega, by omega⟩) (show 0 ≤ (m0) ∧ (m0) < 6000 from ⟨by omega, by omega⟩) (show 0 ≤ (i) ∧ (i) < 6000 from ⟨by omega, by omega⟩) hT hE  (Or.inr (Or.inr (Or.inl rfl)))
          · have c122 : ¬ (¬ (H.2.2.1 63 0 (H.2.2.1 109 0 (i)) = H.2.2.1 63 0 (m0))) := hc
            clear hc
            have f123 : 0 ≤ H.2.2.1 65 0 (H.2.2.1 109 0 (i)) ∧ H.2.2.1 65 0 (H.2.2.1 109 0 (i)) ≤ 301 := hT.1 65 (H.2.2.1 109 0 (i))
            have g124 : m0 = H.2.2.1 109 0 (i) → H.2.2.1 65 0 (m0) = H.2.2.1 65 0 (H.2.2.1 109 0 (i)) := fun z => by rw [z]
            have f125 : 0 ≤ H.2.2.1 65 0 (m0) ∧ H.2.2.1 65 0 (m0) ≤ 301 := hT.1 65 (m0)
            refine J.run 11 rfl ⟨(show 0 ≤ i ∧ i < 6000 from ⟨by omega, by omega⟩), (show 0 ≤ H.2.2.1 109 0 (i) ∧ H.2.2.1 109 0 (i) < 6000 from ⟨by omega, by omega⟩), (show 0 ≤ m0 ∧ m0 < 6000 from ⟨by omega, by omega⟩)⟩ ?_
            try dsimp only
            refine J.icmp rfl rfl rfl ⟨(show -2147483648 ≤ H.2.2.1 65 0 (H.2.2.1 109 0 (i)) ∧ H.2.2.1 65 0 (H.2.2.1 109 0 (i)) ≤ 2147483647 from ⟨by omega, by omega⟩), (show -2147483648 ≤ H.2.2.1 65 0 (m0) ∧ H.2.2.1 65 0 (m0) ≤ 2147483647 from ⟨by omega, by omega⟩)⟩ (fun hc => ?_) (fun hc => ?_)
            · have c126 : ¬ (H.2.2.1 65 0 (H.2.2.1 109 0 (i)) = H.2.2.1 65 0 (m0)) := hc
              clear hc
              exact ih.2.2.2.1 (n) (p) (c) (m0) (i) H _ (show 1000000000 * (16 - (n)) - 2 - 20000 * (m0) - 2 * (i) - 1 < _ by omega) (show 0 ≤ (n) ∧ (n) < 16 from ⟨by omega, by omega⟩) (show 1 ≤ (c) ∧ (c) ≤ (m0) + 1 from ⟨by omega, by omega⟩) (show 0 ≤ (m0) ∧ (m0) < 6000 from ⟨by omega, by omega⟩) (show 0 ≤ (i) ∧ (i) < 6000 from ⟨by omega, by omega⟩) hT hE  (Or.inr (Or.inr (Or.inl rfl)))
            · have c127 : ¬ (¬ (H.2.2.1 65 0 (H.2.2.1 109 0 (i)) = H.2.2.1 65 0 (m0))) := hc
              clear hc
              have f128 : 0 ≤ H.2.2.1 66 0 (H.2.2.1 109 0 (i)) ∧ H.2.2.1 66 0 (H.2.2.1 109 0 (i)) ≤ 31 := hT.1 66 (H.2.2.1 109 0 (i))
              have g129 : m0 = H.2.2.1 109 0 (i) → H.2.2.1 66 0 (m0) = H.2.2.1 66 0 (H.2.2.1 109 0 (i)) := fun z => by rw [z]
              have f130 : 0 ≤ H.2.2.1 66 0 (m0) ∧ H.2.2.1 66 0 (m0) ≤ 31 := hT.1 66 (m0)
              refine J.run 11 rfl ⟨(show 0 ≤ i ∧ i < 6000 from ⟨by omega, by omega⟩), (show 0 ≤ H.2.2.1 109 0 (i) ∧ H.2.2.1 109 0 (i) < 6000 from ⟨by omega, by omega⟩), (show 0 ≤ m0 ∧ m0 < 6000 from ⟨by omega, by omega⟩)⟩ ?_
              try dsimp only
              refine J.icmp rfl rfl rfl ⟨(show -2147483648 ≤ H.2.2.1 66 0 (H.2.2.1 109 0 (i)) ∧ H.2.2.1 66 0 (H.2.2.1 109 0 (i)) ≤ 2147483647 from ⟨by omega, by omega⟩), (show -2147483648 ≤ H.2.2.1 66 0 (m0) ∧ H.2.2.1 66 0 (m0) ≤ 2147483647 from ⟨by omega, by omega⟩)⟩ (fun hc => ?_) (fun hc => ?_)
              · have c131 : ¬ (H.2.2.1 66 0 (H.2.2.1 109 0 (i)) = H.2.2.1 66 0 (m0)) := hc
                clear hc
                exact ih.2.2.2.1 (n) (p) (c) (m0) (i) H _ (show 1000000000 * (16 - (n)) - 2 - 20000 * (m0) - 2 * (i) - 1 < _ by omega) (show 0 ≤ (n) ∧ (n) < 16 from ⟨by omega, by omega⟩) (show 1 ≤ (c) ∧ (c) ≤ (m0) + 1 from ⟨by omega, by omega⟩) (show 0 ≤ (m0) ∧ (m0) < 6000 from ⟨by omega, by omega⟩) (show 0 ≤ (i) ∧ (i) < 6000 from ⟨by omega, by omega⟩) hT hE  (Or.inr (Or.inr (Or.inl rfl)))
              · have c132 : ¬ (¬ (H.2.2.1 66 0 (H.2.2.1 109 0 (i)) = H.2.2.1 66 0 (m0))) := hc
                clear hc
                have f133 : -1 ≤ H.2.2.1 67 0 (H.2.2.1 109 0 (i)) ∧ H.2.2.1 67 0 (H.2.2.1 109 0 (i)) ≤ 299 := hT.1 67 (H.2.2.1 109 0 (i))
                have f134 : 1 ≤ H.1 11 12 0 ∧ H.1 11 12 0 ≤ 300 := hT.2.1 12
                have f133b : H.2.2.1 67 0 (H.2.2.1 109 0 (i)) < H.1 11 12 0 := hT.2.2.1 67 (H.2.2.1 109 0 (i)) rfl
                have g135 : m0 = H.2.2.1 109 0 (i) → H.2.2.1 67 0 (m0) = H.2.2.1 67 0 (H.2.2.1 109 0 (i)) := fun z => by rw [z]
                have f136 : -1 ≤ H.2.2.1 67 0 (m0) ∧ H.2.2.1 67 0 (m0) ≤ 299 := hT.1 67 (m0)
                have f136b : H.2.2.1 67 0 (m0) < H.1 11 12 0 := hT.2.2.1 67 (m0) rfl
                refine J.run 11 rfl ⟨(show 0 ≤ i ∧ i < 6000 from ⟨by omega, by omega⟩), (show 0 ≤ H.2.2.1 109 0 (i) ∧ H.2.2.1 109 0 (i) < 6000 from ⟨by omega, by omega⟩), (show 0 ≤ m0 ∧ m0 < 6000 from ⟨by omega, by omega⟩)⟩ ?_
                try dsimp only
                refine J.icmp rfl rfl rfl ⟨(show -2147483648 ≤ H.2.2.1 67 0 (H.2.2.1 109 0 (i)) ∧ H.2.2.1 67 0 (H.2.2.1 109 0 (i)) ≤ 2147483647 from ⟨by omega, by omega⟩), (show -2147483648 ≤ H.2.2.1 67 0 (m0) ∧ H.2.2.1 67 0 (m0) ≤ 2147483647 from ⟨by omega, by omega⟩)⟩ (fun hc => ?_) (fun hc => ?_)
                · have c137 : H.2.2.1 67 0 (H.2.2.1 109 0 (i)) = H.2.2.1 67 0 (m0) := hc
                  clear hc
                  exact ih.2.2.2.1 (n) (p) (c) (m0) (i) H _ (show 1000000000 * (16 - (n)) - 2 - 20000 * (m0) - 2 * (i) - 1 < _ by omega) (show 0 ≤ (n) ∧ (n) < 16 from ⟨by omega, by omega⟩) (show 1 ≤ (c) ∧ (c) ≤ (m0) + 1 from ⟨by omega, by omega⟩) (show 0 ≤ (m0) ∧ (m0) < 6000 from ⟨by omega, by omega⟩) (show 0 ≤ (i) ∧ (i) < 6000 from ⟨by omega, by omega⟩) hT hE  (Or.inr (Or.inr (Or.inl rfl)))
                · have c138 : ¬ (H.2.2.1 67 0 (H.2.2.1 109 0 (i)) = H.2.2.1 67 0 (m0)) := hc
                  clear hc
                  refine J.run0 1 rfl ?_
                  try dsimp only
                  exact ih.2.2.2.1 (n) (p + 1) (c) (m0) (i) H _ (show 1000000000 * (16 - (n)) - 2 - 20000 * (m0) - 2 * (i) - 1 < _ by omega) (show 0 ≤ (n) ∧ (n) < 16 from ⟨by omega, by omega⟩) (show 1 ≤ (c) ∧ (c) ≤ (m0) + 1 from ⟨by omega, by omega⟩) (show 0 ≤ (m0) ∧ (m0) < 6000 from ⟨by omega, by omega⟩) (show 0 ≤ (i) ∧ (i) < 6000 from ⟨by omega, by omega⟩) hT hE  (Or.inr (Or.inl rfl))
      · skip
        refine J.run0 4 rfl ?_
        try dsimp only
        refine J.icmp rfl rfl rfl ⟨(show -2147483648 ≤ i ∧ i ≤ 2147483647 from ⟨by omega, by omega⟩), (show -2147483648 ≤ c - (1 : Int) ∧ c - (1 : Int) ≤ 2147483647 from ⟨by omega, by omega⟩)⟩ (fun hc => ?_) (fun hc => ?_)
        · have c139 : c - (1 : Int) ≤ i := hc
          clear hc
          exact ih.2.2.2.2 (n) (p) (c) (m0) H _ (show 1000000000 * (16 - (n)) - 2 - 20000 * (m0) - 16000 < _ by omega) (show 0 ≤ (n) ∧ (n) < 16 from ⟨by omega, by omega⟩) (show 0 ≤ (c) ∧ (c) ≤ (m0) + 1 from ⟨by omega, by omega⟩) (show 0 ≤ (m0) ∧ (m0) < 6000 from ⟨by omega, by omega⟩) hT hE  (Or.inr (Or.inr (Or.inr (Or.inr (Or.inr (Or.inr (Or.inl ⟨_, rfl⟩)))))))
        · have c140 : ¬ (c - (1 : Int) ≤ i) := hc
          clear hc
          have f141 : 0 ≤ H.2.2.1 109 0 (i) ∧ H.2.2.1 109 0 (i) ≤ 5999 := hT.1 109 (i)
          have f142 : 0 ≤ H.2.2.1 63 0 (H.2.2.1 109 0 (i)) ∧ H.2.2.1 63 0 (H.2.2.1 109 0 (i)) ≤ 2 := hT.1 63 (H.2.2.1 109 0 (i))
          have g143 : m0 = H.2.2.1 109 0 (i) → H.2.2.1 63 0 (m0) = H.2.2.1 63 0 (H.2.2.1 109 0 (i)) := fun z => by rw [z]
          have f144 : 0 ≤ H.2.2.1 63 0 (m0) ∧ H.2.2.1 63 0 (m0) ≤ 2 := hT.1 63 (m0)
          refine J.run 11 rfl ⟨(show 0 ≤ i ∧ i < 6000 from ⟨by omega, by omega⟩), (show 0 ≤ H.2.2.1 109 0 (i) ∧ H.2.2.1 109 0 (i) < 6000 from ⟨by omega, by omega⟩), (show 0 ≤ m0 ∧ m0 < 6000 from ⟨by omega, by omega⟩)⟩ ?_
          try dsimp only
          refine J.icmp rfl rfl rfl ⟨(show -2147483648 ≤ H.2.2.1 63 0 (H.2.2.1 109 0 (i)) ∧ H.2.2.1 63 0 (H.2.2.1 109 0 (i)) ≤ 2147483647 from ⟨by omega, by omega⟩), (show -2147483648 ≤ H.2.2.1 63 0 (m0) ∧ H.2.2.1 63 0 (m0) ≤ 2147483647 from ⟨by omega, by omega⟩)⟩ (fun hc => ?_) (fun hc => ?_)
          · have c145 : ¬ (H.2.2.1 63 0 (H.2.2.1 109 0 (i)) = H.2.2.1 63 0 (m0)) := hc
            clear hc
            exact ih.2.2.2.1 (n) (p) (c) (m0) (i) H _ (show 1000000000 * (16 - (n)) - 2 - 20000 * (m0) - 2 * (i) - 1 < _ by omega) (show 0 ≤ (n) ∧ (n) < 16 from ⟨by omega, by omega⟩) (show 1 ≤ (c) ∧ (c) ≤ (m0) + 1 from ⟨by omega, by omega⟩) (show 0 ≤ (m0) ∧ (m0) < 6000 from ⟨by omega, by omega⟩) (show 0 ≤ (i) ∧ (i) < 6000 from ⟨by omega, by omega⟩) hT hE  (Or.inr (Or.inr (Or.inr (rfl))))
          · have c146 : ¬ (¬ (H.2.2.1 63 0 (H.2.2.1 109 0 (i)) = H.2.2.1 63 0 (m0))) := hc
            clear hc
            have f147 : 0 ≤ H.2.2.1 65 0 (H.2.2.1 109 0 (i)) ∧ H.2.2.1 65 0 (H.2.2.1 109 0 (i)) ≤ 301 := hT.1 65 (H.2.2.1 109 0 (i))
            have g148 : m0 = H.2.2.1 109 0 (i) → H.2.2.1 65 0 (m0) = H.2.2.1 65 0 (H.2.2.1 109 0 (i)) := fun z => by rw [z]
            have f149 : 0 ≤ H.2.2.1 65 0 (m0) ∧ H.2.2.1 65 0 (m0) ≤ 301 := hT.1 65 (m0)
            refine J.run 11 rfl ⟨(show 0 ≤ i ∧ i < 6000 from ⟨by omega, by omega⟩), (show 0 ≤ H.2.2.1 109 0 (i) ∧ H.2.2.1 109 0 (i) < 6000 from ⟨by omega, by omega⟩), (show 0 ≤ m0 ∧ m0 < 6000 from ⟨by omega, by omega⟩)⟩ ?_
            try dsimp only
            refine J.icmp rfl rfl rfl ⟨(show -2147483648 ≤ H.2.2.1 65 0 (H.2.2.1 109 0 (i)) ∧ H.2.2.1 65 0 (H.2.2.1 109 0 (i)) ≤ 2147483647 from ⟨by omega, by omega⟩), (show -2147483648 ≤ H.2.2.1 65 0 (m0) ∧ H.2.2.1 65 0 (m0) ≤ 2147483647 from ⟨by omega, by omega⟩)⟩ (fun hc => ?_) (fun hc => ?_)
            · have c150 : ¬ (H.2.2.1 65 0 (H.2.2.1 109 0 (i)) = H.2.2.1 65 0 (m0)) := hc
              clear hc
              exact ih.2.2.2.1 (n) (p) (c) (m0) (i) H _ (show 1000000000 * (16 - (n)) - 2 - 20000 * (m0) - 2 * (i) - 1 < _ by omega) (show 0 ≤ (n) ∧ (n) < 16 from ⟨by omega, by omega⟩) (show 1 ≤ (c) ∧ (c) ≤ (m0) + 1 from ⟨by omega, by omega⟩) (show 0 ≤ (m0) ∧ (m0) < 6000 from ⟨by omega, by omega⟩) (show 0 ≤ (i) ∧ (i) < 6000 from ⟨by omega, by omega⟩) hT hE  (Or.inr (Or.inr (Or.inr (rfl))))
            · have c151 : ¬ (¬ (H.2.2.1 65 0 (H.2.2.1 109 0 (i)) = H.2.2.1 65 0 (m0))) := hc
              clear hc
              have f152 : 0 ≤ H.2.2.1 66 0 (H.2.2.1 109 0 (i)) ∧ H.2.2.1 66 0 (H.2.2.1 109 0 (i)) ≤ 31 := hT.1 66 (H.2.2.1 109 0 (i))
              have g153 : m0 = H.2.2.1 109 0 (i) → H.2.2.1 66 0 (m0) = H.2.2.1 66 0 (H.2.2.1 109 0 (i)) := fun z => by rw [z]
              have f154 : 0 ≤ H.2.2.1 66 0 (m0) ∧ H.2.2.1 66 0 (m0) ≤ 31 := hT.1 66 (m0)
              refine J.run 11 rfl ⟨(show 0 ≤ i ∧ i < 6000 from ⟨by omega, by omega⟩), (show 0 ≤ H.2.2.1 109 0 (i) ∧ H.2.2.1 109 0 (i) < 6000 from ⟨by omega, by omega⟩), (show 0 ≤ m0 ∧ m0 < 6000 from ⟨by omega, by omega⟩)⟩ ?_
              try dsimp only
              refine J.icmp rfl rfl rfl ⟨(show -2147483648 ≤ H.2.2.1 66 0 (H.2.2.1 109 0 (i)) ∧ H.2.2.1 66 0 (H.2.2.1 109 0 (i)) ≤ 2147483647 from ⟨by omega, by omega⟩), (show -2147483648 ≤ H.2.2.1 66 0 (m0) ∧ H.2.2.1 66 0 (m0) ≤ 2147483647 from ⟨by omega, by omega⟩)⟩ (fun hc => ?_) (fun hc => ?_)
              · have c155 : ¬ (H.2.2.1 66 0 (H.2.2.1 109 0 (i)) = H.2.2.1 66 0 (m0)) := hc
                clear hc
                exact ih.2.2.2.1 (n) (p) (c) (m0) (i) H _ (show 1000000000 * (16 - (n)) - 2 - 20000 * (m0) - 2 * (i) - 1 < _ by omega) (show 0 ≤ (n) ∧ (n) < 16 from ⟨by omega, by omega⟩) (show 1 ≤ (c) ∧ (c) ≤ (m0) + 1 from ⟨by omega, by omega⟩) (show 0 ≤ (m0) ∧ (m0) < 6000 from ⟨by omega, by omega⟩) (show 0 ≤ (i) ∧ (i) < 6000 from ⟨by omega, by omega⟩) hT hE  (Or.inr (Or.inr (Or.inr (rfl))))
              · have c156 : ¬ (¬ (H.2.2.1 66 0 (H.2.2.1 109 0 (i)) = H.2.2.1 66 0 (m0))) := hc
                clear hc
                have f157 : -1 ≤ H.2.2.1 67 0 (H.2.2.1 109 0 (i)) ∧ H.2.2.1 67 0 (H.2.2.1 109 0 (i)) ≤ 299 := hT.1 67 (H.2.2.1 109 0 (i))
                have f158 : 1 ≤ H.1 11 12 0 ∧ H.1 11 12 0 ≤ 300 := hT.2.1 12
                have f157b : H.2.2.1 67 0 (H.2.2.1 109 0 (i)) < H.1 11 12 0 := hT.2.2.1 67 (H.2.2.1 109 0 (i)) rfl
                have g159 : m0 = H.2.2.1 109 0 (i) → H.2.2.1 67 0 (m0) = H.2.2.1 67 0 (H.2.2.1 109 0 (i)) := fun z => by rw [z]
                have f160 : -1 ≤ H.2.2.1 67 0 (m0) ∧ H.2.2.1 67 0 (m0) ≤ 299 := hT.1 67 (m0)
                have f160b : H.2.2.1 67 0 (m0) < H.1 11 12 0 := hT.2.2.1 67 (m0) rfl
                refine J.run 11 rfl ⟨(show 0 ≤ i ∧ i < 6000 from ⟨by omega, by omega⟩), (show 0 ≤ H.2.2.1 109 0 (i) ∧ H.2.2.1 109 0 (i) < 6000 from ⟨by omega, by omega⟩), (show 0 ≤ m0 ∧ m0 < 6000 from ⟨by omega, by omega⟩)⟩ ?_
                try dsimp only
                refine J.icmp rfl rfl rfl ⟨(show -2147483648 ≤ H.2.2.1 67 0 (H.2.2.1 109 0 (i)) ∧ H.2.2.1 67 0 (H.2.2.1 109 0 (i)) ≤ 2147483647 from ⟨by omega, by omega⟩), (show -2147483648 ≤ H.2.2.1 67 0 (m0) ∧ H.2.2.1 67 0 (m0) ≤ 2147483647 from ⟨by omega, by omega⟩)⟩ (fun hc => ?_) (fun hc => ?_)
                · have c161 : H.2.2.1 67 0 (H.2.2.1 109 0 (i)) = H.2.2.1 67 0 (m0) := hc
                  clear hc
                  exact ih.2.2.2.1 (n) (p) (c) (m0) (i) H _ (show 1000000000 * (16 - (n)) - 2 - 20000 * (m0) - 2 * (i) - 1 < _ by omega) (show 0 ≤ (n) ∧ (n) < 16 from ⟨by omega, by omega⟩) (show 1 ≤ (c) ∧ (c) ≤ (m0) + 1 from ⟨by omega, by omega⟩) (show 0 ≤ (m0) ∧ (m0) < 6000 from ⟨by omega, by omega⟩) (show 0 ≤ (i) ∧ (i) < 6000 from ⟨by omega, by omega⟩) hT hE  (Or.inr (Or.inr (Or.inr (rfl))))
                · have c162 : ¬ (H.2.2.1 67 0 (H.2.2.1 109 0 (i)) = H.2.2.1 67 0 (m0)) := hc
                  clear hc
                  refine J.run0 1 rfl ?_
                  try dsimp only
                  exact ih.2.2.2.1 (n) (p + 1) (c) (m0) (i) H _ (show 1000000000 * (16 - (n)) - 2 - 20000 * (m0) - 2 * (i) - 1 < _ by omega) (show 0 ≤ (n) ∧ (n) < 16 from ⟨by omega, by omega⟩) (show 1 ≤ (c) ∧ (c) ≤ (m0) + 1 from ⟨by omega, by omega⟩) (show 0 ≤ (m0) ∧ (m0) < 6000 from ⟨by omega, by omega⟩) (show 0 ≤ (i) ∧ (i) < 6000 from ⟨by omega, by omega⟩) hT hE  (Or.inr (Or.inl rfl))
    · intro n p c m0 i H lv hm hi0 hi1 hi2 hi3 hT hE hlv
      rcases hlv with rfl | rfl | rfl | rfl
      · skip
        refine J.run0 2 rfl ?_
        try dsimp only
        exact ih.2.2.1 (n) (p) (c) (m0) (i + 1) H _ (show 1000000000 * (16 - (n)) - 2 - 20000 * (m0) - 2 * (i + 1) < _ by omega) (show 0 ≤ (n) ∧ (n) < 16 from ⟨by omega, by omega⟩) (show 1 ≤ (c) ∧ (c) ≤ (m0) + 1 from ⟨by omega, by omega⟩) (show 0 ≤ (m0) ∧ (m0) < 6000 from ⟨by omega, by omega⟩) (show 0 ≤ (i + 1) ∧ (i + 1) ≤ 6000 from ⟨by omega, by omega⟩) hT hE  (Or.inl rfl)
      · skip
        refine J.run0 2 rfl ?_
        try dsimp only
        exact ih.2.2.1 (n) (p) (c) (m0) (i + 1) H _ (show 1000000000 * (16 - (n)) - 2 - 20000 * (m0) - 2 * (i + 1) < _ by omega) (show 0 ≤ (n) ∧ (n) < 16 from ⟨by omega, by omega⟩) (show 1 ≤ (c) ∧ (c) ≤ (m0) + 1 from ⟨by omega, by omega⟩) (show 0 ≤ (m0) ∧ (m0) < 6000 from ⟨by omega, by omega⟩) (show 0 ≤ (i + 1) ∧ (i + 1) ≤ 6000 from ⟨by omega, by omega⟩) hT hE  (Or.inr (Or.inl rfl))
      · skip
        refine J.run0 2 rfl ?_
        try dsimp only
        exact ih.2.2.1 (n) (p) (c) (m0) (i + 1) H _ (show 1000000000 * (16 - (n)) - 2 - 20000 * (m0) - 2 * (i + 1) < _ by omega) (show 0 ≤ (n) ∧ (n) < 16 from ⟨by omega, by omega⟩) (show 1 ≤ (c) ∧ (c) ≤ (m0) + 1 from ⟨by omega, by omega⟩) (show 0 ≤ (m0) ∧ (m0) < 6000 from ⟨by omega, by omega⟩) (show 0 ≤ (i + 1) ∧ (i + 1) ≤ 6000 from ⟨by omega, by omega⟩) hT hE  (Or.inr (Or.inl rfl))
      · skip
        refine J.run0 2 rfl ?_
        try dsimp only
        exact ih.2.2.1 (n) (p) (c) (m0) (i + 1) H _ (show 1000000000 * (16 - (n)) - 2 - 20000 * (m0) - 2 * (i + 1) < _ by omega) (show 0 ≤ (n) ∧ (n) < 16 from ⟨by omega, by omega⟩) (show 1 ≤ (c) ∧ (c) ≤ (m0) + 1 from ⟨by omega, by omega⟩) (show 0 ≤ (m0) ∧ (m0) < 6000 from ⟨by omega, by omega⟩) (show 0 ≤ (i + 1) ∧ (i + 1) ≤ 6000 from ⟨by omega, by omega⟩) hT hE  (Or.inr (Or.inr (rfl)))
    · intro n p c m0 H lv hm hi0 hi1 hi2 hT hE hlv
      rcases hlv with rfl | ⟨j5, rfl⟩ | ⟨j5, rfl⟩ | ⟨j5, rfl⟩ | ⟨j5, rfl⟩ | ⟨j5, rfl⟩ | ⟨j5, rfl⟩ | ⟨j5, rfl⟩
      · skip
        refine J.run0 2 rfl ?_
        try dsimp only
        exact ih.2.1 (n) (p) (c) (m0 + 1) H _ (show 1000000000 * (16 - (n)) - 1 - 20000 * (m0 + 1) < _ by omega) (show 0 ≤ (n) ∧ (n) < 16 from ⟨by omega, by omega⟩) (show 0 ≤ (c) ∧ (c) ≤ (m0 + 1) from ⟨by omega, by omega⟩) (show (m0 + 1) ≤ 6000 from by omega) hT hE  (Or.inl rfl)
      · skip
        refine J.run0 2 rfl ?_
        try dsimp only
        exact ih.2.1 (n) (p) (c) (m0 + 1) H _ (show 1000000000 * (16 - (n)) - 1 - 20000 * (m0 + 1) < _ by omega) (show 0 ≤ (n) ∧ (n) < 16 from ⟨by omega, by omega⟩) (show 0 ≤ (c) ∧ (c) ≤ (m0 + 1) from ⟨by omega, by omega⟩) (show (m0 + 1) ≤ 6000 from by omega) hT hE  (Or.inr (Or.inl ⟨_, rfl⟩))
      · skip
        refine J.run0 2 rfl ?_
        try dsimp only
        exact ih.2.1 (n) (p) (c) (m0 + 1) H _ (show 1000000000 * (16 - (n)) - 1 - 20000 * (m0 + 1) < _ by omega) (show 0 ≤ (n) ∧ (n) < 16 from ⟨by omega, by omega⟩) (show 0 ≤ (c) ∧ (c) ≤ (m0 + 1) from ⟨by omega, by omega⟩) (show (m0 + 1) ≤ 6000 from by omega) hT hE  (Or.inr (Or.inl ⟨_, rfl⟩))
      · skip
        refine J.run0 2 rfl ?_
        try dsimp only
        exact ih.2.1 (n) (p) (c) (m0 + 1) H _ (show 1000000000 * (16 - (n)) - 1 - 20000 * (m0 + 1) < _ by omega) (show 0 ≤ (n) ∧ (n) < 16 from ⟨by omega, by omega⟩) (show 0 ≤ (c) ∧ (c) ≤ (m0 + 1) from ⟨by omega, by omega⟩) (show (m0 + 1) ≤ 6000 from by omega) hT hE  (Or.inr (Or.inr (Or.inl ⟨_, rfl⟩)))
      · skip
        refine J.run0 2 rfl ?_
        try dsimp only
        exact ih.2.1 (n) (p) (c) (m0 + 1) H _ (show 1000000000 * (16 - (n)) - 1 - 20000 * (m0 + 1) < _ by omega) (show 0 ≤ (n) ∧ (n) < 16 from ⟨by omega, by omega⟩) (show 0 ≤ (c) ∧ (c) ≤ (m0 + 1) from ⟨by omega, by omega⟩) (show (m0 + 1) ≤ 6000 from by omega) hT hE  (Or.inr (Or.inr (Or.inl ⟨_, rfl⟩)))
      · skip
        refine J.run0 2 rfl ?_
        try dsimp only
        exact ih.2.1 (n) (p) (c) (m0 + 1) H _ (show 1000000000 * (16 - (n)) - 1 - 20000 * (m0 + 1) < _ by omega) (show 0 ≤ (n) ∧ (n) < 16 from ⟨by omega, by omega⟩) (show 0 ≤ (c) ∧ (c) ≤ (m0 + 1) from ⟨by omega, by omega⟩) (show (m0 + 1) ≤ 6000 from by omega) hT hE  (Or.inr (Or.inr (Or.inr (Or.inl ⟨_, rfl⟩))))
      · skip
        refine J.run0 2 rfl ?_
        try dsimp only
        exact ih.2.1 (n) (p) (c) (m0 + 1) H _ (show 1000000000 * (16 - (n)) - 1 - 20000 * (m0 + 1) < _ by omega) (show 0 ≤ (n) ∧ (n) < 16 from ⟨by omega, by omega⟩) (show 0 ≤ (c) ∧ (c) ≤ (m0 + 1) from ⟨by omega, by omega⟩) (show (m0 + 1) ≤ 6000 from by omega) hT hE  (Or.inr (Or.inr (Or.inr (Or.inr (⟨_, rfl⟩)))))
      · skip
        refine J.run0 2 rfl ?_
        try dsimp only
        exact ih.2.1 (n) (p) (c) (m0 + 1) H _ (show 1000000000 * (16 - (n)) - 1 - 20000 * (m0 + 1) < _ by omega) (show 0 ≤ (n) ∧ (n) < 16 from ⟨by omega, by omega⟩) (show 0 ≤ (c) ∧ (c) ≤ (m0 + 1) from ⟨by omega, by omega⟩) (show (m0 + 1) ≤ 6000 from by omega) hT hE  (Or.inr (Or.inr (Or.inr (Or.inr (⟨_, rfl⟩)))))
-- 
theorem g_doubles {H : jH} (hT : gT H)   : J true d 158 w (0, jargs 0 [jT], [], H) (jN fun v w' H' => w' = w ∧ gT H' ∧ jEx [] [109] H' H ∧ ∃ x, v = some (.inl x) ∧ True) := by
  have hE : jEx [] [109] H H := jEx.refl _ _ _
  refine J.run0 4 rfl ?_
  try dsimp only
  exact (g_doubles_l0 (H0 := H)    ((1000000000 * (16 - ((0 : Int))) : Int).toNat + 1)).1 ((0 : Int)) ((0 : Int)) H _ (show 1000000000 * (16 - ((0 : Int))) < _ by omega) (show 0 ≤ ((0 : Int)) ∧ ((0 : Int)) ≤ 16 from ⟨by omega, by omega⟩) hT hE  (Or.inl rfl)
end
