-- M: X11_isMoved#6
section
variable {d : Nat} {w : jW} 
set_option maxRecDepth 20000 in
set_option maxHeartbeats 8000000 in
theorem g_isMoved_l6 {n u : Int} {H0 : jH} (hp0 : 0 ≤ n ∧ n < 16) (hp1 : H0.2.2.1 79 0 (n) = 0) (hp2 : H0.2.2.1 80 0 (n) = 0) (hp3 : n < u) : ∀ (m : Nat), (∀ (most k : Int) (H : jH) (lv : jL), 6000 - k < (m : Int) → (0 ≤ k ∧ k ≤ 6000) → (0 ≤ most ∧ most ≤ 31) → (H.2.2.1 73 0 (n) = H0.2.2.1 73 0 (n)) → (H.2.2.1 74 0 (n) = H0.2.2.1 74 0 (n)) → (H.2.2.1 115 0 (n) = H0.2.2.1 115 0 (n)) → (H.2.2.1 72 0 (n) = H0.2.2.1 72 0 (n)) → (H.2.2.1 79 0 (n) = 0) → (H.2.2.1 80 0 (n) = 0) → (H.2.2.1 56 0 (H0.2.2.1 72 0 (n)) = H0.2.2.1 56 0 (H0.2.2.1 72 0 (n))) → (H.2.2.1 83 0 (n) ≤ 3 * H0.2.2.1 73 0 (n) + H0.2.2.1 74 0 (n) + 1) → (H0.1 11 19 0 ≤ H.1 11 19 0) → (0 ≤ H0.2.2.1 73 0 (n) ∧ H0.2.2.1 73 0 (n) ≤ 31) → (0 ≤ H0.2.2.1 74 0 (n) ∧ H0.2.2.1 74 0 (n) ≤ 2) → (0 ≤ H0.2.2.1 115 0 (n) ∧ H0.2.2.1 115 0 (n) ≤ 1) → (0 ≤ H0.2.2.1 72 0 (n) ∧ H0.2.2.1 72 0 (n) ≤ 299) → gT H → jEx [19, 12, 48, 56, 57] [60, 56, 59, 58, 55, 57, 61, 99, 100, 77, 78, 82, 80, 114, 115, 81, 105, 71, 70, 72, 75, 76, 68, 67, 65, 63, 64, 66, 112, 113, 108, 110, 101, 102, 103, 104, 83, 73, 74, 84, 111, 89, 88, 93, 94, 86, 91, 92, 85, 87, 90] H H0 → gP H → gX H → gL H → gZ H → gQ H → gB H → gK H → gN H → gW H (H.1 11 19 0) → gU H u → (lv = [(3, .inl k), (2, .inl most), (0, jT), (1, .inl n)]) → J true (d + 304) 143 w (4, lv, [], H) (jN fun v w' H' => w' = w ∧ gT H' ∧ jEx [19, 12, 48, 56, 57] [60, 56, 59, 58, 55, 57, 61, 99, 100, 77, 78, 82, 80, 114, 115, 81, 105, 71, 70, 72, 75, 76, 68, 67, 65, 63, 64, 66, 112, 113, 108, 110, 101, 102, 103, 104, 83, 73, 74, 84, 111, 89, 88, 93, 94, 86, 91, 92, 85, 87, 90] H' H0 ∧ gP H' ∧ gX H' ∧ gL H' ∧ gZ H' ∧ gQ H' ∧ gB H' ∧ gK H' ∧ gN H' ∧ gW H' (H'.1 11 19 0) ∧ gU H' u ∧ ∃ x, v = some (.inl x) ∧ (x = 0 ∨ x = 1) ∧ (x = 1 → 192 * H0.2.2.1 56 0 (H0.2.2.1 72 0 (n)) + 6 * H0.2.2.1 73 0 (n) + 2 * H0.2.2.1 74 0 (n) + H0.2.2.1 115 0 (n) + 1 ≤ 192 * H'.2.2.1 56 0 (H'.2.2.1 72 0 (n)) + 6 * H'.2.2.1 73 0 (n) + 2 * H'.2.2.1 74 0 (n) + H'.2.2.1 115 0 (n)) ∧ H0.1 11 19 0 ≤ H'.1 11 19 0)) := by
  intro m
  induction m with
  | zero =>
    skip
    · intro most k H lv hm hi0 hi1 hi2 hi3 hi4 hi5 hi6 hi7 hi8 hi9 hi10 hi11 hi12 hi13 hi14 hT hE k0gP k0gX k0gL k0gZ k0gQ k0gB k0gK k0gN k0gW k0gU hlv
      exfalso
      omega
  | succ m ih =>
    skip
    · intro most k H lv hm hi0 hi1 hi2 hi3 hi4 hi5 hi6 hi7 hi8 hi9 hi10 hi11 hi12 hi13 hi14 hT hE k0gP k0gX k0gL k0gZ k0gQ k0gB k0gK k0gN k0gW k0gU hlv
      rcases hlv with rfl
      have f1908 : 0 ≤ H.2.2.1 113 0 (n) ∧ H.2.2.1 113 0 (n) ≤ 6000 := hT.1 113 (n)
      refine J.run 5 rfl (show 0 ≤ n ∧ n < 16 from ⟨by omega, by omega⟩) ?_
      try dsimp only
      refine J.icmp rfl rfl rfl ⟨(show -2147483648 ≤ k ∧ k ≤ 2147483647 from ⟨by omega, by omega⟩), (show -2147483648 ≤ H.2.2.1 113 0 (n) ∧ H.2.2.1 113 0 (n) ≤ 2147483647 from ⟨by omega, by omega⟩)⟩ (fun hc => ?_) (fun hc => ?_)
      · have c1909 : H.2.2.1 113 0 (n) ≤ k := hc
        clear hc
        refine J.run0 2 rfl ?_
        try dsimp only
        exact (g_isMoved_l5 (H0 := H0) (n := n) (u := u)  hp0 hp1 hp2 hp3 ((40 - ((0 : Int)) : Int).toNat + 1)) (most) ((0 : Int)) H _ (show 40 - ((0 : Int)) < _ by omega) (show 0 ≤ ((0 : Int)) ∧ ((0 : Int)) ≤ 32 from ⟨by omega, by omega⟩) (show 0 ≤ (most) ∧ (most) ≤ 31 from ⟨by omega, by omega⟩) (show H.2.2.1 73 0 (n) = H0.2.2.1 73 0 (n) from by omega) (show H.2.2.1 74 0 (n) = H0.2.2.1 74 0 (n) from by omega) (show H.2.2.1 115 0 (n) = H0.2.2.1 115 0 (n) from by omega) (show H.2.2.1 72 0 (n) = H0.2.2.1 72 0 (n) from by omega) (show H.2.2.1 79 0 (n) = 0 from by omega) (show H.2.2.1 80 0 (n) = 0 from by omega) (show H.2.2.1 56 0 (H0.2.2.1 72 0 (n)) = H0.2.2.1 56 0 (H0.2.2.1 72 0 (n)) from by omega) (show H.2.2.1 83 0 (n) ≤ 3 * H0.2.2.1 73 0 (n) + H0.2.2.1 74 0 (n) + 1 from by omega) (show H0.1 11 19 0 ≤ H.1 11 19 0 from by omega) (show 0 ≤ H0.2.2.1 73 0 (n) ∧ H0.2.2.1 73 0 (n) ≤ 31 from ⟨by omega, by omega⟩) (show 0 ≤ H0.2.2.1 74 0 (n) ∧ H0.2.2.1 74 0 (n) ≤ 2 from ⟨by omega, by omega⟩) (show 0 ≤ H0.2.2.1 115 0 (n) ∧ H0.2.2.1 115 0 (n) ≤ 1 from ⟨by omega, by omega⟩) (show 0 ≤ H0.2.2.1 72 0 (n) ∧ H0.2.2.1 72 0 (n) ≤ 299 from ⟨by omega, by omega⟩) hT hE k0gP k0gX k0gL k0gZ k0gQ k0gB k0gK k0gN k0gW k0gU (Or.inl rfl)
      · have c1910 : ¬ (H.2.2.1 113 0 (n) ≤ k) := hc
        clear hc
        have f1911 : 0 ≤ H.2.2.1 112 0 (((6000 : Int) * n) + k) ∧ H.2.2.1 112 0 (((6000 : Int) * n) + k) ≤ 5999 := hT.1 112 (((6000 : Int) * n) + k)
        have f1912 : 0 ≤ H.2.2.1 66 0 (H.2.2.1 112 0 (((6000 : Int) * n) + k)) ∧ H.2.2.1 66 0 (H.2.2.1 112 0 (((6000 : Int) * n) + k)) ≤ 31 := hT.1 66 (H.2.2.1 112 0 (((6000 : Int) * n) + k))
        refine J.run 12 rfl ⟨(show 0 ≤ ((6000 : Int) * n) + k ∧ ((6000 : Int) * n) + k < 96000 from ⟨by omega, by omega⟩), (show 0 ≤ H.2.2.1 112 0 (((6000 : Int) * n) + k) ∧ H.2.2.1 112 0 (((6000 : Int) * n) + k) < 6000 from ⟨by omega, by omega⟩)⟩ ?_
        try dsimp only
        refine J.max rfl rfl rfl ⟨by omega, by omega⟩ ⟨by omega, by omega⟩ ?_
        obtain ⟨x1913, ex1913⟩ : ∃ z, z = (if most < H.2.2.1 66 0 (H.2.2.1 112 0 (((6000 : Int) * n) + k)) then H.2.2.1 66 0 (H.2.2.1 112 0 (((6000 : Int) * n) + k)) else most) := ⟨_, rfl⟩
        rw [← ex1913]
        have f1914 : (most ≤ x1913 ∧ H.2.2.1 66 0 (H.2.2.1 112 0 (((6000 : Int) * n) + k)) ≤ x1913) ∧ (x1913 = most ∨ x1913 = H.2.2.1 66 0 (H.2.2.1 112 0 (((6000 : Int) * n) + k))) := by rw [ex1913]; split <;> omega
        refine J.run0 3 rfl ?_
        try dsimp only
        exact ih (x1913) (k + 1) H _ (show 6000 - (k + 1) < _ by omega) (show 0 ≤ (k + 1) ∧ (k + 1) ≤ 6000 from ⟨by omega, by omega⟩) (show 0 ≤ (x1913) ∧ (x1913) ≤ 31 from ⟨by omega, by omega⟩) (show H.2.2.1 73 0 (n) = H0.2.2.1 73 0 (n) from by omega) (show H.2.2.1 74 0 (n) = H0.2.2.1 74 0 (n) from by omega) (show H.2.2.1 115 0 (n) = H0.2.2.1 115 0 (n) from by omega) (show H.2.2.1 72 0 (n) = H0.2.2.1 72 0 (n) from by omega) (show H.2.2.1 79 0 (n) = 0 from by omega) (show H.2.2.1 80 0 (n) = 0 from by omega) (show H.2.2.1 56 0 (H0.2.2.1 72 0 (n)) = H0.2.2.1 56 0 (H0.2.2.1 72 0 (n)) from by omega) (show H.2.2.1 83 0 (n) ≤ 3 * H0.2.2.1 73 0 (n) + H0.2.2.1 74 0 (n) + 1 from by omega) (show H0.1 11 19 0 ≤ H.1 11 19 0 from by omega) (show 0 ≤ H0.2.2.1 73 0 (n) ∧ H0.2.2.1 73 0 (n) ≤ 31 from ⟨by omega, by omega⟩) (show 0 ≤ H0.2.2.1 74 0 (n) ∧ H0.2.2.1 74 0 (n) ≤ 2 from ⟨by omega, by omega⟩) (show 0 ≤ H0.2.2.1 115 0 (n) ∧ H0.2.2.1 115 0 (n) ≤ 1 from ⟨by omega, by omega⟩) (show 0 ≤ H0.2.2.1 72 0 (n) ∧ H0.2.2.1 72 0 (n) ≤ 299 from ⟨by omega, by omega⟩) hT hE k0gP k0gX k0gL k0gZ k0gQ k0gB k0gK k0gN k0gW k0gU rfl
end
