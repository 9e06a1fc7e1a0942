-- M: X11_isMoved#2
section
variable {d : Nat} {w : jW} 
set_option maxRecDepth 20000 in
set_option maxHeartbeats 8000000 in
theorem g_isMoved_l2 {n u : Int} {H0 : jH} (hp0 : 0 ≤ n ∧ n < 16) (hp1 : H0.2.2.1 79 0 (n) = 0) (hp2 : H0.2.2.1 80 0 (n) = 0) (hp3 : n < u) : ∀ (m : Nat), (∀ (r p : Int) (H : jH) (lv : jL), 0 < (m : Int) → (r = H0.2.2.1 73 0 (n)) → (-1 ≤ p ∧ p ≤ 5999) → (0 ≤ p → 0 ≤ H.2.2.1 67 0 (p)) → (H.2.2.1 73 0 (n) = H0.2.2.1 73 0 (n)) → (H.2.2.1 74 0 (n) = H0.2.2.1 74 0 (n)) → (H.2.2.1 115 0 (n) = H0.2.2.1 115 0 (n)) → (H.2.2.1 72 0 (n) = H0.2.2.1 72 0 (n)) → (H.2.2.1 79 0 (n) = 0) → (H.2.2.1 80 0 (n) = 0) → (H.2.2.1 56 0 (H0.2.2.1 72 0 (n)) = H0.2.2.1 56 0 (H0.2.2.1 72 0 (n))) → (H.2.2.1 83 0 (n) ≤ 3 * H0.2.2.1 73 0 (n) + H0.2.2.1 74 0 (n) + 1) → (H0.1 11 19 0 ≤ H.1 11 19 0) → (0 ≤ H0.2.2.1 73 0 (n) ∧ H0.2.2.1 73 0 (n) ≤ 31) → (0 ≤ H0.2.2.1 74 0 (n) ∧ H0.2.2.1 74 0 (n) ≤ 2) → (0 ≤ H0.2.2.1 115 0 (n) ∧ H0.2.2.1 115 0 (n) ≤ 1) → (0 ≤ H0.2.2.1 72 0 (n) ∧ H0.2.2.1 72 0 (n) ≤ 299) → gT H → jEx [19, 12, 48, 56, 57] [60, 56, 59, 58, 55, 57, 61, 99, 100, 77, 78, 82, 80, 114, 115, 81, 105, 71, 70, 72, 75, 76, 68, 67, 65, 63, 64, 66, 112, 113, 108, 110, 101, 102, 103, 104, 83, 73, 74, 84, 111, 89, 88, 93, 94, 86, 91, 92, 85, 87, 90] H H0 → gP H → gX H → gL H → gZ H → gQ H → gB H → gK H → gN H → gW H (H.1 11 19 0) → gU H u → ((∃ j2 : Int, lv = [(4, .inl p), (3, .inl r), (2, .inl j2), (0, jT), (1, .inl n)]) ∨ (∃ j7 j6 j5 j2 : Int, lv = [(7, .inl j7), (6, .inl j6), (5, .inl j5), (4, .inl p), (3, .inl r), (2, .inl j2), (0, jT), (1, .inl n)]) ∨ (∃ j5 j2 : Int, lv = [(4, .inl p), (3, .inl r), (5, .inl j5), (2, .inl j2), (0, jT), (1, .inl n)])) → J true (d + 304) 143 w (382, lv, [], H) (jN fun v w' H' => w' = w ∧ gT H' ∧ jEx [19, 12, 48, 56, 57] [60, 56, 59, 58, 55, 57, 61, 99, 100, 77, 78, 82, 80, 114, 115, 81, 105, 71, 70, 72, 75, 76, 68, 67, 65, 63, 64, 66, 112, 113, 108, 110, 101, 102, 103, 104, 83, 73, 74, 84, 111, 89, 88, 93, 94, 86, 91, 92, 85, 87, 90] H' H0 ∧ gP H' ∧ gX H' ∧ gL H' ∧ gZ H' ∧ gQ H' ∧ gB H' ∧ gK H' ∧ gN H' ∧ gW H' (H'.1 11 19 0) ∧ gU H' u ∧ ∃ x, v = some (.inl x) ∧ (x = 0 ∨ x = 1) ∧ (x = 1 → 192 * H0.2.2.1 56 0 (H0.2.2.1 72 0 (n)) + 6 * H0.2.2.1 73 0 (n) + 2 * H0.2.2.1 74 0 (n) + H0.2.2.1 115 0 (n) + 1 ≤ 192 * H'.2.2.1 56 0 (H'.2.2.1 72 0 (n)) + 6 * H'.2.2.1 73 0 (n) + 2 * H'.2.2.1 74 0 (n) + H'.2.2.1 115 0 (n)) ∧ H0.1 11 19 0 ≤ H'.1 11 19 0)) := by
  intro m
  induction m with
  | zero =>
    skip
    · intro r p H lv hm hi0 hi1 hi2 hi3 hi4 hi5 hi6 hi7 hi8 hi9 hi10 hi11 hi12 hi13 hi14 hi15 hT hE k0gP k0gX k0gL k0gZ k0gQ k0gB k0gK k0gN k0gW k0gU hlv
      exfalso
      omega
  | succ m ih =>
    skip
    · intro r p H lv hm hi0 hi1 hi2 hi3 hi4 hi5 hi6 hi7 hi8 hi9 hi10 hi11 hi12 hi13 hi14 hi15 hT hE k0gP k0gX k0gL k0gZ k0gQ k0gB k0gK k0gN k0gW k0gU hlv
      rcases hlv with ⟨j2, rfl⟩ | ⟨j7, j6, j5, j2, rfl⟩ | ⟨j5, j2, rfl⟩
      · skip
        have f814 : 0 ≤ H.2.2.1 74 0 (n) ∧ H.2.2.1 74 0 (n) ≤ 2 := hT.1 74 (n)
        refine J.run 4 rfl (show 0 ≤ n ∧ n < 16 from ⟨by omega, by omega⟩) ?_
        try dsimp only
        refine J.ifc rfl rfl rfl (show -2147483648 ≤ H.2.2.1 74 0 (n) ∧ H.2.2.1 74 0 (n) ≤ 2147483647 from ⟨by omega, by omega⟩) (fun hc => ?_) (fun hc => ?_)
        · have c815 : H.2.2.1 74 0 (n) ≤ (0 : Int) := hc
          clear hc
          exact (g_isMoved_l0 (H0 := H0) (n := n) (u := u)  hp0 hp1 hp2 hp3 ((0 : Int).toNat + 1)) (r) H _ (show 0 < _ by omega) (show (r) = H0.2.2.1 73 0 (n) from by omega) (show H.2.2.1 73 0 (n) = H0.2.2.1 73 0 (n) from by omega) (show H.2.2.1 74 0 (n) = H0.2.2.1 74 0 (n) from by omega) (show H.2.2.1 115 0 (n) = H0.2.2.1 115 0 (n) from by omega) (show H.2.2.1 72 0 (n) = H0.2.2.1 72 0 (n) from by omega) (show H.2.2.1 79 0 (n) = 0 from by omega) (show H.2.2.1 80 0 (n) = 0 from by omega) (show H.2.2.1 56 0 (H0.2.2.1 72 0 (n)) = H0.2.2.1 56 0 (H0.2.2.1 72 0 (n)) from by omega) (show H.2.2.1 83 0 (n) ≤ 3 * H0.2.2.1 73 0 (n) + H0.2.2.1 74 0 (n) + 1 from by omega) (show H0.1 11 19 0 ≤ H.1 11 19 0 from by omega) (show 0 ≤ H0.2.2.1 73 0 (n) ∧ H0.2.2.1 73 0 (n) ≤ 31 from ⟨by omega, by omega⟩) (show 0 ≤ H0.2.2.1 74 0 (n) ∧ H0.2.2.1 74 0 (n) ≤ 2 from ⟨by omega, by omega⟩) (show 0 ≤ H0.2.2.1 115 0 (n) ∧ H0.2.2.1 115 0 (n) ≤ 1 from ⟨by omega, by omega⟩) (show 0 ≤ H0.2.2.1 72 0 (n) ∧ H0.2.2.1 72 0 (n) ≤ 299 from ⟨by omega, by omega⟩) hT hE k0gP k0gX k0gL k0gZ k0gQ k0gB k0gK k0gN k0gW k0gU (Or.inl ⟨_, _, rfl⟩)
        · have c816 : ¬ (H.2.2.1 74 0 (n) ≤ (0 : Int)) := hc
          clear hc
          have f817 : 0 ≤ H.2.2.1 115 0 (n) ∧ H.2.2.1 115 0 (n) ≤ 1 := hT.1 115 (n)
          refine J.run 4 rfl (show 0 ≤ n ∧ n < 16 from ⟨by omega, by omega⟩) ?_
          try dsimp only
          refine J.ifc rfl rfl rfl (show -2147483648 ≤ H.2.2.1 115 0 (n) ∧ H.2.2.1 115 0 (n) ≤ 2147483647 from ⟨by omega, by omega⟩) (fun hc => ?_) (fun hc => ?_)
          · have c818 : ¬ (H.2.2.1 115 0 (n) = (0 : Int)) := hc
            clear hc
            exact (g_isMoved_l0 (H0 := H0) (n := n) (u := u)  hp0 hp1 hp2 hp3 ((0 : Int).toNat + 1)) (r) H _ (show 0 < _ by omega) (show (r) = H0.2.2.1 73 0 (n) from by omega) (show H.2.2.1 73 0 (n) = H0.2.2.1 73 0 (n) from by omega) (show H.2.2.1 74 0 (n) = H0.2.2.1 74 0 (n) from by omega) (show H.2.2.1 115 0 (n) = H0.2.2.1 115 0 (n) from by omega) (show H.2.2.1 72 0 (n) = H0.2.2.1 72 0 (n) from by omega) (show H.2.2.1 79 0 (n) = 0 from by omega) (show H.2.2.1 80 0 (n) = 0 from by omega) (show H.2.2.1 56 0 (H0.2.2.1 72 0 (n)) = H0.2.2.1 56 0 (H0.2.2.1 72 0 (n)) from by omega) (show H.2.2.1 83 0 (n) ≤ 3 * H0.2.2.1 73 0 (n) + H0.2.2.1 74 0 (n) + 1 from by omega) (show H0.1 11 19 0 ≤ H.1 11 19 0 from by omega) (show 0 ≤ H0.2.2.1 73 0 (n) ∧ H0.2.2.1 73 0 (n) ≤ 31 from ⟨by omega, by omega⟩) (show 0 ≤ H0.2.2.1 74 0 (n) ∧ H0.2.2.1 74 0 (n) ≤ 2 from ⟨by omega, by omega⟩) (show 0 ≤ H0.2.2.1 115 0 (n) ∧ H0.2.2.1 115 0 (n) ≤ 1 from ⟨by omega, by omega⟩) (show 0 ≤ H0.2.2.1 72 0 (n) ∧ H0.2.2.1 72 0 (n) ≤ 299 from ⟨by omega, by omega⟩) hT hE k0gP k0gX k0gL k0gZ k0gQ k0gB k0gK k0gN k0gW k0gU (Or.inl ⟨_, _, rfl⟩)
          · have c819 : ¬ (¬ (H.2.2.1 115 0 (n) = (0 : Int))) := hc
            clear hc
            refine J.run0 1 rfl ?_
            try dsimp only
            refine J.ifc rfl rfl rfl (show -2147483648 ≤ p ∧ p ≤ 2147483647 from ⟨by omega, by omega⟩) (fun hc => ?_) (fun hc => ?_)
            · have c820 : p < (0 : Int) := hc
              clear hc
              exact (g_isMoved_l0 (H0 := H0) (n := n) (u := u)  hp0 hp1 hp2 hp3 ((0 : Int).toNat + 1)) (r) H _ (show 0 < _ by omega) (show (r) = H0.2.2.1 73 0 (n) from by omega) (show H.2.2.1 73 0 (n) = H0.2.2.1 73 0 (n) from by omega) (show H.2.2.1 74 0 (n) = H0.2.2.1 74 0 (n) from by omega) (show H.2.2.1 115 0 (n) = H0.2.2.1 115 0 (n) from by omega) (show H.2.2.1 72 0 (n) = H0.2.2.1 72 0 (n) from by omega) (show H.2.2.1 79 0 (n) = 0 from by omega) (show H.2.2.1 80 0 (n) = 0 from by omega) (show H.2.2.1 56 0 (H0.2.2.1 72 0 (n)) = H0.2.2.1 56 0 (H0.2.2.1 72 0 (n)) from by omega) (show H.2.2.1 83 0 (n) ≤ 3 * H0.2.2.1 73 0 (n) + H0.2.2.1 74 0 (n) + 1 from by omega) (show H0.1 11 19 0 ≤ H.1 11 19 0 from by omega) (show 0 ≤ H0.2.2.1 73 0 (n) ∧ H0.2.2.1 73 0 (n) ≤ 31 from ⟨by omega, by omega⟩) (show 0 ≤ H0.2.2.1 74 0 (n) ∧ H0.2.2.1 74 0 (n) ≤ 2 from ⟨by omega, by omega⟩) (show 0 ≤ H0.2.2.1 115 0 (n) ∧ H0.2.2.1 115 0 (n) ≤ 1 from ⟨by omega, by omega⟩) (show 0 ≤ H0.2.2.1 72 0 (n) ∧ H0.2.2.1 72 0 (n) ≤ 299 from ⟨by omega, by omega⟩) hT hE k0gP k0gX k0gL k0gZ k0gQ k0gB k0gK k0gN k0gW k0gU (Or.inl ⟨_, _, rfl⟩)
            · have c821 : ¬ (p < (0 : Int)) := hc
              clear hc
              have f822 : -1 ≤ H.2.2.1 67 0 (p) ∧ H.2.2.1 67 0 (p) ≤ 299 := hT.1 67 (p)
              have f823 : 1 ≤ H.1 11 12 0 ∧ H.1 11 12 0 ≤ 300 := hT.2.1 12
              have f822b : H.2.2.1 67 0 (p) < H.1 11 12 0 := hT.2.2.1 67 (p) rfl
              refine J.run 6 rfl (show 0 ≤ p ∧ p < 6000 from ⟨by omega, by omega⟩) ?_
              try dsimp only
              refine J.inv rfl rfl rfl rfl rfl rfl jDr rfl rfl rfl rfl rfl (g_isGood (n := n) (b := H.2.2.1 67 0 (p)) hT k0gP k0gX k0gL k0gZ (show 0 ≤ (n) ∧ (n) < 16 from ⟨by omega, by omega⟩) (show 0 ≤ (H.2.2.1 67 0 (p)) ∧ (H.2.2.1 67 0 (p)) < 300 from ⟨by omega, by omega⟩) (show (H.2.2.1 67 0 (p)) < H.1 11 12 0 from by omega)) ?_
              rintro v w H826 ⟨rfl, hT827, ehE828, k829, k830, k831, k832, x824, rfl, r825⟩
              have hE828 := jEx.trans ehE828 hE (by decide) (by decide)
              have r825' : 0 ≤ x824 ∧ x824 ≤ 1 ∧ (x824 = 1 → H826.2.2.1 55 0 ((H.2.2.1 67 0 (p))) = H826.2.2.1 72 0 ((n))) := r825
              have k833 : gQ H826 := gQ.ex k0gQ ehE828 (by decide)
              have k834 : gB H826 := gB.ex k0gB ehE828 (by decide)
              have k835 : gK H826 := gK.ex k0gK ehE828 (by decide)
              have k836 : gN H826 := gN.ex k0gN ehE828 (by decide)
              have k837 : gW H826 (H826.1 11 19 0) := gWm.ex k0gW ehE828 (by decide)
              have k838 : gU H826 u := gU.ex k0gU ehE828 (by decide)
              have g839 : H826.1 11 12 0 = H.1 11 12 0 := ehE828.v 12 (by decide)
              have g840 : H826.1 11 19 0 = H.1 11 19 0 := ehE828.v 19 (by decide)
              have g841 : H826.2.2.1 67 0 (p) = H.2.2.1 67 0 (p) := congrFun (ehE828.r 67 (by decide)) _
              have g842 : H826.2.2.1 73 0 (n) = H.2.2.1 73 0 (n) := congrFun (ehE828.r 73 (by decide)) _
              have g843 : H826.2.2.1 74 0 (n) = H.2.2.1 74 0 (n) := congrFun (ehE828.r 74 (by decide)) _
              have g844 : H826.2.2.1 115 0 (n) = H.2.2.1 115 0 (n) := congrFun (ehE828.r 115 (by decide)) _
              have g845 : H826.2.2.1 72 0 (n) = H.2.2.1 72 0 (n) := congrFun (ehE828.r 72 (by decide)) _
              have g846 : H826.2.2.1 79 0 (n) = H.2.2.1 79 0 (n) := congrFun (ehE828.r 79 (by decide)) _
              have g847 : H826.2.2.1 80 0 (n) = H.2.2.1 80 0 (n) := congrFun (ehE828.r 80 (by decide)) _
              have g848 : H826.2.2.1 56 0 (H0.2.2.1 72 0 (n)) = H.2.2.1 56 0 (H0.2.2.1 72 0 (n)) := congrFun (ehE828.r 56 (by decide)) _
              have g849 : H826.2.2.1 83 0 (n) = H.2.2.1 83 0 (n) := congrFun (ehE828.r 83 (by decide)) _
              have rL_isGood := r825'
              have eL_isGood := ehE828
              try dsimp only [Option.toList, List.append, List.cons_append, List.nil_append]
              refine J.ifc rfl rfl rfl (show -2147483648 ≤ x824 ∧ x824 ≤ 2147483647 from ⟨by omega, by omega⟩) (fun hc => ?_) (fun hc => ?_)
              · have c850 : x824 = (0 : Int) := hc
                clear hc
                exact (g_isMoved_l0 (H0 := H0) (n := n) (u := u)  hp0 hp1 hp2 hp3 ((0 : Int).toNat + 1)) (r) H826 _ (show 0 < _ by omega) (show (r) = H0.2.2.1 73 0 (n) from by omega) (show H826.2.2.1 73 0 (n) = H0.2.2.1 73 0 (n) from by omega) (show H826.2.2.1 74 0 (n) = H0.2.2.1 74 0 (n) from by omega) (show H826.2.2.1 115 0 (n) = H0.2.2.1 115 0 (n) from by omega) (show H826.2.2.1 72 0 (n) = H0.2.2.1 72 0 (n) from by omega) (show H826.2.2.1 79 0 (n) = 0 from by omega) (show H826.2.2.1 80 0 (n) = 0 from by omega) (show H826.2.2.1 56 0 (H0.2.2.1 72 0 (n)) = H0.2.2.1 56 0 (H0.2.2.1 72 0 (n)) from by omega) (show H826.2.2.1 83 0 (n) ≤ 3 * H0.2.2.1 73 0 (n) + H0.2.2.1 74 0 (n) + 1 from by omega) (show H0.1 11 19 0 ≤ H826.1 11 19 0 from by omega) (show 0 ≤ H0.2.2.1 73 0 (n) ∧ H0.2.2.1 73 0 (n) ≤ 31 from ⟨by omega, by omega⟩) (show 0 ≤ H0.2.2.1 74 0 (n) ∧ H0.2.2.1 74 0 (n) ≤ 2 from ⟨by omega, by omega⟩) (show 0 ≤ H0.2.2.1 115 0 (n) ∧ H0.2.2.1 115 0 (n) ≤ 1 from ⟨by omega, by omega⟩) (show 0 ≤ H0.2.2.1 72 0 (n) ∧ H0.2.2.1 72 0 (n) ≤ 299 from ⟨by omega, by omega⟩) hT827 hE828 k829 k830 k831 k832 k833 k834 k835 k836 k837 k838 (Or.inl ⟨_, _, rfl⟩)
              · have c851 : ¬ (x824 = (0 : Int)) := hc
                clear hc
                refine J.run 8 rfl (show 0 ≤ p ∧ p < 6000 from ⟨by omega, by omega⟩) ?_
                try dsimp only
                refine J.inv rfl rfl rfl rfl rfl rfl jDr rfl rfl rfl rfl rfl (g_isMost (n := n) (kind := (1 : Int)) (r := r) (b := H826.2.2.1 67 0 (p)) hT827  (show 0 ≤ (n) ∧ (n) < 16 from ⟨by omega, by omega⟩) (show -2147483648 ≤ ((1 : Int)) ∧ ((1 : Int)) ≤ 2147483647 from ⟨by omega, by omega⟩) (show -2147483648 ≤ (r) ∧ (r) ≤ 2147483647 from ⟨by omega, by omega⟩) (show -2147483648 ≤ (H826.2.2.1 67 0 (p)) ∧ (H826.2.2.1 67 0 (p)) ≤ 2147483647 from ⟨by omega, by omega⟩)) ?_
                rintro v w H854 ⟨rfl, hT855, ehE856, x852, rfl, r853⟩
                have hE856 := jEx.trans ehE856 hE828 (by decide) (by decide)
                have r853' : 0 ≤ x852 ∧ x852 ≤ 1 := r853
                have k857 : gP H854 := gP.ex k829 ehE856 (by decide)
                have k858 : gX H854 := gX.ex k830 ehE856 (by decide)
                have k859 : gL H854 := gL.ex k831 ehE856 (by decide)
                have k860 : gZ H854 := gZ.ex k832 ehE856 (by decide)
                have k861 : gQ H854 := gQ.ex k833 ehE856 (by decide)
                have k862 : gB H854 := gB.ex k834 ehE856 (by decide)
                have k863 : gK H854 := gK.ex k835 ehE856 (by decide)
                have k864 : gN H854 := gN.ex k836 ehE856 (by decide)
                have k865 : gW H854 (H854.1 11 19 0) := gWm.ex k837 ehE856 (by decide)
                have k866 : gU H854 u := gU.ex k838 ehE856 (by decide)
                have g867 : H854.1 11 12 0 = H826.1 11 12 0 := ehE856.v 12 (by decide)
                have g868 : H854.1 11 19 0 = H826.1 11 19 0 := ehE856.v 19 (by decide)
                have g869 : H854.2.2.1 67 0 (p) = H826.2.2.1 67 0 (p) := congrFun (ehE856.r 67 (by decide)) _
                have g870 : H854.2.2.1 73 0 (n) = H826.2.2.1 73 0 (n) := congrFun (ehE856.r 73 (by decide)) _
                have g871 : H854.2.2.1 74 0 (n) = H826.2.2.1 74 0 (n) := congrFun (ehE856.r 74 (by decide)) _
                have g872 : H854.2.2.1 115 0 (n) = H826.2.2.1 115 0 (n) := congrFun (ehE856.r 115 (by decide)) _
                have g873 : H854.2.2.1 72 0 (n) = H826.2.2.1 72 0 (n) := congrFun (ehE856.r 72 (by decide)) _
                have g874 : H854.2.2.1 79 0 (n) = H826.2.2.1 79 0 (n) := congrFun (ehE856.r 79 (by decide)) _
                have g875 : H854.2.2.1 80 0 (n) = H826.2.2.1 80 0 (n) := congrFun (ehE856.r 80 (by decide)) _
                have g876 : H854.2.2.1 56 0 (H0.2.2.1 72 0 (n)) = H826.2.2.1 56 0 (H0.2.2.1 72 0 (n)) := congrFun (ehE856.r 56 (by decide)) _
                have g877 : H854.2.2.1 83 0 (n) = H826.2.2.1 83 0 (n) := congrFun (ehE856.r 83 (by decide)) _
                have g878 : H854.2.2.1 55 0 (H.2.2.1 67 0 (p)) = H826.2.2.1 55 0 (H.2.2.1 67 0 (p)) := congrFun (ehE856.r 55 (by decide)) _
                have rL_isMost := r853'
                have eL_isMost := ehE856
                try dsimp only [Option.toList, List.append, List.cons_append, List.nil_append]
                refine J.ifc rfl rfl rfl (show -2147483648 ≤ x852 ∧ x852 ≤ 2147483647 from ⟨by omega, by omega⟩) (fun hc => ?_) (fun hc => ?_)
                · have c879 : x852 = (0 : Int) := hc
                  clear hc
                  exact (g_isMoved_l0 (H0 := H0) (n := n) (u := u)  hp0 hp1 hp2 hp3 ((0 : Int).toNat + 1)) (r) H854 _ (show 0 < _ by omega) (show (r) = H0.2.2.1 73 0 (n) from by omega) (show H854.2.2.1 73 0 (n) = H0.2.2.1 73 0 (n) from by omega) (show H854.2.2.1 74 0 (n) = H0.2.2.1 74 0 (n) from by omega) (show H854.2.2.1 115 0 (n) = H0.2.2.1 115 0 (n) from by omega) (show H854.2.2.1 72 0 (n) = H0.2.2.1 72 0 (n) from by omega) (show H854.2.2.1 79 0 (n) = 0 from by omega) (show H854.2.2.1 80 0 (n) = 0 from by omega) (show H854.2.2.1 56 0 (H0.2.2.1 72 0 (n)) = H0.2.2.1 56 0 (H0.2.2.1 72 0 (n)) from by omega) (show H854.2.2.1 83 0 (n) ≤ 3 * H0.2.2.1 73 0 (n) + H0.2.2.1 74 0 (n) + 1 from by omega) (show H0.1 11 19 0 ≤ H854.1 11 19 0 from by omega) (show 0 ≤ H0.2.2.1 73 0 (n) ∧ H0.2.2.1 73 0 (n) ≤ 31 from ⟨by omega, by omega⟩) (show 0 ≤ H0.2.2.1 74 0 (n) ∧ H0.2.2.1 74 0 (n) ≤ 2 from ⟨by omega, by omega⟩) (show 0 ≤ H0.2.2.1 115 0 (n) ∧ H0.2.2.1 115 0 (n) ≤ 1 from ⟨by omega, by omega⟩) (show 0 ≤ H0.2.2.1 72 0 (n) ∧ H0.2.2.1 72 0 (n) ≤ 299 from ⟨by omega, by omega⟩) hT855 hE856 k857 k858 k859 k860 k861 k862 k863 k864 k865 k866 (Or.inl ⟨_, _, rfl⟩)
                · have c880 : ¬ (x852 = (0 : Int)) := hc
                  clear hc
                  exact (g_isMoved_l1 (H0 := H0) (n := n) (u := u)  hp0 hp1 hp2 hp3 ((0 : Int).toNat + 1)) (r) (p) H854 _ (show 0 < _ by omega) (show (r) = H0.2.2.1 73 0 (n) from by omega) (show 0 ≤ (p) ∧ (p) ≤ 5999 from ⟨by omega, by omega⟩) (show 0 ≤ H854.2.2.1 67 0 ((p)) from by omega) (show H0.2.2.1 115 0 (n) = 0 from by omega) (show 1 ≤ H0.2.2.1 74 0 (n) from by omega) (show H854.2.2.1 73 0 (n) = H0.2.2.1 73 0 (n) from by omega) (show H854.2.2.1 74 0 (n) = H0.2.2.1 74 0 (n) from by omega) (show H854.2.2.1 115 0 (n) = H0.2.2.1 115 0 (n) from by omega) (show H854.2.2.1 72 0 (n) = H0.2.2.1 72 0 (n) from by omega) (show H854.2.2.1 79 0 (n) = 0 from by omega) (show H854.2.2.1 80 0 (n) = 0 from by omega) (show H854.2.2.1 56 0 (H0.2.2.1 72 0 (n)) = H0.2.2.1 56 0 (H0.2.2.1 72 0 (n)) from by omega) (show H854.2.2.1 83 0 (n) ≤ 3 * H0.2.2.1 73 0 (n) + H0.2.2.1 74 0 (n) + 1 from by omega) (show H0.1 11 19 0 ≤ H854.1 11 19 0 from by omega) (show 0 ≤ H0.2.2.1 73 0 (n) ∧ H0.2.2.1 73 0 (n) ≤ 31 from ⟨by omega, by omega⟩) (show 0 ≤ H0.2.2.1 74 0 (n) ∧ H0.2.2.1 74 0 (n) ≤ 2 from ⟨by omega, by omega⟩) (show 0 ≤ H0.2.2.1 115 0 (n) ∧ H0.2.2.1 115 0 (n) ≤ 1 from ⟨by omega, by omega⟩) (show 0 ≤ H0.2.2.1 72 0 (n) ∧ H0.2.2.1 72 0 (n) ≤ 299 from ⟨by omega, by omega⟩) hT855 hE856 k857 k858 k859 k860 k861 k862 k863 k864 k865 k866 (Or.inl ⟨_, rfl⟩)
      · skip
        have f881 : 0 ≤ H.2.2.1 74 0 (n) ∧ H.2.2.1 74 0 (n) ≤ 2 := hT.1 74 (n)
        refine J.run 4 rfl (show 0 ≤ n ∧ n < 16 from ⟨by omega, by omega⟩) ?_
        try dsimp only
        refine J.ifc rfl rfl rfl (show -2147483648 ≤ H.2.2.1 74 0 (n) ∧ H.2.2.1 74 0 (n) ≤ 2147483647 from ⟨by omega, by omega⟩) (fun hc => ?_) (fun hc => ?_)
        · have c882 : H.2.2.1 74 0 (n) ≤ (0 : Int) := hc
          clear hc
          exact (g_isMoved_l0 (H0 := H0) (n := n) (u := u)  hp0 hp1 hp2 hp3 ((0 : Int).toNat + 1)) (r) H _ (show 0 < _ by omega) (show (r) = H0.2.2.1 73 0 (n) from by omega) (show H.2.2.1 73 0 (n) = H0.2.2.1 73 0 (n) from by omega) (show H.2.2.1 74 0 (n) = H0.2.2.1 74 0 (n) from by omega) (show H.2.2.1 115 0 (n) = H0.2.2.1 115 0 (n) from by omega) (show H.2.2.1 72 0 (n) = H0.2.2.1 72 0 (n) from by omega) (show H.2.2.1 79 0 (n) = 0 from by omega) (show H.2.2.1 80 0 (n) = 0 from by omega) (show H.2.2.1 56 0 (H0.2.2.1 72 0 (n)) = H0.2.2.1 56 0 (H0.2.2.1 72 0 (n)) from by omega) (show H.2.2.1 83 0 (n) ≤ 3 * H0.2.2.1 73 0 (n) + H0.2.2.1 74 0 (n) + 1 from by omega) (show H0.1 11 19 0 ≤ H.1 11 19 0 from by omega) (show 0 ≤ H0.2.2.1 73 0 (n) ∧ H0.2.2.1 73 0 (n) ≤ 31 from ⟨by omega, by omega⟩) (show 0 ≤ H0.2.2.1 74 0 (n) ∧ H0.2.2.1 74 0 (n) ≤ 2 from ⟨by omega, by omega⟩) (show 0 ≤ H0.2.2.1 115 0 (n) ∧ H0.2.2.1 115 0 (n) ≤ 1 from ⟨by omega, by omega⟩) (show 0 ≤ H0.2.2.1 72 0 (n) ∧ H0.2.2.1 72 0 (n) ≤ 299 from ⟨by omega, by omega⟩) hT hE k0gP k0gX k0gL k0gZ k0gQ k0gB k0gK k0gN k0gW k0gU (Or.inr (Or.inl ⟨_, _, _, _, _, rfl⟩))
        · have c883 : ¬ (H.2.2.1 74 0 (n) ≤ (0 : Int)) := hc
          clear hc
          have f884 : 0 ≤ H.2.2.1 115 0 (n) ∧ H.2.2.1 115 0 (n) ≤ 1 := hT.1 115 (n)
          refine J.run 4 rfl (show 0 ≤ n ∧ n < 16 from ⟨by omega, by omega⟩) ?_
          try dsimp only
          refine J.ifc rfl rfl rfl (show -2147483648 ≤ H.2.2.1 115 0 (n) ∧ H.2.2.1 115 0 (n) ≤ 2147483647 from ⟨by omega, by omega⟩) (fun hc => ?_) (fun hc => ?_)
          · have c885 : ¬ (H.2.2.1 115 0 (n) = (0 : Int)) := hc
            clear hc
            exact (g_isMoved_l0 (H0 := H0) (n := n) (u := u)  hp0 hp1 hp2 hp3 ((0 : Int).toNat + 1)) (r) H _ (show 0 < _ by omega) (show (r) = H0.2.2.1 73 0 (n) from by omega) (show H.2.2.1 73 0 (n) = H0.2.2.1 73 0 (n) from by omega) (show H.2.2.1 74 0 (n) = H0.2.2.1 74 0 (n) from by omega) (show H.2.2.1 115 0 (n) = H0.2.2.1 115 0 (n) from by omega) (show H.2.2.1 72 0 (n) = H0.2.2.1 72 0 (n) from by omega) (show H.2.2.1 79 0 (n) = 0 from by omega) (show H.2.2.1 80 0 (n) = 0 from by omega) (show H.2.2.1 56 0 (H0.2.2.1 72 0 (n)) = H0.2.2.1 56 0 (H0.2.2.1 72 0 (n)) from by omega) (show H.2.2.1 83 0 (n) ≤ 3 * H0.2.2.1 73 0 (n) + H0.2.2.1 74 0 (n) + 1 from by omega) (show H0.1 11 19 0 ≤ H.1 11 19 0 from by omega) (show 0 ≤ H0.2.2.1 73 0 (n) ∧ H0.2.2.1 73 0 (n) ≤ 31 from ⟨by omega, by omega⟩) (show 0 ≤ H0.2.2.1 74 0 (n) ∧ H0.2.2.1 74 0 (n) ≤ 2 from ⟨by omega, by omega⟩) (show 0 ≤ H0.2.2.1 115 0 (n) ∧ H0.2.2.1 115 0 (n) ≤ 1 from ⟨by omega, by omega⟩) (show 0 ≤ H0.2.2.1 72 0 (n) ∧ H0.2.2.1 72 0 (n) ≤ 299 from ⟨by omega, by omega⟩) hT hE k0gP k0gX k0gL k0gZ k0gQ k0gB k0gK k0gN k0gW k0gU (Or.inr (Or.inl ⟨_, _, _, _, _, rfl⟩))
          · have c886 : ¬ (¬ (H.2.2.1 115 0 (n) = (0 : Int))) := hc
            clear hc
            refine J.run0 1 rfl ?_
            try dsimp only
            refine J.ifc rfl rfl rfl (show -2147483648 ≤ p ∧ p ≤ 2147483647 from ⟨by omega, by omega⟩) (fun hc => ?_) (fun hc => ?_)
            · have c887 : p < (0 : Int) := hc
              clear hc
              exact (g_isMoved_l0 (H0 := H0) (n := n) (u := u)  hp0 hp1 hp2 hp3 ((0 : Int).toNat + 1)) (r) H _ (show 0 < _ by omega) (show (r) = H0.2.2.1 73 0 (n) from by omega) (show H.2.2.1 73 0 (n) = H0.2.2.1 73 0 (n) from by omega) (show H.2.2.1 74 0 (n) = H0.2.2.1 74 0 (n) from by omega) (show H.2.2.1 115 0 (n) = H0.2.2.1 115 0 (n) from by omega) (show H.2.2.1 72 0 (n) = H0.2.2.1 72 0 (n) from by omega) (show H.2.2.1 79 0 (n) = 0 from by omega) (show H.2.2.1 80 0 (n) = 0 from by omega) (show H.2.2.1 56 0 (H0.2.2.1 72 0 (n)) = H0.2.2.1 56 0 (H0.2.2.1 72 0 (n)) from by omega) (show H.2.2.1 83 0 (n) ≤ 3 * H0.2.2.1 73 0 (n) + H0.2.2.1 74 0 (n) + 1 from by omega) (show H0.1 11 19 0 ≤ H.1 11 19 0 from by omega) (show 0 ≤ H0.2.2.1 73 0 (n) ∧ H0.2.2.1 73 0 (n) ≤ 31 from ⟨by omega, by omega⟩) (show 0 ≤ H0.2.2.1 74 0 (n) ∧ H0.2.2.1 74 0 (n) ≤ 2 from ⟨by omega, by omega⟩) (show 0 ≤ H0.2.2.1 115 0 (n) ∧ H0.2.2.1 115 0 (n) ≤ 1 from ⟨by omega, by omega⟩) (show 0 ≤ H0.2.2.1 72 0 (n) ∧ H0.2.2.1 72 0 (n) ≤ 299 from ⟨by omega, by omega⟩) hT hE k0gP k0gX k0gL k0gZ k0gQ k0gB k0gK k0gN k0gW k0gU (Or.inr (Or.inl ⟨_, _, _, _, _, rfl⟩))
            · have c888 : ¬ (p < (0 : Int)) := hc
              clear hc
              have f889 : -1 ≤ H.2.2.1 67 0 (p) ∧ H.2.2.1 67 0 (p) ≤ 299 := hT.1 67 (p)
              have f890 : 1 ≤ H.1 11 12 0 ∧ H.1 11 12 0 ≤ 300 := hT.2.1 12
              have f889b : H.2.2.1 67 0 (p) < H.1 11 12 0 := hT.2.2.1 67 (p) rfl
              refine J.run 6 rfl (show 0 ≤ p ∧ p < 6000 from ⟨by omega, by omega⟩) ?_
              try dsimp only
              refine J.inv rfl rfl rfl rfl rfl rfl jDr rfl rfl rfl rfl rfl (g_isGood (n := n) (b := H.2.2.1 67 0 (p)) hT k0gP k0gX k0gL k0gZ (show 0 ≤ (n) ∧ (n) < 16 from ⟨by omega, by omega⟩) (show 0 ≤ (H.2.2.1 67 0 (p)) ∧ (H.2.2.1 67 0 (p)) < 300 from ⟨by omega, by omega⟩) (show (H.2.2.1 67 0 (p)) < H.1 11 12 0 from by omega)) ?_
              rintro v w H893 ⟨rfl, hT894, ehE895, k896, k897, k898, k899, x891, rfl, r892⟩
              have hE895 := jEx.trans ehE895 hE (by decide) (by decide)
              have r892' : 0 ≤ x891 ∧ x891 ≤ 1 ∧ (x891 = 1 → H893.2.2.1 55 0 ((H.2.2.1 67 0 (p))) = H893.2.2.1 72 0 ((n))) := r892
              have k900 : gQ H893 := gQ.ex k0gQ ehE895 (by decide)
              have k901 : gB H893 := gB.ex k0gB ehE895 (by decide)
              have k902 : gK H893 := gK.ex k0gK ehE895 (by decide)
              have k903 : gN H893 := gN.ex k0gN ehE895 (by decide)
              have k904 : gW H893 (H893.1 11 19 0) := gWm.ex k0gW ehE895 (by decide)
              have k905 : gU H893 u := gU.ex k0gU ehE895 (by decide)
              have g906 : H893.1 11 12 0 = H.1 11 12 0 := ehE895.v 12 (by decide)
              have g907 : H893.1 11 19 0 = H.1 11 19 0 := ehE895.v 19 (by decide)
              have g908 : H893.2.2.1 67 0 (p) = H.2.2.1 67 0 (p) := congrFun (ehE895.r 67 (by decide)) _
              have g909 : H893.2.2.1 73 0 (n) = H.2.2.1 73 0 (n) := congrFun (ehE895.r 73 (by decide)) _
              have g910 : H893.2.2.1 74 0 (n) = H.2.2.1 74 0 (n) := congrFun (ehE895.r 74 (by decide)) _
              have g911 : H893.2.2.1 115 0 (n) = H.2.2.1 115 0 (n) := congrFun (ehE895.r 115 (by decide)) _
              have g912 : H893.2.2.1 72 0 (n) = H.2.2.1 72 0 (n) := congrFun (ehE895.r 72 (by decide)) _
              have g913 : H893.2.2.1 79 0 (n) = H.2.2.1 79 0 (n) := congrFun (ehE895.r 79 (by decide)) _
              have g914 : H893.2.2.1 80 0 (n) = H.2.2.1 80 0 (n) := congrFun (ehE895.r 80 (by decide)) _
              have g915 : H893.2.2.1 56 0 (H0.2.2.1 72 0 (n)) = H.2.2.1 56 0 (H0.2.2.1 72 0 (n)) := congrFun (ehE895.r 56 (by decide)) _
              have g916 : H893.2.2.1 83 0 (n) = H.2.2.1 83 0 (n) := congrFun (ehE895.r 83 (by decide)) _
              have rL_isGood := r892'
              have eL_isGood := ehE895
              try dsimp only [Option.toList, List.append, List.cons_append, List.nil_append]
              refine J.ifc rfl rfl rfl (show -2147483648 ≤ x891 ∧ x891 ≤ 2147483647 from ⟨by omega, by omega⟩) (fun hc => ?_) (fun hc => ?_)
              · have c917 : x891 = (0 : Int) := hc
                clear hc
                exact (g_isMoved_l0 (H0 := H0) (n := n) (u := u)  hp0 hp1 hp2 hp3 ((0 : Int).toNat + 1)) (r) H893 _ (show 0 < _ by omega) (show (r) = H0.2.2.1 73 0 (n) from by omega) (show H893.2.2.1 73 0 (n) = H0.2.2.1 73 0 (n) from by omega) (show H893.2.2.1 74 0 (n) = H0.2.2.1 74 0 (n) from by omega) (show H893.2.2.1 115 0 (n) = H0.2.2.1 115 0 (n) from by omega) (show H893.2.2.1 72 0 (n) = H0.2.2.1 72 0 (n) from by omega) (show H893.2.2.1 79 0 (n) = 0 from by omega) (show H893.2.2.1 80 0 (n) = 0 from by omega) (show H893.2.2.1 56 0 (H0.2.2.1 72 0 (n)) = H0.2.2.1 56 0 (H0.2.2.1 72 0 (n)) from by omega) (show H893.2.2.1 83 0 (n) ≤ 3 * H0.2.2.1 73 0 (n) + H0.2.2.1 74 0 (n) + 1 from by omega) (show H0.1 11 19 0 ≤ H893.1 11 19 0 from by omega) (show 0 ≤ H0.2.2.1 73 0 (n) ∧ H0.2.2.1 73 0 (n) ≤ 31 from ⟨by omega, by omega⟩) (show 0 ≤ H0.2.2.1 74 0 (n) ∧ H0.2.2.1 74 0 (n) ≤ 2 from ⟨by omega, by omega⟩) (show 0 ≤ H0.2.2.1 115 0 (n) ∧ H0.2.2.1 115 0 (n) ≤ 1 from ⟨by omega, by omega⟩) (show 0 ≤ H0.2.2.1 72 0 (n) ∧ H0.2.2.1 72 0 (n) ≤ 299 from ⟨by omega, by omega⟩) hT894 hE895 k896 k897 k898 k899 k900 k901 k902 k903 k904 k905 (Or.inr (Or.inl ⟨_, _, _, _, _, rfl⟩))
              · have c918 : ¬ (x891 = (0 : Int)) := hc
                clear hc
                refine J.run 8 rfl (show 0 ≤ p ∧ p < 6000 from ⟨by omega, by omega⟩) ?_
                try dsimp only
                refine J.inv rfl rfl rfl rfl rfl rfl jDr rfl rfl rfl rfl rfl (g_isMost (n := n) (kind := (1 : Int)) (r := r) (b := H893.2.2.1 67 0 (p)) hT894  (show 0 ≤ (n) ∧ (n) < 16 from ⟨by omega, by omega⟩) (show -2147483648 ≤ ((1 : Int)) ∧ ((1 : Int)) ≤ 2147483647 from ⟨by omega, by omega⟩) (show -2147483648 ≤ (r) ∧ (r) ≤ 2147483647 from ⟨by omega, by omega⟩) (show -2147483648 ≤ (H893.2.2.1 67 0 (p)) ∧ (H893.2.2.1 67 0 (p)) ≤ 2147483647 from ⟨by omega, by omega⟩)) ?_
                rintro v w H921 ⟨rfl, hT922, ehE923, x919, rfl, r920⟩
                have hE923 := jEx.trans ehE923 hE895 (by decide) (by decide)
                have r920' : 0 ≤ x919 ∧ x919 ≤ 1 := r920
                have k924 : gP H921 := gP.ex k896 ehE923 (by decide)
                have k925 : gX H921 := gX.ex k897 ehE923 (by decide)
                have k926 : gL H921 := gL.ex k898 ehE923 (by decide)
                have k927 : gZ H921 := gZ.ex k899 ehE923 (by decide)
                have k928 : gQ H921 := gQ.ex k900 ehE923 (by decide)
                have k929 : gB H921 := gB.ex k901 ehE923 (by decide)
                have k930 : gK H921 := gK.ex k902 ehE923 (by decide)
                have k931 : gN H921 := gN.ex k903 ehE923 (by decide)
                have k932 : gW H921 (H921.1 11 19 0) := gWm.ex k904 ehE923 (by decide)
                have k933 : gU H921 u := gU.ex k905 ehE923 (by decide)
                have g934 : H921.1 11 12 0 = H893.1 11 12 0 := ehE923.v 12 (by decide)
                have g935 : H921.1 11 19 0 = H893.1 11 19 0 := ehE923.v 19 (by decide)
                have g936 : H921.2.2.1 67 0 (p) = H893.2.2.1 67 0 (p) := congrFun (ehE923.r 67 (by decide)) _
                have g937 : H921.2.2.1 73 0 (n) = H893.2.2.1 73 0 (n) := congrFun (ehE923.r 73 (by decide)) _
                have g938 : H921.2.2.1 74 0 (n) = H893.2.2.1 74 0 (n) := congrFun (ehE923.r 74 (by decide)) _
                have g939 : H921.2.2.1 115 0 (n) = H893.2.2.1 115 0 (n) := congrFun (ehE923.r 115 (by decide)) _
                have g940 : H921.2.2.1 72 0 (n) = H893.2.2.1 72 0 (n) := congrFun (ehE923.r 72 (by decide)) _
                have g941 : H921.2.2.1 79 0 (n) = H893.2.2.1 79 0 (n) := congrFun (ehE923.r 79 (by decide)) _
                have g942 : H921.2.2.1 80 0 (n) = H893.2.2.1 80 0 (n) := congrFun (ehE923.r 80 (by decide)) _
                have g943 : H921.2.2.1 56 0 (H0.2.2.1 72 0 (n)) = H893.2.2.1 56 0 (H0.2.2.1 72 0 (n)) := congrFun (ehE923.r 56 (by decide)) _
                have g944 : H921.2.2.1 83 0 (n) = H893.2.2.1 83 0 (n) := congrFun (ehE923.r 83 (by decide)) _
                have g945 : H921.2.2.1 55 0 (H.2.2.1 67 0 (p)) = H893.2.2.1 55 0 (H.2.2.1 67 0 (p)) := congrFun (ehE923.r 55 (by decide)) _
                have rL_isMost := r920'
                have eL_isMost := ehE923
                try dsimp only [Option.toList, List.append, List.cons_append, List.nil_append]
                refine J.ifc rfl rfl rfl (show -2147483648 ≤ x919 ∧ x919 ≤ 2147483647 from ⟨by omega, by omega⟩) (fun hc => ?_) (fun hc => ?_)
                · have c946 : x919 = (0 : Int) := hc
                  clear hc
                  exact (g_isMoved_l0 (H0 := H0) (n := n) (u := u)  hp0 hp1 hp2 hp3 ((0 : Int).toNat + 1)) (r) H921 _ (show 0 < _ by omega) (show (r) = H0.2.2.1 73 0 (n) from by omega) (show H921.2.2.1 73 0 (n) = H0.2.2.1 73 0 (n) from by omega) (show H921.2.2.1 74 0 (n) = H0.2.2.1 74 0 (n) from by omega) (show H921.2.2.1 115 0 (n) = H0.2.2.1 115 0 (n) from by omega) (show H921.2.2.1 72 0 (n) = H0.2.2.1 72 0 (n) from by omega) (show H921.2.2.1 79 0 (n) = 0 from by omega) (show H921.2.2.1 80 0 (n) = 0 from by omega) (show H921.2.2.1 56 0 (H0.2.2.1 72 0 (n)) = H0.2.2.1 56 0 (H0.2.2.1 72 0 (n)) from by omega) (show H921.2.2.1 83 0 (n) ≤ 3 * H0.2.2.1 73 0 (n) + H0.2.2.1 74 0 (n) + 1 from by omega) (show H0.1 11 19 0 ≤ H921.1 11 19 0 from by omega) (show 0 ≤ H0.2.2.1 73 0 (n) ∧ H0.2.2.1 73 0 (n) ≤ 31 from ⟨by omega, by omega⟩) (show 0 ≤ H0.2.2.1 74 0 (n) ∧ H0.2.2.1 74 0 (n) ≤ 2 from ⟨by omega, by omega⟩) (show 0 ≤ H0.2.2.1 115 0 (n) ∧ H0.2.2.1 115 0 (n) ≤ 1 from ⟨by omega, by omega⟩) (show 0 ≤ H0.2.2.1 72 0 (n) ∧ H0.2.2.1 72 0 (n) ≤ 299 from ⟨by omega, by omega⟩) hT922 hE923 k924 k925 k926 k927 k928 k929 k930 k931 k932 k933 (Or.inr (Or.inl ⟨_, _, _, _, _, rfl⟩))
                · have c947 : ¬ (x919 = (0 : Int)) := hc
                  clear hc
                  exact (g_isMoved_l1 (H0 := H0) (n := n) (u := u)  hp0 hp1 hp2 hp3 ((0 : Int).toNat + 1)) (r) (p) H921 _ (show 0 < _ by omega) (show (r) = H0.2.2.1 73 0 (n) from by omega) (show 0 ≤ (p) ∧ (p) ≤ 5999 from ⟨by omega, by omega⟩) (show 0 ≤ H921.2.2.1 67 0 ((p)) from by omega) (show H0.2.2.1 115 0 (n) = 0 from by omega) (show 1 ≤ H0.2.2.1 74 0 (n) from by omega) (show H921.2.2.1 73 0 (n) = H0.2.2.1 73 0 (n) from by omega) (show H921.2.2.1 74 0 (n) = H0.2.2.1 74 0 (n) from by omega) (show H921.2.2.1 115 0 (n) = H0.2.2.1 115 0 (n) from by omega) (show H921.2.2.1 72 0 (n) = H0.2.2.1 72 0 (n) from by omega) (show H921.2.2.1 79 0 (n) = 0 from by omega) (show H921.2.2.1 80 0 (n) = 0 from by omega) (show H921.2.2.1 56 0 (H0.2.2.1 72 0 (n)) = H0.2.2.1 56 0 (H0.2.2.1 72 0 (n)) from by omega) (show H921.2.2.1 83 0 (n) ≤ 3 * H0.2.2.1 73 0 (n) + H0.2.2.1 74 0 (n) + 1 from by omega) (show H0.1 11 19 0 ≤ H921.1 11 19 0 from by omega) (show 0 ≤ H0.2.2.1 73 0 (n) ∧ H0.2.2.1 73 0 (n) ≤ 31 from ⟨by omega, by omega⟩) (show 0 ≤ H0.2.2.1 74 0 (n) ∧ H0.2.2.1 74 0 (n) ≤ 2 from ⟨by omega, by omega⟩) (show 0 ≤ H0.2.2.1 115 0 (n) ∧ H0.2.2.1 115 0 (n) ≤ 1 from ⟨by omega, by omega⟩) (show 0 ≤ H0.2.2.1 72 0 (n) ∧ H0.2.2.1 72 0 (n) ≤ 299 from ⟨by omega, by omega⟩) hT922 hE923 k924 k925 k926 k927 k928 k929 k930 k931 k932 k933 (Or.inr (Or.inl ⟨_, _, _, _, rfl⟩))
      · skip
        have f948 : 0 ≤ H.2.2.1 74 0 (n) ∧ H.2.2.1 74 0 (n) ≤ 2 := hT.1 74 (n)
        refine J.run 4 rfl (show 0 ≤ n ∧ n < 16 from ⟨by omega, by omega⟩) ?_
        try dsimp only
        refine J.ifc rfl rfl rfl (show -2147483648 ≤ H.2.2.1 74 0 (n) ∧ H.2.2.1 74 0 (n) ≤ 2147483647 from ⟨by omega, by omega⟩) (fun hc => ?_) (fun hc => ?_)
        · have c949 : H.2.2.1 74 0 (n) ≤ (0 : Int) := hc
          clear hc
          exact (g_isMoved_l0 (H0 := H0) (n := n) (u := u)  hp0 hp1 hp2 hp3 ((0 : Int).toNat + 1)) (r) H _ (show 0 < _ by omega) (show (r) = H0.2.2.1 73 0 (n) from by omega) (show H.2.2.1 73 0 (n) = H0.2.2.1 73 0 (n) from by omega) (show H.2.2.1 74 0 (n) = H0.2.2.1 74 0 (n) from by omega) (show H.2.2.1 115 0 (n) = H0.2.2.1 115 0 (n) from by omega) (show H.2.2.1 72 0 (n) = H0.2.2.1 72 0 (n) from by omega) (show H.2.2.1 79 0 (n) = 0 from by omega) (show H.2.2.1 80 0 (n) = 0 from by omega) (show H.2.2.1 56 0 (H0.2.2.1 72 0 (n)) = H0.2.2.1 56 0 (H0.2.2.1 72 0 (n)) from by omega) (show H.2.2.1 83 0 (n) ≤ 3 * H0.2.2.1 73 0 (n) + H0.2.2.1 74 0 (n) + 1 from by omega) (show H0.1 11 19 0 ≤ H.1 11 19 0 from by omega) (show 0 ≤ H0.2.2.1 73 0 (n) ∧ H0.2.2.1 73 0 (n) ≤ 31 from ⟨by omega, by omega⟩) (show 0 ≤ H0.2.2.1 74 0 (n) ∧ H0.2.2.1 74 0 (n) ≤ 2 from ⟨by omega, by omega⟩) (show 0 ≤ H0.2.2.1 115 0 (n) ∧ H0.2.2.1 115 0 (n) ≤ 1 from ⟨by omega, by omega⟩) (show 0 ≤ H0.2.2.1 72 0 (n) ∧ H0.2.2.1 72 0 (n) ≤ 299 from ⟨by omega, by omega⟩) hT hE k0gP k0gX k0gL k0gZ k0gQ k0gB k0gK k0gN k0gW k0gU (Or.inr (Or.inr (⟨_, _, _, rfl⟩)))
        · have c950 : ¬ (H.2.2.1 74 0 (n) ≤ (0 : Int)) := hc
          clear hc
          have f951 : 0 ≤ H.2.2.1 115 0 (n) ∧ H.2.2.1 115 0 (n) ≤ 1 := hT.1 115 (n)
          refine J.run 4 rfl (show 0 ≤ n ∧ n < 16 from ⟨by omega, by omega⟩) ?_
          try dsimp only
          refine J.ifc rfl rfl rfl (show -2147483648 ≤ H.2.2.1 115 0 (n) ∧ H.2.2.1 115 0 (n) ≤ 2147483647 from ⟨by omega, by omega⟩) (fun hc => ?_) (fun hc => ?_)
          · have c952 : ¬ (H.2.2.1 115 0 (n) = (0 : Int)) := hc
            clear hc
            exact (g_isMoved_l0 (H0 := H0) (n := n) (u := u)  hp0 hp1 hp2 hp3 ((0 : Int).toNat + 1)) (r) H _ (show 0 < _ by omega) (show (r) = H0.2.2.1 73 0 (n) from by omega) (show H.2.2.1 73 0 (n) = H0.2.2.1 73 0 (n) from by omega) (show H.2.2.1 74 0 (n) = H0.2.2.1 74 0 (n) from by omega) (show H.2.2.1 115 0 (n) = H0.2.2.1 115 0 (n) from by omega) (show H.2.2.1 72 0 (n) = H0.2.2.1 72 0 (n) from by omega) (show H.2.2.1 79 0 (n) = 0 from by omega) (show H.2.2.1 80 0 (n) = 0 from by omega) (show H.2.2.1 56 0 (H0.2.2.1 72 0 (n)) = H0.2.2.1 56 0 (H0.2.2.1 72 0 (n)) from by omega) (show H.2.2.1 83 0 (n) ≤ 3 * H0.2.2.1 73 0 (n) + H0.2.2.1 74 0 (n) + 1 from by omega) (show H0.1 11 19 0 ≤ H.1 11 19 0 from by omega) (show 0 ≤ H0.2.2.1 73 0 (n) ∧ H0.2.2.1 73 0 (n) ≤ 31 from ⟨by omega, by omega⟩) (show 0 ≤ H0.2.2.1 74 0 (n) ∧ H0.2.2.1 74 0 (n) ≤ 2 from ⟨by omega, by omega⟩) (show 0 ≤ H0.2.2.1 115 0 (n) ∧ H0.2.2.1 115 0 (n) ≤ 1 from ⟨by omega, by omega⟩) (show 0 ≤ H0.2.2.1 72 0 (n) ∧ H0.2.2.1 72 0 (n) ≤ 299 from ⟨by omega, by omega⟩) hT hE k0gP k0gX k0gL k0gZ k0gQ k0gB k0gK k0gN k0gW k0gU (Or.inr (Or.inr (⟨_, _, _, rfl⟩)))
          · have c953 : ¬ (¬ (H.2.2.1 115 0 (n) = (0 : Int))) := hc
            clear hc
            refine J.run0 1 rfl ?_
            try dsimp only
            refine J.ifc rfl rfl rfl (show -2147483648 ≤ p ∧ p ≤ 2147483647 from ⟨by omega, by omega⟩) (fun hc => ?_) (fun hc => ?_)
            · have c954 : p < (0 : Int) := hc
              clear hc
              exact (g_isMoved_l0 (H0 := H0) (n := n) (u := u)  hp0 hp1 hp2 hp3 ((0 : Int).toNat + 1)) (r) H _ (show 0 < _ by omega) (show (r) = H0.2.2.1 73 0 (n) from by omega) (show H.2.2.1 73 0 (n) = H0.2.2.1 73 0 (n) from by omega) (show H.2.2.1 74 0 (n) = H0.2.2.1 74 0 (n) from by omega) (show H.2.2.1 115 0 (n) = H0.2.2.1 115 0 (n) from by omega) (show H.2.2.1 72 0 (n) = H0.2.2.1 72 0 (n) from by omega) (show H.2.2.1 79 0 (n) = 0 from by omega) (show H.2.2.1 80 0 (n) = 0 from by omega) (show H.2.2.1 56 0 (H0.2.2.1 72 0 (n)) = H0.2.2.1 56 0 (H0.2.2.1 72 0 (n)) from by omega) (show H.2.2.1 83 0 (n) ≤ 3 * H0.2.2.1 73 0 (n) + H0.2.2.1 74 0 (n) + 1 from by omega) (show H0.1 11 19 0 ≤ H.1 11 19 0 from by omega) (show 0 ≤ H0.2.2.1 73 0 (n) ∧ H0.2.2.1 73 0 (n) ≤ 31 from ⟨by omega, by omega⟩) (show 0 ≤ H0.2.2.1 74 0 (n) ∧ H0.2.2.1 74 0 (n) ≤ 2 from ⟨by omega, by omega⟩) (show 0 ≤ H0.2.2.1 115 0 (n) ∧ H0.2.2.1 115 0 (n) ≤ 1 from ⟨by omega, by omega⟩) (show 0 ≤ H0.2.2.1 72 0 (n) ∧ H0.2.2.1 72 0 (n) ≤ 299 from ⟨by omega, by omega⟩) hT hE k0gP k0gX k0gL k0gZ k0gQ k0gB k0gK k0gN k0gW k0gU (Or.inr (Or.inr (⟨_, _, _, rfl⟩)))
            · have c955 : ¬ (p < (0 : Int)) := hc
              clear hc
              have f956 : -1 ≤ H.2.2.1 67 0 (p) ∧ H.2.2.1 67 0 (p) ≤ 299 := hT.1 67 (p)
              have f957 : 1 ≤ H.1 11 12 0 ∧ H.1 11 12 0 ≤ 300 := hT.2.1 12
              have f956b : H.2.2.1 67 0 (p) < H.1 11 12 0 := hT.2.2.1 67 (p) rfl
              refine J.run 6 rfl (show 0 ≤ p ∧ p < 6000 from ⟨by omega, by omega⟩) ?_
              try dsimp only
              refine J.inv rfl rfl rfl rfl rfl rfl jDr rfl rfl rfl rfl rfl (g_isGood (n := n) (b := H.2.2.1 67 0 (p)) hT k0gP k0gX k0gL k0gZ (show 0 ≤ (n) ∧ (n) < 16 from ⟨by omega, by omega⟩) (show 0 ≤ (H.2.2.1 67 0 (p)) ∧ (H.2.2.1 67 0 (p)) < 300 from ⟨by omega, by omega⟩) (show (H.2.2.1 67 0 (p)) < H.1 11 12 0 from by omega)) ?_
              rintro v w H960 ⟨rfl, hT961, ehE962, k963, k964, k965, k966, x958, rfl, r959⟩
              have hE962 := jEx.trans ehE962 hE (by decide) (by decide)
              have r959' : 0 ≤ x958 ∧ x958 ≤ 1 ∧ (x958 = 1 → H960.2.2.1 55 0 ((H.2.2.1 67 0 (p))) = H960.2.2.1 72 0 ((n))) := r959
              have k967 : gQ H960 := gQ.ex k0gQ ehE962 (by decide)
              have k968 : gB H960 := gB.ex k0gB ehE962 (by decide)
              have k969 : gK H960 := gK.ex k0gK ehE962 (by decide)
              have k970 : gN H960 := gN.ex k0gN ehE962 (by decide)
              have k971 : gW H960 (H960.1 11 19 0) := gWm.ex k0gW ehE962 (by decide)
              have k972 : gU H960 u := gU.ex k0gU ehE962 (by decide)
              have g973 : H960.1 11 12 0 = H.1 11 12 0 := ehE962.v 12 (by decide)
              have g974 : H960.1 11 19 0 = H.1 11 19 0 := ehE962.v 19 (by decide)
              have g975 : H960.2.2.1 67 0 (p) = H.2.2.1 67 0 (p) := congrFun (ehE962.r 67 (by decide)) _
              have g976 : H960.2.2.1 73 0 (n) = H.2.2.1 73 0 (n) := congrFun (ehE962.r 73 (by decide)) _
              have g977 : H960.2.2.1 74 0 (n) = H.2.2.1 74 0 (n) := congrFun (ehE962.r 74 (by decide)) _
              have g978 : H960.2.2.1 115 0 (n) = H.2.2.1 115 0 (n) := congrFun (ehE962.r 115 (by decide)) _
              have g979 : H960.2.2.1 72 0 (n) = H.2.2.1 72 0 (n) := congrFun (ehE962.r 72 (by decide)) _
              have g980 : H960.2.2.1 79 0 (n) = H.2.2.1 79 0 (n) := congrFun (ehE962.r 79 (by decide)) _
              have g981 : H960.2.2.1 80 0 (n) = H.2.2.1 80 0 (n) := congrFun (ehE962.r 80 (by decide)) _
              have g982 : H960.2.2.1 56 0 (H0.2.2.1 72 0 (n)) = H.2.2.1 56 0 (H0.2.2.1 72 0 (n)) := congrFun (ehE962.r 56 (by decide)) _
              have g983 : H960.2.2.1 83 0 (n) = H.2.2.1 83 0 (n) := congrFun (ehE962.r 83 (by decide)) _
              have rL_isGood := r959'
              have eL_isGood := ehE962
              try dsimp only [Option.toList, List.append, List.cons_append, List.nil_append]
              refine J.ifc rfl rfl rfl (show -2147483648 ≤ x958 ∧ x958 ≤ 2147483647 from ⟨by omega, by omega⟩) (fun hc => ?_) (fun hc => ?_)
              · have c984 : x958 = (0 : Int) := hc
                clear hc
                exact (g_isMoved_l0 (H0 := H0) (n := n) (u := u)  hp0 hp1 hp2 hp3 ((0 : Int).toNat + 1)) (r) H960 _ (show 0 < _ by omega) (show (r) = H0.2.2.1 73 0 (n) from by omega) (show H960.2.2.1 73 0 (n) = H0.2.2.1 73 0 (n) from by omega) (show H960.2.2.1 74 0 (n) = H0.2.2.1 74 0 (n) from by omega) (show H960.2.2.1 115 0 (n) = H0.2.2.1 115 0 (n) from by omega) (show H960.2.2.1 72 0 (n) = H0.2.2.1 72 0 (n) from by omega) (show H960.2.2.1 79 0 (n) = 0 from by omega) (show H960.2.2.1 80 0 (n) = 0 from by omega) (show H960.2.2.1 56 0 (H0.2.2.1 72 0 (n)) = H0.2.2.1 56 0 (H0.2.2.1 72 0 (n)) from by omega) (show H960.2.2.1 83 0 (n) ≤ 3 * H0.2.2.1 73 0 (n) + H0.2.2.1 74 0 (n) + 1 from by omega) (show H0.1 11 19 0 ≤ H960.1 11 19 0 from by omega) (show 0 ≤ H0.2.2.1 73 0 (n) ∧ H0.2.2.1 73 0 (n) ≤ 31 from ⟨by omega, by omega⟩) (show 0 ≤ H0.2.2.1 74 0 (n) ∧ H0.2.2.1 74 0 (n) ≤ 2 from ⟨by omega, by omega⟩) (show 0 ≤ H0.2.2.1 115 0 (n) ∧ H0.2.2.1 115 0 (n) ≤ 1 from ⟨by omega, by omega⟩) (show 0 ≤ H0.2.2.1 72 0 (n) ∧ H0.2.2.1 72 0 (n) ≤ 299 from ⟨by omega, by omega⟩) hT961 hE962 k963 k964 k965 k966 k967 k968 k969 k970 k971 k972 (Or.inr (Or.inr (⟨_, _, _, rfl⟩)))
              · have c985 : ¬ (x958 = (0 : Int)) := hc
                clear hc
                refine J.run 8 rfl (show 0 ≤ p ∧ p < 6000 from ⟨by omega, by omega⟩) ?_
                try dsimp only
                refine J.inv rfl rfl rfl rfl rfl rfl jDr rfl rfl rfl rfl rfl (g_isMost (n := n) (kind := (1 : Int)) (r := r) (b := H960.2.2.1 67 0 (p)) hT961  (show 0 ≤ (n) ∧ (n) < 16 from ⟨by omega, by omega⟩) (show -2147483648 ≤ ((1 : Int)) ∧ ((1 : Int)) ≤ 2147483647 from ⟨by omega, by omega⟩) (show -2147483648 ≤ (r) ∧ (r) ≤ 2147483647 from ⟨by omega, by omega⟩) (show -2147483648 ≤ (H960.2.2.1 67 0 (p)) ∧ (H960.2.2.1 67 0 (p)) ≤ 2147483647 from ⟨by omega, by omega⟩)) ?_
                rintro v w H988 ⟨rfl, hT989, ehE990, x986, rfl, r987⟩
                have hE990 := jEx.trans ehE990 hE962 (by decide) (by decide)
                have r987' : 0 ≤ x986 ∧ x986 ≤ 1 := r987
                have k991 : gP H988 := gP.ex k963 ehE990 (by decide)
                have k992 : gX H988 := gX.ex k964 ehE990 (by decide)
                have k993 : gL H988 := gL.ex k965 ehE990 (by decide)
                have k994 : gZ H988 := gZ.ex k966 ehE990 (by decide)
                have k995 : gQ H988 := gQ.ex k967 ehE990 (by decide)
                have k996 : gB H988 := gB.ex k968 ehE990 (by decide)
                have k997 : gK H988 := gK.ex k969 ehE990 (by decide)
                have k998 : gN H988 := gN.ex k970 ehE990 (by decide)
                have k999 : gW H988 (H988.1 11 19 0) := gWm.ex k971 ehE990 (by decide)
                have k1000 : gU H988 u := gU.ex k972 ehE990 (by decide)
                have g1001 : H988.1 11 12 0 = H960.1 11 12 0 := ehE990.v 12 (by decide)
                have g1002 : H988.1 11 19 0 = H960.1 11 19 0 := ehE990.v 19 (by decide)
                have g1003 : H988.2.2.1 67 0 (p) = H960.2.2.1 67 0 (p) := congrFun (ehE990.r 67 (by decide)) _
                have g1004 : H988.2.2.1 73 0 (n) = H960.2.2.1 73 0 (n) := congrFun (ehE990.r 73 (by decide)) _
                have g1005 : H988.2.2.1 74 0 (n) = H960.2.2.1 74 0 (n) := congrFun (ehE990.r 74 (by decide)) _
                have g1006 : H988.2.2.1 115 0 (n) = H960.2.2.1 115 0 (n) := congrFun (ehE990.r 115 (by decide)) _
                have g1007 : H988.2.2.1 72 0 (n) = H960.2.2.1 72 0 (n) := congrFun (ehE990.r 72 (by decide)) _
                have g1008 : H988.2.2.1 79 0 (n) = H960.2.2.1 79 0 (n) := congrFun (ehE990.r 79 (by decide)) _
                have g1009 : H988.2.2.1 80 0 (n) = H960.2.2.1 80 0 (n) := congrFun (ehE990.r 80 (by decide)) _
                have g1010 : H988.2.2.1 56 0 (H0.2.2.1 72 0 (n)) = H960.2.2.1 56 0 (H0.2.2.1 72 0 (n)) := congrFun (ehE990.r 56 (by decide)) _
                have g1011 : H988.2.2.1 83 0 (n) = H960.2.2.1 83 0 (n) := congrFun (ehE990.r 83 (by decide)) _
                have g1012 : H988.2.2.1 55 0 (H.2.2.1 67 0 (p)) = H960.2.2.1 55 0 (H.2.2.1 67 0 (p)) := congrFun (ehE990.r 55 (by decide)) _
                have rL_isMost := r987'
                have eL_isMost := ehE990
                try dsimp only [Option.toList, List.append, List.cons_append, List.nil_append]
                refine J.ifc rfl rfl rfl (show -2147483648 ≤ x986 ∧ x986 ≤ 2147483647 from ⟨by omega, by omega⟩) (fun hc => ?_) (fun hc => ?_)
                · have c1013 : x986 = (0 : Int) := hc
                  clear hc
                  exact (g_isMoved_l0 (H0 := H0) (n := n) (u := u)  hp0 hp1 hp2 hp3 ((0 : Int).toNat + 1)) (r) H988 _ (show 0 < _ by omega) (show (r) = H0.2.2.1 73 0 (n) from by omega) (show H988.2.2.1 73 0 (n) = H0.2.2.1 73 0 (n) from by omega) (show H988.2.2.1 74 0 (n) = H0.2.2.1 74 0 (n) from by omega) (show H988.2.2.1 115 0 (n) = H0.2.2.1 115 0 (n) from by omega) (show H988.2.2.1 72 0 (n) = H0.2.2.1 72 0 (n) from by omega) (show H988.2.2.1 79 0 (n) = 0 from by omega) (show H988.2.2.1 80 0 (n) = 0 from by omega) (show H988.2.2.1 56 0 (H0.2.2.1 72 0 (n)) = H0.2.2.1 56 0 (H0.2.2.1 72 0 (n)) from by omega) (show H988.2.2.1 83 0 (n) ≤ 3 * H0.2.2.1 73 0 (n) + H0.2.2.1 74 0 (n) + 1 from by omega) (show H0.1 11 19 0 ≤ H988.1 11 19 0 from by omega) (show 0 ≤ H0.2.2.1 73 0 (n) ∧ H0.2.2.1 73 0 (n) ≤ 31 from ⟨by omega, by omega⟩) (show 0 ≤ H0.2.2.1 74 0 (n) ∧ H0.2.2.1 74 0 (n) ≤ 2 from ⟨by omega, by omega⟩) (show 0 ≤ H0.2.2.1 115 0 (n) ∧ H0.2.2.1 115 0 (n) ≤ 1 from ⟨by omega, by omega⟩) (show 0 ≤ H0.2.2.1 72 0 (n) ∧ H0.2.2.1 72 0 (n) ≤ 299 from ⟨by omega, by omega⟩) hT989 hE990 k991 k992 k993 k994 k995 k996 k997 k998 k999 k1000 (Or.inr (Or.inr (⟨_, _, _, rfl⟩)))
                · have c1014 : ¬ (x986 = (0 : Int)) := hc
                  clear hc
                  exact (g_isMoved_l1 (H0 := H0) (n := n) (u := u)  hp0 hp1 hp2 hp3 ((0 : Int).toNat + 1)) (r) (p) H988 _ (show 0 < _ by omega) (show (r) = H0.2.2.1 73 0 (n) from by omega) (show 0 ≤ (p) ∧ (p) ≤ 5999 from ⟨by omega, by omega⟩) (show 0 ≤ H988.2.2.1 67 0 ((p)) from by omega) (show H0.2.2.1 115 0 (n) = 0 from by omega) (show 1 ≤ H0.2.2.1 74 0 (n) from by omega) (show H988.2.2.1 73 0 (n) = H0.2.2.1 73 0 (n) from by omega) (show H988.2.2.1 74 0 (n) = H0.2.2.1 74 0 (n) from by omega) (show H988.2.2.1 115 0 (n) = H0.2.2.1 115 0 (n) from by omega) (show H988.2.2.1 72 0 (n) = H0.2.2.1 72 0 (n) from by omega) (show H988.2.2.1 79 0 (n) = 0 from by omega) (show H988.2.2.1 80 0 (n) = 0 from by omega) (show H988.2.2.1 56 0 (H0.2.2.1 72 0 (n)) = H0.2.2.1 56 0 (H0.2.2.1 72 0 (n)) from by omega) (show H988.2.2.1 83 0 (n) ≤ 3 * H0.2.2.1 73 0 (n) + H0.2.2.1 74 0 (n) + 1 from by omega) (show H0.1 11 19 0 ≤ H988.1 11 19 0 from by omega) (show 0 ≤ H0.2.2.1 73 0 (n) ∧ H0.2.2.1 73 0 (n) ≤ 31 from ⟨by omega, by omega⟩) (show 0 ≤ H0.2.2.1 74 0 (n) ∧ H0.2.2.1 74 0 (n) ≤ 2 from ⟨by omega, by omega⟩) (show 0 ≤ H0.2.2.1 115 0 (n) ∧ H0.2.2.1 115 0 (n) ≤ 1 from ⟨by omega, by omega⟩) (show 0 ≤ H0.2.2.1 72 0 (n) ∧ H0.2.2.1 72 0 (n) ≤ 299 from ⟨by omega, by omega⟩) hT989 hE990 k991 k992 k993 k994 k995 k996 k997 k998 k999 k1000 (Or.inr (Or.inr (⟨_, _, rfl⟩)))
end
