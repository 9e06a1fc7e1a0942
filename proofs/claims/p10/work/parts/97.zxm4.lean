-- M: X11_isMoved#4
section
variable {d : Nat} {w : jW} 
set_option maxRecDepth 20000 in
set_option maxHeartbeats 8000000 in
theorem g_isMoved_l4 {n u : Int} {H0 : jH} (hp0 : 0 ≤ n ∧ n < 16) (hp1 : H0.2.2.1 79 0 (n) = 0) (hp2 : H0.2.2.1 80 0 (n) = 0) (hp3 : n < u) : ∀ (m : Nat), (∀ (most q : Int) (H : jH) (lv : jL), 10000 * (q + 1) < (m : Int) → (-1 ≤ q ∧ q ≤ 31) → (H.2.2.1 73 0 (n) = H0.2.2.1 73 0 (n)) → (H.2.2.1 74 0 (n) = H0.2.2.1 74 0 (n)) → (H.2.2.1 115 0 (n) = H0.2.2.1 115 0 (n)) → (H.2.2.1 72 0 (n) = H0.2.2.1 72 0 (n)) → (H.2.2.1 79 0 (n) = 0) → (H.2.2.1 80 0 (n) = 0) → (H.2.2.1 56 0 (H0.2.2.1 72 0 (n)) = H0.2.2.1 56 0 (H0.2.2.1 72 0 (n))) → (H.2.2.1 83 0 (n) ≤ 3 * H0.2.2.1 73 0 (n) + H0.2.2.1 74 0 (n) + 1) → (H0.1 11 19 0 ≤ H.1 11 19 0) → (0 ≤ H0.2.2.1 73 0 (n) ∧ H0.2.2.1 73 0 (n) ≤ 31) → (0 ≤ H0.2.2.1 74 0 (n) ∧ H0.2.2.1 74 0 (n) ≤ 2) → (0 ≤ H0.2.2.1 115 0 (n) ∧ H0.2.2.1 115 0 (n) ≤ 1) → (0 ≤ H0.2.2.1 72 0 (n) ∧ H0.2.2.1 72 0 (n) ≤ 299) → gT H → jEx [19, 12, 48, 56, 57] [60, 56, 59, 58, 55, 57, 61, 99, 100, 77, 78, 82, 80, 114, 115, 81, 105, 71, 70, 72, 75, 76, 68, 67, 65, 63, 64, 66, 112, 113, 108, 110, 101, 102, 103, 104, 83, 73, 74, 84, 111, 89, 88, 93, 94, 86, 91, 92, 85, 87, 90] H H0 → gP H → gX H → gL H → gZ H → gQ H → gB H → gK H → gN H → gW H (H.1 11 19 0) → gU H u → (lv = [(3, .inl q), (2, .inl most), (0, jT), (1, .inl n)] ∨ (∃ j4 : Int, lv = [(3, .inl q), (4, .inl j4), (2, .inl most), (0, jT), (1, .inl n)]) ∨ (∃ j4 j5 : Int, lv = [(3, .inl q), (4, .inl j4), (5, .inl j5), (2, .inl most), (0, jT), (1, .inl n)])) → J true (d + 304) 143 w (119, lv, [], H) (jN fun v w' H' => w' = w ∧ gT H' ∧ jEx [19, 12, 48, 56, 57] [60, 56, 59, 58, 55, 57, 61, 99, 100, 77, 78, 82, 80, 114, 115, 81, 105, 71, 70, 72, 75, 76, 68, 67, 65, 63, 64, 66, 112, 113, 108, 110, 101, 102, 103, 104, 83, 73, 74, 84, 111, 89, 88, 93, 94, 86, 91, 92, 85, 87, 90] H' H0 ∧ gP H' ∧ gX H' ∧ gL H' ∧ gZ H' ∧ gQ H' ∧ gB H' ∧ gK H' ∧ gN H' ∧ gW H' (H'.1 11 19 0) ∧ gU H' u ∧ ∃ x, v = some (.inl x) ∧ (x = 0 ∨ x = 1) ∧ (x = 1 → 192 * H0.2.2.1 56 0 (H0.2.2.1 72 0 (n)) + 6 * H0.2.2.1 73 0 (n) + 2 * H0.2.2.1 74 0 (n) + H0.2.2.1 115 0 (n) + 1 ≤ 192 * H'.2.2.1 56 0 (H'.2.2.1 72 0 (n)) + 6 * H'.2.2.1 73 0 (n) + 2 * H'.2.2.1 74 0 (n) + H'.2.2.1 115 0 (n)) ∧ H0.1 11 19 0 ≤ H'.1 11 19 0)) ∧ (∀ (most q k : Int) (H : jH) (lv : jL), 10000 * (q + 1) - 1 - k < (m : Int) → (H0.2.2.1 73 0 (n) < q ∧ q ≤ 31) → (0 ≤ k ∧ k ≤ 6000) → (H.2.2.1 73 0 (n) = H0.2.2.1 73 0 (n)) → (H.2.2.1 74 0 (n) = H0.2.2.1 74 0 (n)) → (H.2.2.1 115 0 (n) = H0.2.2.1 115 0 (n)) → (H.2.2.1 72 0 (n) = H0.2.2.1 72 0 (n)) → (H.2.2.1 79 0 (n) = 0) → (H.2.2.1 80 0 (n) = 0) → (H.2.2.1 56 0 (H0.2.2.1 72 0 (n)) = H0.2.2.1 56 0 (H0.2.2.1 72 0 (n))) → (H.2.2.1 83 0 (n) ≤ 3 * H0.2.2.1 73 0 (n) + H0.2.2.1 74 0 (n) + 1) → (H0.1 11 19 0 ≤ H.1 11 19 0) → (0 ≤ H0.2.2.1 73 0 (n) ∧ H0.2.2.1 73 0 (n) ≤ 31) → (0 ≤ H0.2.2.1 74 0 (n) ∧ H0.2.2.1 74 0 (n) ≤ 2) → (0 ≤ H0.2.2.1 115 0 (n) ∧ H0.2.2.1 115 0 (n) ≤ 1) → (0 ≤ H0.2.2.1 72 0 (n) ∧ H0.2.2.1 72 0 (n) ≤ 299) → gT H → jEx [19, 12, 48, 56, 57] [60, 56, 59, 58, 55, 57, 61, 99, 100, 77, 78, 82, 80, 114, 115, 81, 105, 71, 70, 72, 75, 76, 68, 67, 65, 63, 64, 66, 112, 113, 108, 110, 101, 102, 103, 104, 83, 73, 74, 84, 111, 89, 88, 93, 94, 86, 91, 92, 85, 87, 90] H H0 → gP H → gX H → gL H → gZ H → gQ H → gB H → gK H → gN H → gW H (H.1 11 19 0) → gU H u → (lv = [(4, .inl k), (3, .inl q), (2, .inl most), (0, jT), (1, .inl n)] ∨ (∃ j5 : Int, lv = [(4, .inl k), (5, .inl j5), (3, .inl q), (2, .inl most), (0, jT), (1, .inl n)]) ∨ (∃ j5 : Int, lv = [(4, .inl k), (3, .inl q), (5, .inl j5), (2, .inl most), (0, jT), (1, .inl n)])) → J true (d + 304) 143 w (136, lv, [], H) (jN fun v w' H' => w' = w ∧ gT H' ∧ jEx [19, 12, 48, 56, 57] [60, 56, 59, 58, 55, 57, 61, 99, 100, 77, 78, 82, 80, 114, 115, 81, 105, 71, 70, 72, 75, 76, 68, 67, 65, 63, 64, 66, 112, 113, 108, 110, 101, 102, 103, 104, 83, 73, 74, 84, 111, 89, 88, 93, 94, 86, 91, 92, 85, 87, 90] H' H0 ∧ gP H' ∧ gX H' ∧ gL H' ∧ gZ H' ∧ gQ H' ∧ gB H' ∧ gK H' ∧ gN H' ∧ gW H' (H'.1 11 19 0) ∧ gU H' u ∧ ∃ x, v = some (.inl x) ∧ (x = 0 ∨ x = 1) ∧ (x = 1 → 192 * H0.2.2.1 56 0 (H0.2.2.1 72 0 (n)) + 6 * H0.2.2.1 73 0 (n) + 2 * H0.2.2.1 74 0 (n) + H0.2.2.1 115 0 (n) + 1 ≤ 192 * H'.2.2.1 56 0 (H'.2.2.1 72 0 (n)) + 6 * H'.2.2.1 73 0 (n) + 2 * H'.2.2.1 74 0 (n) + H'.2.2.1 115 0 (n)) ∧ H0.1 11 19 0 ≤ H'.1 11 19 0)) := by
  intro m
  induction m with
  | zero =>
    refine ⟨?_, ?_⟩
    · intro most q H lv hm hi0 hi1 hi2 hi3 hi4 hi5 hi6 hi7 hi8 hi9 hi10 hi11 hi12 hi13 hT hE k0gP k0gX k0gL k0gZ k0gQ k0gB k0gK k0gN k0gW k0gU hlv
      exfalso
      omega
    · intro most q k H lv hm hi0 hi1 hi2 hi3 hi4 hi5 hi6 hi7 hi8 hi9 hi10 hi11 hi12 hi13 hi14 hT hE k0gP k0gX k0gL k0gZ k0gQ k0gB k0gK k0gN k0gW k0gU hlv
      exfalso
      omega
  | succ m ih =>
    refine ⟨?_, ?_⟩
    · intro most q H lv hm hi0 hi1 hi2 hi3 hi4 hi5 hi6 hi7 hi8 hi9 hi10 hi11 hi12 hi13 hT hE k0gP k0gX k0gL k0gZ k0gQ k0gB k0gK k0gN k0gW k0gU hlv
      rcases hlv with rfl | ⟨j4, rfl⟩ | ⟨j4, j5, rfl⟩
      · skip
        have f1089 : 0 ≤ H.2.2.1 73 0 (n) ∧ H.2.2.1 73 0 (n) ≤ 31 := hT.1 73 (n)
        refine J.run 5 rfl (show 0 ≤ n ∧ n < 16 from ⟨by omega, by omega⟩) ?_
        try dsimp only
        refine J.icmp rfl rfl rfl ⟨(show -2147483648 ≤ q ∧ q ≤ 2147483647 from ⟨by omega, by omega⟩), (show -2147483648 ≤ H.2.2.1 73 0 (n) ∧ H.2.2.1 73 0 (n) ≤ 2147483647 from ⟨by omega, by omega⟩)⟩ (fun hc => ?_) (fun hc => ?_)
        · have c1090 : q ≤ H.2.2.1 73 0 (n) := hc
          clear hc
          refine J.run 8 rfl (show 0 ≤ n ∧ n < 16 from ⟨by omega, by omega⟩) ?_
          try dsimp only
          refine J.inv rfl rfl rfl rfl rfl rfl jDr rfl rfl rfl rfl rfl (g_proposal (n := n) (r := H.2.2.1 73 0 (n)) hT k0gQ (show 0 ≤ (n) ∧ (n) < 16 from ⟨by omega, by omega⟩) (show 0 ≤ (H.2.2.1 73 0 (n)) ∧ (H.2.2.1 73 0 (n)) < 32 from ⟨by omega, by omega⟩)) ?_
          rintro v w H ⟨rfl, rfl, x1091, rfl, r1092⟩
          have r1092' : -1 ≤ x1091 ∧ x1091 ≤ 5999 ∧ (0 ≤ x1091 → 0 ≤ H.2.2.1 67 0 (x1091)) := r1092
          have rL_proposal := r1092'
          try dsimp only [Option.toList, List.append, List.cons_append, List.nil_append]
          have f1093 : 0 ≤ H.2.2.1 74 0 (n) ∧ H.2.2.1 74 0 (n) ≤ 2 := hT.1 74 (n)
          refine J.run 5 rfl (show 0 ≤ n ∧ n < 16 from ⟨by omega, by omega⟩) ?_
          try dsimp only
          refine J.ifc rfl rfl rfl (show -2147483648 ≤ H.2.2.1 74 0 (n) ∧ H.2.2.1 74 0 (n) ≤ 2147483647 from ⟨by omega, by omega⟩) (fun hc => ?_) (fun hc => ?_)
          · have c1094 : ¬ (H.2.2.1 74 0 (n) = (0 : Int)) := hc
            clear hc
            exact (g_isMoved_l2 (H0 := H0) (n := n) (u := u)  hp0 hp1 hp2 hp3 ((0 : Int).toNat + 1)) (H.2.2.1 73 0 (n)) (x1091) H _ (show 0 < _ by omega) (show (H.2.2.1 73 0 (n)) = H0.2.2.1 73 0 (n) from by omega) (show -1 ≤ (x1091) ∧ (x1091) ≤ 5999 from ⟨by omega, by omega⟩) (show 0 ≤ (x1091) → 0 ≤ H.2.2.1 67 0 ((x1091)) from by omega) (show H.2.2.1 73 0 (n) = H0.2.2.1 73 0 (n) from by omega) (show H.2.2.1 74 0 (n) = H0.2.2.1 74 0 (n) from by omega) (show H.2.2.1 115 0 (n) = H0.2.2.1 115 0 (n) from by omega) (show H.2.2.1 72 0 (n) = H0.2.2.1 72 0 (n) from by omega) (show H.2.2.1 79 0 (n) = 0 from by omega) (show H.2.2.1 80 0 (n) = 0 from by omega) (show H.2.2.1 56 0 (H0.2.2.1 72 0 (n)) = H0.2.2.1 56 0 (H0.2.2.1 72 0 (n)) from by omega) (show H.2.2.1 83 0 (n) ≤ 3 * H0.2.2.1 73 0 (n) + H0.2.2.1 74 0 (n) + 1 from by omega) (show H0.1 11 19 0 ≤ H.1 11 19 0 from by omega) (show 0 ≤ H0.2.2.1 73 0 (n) ∧ H0.2.2.1 73 0 (n) ≤ 31 from ⟨by omega, by omega⟩) (show 0 ≤ H0.2.2.1 74 0 (n) ∧ H0.2.2.1 74 0 (n) ≤ 2 from ⟨by omega, by omega⟩) (show 0 ≤ H0.2.2.1 115 0 (n) ∧ H0.2.2.1 115 0 (n) ≤ 1 from ⟨by omega, by omega⟩) (show 0 ≤ H0.2.2.1 72 0 (n) ∧ H0.2.2.1 72 0 (n) ≤ 299 from ⟨by omega, by omega⟩) hT hE k0gP k0gX k0gL k0gZ k0gQ k0gB k0gK k0gN k0gW k0gU (Or.inl ⟨_, rfl⟩)
          · have c1095 : ¬ (¬ (H.2.2.1 74 0 (n) = (0 : Int))) := hc
            clear hc
            refine J.run0 1 rfl ?_
            try dsimp only
            refine J.ifc rfl rfl rfl (show -2147483648 ≤ x1091 ∧ x1091 ≤ 2147483647 from ⟨by omega, by omega⟩) (fun hc => ?_) (fun hc => ?_)
            · have c1096 : x1091 < (0 : Int) := hc
              clear hc
              exact (g_isMoved_l2 (H0 := H0) (n := n) (u := u)  hp0 hp1 hp2 hp3 ((0 : Int).toNat + 1)) (H.2.2.1 73 0 (n)) (x1091) H _ (show 0 < _ by omega) (show (H.2.2.1 73 0 (n)) = H0.2.2.1 73 0 (n) from by omega) (show -1 ≤ (x1091) ∧ (x1091) ≤ 5999 from ⟨by omega, by omega⟩) (show 0 ≤ (x1091) → 0 ≤ H.2.2.1 67 0 ((x1091)) from by omega) (show H.2.2.1 73 0 (n) = H0.2.2.1 73 0 (n) from by omega) (show H.2.2.1 74 0 (n) = H0.2.2.1 74 0 (n) from by omega) (show H.2.2.1 115 0 (n) = H0.2.2.1 115 0 (n) from by omega) (show H.2.2.1 72 0 (n) = H0.2.2.1 72 0 (n) from by omega) (show H.2.2.1 79 0 (n) = 0 from by omega) (show H.2.2.1 80 0 (n) = 0 from by omega) (show H.2.2.1 56 0 (H0.2.2.1 72 0 (n)) = H0.2.2.1 56 0 (H0.2.2.1 72 0 (n)) from by omega) (show H.2.2.1 83 0 (n) ≤ 3 * H0.2.2.1 73 0 (n) + H0.2.2.1 74 0 (n) + 1 from by omega) (show H0.1 11 19 0 ≤ H.1 11 19 0 from by omega) (show 0 ≤ H0.2.2.1 73 0 (n) ∧ H0.2.2.1 73 0 (n) ≤ 31 from ⟨by omega, by omega⟩) (show 0 ≤ H0.2.2.1 74 0 (n) ∧ H0.2.2.1 74 0 (n) ≤ 2 from ⟨by omega, by omega⟩) (show 0 ≤ H0.2.2.1 115 0 (n) ∧ H0.2.2.1 115 0 (n) ≤ 1 from ⟨by omega, by omega⟩) (show 0 ≤ H0.2.2.1 72 0 (n) ∧ H0.2.2.1 72 0 (n) ≤ 299 from ⟨by omega, by omega⟩) hT hE k0gP k0gX k0gL k0gZ k0gQ k0gB k0gK k0gN k0gW k0gU (Or.inl ⟨_, rfl⟩)
            · have c1097 : ¬ (x1091 < (0 : Int)) := hc
              clear hc
              have f1098 : -1 ≤ H.2.2.1 67 0 (x1091) ∧ H.2.2.1 67 0 (x1091) ≤ 299 := hT.1 67 (x1091)
              have f1099 : 1 ≤ H.1 11 12 0 ∧ H.1 11 12 0 ≤ 300 := hT.2.1 12
              have f1098b : H.2.2.1 67 0 (x1091) < H.1 11 12 0 := hT.2.2.1 67 (x1091) rfl
              have f1100 : -1 ≤ H.2.2.1 68 0 (x1091) ∧ H.2.2.1 68 0 (x1091) ≤ 31 := hT.1 68 (x1091)
              refine J.run 11 rfl ⟨(show 0 ≤ x1091 ∧ x1091 < 6000 from ⟨by omega, by omega⟩), (show 0 ≤ x1091 ∧ x1091 < 6000 from ⟨by omega, by omega⟩)⟩ ?_
              try dsimp only
              refine J.ifc rfl rfl rfl (show -2147483648 ≤ H.2.2.1 68 0 (x1091) ∧ H.2.2.1 68 0 (x1091) ≤ 2147483647 from ⟨by omega, by omega⟩) (fun hc => ?_) (fun hc => ?_)
              · have c1101 : H.2.2.1 68 0 (x1091) < (0 : Int) := hc
                clear hc
                refine J.run0 4 rfl ?_
                try dsimp only
                refine J.ifc rfl rfl rfl (show -2147483648 ≤ (1 : Int) ∧ (1 : Int) ≤ 2147483647 from ⟨by omega, by omega⟩) (fun hc => ?_) (fun hc => ?_)
                · have c1102 : (1 : Int) = (0 : Int) := hc
                  clear hc
                  exfalso
                  omega
                · have c1103 : ¬ ((1 : Int) = (0 : Int)) := hc
                  clear hc
                  refine J.run0 3 rfl ?_
                  try dsimp only
                  refine J.inv rfl rfl rfl rfl rfl rfl jDr rfl rfl rfl rfl rfl (g_isGood (n := n) (b := H.2.2.1 67 0 (x1091)) hT k0gP k0gX k0gL k0gZ (show 0 ≤ (n) ∧ (n) < 16 from ⟨by omega, by omega⟩) (show 0 ≤ (H.2.2.1 67 0 (x1091)) ∧ (H.2.2.1 67 0 (x1091)) < 300 from ⟨by omega, by omega⟩) (show (H.2.2.1 67 0 (x1091)) < H.1 11 12 0 from by omega)) ?_
                  rintro v w H1106 ⟨rfl, hT1107, ehE1108, k1109, k1110, k1111, k1112, x1104, rfl, r1105⟩
                  have hE1108 := jEx.trans ehE1108 hE (by decide) (by decide)
                  have r1105' : 0 ≤ x1104 ∧ x1104 ≤ 1 ∧ (x1104 = 1 → H1106.2.2.1 55 0 ((H.2.2.1 67 0 (x1091))) = H1106.2.2.1 72 0 ((n))) := r1105
                  have k1113 : gQ H1106 := gQ.ex k0gQ ehE1108 (by decide)
                  have k1114 : gB H1106 := gB.ex k0gB ehE1108 (by decide)
                  have k1115 : gK H1106 := gK.ex k0gK ehE1108 (by decide)
                  have k1116 : gN H1106 := gN.ex k0gN ehE1108 (by decide)
                  have k1117 : gW H1106 (H1106.1 11 19 0) := gWm.ex k0gW ehE1108 (by decide)
                  have k1118 : gU H1106 u := gU.ex k0gU ehE1108 (by decide)
                  have g1119 : H1106.1 11 12 0 = H.1 11 12 0 := ehE1108.v 12 (by decide)
                  have g1120 : H1106.1 11 19 0 = H.1 11 19 0 := ehE1108.v 19 (by decide)
                  have g1121 : H1106.2.2.1 73 0 (n) = H.2.2.1 73 0 (n) := congrFun (ehE1108.r 73 (by decide)) _
                  have g1122 : H1106.2.2.1 74 0 (n) = H.2.2.1 74 0 (n) := congrFun (ehE1108.r 74 (by decide)) _
                  have g1123 : H1106.2.2.1 115 0 (n) = H.2.2.1 115 0 (n) := congrFun (ehE1108.r 115 (by decide)) _
                  have g1124 : H1106.2.2.1 72 0 (n) = H.2.2.1 72 0 (n) := congrFun (ehE1108.r 72 (by decide)) _
                  have g1125 : H1106.2.2.1 79 0 (n) = H.2.2.1 79 0 (n) := congrFun (ehE1108.r 79 (by decide)) _
                  have g1126 : H1106.2.2.1 80 0 (n) = H.2.2.1 80 0 (n) := congrFun (ehE1108.r 80 (by decide)) _
                  have g1127 : H1106.2.2.1 56 0 (H0.2.2.1 72 0 (n)) = H.2.2.1 56 0 (H0.2.2.1 72 0 (n)) := congrFun (ehE1108.r 56 (by decide)) _
                  have g1128 : H1106.2.2.1 83 0 (n) = H.2.2.1 83 0 (n) := congrFun (ehE1108.r 83 (by decide)) _
                  have g1129 : H1106.2.2.1 67 0 (x1091) = H.2.2.1 67 0 (x1091) := congrFun (ehE1108.r 67 (by decide)) _
                  have g1130 : H1106.2.2.1 68 0 (x1091) = H.2.2.1 68 0 (x1091) := congrFun (ehE1108.r 68 (by decide)) _
                  have rL_isGood := r1105'
                  have eL_isGood := ehE1108
                  try dsimp only [Option.toList, List.append, List.cons_append, List.nil_append]
                  refine J.ifc rfl rfl rfl (show -2147483648 ≤ x1104 ∧ x1104 ≤ 2147483647 from ⟨by omega, by omega⟩) (fun hc => ?_) (fun hc => ?_)
                  · have c1131 : x1104 = (0 : Int) := hc
                    clear hc
                    refine J.run0 2 rfl ?_
                    try dsimp only
                    exact (g_isMoved_l3 (H0 := H0) (n := n) (u := u)  hp0 hp1 hp2 hp3 ((0 : Int).toNat + 1)) (H.2.2.1 73 0 (n)) (H.2.2.1 67 0 (x1091)) ((0 : Int)) H1106 _ (show 0 < _ by omega) (show (H.2.2.1 73 0 (n)) = H0.2.2.1 73 0 (n) from by omega) (show 0 ≤ (H.2.2.1 67 0 (x1091)) ∧ (H.2.2.1 67 0 (x1091)) < 300 from ⟨by omega, by omega⟩) (show (H.2.2.1 67 0 (x1091)) < H1106.1 11 12 0 from by omega) (show 0 ≤ ((0 : Int)) ∧ ((0 : Int)) ≤ 1 from ⟨by omega, by omega⟩) (show H0.2.2.1 74 0 (n) = 0 from by omega) (show H1106.2.2.1 73 0 (n) = H0.2.2.1 73 0 (n) from by omega) (show H1106.2.2.1 74 0 (n) = H0.2.2.1 74 0 (n) from by omega) (show H1106.2.2.1 115 0 (n) = H0.2.2.1 115 0 (n) from by omega) (show H1106.2.2.1 72 0 (n) = H0.2.2.1 72 0 (n) from by omega) (show H1106.2.2.1 79 0 (n) = 0 from by omega) (show H1106.2.2.1 80 0 (n) = 0 from by omega) (show H1106.2.2.1 56 0 (H0.2.2.1 72 0 (n)) = H0.2.2.1 56 0 (H0.2.2.1 72 0 (n)) from by omega) (show H1106.2.2.1 83 0 (n) ≤ 3 * H0.2.2.1 73 0 (n) + H0.2.2.1 74 0 (n) + 1 from by omega) (show H0.1 11 19 0 ≤ H1106.1 11 19 0 from by omega) (show 0 ≤ H0.2.2.1 73 0 (n) ∧ H0.2.2.1 73 0 (n) ≤ 31 from ⟨by omega, by omega⟩) (show 0 ≤ H0.2.2.1 74 0 (n) ∧ H0.2.2.1 74 0 (n) ≤ 2 from ⟨by omega, by omega⟩) (show 0 ≤ H0.2.2.1 115 0 (n) ∧ H0.2.2.1 115 0 (n) ≤ 1 from ⟨by omega, by omega⟩) (show 0 ≤ H0.2.2.1 72 0 (n) ∧ H0.2.2.1 72 0 (n) ≤ 299 from ⟨by omega, by omega⟩) hT1107 hE1108 k1109 k1110 k1111 k1112 k1113 k1114 k1115 k1116 k1117 k1118 ⟨_, _, _, _, rfl⟩
                  · have c1132 : ¬ (x1104 = (0 : Int)) := hc
                    clear hc
                    have f1133 : -1 ≤ H1106.2.2.1 75 0 (n) ∧ H1106.2.2.1 75 0 (n) ≤ 299 := hT1107.1 75 (n)
                    refine J.run 4 rfl (show 0 ≤ n ∧ n < 16 from ⟨by omega, by omega⟩) ?_
                    try dsimp only
                    refine J.ifc rfl rfl rfl (show -2147483648 ≤ H1106.2.2.1 75 0 (n) ∧ H1106.2.2.1 75 0 (n) ≤ 2147483647 from ⟨by omega, by omega⟩) (fun hc => ?_) (fun hc => ?_)
                    · have c1134 : H1106.2.2.1 75 0 (n) < (0 : Int) := hc
                      clear hc
                      refine J.run0 3 rfl ?_
                      try dsimp only
                      exact (g_isMoved_l3 (H0 := H0) (n := n) (u := u)  hp0 hp1 hp2 hp3 ((0 : Int).toNat + 1)) (H.2.2.1 73 0 (n)) (H.2.2.1 67 0 (x1091)) ((1 : Int)) H1106 _ (show 0 < _ by omega) (show (H.2.2.1 73 0 (n)) = H0.2.2.1 73 0 (n) from by omega) (show 0 ≤ (H.2.2.1 67 0 (x1091)) ∧ (H.2.2.1 67 0 (x1091)) < 300 from ⟨by omega, by omega⟩) (show (H.2.2.1 67 0 (x1091)) < H1106.1 11 12 0 from by omega) (show 0 ≤ ((1 : Int)) ∧ ((1 : Int)) ≤ 1 from ⟨by omega, by omega⟩) (show H0.2.2.1 74 0 (n) = 0 from by omega) (show H1106.2.2.1 73 0 (n) = H0.2.2.1 73 0 (n) from by omega) (show H1106.2.2.1 74 0 (n) = H0.2.2.1 74 0 (n) from by omega) (show H1106.2.2.1 115 0 (n) = H0.2.2.1 115 0 (n) from by omega) (show H1106.2.2.1 72 0 (n) = H0.2.2.1 72 0 (n) from by omega) (show H1106.2.2.1 79 0 (n) = 0 from by omega) (show H1106.2.2.1 80 0 (n) = 0 from by omega) (show H1106.2.2.1 56 0 (H0.2.2.1 72 0 (n)) = H0.2.2.1 56 0 (H0.2.2.1 72 0 (n)) from by omega) (show H1106.2.2.1 83 0 (n) ≤ 3 * H0.2.2.1 73 0 (n) + H0.2.2.1 74 0 (n) + 1 from by omega) (show H0.1 11 19 0 ≤ H1106.1 11 19 0 from by omega) (show 0 ≤ H0.2.2.1 73 0 (n) ∧ H0.2.2.1 73 0 (n) ≤ 31 from ⟨by omega, by omega⟩) (show 0 ≤ H0.2.2.1 74 0 (n) ∧ H0.2.2.1 74 0 (n) ≤ 2 from ⟨by omega, by omega⟩) (show 0 ≤ H0.2.2.1 115 0 (n) ∧ H0.2.2.1 115 0 (n) ≤ 1 from ⟨by omega, by omega⟩) (show 0 ≤ H0.2.2.1 72 0 (n) ∧ H0.2.2.1 72 0 (n) ≤ 299 from ⟨by omega, by omega⟩) hT1107 hE1108 k1109 k1110 k1111 k1112 k1113 k1114 k1115 k1116 k1117 k1118 ⟨_, _, _, _, rfl⟩
                    · have c1135 : ¬ (H1106.2.2.1 75 0 (n) < (0 : Int)) := hc
                      clear hc
                      refine J.run 5 rfl (show 0 ≤ n ∧ n < 16 from ⟨by omega, by omega⟩) ?_
                      try dsimp only
                      refine J.icmp rfl rfl rfl ⟨(show -2147483648 ≤ H1106.2.2.1 75 0 (n) ∧ H1106.2.2.1 75 0 (n) ≤ 2147483647 from ⟨by omega, by omega⟩), (show -2147483648 ≤ H.2.2.1 67 0 (x1091) ∧ H.2.2.1 67 0 (x1091) ≤ 2147483647 from ⟨by omega, by omega⟩)⟩ (fun hc => ?_) (fun hc => ?_)
                      · have c1136 : H1106.2.2.1 75 0 (n) = H.2.2.1 67 0 (x1091) := hc
                        clear hc
                        refine J.run0 3 rfl ?_
                        try dsimp only
                        exact (g_isMoved_l3 (H0 := H0) (n := n) (u := u)  hp0 hp1 hp2 hp3 ((0 : Int).toNat + 1)) (H.2.2.1 73 0 (n)) (H.2.2.1 67 0 (x1091)) ((1 : Int)) H1106 _ (show 0 < _ by omega) (show (H.2.2.1 73 0 (n)) = H0.2.2.1 73 0 (n) from by omega) (show 0 ≤ (H.2.2.1 67 0 (x1091)) ∧ (H.2.2.1 67 0 (x1091)) < 300 from ⟨by omega, by omega⟩) (show (H.2.2.1 67 0 (x1091)) < H1106.1 11 12 0 from by omega) (show 0 ≤ ((1 : Int)) ∧ ((1 : Int)) ≤ 1 from ⟨by omega, by omega⟩) (show H0.2.2.1 74 0 (n) = 0 from by omega) (show H1106.2.2.1 73 0 (n) = H0.2.2.1 73 0 (n) from by omega) (show H1106.2.2.1 74 0 (n) = H0.2.2.1 74 0 (n) from by omega) (show H1106.2.2.1 115 0 (n) = H0.2.2.1 115 0 (n) from by omega) (show H1106.2.2.1 72 0 (n) = H0.2.2.1 72 0 (n) from by omega) (show H1106.2.2.1 79 0 (n) = 0 from by omega) (show H1106.2.2.1 80 0 (n) = 0 from by omega) (show H1106.2.2.1 56 0 (H0.2.2.1 72 0 (n)) = H0.2.2.1 56 0 (H0.2.2.1 72 0 (n)) from by omega) (show H1106.2.2.1 83 0 (n) ≤ 3 * H0.2.2.1 73 0 (n) + H0.2.2.1 74 0 (n) + 1 from by omega) (show H0.1 11 19 0 ≤ H1106.1 11 19 0 from by omega) (show 0 ≤ H0.2.2.1 73 0 (n) ∧ H0.2.2.1 73 0 (n) ≤ 31 from ⟨by omega, by omega⟩) (show 0 ≤ H0.2.2.1 74 0 (n) ∧ H0.2.2.1 74 0 (n) ≤ 2 from ⟨by omega, by omega⟩) (show 0 ≤ H0.2.2.1 115 0 (n) ∧ H0.2.2.1 115 0 (n) ≤ 1 from ⟨by omega, by omega⟩) (show 0 ≤ H0.2.2.1 72 0 (n) ∧ H0.2.2.1 72 0 (n) ≤ 299 from ⟨by omega, by omega⟩) hT1107 hE1108 k1109 k1110 k1111 k1112 k1113 k1114 k1115 k1116 k1117 k1118 ⟨_, _, _, _, rfl⟩
                      · have c1137 : ¬ (H1106.2.2.1 75 0 (n) = H.2.2.1 67 0 (x1091)) := hc
                        clear hc
                        refine J.run0 1 rfl ?_
                        try dsimp only
                        refine J.ifc rfl rfl rfl (show -2147483648 ≤ H.2.2.1 68 0 (x1091) ∧ H.2.2.1 68 0 (x1091) ≤ 2147483647 from ⟨by omega, by omega⟩) (fun hc => ?_) (fun hc => ?_)
                        · have c1138 : H.2.2.1 68 0 (x1091) < (0 : Int) := hc
                          clear hc
                          refine J.run0 2 rfl ?_
                          try dsimp only
                          exact (g_isMoved_l3 (H0 := H0) (n := n) (u := u)  hp0 hp1 hp2 hp3 ((0 : Int).toNat + 1)) (H.2.2.1 73 0 (n)) (H.2.2.1 67 0 (x1091)) ((0 : Int)) H1106 _ (show 0 < _ by omega) (show (H.2.2.1 73 0 (n)) = H0.2.2.1 73 0 (n) from by omega) (show 0 ≤ (H.2.2.1 67 0 (x1091)) ∧ (H.2.2.1 67 0 (x1091)) < 300 from ⟨by omega, by omega⟩) (show (H.2.2.1 67 0 (x1091)) < H1106.1 11 12 0 from by omega) (show 0 ≤ ((0 : Int)) ∧ ((0 : Int)) ≤ 1 from ⟨by omega, by omega⟩) (show H0.2.2.1 74 0 (n) = 0 from by omega) (show H1106.2.2.1 73 0 (n) = H0.2.2.1 73 0 (n) from by omega) (show H1106.2.2.1 74 0 (n) = H0.2.2.1 74 0 (n) from by omega) (show H1106.2.2.1 115 0 (n) = H0.2.2.1 115 0 (n) from by omega) (show H1106.2.2.1 72 0 (n) = H0.2.2.1 72 0 (n) from by omega) (show H1106.2.2.1 79 0 (n) = 0 from by omega) (show H1106.2.2.1 80 0 (n) = 0 from by omega) (show H1106.2.2.1 56 0 (H0.2.2.1 72 0 (n)) = H0.2.2.1 56 0 (H0.2.2.1 72 0 (n)) from by omega) (show H1106.2.2.1 83 0 (n) ≤ 3 * H0.2.2.1 73 0 (n) + H0.2.2.1 74 0 (n) + 1 from by omega) (show H0.1 11 19 0 ≤ H1106.1 11 19 0 from by omega) (show 0 ≤ H0.2.2.1 73 0 (n) ∧ H0.2.2.1 73 0 (n) ≤ 31 from ⟨by omega, by omega⟩) (show 0 ≤ H0.2.2.1 74 0 (n) ∧ H0.2.2.1 74 0 (n) ≤ 2 from ⟨by omega, by omega⟩) (show 0 ≤ H0.2.2.1 115 0 (n) ∧ H0.2.2.1 115 0 (n) ≤ 1 from ⟨by omega, by omega⟩) (show 0 ≤ H0.2.2.1 72 0 (n) ∧ H0.2.2.1 72 0 (n) ≤ 299 from ⟨by omega, by omega⟩) hT1107 hE1108 k1109 k1110 k1111 k1112 k1113 k1114 k1115 k1116 k1117 k1118 ⟨_, _, _, _, rfl⟩
                        · have c1139 : ¬ (H.2.2.1 68 0 (x1091) < (0 : Int)) := hc
                          clear hc
                          have f1140 : -1 ≤ H1106.2.2.1 76 0 (n) ∧ H1106.2.2.1 76 0 (n) ≤ 31 := hT1107.1 76 (n)
                          refine J.run 5 rfl (show 0 ≤ n ∧ n < 16 from ⟨by omega, by omega⟩) ?_
                          try dsimp only
                          refine J.icmp rfl rfl rfl ⟨(show -2147483648 ≤ H1106.2.2.1 76 0 (n) ∧ H1106.2.2.1 76 0 (n) ≤ 2147483647 from ⟨by omega, by omega⟩), (show -2147483648 ≤ H.2.2.1 68 0 (x1091) ∧ H.2.2.1 68 0 (x1091) ≤ 2147483647 from ⟨by omega, by omega⟩)⟩ (fun hc => ?_) (fun hc => ?_)
                          · have c1141 : H.2.2.1 68 0 (x1091) < H1106.2.2.1 76 0 (n) := hc
                            clear hc
                            refine J.run0 2 rfl ?_
                            try dsimp only
                            exact (g_isMoved_l3 (H0 := H0) (n := n) (u := u)  hp0 hp1 hp2 hp3 ((0 : Int).toNat + 1)) (H.2.2.1 73 0 (n)) (H.2.2.1 67 0 (x1091)) ((0 : Int)) H1106 _ (show 0 < _ by omega) (show (H.2.2.1 73 0 (n)) = H0.2.2.1 73 0 (n) from by omega) (show 0 ≤ (H.2.2.1 67 0 (x1091)) ∧ (H.2.2.1 67 0 (x1091)) < 300 from ⟨by omega, by omega⟩) (show (H.2.2.1 67 0 (x1091)) < H1106.1 11 12 0 from by omega) (show 0 ≤ ((0 : Int)) ∧ ((0 : Int)) ≤ 1 from ⟨by omega, by omega⟩) (show H0.2.2.1 74 0 (n) = 0 from by omega) (show H1106.2.2.1 73 0 (n) = H0.2.2.1 73 0 (n) from by omega) (show H1106.2.2.1 74 0 (n) = H0.2.2.1 74 0 (n) from by omega) (show H1106.2.2.1 115 0 (n) = H0.2.2.1 115 0 (n) from by omega) (show H1106.2.2.1 72 0 (n) = H0.2.2.1 72 0 (n) from by omega) (show H1106.2.2.1 79 0 (n) = 0 from by omega) (show H1106.2.2.1 80 0 (n) = 0 from by omega) (show H1106.2.2.1 56 0 (H0.2.2.1 72 0 (n)) = H0.2.2.1 56 0 (H0.2.2.1 72 0 (n)) from by omega) (show H1106.2.2.1 83 0 (n) ≤ 3 * H0.2.2.1 73 0 (n) + H0.2.2.1 74 0 (n) + 1 from by omega) (show H0.1 11 19 0 ≤ H1106.1 11 19 0 from by omega) (show 0 ≤ H0.2.2.1 73 0 (n) ∧ H0.2.2.1 73 0 (n) ≤ 31 from ⟨by omega, by omega⟩) (show 0 ≤ H0.2.2.1 74 0 (n) ∧ H0.2.2.1 74 0 (n) ≤ 2 from ⟨by omega, by omega⟩) (show 0 ≤ H0.2.2.1 115 0 (n) ∧ H0.2.2.1 115 0 (n) ≤ 1 from ⟨by omega, by omega⟩) (show 0 ≤ H0.2.2.1 72 0 (n) ∧ H0.2.2.1 72 0 (n) ≤ 299 from ⟨by omega, by omega⟩) hT1107 hE1108 k1109 k1110 k1111 k1112 k1113 k1114 k1115 k1116 k1117 k1118 ⟨_, _, _, _, rfl⟩
                          · have c1142 : ¬ (H.2.2.1 68 0 (x1091) < H1106.2.2.1 76 0 (n)) := hc
                            clear hc
                            refine J.run0 3 rfl ?_
                            try dsimp only
                            exact (g_isMoved_l3 (H0 := H0) (n := n) (u := u)  hp0 hp1 hp2 hp3 ((0 : Int).toNat + 1)) (H.2.2.1 73 0 (n)) (H.2.2.1 67 0 (x1091)) ((1 : Int)) H1106 _ (show 0 < _ by omega) (show (H.2.2.1 73 0 (n)) = H0.2.2.1 73 0 (n) from by omega) (show 0 ≤ (H.2.2.1 67 0 (x1091)) ∧ (H.2.2.1 67 0 (x1091)) < 300 from ⟨by omega, by omega⟩) (show (H.2.2.1 67 0 (x1091)) < H1106.1 11 12 0 from by omega) (show 0 ≤ ((1 : Int)) ∧ ((1 : Int)) ≤ 1 from ⟨by omega, by omega⟩) (show H0.2.2.1 74 0 (n) = 0 from by omega) (show H1106.2.2.1 73 0 (n) = H0.2.2.1 73 0 (n) from by omega) (show H1106.2.2.1 74 0 (n) = H0.2.2.1 74 0 (n) from by omega) (show H1106.2.2.1 115 0 (n) = H0.2.2.1 115 0 (n) from by omega) (show H1106.2.2.1 72 0 (n) = H0.2.2.1 72 0 (n) from by omega) (show H1106.2.2.1 79 0 (n) = 0 from by omega) (show H1106.2.2.1 80 0 (n) = 0 from by omega) (show H1106.2.2.1 56 0 (H0.2.2.1 72 0 (n)) = H0.2.2.1 56 0 (H0.2.2.1 72 0 (n)) from by omega) (show H1106.2.2.1 83 0 (n) ≤ 3 * H0.2.2.1 73 0 (n) + H0.2.2.1 74 0 (n) + 1 from by omega) (show H0.1 11 19 0 ≤ H1106.1 11 19 0 from by omega) (show 0 ≤ H0.2.2.1 73 0 (n) ∧ H0.2.2.1 73 0 (n) ≤ 31 from ⟨by omega, by omega⟩) (show 0 ≤ H0.2.2.1 74 0 (n) ∧ H0.2.2.1 74 0 (n) ≤ 2 from ⟨by omega, by omega⟩) (show 0 ≤ H0.2.2.1 115 0 (n) ∧ H0.2.2.1 115 0 (n) ≤ 1 from ⟨by omega, by omega⟩) (show 0 ≤ H0.2.2.1 72 0 (n) ∧ H0.2.2.1 72 0 (n) ≤ 299 from ⟨by omega, by omega⟩) hT1107 hE1108 k1109 k1110 k1111 k1112 k1113 k1114 k1115 k1116 k1117 k1118 ⟨_, _, _, _, rfl⟩
              · have c1143 : ¬ (H.2.2.1 68 0 (x1091) < (0 : Int)) := hc
                clear hc
                refine J.run0 2 rfl ?_
                try dsimp only
                refine J.icmp rfl rfl rfl ⟨(show -2147483648 ≤ H.2.2.1 68 0 (x1091) ∧ H.2.2.1 68 0 (x1091) ≤ 2147483647 from ⟨by omega, by omega⟩), (show -2147483648 ≤ H.2.2.1 73 0 (n) ∧ H.2.2.1 73 0 (n) ≤ 2147483647 from ⟨by omega, by omega⟩)⟩ (fun hc => ?_) (fun hc => ?_)
                · have c1144 : H.2.2.1 73 0 (n) ≤ H.2.2.1 68 0 (x1091) := hc
                  clear hc
                  refine J.run0 3 rfl ?_
                  try dsimp only
                  refine J.ifc rfl rfl rfl (show -2147483648 ≤ (0 : Int) ∧ (0 : Int) ≤ 2147483647 from ⟨by omega, by omega⟩) (fun hc => ?_) (fun hc => ?_)
                  · have c1145 : (0 : Int) = (0 : Int) := hc
                    clear hc
                    exact (g_isMoved_l2 (H0 := H0) (n := n) (u := u)  hp0 hp1 hp2 hp3 ((0 : Int).toNat + 1)) (H.2.2.1 73 0 (n)) (x1091) H _ (show 0 < _ by omega) (show (H.2.2.1 73 0 (n)) = H0.2.2.1 73 0 (n) from by omega) (show -1 ≤ (x1091) ∧ (x1091) ≤ 5999 from ⟨by omega, by omega⟩) (show 0 ≤ (x1091) → 0 ≤ H.2.2.1 67 0 ((x1091)) from by omega) (show H.2.2.1 73 0 (n) = H0.2.2.1 73 0 (n) from by omega) (show H.2.2.1 74 0 (n) = H0.2.2.1 74 0 (n) from by omega) (show H.2.2.1 115 0 (n) = H0.2.2.1 115 0 (n) from by omega) (show H.2.2.1 72 0 (n) = H0.2.2.1 72 0 (n) from by omega) (show H.2.2.1 79 0 (n) = 0 from by omega) (show H.2.2.1 80 0 (n) = 0 from by omega) (show H.2.2.1 56 0 (H0.2.2.1 72 0 (n)) = H0.2.2.1 56 0 (H0.2.2.1 72 0 (n)) from by omega) (show H.2.2.1 83 0 (n) ≤ 3 * H0.2.2.1 73 0 (n) + H0.2.2.1 74 0 (n) + 1 from by omega) (show H0.1 11 19 0 ≤ H.1 11 19 0 from by omega) (show 0 ≤ H0.2.2.1 73 0 (n) ∧ H0.2.2.1 73 0 (n) ≤ 31 from ⟨by omega, by omega⟩) (show 0 ≤ H0.2.2.1 74 0 (n) ∧ H0.2.2.1 74 0 (n) ≤ 2 from ⟨by omega, by omega⟩) (show 0 ≤ H0.2.2.1 115 0 (n) ∧ H0.2.2.1 115 0 (n) ≤ 1 from ⟨by omega, by omega⟩) (show 0 ≤ H0.2.2.1 72 0 (n) ∧ H0.2.2.1 72 0 (n) ≤ 299 from ⟨by omega, by omega⟩) hT hE k0gP k0gX k0gL k0gZ k0gQ k0gB k0gK k0gN k0gW k0gU (Or.inr (Or.inl ⟨_, _, _, _, rfl⟩))
                  · have c1146 : ¬ ((0 : Int) = (0 : Int)) := hc
                    clear hc
                    exfalso
                    omega
                · have c1147 : ¬ (H.2.2.1 73 0 (n) ≤ H.2.2.1 68 0 (x1091)) := hc
                  clear hc
                  refine J.run0 5 rfl ?_
                  try dsimp only
                  refine J.inv rfl rfl rfl rfl rfl rfl jDr rfl rfl rfl rfl rfl (g_isMost (n := n) (kind := (1 : Int)) (r := H.2.2.1 68 0 (x1091)) (b := H.2.2.1 67 0 (x1091)) hT  (show 0 ≤ (n) ∧ (n) < 16 from ⟨by omega, by omega⟩) (show -2147483648 ≤ ((1 : Int)) ∧ ((1 : Int)) ≤ 2147483647 from ⟨by omega, by omega⟩) (show -2147483648 ≤ (H.2.2.1 68 0 (x1091)) ∧ (H.2.2.1 68 0 (x1091)) ≤ 2147483647 from ⟨by omega, by omega⟩) (show -2147483648 ≤ (H.2.2.1 67 0 (x1091)) ∧ (H.2.2.1 67 0 (x1091)) ≤ 2147483647 from ⟨by omega, by omega⟩)) ?_
                  rintro v w H1150 ⟨rfl, hT1151, ehE1152, x1148, rfl, r1149⟩
                  have hE1152 := jEx.trans ehE1152 hE (by decide) (by decide)
                  have r1149' : 0 ≤ x1148 ∧ x1148 ≤ 1 := r1149
                  have k1153 : gP H1150 := gP.ex k0gP ehE1152 (by decide)
                  have k1154 : gX H1150 := gX.ex k0gX ehE1152 (by decide)
                  have k1155 : gL H1150 := gL.ex k0gL ehE1152 (by decide)
                  have k1156 : gZ H1150 := gZ.ex k0gZ ehE1152 (by decide)
                  have k1157 : gQ H1150 := gQ.ex k0gQ ehE1152 (by decide)
                  have k1158 : gB H1150 := gB.ex k0gB ehE1152 (by decide)
                  have k1159 : gK H1150 := gK.ex k0gK ehE1152 (by decide)
                  have k1160 : gN H1150 := gN.ex k0gN ehE1152 (by decide)
                  have k1161 : gW H1150 (H1150.1 11 19 0) := gWm.ex k0gW ehE1152 (by decide)
                  have k1162 : gU H1150 u := gU.ex k0gU ehE1152 (by decide)
                  have g1163 : H1150.1 11 12 0 = H.1 11 12 0 := ehE1152.v 12 (by decide)
                  have g1164 : H1150.1 11 19 0 = H.1 11 19 0 := ehE1152.v 19 (by decide)
                  have g1165 : H1150.2.2.1 73 0 (n) = H.2.2.1 73 0 (n) := congrFun (ehE1152.r 73 (by decide)) _
                  have g1166 : H1150.2.2.1 74 0 (n) = H.2.2.1 74 0 (n) := congrFun (ehE1152.r 74 (by decide)) _
                  have g1167 : H1150.2.2.1 115 0 (n) = H.2.2.1 115 0 (n) := congrFun (ehE1152.r 115 (by decide)) _
                  have g1168 : H1150.2.2.1 72 0 (n) = H.2.2.1 72 0 (n) := congrFun (ehE1152.r 72 (by decide)) _
                  have g1169 : H1150.2.2.1 79 0 (n) = H.2.2.1 79 0 (n) := congrFun (ehE1152.r 79 (by decide)) _
                  have g1170 : H1150.2.2.1 80 0 (n) = H.2.2.1 80 0 (n) := congrFun (ehE1152.r 80 (by decide)) _
                  have g1171 : H1150.2.2.1 56 0 (H0.2.2.1 72 0 (n)) = H.2.2.1 56 0 (H0.2.2.1 72 0 (n)) := congrFun (ehE1152.r 56 (by decide)) _
                  have g1172 : H1150.2.2.1 83 0 (n) = H.2.2.1 83 0 (n) := congrFun (ehE1152.r 83 (by decide)) _
                  have g1173 : H1150.2.2.1 67 0 (x1091) = H.2.2.1 67 0 (x1091) := congrFun (ehE1152.r 67 (by decide)) _
                  have g1174 : H1150.2.2.1 68 0 (x1091) = H.2.2.1 68 0 (x1091) := congrFun (ehE1152.r 68 (by decide)) _
                  have rL_isMost := r1149'
                  have eL_isMost := ehE1152
                  try dsimp only [Option.toList, List.append, List.cons_append, List.nil_append]
                  refine J.ifc rfl rfl rfl (show -2147483648 ≤ x1148 ∧ x1148 ≤ 2147483647 from ⟨by omega, by omega⟩) (fun hc => ?_) (fun hc => ?_)
                  · have c1175 : x1148 = (0 : Int) := hc
                    clear hc
                    refine J.run0 3 rfl ?_
                    try dsimp only
                    refine J.ifc rfl rfl rfl (show -2147483648 ≤ (0 : Int) ∧ (0 : Int) ≤ 2147483647 from ⟨by omega, by omega⟩) (fun hc => ?_) (fun hc => ?_)
                    · have c1176 : (0 : Int) = (0 : Int) := hc
                      clear hc
                      exact (g_isMoved_l2 (H0 := H0) (n := n) (u := u)  hp0 hp1 hp2 hp3 ((0 : Int).toNat + 1)) (H.2.2.1 73 0 (n)) (x1091) H1150 _ (show 0 < _ by omega) (show (H.2.2.1 73 0 (n)) = H0.2.2.1 73 0 (n) from by omega) (show -1 ≤ (x1091) ∧ (x1091) ≤ 5999 from ⟨by omega, by omega⟩) (show 0 ≤ (x1091) → 0 ≤ H1150.2.2.1 67 0 ((x1091)) from by omega) (show H1150.2.2.1 73 0 (n) = H0.2.2.1 73 0 (n) from by omega) (show H1150.2.2.1 74 0 (n) = H0.2.2.1 74 0 (n) from by omega) (show H1150.2.2.1 115 0 (n) = H0.2.2.1 115 0 (n) from by omega) (show H1150.2.2.1 72 0 (n) = H0.2.2.1 72 0 (n) from by omega) (show H1150.2.2.1 79 0 (n) = 0 from by omega) (show H1150.2.2.1 80 0 (n) = 0 from by omega) (show H1150.2.2.1 56 0 (H0.2.2.1 72 0 (n)) = H0.2.2.1 56 0 (H0.2.2.1 72 0 (n)) from by omega) (show H1150.2.2.1 83 0 (n) ≤ 3 * H0.2.2.1 73 0 (n) + H0.2.2.1 74 0 (n) + 1 from by omega) (show H0.1 11 19 0 ≤ H1150.1 11 19 0 from by omega) (show 0 ≤ H0.2.2.1 73 0 (n) ∧ H0.2.2.1 73 0 (n) ≤ 31 from ⟨by omega, by omega⟩) (show 0 ≤ H0.2.2.1 74 0 (n) ∧ H0.2.2.1 74 0 (n) ≤ 2 from ⟨by omega, by omega⟩) (show 0 ≤ H0.2.2.1 115 0 (n) ∧ H0.2.2.1 115 0 (n) ≤ 1 from ⟨by omega, by omega⟩) (show 0 ≤ H0.2.2.1 72 0 (n) ∧ H0.2.2.1 72 0 (n) ≤ 299 from ⟨by omega, by omega⟩) hT1151 hE1152 k1153 k1154 k1155 k1156 k1157 k1158 k1159 k1160 k1161 k1162 (Or.inr (Or.inl ⟨_, _, _, _, rfl⟩))
                    · have c1177 : ¬ ((0 : Int) = (0 : Int)) := hc
                      clear hc
                      exfalso
                      omega
                  · have c1178 : ¬ (x1148 = (0 : Int)) := hc
                    clear hc
                    refine J.run0 4 rfl ?_
                    try dsimp only
                    refine J.ifc rfl rfl rfl (show -2147483648 ≤ (1 : Int) ∧ (1 : Int) ≤ 2147483647 from ⟨by omega, by omega⟩) (fun hc => ?_) (fun hc => ?_)
                    · have c1179 : (1 : Int) = (0 : Int) := hc
                      clear hc
                      exfalso
                      omega
                    · have c1180 : ¬ ((1 : Int) = (0 : Int)) := hc
                      clear hc
                      refine J.run0 3 rfl ?_
                      try dsimp only
                      have f1181 : 1 ≤ H1150.1 11 12 0 ∧ H1150.1 11 12 0 ≤ 300 := hT1151.2.1 12
                      refine J.inv rfl rfl rfl rfl rfl rfl jDr rfl rfl rfl rfl rfl (g_isGood (n := n) (b := H.2.2.1 67 0 (x1091)) hT1151 k1153 k1154 k1155 k1156 (show 0 ≤ (n) ∧ (n) < 16 from ⟨by omega, by omega⟩) (show 0 ≤ (H.2.2.1 67 0 (x1091)) ∧ (H.2.2.1 67 0 (x1091)) < 300 from ⟨by omega, by omega⟩) (show (H.2.2.1 67 0 (x1091)) < H1150.1 11 12 0 from by omega)) ?_
                      rintro v w H1184 ⟨rfl, hT1185, ehE1186, k1187, k1188, k1189, k1190, x1182, rfl, r1183⟩
                      have hE1186 := jEx.trans ehE1186 hE1152 (by decide) (by decide)
                      have r1183' : 0 ≤ x1182 ∧ x1182 ≤ 1 ∧ (x1182 = 1 → H1184.2.2.1 55 0 ((H.2.2.1 67 0 (x1091))) = H1184.2.2.1 72 0 ((n))) := r1183
                      have k1191 : gQ H1184 := gQ.ex k1157 ehE1186 (by decide)
                      have k1192 : gB H1184 := gB.ex k1158 ehE1186 (by decide)
                      have k1193 : gK H1184 := gK.ex k1159 ehE1186 (by decide)
                      have k1194 : gN H1184 := gN.ex k1160 ehE1186 (by decide)
                      have k1195 : gW H1184 (H1184.1 11 19 0) := gWm.ex k1161 ehE1186 (by decide)
                      have k1196 : gU H1184 u := gU.ex k1162 ehE1186 (by decide)
                      have g1197 : H1184.1 11 12 0 = H1150.1 11 12 0 := ehE1186.v 12 (by decide)
                      have g1198 : H1184.1 11 19 0 = H1150.1 11 19 0 := ehE1186.v 19 (by decide)
                      have g1199 : H1184.2.2.1 73 0 (n) = H1150.2.2.1 73 0 (n) := congrFun (ehE1186.r 73 (by decide)) _
                      have g1200 : H1184.2.2.1 74 0 (n) = H1150.2.2.1 74 0 (n) := congrFun (ehE1186.r 74 (by decide)) _
                      have g1201 : H1184.2.2.1 115 0 (n) = H1150.2.2.1 115 0 (n) := congrFun (ehE1186.r 115 (by decide)) _
                      have g1202 : H1184.2.2.1 72 0 (n) = H1150.2.2.1 72 0 (n) := congrFun (ehE1186.r 72 (by decide)) _
                      have g1203 : H1184.2.2.1 79 0 (n) = H1150.2.2.1 79 0 (n) := congrFun (ehE1186.r 79 (by decide)) _
                      have g1204 : H1184.2.2.1 80 0 (n) = H1150.2.2.1 80 0 (n) := congrFun (ehE1186.r 80 (by decide)) _
                      have g1205 : H1184.2.2.1 56 0 (H0.2.2.1 72 0 (n)) = H1150.2.2.1 56 0 (H0.2.2.1 72 0 (n)) := congrFun (ehE1186.r 56 (by decide)) _
                      have g1206 : H1184.2.2.1 83 0 (n) = H1150.2.2.1 83 0 (n) := congrFun (ehE1186.r 83 (by decide)) _
                      have g1207 : H1184.2.2.1 67 0 (x1091) = H1150.2.2.1 67 0 (x1091) := congrFun (ehE1186.r 67 (by decide)) _
                      have g1208 : H1184.2.2.1 68 0 (x1091) = H1150.2.2.1 68 0 (x1091) := congrFun (ehE1186.r 68 (by decide)) _
                      have rL_isGood := r1183'
                      have eL_isGood := ehE1186
                      try dsimp only [Option.toList, List.append, List.cons_append, List.nil_append]
                      refine J.ifc rfl rfl rfl (show -2147483648 ≤ x1182 ∧ x1182 ≤ 2147483647 from ⟨by omega, by omega⟩) (fun hc => ?_) (fun hc => ?_)
                      · have c1209 : x1182 = (0 : Int) := hc
                        clear hc
                        refine J.run0 2 rfl ?_
                        try dsimp only
                        exact (g_isMoved_l3 (H0 := H0) (n := n) (u := u)  hp0 hp1 hp2 hp3 ((0 : Int).toNat + 1)) (H.2.2.1 73 0 (n)) (H.2.2.1 67 0 (x1091)) ((0 : Int)) H1184 _ (show 0 < _ by omega) (show (H.2.2.1 73 0 (n)) = H0.2.2.1 73 0 (n) from by omega) (show 0 ≤ (H.2.2.1 67 0 (x1091)) ∧ (H.2.2.1 67 0 (x1091)) < 300 from ⟨by omega, by omega⟩) (show (H.2.2.1 67 0 (x1091)) < H1184.1 11 12 0 from by omega) (show 0 ≤ ((0 : Int)) ∧ ((0 : Int)) ≤ 1 from ⟨by omega, by omega⟩) (show H0.2.2.1 74 0 (n) = 0 from by omega) (show H1184.2.2.1 73 0 (n) = H0.2.2.1 73 0 (n) from by omega) (show H1184.2.2.1 74 0 (n) = H0.2.2.1 74 0 (n) from by omega) (show H1184.2.2.1 115 0 (n) = H0.2.2.1 115 0 (n) from by omega) (show H1184.2.2.1 72 0 (n) = H0.2.2.1 72 0 (n) from by omega) (show H1184.2.2.1 79 0 (n) = 0 from by omega) (show H1184.2.2.1 80 0 (n) = 0 from by omega) (show H1184.2.2.1 56 0 (H0.2.2.1 72 0 (n)) = H0.2.2.1 56 0 (H0.2.2.1 72 0 (n)) from by omega) (show H1184.2.2.1 83 0 (n) ≤ 3 * H0.2.2.1 73 0 (n) + H0.2.2.1 74 0 (n) + 1 from by omega) (show H0.1 11 19 0 ≤ H1184.1 11 19 0 from by omega) (show 0 ≤ H0.2.2.1 73 0 (n) ∧ H0.2.2.1 73 0 (n) ≤ 31 from ⟨by omega, by omega⟩) (show 0 ≤ H0.2.2.1 74 0 (n) ∧ H0.2.2.1 74 0 (n) ≤ 2 from ⟨by omega, by omega⟩) (show 0 ≤ H0.2.2.1 115 0 (n) ∧ H0.2.2.1 115 0 (n) ≤ 1 from ⟨by omega, by omega⟩) (show 0 ≤ H0.2.2.1 72 0 (n) ∧ H0.2.2.1 72 0 (n) ≤ 299 from ⟨by omega, by omega⟩) hT1185 hE1186 k1187 k1188 k1189 k1190 k1191 k1192 k1193 k1194 k1195 k1196 ⟨_, _, _, _, rfl⟩
                      · have c1210 : ¬ (x1182 = (0 : Int)) := hc
                        clear hc
                        have f1211 : -1 ≤ H1184.2.2.1 75 0 (n) ∧ H1184.2.2.1 75 0 (n) ≤ 299 := hT1185.1 75 (n)
                        refine J.run 4 rfl (show 0 ≤ n ∧ n < 16 from ⟨by omega, by omega⟩) ?_
                        try dsimp only
                        refine J.ifc rfl rfl rfl (show -2147483648 ≤ H1184.2.2.1 75 0 (n) ∧ H1184.2.2.1 75 0 (n) ≤ 2147483647 from ⟨by omega, by omega⟩) (fun hc => ?_) (fun hc => ?_)
                        · have c1212 : H1184.2.2.1 75 0 (n) < (0 : Int) := hc
                          clear hc
                          refine J.run0 3 rfl ?_
                          try dsimp only
                          exact (g_isMoved_l3 (H0 := H0) (n := n) (u := u)  hp0 hp1 hp2 hp3 ((0 : Int).toNat + 1)) (H.2.2.1 73 0 (n)) (H.2.2.1 67 0 (x1091)) ((1 : Int)) H1184 _ (show 0 < _ by omega) (show (H.2.2.1 73 0 (n)) = H0.2.2.1 73 0 (n) from by omega) (show 0 ≤ (H.2.2.1 67 0 (x1091)) ∧ (H.2.2.1 67 0 (x1091)) < 300 from ⟨by omega, by omega⟩) (show (H.2.2.1 67 0 (x1091)) < H1184.1 11 12 0 from by omega) (show 0 ≤ ((1 : Int)) ∧ ((1 : Int)) ≤ 1 from ⟨by omega, by omega⟩) (show H0.2.2.1 74 0 (n) = 0 from by omega) (show H1184.2.2.1 73 0 (n) = H0.2.2.1 73 0 (n) from by omega) (show H1184.2.2.1 74 0 (n) = H0.2.2.1 74 0 (n) from by omega) (show H1184.2.2.1 115 0 (n) = H0.2.2.1 115 0 (n) from by omega) (show H1184.2.2.1 72 0 (n) = H0.2.2.1 72 0 (n) from by omega) (show H1184.2.2.1 79 0 (n) = 0 from by omega) (show H1184.2.2.1 80 0 (n) = 0 from by omega) (show H1184.2.2.1 56 0 (H0.2.2.1 72 0 (n)) = H0.2.2.1 56 0 (H0.2.2.1 72 0 (n)) from by omega) (show H1184.2.2.1 83 0 (n) ≤ 3 * H0.2.2.1 73 0 (n) + H0.2.2.1 74 0 (n) + 1 from by omega) (show H0.1 11 19 0 ≤ H1184.1 11 19 0 from by omega) (show 0 ≤ H0.2.2.1 73 0 (n) ∧ H0.2.2.1 73 0 (n) ≤ 31 from ⟨by omega, by omega⟩) (show 0 ≤ H0.2.2.1 74 0 (n) ∧ H0.2.2.1 74 0 (n) ≤ 2 from ⟨by omega, by omega⟩) (show 0 ≤ H0.2.2.1 115 0 (n) ∧ H0.2.2.1 115 0 (n) ≤ 1 from ⟨by omega, by omega⟩) (show 0 ≤ H0.2.2.1 72 0 (n) ∧ H0.2.2.1 72 0 (n) ≤ 299 from ⟨by omega, by omega⟩) hT1185 hE1186 k1187 k1188 k1189 k1190 k1191 k1192 k1193 k1194 k1195 k1196 ⟨_, _, _, _, rfl⟩
                        · have c1213 : ¬ (H1184.2.2.1 75 0 (n) < (0 : Int)) := hc
                          clear hc
                          refine J.run 5 rfl (show 0 ≤ n ∧ n < 16 from ⟨by omega, by omega⟩) ?_
                          try dsimp only
                          refine J.icmp rfl rfl rfl ⟨(show -2147483648 ≤ H1184.2.2.1 75 0 (n) ∧ H1184.2.2.1 75 0 (n) ≤ 2147483647 from ⟨by omega, by omega⟩), (show -2147483648 ≤ H.2.2.1 67 0 (x1091) ∧ H.2.2.1 67 0 (x1091) ≤ 2147483647 from ⟨by omega, by omega⟩)⟩ (fun hc => ?_) (fun hc => ?_)
                          · have c1214 : H1184.2.2.1 75 0 (n) = H.2.2.1 67 0 (x1091) := hc
                            clear hc
                            refine J.run0 3 rfl ?_
                            try dsimp only
                            exact (g_isMoved_l3 (H0 := H0) (n := n) (u := u)  hp0 hp1 hp2 hp3 ((0 : Int).toNat + 1)) (H.2.2.1 73 0 (n)) (H.2.2.1 67 0 (x1091)) ((1 : Int)) H1184 _ (show 0 < _ by omega) (show (H.2.2.1 73 0 (n)) = H0.2.2.1 73 0 (n) from by omega) (show 0 ≤ (H.2.2.1 67 0 (x1091)) ∧ (H.2.2.1 67 0 (x1091)) < 300 from ⟨by omega, by omega⟩) (show (H.2.2.1 67 0 (x1091)) < H1184.1 11 12 0 from by omega) (show 0 ≤ ((1 : Int)) ∧ ((1 : Int)) ≤ 1 from ⟨by omega, by omega⟩) (show H0.2.2.1 74 0 (n) = 0 from by omega) (show H1184.2.2.1 73 0 (n) = H0.2.2.1 73 0 (n) from by omega) (show H1184.2.2.1 74 0 (n) = H0.2.2.1 74 0 (n) from by omega) (show H1184.2.2.1 115 0 (n) = H0.2.2.1 115 0 (n) from by omega) (show H1184.2.2.1 72 0 (n) = H0.2.2.1 72 0 (n) from by omega) (show H1184.2.2.1 79 0 (n) = 0 from by omega) (show H1184.2.2.1 80 0 (n) = 0 from by omega) (show H1184.2.2.1 56 0 (H0.2.2.1 72 0 (n)) = H0.2.2.1 56 0 (H0.2.2.1 72 0 (n)) from by omega) (show H1184.2.2.1 83 0 (n) ≤ 3 * H0.2.2.1 73 0 (n) + H0.2.2.1 74 0 (n) + 1 from by omega) (show H0.1 11 19 0 ≤ H1184.1 11 19 0 from by omega) (show 0 ≤ H0.2.2.1 73 0 (n) ∧ H0.2.2.1 73 0 (n) ≤ 31 from ⟨by omega, by omega⟩) (show 0 ≤ H0.2.2.1 74 0 (n) ∧ H0.2.2.1 74 0 (n) ≤ 2 from ⟨by omega, by omega⟩) (show 0 ≤ H0.2.2.1 115 0 (n) ∧ H0.2.2.1 115 0 (n) ≤ 1 from ⟨by omega, by omega⟩) (show 0 ≤ H0.2.2.1 72 0 (n) ∧ H0.2.2.1 72 0 (n) ≤ 299 from ⟨by omega, by omega⟩) hT1185 hE1186 k1187 k1188 k1189 k1190 k1191 k1192 k1193 k1194 k1195 k1196 ⟨_, _, _, _, rfl⟩
                          · have c1215 : ¬ (H1184.2.2.1 75 0 (n) = H.2.2.1 67 0 (x1091)) := hc
                            clear hc
                            refine J.run0 1 rfl ?_
                            try dsimp only
                            refine J.ifc rfl rfl rfl (show -2147483648 ≤ H.2.2.1 68 0 (x1091) ∧ H.2.2.1 68 0 (x1091) ≤ 2147483647 from ⟨by omega, by omega⟩) (fun hc => ?_) (fun hc => ?_)
                            · have c1216 : H.2.2.1 68 0 (x1091) < (0 : Int) := hc
                              clear hc
                              refine J.run0 2 rfl ?_
                              try dsimp only
                              exact (g_isMoved_l3 (H0 := H0) (n := n) (u := u)  hp0 hp1 hp2 hp3 ((0 : Int).toNat + 1)) (H.2.2.1 73 0 (n)) (H.2.2.1 67 0 (x1091)) ((0 : Int)) H1184 _ (show 0 < _ by omega) (show (H.2.2.1 73 0 (n)) = H0.2.2.1 73 0 (n) from by omega) (show 0 ≤ (H.2.2.1 67 0 (x1091)) ∧ (H.2.2.1 67 0 (x1091)) < 300 from ⟨by omega, by omega⟩) (show (H.2.2.1 67 0 (x1091)) < H1184.1 11 12 0 from by omega) (show 0 ≤ ((0 : Int)) ∧ ((0 : Int)) ≤ 1 from ⟨by omega, by omega⟩) (show H0.2.2.1 74 0 (n) = 0 from by omega) (show H1184.2.2.1 73 0 (n) = H0.2.2.1 73 0 (n) from by omega) (show H1184.2.2.1 74 0 (n) = H0.2.2.1 74 0 (n) from by omega) (show H1184.2.2.1 115 0 (n) = H0.2.2.1 115 0 (n) from by omega) (show H1184.2.2.1 72 0 (n) = H0.2.2.1 72 0 (n) from by omega) (show H1184.2.2.1 79 0 (n) = 0 from by omega) (show H1184.2.2.1 80 0 (n) = 0 from by omega) (show H1184.2.2.1 56 0 (H0.2.2.1 72 0 (n)) = H0.2.2.1 56 0 (H0.2.2.1 72 0 (n)) from by omega) (show H1184.2.2.1 83 0 (n) ≤ 3 * H0.2.2.1 73 0 (n) + H0.2.2.1 74 0 (n) + 1 from by omega) (show H0.1 11 19 0 ≤ H1184.1 11 19 0 from by omega) (show 0 ≤ H0.2.2.1 73 0 (n) ∧ H0.2.2.1 73 0 (n) ≤ 31 from ⟨by omega, by omega⟩) (show 0 ≤ H0.2.2.1 74 0 (n) ∧ H0.2.2.1 74 0 (n) ≤ 2 from ⟨by omega, by omega⟩) (show 0 ≤ H0.2.2.1 115 0 (n) ∧ H0.2.2.1 115 0 (n) ≤ 1 from ⟨by omega, by omega⟩) (show 0 ≤ H0.2.2.1 72 0 (n) ∧ H0.2.2.1 72 0 (n) ≤ 299 from ⟨by omega, by omega⟩) hT1185 hE1186 k1187 k1188 k1189 k1190 k1191 k1192 k1193 k1194 k1195 k1196 ⟨_, _, _, _, rfl⟩
                            · have c1217 : ¬ (H.2.2.1 68 0 (x1091) < (0 : Int)) := hc
                              clear hc
                              have f1218 : -1 ≤ H1184.2.2.1 76 0 (n) ∧ H1184.2.2.1 76 0 (n) ≤ 31 := hT1185.1 76 (n)
                              refine J.run 5 rfl (show 0 ≤ n ∧ n < 16 from ⟨by omega, by omega⟩) ?_
                              try dsimp only
                              refine J.icmp rfl rfl rfl ⟨(show -2147483648 ≤ H1184.2.2.1 76 0 (n) ∧ H1184.2.2.1 76 0 (n) ≤ 2147483647 from ⟨by omega, by omega⟩), (show -2147483648 ≤ H.2.2.1 68 0 (x1091) ∧ H.2.2.1 68 0 (x1091) ≤ 2147483647 from ⟨by omega, by omega⟩)⟩ (fun hc => ?_) (fun hc => ?_)
                              · have c1219 : H.2.2.1 68 0 (x1091) < H1184.2.2.1 76 0 (n) := hc
                                clear hc
                                refine J.run0 2 rfl ?_
                                try dsimp only
                                exact (g_isMoved_l3 (H0 := H0) (n := n) (u := u)  hp0 hp1 hp2 hp3 ((0 : Int).toNat + 1)) (H.2.2.1 73 0 (n)) (H.2.2.1 67 0 (x1091)) ((0 : Int)) H1184 _ (show 0 < _ by omega) (show (H.2.2.1 73 0 (n)) = H0.2.2.1 73 0 (n) from by omega) (show 0 ≤ (H.2.2.1 67 0 (x1091)) ∧ (H.2.2.1 67 0 (x1091)) < 300 from ⟨by omega, by omega⟩) (show (H.2.2.1 67 0 (x1091)) < H1184.1 11 12 0 from by omega) (show 0 ≤ ((0 : Int)) ∧ ((0 : Int)) ≤ 1 from ⟨by omega, by omega⟩) (show H0.2.2.1 74 0 (n) = 0 from by omega) (show H1184.2.2.1 73 0 (n) = H0.2.2.1 73 0 (n) from by omega) (show H1184.2.2.1 74 0 (n) = H0.2.2.1 74 0 (n) from by omega) (show H1184.2.2.1 115 0 (n) = H0.2.2.1 115 0 (n) from by omega) (show H1184.2.2.1 72 0 (n) = H0.2.2.1 72 0 (n) from by omega) (show H1184.2.2.1 79 0 (n) = 0 from by omega) (show H1184.2.2.1 80 0 (n) = 0 from by omega) (show H1184.2.2.1 56 0 (H0.2.2.1 72 0 (n)) = H0.2.2.1 56 0 (H0.2.2.1 72 0 (n)) from by omega) (show H1184.2.2.1 83 0 (n) ≤ 3 * H0.2.2.1 73 0 (n) + H0.2.2.1 74 0 (n) + 1 from by omega) (show H0.1 11 19 0 ≤ H1184.1 11 19 0 from by omega) (show 0 ≤ H0.2.2.1 73 0 (n) ∧ H0.2.2.1 73 0 (n) ≤ 31 from ⟨by omega, by omega⟩) (show 0 ≤ H0.2.2.1 74 0 (n) ∧ H0.2.2.1 74 0 (n) ≤ 2 from ⟨by omega, by omega⟩) (show 0 ≤ H0.2.2.1 115 0 (n) ∧ H0.2.2.1 115 0 (n) ≤ 1 from ⟨by omega, by omega⟩) (show 0 ≤ H0.2.2.1 72 0 (n) ∧ H0.2.2.1 72 0 (n) ≤ 299 from ⟨by omega, by omega⟩) hT1185 hE1186 k1187 k1188 k1189 k1190 k1191 k1192 k1193 k1194 k1195 k1196 ⟨_, _, _, _, rfl⟩
                              · have c1220 : ¬ (H.2.2.1 68 0 (x1091) < H1184.2.2.1 76 0 (n)) := hc
                                clear hc
                                refine J.run0 3 rfl ?_
                                try dsimp only
                                exact (g_isMoved_l3 (H0 := H0) (n := n) (u := u)  hp0 hp1 hp2 hp3 ((0 : Int).toNat + 1)) (H.2.2.1 73 0 (n)) (H.2.2.1 67 0 (x1091)) ((1 : Int)) H1184 _ (show 0 < _ by omega) (show (H.2.2.1 73 0 (n)) = H0.2.2.1 73 0 (n) from by omega) (show 0 ≤ (H.2.2.1 67 0 (x1091)) ∧ (H.2.2.1 67 0 (x1091)) < 300 from ⟨by omega, by omega⟩) (show (H.2.2.1 67 0 (x1091)) < H1184.1 11 12 0 from by omega) (show 0 ≤ ((1 : Int)) ∧ ((1 : Int)) ≤ 1 from ⟨by omega, by omega⟩) (show H0.2.2.1 74 0 (n) = 0 from by omega) (show H1184.2.2.1 73 0 (n) = H0.2.2.1 73 0 (n) from by omega) (show H1184.2.2.1 74 0 (n) = H0.2.2.1 74 0 (n) from by omega) (show H1184.2.2.1 115 0 (n) = H0.2.2.1 115 0 (n) from by omega) (show H1184.2.2.1 72 0 (n) = H0.2.2.1 72 0 (n) from by omega) (show H1184.2.2.1 79 0 (n) = 0 from by omega) (show H1184.2.2.1 80 0 (n) = 0 from by omega) (show H1184.2.2.1 56 0 (H0.2.2.1 72 0 (n)) = H0.2.2.1 56 0 (H0.2.2.1 72 0 (n)) from by omega) (show H1184.2.2.1 83 0 (n) ≤ 3 * H0.2.2.1 73 0 (n) + H0.2.2.1 74 0 (n) + 1 from by omega) (show H0.1 11 19 0 ≤ H1184.1 11 19 0 from by omega) (show 0 ≤ H0.2.2.1 73 0 (n) ∧ H0.2.2.1 73 0 (n) ≤ 31 from ⟨by omega, by omega⟩) (show 0 ≤ H0.2.2.1 74 0 (n) ∧ H0.2.2.1 74 0 (n) ≤ 2 from ⟨by omega, by omega⟩) (show 0 ≤ H0.2.2.1 115 0 (n) ∧ H0.2.2.1 115 0 (n) ≤ 1 from ⟨by omega, by omega⟩) (show 0 ≤ H0.2.2.1 72 0 (n) ∧ H0.2.2.1 72 0 (n) ≤ 299 from ⟨by omega, by omega⟩) hT1185 hE1186 k1187 k1188 k1189 k1190 k1191 k1192 k1193 k1194 k1195 k1196 ⟨_, _, _, _, rfl⟩
        · have c1221 : ¬ (q ≤ H.2.2.1 73 0 (n)) := hc
          clear hc
          refine J.run0 1 rfl ?_
          try dsimp only
          refine J.inv rfl rfl rfl rfl rfl rfl jDr rfl rfl rfl rfl rfl (g_clear  hT  ) ?_
          rintro v w H1224 ⟨rfl, hT1225, ehE1226, rfl⟩
          have hE1226 := jEx.trans ehE1226 hE (by decide) (by decide)
          have k1227 : gP H1224 := gP.ex k0gP ehE1226 (by decide)
          have k1228 : gX H1224 := gX.ex k0gX ehE1226 (by decide)
          have k1229 : gL H1224 := gL.ex k0gL ehE1226 (by decide)
          have k1230 : gZ H1224 := gZ.ex k0gZ ehE1226 (by decide)
          have k1231 : gQ H1224 := gQ.ex k0gQ ehE1226 (by decide)
          have k1232 : gB H1224 := gB.ex k0gB ehE1226 (by decide)
          have k1233 : gK H1224 := gK.ex k0gK ehE1226 (by decide)
          have k1234 : gN H1224 := gN.ex k0gN ehE1226 (by decide)
          have k1235 : gW H1224 (H1224.1 11 19 0) := gWm.ex k0gW ehE1226 (by decide)
          have k1236 : gU H1224 u := gU.ex k0gU ehE1226 (by decide)
          have g1237 : H1224.1 11 12 0 = H.1 11 12 0 := ehE1226.v 12 (by decide)
          have g1238 : H1224.1 11 19 0 = H.1 11 19 0 := ehE1226.v 19 (by decide)
          have g1239 : H1224.2.2.1 73 0 (n) = H.2.2.1 73 0 (n) := congrFun (ehE1226.r 73 (by decide)) _
          have g1240 : H1224.2.2.1 74 0 (n) = H.2.2.1 74 0 (n) := congrFun (ehE1226.r 74 (by decide)) _
          have g1241 : H1224.2.2.1 115 0 (n) = H.2.2.1 115 0 (n) := congrFun (ehE1226.r 115 (by decide)) _
          have g1242 : H1224.2.2.1 72 0 (n) = H.2.2.1 72 0 (n) := congrFun (ehE1226.r 72 (by decide)) _
          have g1243 : H1224.2.2.1 79 0 (n) = H.2.2.1 79 0 (n) := congrFun (ehE1226.r 79 (by decide)) _
          have g1244 : H1224.2.2.1 80 0 (n) = H.2.2.1 80 0 (n) := congrFun (ehE1226.r 80 (by decide)) _
          have g1245 : H1224.2.2.1 56 0 (H0.2.2.1 72 0 (n)) = H.2.2.1 56 0 (H0.2.2.1 72 0 (n)) := congrFun (ehE1226.r 56 (by decide)) _
          have g1246 : H1224.2.2.1 83 0 (n) = H.2.2.1 83 0 (n) := congrFun (ehE1226.r 83 (by decide)) _
          have eL_clear := ehE1226
          try dsimp only [Option.toList, List.append, List.cons_append, List.nil_append]
          refine J.run0 2 rfl ?_
          try dsimp only
          exact ih.2 (most) (q) ((0 : Int)) H1224 _ (show 10000 * ((q) + 1) - 1 - ((0 : Int)) < _ by omega) (show H0.2.2.1 73 0 (n) < (q) ∧ (q) ≤ 31 from ⟨by omega, by omega⟩) (show 0 ≤ ((0 : Int)) ∧ ((0 : Int)) ≤ 6000 from ⟨by omega, by omega⟩) (show H1224.2.2.1 73 0 (n) = H0.2.2.1 73 0 (n) from by omega) (show H1224.2.2.1 74 0 (n) = H0.2.2.1 74 0 (n) from by omega) (show H1224.2.2.1 115 0 (n) = H0.2.2.1 115 0 (n) from by omega) (show H1224.2.2.1 72 0 (n) = H0.2.2.1 72 0 (n) from by omega) (show H1224.2.2.1 79 0 (n) = 0 from by omega) (show H1224.2.2.1 80 0 (n) = 0 from by omega) (show H1224.2.2.1 56 0 (H0.2.2.1 72 0 (n)) = H0.2.2.1 56 0 (H0.2.2.1 72 0 (n)) from by omega) (show H1224.2.2.1 83 0 (n) ≤ 3 * H0.2.2.1 73 0 (n) + H0.2.2.1 74 0 (n) + 1 from by omega) (show H0.1 11 19 0 ≤ H1224.1 11 19 0 from by omega) (show 0 ≤ H0.2.2.1 73 0 (n) ∧ H0.2.2.1 73 0 (n) ≤ 31 from ⟨by omega, by omega⟩) (show 0 ≤ H0.2.2.1 74 0 (n) ∧ H0.2.2.1 74 0 (n) ≤ 2 from ⟨by omega, by omega⟩) (show 0 ≤ H0.2.2.1 115 0 (n) ∧ H0.2.2.1 115 0 (n) ≤ 1 from ⟨by omega, by omega⟩) (show 0 ≤ H0.2.2.1 72 0 (n) ∧ H0.2.2.1 72 0 (n) ≤ 299 from ⟨by omega, by omega⟩) hT1225 hE1226 k1227 k1228 k1229 k1230 k1231 k1232 k1233 k1234 k1235 k1236 (Or.inl rfl)
      · skip
        have f1247 : 0 ≤ H.2.2.1 73 0 (n) ∧ H.2.2.1 73 0 (n) ≤ 31 := hT.1 73 (n)
        refine J.run 5 rfl (show 0 ≤ n ∧ n < 16 from ⟨by omega, by omega⟩) ?_
        try dsimp only
        refine J.icmp rfl rfl rfl ⟨(show -2147483648 ≤ q ∧ q ≤ 2147483647 from ⟨by omega, by omega⟩), (show -2147483648 ≤ H.2.2.1 73 0 (n) ∧ H.2.2.1 73 0 (n) ≤ 2147483647 from ⟨by omega, by omega⟩)⟩ (fun hc => ?_) (fun hc => ?_)
        · have c1248 : q ≤ H.2.2.1 73 0 (n) := hc
          clear hc
          refine J.run 8 rfl (show 0 ≤ n ∧ n < 16 from ⟨by omega, by omega⟩) ?_
          try dsimp only
          refine J.inv rfl rfl rfl rfl rfl rfl jDr rfl rfl rfl rfl rfl (g_proposal (n := n) (r := H.2.2.1 73 0 (n)) hT k0gQ (show 0 ≤ (n) ∧ (n) < 16 from ⟨by omega, by omega⟩) (show 0 ≤ (H.2.2.1 73 0 (n)) ∧ (H.2.2.1 73 0 (n)) < 32 from ⟨by omega, by omega⟩)) ?_
          rintro v w H ⟨rfl, rfl, x1249, rfl, r1250⟩
          have r1250' : -1 ≤ x1249 ∧ x1249 ≤ 5999 ∧ (0 ≤ x1249 → 0 ≤ H.2.2.1 67 0 (x1249)) := r1250
          have rL_proposal := r1250'
          try dsimp only [Option.toList, List.append, List.cons_append, List.nil_append]
          have f1251 : 0 ≤ H.2.2.1 74 0 (n) ∧ H.2.2.1 74 0 (n) ≤ 2 := hT.1 74 (n)
          refine J.run 5 rfl (show 0 ≤ n ∧ n < 16 from ⟨by omega, by omega⟩) ?_
          try dsimp only
          refine J.ifc rfl rfl rfl (show -2147483648 ≤ H.2.2.1 74 0 (n) ∧ H.2.2.1 74 0 (n) ≤ 2147483647 from ⟨by omega, by omega⟩) (fun hc => ?_) (fun hc => ?_)
          · have c1252 : ¬ (H.2.2.1 74 0 (n) = (0 : Int)) := hc
            clear hc
            exact (g_isMoved_l2 (H0 := H0) (n := n) (u := u)  hp0 hp1 hp2 hp3 ((0 : Int).toNat + 1)) (H.2.2.1 73 0 (n)) (x1249) H _ (show 0 < _ by omega) (show (H.2.2.1 73 0 (n)) = H0.2.2.1 73 0 (n) from by omega) (show -1 ≤ (x1249) ∧ (x1249) ≤ 5999 from ⟨by omega, by omega⟩) (show 0 ≤ (x1249) → 0 ≤ H.2.2.1 67 0 ((x1249)) from by omega) (show H.2.2.1 73 0 (n) = H0.2.2.1 73 0 (n) from by omega) (show H.2.2.1 74 0 (n) = H0.2.2.1 74 0 (n) from by omega) (show H.2.2.1 115 0 (n) = H0.2.2.1 115 0 (n) from by omega) (show H.2.2.1 72 0 (n) = H0.2.2.1 72 0 (n) from by omega) (show H.2.2.1 79 0 (n) = 0 from by omega) (show H.2.2.1 80 0 (n) = 0 from by omega) (show H.2.2.1 56 0 (H0.2.2.1 72 0 (n)) = H0.2.2.1 56 0 (H0.2.2.1 72 0 (n)) from by omega) (show H.2.2.1 83 0 (n) ≤ 3 * H0.2.2.1 73 0 (n) + H0.2.2.1 74 0 (n) + 1 from by omega) (show H0.1 11 19 0 ≤ H.1 11 19 0 from by omega) (show 0 ≤ H0.2.2.1 73 0 (n) ∧ H0.2.2.1 73 0 (n) ≤ 31 from ⟨by omega, by omega⟩) (show 0 ≤ H0.2.2.1 74 0 (n) ∧ H0.2.2.1 74 0 (n) ≤ 2 from ⟨by omega, by omega⟩) (show 0 ≤ H0.2.2.1 115 0 (n) ∧ H0.2.2.1 115 0 (n) ≤ 1 from ⟨by omega, by omega⟩) (show 0 ≤ H0.2.2.1 72 0 (n) ∧ H0.2.2.1 72 0 (n) ≤ 299 from ⟨by omega, by omega⟩) hT hE k0gP k0gX k0gL k0gZ k0gQ k0gB k0gK k0gN k0gW k0gU (Or.inl ⟨_, rfl⟩)
          · have c1253 : ¬ (¬ (H.2.2.1 74 0 (n) = (0 : Int))) := hc
            clear hc
            refine J.run0 1 rfl ?_
            try dsimp only
            refine J.ifc rfl rfl rfl (show -2147483648 ≤ x1249 ∧ x1249 ≤ 2147483647 from ⟨by omega, by omega⟩) (fun hc => ?_) (fun hc => ?_)
            · have c1254 : x1249 < (0 : Int) := hc
              clear hc
              exact (g_isMoved_l2 (H0 := H0) (n := n) (u := u)  hp0 hp1 hp2 hp3 ((0 : Int).toNat + 1)) (H.2.2.1 73 0 (n)) (x1249) H _ (show 0 < _ by omega) (show (H.2.2.1 73 0 (n)) = H0.2.2.1 73 0 (n) from by omega) (show -1 ≤ (x1249) ∧ (x1249) ≤ 5999 from ⟨by omega, by omega⟩) (show 0 ≤ (x1249) → 0 ≤ H.2.2.1 67 0 ((x1249)) from by omega) (show H.2.2.1 73 0 (n) = H0.2.2.1 73 0 (n) from by omega) (show H.2.2.1 74 0 (n) = H0.2.2.1 74 0 (n) from by omega) (show H.2.2.1 115 0 (n) = H0.2.2.1 115 0 (n) from by omega) (show H.2.2.1 72 0 (n) = H0.2.2.1 72 0 (n) from by omega) (show H.2.2.1 79 0 (n) = 0 from by omega) (show H.2.2.1 80 0 (n) = 0 from by omega) (show H.2.2.1 56 0 (H0.2.2.1 72 0 (n)) = H0.2.2.1 56 0 (H0.2.2.1 72 0 (n)) from by omega) (show H.2.2.1 83 0 (n) ≤ 3 * H0.2.2.1 73 0 (n) + H0.2.2.1 74 0 (n) + 1 from by omega) (show H0.1 11 19 0 ≤ H.1 11 19 0 from by omega) (show 0 ≤ H0.2.2.1 73 0 (n) ∧ H0.2.2.1 73 0 (n) ≤ 31 from ⟨by omega, by omega⟩) (show 0 ≤ H0.2.2.1 74 0 (n) ∧ H0.2.2.1 74 0 (n) ≤ 2 from ⟨by omega, by omega⟩) (show 0 ≤ H0.2.2.1 115 0 (n) ∧ H0.2.2.1 115 0 (n) ≤ 1 from ⟨by omega, by omega⟩) (show 0 ≤ H0.2.2.1 72 0 (n) ∧ H0.2.2.1 72 0 (n) ≤ 299 from ⟨by omega, by omega⟩) hT hE k0gP k0gX k0gL k0gZ k0gQ k0gB k0gK k0gN k0gW k0gU (Or.inl ⟨_, rfl⟩)
            · have c1255 : ¬ (x1249 < (0 : Int)) := hc
              clear hc
              have f1256 : -1 ≤ H.2.2.1 67 0 (x1249) ∧ H.2.2.1 67 0 (x1249) ≤ 299 := hT.1 67 (x1249)
              have f1257 : 1 ≤ H.1 11 12 0 ∧ H.1 11 12 0 ≤ 300 := hT.2.1 12
              have f1256b : H.2.2.1 67 0 (x1249) < H.1 11 12 0 := hT.2.2.1 67 (x1249) rfl
              have f1258 : -1 ≤ H.2.2.1 68 0 (x1249) ∧ H.2.2.1 68 0 (x1249) ≤ 31 := hT.1 68 (x1249)
              refine J.run 11 rfl ⟨(show 0 ≤ x1249 ∧ x1249 < 6000 from ⟨by omega, by omega⟩), (show 0 ≤ x1249 ∧ x1249 < 6000 from ⟨by omega, by omega⟩)⟩ ?_
              try dsimp only
              refine J.ifc rfl rfl rfl (show -2147483648 ≤ H.2.2.1 68 0 (x1249) ∧ H.2.2.1 68 0 (x1249) ≤ 2147483647 from ⟨by omega, by omega⟩) (fun hc => ?_) (fun hc => ?_)
              · have c1259 : H.2.2.1 68 0 (x1249) < (0 : Int) := hc
                clear hc
                refine J.run0 4 rfl ?_
                try dsimp only
                refine J.ifc rfl rfl rfl (show -2147483648 ≤ (1 : Int) ∧ (1 : Int) ≤ 2147483647 from ⟨by omega, by omega⟩) (fun hc => ?_) (fun hc => ?_)
                · have c1260 : (1 : Int) = (0 : Int) := hc
                  clear hc
                  exfalso
                  omega
                · have c1261 : ¬ ((1 : Int) = (0 : Int)) := hc
                  clear hc
                  refine J.run0 3 rfl ?_
                  try dsimp only
                  refine J.inv rfl rfl rfl rfl rfl rfl jDr rfl rfl rfl rfl rfl (g_isGood (n := n) (b := H.2.2.1 67 0 (x1249)) hT k0gP k0gX k0gL k0gZ (show 0 ≤ (n) ∧ (n) < 16 from ⟨by omega, by omega⟩) (show 0 ≤ (H.2.2.1 67 0 (x1249)) ∧ (H.2.2.1 67 0 (x1249)) < 300 from ⟨by omega, by omega⟩) (show (H.2.2.1 67 0 (x1249)) < H.1 11 12 0 from by omega)) ?_
                  rintro v w H1264 ⟨rfl, hT1265, ehE1266, k1267, k1268, k1269, k1270, x1262, rfl, r1263⟩
                  have hE1266 := jEx.trans ehE1266 hE (by decide) (by decide)
                  have r1263' : 0 ≤ x1262 ∧ x1262 ≤ 1 ∧ (x1262 = 1 → H1264.2.2.1 55 0 ((H.2.2.1 67 0 (x1249))) = H1264.2.2.1 72 0 ((n))) := r1263
                  have k1271 : gQ H1264 := gQ.ex k0gQ ehE1266 (by decide)
                  have k1272 : gB H1264 := gB.ex k0gB ehE1266 (by decide)
                  have k1273 : gK H1264 := gK.ex k0gK ehE1266 (by decide)
                  have k1274 : gN H1264 := gN.ex k0gN ehE1266 (by decide)
                  have k1275 : gW H1264 (H1264.1 11 19 0) := gWm.ex k0gW ehE1266 (by decide)
                  have k1276 : gU H1264 u := gU.ex k0gU ehE1266 (by decide)
                  have g1277 : H1264.1 11 12 0 = H.1 11 12 0 := ehE1266.v 12 (by decide)
                  have g1278 : H1264.1 11 19 0 = H.1 11 19 0 := ehE1266.v 19 (by decide)
                  have g1279 : H1264.2.2.1 73 0 (n) = H.2.2.1 73 0 (n) := congrFun (ehE1266.r 73 (by decide)) _
                  have g1280 : H1264.2.2.1 74 0 (n) = H.2.2.1 74 0 (n) := congrFun (ehE1266.r 74 (by decide)) _
                  have g1281 : H1264.2.2.1 115 0 (n) = H.2.2.1 115 0 (n) := congrFun (ehE1266.r 115 (by decide)) _
                  have g1282 : H1264.2.2.1 72 0 (n) = H.2.2.1 72 0 (n) := congrFun (ehE1266.r 72 (by decide)) _
                  have g1283 : H1264.2.2.1 79 0 (n) = H.2.2.1 79 0 (n) := congrFun (ehE1266.r 79 (by decide)) _
                  have g1284 : H1264.2.2.1 80 0 (n) = H.2.2.1 80 0 (n) := congrFun (ehE1266.r 80 (by decide)) _
                  have g1285 : H1264.2.2.1 56 0 (H0.2.2.1 72 0 (n)) = H.2.2.1 56 0 (H0.2.2.1 72 0 (n)) := congrFun (ehE1266.r 56 (by decide)) _
                  have g1286 : H1264.2.2.1 83 0 (n) = H.2.2.1 83 0 (n) := congrFun (ehE1266.r 83 (by decide)) _
                  have g1287 : H1264.2.2.1 67 0 (x1249) = H.2.2.1 67 0 (x1249) := congrFun (ehE1266.r 67 (by decide)) _
                  have g1288 : H1264.2.2.1 68 0 (x1249) = H.2.2.1 68 0 (x1249) := congrFun (ehE1266.r 68 (by decide)) _
                  have rL_isGood := r1263'
                  have eL_isGood := ehE1266
                  try dsimp only [Option.toList, List.append, List.cons_append, List.nil_append]
                  refine J.ifc rfl rfl rfl (show -2147483648 ≤ x1262 ∧ x1262 ≤ 2147483647 from ⟨by omega, by omega⟩) (fun hc => ?_) (fun hc => ?_)
                  · have c1289 : x1262 = (0 : Int) := hc
                    clear hc
                    refine J.run0 2 rfl ?_
                    try dsimp only
                    exact (g_isMoved_l3 (H0 := H0) (n := n) (u := u)  hp0 hp1 hp2 hp3 ((0 : Int).toNat + 1)) (H.2.2.1 73 0 (n)) (H.2.2.1 67 0 (x1249)) ((0 : Int)) H1264 _ (show 0 < _ by omega) (show (H.2.2.1 73 0 (n)) = H0.2.2.1 73 0 (n) from by omega) (show 0 ≤ (H.2.2.1 67 0 (x1249)) ∧ (H.2.2.1 67 0 (x1249)) < 300 from ⟨by omega, by omega⟩) (show (H.2.2.1 67 0 (x1249)) < H1264.1 11 12 0 from by omega) (show 0 ≤ ((0 : Int)) ∧ ((0 : Int)) ≤ 1 from ⟨by omega, by omega⟩) (show H0.2.2.1 74 0 (n) = 0 from by omega) (show H1264.2.2.1 73 0 (n) = H0.2.2.1 73 0 (n) from by omega) (show H1264.2.2.1 74 0 (n) = H0.2.2.1 74 0 (n) from by omega) (show H1264.2.2.1 115 0 (n) = H0.2.2.1 115 0 (n) from by omega) (show H1264.2.2.1 72 0 (n) = H0.2.2.1 72 0 (n) from by omega) (show H1264.2.2.1 79 0 (n) = 0 from by omega) (show H1264.2.2.1 80 0 (n) = 0 from by omega) (show H1264.2.2.1 56 0 (H0.2.2.1 72 0 (n)) = H0.2.2.1 56 0 (H0.2.2.1 72 0 (n)) from by omega) (show H1264.2.2.1 83 0 (n) ≤ 3 * H0.2.2.1 73 0 (n) + H0.2.2.1 74 0 (n) + 1 from by omega) (show H0.1 11 19 0 ≤ H1264.1 11 19 0 from by omega) (show 0 ≤ H0.2.2.1 73 0 (n) ∧ H0.2.2.1 73 0 (n) ≤ 31 from ⟨by omega, by omega⟩) (show 0 ≤ H0.2.2.1 74 0 (n) ∧ H0.2.2.1 74 0 (n) ≤ 2 from ⟨by omega, by omega⟩) (show 0 ≤ H0.2.2.1 115 0 (n) ∧ H0.2.2.1 115 0 (n) ≤ 1 from ⟨by omega, by omega⟩) (show 0 ≤ H0.2.2.1 72 0 (n) ∧ H0.2.2.1 72 0 (n) ≤ 299 from ⟨by omega, by omega⟩) hT1265 hE1266 k1267 k1268 k1269 k1270 k1271 k1272 k1273 k1274 k1275 k1276 ⟨_, _, _, _, rfl⟩
                  · have c1290 : ¬ (x1262 = (0 : Int)) := hc
                    clear hc
                    have f1291 : -1 ≤ H1264.2.2.1 75 0 (n) ∧ H1264.2.2.1 75 0 (n) ≤ 299 := hT1265.1 75 (n)
                    refine J.run 4 rfl (show 0 ≤ n ∧ n < 16 from ⟨by omega, by omega⟩) ?_
                    try dsimp only
                    refine J.ifc rfl rfl rfl (show -2147483648 ≤ H1264.2.2.1 75 0 (n) ∧ H1264.2.2.1 75 0 (n) ≤ 2147483647 from ⟨by omega, by omega⟩) (fun hc => ?_) (fun hc => ?_)
                    · have c1292 : H1264.2.2.1 75 0 (n) < (0 : Int) := hc
                      clear hc
                      refine J.run0 3 rfl ?_
                      try dsimp only
                      exact (g_isMoved_l3 (H0 := H0) (n := n) (u := u)  hp0 hp1 hp2 hp3 ((0 : Int).toNat + 1)) (H.2.2.1 73 0 (n)) (H.2.2.1 67 0 (x1249)) ((1 : Int)) H1264 _ (show 0 < _ by omega) (show (H.2.2.1 73 0 (n)) = H0.2.2.1 73 0 (n) from by omega) (show 0 ≤ (H.2.2.1 67 0 (x1249)) ∧ (H.2.2.1 67 0 (x1249)) < 300 from ⟨by omega, by omega⟩) (show (H.2.2.1 67 0 (x1249)) < H1264.1 11 12 0 from by omega) (show 0 ≤ ((1 : Int)) ∧ ((1 : Int)) ≤ 1 from ⟨by omega, by omega⟩) (show H0.2.2.1 74 0 (n) = 0 from by omega) (show H1264.2.2.1 73 0 (n) = H0.2.2.1 73 0 (n) from by omega) (show H1264.2.2.1 74 0 (n) = H0.2.2.1 74 0 (n) from by omega) (show H1264.2.2.1 115 0 (n) = H0.2.2.1 115 0 (n) from by omega) (show H1264.2.2.1 72 0 (n) = H0.2.2.1 72 0 (n) from by omega) (show H1264.2.2.1 79 0 (n) = 0 from by omega) (show H1264.2.2.1 80 0 (n) = 0 from by omega) (show H1264.2.2.1 56 0 (H0.2.2.1 72 0 (n)) = H0.2.2.1 56 0 (H0.2.2.1 72 0 (n)) from by omega) (show H1264.2.2.1 83 0 (n) ≤ 3 * H0.2.2.1 73 0 (n) + H0.2.2.1 74 0 (n) + 1 from by omega) (show H0.1 11 19 0 ≤ H1264.1 11 19 0 from by omega) (show 0 ≤ H0.2.2.1 73 0 (n) ∧ H0.2.2.1 73 0 (n) ≤ 31 from ⟨by omega, by omega⟩) (show 0 ≤ H0.2.2.1 74 0 (n) ∧ H0.2.2.1 74 0 (n) ≤ 2 from ⟨by omega, by omega⟩) (show 0 ≤ H0.2.2.1 115 0 (n) ∧ H0.2.2.1 115 0 (n) ≤ 1 from ⟨by omega, by omega⟩) (show 0 ≤ H0.2.2.1 72 0 (n) ∧ H0.2.2.1 72 0 (n) ≤ 299 from ⟨by omega, by omega⟩) hT1265 hE1266 k1267 k1268 k1269 k1270 k1271 k1272 k1273 k1274 k1275 k1276 ⟨_, _, _, _, rfl⟩
                    · have c1293 : ¬ (H1264.2.2.1 75 0 (n) < (0 : Int)) := hc
                      clear hc
                      refine J.run 5 rfl (show 0 ≤ n ∧ n < 16 from ⟨by omega, by omega⟩) ?_
                      try dsimp only
                      refine J.icmp rfl rfl rfl ⟨(show -2147483648 ≤ H1264.2.2.1 75 0 (n) ∧ H1264.2.2.1 75 0 (n) ≤ 2147483647 from ⟨by omega, by omega⟩), (show -2147483648 ≤ H.2.2.1 67 0 (x1249) ∧ H.2.2.1 67 0 (x1249) ≤ 2147483647 from ⟨by omega, by omega⟩)⟩ (fun hc => ?_) (fun hc => ?_)
                      · have c1294 : H1264.2.2.1 75 0 (n) = H.2.2.1 67 0 (x1249) := hc
                        clear hc
                        refine J.run0 3 rfl ?_
                        try dsimp only
                        exact (g_isMoved_l3 (H0 := H0) (n := n) (u := u)  hp0 hp1 hp2 hp3 ((0 : Int).toNat + 1)) (H.2.2.1 73 0 (n)) (H.2.2.1 67 0 (x1249)) ((1 : Int)) H1264 _ (show 0 < _ by omega) (show (H.2.2.1 73 0 (n)) = H0.2.2.1 73 0 (n) from by omega) (show 0 ≤ (H.2.2.1 67 0 (x1249)) ∧ (H.2.2.1 67 0 (x1249)) < 300 from ⟨by omega, by omega⟩) (show (H.2.2.1 67 0 (x1249)) < H1264.1 11 12 0 from by omega) (show 0 ≤ ((1 : Int)) ∧ ((1 : Int)) ≤ 1 from ⟨by omega, by omega⟩) (show H0.2.2.1 74 0 (n) = 0 from by omega) (show H1264.2.2.1 73 0 (n) = H0.2.2.1 73 0 (n) from by omega) (show H1264.2.2.1 74 0 (n) = H0.2.2.1 74 0 (n) from by omega) (show H1264.2.2.1 115 0 (n) = H0.2.2.1 115 0 (n) from by omega) (show H1264.2.2.1 72 0 (n) = H0.2.2.1 72 0 (n) from by omega) (show H1264.2.2.1 79 0 (n) = 0 from by omega) (show H1264.2.2.1 80 0 (n) = 0 from by omega) (show H1264.2.2.1 56 0 (H0.2.2.1 72 0 (n)) = H0.2.2.1 56 0 (H0.2.2.1 72 0 (n)) from by omega) (show H1264.2.2.1 83 0 (n) ≤ 3 * H0.2.2.1 73 0 (n) + H0.2.2.1 74 0 (n) + 1 from by omega) (show H0.1 11 19 0 ≤ H1264.1 11 19 0 from by omega) (show 0 ≤ H0.2.2.1 73 0 (n) ∧ H0.2.2.1 73 0 (n) ≤ 31 from ⟨by omega, by omega⟩) (show 0 ≤ H0.2.2.1 74 0 (n) ∧ H0.2.2.1 74 0 (n) ≤ 2 from ⟨by omega, by omega⟩) (show 0 ≤ H0.2.2.1 115 0 (n) ∧ H0.2.2.1 115 0 (n) ≤ 1 from ⟨by omega, by omega⟩) (show 0 ≤ H0.2.2.1 72 0 (n) ∧ H0.2.2.1 72 0 (n) ≤ 299 from ⟨by omega, by omega⟩) hT1265 hE1266 k1267 k1268 k1269 k1270 k1271 k1272 k1273 k1274 k1275 k1276 ⟨_, _, _, _, rfl⟩
                      · have c1295 : ¬ (H1264.2.2.1 75 0 (n) = H.2.2.1 67 0 (x1249)) := hc
                        clear hc
                        refine J.run0 1 rfl ?_
                        try dsimp only
                        refine J.ifc rfl rfl rfl (show -2147483648 ≤ H.2.2.1 68 0 (x1249) ∧ H.2.2.1 68 0 (x1249) ≤ 2147483647 from ⟨by omega, by omega⟩) (fun hc => ?_) (fun hc => ?_)
                        · have c1296 : H.2.2.1 68 0 (x1249) < (0 : Int) := hc
                          clear hc
                          refine J.run0 2 rfl ?_
                          try dsimp only
                          exact (g_isMoved_l3 (H0 := H0) (n := n) (u := u)  hp0 hp1 hp2 hp3 ((0 : Int).toNat + 1)) (H.2.2.1 73 0 (n)) (H.2.2.1 67 0 (x1249)) ((0 : Int)) H1264 _ (show 0 < _ by omega) (show (H.2.2.1 73 0 (n)) = H0.2.2.1 73 0 (n) from by omega) (show 0 ≤ (H.2.2.1 67 0 (x1249)) ∧ (H.2.2.1 67 0 (x1249)) < 300 from ⟨by omega, by omega⟩) (show (H.2.2.1 67 0 (x1249)) < H1264.1 11 12 0 from by omega) (show 0 ≤ ((0 : Int)) ∧ ((0 : Int)) ≤ 1 from ⟨by omega, by omega⟩) (show H0.2.2.1 74 0 (n) = 0 from by omega) (show H1264.2.2.1 73 0 (n) = H0.2.2.1 73 0 (n) from by omega) (show H1264.2.2.1 74 0 (n) = H0.2.2.1 74 0 (n) from by omega) (show H1264.2.2.1 115 0 (n) = H0.2.2.1 115 0 (n) from by omega) (show H1264.2.2.1 72 0 (n) = H0.2.2.1 72 0 (n) from by omega) (show H1264.2.2.1 79 0 (n) = 0 from by omega) (show H1264.2.2.1 80 0 (n) = 0 from by omega) (show H1264.2.2.1 56 0 (H0.2.2.1 72 0 (n)) = H0.2.2.1 56 0 (H0.2.2.1 72 0 (n)) from by omega) (show H1264.2.2.1 83 0 (n) ≤ 3 * H0.2.2.1 73 0 (n) + H0.2.2.1 74 0 (n) + 1 from by omega) (show H0.1 11 19 0 ≤ H1264.1 11 19 0 from by omega) (show 0 ≤ H0.2.2.1 73 0 (n) ∧ H0.2.2.1 73 0 (n) ≤ 31 from ⟨by omega, by omega⟩) (show 0 ≤ H0.2.2.1 74 0 (n) ∧ H0.2.2.1 74 0 (n) ≤ 2 from ⟨by omega, by omega⟩) (show 0 ≤ H0.2.2.1 115 0 (n) ∧ H0.2.2.1 115 0 (n) ≤ 1 from ⟨by omega, by omega⟩) (show 0 ≤ H0.2.2.1 72 0 (n) ∧ H0.2.2.1 72 0 (n) ≤ 299 from ⟨by omega, by omega⟩) hT1265 hE1266 k1267 k1268 k1269 k1270 k1271 k1272 k1273 k1274 k1275 k1276 ⟨_, _, _, _, rfl⟩
                        · have c1297 : ¬ (H.2.2.1 68 0 (x1249) < (0 : Int)) := hc
                          clear hc
                          have f1298 : -1 ≤ H1264.2.2.1 76 0 (n) ∧ H1264.2.2.1 76 0 (n) ≤ 31 := hT1265.1 76 (n)
                          refine J.run 5 rfl (show 0 ≤ n ∧ n < 16 from ⟨by omega, by omega⟩) ?_
                          try dsimp only
                          refine J.icmp rfl rfl rfl ⟨(show -2147483648 ≤ H1264.2.2.1 76 0 (n) ∧ H1264.2.2.1 76 0 (n) ≤ 2147483647 from ⟨by omega, by omega⟩), (show -2147483648 ≤ H.2.2.1 68 0 (x1249) ∧ H.2.2.1 68 0 (x1249) ≤ 2147483647 from ⟨by omega, by omega⟩)⟩ (fun hc => ?_) (fun hc => ?_)
                          · have c1299 : H.2.2.1 68 0 (x1249) < H1264.2.2.1 76 0 (n) := hc
                            clear hc
                            refine J.run0 2 rfl ?_
                            try dsimp only
                            exact (g_isMoved_l3 (H0 := H0) (n := n) (u := u)  hp0 hp1 hp2 hp3 ((0 : Int).toNat + 1)) (H.2.2.1 73 0 (n)) (H.2.2.1 67 0 (x1249)) ((0 : Int)) H1264 _ (show 0 < _ by omega) (show (H.2.2.1 73 0 (n)) = H0.2.2.1 73 0 (n) from by omega) (show 0 ≤ (H.2.2.1 67 0 (x1249)) ∧ (H.2.2.1 67 0 (x1249)) < 300 from ⟨by omega, by omega⟩) (show (H.2.2.1 67 0 (x1249)) < H1264.1 11 12 0 from by omega) (show 0 ≤ ((0 : Int)) ∧ ((0 : Int)) ≤ 1 from ⟨by omega, by omega⟩) (show H0.2.2.1 74 0 (n) = 0 from by omega) (show H1264.2.2.1 73 0 (n) = H0.2.2.1 73 0 (n) from by omega) (show H1264.2.2.1 74 0 (n) = H0.2.2.1 74 0 (n) from by omega) (show H1264.2.2.1 115 0 (n) = H0.2.2.1 115 0 (n) from by omega) (show H1264.2.2.1 72 0 (n) = H0.2.2.1 72 0 (n) from by omega) (show H1264.2.2.1 79 0 (n) = 0 from by omega) (show H1264.2.2.1 80 0 (n) = 0 from by omega) (show H1264.2.2.1 56 0 (H0.2.2.1 72 0 (n)) = H0.2.2.1 56 0 (H0.2.2.1 72 0 (n)) from by omega) (show H1264.2.2.1 83 0 (n) ≤ 3 * H0.2.2.1 73 0 (n) + H0.2.2.1 74 0 (n) + 1 from by omega) (show H0.1 11 19 0 ≤ H1264.1 11 19 0 from by omega) (show 0 ≤ H0.2.2.1 73 0 (n) ∧ H0.2.2.1 73 0 (n) ≤ 31 from ⟨by omega, by omega⟩) (show 0 ≤ H0.2.2.1 74 0 (n) ∧ H0.2.2.1 74 0 (n) ≤ 2 from ⟨by omega, by omega⟩) (show 0 ≤ H0.2.2.1 115 0 (n) ∧ H0.2.2.1 115 0 (n) ≤ 1 from ⟨by omega, by omega⟩) (show 0 ≤ H0.2.2.1 72 0 (n) ∧ H0.2.2.1 72 0 (n) ≤ 299 from ⟨by omega, by omega⟩) hT1265 hE1266 k1267 k1268 k1269 k1270 k1271 k1272 k1273 k1274 k1275 k1276 ⟨_, _, _, _, rfl⟩
                          · have c1300 : ¬ (H.2.2.1 68 0 (x1249) < H1264.2.2.1 76 0 (n)) := hc
                            clear hc
                            refine J.run0 3 rfl ?_
                            try dsimp only
                            exact (g_isMoved_l3 (H0 := H0) (n := n) (u := u)  hp0 hp1 hp2 hp3 ((0 : Int).toNat + 1)) (H.2.2.1 73 0 (n)) (H.2.2.1 67 0 (x1249)) ((1 : Int)) H1264 _ (show 0 < _ by omega) (show (H.2.2.1 73 0 (n)) = H0.2.2.1 73 0 (n) from by omega) (show 0 ≤ (H.2.2.1 67 0 (x1249)) ∧ (H.2.2.1 67 0 (x1249)) < 300 from ⟨by omega, by omega⟩) (show (H.2.2.1 67 0 (x1249)) < H1264.1 11 12 0 from by omega) (show 0 ≤ ((1 : Int)) ∧ ((1 : Int)) ≤ 1 from ⟨by omega, by omega⟩) (show H0.2.2.1 74 0 (n) = 0 from by omega) (show H1264.2.2.1 73 0 (n) = H0.2.2.1 73 0 (n) from by omega) (show H1264.2.2.1 74 0 (n) = H0.2.2.1 74 0 (n) from by omega) (show H1264.2.2.1 115 0 (n) = H0.2.2.1 115 0 (n) from by omega) (show H1264.2.2.1 72 0 (n) = H0.2.2.1 72 0 (n) from by omega) (show H1264.2.2.1 79 0 (n) = 0 from by omega) (show H1264.2.2.1 80 0 (n) = 0 from by omega) (show H1264.2.2.1 56 0 (H0.2.2.1 72 0 (n)) = H0.2.2.1 56 0 (H0.2.2.1 72 0 (n)) from by omega) (show H1264.2.2.1 83 0 (n) ≤ 3 * H0.2.2.1 73 0 (n) + H0.2.2.1 74 0 (n) + 1 from by omega) (show H0.1 11 19 0 ≤ H1264.1 11 19 0 from by omega) (show 0 ≤ H0.2.2.1 73 0 (n) ∧ H0.2.2.1 73 0 (n) ≤ 31 from ⟨by omega, by omega⟩) (show 0 ≤ H0.2.2.1 74 0 (n) ∧ H0.2.2.1 74 0 (n) ≤ 2 from ⟨by omega, by omega⟩) (show 0 ≤ H0.2.2.1 115 0 (n) ∧ H0.2.2.1 115 0 (n) ≤ 1 from ⟨by omega, by omega⟩) (show 0 ≤ H0.2.2.1 72 0 (n) ∧ H0.2.2.1 72 0 (n) ≤ 299 from ⟨by omega, by omega⟩) hT1265 hE1266 k1267 k1268 k1269 k1270 k1271 k1272 k1273 k1274 k1275 k1276 ⟨_, _, _, _, rfl⟩
              · have c1301 : ¬ (H.2.2.1 68 0 (x1249) < (0 : Int)) := hc
                clear hc
                refine J.run0 2 rfl ?_
                try dsimp only
                refine J.icmp rfl rfl rfl ⟨(show -2147483648 ≤ H.2.2.1 68 0 (x1249) ∧ H.2.2.1 68 0 (x1249) ≤ 2147483647 from ⟨by omega, by omega⟩), (show -2147483648 ≤ H.2.2.1 73 0 (n) ∧ H.2.2.1 73 0 (n) ≤ 2147483647 from ⟨by omega, by omega⟩)⟩ (fun hc => ?_) (fun hc => ?_)
                · have c1302 : H.2.2.1 73 0 (n) ≤ H.2.2.1 68 0 (x1249) := hc
                  clear hc
                  refine J.run0 3 rfl ?_
                  try dsimp only
                  refine J.ifc rfl rfl rfl (show -2147483648 ≤ (0 : Int) ∧ (0 : Int) ≤ 2147483647 from ⟨by omega, by omega⟩) (fun hc => ?_) (fun hc => ?_)
                  · have c1303 : (0 : Int) = (0 : Int) := hc
                    clear hc
                    exact (g_isMoved_l2 (H0 := H0) (n := n) (u := u)  hp0 hp1 hp2 hp3 ((0 : Int).toNat + 1)) (H.2.2.1 73 0 (n)) (x1249) H _ (show 0 < _ by omega) (show (H.2.2.1 73 0 (n)) = H0.2.2.1 73 0 (n) from by omega) (show -1 ≤ (x1249) ∧ (x1249) ≤ 5999 from ⟨by omega, by omega⟩) (show 0 ≤ (x1249) → 0 ≤ H.2.2.1 67 0 ((x1249)) from by omega) (show H.2.2.1 73 0 (n) = H0.2.2.1 73 0 (n) from by omega) (show H.2.2.1 74 0 (n) = H0.2.2.1 74 0 (n) from by omega) (show H.2.2.1 115 0 (n) = H0.2.2.1 115 0 (n) from by omega) (show H.2.2.1 72 0 (n) = H0.2.2.1 72 0 (n) from by omega) (show H.2.2.1 79 0 (n) = 0 from by omega) (show H.2.2.1 80 0 (n) = 0 from by omega) (show H.2.2.1 56 0 (H0.2.2.1 72 0 (n)) = H0.2.2.1 56 0 (H0.2.2.1 72 0 (n)) from by omega) (show H.2.2.1 83 0 (n) ≤ 3 * H0.2.2.1 73 0 (n) + H0.2.2.1 74 0 (n) + 1 from by omega) (show H0.1 11 19 0 ≤ H.1 11 19 0 from by omega) (show 0 ≤ H0.2.2.1 73 0 (n) ∧ H0.2.2.1 73 0 (n) ≤ 31 from ⟨by omega, by omega⟩) (show 0 ≤ H0.2.2.1 74 0 (n) ∧ H0.2.2.1 74 0 (n) ≤ 2 from ⟨by omega, by omega⟩) (show 0 ≤ H0.2.2.1 115 0 (n) ∧ H0.2.2.1 115 0 (n) ≤ 1 from ⟨by omega, by omega⟩) (show 0 ≤ H0.2.2.1 72 0 (n) ∧ H0.2.2.1 72 0 (n) ≤ 299 from ⟨by omega, by omega⟩) hT hE k0gP k0gX k0gL k0gZ k0gQ k0gB k0gK k0gN k0gW k0gU (Or.inr (Or.inl ⟨_, _, _, _, rfl⟩))
                  · have c1304 : ¬ ((0 : Int) = (0 : Int)) := hc
                    clear hc
                    exfalso
                    omega
                · have c1305 : ¬ (H.2.2.1 73 0 (n) ≤ H.2.2.1 68 0 (x1249)) := hc
                  clear hc
                  refine J.run0 5 rfl ?_
                  try dsimp only
                  refine J.inv rfl rfl rfl rfl rfl rfl jDr rfl rfl rfl rfl rfl (g_isMost (n := n) (kind := (1 : Int)) (r := H.2.2.1 68 0 (x1249)) (b := H.2.2.1 67 0 (x1249)) hT  (show 0 ≤ (n) ∧ (n) < 16 from ⟨by omega, by omega⟩) (show -2147483648 ≤ ((1 : Int)) ∧ ((1 : Int)) ≤ 2147483647 from ⟨by omega, by omega⟩) (show -2147483648 ≤ (H.2.2.1 68 0 (x1249)) ∧ (H.2.2.1 68 0 (x1249)) ≤ 2147483647 from ⟨by omega, by omega⟩) (show -2147483648 ≤ (H.2.2.1 67 0 (x1249)) ∧ (H.2.2.1 67 0 (x1249)) ≤ 2147483647 from ⟨by omega, by omega⟩)) ?_
                  rintro v w H1308 ⟨rfl, hT1309, ehE1310, x1306, rfl, r1307⟩
                  have hE1310 := jEx.trans ehE1310 hE (by decide) (by decide)
                  have r1307' : 0 ≤ x1306 ∧ x1306 ≤ 1 := r1307
                  have k1311 : gP H1308 := gP.ex k0gP ehE1310 (by decide)
                  have k1312 : gX H1308 := gX.ex k0gX ehE1310 (by decide)
                  have k1313 : gL H1308 := gL.ex k0gL ehE1310 (by decide)
                  have k1314 : gZ H1308 := gZ.ex k0gZ ehE1310 (by decide)
                  have k1315 : gQ H1308 := gQ.ex k0gQ ehE1310 (by decide)
                  have k1316 : gB H1308 := gB.ex k0gB ehE1310 (by decide)
                  have k1317 : gK H1308 := gK.ex k0gK ehE1310 (by decide)
                  have k1318 : gN H1308 := gN.ex k0gN ehE1310 (by decide)
                  have k1319 : gW H1308 (H1308.1 11 19 0) := gWm.ex k0gW ehE1310 (by decide)
                  have k1320 : gU H1308 u := gU.ex k0gU ehE1310 (by decide)
                  have g1321 : H1308.1 11 12 0 = H.1 11 12 0 := ehE1310.v 12 (by decide)
                  have g1322 : H1308.1 11 19 0 = H.1 11 19 0 := ehE1310.v 19 (by decide)
                  have g1323 : H1308.2.2.1 73 0 (n) = H.2.2.1 73 0 (n) := congrFun (ehE1310.r 73 (by decide)) _
                  have g1324 : H1308.2.2.1 74 0 (n) = H.2.2.1 74 0 (n) := congrFun (ehE1310.r 74 (by decide)) _
                  have g1325 : H1308.2.2.1 115 0 (n) = H.2.2.1 115 0 (n) := congrFun (ehE1310.r 115 (by decide)) _
                  have g1326 : H1308.2.2.1 72 0 (n) = H.2.2.1 72 0 (n) := congrFun (ehE1310.r 72 (by decide)) _
                  have g1327 : H1308.2.2.1 79 0 (n) = H.2.2.1 79 0 (n) := congrFun (ehE1310.r 79 (by decide)) _
                  have g1328 : H1308.2.2.1 80 0 (n) = H.2.2.1 80 0 (n) := congrFun (ehE1310.r 80 (by decide)) _
                  have g1329 : H1308.2.2.1 56 0 (H0.2.2.1 72 0 (n)) = H.2.2.1 56 0 (H0.2.2.1 72 0 (n)) := congrFun (ehE1310.r 56 (by decide)) _
                  have g1330 : H1308.2.2.1 83 0 (n) = H.2.2.1 83 0 (n) := congrFun (ehE1310.r 83 (by decide)) _
                  have g1331 : H1308.2.2.1 67 0 (x1249) = H.2.2.1 67 0 (x1249) := congrFun (ehE1310.r 67 (by decide)) _
                  have g1332 : H1308.2.2.1 68 0 (x1249) = H.2.2.1 68 0 (x1249) := congrFun (ehE1310.r 68 (by decide)) _
                  have rL_isMost := r1307'
                  have eL_isMost := ehE1310
                  try dsimp only [Option.toList, List.append, List.cons_append, List.nil_append]
                  refine J.ifc rfl rfl rfl (show -2147483648 ≤ x1306 ∧ x1306 ≤ 2147483647 from ⟨by omega, by omega⟩) (fun hc => ?_) (fun hc => ?_)
                  · have c1333 : x1306 = (0 : Int) := hc
                    clear hc
                    refine J.run0 3 rfl ?_
                    try dsimp only
                    refine J.ifc rfl rfl rfl (show -2147483648 ≤ (0 : Int) ∧ (0 : Int) ≤ 2147483647 from ⟨by omega, by omega⟩) (fun hc => ?_) (fun hc => ?_)
                    · have c1334 : (0 : Int) = (0 : Int) := hc
                      clear hc
                      exact (g_isMoved_l2 (H0 := H0) (n := n) (u := u)  hp0 hp1 hp2 hp3 ((0 : Int).toNat + 1)) (H.2.2.1 73 0 (n)) (x1249) H1308 _ (show 0 < _ by omega) (show (H.2.2.1 73 0 (n)) = H0.2.2.1 73 0 (n) from by omega) (show -1 ≤ (x1249) ∧ (x1249) ≤ 5999 from ⟨by omega, by omega⟩) (show 0 ≤ (x1249) → 0 ≤ H1308.2.2.1 67 0 ((x1249)) from by omega) (show H1308.2.2.1 73 0 (n) = H0.2.2.1 73 0 (n) from by omega) (show H1308.2.2.1 74 0 (n) = H0.2.2.1 74 0 (n) from by omega) (show H1308.2.2.1 115 0 (n) = H0.2.2.1 115 0 (n) from by omega) (show H1308.2.2.1 72 0 (n) = H0.2.2.1 72 0 (n) from by omega) (show H1308.2.2.1 79 0 (n) = 0 from by omega) (show H1308.2.2.1 80 0 (n) = 0 from by omega) (show H1308.2.2.1 56 0 (H0.2.2.1 72 0 (n)) = H0.2.2.1 56 0 (H0.2.2.1 72 0 (n)) from by omega) (show H1308.2.2.1 83 0 (n) ≤ 3 * H0.2.2.1 73 0 (n) + H0.2.2.1 74 0 (n) + 1 from by omega) (show H0.1 11 19 0 ≤ H1308.1 11 19 0 from by omega) (show 0 ≤ H0.2.2.1 73 0 (n) ∧ H0.2.2.1 73 0 (n) ≤ 31 from ⟨by omega, by omega⟩) (show 0 ≤ H0.2.2.1 74 0 (n) ∧ H0.2.2.1 74 0 (n) ≤ 2 from ⟨by omega, by omega⟩) (show 0 ≤ H0.2.2.1 115 0 (n) ∧ H0.2.2.1 115 0 (n) ≤ 1 from ⟨by omega, by omega⟩) (show 0 ≤ H0.2.2.1 72 0 (n) ∧ H0.2.2.1 72 0 (n) ≤ 299 from ⟨by omega, by omega⟩) hT1309 hE1310 k1311 k1312 k1313 k1314 k1315 k1316 k1317 k1318 k1319 k1320 (Or.inr (Or.inl ⟨_, _, _, _, rfl⟩))
                    · have c1335 : ¬ ((0 : Int) = (0 : Int)) := hc
                      clear hc
                      exfalso
                      omega
                  · have c1336 : ¬ (x1306 = (0 : Int)) := hc
                    clear hc
                    refine J.run0 4 rfl ?_
                    try dsimp only
                    refine J.ifc rfl rfl rfl (show -2147483648 ≤ (1 : Int) ∧ (1 : Int) ≤ 2147483647 from ⟨by omega, by omega⟩) (fun hc => ?_) (fun hc => ?_)
                    · have c1337 : (1 : Int) = (0 : Int) := hc
                      clear hc
                      exfalso
                      omega
                    · have c1338 : ¬ ((1 : Int) = (0 : Int)) := hc
                      clear hc
                      refine J.run0 3 rfl ?_
                      try dsimp only
                      have f1339 : 1 ≤ H1308.1 11 12 0 ∧ H1308.1 11 12 0 ≤ 300 := hT1309.2.1 12
                      refine J.inv rfl rfl rfl rfl rfl rfl jDr rfl rfl rfl rfl rfl (g_isGood (n := n) (b := H.2.2.1 67 0 (x1249)) hT1309 k1311 k1312 k1313 k1314 (show 0 ≤ (n) ∧ (n) < 16 from ⟨by omega, by omega⟩) (show 0 ≤ (H.2.2.1 67 0 (x1249)) ∧ (H.2.2.1 67 0 (x1249)) < 300 from ⟨by omega, by omega⟩) (show (H.2.2.1 67 0 (x1249)) < H1308.1 11 12 0 from by omega)) ?_
                      rintro v w H1342 ⟨rfl, hT1343, ehE1344, k1345, k1346, k1347, k1348, x1340, rfl, r1341⟩
                      have hE1344 := jEx.trans ehE1344 hE1310 (by decide) (by decide)
                      have r1341' : 0 ≤ x1340 ∧ x1340 ≤ 1 ∧ (x1340 = 1 → H1342.2.2.1 55 0 ((H.2.2.1 67 0 (x1249))) = H1342.2.2.1 72 0 ((n))) := r1341
                      have k1349 : gQ H1342 := gQ.ex k1315 ehE1344 (by decide)
                      have k1350 : gB H1342 := gB.ex k1316 ehE1344 (by decide)
                      have k1351 : gK H1342 := gK.ex k1317 ehE1344 (by decide)
                      have k1352 : gN H1342 := gN.ex k1318 ehE1344 (by decide)
                      have k1353 : gW H1342 (H1342.1 11 19 0) := gWm.ex k1319 ehE1344 (by decide)
                      have k1354 : gU H1342 u := gU.ex k1320 ehE1344 (by decide)
                      have g1355 : H1342.1 11 12 0 = H1308.1 11 12 0 := ehE1344.v 12 (by decide)
                      have g1356 : H1342.1 11 19 0 = H1308.1 11 19 0 := ehE1344.v 19 (by decide)
                      have g1357 : H1342.2.2.1 73 0 (n) = H1308.2.2.1 73 0 (n) := congrFun (ehE1344.r 73 (by decide)) _
                      have g1358 : H1342.2.2.1 74 0 (n) = H1308.2.2.1 74 0 (n) := congrFun (ehE1344.r 74 (by decide)) _
                      have g1359 : H1342.2.2.1 115 0 (n) = H1308.2.2.1 115 0 (n) := congrFun (ehE1344.r 115 (by decide)) _
                      have g1360 : H1342.2.2.1 72 0 (n) = H1308.2.2.1 72 0 (n) := congrFun (ehE1344.r 72 (by decide)) _
                      have g1361 : H1342.2.2.1 79 0 (n) = H1308.2.2.1 79 0 (n) := congrFun (ehE1344.r 79 (by decide)) _
                      have g1362 : H1342.2.2.1 80 0 (n) = H1308.2.2.1 80 0 (n) := congrFun (ehE1344.r 80 (by decide)) _
                      have g1363 : H1342.2.2.1 56 0 (H0.2.2.1 72 0 (n)) = H1308.2.2.1 56 0 (H0.2.2.1 72 0 (n)) := congrFun (ehE1344.r 56 (by decide)) _
                      have g1364 : H1342.2.2.1 83 0 (n) = H1308.2.2.1 83 0 (n) := congrFun (ehE1344.r 83 (by decide)) _
                      have g1365 : H1342.2.2.1 67 0 (x1249) = H1308.2.2.1 67 0 (x1249) := congrFun (ehE1344.r 67 (by decide)) _
                      have g1366 : H1342.2.2.1 68 0 (x1249) = H1308.2.2.1 68 0 (x1249) := congrFun (ehE1344.r 68 (by decide)) _
                      have rL_isGood := r1341'
                      have eL_isGood := ehE1344
                      try dsimp only [Option.toList, List.append, List.cons_append, List.nil_append]
                      refine J.ifc rfl rfl rfl (show -2147483648 ≤ x1340 ∧ x1340 ≤ 2147483647 from ⟨by omega, by omega⟩) (fun hc => ?_) (fun hc => ?_)
                      · have c1367 : x1340 = (0 : Int) := hc
                        clear hc
                        refine J.run0 2 rfl ?_
                        try dsimp only
                        exact (g_isMoved_l3 (H0 := H0) (n := n) (u := u)  hp0 hp1 hp2 hp3 ((0 : Int).toNat + 1)) (H.2.2.1 73 0 (n)) (H.2.2.1 67 0 (x1249)) ((0 : Int)) H1342 _ (show 0 < _ by omega) (show (H.2.2.1 73 0 (n)) = H0.2.2.1 73 0 (n) from by omega) (show 0 ≤ (H.2.2.1 67 0 (x1249)) ∧ (H.2.2.1 67 0 (x1249)) < 300 from ⟨by omega, by omega⟩) (show (H.2.2.1 67 0 (x1249)) < H1342.1 11 12 0 from by omega) (show 0 ≤ ((0 : Int)) ∧ ((0 : Int)) ≤ 1 from ⟨by omega, by omega⟩) (show H0.2.2.1 74 0 (n) = 0 from by omega) (show H1342.2.2.1 73 0 (n) = H0.2.2.1 73 0 (n) from by omega) (show H1342.2.2.1 74 0 (n) = H0.2.2.1 74 0 (n) from by omega) (show H1342.2.2.1 115 0 (n) = H0.2.2.1 115 0 (n) from by omega) (show H1342.2.2.1 72 0 (n) = H0.2.2.1 72 0 (n) from by omega) (show H1342.2.2.1 79 0 (n) = 0 from by omega) (show H1342.2.2.1 80 0 (n) = 0 from by omega) (show H1342.2.2.1 56 0 (H0.2.2.1 72 0 (n)) = H0.2.2.1 56 0 (H0.2.2.1 72 0 (n)) from by omega) (show H1342.2.2.1 83 0 (n) ≤ 3 * H0.2.2.1 73 0 (n) + H0.2.2.1 74 0 (n) + 1 from by omega) (show H0.1 11 19 0 ≤ H1342.1 11 19 0 from by omega) (show 0 ≤ H0.2.2.1 73 0 (n) ∧ H0.2.2.1 73 0 (n) ≤ 31 from ⟨by omega, by omega⟩) (show 0 ≤ H0.2.2.1 74 0 (n) ∧ H0.2.2.1 74 0 (n) ≤ 2 from ⟨by omega, by omega⟩) (show 0 ≤ H0.2.2.1 115 0 (n) ∧ H0.2.2.1 115 0 (n) ≤ 1 from ⟨by omega, by omega⟩) (show 0 ≤ H0.2.2.1 72 0 (n) ∧ H0.2.2.1 72 0 (n) ≤ 299 from ⟨by omega, by omega⟩) hT1343 hE1344 k1345 k1346 k1347 k1348 k1349 k1350 k1351 k1352 k1353 k1354 ⟨_, _, _, _, rfl⟩
                      · have c1368 : ¬ (x1340 = (0 : Int)) := hc
                        clear hc
                        have f1369 : -1 ≤ H1342.2.2.1 75 0 (n) ∧ H1342.2.2.1 75 0 (n) ≤ 299 := hT1343.1 75 (n)
                        refine J.run 4 rfl (show 0 ≤ n ∧ n < 16 from ⟨by omega, by omega⟩) ?_
                        try dsimp only
                        refine J.ifc rfl rfl rfl (show -2147483648 ≤ H1342.2.2.1 75 0 (n) ∧ H1342.2.2.1 75 0 (n) ≤ 2147483647 from ⟨by omega, by omega⟩) (fun hc => ?_) (fun hc => ?_)
                        · have c1370 : H1342.2.2.1 75 0 (n) < (0 : Int) := hc
                          clear hc
                          refine J.run0 3 rfl ?_
                          try dsimp only
                          exact (g_isMoved_l3 (H0 := H0) (n := n) (u := u)  hp0 hp1 hp2 hp3 ((0 : Int).toNat + 1)) (H.2.2.1 73 0 (n)) (H.2.2.1 67 0 (x1249)) ((1 : Int)) H1342 _ (show 0 < _ by omega) (show (H.2.2.1 73 0 (n)) = H0.2.2.1 73 0 (n) from by omega) (show 0 ≤ (H.2.2.1 67 0 (x1249)) ∧ (H.2.2.1 67 0 (x1249)) < 300 from ⟨by omega, by omega⟩) (show (H.2.2.1 67 0 (x1249)) < H1342.1 11 12 0 from by omega) (show 0 ≤ ((1 : Int)) ∧ ((1 : Int)) ≤ 1 from ⟨by omega, by omega⟩) (show H0.2.2.1 74 0 (n) = 0 from by omega) (show H1342.2.2.1 73 0 (n) = H0.2.2.1 73 0 (n) from by omega) (show H1342.2.2.1 74 0 (n) = H0.2.2.1 74 0 (n) from by omega) (show H1342.2.2.1 115 0 (n) = H0.2.2.1 115 0 (n) from by omega) (show H1342.2.2.1 72 0 (n) = H0.2.2.1 72 0 (n) from by omega) (show H1342.2.2.1 79 0 (n) = 0 from by omega) (show H1342.2.2.1 80 0 (n) = 0 from by omega) (show H1342.2.2.1 56 0 (H0.2.2.1 72 0 (n)) = H0.2.2.1 56 0 (H0.2.2.1 72 0 (n)) from by omega) (show H1342.2.2.1 83 0 (n) ≤ 3 * H0.2.2.1 73 0 (n) + H0.2.2.1 74 0 (n) + 1 from by omega) (show H0.1 11 19 0 ≤ H1342.1 11 19 0 from by omega) (show 0 ≤ H0.2.2.1 73 0 (n) ∧ H0.2.2.1 73 0 (n) ≤ 31 from ⟨by omega, by omega⟩) (show 0 ≤ H0.2.2.1 74 0 (n) ∧ H0.2.2.1 74 0 (n) ≤ 2 from ⟨by omega, by omega⟩) (show 0 ≤ H0.2.2.1 115 0 (n) ∧ H0.2.2.1 115 0 (n) ≤ 1 from ⟨by omega, by omega⟩) (show 0 ≤ H0.2.2.1 72 0 (n) ∧ H0.2.2.1 72 0 (n) ≤ 299 from ⟨by omega, by omega⟩) hT1343 hE1344 k1345 k1346 k1347 k1348 k1349 k1350 k1351 k1352 k1353 k1354 ⟨_, _, _, _, rfl⟩
                        · have c1371 : ¬ (H1342.2.2.1 75 0 (n) < (0 : Int)) := hc
                          clear hc
                          refine J.run 5 rfl (show 0 ≤ n ∧ n < 16 from ⟨by omega, by omega⟩) ?_
                          try dsimp only
                          refine J.icmp rfl rfl rfl ⟨(show -2147483648 ≤ H1342.2.2.1 75 0 (n) ∧ H1342.2.2.1 75 0 (n) ≤ 2147483647 from ⟨by omega, by omega⟩), (show -2147483648 ≤ H.2.2.1 67 0 (x1249) ∧ H.2.2.1 67 0 (x1249) ≤ 2147483647 from ⟨by omega, by omega⟩)⟩ (fun hc => ?_) (fun hc => ?_)
                          · have c1372 : H1342.2.2.1 75 0 (n) = H.2.2.1 67 0 (x1249) := hc
                            clear hc
                            refine J.run0 3 rfl ?_
                            try dsimp only
                            exact (g_isMoved_l3 (H0 := H0) (n := n) (u := u)  hp0 hp1 hp2 hp3 ((0 : Int).toNat + 1)) (H.2.2.1 73 0 (n)) (H.2.2.1 67 0 (x1249)) ((1 : Int)) H1342 _ (show 0 < _ by omega) (show (H.2.2.1 73 0 (n)) = H0.2.2.1 73 0 (n) from by omega) (show 0 ≤ (H.2.2.1 67 0 (x1249)) ∧ (H.2.2.1 67 0 (x1249)) < 300 from ⟨by omega, by omega⟩) (show (H.2.2.1 67 0 (x1249)) < H1342.1 11 12 0 from by omega) (show 0 ≤ ((1 : Int)) ∧ ((1 : Int)) ≤ 1 from ⟨by omega, by omega⟩) (show H0.2.2.1 74 0 (n) = 0 from by omega) (show H1342.2.2.1 73 0 (n) = H0.2.2.1 73 0 (n) from by omega) (show H1342.2.2.1 74 0 (n) = H0.2.2.1 74 0 (n) from by omega) (show H1342.2.2.1 115 0 (n) = H0.2.2.1 115 0 (n) from by omega) (show H1342.2.2.1 72 0 (n) = H0.2.2.1 72 0 (n) from by omega) (show H1342.2.2.1 79 0 (n) = 0 from by omega) (show H1342.2.2.1 80 0 (n) = 0 from by omega) (show H1342.2.2.1 56 0 (H0.2.2.1 72 0 (n)) = H0.2.2.1 56 0 (H0.2.2.1 72 0 (n)) from by omega) (show H1342.2.2.1 83 0 (n) ≤ 3 * H0.2.2.1 73 0 (n) + H0.2.2.1 74 0 (n) + 1 from by omega) (show H0.1 11 19 0 ≤ H1342.1 11 19 0 from by omega) (show 0 ≤ H0.2.2.1 73 0 (n) ∧ H0.2.2.1 73 0 (n) ≤ 31 from ⟨by omega, by omega⟩) (show 0 ≤ H0.2.2.1 74 0 (n) ∧ H0.2.2.1 74 0 (n) ≤ 2 from ⟨by omega, by omega⟩) (show 0 ≤ H0.2.2.1 115 0 (n) ∧ H0.2.2.1 115 0 (n) ≤ 1 from ⟨by omega, by omega⟩) (show 0 ≤ H0.2.2.1 72 0 (n) ∧ H0.2.2.1 72 0 (n) ≤ 299 from ⟨by omega, by omega⟩) hT1343 hE1344 k1345 k1346 k1347 k1348 k1349 k1350 k1351 k1352 k1353 k1354 ⟨_, _, _, _, rfl⟩
                          · have c1373 : ¬ (H1342.2.2.1 75 0 (n) = H.2.2.1 67 0 (x1249)) := hc
                            clear hc
                            refine J.run0 1 rfl ?_
                            try dsimp only
                            refine J.ifc rfl rfl rfl (show -2147483648 ≤ H.2.2.1 68 0 (x1249) ∧ H.2.2.1 68 0 (x1249) ≤ 2147483647 from ⟨by omega, by omega⟩) (fun hc => ?_) (fun hc => ?_)
                            · have c1374 : H.2.2.1 68 0 (x1249) < (0 : Int) := hc
                              clear hc
                              refine J.run0 2 rfl ?_
                              try dsimp only
                              exact (g_isMoved_l3 (H0 := H0) (n := n) (u := u)  hp0 hp1 hp2 hp3 ((0 : Int).toNat + 1)) (H.2.2.1 73 0 (n)) (H.2.2.1 67 0 (x1249)) ((0 : Int)) H1342 _ (show 0 < _ by omega) (show (H.2.2.1 73 0 (n)) = H0.2.2.1 73 0 (n) from by omega) (show 0 ≤ (H.2.2.1 67 0 (x1249)) ∧ (H.2.2.1 67 0 (x1249)) < 300 from ⟨by omega, by omega⟩) (show (H.2.2.1 67 0 (x1249)) < H1342.1 11 12 0 from by omega) (show 0 ≤ ((0 : Int)) ∧ ((0 : Int)) ≤ 1 from ⟨by omega, by omega⟩) (show H0.2.2.1 74 0 (n) = 0 from by omega) (show H1342.2.2.1 73 0 (n) = H0.2.2.1 73 0 (n) from by omega) (show H1342.2.2.1 74 0 (n) = H0.2.2.1 74 0 (n) from by omega) (show H1342.2.2.1 115 0 (n) = H0.2.2.1 115 0 (n) from by omega) (show H1342.2.2.1 72 0 (n) = H0.2.2.1 72 0 (n) from by omega) (show H1342.2.2.1 79 0 (n) = 0 from by omega) (show H1342.2.2.1 80 0 (n) = 0 from by omega) (show H1342.2.2.1 56 0 (H0.2.2.1 72 0 (n)) = H0.2.2.1 56 0 (H0.2.2.1 72 0 (n)) from by omega) (show H1342.2.2.1 83 0 (n) ≤ 3 * H0.2.2.1 73 0 (n) + H0.2.2.1 74 0 (n) + 1 from by omega) (show H0.1 11 19 0 ≤ H1342.1 11 19 0 from by omega) (show 0 ≤ H0.2.2.1 73 0 (n) ∧ H0.2.2.1 73 0 (n) ≤ 31 from ⟨by omega, by omega⟩) (show 0 ≤ H0.2.2.1 74 0 (n) ∧ H0.2.2.1 74 0 (n) ≤ 2 from ⟨by omega, by omega⟩) (show 0 ≤ H0.2.2.1 115 0 (n) ∧ H0.2.2.1 115 0 (n) ≤ 1 from ⟨by omega, by omega⟩) (show 0 ≤ H0.2.2.1 72 0 (n) ∧ H0.2.2.1 72 0 (n) ≤ 299 from ⟨by omega, by omega⟩) hT1343 hE1344 k1345 k1346 k1347 k1348 k1349 k1350 k1351 k1352 k1353 k1354 ⟨_, _, _, _, rfl⟩
                            · have c1375 : ¬ (H.2.2.1 68 0 (x1249) < (0 : Int)) := hc
                              clear hc
                              have f1376 : -1 ≤ H1342.2.2.1 76 0 (n) ∧ H1342.2.2.1 76 0 (n) ≤ 31 := hT1343.1 76 (n)
                              refine J.run 5 rfl (show 0 ≤ n ∧ n < 16 from ⟨by omega, by omega⟩) ?_
                              try dsimp only
                              refine J.icmp rfl rfl rfl ⟨(show -2147483648 ≤ H1342.2.2.1 76 0 (n) ∧ H1342.2.2.1 76 0 (n) ≤ 2147483647 from ⟨by omega, by omega⟩), (show -2147483648 ≤ H.2.2.1 68 0 (x1249) ∧ H.2.2.1 68 0 (x1249) ≤ 2147483647 from ⟨by omega, by omega⟩)⟩ (fun hc => ?_) (fun hc => ?_)
                              · have c1377 : H.2.2.1 68 0 (x1249) < H1342.2.2.1 76 0 (n) := hc
                                clear hc
                                refine J.run0 2 rfl ?_
                                try dsimp only
                                exact (g_isMoved_l3 (H0 := H0) (n := n) (u := u)  hp0 hp1 hp2 hp3 ((0 : Int).toNat + 1)) (H.2.2.1 73 0 (n)) (H.2.2.1 67 0 (x1249)) ((0 : Int)) H1342 _ (show 0 < _ by omega) (show (H.2.2.1 73 0 (n)) = H0.2.2.1 73 0 (n) from by omega) (show 0 ≤ (H.2.2.1 67 0 (x1249)) ∧ (H.2.2.1 67 0 (x1249)) < 300 from ⟨by omega, by omega⟩) (show (H.2.2.1 67 0 (x1249)) < H1342.1 11 12 0 from by omega) (show 0 ≤ ((0 : Int)) ∧ ((0 : Int)) ≤ 1 from ⟨by omega, by omega⟩) (show H0.2.2.1 74 0 (n) = 0 from by omega) (show H1342.2.2.1 73 0 (n) = H0.2.2.1 73 0 (n) from by omega) (show H1342.2.2.1 74 0 (n) = H0.2.2.1 74 0 (n) from by omega) (show H1342.2.2.1 115 0 (n) = H0.2.2.1 115 0 (n) from by omega) (show H1342.2.2.1 72 0 (n) = H0.2.2.1 72 0 (n) from by omega) (show H1342.2.2.1 79 0 (n) = 0 from by omega) (show H1342.2.2.1 80 0 (n) = 0 from by omega) (show H1342.2.2.1 56 0 (H0.2.2.1 72 0 (n)) = H0.2.2.1 56 0 (H0.2.2.1 72 0 (n)) from by omega) (show H1342.2.2.1 83 0 (n) ≤ 3 * H0.2.2.1 73 0 (n) + H0.2.2.1 74 0 (n) + 1 from by omega) (show H0.1 11 19 0 ≤ H1342.1 11 19 0 from by omega) (show 0 ≤ H0.2.2.1 73 0 (n) ∧ H0.2.2.1 73 0 (n) ≤ 31 from ⟨by omega, by omega⟩) (show 0 ≤ H0.2.2.1 74 0 (n) ∧ H0.2.2.1 74 0 (n) ≤ 2 from ⟨by omega, by omega⟩) (show 0 ≤ H0.2.2.1 115 0 (n) ∧ H0.2.2.1 115 0 (n) ≤ 1 from ⟨by omega, by omega⟩) (show 0 ≤ H0.2.2.1 72 0 (n) ∧ H0.2.2.1 72 0 (n) ≤ 299 from ⟨by omega, by omega⟩) hT1343 hE1344 k1345 k1346 k1347 k1348 k1349 k1350 k1351 k1352 k1353 k1354 ⟨_, _, _, _, rfl⟩
                              · have c1378 : ¬ (H.2.2.1 68 0 (x1249) < H1342.2.2.1 76 0 (n)) := hc
                                clear hc
                                refine J.run0 3 rfl ?_
                                try dsimp only
                                exact (g_isMoved_l3 (H0 := H0) (n := n) (u := u)  hp0 hp1 hp2 hp3 ((0 : Int).toNat + 1)) (H.2.2.1 73 0 (n)) (H.2.2.1 67 0 (x1249)) ((1 : Int)) H1342 _ (show 0 < _ by omega) (show (H.2.2.1 73 0 (n)) = H0.2.2.1 73 0 (n) from by omega) (show 0 ≤ (H.2.2.1 67 0 (x1249)) ∧ (H.2.2.1 67 0 (x1249)) < 300 from ⟨by omega, by omega⟩) (show (H.2.2.1 67 0 (x1249)) < H1342.1 11 12 0 from by omega) (show 0 ≤ ((1 : Int)) ∧ ((1 : Int)) ≤ 1 from ⟨by omega, by omega⟩) (show H0.2.2.1 74 0 (n) = 0 from by omega) (show H1342.2.2.1 73 0 (n) = H0.2.2.1 73 0 (n) from by omega) (show H1342.2.2.1 74 0 (n) = H0.2.2.1 74 0 (n) from by omega) (show H1342.2.2.1 115 0 (n) = H0.2.2.1 115 0 (n) from by omega) (show H1342.2.2.1 72 0 (n) = H0.2.2.1 72 0 (n) from by omega) (show H1342.2.2.1 79 0 (n) = 0 from by omega) (show H1342.2.2.1 80 0 (n) = 0 from by omega) (show H1342.2.2.1 56 0 (H0.2.2.1 72 0 (n)) = H0.2.2.1 56 0 (H0.2.2.1 72 0 (n)) from by omega) (show H1342.2.2.1 83 0 (n) ≤ 3 * H0.2.2.1 73 0 (n) + H0.2.2.1 74 0 (n) + 1 from by omega) (show H0.1 11 19 0 ≤ H1342.1 11 19 0 from by omega) (show 0 ≤ H0.2.2.1 73 0 (n) ∧ H0.2.2.1 73 0 (n) ≤ 31 from ⟨by omega, by omega⟩) (show 0 ≤ H0.2.2.1 74 0 (n) ∧ H0.2.2.1 74 0 (n) ≤ 2 from ⟨by omega, by omega⟩) (show 0 ≤ H0.2.2.1 115 0 (n) ∧ H0.2.2.1 115 0 (n) ≤ 1 from ⟨by omega, by omega⟩) (show 0 ≤ H0.2.2.1 72 0 (n) ∧ H0.2.2.1 72 0 (n) ≤ 299 from ⟨by omega, by omega⟩) hT1343 hE1344 k1345 k1346 k1347 k1348 k1349 k1350 k1351 k1352 k1353 k1354 ⟨_, _, _, _, rfl⟩
        · have c1379 : ¬ (q ≤ H.2.2.1 73 0 (n)) := hc
          clear hc
          refine J.run0 1 rfl ?_
          try dsimp only
          refine J.inv rfl rfl rfl rfl rfl rfl jDr rfl rfl rfl rfl rfl (g_clear  hT  ) ?_
          rintro v w H1382 ⟨rfl, hT1383, ehE1384, rfl⟩
          have hE1384 := jEx.trans ehE1384 hE (by decide) (by decide)
          have k1385 : gP H1382 := gP.ex k0gP ehE1384 (by decide)
          have k1386 : gX H1382 := gX.ex k0gX ehE1384 (by decide)
          have k1387 : gL H1382 := gL.ex k0gL ehE1384 (by decide)
          have k1388 : gZ H1382 := gZ.ex k0gZ ehE1384 (by decide)
          have k1389 : gQ H1382 := gQ.ex k0gQ ehE1384 (by decide)
          have k1390 : gB H1382 := gB.ex k0gB ehE1384 (by decide)
          have k1391 : gK H1382 := gK.ex k0gK ehE1384 (by decide)
          have k1392 : gN H1382 := gN.ex k0gN ehE1384 (by decide)
          have k1393 : gW H1382 (H1382.1 11 19 0) := gWm.ex k0gW ehE1384 (by decide)
          have k1394 : gU H1382 u := gU.ex k0gU ehE1384 (by decide)
          have g1395 : H1382.1 11 12 0 = H.1 11 12 0 := ehE1384.v 12 (by decide)
          have g1396 : H1382.1 11 19 0 = H.1 11 19 0 := ehE1384.v 19 (by decide)
          have g1397 : H1382.2.2.1 73 0 (n) = H.2.2.1 73 0 (n) := congrFun (ehE1384.r 73 (by decide)) _
          have g1398 : H1382.2.2.1 74 0 (n) = H.2.2.1 74 0 (n) := congrFun (ehE1384.r 74 (by decide)) _
          have g1399 : H1382.2.2.1 115 0 (n) = H.2.2.1 115 0 (n) := congrFun (ehE1384.r 115 (by decide)) _
          have g1400 : H1382.2.2.1 72 0 (n) = H.2.2.1 72 0 (n) := congrFun (ehE1384.r 72 (by decide)) _
          have g1401 : H1382.2.2.1 79 0 (n) = H.2.2.1 79 0 (n) := congrFun (ehE1384.r 79 (by decide)) _
          have g1402 : H1382.2.2.1 80 0 (n) = H.2.2.1 80 0 (n) := congrFun (ehE1384.r 80 (by decide)) _
          have g1403 : H1382.2.2.1 56 0 (H0.2.2.1 72 0 (n)) = H.2.2.1 56 0 (H0.2.2.1 72 0 (n)) := congrFun (ehE1384.r 56 (by decide)) _
          have g1404 : H1382.2.2.1 83 0 (n) = H.2.2.1 83 0 (n) := congrFun (ehE1384.r 83 (by decide)) _
          have eL_clear := ehE1384
          try dsimp only [Option.toList, List.append, List.cons_append, List.nil_append]
          refine J.run0 2 rfl ?_
          try dsimp only
          exact ih.2 (most) (q) ((0 : Int)) H1382 _ (show 10000 * ((q) + 1) - 1 - ((0 : Int)) < _ by omega) (show H0.2.2.1 73 0 (n) < (q) ∧ (q) ≤ 31 from ⟨by omega, by omega⟩) (show 0 ≤ ((0 : Int)) ∧ ((0 : Int)) ≤ 6000 from ⟨by omega, by omega⟩) (show H1382.2.2.1 73 0 (n) = H0.2.2.1 73 0 (n) from by omega) (show H1382.2.2.1 74 0 (n) = H0.2.2.1 74 0 (n) from by omega) (show H1382.2.2.1 115 0 (n) = H0.2.2.1 115 0 (n) from by omega) (show H1382.2.2.1 72 0 (n) = H0.2.2.1 72 0 (n) from by omega) (show H1382.2.2.1 79 0 (n) = 0 from by omega) (show H1382.2.2.1 80 0 (n) = 0 from by omega) (show H1382.2.2.1 56 0 (H0.2.2.1 72 0 (n)) = H0.2.2.1 56 0 (H0.2.2.1 72 0 (n)) from by omega) (show H1382.2.2.1 83 0 (n) ≤ 3 * H0.2.2.1 73 0 (n) + H0.2.2.1 74 0 (n) + 1 from by omega) (show H0.1 11 19 0 ≤ H1382.1 11 19 0 from by omega) (show 0 ≤ H0.2.2.1 73 0 (n) ∧ H0.2.2.1 73 0 (n) ≤ 31 from ⟨by omega, by omega⟩) (show 0 ≤ H0.2.2.1 74 0 (n) ∧ H0.2.2.1 74 0 (n) ≤ 2 from ⟨by omega, by omega⟩) (show 0 ≤ H0.2.2.1 115 0 (n) ∧ H0.2.2.1 115 0 (n) ≤ 1 from ⟨by omega, by omega⟩) (show 0 ≤ H0.2.2.1 72 0 (n) ∧ H0.2.2.1 72 0 (n) ≤ 299 from ⟨by omega, by omega⟩) hT1383 hE1384 k1385 k1386 k1387 k1388 k1389 k1390 k1391 k1392 k1393 k1394 (Or.inl rfl)
      · skip
        have f1405 : 0 ≤ H.2.2.1 73 0 (n) ∧ H.2.2.1 73 0 (n) ≤ 31 := hT.1 73 (n)
        refine J.run 5 rfl (show 0 ≤ n ∧ n < 16 from ⟨by omega, by omega⟩) ?_
        try dsimp only
        refine J.icmp rfl rfl rfl ⟨(show -2147483648 ≤ q ∧ q ≤ 2147483647 from ⟨by omega, by omega⟩), (show -2147483648 ≤ H.2.2.1 73 0 (n) ∧ H.2.2.1 73 0 (n) ≤ 2147483647 from ⟨by omega, by omega⟩)⟩ (fun hc => ?_) (fun hc => ?_)
        · have c1406 : q ≤ H.2.2.1 73 0 (n) := hc
          clear hc
          refine J.run 8 rfl (show 0 ≤ n ∧ n < 16 from ⟨by omega, by omega⟩) ?_
          try dsimp only
          refine J.inv rfl rfl rfl rfl rfl rfl jDr rfl rfl rfl rfl rfl (g_proposal (n := n) (r := H.2.2.1 73 0 (n)) hT k0gQ (show 0 ≤ (n) ∧ (n) < 16 from ⟨by omega, by omega⟩) (show 0 ≤ (H.2.2.1 73 0 (n)) ∧ (H.2.2.1 73 0 (n)) < 32 from ⟨by omega, by omega⟩)) ?_
          rintro v w H ⟨rfl, rfl, x1407, rfl, r1408⟩
          have r1408' : -1 ≤ x1407 ∧ x1407 ≤ 5999 ∧ (0 ≤ x1407 → 0 ≤ H.2.2.1 67 0 (x1407)) := r1408
          have rL_proposal := r1408'
          try dsimp only [Option.toList, List.append, List.cons_append, List.nil_append]
          have f1409 : 0 ≤ H.2.2.1 74 0 (n) ∧ H.2.2.1 74 0 (n) ≤ 2 := hT.1 74 (n)
          refine J.run 5 rfl (show 0 ≤ n ∧ n < 16 from ⟨by omega, by omega⟩) ?_
          try dsimp only
          refine J.ifc rfl rfl rfl (show -2147483648 ≤ H.2.2.1 74 0 (n) ∧ H.2.2.1 74 0 (n) ≤ 2147483647 from ⟨by omega, by omega⟩) (fun hc => ?_) (fun hc => ?_)
          · have c1410 : ¬ (H.2.2.1 74 0 (n) = (0 : Int)) := hc
            clear hc
            exact (g_isMoved_l2 (H0 := H0) (n := n) (u := u)  hp0 hp1 hp2 hp3 ((0 : Int).toNat + 1)) (H.2.2.1 73 0 (n)) (x1407) H _ (show 0 < _ by omega) (show (H.2.2.1 73 0 (n)) = H0.2.2.1 73 0 (n) from by omega) (show -1 ≤ (x1407) ∧ (x1407) ≤ 5999 from ⟨by omega, by omega⟩) (show 0 ≤ (x1407) → 0 ≤ H.2.2.1 67 0 ((x1407)) from by omega) (show H.2.2.1 73 0 (n) = H0.2.2.1 73 0 (n) from by omega) (show H.2.2.1 74 0 (n) = H0.2.2.1 74 0 (n) from by omega) (show H.2.2.1 115 0 (n) = H0.2.2.1 115 0 (n) from by omega) (show H.2.2.1 72 0 (n) = H0.2.2.1 72 0 (n) from by omega) (show H.2.2.1 79 0 (n) = 0 from by omega) (show H.2.2.1 80 0 (n) = 0 from by omega) (show H.2.2.1 56 0 (H0.2.2.1 72 0 (n)) = H0.2.2.1 56 0 (H0.2.2.1 72 0 (n)) from by omega) (show H.2.2.1 83 0 (n) ≤ 3 * H0.2.2.1 73 0 (n) + H0.2.2.1 74 0 (n) + 1 from by omega) (show H0.1 11 19 0 ≤ H.1 11 19 0 from by omega) (show 0 ≤ H0.2.2.1 73 0 (n) ∧ H0.2.2.1 73 0 (n) ≤ 31 from ⟨by omega, by omega⟩) (show 0 ≤ H0.2.2.1 74 0 (n) ∧ H0.2.2.1 74 0 (n) ≤ 2 from ⟨by omega, by omega⟩) (show 0 ≤ H0.2.2.1 115 0 (n) ∧ H0.2.2.1 115 0 (n) ≤ 1 from ⟨by omega, by omega⟩) (show 0 ≤ H0.2.2.1 72 0 (n) ∧ H0.2.2.1 72 0 (n) ≤ 299 from ⟨by omega, by omega⟩) hT hE k0gP k0gX k0gL k0gZ k0gQ k0gB k0gK k0gN k0gW k0gU (Or.inr (Or.inr (⟨_, _, rfl⟩)))
          · have c1411 : ¬ (¬ (H.2.2.1 74 0 (n) = (0 : Int))) := hc
            clear hc
            refine J.run0 1 rfl ?_
            try dsimp only
            refine J.ifc rfl rfl rfl (show -2147483648 ≤ x1407 ∧ x1407 ≤ 2147483647 from ⟨by omega, by omega⟩) (fun hc => ?_) (fun hc => ?_)
            · have c1412 : x1407 < (0 : Int) := hc
              clear hc
              exact (g_isMoved_l2 (H0 := H0) (n := n) (u := u)  hp0 hp1 hp2 hp3 ((0 : Int).toNat + 1)) (H.2.2.1 73 0 (n)) (x1407) H _ (show 0 < _ by omega) (show (H.2.2.1 73 0 (n)) = H0.2.2.1 73 0 (n) from by omega) (show -1 ≤ (x1407) ∧ (x1407) ≤ 5999 from ⟨by omega, by omega⟩) (show 0 ≤ (x1407) → 0 ≤ H.2.2.1 67 0 ((x1407)) from by omega) (show H.2.2.1 73 0 (n) = H0.2.2.1 73 0 (n) from by omega) (show H.2.2.1 74 0 (n) = H0.2.2.1 74 0 (n) from by omega) (show H.2.2.1 115 0 (n) = H0.2.2.1 115 0 (n) from by omega) (show H.2.2.1 72 0 (n) = H0.2.2.1 72 0 (n) from by omega) (show H.2.2.1 79 0 (n) = 0 from by omega) (show H.2.2.1 80 0 (n) = 0 from by omega) (show H.2.2.1 56 0 (H0.2.2.1 72 0 (n)) = H0.2.2.1 56 0 (H0.2.2.1 72 0 (n)) from by omega) (show H.2.2.1 83 0 (n) ≤ 3 * H0.2.2.1 73 0 (n) + H0.2.2.1 74 0 (n) + 1 from by omega) (show H0.1 11 19 0 ≤ H.1 11 19 0 from by omega) (show 0 ≤ H0.2.2.1 73 0 (n) ∧ H0.2.2.1 73 0 (n) ≤ 31 from ⟨by omega, by omega⟩) (show 0 ≤ H0.2.2.1 74 0 (n) ∧ H0.2.2.1 74 0 (n) ≤ 2 from ⟨by omega, by omega⟩) (show 0 ≤ H0.2.2.1 115 0 (n) ∧ H0.2.2.1 115 0 (n) ≤ 1 from ⟨by omega, by omega⟩) (show 0 ≤ H0.2.2.1 72 0 (n) ∧ H0.2.2.1 72 0 (n) ≤ 299 from ⟨by omega, by omega⟩) hT hE k0gP k0gX k0gL k0gZ k0gQ k0gB k0gK k0gN k0gW k0gU (Or.inr (Or.inr (⟨_, _, rfl⟩)))
            · have c1413 : ¬ (x1407 < (0 : Int)) := hc
              clear hc
              have f1414 : -1 ≤ H.2.2.1 67 0 (x1407) ∧ H.2.2.1 67 0 (x1407) ≤ 299 := hT.1 67 (x1407)
              have f1415 : 1 ≤ H.1 11 12 0 ∧ H.1 11 12 0 ≤ 300 := hT.2.1 12
              have f1414b : H.2.2.1 67 0 (x1407) < H.1 11 12 0 := hT.2.2.1 67 (x1407) rfl
              have f1416 : -1 ≤ H.2.2.1 68 0 (x1407) ∧ H.2.2.1 68 0 (x1407) ≤ 31 := hT.1 68 (x1407)
              refine J.run 11 rfl ⟨(show 0 ≤ x1407 ∧ x1407 < 6000 from ⟨by omega, by omega⟩), (show 0 ≤ x1407 ∧ x1407 < 6000 from ⟨by omega, by omega⟩)⟩ ?_
              try dsimp only
              refine J.ifc rfl rfl rfl (show -2147483648 ≤ H.2.2.1 68 0 (x1407) ∧ H.2.2.1 68 0 (x1407) ≤ 2147483647 from ⟨by omega, by omega⟩) (fun hc => ?_) (fun hc => ?_)
              · have c1417 : H.2.2.1 68 0 (x1407) < (0 : Int) := hc
                clear hc
                refine J.run0 4 rfl ?_
                try dsimp only
                refine J.ifc rfl rfl rfl (show -2147483648 ≤ (1 : Int) ∧ (1 : Int) ≤ 2147483647 from ⟨by omega, by omega⟩) (fun hc => ?_) (fun hc => ?_)
                · have c1418 : (1 : Int) = (0 : Int) := hc
                  clear hc
                  exfalso
                  omega
                · have c1419 : ¬ ((1 : Int) = (0 : Int)) := hc
                  clear hc
                  refine J.run0 3 rfl ?_
                  try dsimp only
                  refine J.inv rfl rfl rfl rfl rfl rfl jDr rfl rfl rfl rfl rfl (g_isGood (n := n) (b := H.2.2.1 67 0 (x1407)) hT k0gP k0gX k0gL k0gZ (show 0 ≤ (n) ∧ (n) < 16 from ⟨by omega, by omega⟩) (show 0 ≤ (H.2.2.1 67 0 (x1407)) ∧ (H.2.2.1 67 0 (x1407)) < 300 from ⟨by omega, by omega⟩) (show (H.2.2.1 67 0 (x1407)) < H.1 11 12 0 from by omega)) ?_
                  rintro v w H1422 ⟨rfl, hT1423, ehE1424, k1425, k1426, k1427, k1428, x1420, rfl, r1421⟩
                  have hE1424 := jEx.trans ehE1424 hE (by decide) (by decide)
                  have r1421' : 0 ≤ x1420 ∧ x1420 ≤ 1 ∧ (x1420 = 1 → H1422.2.2.1 55 0 ((H.2.2.1 67 0 (x1407))) = H1422.2.2.1 72 0 ((n))) := r1421
                  have k1429 : gQ H1422 := gQ.ex k0gQ ehE1424 (by decide)
                  have k1430 : gB H1422 := gB.ex k0gB ehE1424 (by decide)
                  have k1431 : gK H1422 := gK.ex k0gK ehE1424 (by decide)
                  have k1432 : gN H1422 := gN.ex k0gN ehE1424 (by decide)
                  have k1433 : gW H1422 (H1422.1 11 19 0) := gWm.ex k0gW ehE1424 (by decide)
                  have k1434 : gU H1422 u := gU.ex k0gU ehE1424 (by decide)
                  have g1435 : H1422.1 11 12 0 = H.1 11 12 0 := ehE1424.v 12 (by decide)
                  have g1436 : H1422.1 11 19 0 = H.1 11 19 0 := ehE1424.v 19 (by decide)
                  have g1437 : H1422.2.2.1 73 0 (n) = H.2.2.1 73 0 (n) := congrFun (ehE1424.r 73 (by decide)) _
                  have g1438 : H1422.2.2.1 74 0 (n) = H.2.2.1 74 0 (n) := congrFun (ehE1424.r 74 (by decide)) _
                  have g1439 : H1422.2.2.1 115 0 (n) = H.2.2.1 115 0 (n) := congrFun (ehE1424.r 115 (by decide)) _
                  have g1440 : H1422.2.2.1 72 0 (n) = H.2.2.1 72 0 (n) := congrFun (ehE1424.r 72 (by decide)) _
                  have g1441 : H1422.2.2.1 79 0 (n) = H.2.2.1 79 0 (n) := congrFun (ehE1424.r 79 (by decide)) _
                  have g1442 : H1422.2.2.1 80 0 (n) = H.2.2.1 80 0 (n) := congrFun (ehE1424.r 80 (by decide)) _
                  have g1443 : H1422.2.2.1 56 0 (H0.2.2.1 72 0 (n)) = H.2.2.1 56 0 (H0.2.2.1 72 0 (n)) := congrFun (ehE1424.r 56 (by decide)) _
                  have g1444 : H1422.2.2.1 83 0 (n) = H.2.2.1 83 0 (n) := congrFun (ehE1424.r 83 (by decide)) _
                  have g1445 : H1422.2.2.1 67 0 (x1407) = H.2.2.1 67 0 (x1407) := congrFun (ehE1424.r 67 (by decide)) _
                  have g1446 : H1422.2.2.1 68 0 (x1407) = H.2.2.1 68 0 (x1407) := congrFun (ehE1424.r 68 (by decide)) _
                  have rL_isGood := r1421'
                  have eL_isGood := ehE1424
                  try dsimp only [Option.toList, List.append, List.cons_append, List.nil_append]
                  refine J.ifc rfl rfl rfl (show -2147483648 ≤ x1420 ∧ x1420 ≤ 2147483647 from ⟨by omega, by omega⟩) (fun hc => ?_) (fun hc => ?_)
                  · have c1447 : x1420 = (0 : Int) := hc
                    clear hc
                    refine J.run0 2 rfl ?_
                    try dsimp only
                    exact (g_isMoved_l3 (H0 := H0) (n := n) (u := u)  hp0 hp1 hp2 hp3 ((0 : Int).toNat + 1)) (H.2.2.1 73 0 (n)) (H.2.2.1 67 0 (x1407)) ((0 : Int)) H1422 _ (show 0 < _ by omega) (show (H.2.2.1 73 0 (n)) = H0.2.2.1 73 0 (n) from by omega) (show 0 ≤ (H.2.2.1 67 0 (x1407)) ∧ (H.2.2.1 67 0 (x1407)) < 300 from ⟨by omega, by omega⟩) (show (H.2.2.1 67 0 (x1407)) < H1422.1 11 12 0 from by omega) (show 0 ≤ ((0 : Int)) ∧ ((0 : Int)) ≤ 1 from ⟨by omega, by omega⟩) (show H0.2.2.1 74 0 (n) = 0 from by omega) (show H1422.2.2.1 73 0 (n) = H0.2.2.1 73 0 (n) from by omega) (show H1422.2.2.1 74 0 (n) = H0.2.2.1 74 0 (n) from by omega) (show H1422.2.2.1 115 0 (n) = H0.2.2.1 115 0 (n) from by omega) (show H1422.2.2.1 72 0 (n) = H0.2.2.1 72 0 (n) from by omega) (show H1422.2.2.1 79 0 (n) = 0 from by omega) (show H1422.2.2.1 80 0 (n) = 0 from by omega) (show H1422.2.2.1 56 0 (H0.2.2.1 72 0 (n)) = H0.2.2.1 56 0 (H0.2.2.1 72 0 (n)) from by omega) (show H1422.2.2.1 83 0 (n) ≤ 3 * H0.2.2.1 73 0 (n) + H0.2.2.1 74 0 (n) + 1 from by omega) (show H0.1 11 19 0 ≤ H1422.1 11 19 0 from by omega) (show 0 ≤ H0.2.2.1 73 0 (n) ∧ H0.2.2.1 73 0 (n) ≤ 31 from ⟨by omega, by omega⟩) (show 0 ≤ H0.2.2.1 74 0 (n) ∧ H0.2.2.1 74 0 (n) ≤ 2 from ⟨by omega, by omega⟩) (show 0 ≤ H0.2.2.1 115 0 (n) ∧ H0.2.2.1 115 0 (n) ≤ 1 from ⟨by omega, by omega⟩) (show 0 ≤ H0.2.2.1 72 0 (n) ∧ H0.2.2.1 72 0 (n) ≤ 299 from ⟨by omega, by omega⟩) hT1423 hE1424 k1425 k1426 k1427 k1428 k1429 k1430 k1431 k1432 k1433 k1434 ⟨_, _, _, _, rfl⟩
                  · have c1448 : ¬ (x1420 = (0 : Int)) := hc
                    clear hc
                    have f1449 : -1 ≤ H1422.2.2.1 75 0 (n) ∧ H1422.2.2.1 75 0 (n) ≤ 299 := hT1423.1 75 (n)
                    refine J.run 4 rfl (show 0 ≤ n ∧ n < 16 from ⟨by omega, by omega⟩) ?_
                    try dsimp only
                    refine J.ifc rfl rfl rfl (show -2147483648 ≤ H1422.2.2.1 75 0 (n) ∧ H1422.2.2.1 75 0 (n) ≤ 2147483647 from ⟨by omega, by omega⟩) (fun hc => ?_) (fun hc => ?_)
                    · have c1450 : H1422.2.2.1 75 0 (n) < (0 : Int) := hc
                      clear hc
                      refine J.run0 3 rfl ?_
                      try dsimp only
                      exact (g_isMoved_l3 (H0 := H0) (n := n) (u := u)  hp0 hp1 hp2 hp3 ((0 : Int).toNat + 1)) (H.2.2.1 73 0 (n)) (H.2.2.1 67 0 (x1407)) ((1 : Int)) H1422 _ (show 0 < _ by omega) (show (H.2.2.1 73 0 (n)) = H0.2.2.1 73 0 (n) from by omega) (show 0 ≤ (H.2.2.1 67 0 (x1407)) ∧ (H.2.2.1 67 0 (x1407)) < 300 from ⟨by omega, by omega⟩) (show (H.2.2.1 67 0 (x1407)) < H1422.1 11 12 0 from by omega) (show 0 ≤ ((1 : Int)) ∧ ((1 : Int)) ≤ 1 from ⟨by omega, by omega⟩) (show H0.2.2.1 74 0 (n) = 0 from by omega) (show H1422.2.2.1 73 0 (n) = H0.2.2.1 73 0 (n) from by omega) (show H1422.2.2.1 74 0 (n) = H0.2.2.1 74 0 (n) from by omega) (show H1422.2.2.1 115 0 (n) = H0.2.2.1 115 0 (n) from by omega) (show H1422.2.2.1 72 0 (n) = H0.2.2.1 72 0 (n) from by omega) (show H1422.2.2.1 79 0 (n) = 0 from by omega) (show H1422.2.2.1 80 0 (n) = 0 from by omega) (show H1422.2.2.1 56 0 (H0.2.2.1 72 0 (n)) = H0.2.2.1 56 0 (H0.2.2.1 72 0 (n)) from by omega) (show H1422.2.2.1 83 0 (n) ≤ 3 * H0.2.2.1 73 0 (n) + H0.2.2.1 74 0 (n) + 1 from by omega) (show H0.1 11 19 0 ≤ H1422.1 11 19 0 from by omega) (show 0 ≤ H0.2.2.1 73 0 (n) ∧ H0.2.2.1 73 0 (n) ≤ 31 from ⟨by omega, by omega⟩) (show 0 ≤ H0.2.2.1 74 0 (n) ∧ H0.2.2.1 74 0 (n) ≤ 2 from ⟨by omega, by omega⟩) (show 0 ≤ H0.2.2.1 115 0 (n) ∧ H0.2.2.1 115 0 (n) ≤ 1 from ⟨by omega, by omega⟩) (show 0 ≤ H0.2.2.1 72 0 (n) ∧ H0.2.2.1 72 0 (n) ≤ 299 from ⟨by omega, by omega⟩) hT1423 hE1424 k1425 k1426 k1427 k1428 k1429 k1430 k1431 k1432 k1433 k1434 ⟨_, _, _, _, rfl⟩
                    · have c1451 : ¬ (H1422.2.2.1 75 0 (n) < (0 : Int)) := hc
                      clear hc
                      refine J.run 5 rfl (show 0 ≤ n ∧ n < 16 from ⟨by omega, by omega⟩) ?_
                      try dsimp only
                      refine J.icmp rfl rfl rfl ⟨(show -2147483648 ≤ H1422.2.2.1 75 0 (n) ∧ H1422.2.2.1 75 0 (n) ≤ 2147483647 from ⟨by omega, by omega⟩), (show -2147483648 ≤ H.2.2.1 67 0 (x1407) ∧ H.2.2.1 67 0 (x1407) ≤ 2147483647 from ⟨by omega, by omega⟩)⟩ (fun hc => ?_) (fun hc => ?_)
                      · have c1452 : H1422.2.2.1 75 0 (n) = H.2.2.1 67 0 (x1407) := hc
                        clear hc
                        refine J.run0 3 rfl ?_
                        try dsimp only
                        exact (g_isMoved_l3 (H0 := H0) (n := n) (u := u)  hp0 hp1 hp2 hp3 ((0 : Int).toNat + 1)) (H.2.2.1 73 0 (n)) (H.2.2.1 67 0 (x1407)) ((1 : Int)) H1422 _ (show 0 < _ by omega) (show (H.2.2.1 73 0 (n)) = H0.2.2.1 73 0 (n) from by omega) (show 0 ≤ (H.2.2.1 67 0 (x1407)) ∧ (H.2.2.1 67 0 (x1407)) < 300 from ⟨by omega, by omega⟩) (show (H.2.2.1 67 0 (x1407)) < H1422.1 11 12 0 from by omega) (show 0 ≤ ((1 : Int)) ∧ ((1 : Int)) ≤ 1 from ⟨by omega, by omega⟩) (show H0.2.2.1 74 0 (n) = 0 from by omega) (show H1422.2.2.1 73 0 (n) = H0.2.2.1 73 0 (n) from by omega) (show H1422.2.2.1 74 0 (n) = H0.2.2.1 74 0 (n) from by omega) (show H1422.2.2.1 115 0 (n) = H0.2.2.1 115 0 (n) from by omega) (show H1422.2.2.1 72 0 (n) = H0.2.2.1 72 0 (n) from by omega) (show H1422.2.2.1 79 0 (n) = 0 from by omega) (show H1422.2.2.1 80 0 (n) = 0 from by omega) (show H1422.2.2.1 56 0 (H0.2.2.1 72 0 (n)) = H0.2.2.1 56 0 (H0.2.2.1 72 0 (n)) from by omega) (show H1422.2.2.1 83 0 (n) ≤ 3 * H0.2.2.1 73 0 (n) + H0.2.2.1 74 0 (n) + 1 from by omega) (show H0.1 11 19 0 ≤ H1422.1 11 19 0 from by omega) (show 0 ≤ H0.2.2.1 73 0 (n) ∧ H0.2.2.1 73 0 (n) ≤ 31 from ⟨by omega, by omega⟩) (show 0 ≤ H0.2.2.1 74 0 (n) ∧ H0.2.2.1 74 0 (n) ≤ 2 from ⟨by omega, by omega⟩) (show 0 ≤ H0.2.2.1 115 0 (n) ∧ H0.2.2.1 115 0 (n) ≤ 1 from ⟨by omega, by omega⟩) (show 0 ≤ H0.2.2.1 72 0 (n) ∧ H0.2.2.1 72 0 (n) ≤ 299 from ⟨by omega, by omega⟩) hT1423 hE1424 k1425 k1426 k1427 k1428 k1429 k1430 k1431 k1432 k1433 k1434 ⟨_, _, _, _, rfl⟩
                      · have c1453 : ¬ (H1422.2.2.1 75 0 (n) = H.2.2.1 67 0 (x1407)) := hc
                        clear hc
                        refine J.run0 1 rfl ?_
                        try dsimp only
                        refine J.ifc rfl rfl rfl (show -2147483648 ≤ H.2.2.1 68 0 (x1407) ∧ H.2.2.1 68 0 (x1407) ≤ 2147483647 from ⟨by omega, by omega⟩) (fun hc => ?_) (fun hc => ?_)
                        · have c1454 : H.2.2.1 68 0 (x1407) < (0 : Int) := hc
                          clear hc
                          refine J.run0 2 rfl ?_
                          try dsimp only
                          exact (g_isMoved_l3 (H0 := H0) (n := n) (u := u)  hp0 hp1 hp2 hp3 ((0 : Int).toNat + 1)) (H.2.2.1 73 0 (n)) (H.2.2.1 67 0 (x1407)) ((0 : Int)) H1422 _ (show 0 < _ by omega) (show (H.2.2.1 73 0 (n)) = H0.2.2.1 73 0 (n) from by omega) (show 0 ≤ (H.2.2.1 67 0 (x1407)) ∧ (H.2.2.1 67 0 (x1407)) < 300 from ⟨by omega, by omega⟩) (show (H.2.2.1 67 0 (x1407)) < H1422.1 11 12 0 from by omega) (show 0 ≤ ((0 : Int)) ∧ ((0 : Int)) ≤ 1 from ⟨by omega, by omega⟩) (show H0.2.2.1 74 0 (n) = 0 from by omega) (show H1422.2.2.1 73 0 (n) = H0.2.2.1 73 0 (n) from by omega) (show H1422.2.2.1 74 0 (n) = H0.2.2.1 74 0 (n) from by omega) (show H1422.2.2.1 115 0 (n) = H0.2.2.1 115 0 (n) from by omega) (show H1422.2.2.1 72 0 (n) = H0.2.2.1 72 0 (n) from by omega) (show H1422.2.2.1 79 0 (n) = 0 from by omega) (show H1422.2.2.1 80 0 (n) = 0 from by omega) (show H1422.2.2.1 56 0 (H0.2.2.1 72 0 (n)) = H0.2.2.1 56 0 (H0.2.2.1 72 0 (n)) from by omega) (show H1422.2.2.1 83 0 (n) ≤ 3 * H0.2.2.1 73 0 (n) + H0.2.2.1 74 0 (n) + 1 from by omega) (show H0.1 11 19 0 ≤ H1422.1 11 19 0 from by omega) (show 0 ≤ H0.2.2.1 73 0 (n) ∧ H0.2.2.1 73 0 (n) ≤ 31 from ⟨by omega, by omega⟩) (show 0 ≤ H0.2.2.1 74 0 (n) ∧ H0.2.2.1 74 0 (n) ≤ 2 from ⟨by omega, by omega⟩) (show 0 ≤ H0.2.2.1 115 0 (n) ∧ H0.2.2.1 115 0 (n) ≤ 1 from ⟨by omega, by omega⟩) (show 0 ≤ H0.2.2.1 72 0 (n) ∧ H0.2.2.1 72 0 (n) ≤ 299 from ⟨by omega, by omega⟩) hT1423 hE1424 k1425 k1426 k1427 k1428 k1429 k1430 k1431 k1432 k1433 k1434 ⟨_, _, _, _, rfl⟩
                        · have c1455 : ¬ (H.2.2.1 68 0 (x1407) < (0 : Int)) := hc
                          clear hc
                          have f1456 : -1 ≤ H1422.2.2.1 76 0 (n) ∧ H1422.2.2.1 76 0 (n) ≤ 31 := hT1423.1 76 (n)
                          refine J.run 5 rfl (show 0 ≤ n ∧ n < 16 from ⟨by omega, by omega⟩) ?_
                          try dsimp only
                          refine J.icmp rfl rfl rfl ⟨(show -2147483648 ≤ H1422.2.2.1 76 0 (n) ∧ H1422.2.2.1 76 0 (n) ≤ 2147483647 from ⟨by omega, by omega⟩), (show -2147483648 ≤ H.2.2.1 68 0 (x1407) ∧ H.2.2.1 68 0 (x1407) ≤ 2147483647 from ⟨by omega, by omega⟩)⟩ (fun hc => ?_) (fun hc => ?_)
                          · have c1457 : H.2.2.1 68 0 (x1407) < H1422.2.2.1 76 0 (n) := hc
                            clear hc
                            refine J.run0 2 rfl ?_
                            try dsimp only
                            exact (g_isMoved_l3 (H0 := H0) (n := n) (u := u)  hp0 hp1 hp2 hp3 ((0 : Int).toNat + 1)) (H.2.2.1 73 0 (n)) (H.2.2.1 67 0 (x1407)) ((0 : Int)) H1422 _ (show 0 < _ by omega) (show (H.2.2.1 73 0 (n)) = H0.2.2.1 73 0 (n) from by omega) (show 0 ≤ (H.2.2.1 67 0 (x1407)) ∧ (H.2.2.1 67 0 (x1407)) < 300 from ⟨by omega, by omega⟩) (show (H.2.2.1 67 0 (x1407)) < H1422.1 11 12 0 from by omega) (show 0 ≤ ((0 : Int)) ∧ ((0 : Int)) ≤ 1 from ⟨by omega, by omega⟩) (show H0.2.2.1 74 0 (n) = 0 from by omega) (show H1422.2.2.1 73 0 (n) = H0.2.2.1 73 0 (n) from by omega) (show H1422.2.2.1 74 0 (n) = H0.2.2.1 74 0 (n) from by omega) (show H1422.2.2.1 115 0 (n) = H0.2.2.1 115 0 (n) from by omega) (show H1422.2.2.1 72 0 (n) = H0.2.2.1 72 0 (n) from by omega) (show H1422.2.2.1 79 0 (n) = 0 from by omega) (show H1422.2.2.1 80 0 (n) = 0 from by omega) (show H1422.2.2.1 56 0 (H0.2.2.1 72 0 (n)) = H0.2.2.1 56 0 (H0.2.2.1 72 0 (n)) from by omega) (show H1422.2.2.1 83 0 (n) ≤ 3 * H0.2.2.1 73 0 (n) + H0.2.2.1 74 0 (n) + 1 from by omega) (show H0.1 11 19 0 ≤ H1422.1 11 19 0 from by omega) (show 0 ≤ H0.2.2.1 73 0 (n) ∧ H0.2.2.1 73 0 (n) ≤ 31 from ⟨by omega, by omega⟩) (show 0 ≤ H0.2.2.1 74 0 (n) ∧ H0.2.2.1 74 0 (n) ≤ 2 from ⟨by omega, by omega⟩) (show 0 ≤ H0.2.2.1 115 0 (n) ∧ H0.2.2.1 115 0 (n) ≤ 1 from ⟨by omega, by omega⟩) (show 0 ≤ H0.2.2.1 72 0 (n) ∧ H0.2.2.1 72 0 (n) ≤ 299 from ⟨by omega, by omega⟩) hT1423 hE1424 k1425 k1426 k1427 k1428 k1429 k1430 k1431 k1432 k1433 k1434 ⟨_, _, _, _, rfl⟩
                          · have c1458 : ¬ (H.2.2.1 68 0 (x1407) < H1422.2.2.1 76 0 (n)) := hc
                            clear hc
                            refine J.run0 3 rfl ?_
                            try dsimp only
                            exact (g_isMoved_l3 (H0 := H0) (n := n) (u := u)  hp0 hp1 hp2 hp3 ((0 : Int).toNat + 1)) (H.2.2.1 73 0 (n)) (H.2.2.1 67 0 (x1407)) ((1 : Int)) H1422 _ (show 0 < _ by omega) (show (H.2.2.1 73 0 (n)) = H0.2.2.1 73 0 (n) from by omega) (show 0 ≤ (H.2.2.1 67 0 (x1407)) ∧ (H.2.2.1 67 0 (x1407)) < 300 from ⟨by omega, by omega⟩) (show (H.2.2.1 67 0 (x1407)) < H1422.1 11 12 0 from by omega) (show 0 ≤ ((1 : Int)) ∧ ((1 : Int)) ≤ 1 from ⟨by omega, by omega⟩) (show H0.2.2.1 74 0 (n) = 0 from by omega) (show H1422.2.2.1 73 0 (n) = H0.2.2.1 73 0 (n) from by omega) (show H1422.2.2.1 74 0 (n) = H0.2.2.1 74 0 (n) from by omega) (show H1422.2.2.1 115 0 (n) = H0.2.2.1 115 0 (n) from by omega) (show H1422.2.2.1 72 0 (n) = H0.2.2.1 72 0 (n) from by omega) (show H1422.2.2.1 79 0 (n) = 0 from by omega) (show H1422.2.2.1 80 0 (n) = 0 from by omega) (show H1422.2.2.1 56 0 (H0.2.2.1 72 0 (n)) = H0.2.2.1 56 0 (H0.2.2.1 72 0 (n)) from by omega) (show H1422.2.2.1 83 0 (n) ≤ 3 * H0.2.2.1 73 0 (n) + H0.2.2.1 74 0 (n) + 1 from by omega) (show H0.1 11 19 0 ≤ H1422.1 11 19 0 from by omega) (show 0 ≤ H0.2.2.1 73 0 (n) ∧ H0.2.2.1 73 0 (n) ≤ 31 from ⟨by omega, by omega⟩) (show 0 ≤ H0.2.2.1 74 0 (n) ∧ H0.2.2.1 74 0 (n) ≤ 2 from ⟨by omega, by omega⟩) (show 0 ≤ H0.2.2.1 115 0 (n) ∧ H0.2.2.1 115 0 (n) ≤ 1 from ⟨by omega, by omega⟩) (show 0 ≤ H0.2.2.1 72 0 (n) ∧ H0.2.2.1 72 0 (n) ≤ 299 from ⟨by omega, by omega⟩) hT1423 hE1424 k1425 k1426 k1427 k1428 k1429 k1430 k1431 k1432 k1433 k1434 ⟨_, _, _, _, rfl⟩
              · have c1459 : ¬ (H.2.2.1 68 0 (x1407) < (0 : Int)) := hc
                clear hc
                refine J.run0 2 rfl ?_
                try dsimp only
                refine J.icmp rfl rfl rfl ⟨(show -2147483648 ≤ H.2.2.1 68 0 (x1407) ∧ H.2.2.1 68 0 (x1407) ≤ 2147483647 from ⟨by omega, by omega⟩), (show -2147483648 ≤ H.2.2.1 73 0 (n) ∧ H.2.2.1 73 0 (n) ≤ 2147483647 from ⟨by omega, by omega⟩)⟩ (fun hc => ?_) (fun hc => ?_)
                · have c1460 : H.2.2.1 73 0 (n) ≤ H.2.2.1 68 0 (x1407) := hc
                  clear hc
                  refine J.run0 3 rfl ?_
                  try dsimp only
                  refine J.ifc rfl rfl rfl (show -2147483648 ≤ (0 : Int) ∧ (0 : Int) ≤ 2147483647 from ⟨by omega, by omega⟩) (fun hc => ?_) (fun hc => ?_)
                  · have c1461 : (0 : Int) = (0 : Int) := hc
                    clear hc
                    exact (g_isMoved_l2 (H0 := H0) (n := n) (u := u)  hp0 hp1 hp2 hp3 ((0 : Int).toNat + 1)) (H.2.2.1 73 0 (n)) (x1407) H _ (show 0 < _ by omega) (show (H.2.2.1 73 0 (n)) = H0.2.2.1 73 0 (n) from by omega) (show -1 ≤ (x1407) ∧ (x1407) ≤ 5999 from ⟨by omega, by omega⟩) (show 0 ≤ (x1407) → 0 ≤ H.2.2.1 67 0 ((x1407)) from by omega) (show H.2.2.1 73 0 (n) = H0.2.2.1 73 0 (n) from by omega) (show H.2.2.1 74 0 (n) = H0.2.2.1 74 0 (n) from by omega) (show H.2.2.1 115 0 (n) = H0.2.2.1 115 0 (n) from by omega) (show H.2.2.1 72 0 (n) = H0.2.2.1 72 0 (n) from by omega) (show H.2.2.1 79 0 (n) = 0 from by omega) (show H.2.2.1 80 0 (n) = 0 from by omega) (show H.2.2.1 56 0 (H0.2.2.1 72 0 (n)) = H0.2.2.1 56 0 (H0.2.2.1 72 0 (n)) from by omega) (show H.2.2.1 83 0 (n) ≤ 3 * H0.2.2.1 73 0 (n) + H0.2.2.1 74 0 (n) + 1 from by omega) (show H0.1 11 19 0 ≤ H.1 11 19 0 from by omega) (show 0 ≤ H0.2.2.1 73 0 (n) ∧ H0.2.2.1 73 0 (n) ≤ 31 from ⟨by omega, by omega⟩) (show 0 ≤ H0.2.2.1 74 0 (n) ∧ H0.2.2.1 74 0 (n) ≤ 2 from ⟨by omega, by omega⟩) (show 0 ≤ H0.2.2.1 115 0 (n) ∧ H0.2.2.1 115 0 (n) ≤ 1 from ⟨by omega, by omega⟩) (show 0 ≤ H0.2.2.1 72 0 (n) ∧ H0.2.2.1 72 0 (n) ≤ 299 from ⟨by omega, by omega⟩) hT hE k0gP k0gX k0gL k0gZ k0gQ k0gB k0gK k0gN k0gW k0gU (Or.inr (Or.inl ⟨_, _, _, _, rfl⟩))
                  · have c1462 : ¬ ((0 : Int) = (0 : Int)) := hc
                    clear hc
                    exfalso
                    omega
                · have c1463 : ¬ (H.2.2.1 73 0 (n) ≤ H.2.2.1 68 0 (x1407)) := hc
                  clear hc
                  refine J.run0 5 rfl ?_
                  try dsimp only
                  refine J.inv rfl rfl rfl rfl rfl rfl jDr rfl rfl rfl rfl rfl (g_isMost (n := n) (kind := (1 : Int)) (r := H.2.2.1 68 0 (x1407)) (b := H.2.2.1 67 0 (x1407)) hT  (show 0 ≤ (n) ∧ (n) < 16 from ⟨by omega, by omega⟩) (show -2147483648 ≤ ((1 : Int)) ∧ ((1 : Int)) ≤ 2147483647 from ⟨by omega, by omega⟩) (show -2147483648 ≤ (H.2.2.1 68 0 (x1407)) ∧ (H.2.2.1 68 0 (x1407)) ≤ 2147483647 from ⟨by omega, by omega⟩) (show -2147483648 ≤ (H.2.2.1 67 0 (x1407)) ∧ (H.2.2.1 67 0 (x1407)) ≤ 2147483647 from ⟨by omega, by omega⟩)) ?_
                  rintro v w H1466 ⟨rfl, hT1467, ehE1468, x1464, rfl, r1465⟩
                  have hE1468 := jEx.trans ehE1468 hE (by decide) (by decide)
                  have r1465' : 0 ≤ x1464 ∧ x1464 ≤ 1 := r1465
                  have k1469 : gP H1466 := gP.ex k0gP ehE1468 (by decide)
                  have k1470 : gX H1466 := gX.ex k0gX ehE1468 (by decide)
                  have k1471 : gL H1466 := gL.ex k0gL ehE1468 (by decide)
                  have k1472 : gZ H1466 := gZ.ex k0gZ ehE1468 (by decide)
                  have k1473 : gQ H1466 := gQ.ex k0gQ ehE1468 (by decide)
                  have k1474 : gB H1466 := gB.ex k0gB ehE1468 (by decide)
                  have k1475 : gK H1466 := gK.ex k0gK ehE1468 (by decide)
                  have k1476 : gN H1466 := gN.ex k0gN ehE1468 (by decide)
                  have k1477 : gW H1466 (H1466.1 11 19 0) := gWm.ex k0gW ehE1468 (by decide)
                  have k1478 : gU H1466 u := gU.ex k0gU ehE1468 (by decide)
                  have g1479 : H1466.1 11 12 0 = H.1 11 12 0 := ehE1468.v 12 (by decide)
                  have g1480 : H1466.1 11 19 0 = H.1 11 19 0 := ehE1468.v 19 (by decide)
                  have g1481 : H1466.2.2.1 73 0 (n) = H.2.2.1 73 0 (n) := congrFun (ehE1468.r 73 (by decide)) _
                  have g1482 : H1466.2.2.1 74 0 (n) = H.2.2.1 74 0 (n) := congrFun (ehE1468.r 74 (by decide)) _
                  have g1483 : H1466.2.2.1 115 0 (n) = H.2.2.1 115 0 (n) := congrFun (ehE1468.r 115 (by decide)) _
                  have g1484 : H1466.2.2.1 72 0 (n) = H.2.2.1 72 0 (n) := congrFun (ehE1468.r 72 (by decide)) _
                  have g1485 : H1466.2.2.1 79 0 (n) = H.2.2.1 79 0 (n) := congrFun (ehE1468.r 79 (by decide)) _
                  have g1486 : H1466.2.2.1 80 0 (n) = H.2.2.1 80 0 (n) := congrFun (ehE1468.r 80 (by decide)) _
                  have g1487 : H1466.2.2.1 56 0 (H0.2.2.1 72 0 (n)) = H.2.2.1 56 0 (H0.2.2.1 72 0 (n)) := congrFun (ehE1468.r 56 (by decide)) _
                  have g1488 : H1466.2.2.1 83 0 (n) = H.2.2.1 83 0 (n) := congrFun (ehE1468.r 83 (by decide)) _
                  have g1489 : H1466.2.2.1 67 0 (x1407) = H.2.2.1 67 0 (x1407) := congrFun (ehE1468.r 67 (by decide)) _
                  have g1490 : H1466.2.2.1 68 0 (x1407) = H.2.2.1 68 0 (x1407) := congrFun (ehE1468.r 68 (by decide)) _
                  have rL_isMost := r1465'
                  have eL_isMost := ehE1468
                  try dsimp only [Option.toList, List.append, List.cons_append, List.nil_append]
                  refine J.ifc rfl rfl rfl (show -2147483648 ≤ x1464 ∧ x1464 ≤ 2147483647 from ⟨by omega, by omega⟩) (fun hc => ?_) (fun hc => ?_)
                  · have c1491 : x1464 = (0 : Int) := hc
                    clear hc
                    refine J.run0 3 rfl ?_
                    try dsimp only
                    refine J.ifc rfl rfl rfl (show -2147483648 ≤ (0 : Int) ∧ (0 : Int) ≤ 2147483647 from ⟨by omega, by omega⟩) (fun hc => ?_) (fun hc => ?_)
                    · have c1492 : (0 : Int) = (0 : Int) := hc
                      clear hc
                      exact (g_isMoved_l2 (H0 := H0) (n := n) (u := u)  hp0 hp1 hp2 hp3 ((0 : Int).toNat + 1)) (H.2.2.1 73 0 (n)) (x1407) H1466 _ (show 0 < _ by omega) (show (H.2.2.1 73 0 (n)) = H0.2.2.1 73 0 (n) from by omega) (show -1 ≤ (x1407) ∧ (x1407) ≤ 5999 from ⟨by omega, by omega⟩) (show 0 ≤ (x1407) → 0 ≤ H1466.2.2.1 67 0 ((x1407)) from by omega) (show H1466.2.2.1 73 0 (n) = H0.2.2.1 73 0 (n) from by omega) (show H1466.2.2.1 74 0 (n) = H0.2.2.1 74 0 (n) from by omega) (show H1466.2.2.1 115 0 (n) = H0.2.2.1 115 0 (n) from by omega) (show H1466.2.2.1 72 0 (n) = H0.2.2.1 72 0 (n) from by omega) (show H1466.2.2.1 79 0 (n) = 0 from by omega) (show H1466.2.2.1 80 0 (n) = 0 from by omega) (show H1466.2.2.1 56 0 (H0.2.2.1 72 0 (n)) = H0.2.2.1 56 0 (H0.2.2.1 72 0 (n)) from by omega) (show H1466.2.2.1 83 0 (n) ≤ 3 * H0.2.2.1 73 0 (n) + H0.2.2.1 74 0 (n) + 1 from by omega) (show H0.1 11 19 0 ≤ H1466.1 11 19 0 from by omega) (show 0 ≤ H0.2.2.1 73 0 (n) ∧ H0.2.2.1 73 0 (n) ≤ 31 from ⟨by omega, by omega⟩) (show 0 ≤ H0.2.2.1 74 0 (n) ∧ H0.2.2.1 74 0 (n) ≤ 2 from ⟨by omega, by omega⟩) (show 0 ≤ H0.2.2.1 115 0 (n) ∧ H0.2.2.1 115 0 (n) ≤ 1 from ⟨by omega, by omega⟩) (show 0 ≤ H0.2.2.1 72 0 (n) ∧ H0.2.2.1 72 0 (n) ≤ 299 from ⟨by omega, by omega⟩) hT1467 hE1468 k1469 k1470 k1471 k1472 k1473 k1474 k1475 k1476 k1477 k1478 (Or.inr (Or.inl ⟨_, _, _, _, rfl⟩))
                    · have c1493 : ¬ ((0 : Int) = (0 : Int)) := hc
                      clear hc
                      exfalso
                      omega
                  · have c1494 : ¬ (x1464 = (0 : Int)) := hc
                    clear hc
                    refine J.run0 4 rfl ?_
                    try dsimp only
                    refine J.ifc rfl rfl rfl (show -2147483648 ≤ (1 : Int) ∧ (1 : Int) ≤ 2147483647 from ⟨by omega, by omega⟩) (fun hc => ?_) (fun hc => ?_)
                    · have c1495 : (1 : Int) = (0 : Int) := hc
                      clear hc
                      exfalso
                      omega
                    · have c1496 : ¬ ((1 : Int) = (0 : Int)) := hc
                      clear hc
                      refine J.run0 3 rfl ?_
                      try dsimp only
                      have f1497 : 1 ≤ H1466.1 11 12 0 ∧ H1466.1 11 12 0 ≤ 300 := hT1467.2.1 12
                      refine J.inv rfl rfl rfl rfl rfl rfl jDr rfl rfl rfl rfl rfl (g_isGood (n := n) (b := H.2.2.1 67 0 (x1407)) hT1467 k1469 k1470 k1471 k1472 (show 0 ≤ (n) ∧ (n) < 16 from ⟨by omega, by omega⟩) (show 0 ≤ (H.2.2.1 67 0 (x1407)) ∧ (H.2.2.1 67 0 (x1407)) < 300 from ⟨by omega, by omega⟩) (show (H.2.2.1 67 0 (x1407)) < H1466.1 11 12 0 from by omega)) ?_
                      rintro v w H1500 ⟨rfl, hT1501, ehE1502, k1503, k1504, k1505, k1506, x1498, rfl, r1499⟩
                      have hE1502 := jEx.trans ehE1502 hE1468 (by decide) (by decide)
                      have r1499' : 0 ≤ x1498 ∧ x1498 ≤ 1 ∧ (x1498 = 1 → H1500.2.2.1 55 0 ((H.2.2.1 67 0 (x1407))) = H1500.2.2.1 72 0 ((n))) := r1499
                      have k1507 : gQ H1500 := gQ.ex k1473 ehE1502 (by decide)
                      have k1508 : gB H1500 := gB.ex k1474 ehE1502 (by decide)
                      have k1509 : gK H1500 := gK.ex k1475 ehE1502 (by decide)
                      have k1510 : gN H1500 := gN.ex k1476 ehE1502 (by decide)
                      have k1511 : gW H1500 (H1500.1 11 19 0) := gWm.ex k1477 ehE1502 (by decide)
                      have k1512 : gU H1500 u := gU.ex k1478 ehE1502 (by decide)
                      have g1513 : H1500.1 11 12 0 = H1466.1 11 12 0 := ehE1502.v 12 (by decide)
                      have g1514 : H1500.1 11 19 0 = H1466.1 11 19 0 := ehE1502.v 19 (by decide)
                      have g1515 : H1500.2.2.1 73 0 (n) = H1466.2.2.1 73 0 (n) := congrFun (ehE1502.r 73 (by decide)) _
                      have g1516 : H1500.2.2.1 74 0 (n) = H1466.2.2.1 74 0 (n) := congrFun (ehE1502.r 74 (by decide)) _
                      have g1517 : H1500.2.2.1 115 0 (n) = H1466.2.2.1 115 0 (n) := congrFun (ehE1502.r 115 (by decide)) _
                      have g1518 : H1500.2.2.1 72 0 (n) = H1466.2.2.1 72 0 (n) := congrFun (ehE1502.r 72 (by decide)) _
                      have g1519 : H1500.2.2.1 79 0 (n) = H1466.2.2.1 79 0 (n) := congrFun (ehE1502.r 79 (by decide)) _
                      have g1520 : H1500.2.2.1 80 0 (n) = H1466.2.2.1 80 0 (n) := congrFun (ehE1502.r 80 (by decide)) _
                      have g1521 : H1500.2.2.1 56 0 (H0.2.2.1 72 0 (n)) = H1466.2.2.1 56 0 (H0.2.2.1 72 0 (n)) := congrFun (ehE1502.r 56 (by decide)) _
                      have g1522 : H1500.2.2.1 83 0 (n) = H1466.2.2.1 83 0 (n) := congrFun (ehE1502.r 83 (by decide)) _
                      have g1523 : H1500.2.2.1 67 0 (x1407) = H1466.2.2.1 67 0 (x1407) := congrFun (ehE1502.r 67 (by decide)) _
                      have g1524 : H1500.2.2.1 68 0 (x1407) = H1466.2.2.1 68 0 (x1407) := congrFun (ehE1502.r 68 (by decide)) _
                      have rL_isGood := r1499'
                      have eL_isGood := ehE1502
                      try dsimp only [Option.toList, List.append, List.cons_append, List.nil_append]
                      refine J.ifc rfl rfl rfl (show -2147483648 ≤ x1498 ∧ x1498 ≤ 2147483647 from ⟨by omega, by omega⟩) (fun hc => ?_) (fun hc => ?_)
                      · have c1525 : x1498 = (0 : Int) := hc
                        clear hc
                        refine J.run0 2 rfl ?_
                        try dsimp only
                        exact (g_isMoved_l3 (H0 := H0) (n := n) (u := u)  hp0 hp1 hp2 hp3 ((0 : Int).toNat + 1)) (H.2.2.1 73 0 (n)) (H.2.2.1 67 0 (x1407)) ((0 : Int)) H1500 _ (show 0 < _ by omega) (show (H.2.2.1 73 0 (n)) = H0.2.2.1 73 0 (n) from by omega) (show 0 ≤ (H.2.2.1 67 0 (x1407)) ∧ (H.2.2.1 67 0 (x1407)) < 300 from ⟨by omega, by omega⟩) (show (H.2.2.1 67 0 (x1407)) < H1500.1 11 12 0 from by omega) (show 0 ≤ ((0 : Int)) ∧ ((0 : Int)) ≤ 1 from ⟨by omega, by omega⟩) (show H0.2.2.1 74 0 (n) = 0 from by omega) (show H1500.2.2.1 73 0 (n) = H0.2.2.1 73 0 (n) from by omega) (show H1500.2.2.1 74 0 (n) = H0.2.2.1 74 0 (n) from by omega) (show H1500.2.2.1 115 0 (n) = H0.2.2.1 115 0 (n) from by omega) (show H1500.2.2.1 72 0 (n) = H0.2.2.1 72 0 (n) from by omega) (show H1500.2.2.1 79 0 (n) = 0 from by omega) (show H1500.2.2.1 80 0 (n) = 0 from by omega) (show H1500.2.2.1 56 0 (H0.2.2.1 72 0 (n)) = H0.2.2.1 56 0 (H0.2.2.1 72 0 (n)) from by omega) (show H1500.2.2.1 83 0 (n) ≤ 3 * H0.2.2.1 73 0 (n) + H0.2.2.1 74 0 (n) + 1 from by omega) (show H0.1 11 19 0 ≤ H1500.1 11 19 0 from by omega) (show 0 ≤ H0.2.2.1 73 0 (n) ∧ H0.2.2.1 73 0 (n) ≤ 31 from ⟨by omega, by omega⟩) (show 0 ≤ H0.2.2.1 74 0 (n) ∧ H0.2.2.1 74 0 (n) ≤ 2 from ⟨by omega, by omega⟩) (show 0 ≤ H0.2.2.1 115 0 (n) ∧ H0.2.2.1 115 0 (n) ≤ 1 from ⟨by omega, by omega⟩) (show 0 ≤ H0.2.2.1 72 0 (n) ∧ H0.2.2.1 72 0 (n) ≤ 299 from ⟨by omega, by omega⟩) hT1501 hE1502 k1503 k1504 k1505 k1506 k1507 k1508 k1509 k1510 k1511 k1512 ⟨_, _, _, _, rfl⟩
                      · have c1526 : ¬ (x1498 = (0 : Int)) := hc
                        clear hc
                        have f1527 : -1 ≤ H1500.2.2.1 75 0 (n) ∧ H1500.2.2.1 75 0 (n) ≤ 299 := hT1501.1 75 (n)
                        refine J.run 4 rfl (show 0 ≤ n ∧ n < 16 from ⟨by omega, by omega⟩) ?_
                        try dsimp only
                        refine J.ifc rfl rfl rfl (show -2147483648 ≤ H1500.2.2.1 75 0 (n) ∧ H1500.2.2.1 75 0 (n) ≤ 2147483647 from ⟨by omega, by omega⟩) (fun hc => ?_) (fun hc => ?_)
                        · have c1528 : H1500.2.2.1 75 0 (n) < (0 : Int) := hc
                          clear hc
                          refine J.run0 3 rfl ?_
                          try dsimp only
                          exact (g_isMoved_l3 (H0 := H0) (n := n) (u := u)  hp0 hp1 hp2 hp3 ((0 : Int).toNat + 1)) (H.2.2.1 73 0 (n)) (H.2.2.1 67 0 (x1407)) ((1 : Int)) H1500 _ (show 0 < _ by omega) (show (H.2.2.1 73 0 (n)) = H0.2.2.1 73 0 (n) from by omega) (show 0 ≤ (H.2.2.1 67 0 (x1407)) ∧ (H.2.2.1 67 0 (x1407)) < 300 from ⟨by omega, by omega⟩) (show (H.2.2.1 67 0 (x1407)) < H1500.1 11 12 0 from by omega) (show 0 ≤ ((1 : Int)) ∧ ((1 : Int)) ≤ 1 from ⟨by omega, by omega⟩) (show H0.2.2.1 74 0 (n) = 0 from by omega) (show H1500.2.2.1 73 0 (n) = H0.2.2.1 73 0 (n) from by omega) (show H1500.2.2.1 74 0 (n) = H0.2.2.1 74 0 (n) from by omega) (show H1500.2.2.1 115 0 (n) = H0.2.2.1 115 0 (n) from by omega) (show H1500.2.2.1 72 0 (n) = H0.2.2.1 72 0 (n) from by omega) (show H1500.2.2.1 79 0 (n) = 0 from by omega) (show H1500.2.2.1 80 0 (n) = 0 from by omega) (show H1500.2.2.1 56 0 (H0.2.2.1 72 0 (n)) = H0.2.2.1 56 0 (H0.2.2.1 72 0 (n)) from by omega) (show H1500.2.2.1 83 0 (n) ≤ 3 * H0.2.2.1 73 0 (n) + H0.2.2.1 74 0 (n) + 1 from by omega) (show H0.1 11 19 0 ≤ H1500.1 11 19 0 from by omega) (show 0 ≤ H0.2.2.1 73 0 (n) ∧ H0.2.2.1 73 0 (n) ≤ 31 from ⟨by omega, by omega⟩) (show 0 ≤ H0.2.2.1 74 0 (n) ∧ H0.2.2.1 74 0 (n) ≤ 2 from ⟨by omega, by omega⟩) (show 0 ≤ H0.2.2.1 115 0 (n) ∧ H0.2.2.1 115 0 (n) ≤ 1 from ⟨by omega, by omega⟩) (show 0 ≤ H0.2.2.1 72 0 (n) ∧ H0.2.2.1 72 0 (n) ≤ 299 from ⟨by omega, by omega⟩) hT1501 hE1502 k1503 k1504 k1505 k1506 k1507 k1508 k1509 k1510 k1511 k1512 ⟨_, _, _, _, rfl⟩
                        · have c1529 : ¬ (H1500.2.2.1 75 0 (n) < (0 : Int)) := hc
                          clear hc
                          refine J.run 5 rfl (show 0 ≤ n ∧ n < 16 from ⟨by omega, by omega⟩) ?_
                          try dsimp only
                          refine J.icmp rfl rfl rfl ⟨(show -2147483648 ≤ H1500.2.2.1 75 0 (n) ∧ H1500.2.2.1 75 0 (n) ≤ 2147483647 from ⟨by omega, by omega⟩), (show -2147483648 ≤ H.2.2.1 67 0 (x1407) ∧ H.2.2.1 67 0 (x1407) ≤ 2147483647 from ⟨by omega, by omega⟩)⟩ (fun hc => ?_) (fun hc => ?_)
                          · have c1530 : H1500.2.2.1 75 0 (n) = H.2.2.1 67 0 (x1407) := hc
                            clear hc
                            refine J.run0 3 rfl ?_
                            try dsimp only
                            exact (g_isMoved_l3 (H0 := H0) (n := n) (u := u)  hp0 hp1 hp2 hp3 ((0 : Int).toNat + 1)) (H.2.2.1 73 0 (n)) (H.2.2.1 67 0 (x1407)) ((1 : Int)) H1500 _ (show 0 < _ by omega) (show (H.2.2.1 73 0 (n)) = H0.2.2.1 73 0 (n) from by omega) (show 0 ≤ (H.2.2.1 67 0 (x1407)) ∧ (H.2.2.1 67 0 (x1407)) < 300 from ⟨by omega, by omega⟩) (show (H.2.2.1 67 0 (x1407)) < H1500.1 11 12 0 from by omega) (show 0 ≤ ((1 : Int)) ∧ ((1 : Int)) ≤ 1 from ⟨by omega, by omega⟩) (show H0.2.2.1 74 0 (n) = 0 from by omega) (show H1500.2.2.1 73 0 (n) = H0.2.2.1 73 0 (n) from by omega) (show H1500.2.2.1 74 0 (n) = H0.2.2.1 74 0 (n) from by omega) (show H1500.2.2.1 115 0 (n) = H0.2.2.1 115 0 (n) from by omega) (show H1500.2.2.1 72 0 (n) = H0.2.2.1 72 0 (n) from by omega) (show H1500.2.2.1 79 0 (n) = 0 from by omega) (show H1500.2.2.1 80 0 (n) = 0 from by omega) (show H1500.2.2.1 56 0 (H0.2.2.1 72 0 (n)) = H0.2.2.1 56 0 (H0.2.2.1 72 0 (n)) from by omega) (show H1500.2.2.1 83 0 (n) ≤ 3 * H0.2.2.1 73 0 (n) + H0.2.2.1 74 0 (n) + 1 from by omega) (show H0.1 11 19 0 ≤ H1500.1 11 19 0 from by omega) (show 0 ≤ H0.2.2.1 73 0 (n) ∧ H0.2.2.1 73 0 (n) ≤ 31 from ⟨by omega, by omega⟩) (show 0 ≤ H0.2.2.1 74 0 (n) ∧ H0.2.2.1 74 0 (n) ≤ 2 from ⟨by omega, by omega⟩) (show 0 ≤ H0.2.2.1 115 0 (n) ∧ H0.2.2.1 115 0 (n) ≤ 1 from ⟨by omega, by omega⟩) (show 0 ≤ H0.2.2.1 72 0 (n) ∧ H0.2.2.1 72 0 (n) ≤ 299 from ⟨by omega, by omega⟩) hT1501 hE1502 k1503 k1504 k1505 k1506 k1507 k1508 k1509 k1510 k1511 k1512 ⟨_, _, _, _, rfl⟩
                          · have c1531 : ¬ (H1500.2.2.1 75 0 (n) = H.2.2.1 67 0 (x1407)) := hc
                            clear hc
                            refine J.run0 1 rfl ?_
                            try dsimp only
                            refine J.ifc rfl rfl rfl (show -2147483648 ≤ H.2.2.1 68 0 (x1407) ∧ H.2.2.1 68 0 (x1407) ≤ 2147483647 from ⟨by omega, by omega⟩) (fun hc => ?_) (fun hc => ?_)
                            · have c1532 : H.2.2.1 68 0 (x1407) < (0 : Int) := hc
                              clear hc
                              refine J.run0 2 rfl ?_
                              try dsimp only
                              exact (g_isMoved_l3 (H0 := H0) (n := n) (u := u)  hp0 hp1 hp2 hp3 ((0 : Int).toNat + 1)) (H.2.2.1 73 0 (n)) (H.2.2.1 67 0 (x1407)) ((0 : Int)) H1500 _ (show 0 < _ by omega) (show (H.2.2.1 73 0 (n)) = H0.2.2.1 73 0 (n) from by omega) (show 0 ≤ (H.2.2.1 67 0 (x1407)) ∧ (H.2.2.1 67 0 (x1407)) < 300 from ⟨by omega, by omega⟩) (show (H.2.2.1 67 0 (x1407)) < H1500.1 11 12 0 from by omega) (show 0 ≤ ((0 : Int)) ∧ ((0 : Int)) ≤ 1 from ⟨by omega, by omega⟩) (show H0.2.2.1 74 0 (n) = 0 from by omega) (show H1500.2.2.1 73 0 (n) = H0.2.2.1 73 0 (n) from by omega) (show H1500.2.2.1 74 0 (n) = H0.2.2.1 74 0 (n) from by omega) (show H1500.2.2.1 115 0 (n) = H0.2.2.1 115 0 (n) from by omega) (show H1500.2.2.1 72 0 (n) = H0.2.2.1 72 0 (n) from by omega) (show H1500.2.2.1 79 0 (n) = 0 from by omega) (show H1500.2.2.1 80 0 (n) = 0 from by omega) (show H1500.2.2.1 56 0 (H0.2.2.1 72 0 (n)) = H0.2.2.1 56 0 (H0.2.2.1 72 0 (n)) from by omega) (show H1500.2.2.1 83 0 (n) ≤ 3 * H0.2.2.1 73 0 (n) + H0.2.2.1 74 0 (n) + 1 from by omega) (show H0.1 11 19 0 ≤ H1500.1 11 19 0 from by omega) (show 0 ≤ H0.2.2.1 73 0 (n) ∧ H0.2.2.1 73 0 (n) ≤ 31 from ⟨by omega, by omega⟩) (show 0 ≤ H0.2.2.1 74 0 (n) ∧ H0.2.2.1 74 0 (n) ≤ 2 from ⟨by omega, by omega⟩) (show 0 ≤ H0.2.2.1 115 0 (n) ∧ H0.2.2.1 115 0 (n) ≤ 1 from ⟨by omega, by omega⟩) (show 0 ≤ H0.2.2.1 72 0 (n) ∧ H0.2.2.1 72 0 (n) ≤ 299 from ⟨by omega, by omega⟩) hT1501 hE1502 k1503 k1504 k1505 k1506 k1507 k1508 k1509 k1510 k1511 k1512 ⟨_, _, _, _, rfl⟩
                            · have c1533 : ¬ (H.2.2.1 68 0 (x1407) < (0 : Int)) := hc
                              clear hc
                              have f1534 : -1 ≤ H1500.2.2.1 76 0 (n) ∧ H1500.2.2.1 76 0 (n) ≤ 31 := hT1501.1 76 (n)
                              refine J.run 5 rfl (show 0 ≤ n ∧ n < 16 from ⟨by omega, by omega⟩) ?_
                              try dsimp only
                              refine J.icmp rfl rfl rfl ⟨(show -2147483648 ≤ H1500.2.2.1 76 0 (n) ∧ H1500.2.2.1 76 0 (n) ≤ 2147483647 from ⟨by omega, by omega⟩), (show -2147483648 ≤ H.2.2.1 68 0 (x1407) ∧ H.2.2.1 68 0 (x1407) ≤ 2147483647 from ⟨by omega, by omega⟩)⟩ (fun hc => ?_) (fun hc => ?_)
                              · have c1535 : H.2.2.1 68 0 (x1407) < H1500.2.2.1 76 0 (n) := hc
                                clear hc
                                refine J.run0 2 rfl ?_
                                try dsimp only
                                exact (g_isMoved_l3 (H0 := H0) (n := n) (u := u)  hp0 hp1 hp2 hp3 ((0 : Int).toNat + 1)) (H.2.2.1 73 0 (n)) (H.2.2.1 67 0 (x1407)) ((0 : Int)) H1500 _ (show 0 < _ by omega) (show (H.2.2.1 73 0 (n)) = H0.2.2.1 73 0 (n) from by omega) (show 0 ≤ (H.2.2.1 67 0 (x1407)) ∧ (H.2.2.1 67 0 (x1407)) < 300 from ⟨by omega, by omega⟩) (show (H.2.2.1 67 0 (x1407)) < H1500.1 11 12 0 from by omega) (show 0 ≤ ((0 : Int)) ∧ ((0 : Int)) ≤ 1 from ⟨by omega, by omega⟩) (show H0.2.2.1 74 0 (n) = 0 from by omega) (show H1500.2.2.1 73 0 (n) = H0.2.2.1 73 0 (n) from by omega) (show H1500.2.2.1 74 0 (n) = H0.2.2.1 74 0 (n) from by omega) (show H1500.2.2.1 115 0 (n) = H0.2.2.1 115 0 (n) from by omega) (show H1500.2.2.1 72 0 (n) = H0.2.2.1 72 0 (n) from by omega) (show H1500.2.2.1 79 0 (n) = 0 from by omega) (show H1500.2.2.1 80 0 (n) = 0 from by omega) (show H1500.2.2.1 56 0 (H0.2.2.1 72 0 (n)) = H0.2.2.1 56 0 (H0.2.2.1 72 0 (n)) from by omega) (show H1500.2.2.1 83 0 (n) ≤ 3 * H0.2.2.1 73 0 (n) + H0.2.2.1 74 0 (n) + 1 from by omega) (show H0.1 11 19 0 ≤ H1500.1 11 19 0 from by omega) (show 0 ≤ H0.2.2.1 73 0 (n) ∧ H0.2.2.1 73 0 (n) ≤ 31 from ⟨by omega, by omega⟩) (show 0 ≤ H0.2.2.1 74 0 (n) ∧ H0.2.2.1 74 0 (n) ≤ 2 from ⟨by omega, by omega⟩) (show 0 ≤ H0.2.2.1 115 0 (n) ∧ H0.2.2.1 115 0 (n) ≤ 1 from ⟨by omega, by omega⟩) (show 0 ≤ H0.2.2.1 72 0 (n) ∧ H0.2.2.1 72 0 (n) ≤ 299 from ⟨by omega, by omega⟩) hT1501 hE1502 k1503 k1504 k1505 k1506 k1507 k1508 k1509 k1510 k1511 k1512 ⟨_, _, _, _, rfl⟩
                              · have c1536 : ¬ (H.2.2.1 68 0 (x1407) < H1500.2.2.1 76 0 (n)) := hc
                                clear hc
                                refine J.run0 3 rfl ?_
                                try dsimp only
                                exact (g_isMoved_l3 (H0 := H0) (n := n) (u := u)  hp0 hp1 hp2 hp3 ((0 : Int).toNat + 1)) (H.2.2.1 73 0 (n)) (H.2.2.1 67 0 (x1407)) ((1 : Int)) H1500 _ (show 0 < _ by omega) (show (H.2.2.1 73 0 (n)) = H0.2.2.1 73 0 (n) from by omega) (show 0 ≤ (H.2.2.1 67 0 (x1407)) ∧ (H.2.2.1 67 0 (x1407)) < 300 from ⟨by omega, by omega⟩) (show (H.2.2.1 67 0 (x1407)) < H1500.1 11 12 0 from by omega) (show 0 ≤ ((1 : Int)) ∧ ((1 : Int)) ≤ 1 from ⟨by omega, by omega⟩) (show H0.2.2.1 74 0 (n) = 0 from by omega) (show H1500.2.2.1 73 0 (n) = H0.2.2.1 73 0 (n) from by omega) (show H1500.2.2.1 74 0 (n) = H0.2.2.1 74 0 (n) from by omega) (show H1500.2.2.1 115 0 (n) = H0.2.2.1 115 0 (n) from by omega) (show H1500.2.2.1 72 0 (n) = H0.2.2.1 72 0 (n) from by omega) (show H1500.2.2.1 79 0 (n) = 0 from by omega) (show H1500.2.2.1 80 0 (n) = 0 from by omega) (show H1500.2.2.1 56 0 (H0.2.2.1 72 0 (n)) = H0.2.2.1 56 0 (H0.2.2.1 72 0 (n)) from by omega) (show H1500.2.2.1 83 0 (n) ≤ 3 * H0.2.2.1 73 0 (n) + H0.2.2.1 74 0 (n) + 1 from by omega) (show H0.1 11 19 0 ≤ H1500.1 11 19 0 from by omega) (show 0 ≤ H0.2.2.1 73 0 (n) ∧ H0.2.2.1 73 0 (n) ≤ 31 from ⟨by omega, by omega⟩) (show 0 ≤ H0.2.2.1 74 0 (n) ∧ H0.2.2.1 74 0 (n) ≤ 2 from ⟨by omega, by omega⟩) (show 0 ≤ H0.2.2.1 115 0 (n) ∧ H0.2.2.1 115 0 (n) ≤ 1 from ⟨by omega, by omega⟩) (show 0 ≤ H0.2.2.1 72 0 (n) ∧ H0.2.2.1 72 0 (n) ≤ 299 from ⟨by omega, by omega⟩) hT1501 hE1502 k1503 k1504 k1505 k1506 k1507 k1508 k1509 k1510 k1511 k1512 ⟨_, _, _, _, rfl⟩
        · have c1537 : ¬ (q ≤ H.2.2.1 73 0 (n)) := hc
          clear hc
          refine J.run0 1 rfl ?_
          try dsimp only
          refine J.inv rfl rfl rfl rfl rfl rfl jDr rfl rfl rfl rfl rfl (g_clear  hT  ) ?_
          rintro v w H1540 ⟨rfl, hT1541, ehE1542, rfl⟩
          have hE1542 := jEx.trans ehE1542 hE (by decide) (by decide)
          have k1543 : gP H1540 := gP.ex k0gP ehE1542 (by decide)
          have k1544 : gX H1540 := gX.ex k0gX ehE1542 (by decide)
          have k1545 : gL H1540 := gL.ex k0gL ehE1542 (by decide)
          have k1546 : gZ H1540 := gZ.ex k0gZ ehE1542 (by decide)
          have k1547 : gQ H1540 := gQ.ex k0gQ ehE1542 (by decide)
          have k1548 : gB H1540 := gB.ex k0gB ehE1542 (by decide)
          have k1549 : gK H1540 := gK.ex k0gK ehE1542 (by decide)
          have k1550 : gN H1540 := gN.ex k0gN ehE1542 (by decide)
          have k1551 : gW H1540 (H1540.1 11 19 0) := gWm.ex k0gW ehE1542 (by decide)
          have k1552 : gU H1540 u := gU.ex k0gU ehE1542 (by decide)
          have g1553 : H1540.1 11 12 0 = H.1 11 12 0 := ehE1542.v 12 (by decide)
          have g1554 : H1540.1 11 19 0 = H.1 11 19 0 := ehE1542.v 19 (by decide)
          have g1555 : H1540.2.2.1 73 0 (n) = H.2.2.1 73 0 (n) := congrFun (ehE1542.r 73 (by decide)) _
          have g1556 : H1540.2.2.1 74 0 (n) = H.2.2.1 74 0 (n) := congrFun (ehE1542.r 74 (by decide)) _
          have g1557 : H1540.2.2.1 115 0 (n) = H.2.2.1 115 0 (n) := congrFun (ehE1542.r 115 (by decide)) _
          have g1558 : H1540.2.2.1 72 0 (n) = H.2.2.1 72 0 (n) := congrFun (ehE1542.r 72 (by decide)) _
          have g1559 : H1540.2.2.1 79 0 (n) = H.2.2.1 79 0 (n) := congrFun (ehE1542.r 79 (by decide)) _
          have g1560 : H1540.2.2.1 80 0 (n) = H.2.2.1 80 0 (n) := congrFun (ehE1542.r 80 (by decide)) _
          have g1561 : H1540.2.2.1 56 0 (H0.2.2.1 72 0 (n)) = H.2.2.1 56 0 (H0.2.2.1 72 0 (n)) := congrFun (ehE1542.r 56 (by decide)) _
          have g1562 : H1540.2.2.1 83 0 (n) = H.2.2.1 83 0 (n) := congrFun (ehE1542.r 83 (by decide)) _
          have eL_clear := ehE1542
          try dsimp only [Option.toList, List.append, List.cons_append, List.nil_append]
          refine J.run0 2 rfl ?_
          try dsimp only
          exact ih.2 (most) (q) ((0 : Int)) H1540 _ (show 10000 * ((q) + 1) - 1 - ((0 : Int)) < _ by omega) (show H0.2.2.1 73 0 (n) < (q) ∧ (q) ≤ 31 from ⟨by omega, by omega⟩) (show 0 ≤ ((0 : Int)) ∧ ((0 : Int)) ≤ 6000 from ⟨by omega, by omega⟩) (show H1540.2.2.1 73 0 (n) = H0.2.2.1 73 0 (n) from by omega) (show H1540.2.2.1 74 0 (n) = H0.2.2.1 74 0 (n) from by omega) (show H1540.2.2.1 115 0 (n) = H0.2.2.1 115 0 (n) from by omega) (show H1540.2.2.1 72 0 (n) = H0.2.2.1 72 0 (n) from by omega) (show H1540.2.2.1 79 0 (n) = 0 from by omega) (show H1540.2.2.1 80 0 (n) = 0 from by omega) (show H1540.2.2.1 56 0 (H0.2.2.1 72 0 (n)) = H0.2.2.1 56 0 (H0.2.2.1 72 0 (n)) from by omega) (show H1540.2.2.1 83 0 (n) ≤ 3 * H0.2.2.1 73 0 (n) + H0.2.2.1 74 0 (n) + 1 from by omega) (show H0.1 11 19 0 ≤ H1540.1 11 19 0 from by omega) (show 0 ≤ H0.2.2.1 73 0 (n) ∧ H0.2.2.1 73 0 (n) ≤ 31 from ⟨by omega, by omega⟩) (show 0 ≤ H0.2.2.1 74 0 (n) ∧ H0.2.2.1 74 0 (n) ≤ 2 from ⟨by omega, by omega⟩) (show 0 ≤ H0.2.2.1 115 0 (n) ∧ H0.2.2.1 115 0 (n) ≤ 1 from ⟨by omega, by omega⟩) (show 0 ≤ H0.2.2.1 72 0 (n) ∧ H0.2.2.1 72 0 (n) ≤ 299 from ⟨by omega, by omega⟩) hT1541 hE1542 k1543 k1544 k1545 k1546 k1547 k1548 k1549 k1550 k1551 k1552 (Or.inr (Or.inr (⟨_, rfl⟩)))
    · intro most q k H lv hm hi0 hi1 hi2 hi3 hi4 hi5 hi6 hi7 hi8 hi9 hi10 hi11 hi12 hi13 hi14 hT hE k0gP k0gX k0gL k0gZ k0gQ k0gB k0gK k0gN k0gW k0gU hlv
      rcases hlv with rfl | ⟨j5, rfl⟩ | ⟨j5, rfl⟩
      · skip
        have f1563 : 0 ≤ H.2.2.1 113 0 (n) ∧ H.2.2.1 113 0 (n) ≤ 6000 := hT.1 113 (n)
        refine J.run 5 rfl (show 0 ≤ n ∧ n < 16 from ⟨by omega, by omega⟩) ?_
        try dsimp only
        refine J.icmp rfl rfl rfl ⟨(show -2147483648 ≤ k ∧ k ≤ 2147483647 from ⟨by omega, by omega⟩), (show -2147483648 ≤ H.2.2.1 113 0 (n) ∧ H.2.2.1 113 0 (n) ≤ 2147483647 from ⟨by omega, by omega⟩)⟩ (fun hc => ?_) (fun hc => ?_)
        · have c1564 : H.2.2.1 113 0 (n) ≤ k := hc
          clear hc
          refine J.run0 2 rfl ?_
          try dsimp only
          refine J.inv rfl rfl rfl rfl rfl rfl jDr rfl rfl rfl rfl rfl (g_share (n := n) hT  (show 0 ≤ (n) ∧ (n) < 16 from ⟨by omega, by omega⟩)) ?_
          rintro v w H ⟨rfl, rfl, x1565, rfl, r1566⟩
          have r1566' : 0 ≤ x1565 ∧ x1565 ≤ 2 := r1566
          have rL_share := r1566'
          try dsimp only [Option.toList, List.append, List.cons_append, List.nil_append]
          refine J.ifc rfl rfl rfl (show -2147483648 ≤ x1565 ∧ x1565 ≤ 2147483647 from ⟨by omega, by omega⟩) (fun hc => ?_) (fun hc => ?_)
          · have c1567 : ¬ (x1565 = (0 : Int)) := hc
            clear hc
            have zb : H.2.2.1 56 0 (H.2.2.1 72 0 (n)) = H0.2.2.1 56 0 (H0.2.2.1 72 0 (n)) := by rw [show H.2.2.1 72 0 (n) = H0.2.2.1 72 0 (n) by omega]; omega
            refine J.run0 3 rfl ?_
            try dsimp only
            refine J.inv rfl rfl rfl rfl rfl rfl jDr rfl rfl rfl rfl rfl (g_begins (n := n) (q := q) (u := u) hT k0gP k0gX k0gL k0gZ k0gQ k0gB k0gK k0gN k0gW k0gU (show 0 ≤ (n) ∧ (n) < 16 from ⟨by omega, by omega⟩) (show 0 ≤ (q) ∧ (q) < 32 from ⟨by omega, by omega⟩) (show H.2.2.1 83 0 ((n)) ≤ 3 * (q) from by omega) (show H.2.2.1 80 0 ((n)) = 0 from by omega) (show (n) < (u) from by omega)) ?_
            rintro v w H1570 ⟨rfl, hT1571, ehE1572, k1573, k1574, k1575, k1576, k1577, k1578, k1579, k1580, k1581, k1582, p1583, p1584, rfl⟩
            have hE1572 := jEx.trans ehE1572 hE (by decide) (by decide)
            have p1583' : 192 * H.2.2.1 56 0 (H.2.2.1 72 0 ((n))) + 6 * (q) ≤ 192 * H1570.2.2.1 56 0 (H1570.2.2.1 72 0 ((n))) + 6 * H1570.2.2.1 73 0 ((n)) + 2 * H1570.2.2.1 74 0 ((n)) + H1570.2.2.1 115 0 ((n)) := p1583
            have p1584' : H.1 11 19 0 ≤ H1570.1 11 19 0 := p1584
            have pL_begins_0 := p1583'
            have pL_begins_1 := p1584'
            have g1585 : H1570.2.2.1 72 0 (n) = H.2.2.1 72 0 (n) := congrFun (ehE1572.r 72 (by decide)) _
            have g1586 : H1570.2.2.1 79 0 (n) = H.2.2.1 79 0 (n) := congrFun (ehE1572.r 79 (by decide)) _
            have eL_begins := ehE1572
            try dsimp only [Option.toList, List.append, List.cons_append, List.nil_append]
            refine J.run0 1 rfl ?_
            try dsimp only
            exact J.retb rfl rfl rfl (show (1 : Int) = 0 ∨ (1 : Int) = 1 by omega) ⟨_, rfl, rfl, hT1571, hE1572, k1573, k1574, k1575, k1576, k1577, k1578, k1579, k1580, k1581, k1582, _, rfl, (show (((1 : Int)) = 0 ∨ ((1 : Int)) = 1) ∧ (((1 : Int)) = 1 → 192 * H0.2.2.1 56 0 (H0.2.2.1 72 0 (n)) + 6 * H0.2.2.1 73 0 (n) + 2 * H0.2.2.1 74 0 (n) + H0.2.2.1 115 0 (n) + 1 ≤ 192 * H1570.2.2.1 56 0 (H1570.2.2.1 72 0 (n)) + 6 * H1570.2.2.1 73 0 (n) + 2 * H1570.2.2.1 74 0 (n) + H1570.2.2.1 115 0 (n)) ∧ H0.1 11 19 0 ≤ H1570.1 11 19 0 from (by refine ⟨by omega, fun hv => ?_, by omega⟩; first | omega | (have y1 : 0 ≤ H1570.2.2.1 74 0 (n) ∧ H1570.2.2.1 74 0 (n) ≤ 2 := hT1571.1 74 n; have y2 : 0 ≤ H1570.2.2.1 115 0 (n) ∧ H1570.2.2.1 115 0 (n) ≤ 1 := hT1571.1 115 n; have y3 : 0 ≤ H1570.2.2.1 73 0 (n) ∧ H1570.2.2.1 73 0 (n) ≤ 31 := hT1571.1 73 n; rw [show H1570.2.2.1 72 0 (n) = H0.2.2.1 72 0 (n) by omega]; omega)))⟩
          · have c1587 : ¬ (¬ (x1565 = (0 : Int))) := hc
            clear hc
            refine J.run0 3 rfl ?_
            try dsimp only
            exact ih.1 (most) (q + (-1)) H _ (show 10000 * ((q + (-1)) + 1) < _ by omega) (show -1 ≤ (q + (-1)) ∧ (q + (-1)) ≤ 31 from ⟨by omega, by omega⟩) (show H.2.2.1 73 0 (n) = H0.2.2.1 73 0 (n) from by omega) (show H.2.2.1 74 0 (n) = H0.2.2.1 74 0 (n) from by omega) (show H.2.2.1 115 0 (n) = H0.2.2.1 115 0 (n) from by omega) (show H.2.2.1 72 0 (n) = H0.2.2.1 72 0 (n) from by omega) (show H.2.2.1 79 0 (n) = 0 from by omega) (show H.2.2.1 80 0 (n) = 0 from by omega) (show H.2.2.1 56 0 (H0.2.2.1 72 0 (n)) = H0.2.2.1 56 0 (H0.2.2.1 72 0 (n)) from by omega) (show H.2.2.1 83 0 (n) ≤ 3 * H0.2.2.1 73 0 (n) + H0.2.2.1 74 0 (n) + 1 from by omega) (show H0.1 11 19 0 ≤ H.1 11 19 0 from by omega) (show 0 ≤ H0.2.2.1 73 0 (n) ∧ H0.2.2.1 73 0 (n) ≤ 31 from ⟨by omega, by omega⟩) (show 0 ≤ H0.2.2.1 74 0 (n) ∧ H0.2.2.1 74 0 (n) ≤ 2 from ⟨by omega, by omega⟩) (show 0 ≤ H0.2.2.1 115 0 (n) ∧ H0.2.2.1 115 0 (n) ≤ 1 from ⟨by omega, by omega⟩) (show 0 ≤ H0.2.2.1 72 0 (n) ∧ H0.2.2.1 72 0 (n) ≤ 299 from ⟨by omega, by omega⟩) hT hE k0gP k0gX k0gL k0gZ k0gQ k0gB k0gK k0gN k0gW k0gU (Or.inr (Or.inl ⟨_, rfl⟩))
        · have c1588 : ¬ (H.2.2.1 113 0 (n) ≤ k) := hc
          clear hc
          have f1589 : 0 ≤ H.2.2.1 112 0 (((6000 : Int) * n) + k) ∧ H.2.2.1 112 0 (((6000 : Int) * n) + k) ≤ 5999 := hT.1 112 (((6000 : Int) * n) + k)
          have f1590 : 0 ≤ H.2.2.1 66 0 (H.2.2.1 112 0 (((6000 : Int) * n) + k)) ∧ H.2.2.1 66 0 (H.2.2.1 112 0 (((6000 : Int) * n) + k)) ≤ 31 := hT.1 66 (H.2.2.1 112 0 (((6000 : Int) * n) + k))
          refine J.run 14 rfl ⟨(show 0 ≤ ((6000 : Int) * n) + k ∧ ((6000 : Int) * n) + k < 96000 from ⟨by omega, by omega⟩), (show 0 ≤ H.2.2.1 112 0 (((6000 : Int) * n) + k) ∧ H.2.2.1 112 0 (((6000 : Int) * n) + k) < 6000 from ⟨by omega, by omega⟩)⟩ ?_
          try dsimp only
          refine J.icmp rfl rfl rfl ⟨(show -2147483648 ≤ H.2.2.1 66 0 (H.2.2.1 112 0 (((6000 : Int) * n) + k)) ∧ H.2.2.1 66 0 (H.2.2.1 112 0 (((6000 : Int) * n) + k)) ≤ 2147483647 from ⟨by omega, by omega⟩), (show -2147483648 ≤ q ∧ q ≤ 2147483647 from ⟨by omega, by omega⟩)⟩ (fun hc => ?_) (fun hc => ?_)
          · have c1591 : ¬ (H.2.2.1 66 0 (H.2.2.1 112 0 (((6000 : Int) * n) + k)) = q) := hc
            clear hc
            refine J.run0 2 rfl ?_
            try dsimp only
            exact ih.2 (most) (q) (k + 1) H _ (show 10000 * ((q) + 1) - 1 - (k + 1) < _ by omega) (show H0.2.2.1 73 0 (n) < (q) ∧ (q) ≤ 31 from ⟨by omega, by omega⟩) (show 0 ≤ (k + 1) ∧ (k + 1) ≤ 6000 from ⟨by omega, by omega⟩) (show H.2.2.1 73 0 (n) = H0.2.2.1 73 0 (n) from by omega) (show H.2.2.1 74 0 (n) = H0.2.2.1 74 0 (n) from by omega) (show H.2.2.1 115 0 (n) = H0.2.2.1 115 0 (n) from by omega) (show H.2.2.1 72 0 (n) = H0.2.2.1 72 0 (n) from by omega) (show H.2.2.1 79 0 (n) = 0 from by omega) (show H.2.2.1 80 0 (n) = 0 from by omega) (show H.2.2.1 56 0 (H0.2.2.1 72 0 (n)) = H0.2.2.1 56 0 (H0.2.2.1 72 0 (n)) from by omega) (show H.2.2.1 83 0 (n) ≤ 3 * H0.2.2.1 73 0 (n) + H0.2.2.1 74 0 (n) + 1 from by omega) (show H0.1 11 19 0 ≤ H.1 11 19 0 from by omega) (show 0 ≤ H0.2.2.1 73 0 (n) ∧ H0.2.2.1 73 0 (n) ≤ 31 from ⟨by omega, by omega⟩) (show 0 ≤ H0.2.2.1 74 0 (n) ∧ H0.2.2.1 74 0 (n) ≤ 2 from ⟨by omega, by omega⟩) (show 0 ≤ H0.2.2.1 115 0 (n) ∧ H0.2.2.1 115 0 (n) ≤ 1 from ⟨by omega, by omega⟩) (show 0 ≤ H0.2.2.1 72 0 (n) ∧ H0.2.2.1 72 0 (n) ≤ 299 from ⟨by omega, by omega⟩) hT hE k0gP k0gX k0gL k0gZ k0gQ k0gB k0gK k0gN k0gW k0gU (Or.inr (Or.inl ⟨_, rfl⟩))
          · have c1592 : ¬ (¬ (H.2.2.1 66 0 (H.2.2.1 112 0 (((6000 : Int) * n) + k)) = q)) := hc
            clear hc
            have f1593 : 0 ≤ H.2.2.1 64 0 (H.2.2.1 112 0 (((6000 : Int) * n) + k)) ∧ H.2.2.1 64 0 (H.2.2.1 112 0 (((6000 : Int) * n) + k)) ≤ 15 := hT.1 64 (H.2.2.1 112 0 (((6000 : Int) * n) + k))
            refine J.run 8 rfl ⟨(show 0 ≤ H.2.2.1 112 0 (((6000 : Int) * n) + k) ∧ H.2.2.1 112 0 (((6000 : Int) * n) + k) < 6000 from ⟨by omega, by omega⟩), (show ((1 : Int) = 0 ∨ (1 : Int) = 1) ∧ 0 ≤ H.2.2.1 64 0 (H.2.2.1 112 0 (((6000 : Int) * n) + k)) ∧ H.2.2.1 64 0 (H.2.2.1 112 0 (((6000 : Int) * n) + k)) < 16 from ⟨by omega, by omega, by omega⟩)⟩ ?_
            try dsimp only
            refine J.gn fun H1594 hH1594 => ?_
            have hT1595 : gT H1594 := by rw [hH1594]; exact gT.upd hT (show 0 ≤ (1 : Int) ∧ (1 : Int) ≤ 1 from ⟨by omega, by omega⟩) (fun z => absurd z (by decide))
            have hE1596 : jEx [19, 12, 48, 56, 57] [60, 56, 59, 58, 55, 57, 61, 99, 100, 77, 78, 82, 80, 114, 115, 81, 105, 71, 70, 72, 75, 76, 68, 67, 65, 63, 64, 66, 112, 113, 108, 110, 101, 102, 103, 104, 83, 73, 74, 84, 111, 89, 88, 93, 94, 86, 91, 92, 85, 87, 90] H1594 H0 := by rw [hH1594]; exact jEx.row hE (by decide)
            have k1597 : gP H1594 := by rw [hH1594]; exact k0gP
            have k1598 : gX H1594 := by rw [hH1594]; exact k0gX
            have k1599 : gL H1594 := by rw [hH1594]; exact k0gL
            have k1600 : gZ H1594 := by rw [hH1594]; exact k0gZ
            have k1601 : gQ H1594 := by rw [hH1594]; exact k0gQ
            have k1602 : gB H1594 := by rw [hH1594]; exact k0gB
            have k1603 : gK H1594 := by rw [hH1594]; exact k0gK
            have k1604 : gN H1594 := by rw [hH1594]; exact k0gN
            have k1605 : gW H1594 (H1594.1 11 19 0) := by rw [hH1594]; exact k0gW
            have k1606 : gU H1594 u := by rw [hH1594]; exact k0gU
            have g1607 : H1594.2.2.1 81 0 (H.2.2.1 64 0 (H.2.2.1 112 0 (((6000 : Int) * n) + k))) = (1 : Int) := by subst hH1594; exact if_pos rfl
            have g1608 : H1594.1 11 12 0 = H.1 11 12 0 := by subst hH1594; rfl
            have g1609 : H1594.1 11 19 0 = H.1 11 19 0 := by subst hH1594; rfl
            have g1610 : H1594.2.2.1 73 0 (n) = H.2.2.1 73 0 (n) := by subst hH1594; rfl
            have g1611 : H1594.2.2.1 74 0 (n) = H.2.2.1 74 0 (n) := by subst hH1594; rfl
            have g1612 : H1594.2.2.1 115 0 (n) = H.2.2.1 115 0 (n) := by subst hH1594; rfl
            have g1613 : H1594.2.2.1 72 0 (n) = H.2.2.1 72 0 (n) := by subst hH1594; rfl
            have g1614 : H1594.2.2.1 79 0 (n) = H.2.2.1 79 0 (n) := by subst hH1594; rfl
            have g1615 : H1594.2.2.1 80 0 (n) = H.2.2.1 80 0 (n) := by subst hH1594; rfl
            have g1616 : H1594.2.2.1 56 0 (H0.2.2.1 72 0 (n)) = H.2.2.1 56 0 (H0.2.2.1 72 0 (n)) := by subst hH1594; rfl
            have g1617 : H1594.2.2.1 83 0 (n) = H.2.2.1 83 0 (n) := by subst hH1594; rfl
            have g1618 : H1594.2.2.1 113 0 (n) = H.2.2.1 113 0 (n) := by subst hH1594; rfl
            have g1619 : H1594.2.2.1 112 0 (((6000 : Int) * n) + k) = H.2.2.1 112 0 (((6000 : Int) * n) + k) := by subst hH1594; rfl
            have g1620 : H1594.2.2.1 66 0 (H.2.2.1 112 0 (((6000 : Int) * n) + k)) = H.2.2.1 66 0 (H.2.2.1 112 0 (((6000 : Int) * n) + k)) := by subst hH1594; rfl
            have g1621 : H1594.2.2.1 64 0 (H.2.2.1 112 0 (((6000 : Int) * n) + k)) = H.2.2.1 64 0 (H.2.2.1 112 0 (((6000 : Int) * n) + k)) := by subst hH1594; rfl
            clear hH1594
            refine J.run0 2 rfl ?_
            try dsimp only
            exact ih.2 (most) (q) (k + 1) H1594 _ (show 10000 * ((q) + 1) - 1 - (k + 1) < _ by omega) (show H0.2.2.1 73 0 (n) < (q) ∧ (q) ≤ 31 from ⟨by omega, by omega⟩) (show 0 ≤ (k + 1) ∧ (k + 1) ≤ 6000 from ⟨by omega, by omega⟩) (show H1594.2.2.1 73 0 (n) = H0.2.2.1 73 0 (n) from by omega) (show H1594.2.2.1 74 0 (n) = H0.2.2.1 74 0 (n) from by omega) (show H1594.2.2.1 115 0 (n) = H0.2.2.1 115 0 (n) from by omega) (show H1594.2.2.1 72 0 (n) = H0.2.2.1 72 0 (n) from by omega) (show H1594.2.2.1 79 0 (n) = 0 from by omega) (show H1594.2.2.1 80 0 (n) = 0 from by omega) (show H1594.2.2.1 56 0 (H0.2.2.1 72 0 (n)) = H0.2.2.1 56 0 (H0.2.2.1 72 0 (n)) from by omega) (show H1594.2.2.1 83 0 (n) ≤ 3 * H0.2.2.1 73 0 (n) + H0.2.2.1 74 0 (n) + 1 from by omega) (show H0.1 11 19 0 ≤ H1594.1 11 19 0 from by omega) (show 0 ≤ H0.2.2.1 73 0 (n) ∧ H0.2.2.1 73 0 (n) ≤ 31 from ⟨by omega, by omega⟩) (show 0 ≤ H0.2.2.1 74 0 (n) ∧ H0.2.2.1 74 0 (n) ≤ 2 from ⟨by omega, by omega⟩) (show 0 ≤ H0.2.2.1 115 0 (n) ∧ H0.2.2.1 115 0 (n) ≤ 1 from ⟨by omega, by omega⟩) (show 0 ≤ H0.2.2.1 72 0 (n) ∧ H0.2.2.1 72 0 (n) ≤ 299 from ⟨by omega, by omega⟩) hT1595 hE1596 k1597 k1598 k1599 k1600 k1601 k1602 k1603 k1604 k1605 k1606 (Or.inr (Or.inl ⟨_, rfl⟩))
      · skip
        have f1622 : 0 ≤ H.2.2.1 113 0 (n) ∧ H.2.2.1 113 0 (n) ≤ 6000 := hT.1 113 (n)
        refine J.run 5 rfl (show 0 ≤ n ∧ n < 16 from ⟨by omega, by omega⟩) ?_
        try dsimp only
        refine J.icmp rfl rfl rfl ⟨(show -2147483648 ≤ k ∧ k ≤ 2147483647 from ⟨by omega, by omega⟩), (show -2147483648 ≤ H.2.2.1 113 0 (n) ∧ H.2.2.1 113 0 (n) ≤ 2147483647 from ⟨by omega, by omega⟩)⟩ (fun hc => ?_) (fun hc => ?_)
        · have c1623 : H.2.2.1 113 0 (n) ≤ k := hc
          clear hc
          refine J.run0 2 rfl ?_
          try dsimp only
          refine J.inv rfl rfl rfl rfl rfl rfl jDr rfl rfl rfl rfl rfl (g_share (n := n) hT  (show 0 ≤ (n) ∧ (n) < 16 from ⟨by omega, by omega⟩)) ?_
          rintro v w H ⟨rfl, rfl, x1624, rfl, r1625⟩
          have r1625' : 0 ≤ x1624 ∧ x1624 ≤ 2 := r1625
          have rL_share := r1625'
          try dsimp only [Option.toList, List.append, List.cons_append, List.nil_append]
          refine J.ifc rfl rfl rfl (show -2147483648 ≤ x1624 ∧ x1624 ≤ 2147483647 from ⟨by omega, by omega⟩) (fun hc => ?_) (fun hc => ?_)
          · have c1626 : ¬ (x1624 = (0 : Int)) := hc
            clear hc
            have zb : H.2.2.1 56 0 (H.2.2.1 72 0 (n)) = H0.2.2.1 56 0 (H0.2.2.1 72 0 (n)) := by rw [show H.2.2.1 72 0 (n) = H0.2.2.1 72 0 (n) by omega]; omega
            refine J.run0 3 rfl ?_
            try dsimp only
            refine J.inv rfl rfl rfl rfl rfl rfl jDr rfl rfl rfl rfl rfl (g_begins (n := n) (q := q) (u := u) hT k0gP k0gX k0gL k0gZ k0gQ k0gB k0gK k0gN k0gW k0gU (show 0 ≤ (n) ∧ (n) < 16 from ⟨by omega, by omega⟩) (show 0 ≤ (q) ∧ (q) < 32 from ⟨by omega, by omega⟩) (show H.2.2.1 83 0 ((n)) ≤ 3 * (q) from by omega) (show H.2.2.1 80 0 ((n)) = 0 from by omega) (show (n) < (u) from by omega)) ?_
            rintro v w H1629 ⟨rfl, hT1630, ehE1631, k1632, k1633, k1634, k1635, k1636, k1637, k1638, k1639, k1640, k1641, p1642, p1643, rfl⟩
            have hE1631 := jEx.trans ehE1631 hE (by decide) (by decide)
            have p1642' : 192 * H.2.2.1 56 0 (H.2.2.1 72 0 ((n))) + 6 * (q) ≤ 192 * H1629.2.2.1 56 0 (H1629.2.2.1 72 0 ((n))) + 6 * H1629.2.2.1 73 0 ((n)) + 2 * H1629.2.2.1 74 0 ((n)) + H1629.2.2.1 115 0 ((n)) := p1642
            have p1643' : H.1 11 19 0 ≤ H1629.1 11 19 0 := p1643
            have pL_begins_0 := p1642'
            have pL_begins_1 := p1643'
            have g1644 : H1629.2.2.1 72 0 (n) = H.2.2.1 72 0 (n) := congrFun (ehE1631.r 72 (by decide)) _
            have g1645 : H1629.2.2.1 79 0 (n) = H.2.2.1 79 0 (n) := congrFun (ehE1631.r 79 (by decide)) _
            have eL_begins := ehE1631
            try dsimp only [Option.toList, List.append, List.cons_append, List.nil_append]
            refine J.run0 1 rfl ?_
            try dsimp only
            exact J.retb rfl rfl rfl (show (1 : Int) = 0 ∨ (1 : Int) = 1 by omega) ⟨_, rfl, rfl, hT1630, hE1631, k1632, k1633, k1634, k1635, k1636, k1637, k1638, k1639, k1640, k1641, _, rfl, (show (((1 : Int)) = 0 ∨ ((1 : Int)) = 1) ∧ (((1 : Int)) = 1 → 192 * H0.2.2.1 56 0 (H0.2.2.1 72 0 (n)) + 6 * H0.2.2.1 73 0 (n) + 2 * H0.2.2.1 74 0 (n) + H0.2.2.1 115 0 (n) + 1 ≤ 192 * H1629.2.2.1 56 0 (H1629.2.2.1 72 0 (n)) + 6 * H1629.2.2.1 73 0 (n) + 2 * H1629.2.2.1 74 0 (n) + H1629.2.2.1 115 0 (n)) ∧ H0.1 11 19 0 ≤ H1629.1 11 19 0 from (by refine ⟨by omega, fun hv => ?_, by omega⟩; first | omega | (have y1 : 0 ≤ H1629.2.2.1 74 0 (n) ∧ H1629.2.2.1 74 0 (n) ≤ 2 := hT1630.1 74 n; have y2 : 0 ≤ H1629.2.2.1 115 0 (n) ∧ H1629.2.2.1 115 0 (n) ≤ 1 := hT1630.1 115 n; have y3 : 0 ≤ H1629.2.2.1 73 0 (n) ∧ H1629.2.2.1 73 0 (n) ≤ 31 := hT1630.1 73 n; rw [show H1629.2.2.1 72 0 (n) = H0.2.2.1 72 0 (n) by omega]; omega)))⟩
          · have c1646 : ¬ (¬ (x1624 = (0 : Int))) := hc
            clear hc
            refine J.run0 3 rfl ?_
            try dsimp only
            exact ih.1 (most) (q + (-1)) H _ (show 10000 * ((q + (-1)) + 1) < _ by omega) (show -1 ≤ (q + (-1)) ∧ (q + (-1)) ≤ 31 from ⟨by omega, by omega⟩) (show H.2.2.1 73 0 (n) = H0.2.2.1 73 0 (n) from by omega) (show H.2.2.1 74 0 (n) = H0.2.2.1 74 0 (n) from by omega) (show H.2.2.1 115 0 (n) = H0.2.2.1 115 0 (n) from by omega) (show H.2.2.1 72 0 (n) = H0.2.2.1 72 0 (n) from by omega) (show H.2.2.1 79 0 (n) = 0 from by omega) (show H.2.2.1 80 0 (n) = 0 from by omega) (show H.2.2.1 56 0 (H0.2.2.1 72 0 (n)) = H0.2.2.1 56 0 (H0.2.2.1 72 0 (n)) from by omega) (show H.2.2.1 83 0 (n) ≤ 3 * H0.2.2.1 73 0 (n) + H0.2.2.1 74 0 (n) + 1 from by omega) (show H0.1 11 19 0 ≤ H.1 11 19 0 from by omega) (show 0 ≤ H0.2.2.1 73 0 (n) ∧ H0.2.2.1 73 0 (n) ≤ 31 from ⟨by omega, by omega⟩) (show 0 ≤ H0.2.2.1 74 0 (n) ∧ H0.2.2.1 74 0 (n) ≤ 2 from ⟨by omega, by omega⟩) (show 0 ≤ H0.2.2.1 115 0 (n) ∧ H0.2.2.1 115 0 (n) ≤ 1 from ⟨by omega, by omega⟩) (show 0 ≤ H0.2.2.1 72 0 (n) ∧ H0.2.2.1 72 0 (n) ≤ 299 from ⟨by omega, by omega⟩) hT hE k0gP k0gX k0gL k0gZ k0gQ k0gB k0gK k0gN k0gW k0gU (Or.inr (Or.inr (⟨_, _, rfl⟩)))
        · have c1647 : ¬ (H.2.2.1 113 0 (n) ≤ k) := hc
          clear hc
          have f1648 : 0 ≤ H.2.2.1 112 0 (((6000 : Int) * n) + k) ∧ H.2.2.1 112 0 (((6000 : Int) * n) + k) ≤ 5999 := hT.1 112 (((6000 : Int) * n) + k)
          have f1649 : 0 ≤ H.2.2.1 66 0 (H.2.2.1 112 0 (((6000 : Int) * n) + k)) ∧ H.2.2.1 66 0 (H.2.2.1 112 0 (((6000 : Int) * n) + k)) ≤ 31 := hT.1 66 (H.2.2.1 112 0 (((6000 : Int) * n) + k))
          refine J.run 14 rfl ⟨(show 0 ≤ ((6000 : Int) * n) + k ∧ ((6000 : Int) * n) + k < 96000 from ⟨by omega, by omega⟩), (show 0 ≤ H.2.2.1 112 0 (((6000 : Int) * n) + k) ∧ H.2.2.1 112 0 (((6000 : Int) * n) + k) < 6000 from ⟨by omega, by omega⟩)⟩ ?_
          try dsimp only
          refine J.icmp rfl rfl rfl ⟨(show -2147483648 ≤ H.2.2.1 66 0 (H.2.2.1 112 0 (((6000 : Int) * n) + k)) ∧ H.2.2.1 66 0 (H.2.2.1 112 0 (((6000 : Int) * n) + k)) ≤ 2147483647 from ⟨by omega, by omega⟩), (show -2147483648 ≤ q ∧ q ≤ 2147483647 from ⟨by omega, by omega⟩)⟩ (fun hc => ?_) (fun hc => ?_)
          · have c1650 : ¬ (H.2.2.1 66 0 (H.2.2.1 112 0 (((6000 : Int) * n) + k)) = q) := hc
            clear hc
            refine J.run0 2 rfl ?_
            try dsimp only
            exact ih.2 (most) (q) (k + 1) H _ (show 10000 * ((q) + 1) - 1 - (k + 1) < _ by omega) (show H0.2.2.1 73 0 (n) < (q) ∧ (q) ≤ 31 from ⟨by omega, by omega⟩) (show 0 ≤ (k + 1) ∧ (k + 1) ≤ 6000 from ⟨by omega, by omega⟩) (show H.2.2.1 73 0 (n) = H0.2.2.1 73 0 (n) from by omega) (show H.2.2.1 74 0 (n) = H0.2.2.1 74 0 (n) from by omega) (show H.2.2.1 115 0 (n) = H0.2.2.1 115 0 (n) from by omega) (show H.2.2.1 72 0 (n) = H0.2.2.1 72 0 (n) from by omega) (show H.2.2.1 79 0 (n) = 0 from by omega) (show H.2.2.1 80 0 (n) = 0 from by omega) (show H.2.2.1 56 0 (H0.2.2.1 72 0 (n)) = H0.2.2.1 56 0 (H0.2.2.1 72 0 (n)) from by omega) (show H.2.2.1 83 0 (n) ≤ 3 * H0.2.2.1 73 0 (n) + H0.2.2.1 74 0 (n) + 1 from by omega) (show H0.1 11 19 0 ≤ H.1 11 19 0 from by omega) (show 0 ≤ H0.2.2.1 73 0 (n) ∧ H0.2.2.1 73 0 (n) ≤ 31 from ⟨by omega, by omega⟩) (show 0 ≤ H0.2.2.1 74 0 (n) ∧ H0.2.2.1 74 0 (n) ≤ 2 from ⟨by omega, by omega⟩) (show 0 ≤ H0.2.2.1 115 0 (n) ∧ H0.2.2.1 115 0 (n) ≤ 1 from ⟨by omega, by omega⟩) (show 0 ≤ H0.2.2.1 72 0 (n) ∧ H0.2.2.1 72 0 (n) ≤ 299 from ⟨by omega, by omega⟩) hT hE k0gP k0gX k0gL k0gZ k0gQ k0gB k0gK k0gN k0gW k0gU (Or.inr (Or.inl ⟨_, rfl⟩))
          · have c1651 : ¬ (¬ (H.2.2.1 66 0 (H.2.2.1 112 0 (((6000 : Int) * n) + k)) = q)) := hc
            clear hc
            have f1652 : 0 ≤ H.2.2.1 64 0 (H.2.2.1 112 0 (((6000 : Int) * n) + k)) ∧ H.2.2.1 64 0 (H.2.2.1 112 0 (((6000 : Int) * n) + k)) ≤ 15 := hT.1 64 (H.2.2.1 112 0 (((6000 : Int) * n) + k))
            refine J.run 8 rfl ⟨(show 0 ≤ H.2.2.1 112 0 (((6000 : Int) * n) + k) ∧ H.2.2.1 112 0 (((6000 : Int) * n) + k) < 6000 from ⟨by omega, by omega⟩), (show ((1 : Int) = 0 ∨ (1 : Int) = 1) ∧ 0 ≤ H.2.2.1 64 0 (H.2.2.1 112 0 (((6000 : Int) * n) + k)) ∧ H.2.2.1 64 0 (H.2.2.1 112 0 (((6000 : Int) * n) + k)) < 16 from ⟨by omega, by omega, by omega⟩)⟩ ?_
            try dsimp only
            refine J.gn fun H1653 hH1653 => ?_
            have hT1654 : gT H1653 := by rw [hH1653]; exact gT.upd hT (show 0 ≤ (1 : Int) ∧ (1 : Int) ≤ 1 from ⟨by omega, by omega⟩) (fun z => absurd z (by decide))
            have hE1655 : jEx [19, 12, 48, 56, 57] [60, 56, 59, 58, 55, 57, 61, 99, 100, 77, 78, 82, 80, 114, 115, 81, 105, 71, 70, 72, 75, 76, 68, 67, 65, 63, 64, 66, 112, 113, 108, 110, 101, 102, 103, 104, 83, 73, 74, 84, 111, 89, 88, 93, 94, 86, 91, 92, 85, 87, 90] H1653 H0 := by rw [hH1653]; exact jEx.row hE (by decide)
            have k1656 : gP H1653 := by rw [hH1653]; exact k0gP
            have k1657 : gX H1653 := by rw [hH1653]; exact k0gX
            have k1658 : gL H1653 := by rw [hH1653]; exact k0gL
            have k1659 : gZ H1653 := by rw [hH1653]; exact k0gZ
            have k1660 : gQ H1653 := by rw [hH1653]; exact k0gQ
            have k1661 : gB H1653 := by rw [hH1653]; exact k0gB
            have k1662 : gK H1653 := by rw [hH1653]; exact k0gK
            have k1663 : gN H1653 := by rw [hH1653]; exact k0gN
            have k1664 : gW H1653 (H1653.1 11 19 0) := by rw [hH1653]; exact k0gW
            have k1665 : gU H1653 u := by rw [hH1653]; exact k0gU
            have g1666 : H1653.2.2.1 81 0 (H.2.2.1 64 0 (H.2.2.1 112 0 (((6000 : Int) * n) + k))) = (1 : Int) := by subst hH1653; exact if_pos rfl
            have g1667 : H1653.1 11 12 0 = H.1 11 12 0 := by subst hH1653; rfl
            have g1668 : H1653.1 11 19 0 = H.1 11 19 0 := by subst hH1653; rfl
            have g1669 : H1653.2.2.1 73 0 (n) = H.2.2.1 73 0 (n) := by subst hH1653; rfl
            have g1670 : H1653.2.2.1 74 0 (n) = H.2.2.1 74 0 (n) := by subst hH1653; rfl
            have g1671 : H1653.2.2.1 115 0 (n) = H.2.2.1 115 0 (n) := by subst hH1653; rfl
            have g1672 : H1653.2.2.1 72 0 (n) = H.2.2.1 72 0 (n) := by subst hH1653; rfl
            have g1673 : H1653.2.2.1 79 0 (n) = H.2.2.1 79 0 (n) := by subst hH1653; rfl
            have g1674 : H1653.2.2.1 80 0 (n) = H.2.2.1 80 0 (n) := by subst hH1653; rfl
            have g1675 : H1653.2.2.1 56 0 (H0.2.2.1 72 0 (n)) = H.2.2.1 56 0 (H0.2.2.1 72 0 (n)) := by subst hH1653; rfl
            have g1676 : H1653.2.2.1 83 0 (n) = H.2.2.1 83 0 (n) := by subst hH1653; rfl
            have g1677 : H1653.2.2.1 113 0 (n) = H.2.2.1 113 0 (n) := by subst hH1653; rfl
            have g1678 : H1653.2.2.1 112 0 (((6000 : Int) * n) + k) = H.2.2.1 112 0 (((6000 : Int) * n) + k) := by subst hH1653; rfl
            have g1679 : H1653.2.2.1 66 0 (H.2.2.1 112 0 (((6000 : Int) * n) + k)) = H.2.2.1 66 0 (H.2.2.1 112 0 (((6000 : Int) * n) + k)) := by subst hH1653; rfl
            have g1680 : H1653.2.2.1 64 0 (H.2.2.1 112 0 (((6000 : Int) * n) + k)) = H.2.2.1 64 0 (H.2.2.1 112 0 (((6000 : Int) * n) + k)) := by subst hH1653; rfl
            clear hH1653
            refine J.run0 2 rfl ?_
            try dsimp only
            exact ih.2 (most) (q) (k + 1) H1653 _ (show 10000 * ((q) + 1) - 1 - (k + 1) < _ by omega) (show H0.2.2.1 73 0 (n) < (q) ∧ (q) ≤ 31 from ⟨by omega, by omega⟩) (show 0 ≤ (k + 1) ∧ (k + 1) ≤ 6000 from ⟨by omega, by omega⟩) (show H1653.2.2.1 73 0 (n) = H0.2.2.1 73 0 (n) from by omega) (show H1653.2.2.1 74 0 (n) = H0.2.2.1 74 0 (n) from by omega) (show H1653.2.2.1 115 0 (n) = H0.2.2.1 115 0 (n) from by omega) (show H1653.2.2.1 72 0 (n) = H0.2.2.1 72 0 (n) from by omega) (show H1653.2.2.1 79 0 (n) = 0 from by omega) (show H1653.2.2.1 80 0 (n) = 0 from by omega) (show H1653.2.2.1 56 0 (H0.2.2.1 72 0 (n)) = H0.2.2.1 56 0 (H0.2.2.1 72 0 (n)) from by omega) (show H1653.2.2.1 83 0 (n) ≤ 3 * H0.2.2.1 73 0 (n) + H0.2.2.1 74 0 (n) + 1 from by omega) (show H0.1 11 19 0 ≤ H1653.1 11 19 0 from by omega) (show 0 ≤ H0.2.2.1 73 0 (n) ∧ H0.2.2.1 73 0 (n) ≤ 31 from ⟨by omega, by omega⟩) (show 0 ≤ H0.2.2.1 74 0 (n) ∧ H0.2.2.1 74 0 (n) ≤ 2 from ⟨by omega, by omega⟩) (show 0 ≤ H0.2.2.1 115 0 (n) ∧ H0.2.2.1 115 0 (n) ≤ 1 from ⟨by omega, by omega⟩) (show 0 ≤ H0.2.2.1 72 0 (n) ∧ H0.2.2.1 72 0 (n) ≤ 299 from ⟨by omega, by omega⟩) hT1654 hE1655 k1656 k1657 k1658 k1659 k1660 k1661 k1662 k1663 k1664 k1665 (Or.inr (Or.inl ⟨_, rfl⟩))
      · skip
        have f1681 : 0 ≤ H.2.2.1 113 0 (n) ∧ H.2.2.1 113 0 (n) ≤ 6000 := hT.1 113 (n)
        refine J.run 5 rfl (show 0 ≤ n ∧ n < 16 from ⟨by omega, by omega⟩) ?_
        try dsimp only
        refine J.icmp rfl rfl rfl ⟨(show -2147483648 ≤ k ∧ k ≤ 2147483647 from ⟨by omega, by omega⟩), (show -2147483648 ≤ H.2.2.1 113 0 (n) ∧ H.2.2.1 113 0 (n) ≤ 2147483647 from ⟨by omega, by omega⟩)⟩ (fun hc => ?_) (fun hc => ?_)
        · have c1682 : H.2.2.1 113 0 (n) ≤ k := hc
          clear hc
          refine J.run0 2 rfl ?_
          try dsimp only
          refine J.inv rfl rfl rfl rfl rfl rfl jDr rfl rfl rfl rfl rfl (g_share (n := n) hT  (show 0 ≤ (n) ∧ (n) < 16 from ⟨by omega, by omega⟩)) ?_
          rintro v w H ⟨rfl, rfl, x1683, rfl, r1684⟩
          have r1684' : 0 ≤ x1683 ∧ x1683 ≤ 2 := r1684
          have rL_share := r1684'
          try dsimp only [Option.toList, List.append, List.cons_append, List.nil_append]
          refine J.ifc rfl rfl rfl (show -2147483648 ≤ x1683 ∧ x1683 ≤ 2147483647 from ⟨by omega, by omega⟩) (fun hc => ?_) (fun hc => ?_)
          · have c1685 : ¬ (x1683 = (0 : Int)) := hc
            clear hc
            have zb : H.2.2.1 56 0 (H.2.2.1 72 0 (n)) = H0.2.2.1 56 0 (H0.2.2.1 72 0 (n)) := by rw [show H.2.2.1 72 0 (n) = H0.2.2.1 72 0 (n) by omega]; omega
            refine J.run0 3 rfl ?_
            try dsimp only
            refine J.inv rfl rfl rfl rfl rfl rfl jDr rfl rfl rfl rfl rfl (g_begins (n := n) (q := q) (u := u) hT k0gP k0gX k0gL k0gZ k0gQ k0gB k0gK k0gN k0gW k0gU (show 0 ≤ (n) ∧ (n) < 16 from ⟨by omega, by omega⟩) (show 0 ≤ (q) ∧ (q) < 32 from ⟨by omega, by omega⟩) (show H.2.2.1 83 0 ((n)) ≤ 3 * (q) from by omega) (show H.2.2.1 80 0 ((n)) = 0 from by omega) (show (n) < (u) from by omega)) ?_
            rintro v w H1688 ⟨rfl, hT1689, ehE1690, k1691, k1692, k1693, k1694, k1695, k1696, k1697, k1698, k1699, k1700, p1701, p1702, rfl⟩
            have hE1690 := jEx.trans ehE1690 hE (by decide) (by decide)
            have p1701' : 192 * H.2.2.1 56 0 (H.2.2.1 72 0 ((n))) + 6 * (q) ≤ 192 * H1688.2.2.1 56 0 (H1688.2.2.1 72 0 ((n))) + 6 * H1688.2.2.1 73 0 ((n)) + 2 * H1688.2.2.1 74 0 ((n)) + H1688.2.2.1 115 0 ((n)) := p1701
            have p1702' : H.1 11 19 0 ≤ H1688.1 11 19 0 := p1702
            have pL_begins_0 := p1701'
            have pL_begins_1 := p1702'
            have g1703 : H1688.2.2.1 72 0 (n) = H.2.2.1 72 0 (n) := congrFun (ehE1690.r 72 (by decide)) _
            have g1704 : H1688.2.2.1 79 0 (n) = H.2.2.1 79 0 (n) := congrFun (ehE1690.r 79 (by decide)) _
            have eL_begins := ehE1690
            try dsimp only [Option.toList, List.append, List.cons_append, List.nil_append]
            refine J.run0 1 rfl ?_
            try dsimp only
            exact J.retb rfl rfl rfl (show (1 : Int) = 0 ∨ (1 : Int) = 1 by omega) ⟨_, rfl, rfl, hT1689, hE1690, k1691, k1692, k1693, k1694, k1695, k1696, k1697, k1698, k1699, k1700, _, rfl, (show (((1 : Int)) = 0 ∨ ((1 : Int)) = 1) ∧ (((1 : Int)) = 1 → 192 * H0.2.2.1 56 0 (H0.2.2.1 72 0 (n)) + 6 * H0.2.2.1 73 0 (n) + 2 * H0.2.2.1 74 0 (n) + H0.2.2.1 115 0 (n) + 1 ≤ 192 * H1688.2.2.1 56 0 (H1688.2.2.1 72 0 (n)) + 6 * H1688.2.2.1 73 0 (n) + 2 * H1688.2.2.1 74 0 (n) + H1688.2.2.1 115 0 (n)) ∧ H0.1 11 19 0 ≤ H1688.1 11 19 0 from (by refine ⟨by omega, fun hv => ?_, by omega⟩; first | omega | (have y1 : 0 ≤ H1688.2.2.1 74 0 (n) ∧ H1688.2.2.1 74 0 (n) ≤ 2 := hT1689.1 74 n; have y2 : 0 ≤ H1688.2.2.1 115 0 (n) ∧ H1688.2.2.1 115 0 (n) ≤ 1 := hT1689.1 115 n; have y3 : 0 ≤ H1688.2.2.1 73 0 (n) ∧ H1688.2.2.1 73 0 (n) ≤ 31 := hT1689.1 73 n; rw [show H1688.2.2.1 72 0 (n) = H0.2.2.1 72 0 (n) by omega]; omega)))⟩
          · have c1705 : ¬ (¬ (x1683 = (0 : Int))) := hc
            clear hc
            refine J.run0 3 rfl ?_
            try dsimp only
            exact ih.1 (most) (q + (-1)) H _ (show 10000 * ((q + (-1)) + 1) < _ by omega) (show -1 ≤ (q + (-1)) ∧ (q + (-1)) ≤ 31 from ⟨by omega, by omega⟩) (show H.2.2.1 73 0 (n) = H0.2.2.1 73 0 (n) from by omega) (show H.2.2.1 74 0 (n) = H0.2.2.1 74 0 (n) from by omega) (show H.2.2.1 115 0 (n) = H0.2.2.1 115 0 (n) from by omega) (show H.2.2.1 72 0 (n) = H0.2.2.1 72 0 (n) from by omega) (show H.2.2.1 79 0 (n) = 0 from by omega) (show H.2.2.1 80 0 (n) = 0 from by omega) (show H.2.2.1 56 0 (H0.2.2.1 72 0 (n)) = H0.2.2.1 56 0 (H0.2.2.1 72 0 (n)) from by omega) (show H.2.2.1 83 0 (n) ≤ 3 * H0.2.2.1 73 0 (n) + H0.2.2.1 74 0 (n) + 1 from by omega) (show H0.1 11 19 0 ≤ H.1 11 19 0 from by omega) (show 0 ≤ H0.2.2.1 73 0 (n) ∧ H0.2.2.1 73 0 (n) ≤ 31 from ⟨by omega, by omega⟩) (show 0 ≤ H0.2.2.1 74 0 (n) ∧ H0.2.2.1 74 0 (n) ≤ 2 from ⟨by omega, by omega⟩) (show 0 ≤ H0.2.2.1 115 0 (n) ∧ H0.2.2.1 115 0 (n) ≤ 1 from ⟨by omega, by omega⟩) (show 0 ≤ H0.2.2.1 72 0 (n) ∧ H0.2.2.1 72 0 (n) ≤ 299 from ⟨by omega, by omega⟩) hT hE k0gP k0gX k0gL k0gZ k0gQ k0gB k0gK k0gN k0gW k0gU (Or.inr (Or.inr (⟨_, _, rfl⟩)))
        · have c1706 : ¬ (H.2.2.1 113 0 (n) ≤ k) := hc
          clear hc
          have f1707 : 0 ≤ H.2.2.1 112 0 (((6000 : Int) * n) + k) ∧ H.2.2.1 112 0 (((6000 : Int) * n) + k) ≤ 5999 := hT.1 112 (((6000 : Int) * n) + k)
          have f1708 : 0 ≤ H.2.2.1 66 0 (H.2.2.1 112 0 (((6000 : Int) * n) + k)) ∧ H.2.2.1 66 0 (H.2.2.1 112 0 (((6000 : Int) * n) + k)) ≤ 31 := hT.1 66 (H.2.2.1 112 0 (((6000 : Int) * n) + k))
          refine J.run 14 rfl ⟨(show 0 ≤ ((6000 : Int) * n) + k ∧ ((6000 : Int) * n) + k < 96000 from ⟨by omega, by omega⟩), (show 0 ≤ H.2.2.1 112 0 (((6000 : Int) * n) + k) ∧ H.2.2.1 112 0 (((6000 : Int) * n) + k) < 6000 from ⟨by omega, by omega⟩)⟩ ?_
          try dsimp only
          refine J.icmp rfl rfl rfl ⟨(show -2147483648 ≤ H.2.2.1 66 0 (H.2.2.1 112 0 (((6000 : Int) * n) + k)) ∧ H.2.2.1 66 0 (H.2.2.1 112 0 (((6000 : Int) * n) + k)) ≤ 2147483647 from ⟨by omega, by omega⟩), (show -2147483648 ≤ q ∧ q ≤ 2147483647 from ⟨by omega, by omega⟩)⟩ (fun hc => ?_) (fun hc => ?_)
          · have c1709 : ¬ (H.2.2.1 66 0 (H.2.2.1 112 0 (((6000 : Int) * n) + k)) = q) := hc
            clear hc
            refine J.run0 2 rfl ?_
            try dsimp only
            exact ih.2 (most) (q) (k + 1) H _ (show 10000 * ((q) + 1) - 1 - (k + 1) < _ by omega) (show H0.2.2.1 73 0 (n) < (q) ∧ (q) ≤ 31 from ⟨by omega, by omega⟩) (show 0 ≤ (k + 1) ∧ (k + 1) ≤ 6000 from ⟨by omega, by omega⟩) (show H.2.2.1 73 0 (n) = H0.2.2.1 73 0 (n) from by omega) (show H.2.2.1 74 0 (n) = H0.2.2.1 74 0 (n) from by omega) (show H.2.2.1 115 0 (n) = H0.2.2.1 115 0 (n) from by omega) (show H.2.2.1 72 0 (n) = H0.2.2.1 72 0 (n) from by omega) (show H.2.2.1 79 0 (n) = 0 from by omega) (show H.2.2.1 80 0 (n) = 0 from by omega) (show H.2.2.1 56 0 (H0.2.2.1 72 0 (n)) = H0.2.2.1 56 0 (H0.2.2.1 72 0 (n)) from by omega) (show H.2.2.1 83 0 (n) ≤ 3 * H0.2.2.1 73 0 (n) + H0.2.2.1 74 0 (n) + 1 from by omega) (show H0.1 11 19 0 ≤ H.1 11 19 0 from by omega) (show 0 ≤ H0.2.2.1 73 0 (n) ∧ H0.2.2.1 73 0 (n) ≤ 31 from ⟨by omega, by omega⟩) (show 0 ≤ H0.2.2.1 74 0 (n) ∧ H0.2.2.1 74 0 (n) ≤ 2 from ⟨by omega, by omega⟩) (show 0 ≤ H0.2.2.1 115 0 (n) ∧ H0.2.2.1 115 0 (n) ≤ 1 from ⟨by omega, by omega⟩) (show 0 ≤ H0.2.2.1 72 0 (n) ∧ H0.2.2.1 72 0 (n) ≤ 299 from ⟨by omega, by omega⟩) hT hE k0gP k0gX k0gL k0gZ k0gQ k0gB k0gK k0gN k0gW k0gU (Or.inr (Or.inl ⟨_, rfl⟩))
          · have c1710 : ¬ (¬ (H.2.2.1 66 0 (H.2.2.1 112 0 (((6000 : Int) * n) + k)) = q)) := hc
            clear hc
            have f1711 : 0 ≤ H.2.2.1 64 0 (H.2.2.1 112 0 (((6000 : Int) * n) + k)) ∧ H.2.2.1 64 0 (H.2.2.1 112 0 (((6000 : Int) * n) + k)) ≤ 15 := hT.1 64 (H.2.2.1 112 0 (((6000 : Int) * n) + k))
            refine J.run 8 rfl ⟨(show 0 ≤ H.2.2.1 112 0 (((6000 : Int) * n) + k) ∧ H.2.2.1 112 0 (((6000 : Int) * n) + k) < 6000 from ⟨by omega, by omega⟩), (show ((1 : Int) = 0 ∨ (1 : Int) = 1) ∧ 0 ≤ H.2.2.1 64 0 (H.2.2.1 112 0 (((6000 : Int) * n) + k)) ∧ H.2.2.1 64 0 (H.2.2.1 112 0 (((6000 : Int) * n) + k)) < 16 from ⟨by omega, by omega, by omega⟩)⟩ ?_
            try dsimp only
            refine J.gn fun H1712 hH1712 => ?_
            have hT1713 : gT H1712 := by rw [hH1712]; exact gT.upd hT (show 0 ≤ (1 : Int) ∧ (1 : Int) ≤ 1 from ⟨by omega, by omega⟩) (fun z => absurd z (by decide))
            have hE1714 : jEx [19, 12, 48, 56, 57] [60, 56, 59, 58, 55, 57, 61, 99, 100, 77, 78, 82, 80, 114, 115, 81, 105, 71, 70, 72, 75, 76, 68, 67, 65, 63, 64, 66, 112, 113, 108, 110, 101, 102, 103, 104, 83, 73, 74, 84, 111, 89, 88, 93, 94, 86, 91, 92, 85, 87, 90] H1712 H0 := by rw [hH1712]; exact jEx.row hE (by decide)
            have k1715 : gP H1712 := by rw [hH1712]; exact k0gP
            have k1716 : gX H1712 := by rw [hH1712]; exact k0gX
            have k1717 : gL H1712 := by rw [hH1712]; exact k0gL
            have k1718 : gZ H1712 := by rw [hH1712]; exact k0gZ
            have k1719 : gQ H1712 := by rw [hH1712]; exact k0gQ
            have k1720 : gB H1712 := by rw [hH1712]; exact k0gB
            have k1721 : gK H1712 := by rw [hH1712]; exact k0gK
            have k1722 : gN H1712 := by rw [hH1712]; exact k0gN
            have k1723 : gW H1712 (H1712.1 11 19 0) := by rw [hH1712]; exact k0gW
            have k1724 : gU H1712 u := by rw [hH1712]; exact k0gU
            have g1725 : H1712.2.2.1 81 0 (H.2.2.1 64 0 (H.2.2.1 112 0 (((6000 : Int) * n) + k))) = (1 : Int) := by subst hH1712; exact if_pos rfl
            have g1726 : H1712.1 11 12 0 = H.1 11 12 0 := by subst hH1712; rfl
            have g1727 : H1712.1 11 19 0 = H.1 11 19 0 := by subst hH1712; rfl
            have g1728 : H1712.2.2.1 73 0 (n) = H.2.2.1 73 0 (n) := by subst hH1712; rfl
            have g1729 : H1712.2.2.1 74 0 (n) = H.2.2.1 74 0 (n) := by subst hH1712; rfl
            have g1730 : H1712.2.2.1 115 0 (n) = H.2.2.1 115 0 (n) := by subst hH1712; rfl
            have g1731 : H1712.2.2.1 72 0 (n) = H.2.2.1 72 0 (n) := by subst hH1712; rfl
            have g1732 : H1712.2.2.1 79 0 (n) = H.2.2.1 79 0 (n) := by subst hH1712; rfl
            have g1733 : H1712.2.2.1 80 0 (n) = H.2.2.1 80 0 (n) := by subst hH1712; rfl
            have g1734 : H1712.2.2.1 56 0 (H0.2.2.1 72 0 (n)) = H.2.2.1 56 0 (H0.2.2.1 72 0 (n)) := by subst hH1712; rfl
            have g1735 : H1712.2.2.1 83 0 (n) = H.2.2.1 83 0 (n) := by subst hH1712; rfl
            have g1736 : H1712.2.2.1 113 0 (n) = H.2.2.1 113 0 (n) := by subst hH1712; rfl
            have g1737 : H1712.2.2.1 112 0 (((6000 : Int) * n) + k) = H.2.2.1 112 0 (((6000 : Int) * n) + k) := by subst hH1712; rfl
            have g1738 : H1712.2.2.1 66 0 (H.2.2.1 112 0 (((6000 : Int) * n) + k)) = H.2.2.1 66 0 (H.2.2.1 112 0 (((6000 : Int) * n) + k)) := by subst hH1712; rfl
            have g1739 : H1712.2.2.1 64 0 (H.2.2.1 112 0 (((6000 : Int) * n) + k)) = H.2.2.1 64 0 (H.2.2.1 112 0 (((6000 : Int) * n) + k)) := by subst hH1712; rfl
            clear hH1712
            refine J.run0 2 rfl ?_
            try dsimp only
            exact ih.2 (most) (q) (k + 1) H1712 _ (show 10000 * ((q) + 1) - 1 - (k + 1) < _ by omega) (show H0.2.2.1 73 0 (n) < (q) ∧ (q) ≤ 31 from ⟨by omega, by omega⟩) (show 0 ≤ (k + 1) ∧ (k + 1) ≤ 6000 from ⟨by omega, by omega⟩) (show H1712.2.2.1 73 0 (n) = H0.2.2.1 73 0 (n) from by omega) (show H1712.2.2.1 74 0 (n) = H0.2.2.1 74 0 (n) from by omega) (show H1712.2.2.1 115 0 (n) = H0.2.2.1 115 0 (n) from by omega) (show H1712.2.2.1 72 0 (n) = H0.2.2.1 72 0 (n) from by omega) (show H1712.2.2.1 79 0 (n) = 0 from by omega) (show H1712.2.2.1 80 0 (n) = 0 from by omega) (show H1712.2.2.1 56 0 (H0.2.2.1 72 0 (n)) = H0.2.2.1 56 0 (H0.2.2.1 72 0 (n)) from by omega) (show H1712.2.2.1 83 0 (n) ≤ 3 * H0.2.2.1 73 0 (n) + H0.2.2.1 74 0 (n) + 1 from by omega) (show H0.1 11 19 0 ≤ H1712.1 11 19 0 from by omega) (show 0 ≤ H0.2.2.1 73 0 (n) ∧ H0.2.2.1 73 0 (n) ≤ 31 from ⟨by omega, by omega⟩) (show 0 ≤ H0.2.2.1 74 0 (n) ∧ H0.2.2.1 74 0 (n) ≤ 2 from ⟨by omega, by omega⟩) (show 0 ≤ H0.2.2.1 115 0 (n) ∧ H0.2.2.1 115 0 (n) ≤ 1 from ⟨by omega, by omega⟩) (show 0 ≤ H0.2.2.1 72 0 (n) ∧ H0.2.2.1 72 0 (n) ≤ 299 from ⟨by omega, by omega⟩) hT1713 hE1714 k1715 k1716 k1717 k1718 k1719 k1720 k1721 k1722 k1723 k1724 (Or.inr (Or.inl ⟨_, rfl⟩))
end
