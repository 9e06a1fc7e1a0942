-- M: X11_count
section
variable {d : Nat} {w : jW} 
-- 
theorem g_count_l0 {what : Int} {H0 : jH} (hp0 : -2147483648 ≤ what ∧ what ≤ 2147483647) : ∀ (m : Nat), (∀ (pairs gr apart n : Int) (H : jH) (lv : jL), 100 * (16 - n) < (m : Int) → (0 ≤ n ∧ n ≤ 16) → (0 ≤ gr ∧ gr ≤ 300) → gT H → jEx [47] [109] H H0 → gP H → gX H → gL H → gZ H → gQ H → gB H → gK H → gN H → gW H (H.1 11 19 0) → (lv = [(5, .inl n), (4, .inl apart), (3, .inl gr), (2, .inl pairs), (0, jT), (1, .inl what)] ∨ (∃ j6 : Int, lv = [(5, .inl n), (6, .inl j6), (4, .inl apart), (3, .inl gr), (2, .inl pairs), (0, jT), (1, .inl what)]) ∨ (∃ j6 : Int, lv = [(5, .inl n), (6, .inl j6), (3, .inl gr), (4, .inl apart), (2, .inl pairs), (0, jT), (1, .inl what)]) ∨ (∃ j6 : Int, lv = [(5, .inl n), (6, .inl j6), (2, .inl pairs), (4, .inl apart), (3, .inl gr), (0, jT), (1, .inl what)]) ∨ (∃ j6 : Int, lv = [(5, .inl n), (6, .inl j6), (2, .inl pairs), (3, .inl gr), (4, .inl apart), (0, jT), (1, .inl what)]) ∨ (∃ j6 : Int, lv = [(5, .inl n), (6, .inl j6), (3, .inl gr), (2, .inl pairs), (4, .inl apart), (0, jT), (1, .inl what)]) ∨ (∃ j6 : Int, lv = [(5, .inl n), (6, .inl j6), (4, .inl apart), (2, .inl pairs), (3, .inl gr), (0, jT), (1, .inl what)])) → J true (d + 1) 169 w (98, lv, [], H) (jN fun v w' H' => w' = w ∧ gT H' ∧ jEx [47] [109] H' H0 ∧ gP H' ∧ gX H' ∧ gL H' ∧ gZ H' ∧ gQ H' ∧ gB H' ∧ gK H' ∧ gN H' ∧ gW H' (H'.1 11 19 0) ∧ ∃ x, v = some (.inl x) ∧ True)) ∧ (∀ (pairs gr apart n : Int) (H : jH) (lv : jL), 100 * (16 - n) - 1 < (m : Int) → (0 ≤ n ∧ n < 16) → (0 ≤ gr ∧ gr ≤ 300) → gT H → jEx [47] [109] H H0 → gP H → gX H → gL H → gZ H → gQ H → gB H → gK H → gN H → gW H (H.1 11 19 0) → (lv = [(5, .inl n), (4, .inl apart), (3, .inl gr), (2, .inl pairs), (0, jT), (1, .inl what)] ∨ lv = [(4, .inl apart), (5, .inl n), (3, .inl gr), (2, .inl pairs), (0, jT), (1, .inl what)] ∨ (∃ j6 : Int, lv = [(5, .inl n), (6, .inl j6), (4, .inl apart), (3, .inl gr), (2, .inl pairs), (0, jT), (1, .inl what)]) ∨ (∃ j6 : Int, lv = [(4, .inl apart), (5, .inl n), (6, .inl j6), (3, .inl gr), (2, .inl pairs), (0, jT), (1, .inl what)]) ∨ (∃ j6 : Int, lv = [(5, .inl n), (6, .inl j6), (3, .inl gr), (4, .inl apart), (2, .inl pairs), (0, jT), (1, .inl what)]) ∨ (∃ j6 : Int, lv = [(5, .inl n), (6, .inl j6), (2, .inl pairs), (4, .inl apart), (3, .inl gr), (0, jT), (1, .inl what)]) ∨ (∃ j6 : Int, lv = [(4, .inl apart), (5, .inl n), (6, .inl j6), (2, .inl pairs), (3, .inl gr), (0, jT), (1, .inl what)]) ∨ (∃ j6 : Int, lv = [(5, .inl n), (6, .inl j6), (2, .inl pairs), (3, .inl gr), (4, .inl apart), (0, jT), (1, .inl what)]) ∨ (∃ j6 : Int, lv = [(5, .inl n), (6, .inl j6), (3, .inl gr), (2, .inl pairs), (4, .inl apart), (0, jT), (1, .inl what)]) ∨ (∃ j6 : Int, lv = [(5, .inl n), (6, .inl j6), (4, .inl apart), (2, .inl pairs), (3, .inl gr), (0, jT), (1, .inl what)])) → J true (d + 1) 169 w (157, lv, [], H) (jN fun v w' H' => w' = w ∧ gT H' ∧ jEx [47] [109] H' H0 ∧ gP H' ∧ gX H' ∧ gL H' ∧ gZ H' ∧ gQ H' ∧ gB H' ∧ gK H' ∧ gN H' ∧ gW H' (H'.1 11 19 0) ∧ ∃ x, v = some (.inl x) ∧ True)) ∧ (∀ (pairs gr apart n k : Int) (H : jH) (lv : jL), 100 * (16 - n) - 2 - k < (m : Int) → (0 ≤ n ∧ n < 16) → (0 ≤ k ∧ k ≤ n) → (0 ≤ gr ∧ gr ≤ 300) → gT H → jEx [47] [109] H H0 → gP H → gX H → gL H → gZ H → gQ H → gB H → gK H → gN H → gW H (H.1 11 19 0) → (lv = [(6, .inl k), (5, .inl n), (4, .inl apart), (3, .inl gr), (2, .inl pairs), (0, jT), (1, .inl what)] ∨ lv = [(6, .inl k), (3, .inl gr), (5, .inl n), (4, .inl apart), (2, .inl pairs), (0, jT), (1, .inl what)] ∨ lv = [(6, .inl k), (4, .inl apart), (5, .inl n), (3, .inl gr), (2, .inl pairs), (0, jT), (1, .inl what)] ∨ lv = [(6, .inl k), (3, .inl gr), (4, .inl apart), (5, .inl n), (2, .inl pairs), (0, jT), (1, .inl what)] ∨ lv = [(6, .inl k), (2, .inl pairs), (5, .inl n), (4, .inl apart), (3, .inl gr), (0, jT), (1, .inl what)] ∨ lv = [(6, .inl k), (2, .inl pairs), (3, .inl gr), (5, .inl n), (4, .inl apart), (0, jT), (1, .inl what)] ∨ lv = [(6, .inl k), (2, .inl pairs), (4, .inl apart), (5, .inl n), (3, .inl gr), (0, jT), (1, .inl what)] ∨ lv = [(6, .inl k), (2, .inl pairs), (3, .inl gr), (4, .inl apart), (5, .inl n), (0, jT), (1, .inl what)] ∨ lv = [(6, .inl k), (5, .inl n), (3, .inl gr), (4, .inl apart), (2, .inl pairs), (0, jT), (1, .inl what)] ∨ lv = [(6, .inl k), (2, .inl pairs), (5, .inl n), (3, .inl gr), (4, .inl apart), (0, jT), (1, .inl what)] ∨ lv = [(6, .inl k), (5, .inl n), (2, .inl pairs), (4, .inl apart), (3, .inl gr), (0, jT), (1, .inl what)] ∨ lv = [(6, .inl k), (3, .inl gr), (5, .inl n), (2, .inl pairs), (4, .inl apart), (0, jT), (1, .inl what)] ∨ lv = [(6, .inl k), (4, .inl apart), (5, .inl n), (2, .inl pairs), (3, .inl gr), (0, jT), (1, .inl what)] ∨ lv = [(6, .inl k), (5, .inl n), (2, .inl pairs), (3, .inl gr), (4, .inl apart), (0, jT), (1, .inl what)] ∨ lv = [(6, .inl k), (5, .inl n), (3, .inl gr), (2, .inl pairs), (4, .inl apart), (0, jT), (1, .inl what)] ∨ lv = [(6, .inl k), (5, .inl n), (4, .inl apart), (2, .inl pairs), (3, .inl gr), (0, jT), (1, .inl what)]) → J true (d + 1) 169 w (189, lv, [], H) (jN fun v w' H' => w' = w ∧ gT H' ∧ jEx [47] [109] H' H0 ∧ gP H' ∧ gX H' ∧ gL H' ∧ gZ H' ∧ gQ H' ∧ gB H' ∧ gK H' ∧ gN H' ∧ gW H' (H'.1 11 19 0) ∧ ∃ x, v = some (.inl x) ∧ True)) := by
  intro m
  induction m with
  | zero =>
    refine ⟨?_, ?_, ?_⟩
    · intro pairs gr apart n H lv hm hi0 hi1 hT hE k0gP k0gX k0gL k0gZ k0gQ k0gB k0gK k0gN k0gW hlv
      exfalso
      omega
    · intro pairs gr apart n H lv hm hi0 hi1 hT hE k0gP k0gX k0gL k0gZ k0gQ k0gB k0gK k0gN k0gW hlv
      exfalso
      omega
    · intro pairs gr apart n k H lv hm hi0 hi1 hi2 hT hE k0gP k0gX k0gL k0gZ k0gQ k0gB k0gK k0gN k0gW hlv
      exfalso
      omega
  | succ m ih =>
    refine ⟨?_, ?_, ?_⟩
    · intro pairs gr apart n H lv hm hi0 hi1 hT hE k0gP k0gX k0gL k0gZ k0gQ k0gB k0gK k0gN k0gW hlv
      rcases hlv with rfl | ⟨j6, rfl⟩ | ⟨j6, rfl⟩ | ⟨j6, rfl⟩ | ⟨j6, rfl⟩ | ⟨j6, rfl⟩ | ⟨j6, rfl⟩
      · skip
        refine J.run0 2 rfl ?_
        try dsimp only
        refine J.icmp rfl rfl rfl ⟨(show -2147483648 ≤ n ∧ n ≤ 2147483647 from ⟨by omega, by omega⟩), (show -2147483648 ≤ (16 : Int) ∧ (16 : Int) ≤ 2147483647 from ⟨by omega, by omega⟩)⟩ (fun hc => ?_) (fun hc => ?_)
        · have c1 : (16 : Int) ≤ n := hc
          clear hc
          refine J.run0 2 rfl ?_
          try dsimp only
          refine J.icmp rfl rfl rfl ⟨(show -2147483648 ≤ what ∧ what ≤ 2147483647 from ⟨by omega, by omega⟩), (show -2147483648 ≤ (5 : Int) ∧ (5 : Int) ≤ 2147483647 from ⟨by omega, by omega⟩)⟩ (fun hc => ?_) (fun hc => ?_)
          · have c2 : ¬ (what = (5 : Int)) := hc
            clear hc
            refine J.run0 2 rfl ?_
            try dsimp only
            refine J.icmp rfl rfl rfl ⟨(show -2147483648 ≤ what ∧ what ≤ 2147483647 from ⟨by omega, by omega⟩), (show -2147483648 ≤ (6 : Int) ∧ (6 : Int) ≤ 2147483647 from ⟨by omega, by omega⟩)⟩ (fun hc => ?_) (fun hc => ?_)
            · have c3 : ¬ (what = (6 : Int)) := hc
              clear hc
              refine J.run0 1 rfl ?_
              try dsimp only
              exact J.reti rfl rfl rfl ⟨_, rfl, rfl, hT, hE, k0gP, k0gX, k0gL, k0gZ, k0gQ, k0gB, k0gK, k0gN, k0gW, _, rfl, (show True from trivial)⟩
            · have c4 : ¬ (¬ (what = (6 : Int))) := hc
              clear hc
              refine J.run0 2 rfl ?_
              try dsimp only
              exact J.reti rfl rfl rfl ⟨_, rfl, rfl, hT, hE, k0gP, k0gX, k0gL, k0gZ, k0gQ, k0gB, k0gK, k0gN, k0gW, _, rfl, (show True from trivial)⟩
          · have c5 : ¬ (¬ (what = (5 : Int))) := hc
            clear hc
            refine J.run0 2 rfl ?_
            try dsimp only
            exact J.reti rfl rfl rfl ⟨_, rfl, rfl, hT, hE, k0gP, k0gX, k0gL, k0gZ, k0gQ, k0gB, k0gK, k0gN, k0gW, _, rfl, (show True from trivial)⟩
        · have c6 : ¬ ((16 : Int) ≤ n) := hc
          clear hc
          have f7 : 0 ≤ H.2.2.1 79 0 (n) ∧ H.2.2.1 79 0 (n) ≤ 1 := hT.1 79 (n)
          refine J.run 4 rfl (show 0 ≤ n ∧ n < 16 from ⟨by omega, by omega⟩) ?_
          try dsimp only
          refine J.ifc rfl rfl rfl (show -2147483648 ≤ H.2.2.1 79 0 (n) ∧ H.2.2.1 79 0 (n) ≤ 2147483647 from ⟨by omega, by omega⟩) (fun hc => ?_) (fun hc => ?_)
          · have c8 : H.2.2.1 79 0 (n) = (0 : Int) := hc
            clear hc
            have f9 : 0 ≤ H.1 11 45 0 ∧ H.1 11 45 0 ≤ 299 := hT.2.1 45
            have f10 : 1 ≤ H.1 11 12 0 ∧ H.1 11 12 0 ≤ 300 := hT.2.1 12
            have f9b : H.1 11 45 0 < H.1 11 12 0 := hT.2.2.2 45 rfl
            have f11 : 0 ≤ H.2.2.1 72 0 (n) ∧ H.2.2.1 72 0 (n) ≤ 299 := hT.1 72 (n)
            have f11b : H.2.2.1 72 0 (n) < H.1 11 12 0 := hT.2.2.1 72 (n) rfl
            refine J.run 7 rfl (show 0 ≤ n ∧ n < 16 from ⟨by omega, by omega⟩) ?_
            try dsimp only
            refine J.inv rfl rfl rfl rfl rfl rfl jDr rfl rfl rfl rfl rfl (g_isAbove (above := H.1 11 45 0) (b := H.2.2.1 72 0 (n)) hT k0gP (show -2147483648 ≤ (H.1 11 45 0) ∧ (H.1 11 45 0) ≤ 2147483647 from ⟨by omega, by omega⟩) (show -1 ≤ (H.2.2.1 72 0 (n)) ∧ (H.2.2.1 72 0 (n)) < 300 from ⟨by omega, by omega⟩)) ?_
            rintro v w H ⟨rfl, rfl, x12, rfl, r13⟩
            have r13' : 0 ≤ x12 ∧ x12 ≤ 1 := r13
            try dsimp only [Option.toList, List.append, List.cons_append, List.nil_append]
            refine J.ifc rfl rfl rfl (show -2147483648 ≤ x12 ∧ x12 ≤ 2147483647 from ⟨by omega, by omega⟩) (fun hc => ?_) (fun hc => ?_)
            · have c14 : ¬ (x12 = (0 : Int)) := hc
              clear hc
              exact ih.2.1 (pairs) (gr) (apart) (n) H _ (show 100 * (16 - (n)) - 1 < _ by omega) (show 0 ≤ (n) ∧ (n) < 16 from ⟨by omega, by omega⟩) (show 0 ≤ (gr) ∧ (gr) ≤ 300 from ⟨by omega, by omega⟩) hT hE k0gP k0gX k0gL k0gZ k0gQ k0gB k0gK k0gN k0gW (Or.inl rfl)
            · have c15 : ¬ (¬ (x12 = (0 : Int))) := hc
              clear hc
              refine J.run 7 rfl (show 0 ≤ n ∧ n < 16 from ⟨by omega, by omega⟩) ?_
              try dsimp only
              refine J.inv rfl rfl rfl rfl rfl rfl jDr rfl rfl rfl rfl rfl (g_isAbove (above := H.2.2.1 72 0 (n)) (b := H.1 11 45 0) hT k0gP (show -2147483648 ≤ (H.2.2.1 72 0 (n)) ∧ (H.2.2.1 72 0 (n)) ≤ 2147483647 from ⟨by omega, by omega⟩) (show -1 ≤ (H.1 11 45 0) ∧ (H.1 11 45 0) < 300 from ⟨by omega, by omega⟩)) ?_
              rintro v w H ⟨rfl, rfl, x16, rfl, r17⟩
              have r17' : 0 ≤ x16 ∧ x16 ≤ 1 := r17
              try dsimp only [Option.toList, List.append, List.cons_append, List.nil_append]
              refine J.ifc rfl rfl rfl (show -2147483648 ≤ x16 ∧ x16 ≤ 2147483647 from ⟨by omega, by omega⟩) (fun hc => ?_) (fun hc => ?_)
              · have c18 : ¬ (x16 = (0 : Int)) := hc
                clear hc
                exact ih.2.1 (pairs) (gr) (apart) (n) H _ (show 100 * (16 - (n)) - 1 < _ by omega) (show 0 ≤ (n) ∧ (n) < 16 from ⟨by omega, by omega⟩) (show 0 ≤ (gr) ∧ (gr) ≤ 300 from ⟨by omega, by omega⟩) hT hE k0gP k0gX k0gL k0gZ k0gQ k0gB k0gK k0gN k0gW (Or.inl rfl)
              · have c19 : ¬ (¬ (x16 = (0 : Int))) := hc
                clear hc
                refine J.run0 1 rfl ?_
                try dsimp only
                exact ih.2.1 (pairs) (gr) (apart + 1) (n) H _ (show 100 * (16 - (n)) - 1 < _ by omega) (show 0 ≤ (n) ∧ (n) < 16 from ⟨by omega, by omega⟩) (show 0 ≤ (gr) ∧ (gr) ≤ 300 from ⟨by omega, by omega⟩) hT hE k0gP k0gX k0gL k0gZ k0gQ k0gB k0gK k0gN k0gW (Or.inr (Or.inl rfl))
          · have c20 : ¬ (H.2.2.1 79 0 (n) = (0 : Int)) := hc
            clear hc
            refine J.run0 3 rfl ?_
            try dsimp only
            exact ih.1 (pairs) (gr) (apart) (n + 1) H _ (show 100 * (16 - (n + 1)) < _ by omega) (show 0 ≤ (n + 1) ∧ (n + 1) ≤ 16 from ⟨by omega, by omega⟩) (show 0 ≤ (gr) ∧ (gr) ≤ 300 from ⟨by omega, by omega⟩) hT hE k0gP k0gX k0gL k0gZ k0gQ k0gB k0gK k0gN k0gW (Or.inl rfl)
      · skip
        refine J.run0 2 rfl ?_
        try dsimp only
        refine J.icmp rfl rfl rfl ⟨(show -2147483648 ≤ n ∧ n ≤ 2147483647 from ⟨by omega, by omega⟩), (show -2147483648 ≤ (16 : Int) ∧ (16 : Int) ≤ 2147483647 from ⟨by omega, by omega⟩)⟩ (fun hc => ?_) (fun hc => ?_)
        · have c21 : (16 : Int) ≤ n := hc
          clear hc
          refine J.run0 2 rfl ?_
          try dsimp only
          refine J.icmp rfl rfl rfl ⟨(show -2147483648 ≤ what ∧ what ≤ 2147483647 from ⟨by omega, by omega⟩), (show -2147483648 ≤ (5 : Int) ∧ (5 : Int) ≤ 2147483647 from ⟨by omega, by omega⟩)⟩ (fun hc => ?_) (fun hc => ?_)
          · have c22 : ¬ (what = (5 : Int)) := hc
            clear hc
            refine J.run0 2 rfl ?_
            try dsimp only
            refine J.icmp rfl rfl rfl ⟨(show -2147483648 ≤ what ∧ what ≤ 2147483647 from ⟨by omega, by omega⟩), (show -2147483648 ≤ (6 : Int) ∧ (6 : Int) ≤ 2147483647 from ⟨by omega, by omega⟩)⟩ (fun hc => ?_) (fun hc => ?_)
            · have c23 : ¬ (what = (6 : Int)) := hc
              clear hc
              refine J.run0 1 rfl ?_
              try dsimp only
              exact J.reti rfl rfl rfl ⟨_, rfl, rfl, hT, hE, k0gP, k0gX, k0gL, k0gZ, k0gQ, k0gB, k0gK, k0gN, k0gW, _, rfl, (show True from trivial)⟩
            · have c24 : ¬ (¬ (what = (6 : Int))) := hc
              clear hc
              refine J.run0 2 rfl ?_
              try dsimp only
              exact J.reti rfl rfl rfl ⟨_, rfl, rfl, hT, hE, k0gP, k0gX, k0gL, k0gZ, k0gQ, k0gB, k0gK, k0gN, k0gW, _, rfl, (show True from trivial)⟩
          · have c25 : ¬ (¬ (what = (5 : Int))) := hc
            clear hc
            refine J.run0 2 rfl ?_
            try dsimp only
            exact J.reti rfl rfl rfl ⟨_, rfl, rfl, hT, hE, k0gP, k0gX, k0gL, k0gZ, k0gQ, k0gB, k0gK, k0gN, k0gW, _, rfl, (show True from trivial)⟩
        · have c26 : ¬ ((16 : Int) ≤ n) := hc
          clear hc
          have f27 : 0 ≤ H.2.2.1 79 0 (n) ∧ H.2.2.1 79 0 (n) ≤ 1 := hT.1 79 (n)
          refine J.run 4 rfl (show 0 ≤ n ∧ n < 16 from ⟨by omega, by omega⟩) ?_
          try dsimp only
          refine J.ifc rfl rfl rfl (show -2147483648 ≤ H.2.2.1 79 0 (n) ∧ H.2.2.1 79 0 (n) ≤ 2147483647 from ⟨by omega, by omega⟩) (fun hc => ?_) (fun hc => ?_)
          · have c28 : H.2.2.1 79 0 (n) = (0 : Int) := hc
            clear hc
            have f29 : 0 ≤ H.1 11 45 0 ∧ H.1 11 45 0 ≤ 299 := hT.2.1 45
            have f30 : 1 ≤ H.1 11 12 0 ∧ H.1 11 12 0 ≤ 300 := hT.2.1 12
            have f29b : H.1 11 45 0 < H.1 11 12 0 := hT.2.2.2 45 rfl
            have f31 : 0 ≤ H.2.2.1 72 0 (n) ∧ H.2.2.1 72 0 (n) ≤ 299 := hT.1 72 (n)
            have f31b : H.2.2.1 72 0 (n) < H.1 11 12 0 := hT.2.2.1 72 (n) rfl
            refine J.run 7 rfl (show 0 ≤ n ∧ n < 16 from ⟨by omega, by omega⟩) ?_
            try dsimp only
            refine J.inv rfl rfl rfl rfl rfl rfl jDr rfl rfl rfl rfl rfl (g_isAbove (above := H.1 11 45 0) (b := H.2.2.1 72 0 (n)) hT k0gP (show -2147483648 ≤ (H.1 11 45 0) ∧ (H.1 11 45 0) ≤ 2147483647 from ⟨by omega, by omega⟩) (show -1 ≤ (H.2.2.1 72 0 (n)) ∧ (H.2.2.1 72 0 (n)) < 300 from ⟨by omega, by omega⟩)) ?_
            rintro v w H ⟨rfl, rfl, x32, rfl, r33⟩
            have r33' : 0 ≤ x32 ∧ x32 ≤ 1 := r33
            try dsimp only [Option.toList, List.append, List.cons_append, List.nil_append]
            refine J.ifc rfl rfl rfl (show -2147483648 ≤ x32 ∧ x32 ≤ 2147483647 from ⟨by omega, by omega⟩) (fun hc => ?_) (fun hc => ?_)
            · have c34 : ¬ (x32 = (0 : Int)) := hc
              clear hc
              exact ih.2.1 (pairs) (gr) (apart) (n) H _ (show 100 * (16 - (n)) - 1 < _ by omega) (show 0 ≤ (n) ∧ (n) < 16 from ⟨by omega, by omega⟩) (show 0 ≤ (gr) ∧ (gr) ≤ 300 from ⟨by omega, by omega⟩) hT hE k0gP k0gX k0gL k0gZ k0gQ k0gB k0gK k0gN k0gW (Or.inr (Or.inr (Or.inl ⟨_, rfl⟩)))
            · have c35 : ¬ (¬ (x32 = (0 : Int))) := hc
              clear hc
              refine J.run 7 rfl (show 0 ≤ n ∧ n < 16 from ⟨by omega, by omega⟩) ?_
              try dsimp only
              refine J.inv rfl rfl rfl rfl rfl rfl jDr rfl rfl rfl rfl rfl (g_isAbove (above := H.2.2.1 72 0 (n)) (b := H.1 11 45 0) hT k0gP (show -2147483648 ≤ (H.2.2.1 72 0 (n)) ∧ (H.2.2.1 72 0 (n)) ≤ 2147483647 from ⟨by omega, by omega⟩) (show -1 ≤ (H.1 11 45 0) ∧ (H.1 11 45 0) < 300 from ⟨by omega, by omega⟩)) ?_
              rintro v w H ⟨rfl, rfl, x36, rfl, r37⟩
              have r37' : 0 ≤ x36 ∧ x36 ≤ 1 := r37
              try dsimp only [Option.toList, List.append, List.cons_append, List.nil_append]
              refine J.ifc rfl rfl rfl (show -2147483648 ≤ x36 ∧ x36 ≤ 2147483647 from ⟨by omega, by omega⟩) (fun hc => ?_) (fun hc => ?_)
              · have c38 : ¬ (x36 = (0 : Int)) := hc
                clear hc
                exact ih.2.1 (pairs) (gr) (apart) (n) H _ (show 100 * (16 - (n)) - 1 < _ by omega) (show 0 ≤ (n) ∧ (n) < 16 from ⟨by omega, by omega⟩) (show 0 ≤ (gr) ∧ (gr) ≤ 300 from ⟨by omega, by omega⟩) hT hE k0gP k0gX k0gL k0gZ k0gQ k0gB k0gK k0gN k0gW (Or.inr (Or.inr (Or.inl ⟨_, rfl⟩)))
              · have c39 : ¬ (¬ (x36 = (0 : Int))) := hc
                clear hc
                refine J.run0 1 rfl ?_
                try dsimp only
                exact ih.2.1 (pairs) (gr) (apart + 1) (n) H _ (show 100 * (16 - (n)) - 1 < _ by omega) (show 0 ≤ (n) ∧ (n) < 16 from ⟨by omega, by omega⟩) (show 0 ≤ (gr) ∧ (gr) ≤ 300 from ⟨by omega, by omega⟩) hT hE k0gP k0gX k0gL k0gZ k0gQ k0gB k0gK k0gN k0gW (Or.inr (Or.inr (Or.inr (Or.inl ⟨_, rfl⟩))))
          · have c40 : ¬ (H.2.2.1 79 0 (n) = (0 : Int)) := hc
            clear hc
            refine J.run0 3 rfl ?_
            try dsimp only
            exact ih.1 (pairs) (gr) (apart) (n + 1) H _ (show 100 * (16 - (n + 1)) < _ by omega) (show 0 ≤ (n + 1) ∧ (n + 1) ≤ 16 from ⟨by omega, by omega⟩) (show 0 ≤ (gr) ∧ (gr) ≤ 300 from ⟨by omega, by omega⟩) hT hE k0gP k0gX k0gL k0gZ k0gQ k0gB k0gK k0gN k0gW (Or.inr (Or.inl ⟨_, rfl⟩))
      · skip
        refine J.run0 2 rfl ?_
        try dsimp only
        refine J.icmp rfl rfl rfl ⟨(show -2147483648 ≤ n ∧ n ≤ 2147483647 from ⟨by omega, by omega⟩), (show -2147483648 ≤ (16 : Int) ∧ (16 : Int) ≤ 2147483647 from ⟨by omega, by omega⟩)⟩ (fun hc => ?_) (fun hc => ?_)
        · have c41 : (16 : Int) ≤ n := hc
          clear hc
          refine J.run0 2 rfl ?_
          try dsimp only
          refine J.icmp rfl rfl rfl ⟨(show -2147483648 ≤ what ∧ what ≤ 2147483647 from ⟨by omega, by omega⟩), (show -2147483648 ≤ (5 : Int) ∧ (5 : Int) ≤ 2147483647 from ⟨by omega, by omega⟩)⟩ (fun hc => ?_) (fun hc => ?_)
          · have c42 : ¬ (what = (5 : Int)) := hc
            clear hc
            refine J.run0 2 rfl ?_
            try dsimp only
            refine J.icmp rfl rfl rfl ⟨(show -2147483648 ≤ what ∧ what ≤ 2147483647 from ⟨by omega, by omega⟩), (show -2147483648 ≤ (6 : Int) ∧ (6 : Int) ≤ 2147483647 from ⟨by omega, by omega⟩)⟩ (fun hc => ?_) (fun hc => ?_)
            · have c43 : ¬ (what = (6 : Int)) := hc
              clear hc
              refine J.run0 1 rfl ?_
              try dsimp only
              exact J.reti rfl rfl rfl ⟨_, rfl, rfl, hT, hE, k0gP, k0gX, k0gL, k0gZ, k0gQ, k0gB, k0gK, k0gN, k0gW, _, rfl, (show True from trivial)⟩
            · have c44 : ¬ (¬ (what = (6 : Int))) := hc
              clear hc
              refine J.run0 2 rfl ?_
              try dsimp only
              exact J.reti rfl rfl rfl ⟨_, rfl, rfl, hT, hE, k0gP, k0gX, k0gL, k0gZ, k0gQ, k0gB, k0gK, k0gN, k0gW, _, rfl, (show True from trivial)⟩
          · have c45 : ¬ (¬ (what = (5 : Int))) := hc
            clear hc
            refine J.run0 2 rfl ?_
            try dsimp only
            exact J.reti rfl rfl rfl ⟨_, rfl, rfl, hT, hE, k0gP, k0gX, k0gL, k0gZ, k0gQ, k0gB, k0gK, k0gN, k0gW, _, rfl, (show True from trivial)⟩
        · have c46 : ¬ ((16 : Int) ≤ n) := hc
          clear hc
          have f47 : 0 ≤ H.2.2.1 79 0 (n) ∧ H.2.2.1 79 0 (n) ≤ 1 := hT.1 79 (n)
          refine J.run 4 rfl (show 0 ≤ n ∧ n < 16 from ⟨by omega, by omega⟩) ?_
          try dsimp only
          refine J.ifc rfl rfl rfl (show -2147483648 ≤ H.2.2.1 79 0 (n) ∧ H.2.2.1 79 0 (n) ≤ 2147483647 from ⟨by omega, by omega⟩) (fun hc => ?_) (fun hc => ?_)
          · have c48 : H.2.2.1 79 0 (n) = (0 : Int) := hc
            clear hc
            have f49 : 0 ≤ H.1 11 45 0 ∧ H.1 11 45 0 ≤ 299 := hT.2.1 45
            have f50 : 1 ≤ H.1 11 12 0 ∧ H.1 11 12 0 ≤ 300 := hT.2.1 12
            have f49b : H.1 11 45 0 < H.1 11 12 0 := hT.2.2.2 45 rfl
            have f51 : 0 ≤ H.2.2.1 72 0 (n) ∧ H.2.2.1 72 0 (n) ≤ 299 := hT.1 72 (n)
            have f51b : H.2.2.1 72 0 (n) < H.1 11 12 0 := hT.2.2.1 72 (n) rfl
            refine J.run 7 rfl (show 0 ≤ n ∧ n < 16 from ⟨by omega, by omega⟩) ?_
            try dsimp only
            refine J.inv rfl rfl rfl rfl rfl rfl jDr rfl rfl rfl rfl rfl (g_isAbove (above := H.1 11 45 0) (b := H.2.2.1 72 0 (n)) hT k0gP (show -2147483648 ≤ (H.1 11 45 0) ∧ (H.1 11 45 0) ≤ 2147483647 from ⟨by omega, by omega⟩) (show -1 ≤ (H.2.2.1 72 0 (n)) ∧ (H.2.2.1 72 0 (n)) < 300 from ⟨by omega, by omega⟩)) ?_
            rintro v w H ⟨rfl, rfl, x52, rfl, r53⟩
            have r53' : 0 ≤ x52 ∧ x52 ≤ 1 := r53
            try dsimp only [Option.toList, List.append, List.cons_append, List.nil_append]
            refine J.ifc rfl rfl rfl (show -2147483648 ≤ x52 ∧ x52 ≤ 2147483647 from ⟨by omega, by omega⟩) (fun hc => ?_) (fun hc => ?_)
            · have c54 : ¬ (x52 = (0 : Int)) := hc
              clear hc
              exact ih.2.1 (pairs) (gr) (apart) (n) H _ (show 100 * (16 - (n)) - 1 < _ by omega) (show 0 ≤ (n) ∧ (n) < 16 from ⟨by omega, by omega⟩) (show 0 ≤ (gr) ∧ (gr) ≤ 300 from ⟨by omega, by omega⟩) hT hE k0gP k0gX k0gL k0gZ k0gQ k0gB k0gK k0gN k0gW (Or.inr (Or.inr (Or.inr (Or.inr (Or.inl ⟨_, rfl⟩)))))
            · have c55 : ¬ (¬ (x52 = (0 : Int))) := hc
              clear hc
              refine J.run 7 rfl (show 0 ≤ n ∧ n < 16 from ⟨by omega, by omega⟩) ?_
              try dsimp only
              refine J.inv rfl rfl rfl rfl rfl rfl jDr rfl rfl rfl rfl rfl (g_isAbove (above := H.2.2.1 72 0 (n)) (b := H.1 11 45 0) hT k0gP (show -2147483648 ≤ (H.2.2.1 72 0 (n)) ∧ (H.2.2.1 72 0 (n)) ≤ 2147483647 from ⟨by omega, by omega⟩) (show -1 ≤ (H.1 11 45 0) ∧ (H.1 11 45 0) < 300 from ⟨by omega, by omega⟩)) ?_
              rintro v w H ⟨rfl, rfl, x56, rfl, r57⟩
              have r57' : 0 ≤ x56 ∧ x56 ≤ 1 := r57
              try dsimp only [Option.toList, List.append, List.cons_append, List.nil_append]
              refine J.ifc rfl rfl rfl (show -2147483648 ≤ x56 ∧ x56 ≤ 2147483647 from ⟨by omega, by omega⟩) (fun hc => ?_) (fun hc => ?_)
              · have c58 : ¬ (x56 = (0 : Int)) := hc
                clear hc
                exact ih.2.1 (pairs) (gr) (apart) (n) H _ (show 100 * (16 - (n)) - 1 < _ by omega) (show 0 ≤ (n) ∧ (n) < 16 from ⟨by omega, by omega⟩) (show 0 ≤ (gr) ∧ (gr) ≤ 300 from ⟨by omega, by omega⟩) hT hE k0gP k0gX k0gL k0gZ k0gQ k0gB k0gK k0gN k0gW (Or.inr (Or.inr (Or.inr (Or.inr (Or.inl ⟨_, rfl⟩)))))
              · have c59 : ¬ (¬ (x56 = (0 : Int))) := hc
                clear hc
                refine J.run0 1 rfl ?_
                try dsimp only
                exact ih.2.1 (pairs) (gr) (apart + 1) (n) H _ (show 100 * (16 - (n)) - 1 < _ by omega) (show 0 ≤ (n) ∧ (n) < 16 from ⟨by omega, by omega⟩) (show 0 ≤ (gr) ∧ (gr) ≤ 300 from ⟨by omega, by omega⟩) hT hE k0gP k0gX k0gL k0gZ k0gQ k0gB k0gK k0gN k0gW (Or.inr (Or.inr (Or.inr (Or.inl ⟨_, rfl⟩))))
          · have c60 : ¬ (H.2.2.1 79 0 (n) = (0 : Int)) := hc
            clear hc
            refine J.run0 3 rfl ?_
            try dsimp only
            exact ih.1 (pairs) (gr) (apart) (n + 1) H _ (show 100 * (16 - (n + 1)) < _ by omega) (show 0 ≤ (n + 1) ∧ (n + 1) ≤ 16 from ⟨by omega, by omega⟩) (show 0 ≤ (gr) ∧ (gr) ≤ 300 from ⟨by omega, by omega⟩) hT hE k0gP k0gX k0gL k0gZ k0gQ k0gB k0gK k0gN k0gW (Or.inr (Or.inr (Or.inl ⟨_, rfl⟩)))
      · skip
        refine J.run0 2 rfl ?_
        try dsimp only
        refine J.icmp rfl rfl rfl ⟨(show -2147483648 ≤ n ∧ n ≤ 2147483647 from ⟨by omega, by omega⟩), (show -2147483648 ≤ (16 : Int) ∧ (16 : Int) ≤ 2147483647 from ⟨by omega, by omega⟩)⟩ (fun hc => ?_) (fun hc => ?_)
        · have c61 : (16 : Int) ≤ n := hc
          clear hc
          refine J.run0 2 rfl ?_
          try dsimp only
          refine J.icmp rfl rfl rfl ⟨(show -2147483648 ≤ what ∧ what ≤ 2147483647 from ⟨by omega, by omega⟩), (show -2147483648 ≤ (5 : Int) ∧ (5 : Int) ≤ 2147483647 from ⟨by omega, by omega⟩)⟩ (fun hc => ?_) (fun hc => ?_)
          · have c62 : ¬ (what = (5 : Int)) := hc
            clear hc
            refine J.run0 2 rfl ?_
            try dsimp only
            refine J.icmp rfl rfl rfl ⟨(show -2147483648 ≤ what ∧ what ≤ 2147483647 from ⟨by omega, by omega⟩), (show -2147483648 ≤ (6 : Int) ∧ (6 : Int) ≤ 2147483647 from ⟨by omega, by omega⟩)⟩ (fun hc => ?_) (fun hc => ?_)
            · have c63 : ¬ (what = (6 : Int)) := hc
              clear hc
              refine J.run0 1 rfl ?_
              try dsimp only
              exact J.reti rfl rfl rfl ⟨_, rfl, rfl, hT, hE, k0gP, k0gX, k0gL, k0gZ, k0gQ, k0gB, k0gK, k0gN, k0gW, _, rfl, (show True from trivial)⟩
            · have c64 : ¬ (¬ (what = (6 : Int))) := hc
              clear hc
              refine J.run0 2 rfl ?_
              try dsimp only
              exact J.reti rfl rfl rfl ⟨_, rfl, rfl, hT, hE, k0gP, k0gX, k0gL, k0gZ, k0gQ, k0gB, k0gK, k0gN, k0gW, _, rfl, (show True from trivial)⟩
          · have c65 : ¬ (¬ (what = (5 : Int))) := hc
            clear hc
            refine J.run0 2 rfl ?_
            try dsimp only
            exact J.reti rfl rfl rfl ⟨_, rfl, rfl, hT, hE, k0gP, k0gX, k0gL, k0gZ, k0gQ, k0gB, k0gK, k0gN, k0gW, _, rfl, (show True from trivial)⟩
        · have c66 : ¬ ((16 : Int) ≤ n) := hc
          clear hc
          have f67 : 0 ≤ H.2.2.1 79 0 (n) ∧ H.2.2.1 79 0 (n) ≤ 1 := hT.1 79 (n)
          refine J.run 4 rfl (show 0 ≤ n ∧ n < 16 from ⟨by omega, by omega⟩) ?_
          try dsimp only
          refine J.ifc rfl rfl rfl (show -2147483648 ≤ H.2.2.1 79 0 (n) ∧ H.2.2.1 79 0 (n) ≤ 2147483647 from ⟨by omega, by omega⟩) (fun hc => ?_) (fun hc => ?_)
          · have c68 : H.2.2.1 79 0 (n) = (0 : Int) := hc
            clear hc
            have f69 : 0 ≤ H.1 11 45 0 ∧ H.1 11 45 0 ≤ 299 := hT.2.1 45
            have f70 : 1 ≤ H.1 11 12 0 ∧ H.1 11 12 0 ≤ 300 := hT.2.1 12
            have f69b : H.1 11 45 0 < H.1 11 12 0 := hT.2.2.2 45 rfl
            have f71 : 0 ≤ H.2.2.1 72 0 (n) ∧ H.2.2.1 72 0 (n) ≤ 299 := hT.1 72 (n)
            have f71b : H.2.2.1 72 0 (n) < H.1 11 12 0 := hT.2.2.1 72 (n) rfl
            refine J.run 7 rfl (show 0 ≤ n ∧ n < 16 from ⟨by omega, by omega⟩) ?_
            try dsimp only
            refine J.inv rfl rfl rfl rfl rfl rfl jDr rfl rfl rfl rfl rfl (g_isAbove (above := H.1 11 45 0) (b := H.2.2.1 72 0 (n)) hT k0gP (show -2147483648 ≤ (H.1 11 45 0) ∧ (H.1 11 45 0) ≤ 2147483647 from ⟨by omega, by omega⟩) (show -1 ≤ (H.2.2.1 72 0 (n)) ∧ (H.2.2.1 72 0 (n)) < 300 from ⟨by omega, by omega⟩)) ?_
            rintro v w H ⟨rfl, rfl, x72, rfl, r73⟩
            have r73' : 0 ≤ x72 ∧ x72 ≤ 1 := r73
            try dsimp only [Option.toList, List.append, List.cons_append, List.nil_append]
            refine J.ifc rfl rfl rfl (show -2147483648 ≤ x72 ∧ x72 ≤ 2147483647 from ⟨by omega, by omega⟩) (fun hc => ?_) (fun hc => ?_)
            · have c74 : ¬ (x72 = (0 : Int)) := hc
              clear hc
              exact ih.2.1 (pairs) (gr) (apart) (n) H _ (show 100 * (16 - (n)) - 1 < _ by omega) (show 0 ≤ (n) ∧ (n) < 16 from ⟨by omega, by omega⟩) (show 0 ≤ (gr) ∧ (gr) ≤ 300 from ⟨by omega, by omega⟩) hT hE k0gP k0gX k0gL k0gZ k0gQ k0gB k0gK k0gN k0gW (Or.inr (Or.inr (Or.inr (Or.inr (Or.inr (Or.inl ⟨_, rfl⟩))))))
            · have c75 : ¬ (¬ (x72 = (0 : Int))) := hc
              clear hc
              refine J.run 7 rfl (show 0 ≤ n ∧ n < 16 from ⟨by omega, by omega⟩) ?_
              try dsimp only
              refine J.inv rfl rfl rfl rfl rfl rfl jDr rfl rfl rfl rfl rfl (g_isAbove (above := H.2.2.1 72 0 (n)) (b := H.1 11 45 0) hT k0gP (show -2147483648 ≤ (H.2.2.1 72 0 (n)) ∧ (H.2.2.1 72 0 (n)) ≤ 2147483647 from ⟨by omega, by omega⟩) (show -1 ≤ (H.1 11 45 0) ∧ (H.1 11 45 0) < 300 from ⟨by omega, by omega⟩)) ?_
              rintro v w H ⟨rfl, rfl, x76, rfl, r77⟩
              have r77' : 0 ≤ x76 ∧ x76 ≤ 1 := r77
              try dsimp only [Option.toList, List.append, List.cons_append, List.nil_append]
              refine J.ifc rfl rfl rfl (show -2147483648 ≤ x76 ∧ x76 ≤ 2147483647 from ⟨by omega, by omega⟩) (fun hc => ?_) (fun hc => ?_)
              · have c78 : ¬ (x76 = (0 : Int)) := hc
                clear hc
                exact ih.2.1 (pairs) (gr) (apart) (n) H _ (show 100 * (16 - (n)) - 1 < _ by omega) (show 0 ≤ (n) ∧ (n) < 16 from ⟨by omega, by omega⟩) (show 0 ≤ (gr) ∧ (gr) ≤ 300 from ⟨by omega, by omega⟩) hT hE k0gP k0gX k0gL k0gZ k0gQ k0gB k0gK k0gN k0gW (Or.inr (Or.inr (Or.inr (Or.inr (Or.inr (Or.inl ⟨_, rfl⟩))))))
              · have c79 : ¬ (¬ (x76 = (0 : Int))) := hc
                clear hc
                refine J.run0 1 rfl ?_
                try dsimp only
                exact ih.2.1 (pairs) (gr) (apart + 1) (n) H _ (show 100 * (16 - (n)) - 1 < _ by omega) (show 0 ≤ (n) ∧ (n) < 16 from ⟨by omega, by omega⟩) (show 0 ≤ (gr) ∧ (gr) ≤ 300 from ⟨by omega, by omega⟩) hT hE k0gP k0gX k0gL k0gZ k0gQ k0gB k0gK k0gN k0gW (Or.inr (Or.inr (Or.inr (Or.inr (Or.inr (Or.inr (Or.inl ⟨_, rfl⟩)))))))
          · have c80 : ¬ (H.2.2.1 79 0 (n) = (0 : Int)) := hc
            clear hc
            refine J.run0 3 rfl ?_
            try dsimp only
            exact ih.1 (pairs) (gr) (apart) (n + 1) H _ (show 100 * (16 - (n + 1)) < _ by omega) (show 0 ≤ (n + 1) ∧ (n + 1) ≤ 16 from ⟨by omega, by omega⟩) (show 0 ≤ (gr) ∧ (gr) ≤ 300 from ⟨by omega, by omega⟩) hT hE k0gP k0gX k0gL k0gZ k0gQ k0gB k0gK k0gN k0gW (Or.inr (Or.inr (Or.inr (Or.inl ⟨_, rfl⟩))))
      · skip
        refine J.run0 2 rfl ?_
        try dsimp only
        refine J.icmp rfl rfl rfl ⟨(show -2147483648 ≤ n ∧ n ≤ 2147483647 from ⟨by omega, by omega⟩), (show -2147483648 ≤ (16 : Int) ∧ (16 : Int) ≤ 2147483647 from ⟨by omega, by omega⟩)⟩ (fun hc => ?_) (fun hc => ?_)
        · have c81 : (16 : Int) ≤ n := hc
          clear hc
          refine J.run0 2 rfl ?_
          try dsimp only
          refine J.icmp rfl rfl rfl ⟨(show -2147483648 ≤ what ∧ what ≤ 2147483647 from ⟨by omega, by omega⟩), (show -2147483648 ≤ (5 : Int) ∧ (5 : Int) ≤ 2147483647 from ⟨by omega, by omega⟩)⟩ (fun hc => ?_) (fun hc => ?_)
          · have c82 : ¬ (what = (5 : Int)) := hc
            clear hc
            refine J.run0 2 rfl ?_
            try dsimp only
            refine J.icmp rfl rfl rfl ⟨(show -2147483648 ≤ what ∧ what ≤ 2147483647 from ⟨by omega, by omega⟩), (show -2147483648 ≤ (6 : Int) ∧ (6 : Int) ≤ 2147483647 from ⟨by omega, by omega⟩)⟩ (fun hc => ?_) (fun hc => ?_)
            · have c83 : ¬ (what = (6 : Int)) := hc
              clear hc
              refine J.run0 1 rfl ?_
              try dsimp only
              exact J.reti rfl rfl rfl ⟨_, rfl, rfl, hT, hE, k0gP, k0gX, k0gL, k0gZ, k0gQ, k0gB, k0gK, k0gN, k0gW, _, rfl, (show True from trivial)⟩
            · have c84 : ¬ (¬ (what = (6 : Int))) := hc
              clear hc
              refine J.run0 2 rfl ?_
              try dsimp only
              exact J.reti rfl rfl rfl ⟨_, rfl, rfl, hT, hE, k0gP, k0gX, k0gL, k0gZ, k0gQ, k0gB, k0gK, k0gN, k0gW, _, rfl, (show True from trivial)⟩
          · have c85 : ¬ (¬ (what = (5 : Int))) := hc
            clear hc
            refine J.run0 2 rfl ?_
            try dsimp only
            exact J.reti rfl rfl rfl ⟨_, rfl, rfl, hT, hE, k0gP, k0gX, k0gL, k0gZ, k0gQ, k0gB, k0gK, k0gN, k0gW, _, rfl, (show True from trivial)⟩
        · have c86 : ¬ ((16 : Int) ≤ n) := hc
          clear hc
          have f87 : 0 ≤ H.2.2.1 79 0 (n) ∧ H.2.2.1 79 0 (n) ≤ 1 := hT.1 79 (n)
          refine J.run 4 rfl (show 0 ≤ n ∧ n < 16 from ⟨by omega, by omega⟩) ?_
          try dsimp only
          refine J.ifc rfl rfl rfl (show -2147483648 ≤ H.2.2.1 79 0 (n) ∧ H.2.2.1 79 0 (n) ≤ 2147483647 from ⟨by omega, by omega⟩) (fun hc => ?_) (fun hc => ?_)
          · have c88 : H.2.2.1 79 0 (n) = (0 : Int) := hc
            clear hc
            have f89 : 0 ≤ H.1 11 45 0 ∧ H.1 11 45 0 ≤ 299 := hT.2.1 45
            have f90 : 1 ≤ H.1 11 12 0 ∧ H.1 11 12 0 ≤ 300 := hT.2.1 12
            have f89b : H.1 11 45 0 < H.1 11 12 0 := hT.2.2.2 45 rfl
            have f91 : 0 ≤ H.2.2.1 72 0 (n) ∧ H.2.2.1 72 0 (n) ≤ 299 := hT.1 72 (n)
            have f91b : H.2.2.1 72 0 (n) < H.1 11 12 0 := hT.2.2.1 72 (n) rfl
            refine J.run 7 rfl (show 0 ≤ n ∧ n < 16 from ⟨by omega, by omega⟩) ?_
            try dsimp only
            refine J.inv rfl rfl rfl rfl rfl rfl jDr rfl rfl rfl rfl rfl (g_isAbove (above := H.1 11 45 0) (b := H.2.2.1 72 0 (n)) hT k0gP (show -2147483648 ≤ (H.1 11 45 0) ∧ (H.1 11 45 0) ≤ 2147483647 from ⟨by omega, by omega⟩) (show -1 ≤ (H.2.2.1 72 0 (n)) ∧ (H.2.2.1 72 0 (n)) < 300 from ⟨by omega, by omega⟩)) ?_
            rintro v w H ⟨rfl, rfl, x92, rfl, r93⟩
            have r93' : 0 ≤ x92 ∧ x92 ≤ 1 := r93
            try dsimp only [Option.toList, List.append, List.cons_append, List.nil_append]
            refine J.ifc rfl rfl rfl (show -2147483648 ≤ x92 ∧ x92 ≤ 2147483647 from ⟨by omega, by omega⟩) (fun hc => ?_) (fun hc => ?_)
            · have c94 : ¬ (x92 = (0 : Int)) := hc
              clear hc
              exact ih.2.1 (pairs) (gr) (apart) (n) H _ (show 100 * (16 - (n)) - 1 < _ by omega) (show 0 ≤ (n) ∧ (n) < 16 from ⟨by omega, by omega⟩) (show 0 ≤ (gr) ∧ (gr) ≤ 300 from ⟨by omega, by omega⟩) hT hE k0gP k0gX k0gL k0gZ k0gQ k0gB k0gK k0gN k0gW (Or.inr (Or.inr (Or.inr (Or.inr (Or.inr (Or.inr (Or.inr (Or.inl ⟨_, rfl⟩))))))))
            · have c95 : ¬ (¬ (x92 = (0 : Int))) := hc
              clear hc
              refine J.run 7 rfl (show 0 ≤ n ∧ n < 16 from ⟨by omega, by omega⟩) ?_
              try dsimp only
              refine J.inv rfl rfl rfl rfl rfl rfl jDr rfl rfl rfl rfl rfl (g_isAbove (above := H.2.2.1 72 0 (n)) (b := H.1 11 45 0) hT k0gP (show -2147483648 ≤ (H.2.2.1 72 0 (n)) ∧ (H.2.2.1 72 0 (n)) ≤ 2147483647 from ⟨by omega, by omega⟩) (show -1 ≤ (H.1 11 45 0) ∧ (H.1 11 45 0) < 300 from ⟨by omega, by omega⟩)) ?_
              rintro v w H ⟨rfl, rfl, x96, rfl, r97⟩
              have r97' : 0 ≤ x96 ∧ x96 ≤ 1 := r97
              try dsimp only [Option.toList, List.append, List.cons_append, List.nil_append]
              refine J.ifc rfl rfl rfl (show -2147483648 ≤ x96 ∧ x96 ≤ 2147483647 from ⟨by omega, by omega⟩) (fun hc => ?_) (fun hc => ?_)
              · have c98 : ¬ (x96 = (0 : Int)) := hc
                clear hc
                exact ih.2.1 (pairs) (gr) (apart) (n) H _ (show 100 * (16 - (n)) - 1 < _ by omega) (show 0 ≤ (n) ∧ (n) < 16 from ⟨by omega, by omega⟩) (show 0 ≤ (gr) ∧ (gr) ≤ 300 from ⟨by omega, by omega⟩) hT hE k0gP k0gX k0gL k0gZ k0gQ k0gB k0gK k0gN k0gW (Or.inr (Or.inr (Or.inr (Or.inr (Or.inr (Or.inr (Or.inr (Or.inl ⟨_, rfl⟩))))))))
              · have c99 : ¬ (¬ (x96 = (0 : Int))) := hc
                clear hc
                refine J.run0 1 rfl ?_
                try dsimp only
                exact ih.2.1 (pairs) (gr) (apart + 1) (n) H _ (show 100 * (16 - (n)) - 1 < _ by omega) (show 0 ≤ (n) ∧ (n) < 16 from ⟨by omega, by omega⟩) (show 0 ≤ (gr) ∧ (gr) ≤ 300 from ⟨by omega, by omega⟩) hT hE k0gP k0gX k0gL k0gZ k0gQ k0gB k0gK k0gN k0gW (Or.inr (Or.inr (Or.inr (Or.inr (Or.inr (Or.inr (Or.inl ⟨_, rfl⟩)))))))
          · have c100 : ¬ (H.2.2.1 79 0 (n) = (0 : Int)) := hc
            clear hc
            refine J.run0 3 rfl ?_
            try dsimp only
            exact ih.1 (pairs) (gr) (apart) (n + 1) H _ (show 100 * (16 - (n + 1)) < _ by omega) (show 0 ≤ (n + 1) ∧ (n + 1) ≤ 16 from ⟨by omega, by omega⟩) (show 0 ≤ (gr) ∧ (gr) ≤ 300 from ⟨by omega, by omega⟩) hT hE k0gP k0gX k0gL k0gZ k0gQ k0gB k0gK k0gN k0gW (Or.inr (Or.inr (Or.inr (Or.inr (Or.inl ⟨_, rfl⟩)))))
      · skip
        refine J.run0 2 rfl ?_
        try dsimp only
        refine J.icmp rfl rfl rfl ⟨(show -2147483648 ≤ n ∧ n ≤ 2147483647 from ⟨by omega, by omega⟩), (show -2147483648 ≤ (16 : Int) ∧ (16 : Int) ≤ 2147483647 from ⟨by omega, by omega⟩)⟩ (fun hc => ?_) (fun hc => ?_)
        · have c101 : (16 : Int) ≤ n := hc
          clear hc
          refine J.run0 2 rfl ?_
          try dsimp only
          refine J.icmp rfl rfl rfl ⟨(show -2147483648 ≤ what ∧ what ≤ 2147483647 from ⟨by omega, by omega⟩), (show -2147483648 ≤ (5 : Int) ∧ (5 : Int) ≤ 2147483647 from ⟨by omega, by omega⟩)⟩ (fun hc => ?_) (fun hc => ?_)
          · have c102 : ¬ (what = (5 : Int)) := hc
            clear hc
            refine J.run0 2 rfl ?_
            try dsimp only
            refine J.icmp rfl rfl rfl ⟨(show -2147483648 ≤ what ∧ what ≤ 2147483647 from ⟨by omega, by omega⟩), (show -2147483648 ≤ (6 : Int) ∧ (6 : Int) ≤ 2147483647 from ⟨by omega, by omega⟩)⟩ (fun hc => ?_) (fun hc => ?_)
            · have c103 : ¬ (what = (6 : Int)) := hc
              clear hc
              refine J.run0 1 rfl ?_
              try dsimp only
              exact J.reti rfl rfl rfl ⟨_, rfl, rfl, hT, hE, k0gP, k0gX, k0gL, k0gZ, k0gQ, k0gB, k0gK, k0gN, k0gW, _, rfl, (show True from trivial)⟩
            · have c104 : ¬ (¬ (what = (6 : Int))) := hc
              clear hc
              refine J.run0 2 rfl ?_
              try dsimp only
              exact J.reti rfl rfl rfl ⟨_, rfl, rfl, hT, hE, k0gP, k0gX, k0gL, k0gZ, k0gQ, k0gB, k0gK, k0gN, k0gW, _, rfl, (show True from trivial)⟩
          · have c105 : ¬ (¬ (what = (5 : Int))) := hc
            clear hc
            refine J.run0 2 rfl ?_
            try dsimp only
            exact J.reti rfl rfl rfl ⟨_, rfl, rfl, hT, hE, k0gP, k0gX, k0gL, k0gZ, k0gQ, k0gB, k0gK, k0gN, k0gW, _, rfl, (show True from trivial)⟩
        · have c106 : ¬ ((16 : Int) ≤ n) := hc
          clear hc
          have f107 : 0 ≤ H.2.2.1 79 0 (n) ∧ H.2.2.1 79 0 (n) ≤ 1 := hT.1 79 (n)
          refine J.run 4 rfl (show 0 ≤ n ∧ n < 16 from ⟨by omega, by omega⟩) ?_
          try dsimp only
          refine J.ifc rfl rfl rfl (show -2147483648 ≤ H.2.2.1 79 0 (n) ∧ H.2.2.1 79 0 (n) ≤ 2147483647 from ⟨by omega, by omega⟩) (fun hc => ?_) (fun hc => ?_)
          · have c108 : H.2.2.1 79 0 (n) = (0 : Int) := hc
            clear hc
            have f109 : 0 ≤ H.1 11 45 0 ∧ H.1 11 45 0 ≤ 299 := hT.2.1 45
            have f110 : 1 ≤ H.1 11 12 0 ∧ H.1 11 12 0 ≤ 300 := hT.2.1 12
            have f109b : H.1 11 45 0 < H.1 11 12 0 := hT.2.2.2 45 rfl
            have f111 : 0 ≤ H.2.2.1 72 0 (n) ∧ H.2.2.1 72 0 (n) ≤ 299 := hT.1 72 (n)
            have f111b : H.2.2.1 72 0 (n) < H.1 11 12 0 := hT.2.2.1 72 (n) rfl
            refine J.run 7 rfl (show 0 ≤ n ∧ n < 16 from ⟨by omega, by omega⟩) ?_
            try dsimp only
            refine J.inv rfl rfl rfl rfl rfl rfl jDr rfl rfl rfl rfl rfl (g_isAbove (above := H.1 11 45 0) (b := H.2.2.1 72 0 (n)) hT k0gP (show -2147483648 ≤ (H.1 11 45 0) ∧ (H.1 11 45 0) ≤ 2147483647 from ⟨by omega, by omega⟩) (show -1 ≤ (H.2.2.1 72 0 (n)) ∧ (H.2.2.1 72 0 (n)) < 300 from ⟨by omega, by omega⟩)) ?_
            rintro v w H ⟨rfl, rfl, x112, rfl, r113⟩
            have r113' : 0 ≤ x112 ∧ x112 ≤ 1 := r113
            try dsimp only [Option.toList, List.append, List.cons_append, List.nil_append]
            refine J.ifc rfl rfl rfl (show -2147483648 ≤ x112 ∧ x112 ≤ 2147483647 from ⟨by omega, by omega⟩) (fun hc => ?_) (fun hc => ?_)
            · have c114 : ¬ (x112 = (0 : Int)) := hc
              clear hc
              exact ih.2.1 (pairs) (gr) (apart) (n) H _ (show 100 * (16 - (n)) - 1 < _ by omega) (show 0 ≤ (n) ∧ (n) < 16 from ⟨by omega, by omega⟩) (show 0 ≤ (gr) ∧ (gr) ≤ 300 from ⟨by omega, by omega⟩) hT hE k0gP k0gX k0gL k0gZ k0gQ k0gB k0gK k0gN k0gW (Or.inr (Or.inr (Or.inr (Or.inr (Or.inr (Or.inr (Or.inr (Or.inr (Or.inl ⟨_, rfl⟩)))))))))
            · have c115 : ¬ (¬ (x112 = (0 : Int))) := hc
              clear hc
              refine J.run 7 rfl (show 0 ≤ n ∧ n < 16 from ⟨by omega, by omega⟩) ?_
              try dsimp only
              refine J.inv rfl rfl rfl rfl rfl rfl jDr rfl rfl rfl rfl rfl (g_isAbove (above := H.2.2.1 72 0 (n)) (b := H.1 11 45 0) hT k0gP (show -2147483648 ≤ (H.2.2.1 72 0 (n)) ∧ (H.2.2.1 72 0 (n)) ≤ 2147483647 from ⟨by omega, by omega⟩) (show -1 ≤ (H.1 11 45 0) ∧ (H.1 11 45 0) < 300 from ⟨by omega, by omega⟩)) ?_
              rintro v w H ⟨rfl, rfl, x116, rfl, r117⟩
              have r117' : 0 ≤ x116 ∧ x116 ≤ 1 := r117
              try dsimp only [Option.toList, List.append, List.cons_append, List.nil_append]
              refine J.ifc rfl rfl rfl (show -2147483648 ≤ x116 ∧ x116 ≤ 2147483647 from ⟨by omega, by omega⟩) (fun hc => ?_) (fun hc => ?_)
              · have c118 : ¬ (x116 = (0 : Int)) := hc
                clear hc
                exact ih.2.1 (pairs) (gr) (apart) (n) H _ (show 100 * (16 - (n)) - 1 < _ by omega) (show 0 ≤ (n) ∧ (n) < 16 from ⟨by omega, by omega⟩) (show 0 ≤ (gr) ∧ (gr) ≤ 300 from ⟨by omega, by omega⟩) hT hE k0gP k0gX k0gL k0gZ k0gQ k0gB k0gK k0gN k0gW (Or.inr (Or.inr (Or.inr (Or.inr (Or.inr (Or.inr (Or.inr (Or.inr (Or.inl ⟨_, rfl⟩)))))))))
              · have c119 : ¬ (¬ (x116 = (0 : Int))) := hc
                clear hc
                refine J.run0 1 rfl ?_
                try dsimp only
                exact ih.2.1 (pairs) (gr) (apart + 1) (n) H _ (show 100 * (16 - (n)) - 1 < _ by omega) (show 0 ≤ (n) ∧ (n) < 16 from ⟨by omega, by omega⟩) (show 0 ≤ (gr) ∧ (gr) ≤ 300 from ⟨by omega, by omega⟩) hT hE k0gP k0gX k0gL k0gZ k0gQ k0gB k0gK k0gN k0gW (Or.inr (Or.inr (Or.inr (Or.inl ⟨_, rfl⟩))))
          · have c120 : ¬ (H.2.2.1 79 0 (n) = (0 : Int)) := hc
            clear hc
            refine J.run0 3 rfl ?_
            try dsimp only
            exact ih.1 (pairs) (gr) (apart) (n + 1) H _ (show 100 * (16 - (n + 1)) < _ by omega) (show 0 ≤ (n + 1) ∧ (n + 1) ≤ 16 from ⟨by omega, by omega⟩) (show 0 ≤ (gr) ∧ (gr) ≤ 300 from ⟨by omega, by omega⟩) hT hE k0gP k0gX k0gL k0gZ k0gQ k0gB k0gK k0gN k0gW (Or.inr (Or.inr (Or.inr (Or.inr (Or.inr (Or.inl ⟨_, rfl⟩))))))
      · skip
        refine J.run0 2 rfl ?_
        try dsimp only
        refine J.icmp rfl rfl rfl ⟨(show -2147483648 ≤ n ∧ n ≤ 2147483647 from ⟨by omega, by omega⟩), (show -2147483648 ≤ (16 : Int) ∧ (16 : Int) ≤ 2147483647 from ⟨by omega, by omega⟩)⟩ (fun hc => ?_) (fun hc => ?_)
        · have c121 : (16 : Int) ≤ n := hc
          clear hc
          refine J.run0 2 rfl ?_
          try dsimp only
          refine J.icmp rfl rfl rfl ⟨(show -2147483648 ≤ what ∧ what ≤ 2147483647 from ⟨by omega, by omega⟩), (show -2147483648 ≤ (5 : Int) ∧ (5 : Int) ≤ 2147483647 from ⟨by omega, by omega⟩)⟩ (fun hc => ?_) (fun hc => ?_)
          · have c122 : ¬ (what = (5 : Int)) := hc
            clear hc
            refine J.run0 2 rfl ?_
            try dsimp only
            refine J.icmp rfl rfl rfl ⟨(show -2147483648 ≤ what ∧ what ≤ 2147483647 from ⟨by omega, by omega⟩), (show -2147483648 ≤ (6 : Int) ∧ (6 : Int) ≤ 2147483647 from ⟨by omega, by omega⟩)⟩ (fun hc => ?_) (fun hc => ?_)
            · have c123 : ¬ (what = (6 : Int)) := hc
              clear hc
              refine J.run0 1 rfl ?_
              try dsimp only
              exact J.reti rfl rfl rfl ⟨_, rfl, rfl, hT, hE, k0gP, k0gX, k0gL, k0gZ, k0gQ, k0gB, k0gK, k0gN, k0gW, _, rfl, (show True from trivial)⟩
            · have c124 : ¬ (¬ (what = (6 : Int))) := hc
              clear hc
              refine J.run0 2 rfl ?_
              try dsimp only
              exact J.reti rfl rfl rfl ⟨_, rfl, rfl, hT, hE, k0gP, k0gX, k0gL, k0gZ, k0gQ, k0gB, k0gK, k0gN, k0gW, _, rfl, (show True from trivial)⟩
          · have c125 : ¬ (¬ (what = (5 : Int))) := hc
            clear hc
            refine J.run0 2 rfl ?_
            try dsimp only
            exact J.reti rfl rfl rfl ⟨_, rfl, rfl, hT, hE, k0gP, k0gX, k0gL, k0gZ, k0gQ, k0gB, k0gK, k0gN, k0gW, _, rfl, (show True from trivial)⟩
        · have c126 : ¬ ((16 : Int) ≤ n) := hc
          clear hc
          have f127 : 0 ≤ H.2.2.1 79 0 (n) ∧ H.2.2.1 79 0 (n) ≤ 1 := hT.1 79 (n)
          refine J.run 4 rfl (show 0 ≤ n ∧ n < 16 from ⟨by omega, by omega⟩) ?_
          try dsimp only
          refine J.ifc rfl rfl rfl (show -2147483648 ≤ H.2.2.1 79 0 (n) ∧ H.2.2.1 79 0 (n) ≤ 2147483647 from ⟨by omega, by omega⟩) (fun hc => ?_) (fun hc => ?_)
          · have c128 : H.2.2.1 79 0 (n) = (0 : Int) := hc
            clear hc
            have f129 : 0 ≤ H.1 11 45 0 ∧ H.1 11 45 0 ≤ 299 := hT.2.1 45
            have f130 : 1 ≤ H.1 11 12 0 ∧ H.1 11 12 0 ≤ 300 := hT.2.1 12
            have f129b : H.1 11 45 0 < H.1 11 12 0 := hT.2.2.2 45 rfl
            have f131 : 0 ≤ H.2.2.1 72 0 (n) ∧ H.2.2.1 72 0 (n) ≤ 299 := hT.1 72 (n)
            have f131b : H.2.2.1 72 0 (n) < H.1 11 12 0 := hT.2.2.1 72 (n) rfl
            refine J.run 7 rfl (show 0 ≤ n ∧ n < 16 from ⟨by omega, by omega⟩) ?_
            try dsimp only
            refine J.inv rfl rfl rfl rfl rfl rfl jDr rfl rfl rfl rfl rfl (g_isAbove (above := H.1 11 45 0) (b := H.2.2.1 72 0 (n)) hT k0gP (show -2147483648 ≤ (H.1 11 45 0) ∧ (H.1 11 45 0) ≤ 2147483647 from ⟨by omega, by omega⟩) (show -1 ≤ (H.2.2.1 72 0 (n)) ∧ (H.2.2.1 72 0 (n)) < 300 from ⟨by omega, by omega⟩)) ?_
            rintro v w H ⟨rfl, rfl, x132, rfl, r133⟩
            have r133' : 0 ≤ x132 ∧ x132 ≤ 1 := r133
            try dsimp only [Option.toList, List.append, List.cons_append, List.nil_append]
            refine J.ifc rfl rfl rfl (show -2147483648 ≤ x132 ∧ x132 ≤ 2147483647 from ⟨by omega, by omega⟩) (fun hc => ?_) (fun hc => ?_)
            · have c134 : ¬ (x132 = (0 : Int)) := hc
              clear hc
              exact ih.2.1 (pairs) (gr) (apart) (n) H _ (show 100 * (16 - (n)) - 1 < _ by omega) (show 0 ≤ (n) ∧ (n) < 16 from ⟨by omega, by omega⟩) (show 0 ≤ (gr) ∧ (gr) ≤ 300 from ⟨by omega, by omega⟩) hT hE k0gP k0gX k0gL k0gZ k0gQ k0gB k0gK k0gN k0gW (Or.inr (Or.inr (Or.inr (Or.inr (Or.inr (Or.inr (Or.inr (Or.inr (Or.inr (⟨_, rfl⟩))))))))))
            · have c135 : ¬ (¬ (x132 = (0 : Int))) := hc
              clear hc
              refine J.run 7 rfl (show 0 ≤ n ∧ n < 16 from ⟨by omega, by omega⟩) ?_
              try dsimp only
              refine J.inv rfl rfl rfl rfl rfl rfl jDr rfl rfl rfl rfl rfl (g_isAbove (above := H.2.2.1 72 0 (n)) (b := H.1 11 45 0) hT k0gP (show -2147483648 ≤ (H.2.2.1 72 0 (n)) ∧ (H.2.2.1 72 0 (n)) ≤ 2147483647 from ⟨by omega, by omega⟩) (show -1 ≤ (H.1 11 45 0) ∧ (H.1 11 45 0) < 300 from ⟨by omega, by omega⟩)) ?_
              rintro v w H ⟨rfl, rfl, x136, rfl, r137⟩
              have r137' : 0 ≤ x136 ∧ x136 ≤ 1 := r137
              try dsimp only [Option.toList, List.append, List.cons_append, List.nil_append]
              refine J.ifc rfl rfl rfl (show -2147483648 ≤ x136 ∧ x136 ≤ 2147483647 from ⟨by omega, by omega⟩) (fun hc => ?_) (fun hc => ?_)
              · have c138 : ¬ (x136 = (0 : Int)) := hc
                clear hc
                exact ih.2.1 (pairs) (gr) (apart) (n) H _ (show 100 * (16 - (n)) - 1 < _ by omega) (show 0 ≤ (n) ∧ (n) < 16 from ⟨by omega, by omega⟩) (show 0 ≤ (gr) ∧ (gr) ≤ 300 from ⟨by omega, by omega⟩) hT hE k0gP k0gX k0gL k0gZ k0gQ k0gB k0gK k0gN k0gW (Or.inr (Or.inr (Or.inr (Or.inr (Or.inr (Or.inr (Or.inr (Or.inr (Or.inr (⟨_, rfl⟩))))))))))
              · have c139 : ¬ (¬ (x136 = (0 : Int))) := hc
                clear hc
                refine J.run0 1 rfl ?_
                try dsimp only
                exact ih.2.1 (pairs) (gr) (apart + 1) (n) H _ (show 100 * (16 - (n)) - 1 < _ by omega) (show 0 ≤ (n) ∧ (n) < 16 from ⟨by omega, by omega⟩) (show 0 ≤ (gr) ∧ (gr) ≤ 300 from ⟨by omega, by omega⟩) hT hE k0gP k0gX k0gL k0gZ k0gQ k0gB k0gK k0gN k0gW (Or.inr (Or.inr (Or.inr (Or.inr (Or.inr (Or.inr (Or.inl ⟨_, rfl⟩)))))))
          · have c140 : ¬ (H.2.2.1 79 0 (n) = (0 : Int)) := hc
            clear hc
            refine J.run0 3 rfl ?_
            try dsimp only
            exact ih.1 (pairs) (gr) (apart) (n + 1) H _ (show 100 * (16 - (n + 1)) < _ by omega) (show 0 ≤ (n + 1) ∧ (n + 1) ≤ 16 from ⟨by omega, by omega⟩) (show 0 ≤ (gr) ∧ (gr) ≤ 300 from ⟨by omega, by omega⟩) hT hE k0gP k0gX k0gL k0gZ k0gQ k0gB k0gK k0gN k0gW (Or.inr (Or.inr (Or.inr (Or.inr (Or.inr (Or.inr (⟨_, rfl⟩)))))))
    · intro pairs gr apart n H lv hm hi0 hi1 hT hE k0gP k0gX k0gL k0gZ k0gQ k0gB k0gK k0gN k0gW hlv
      rcases hlv with rfl | rfl | ⟨j6, rfl⟩ | ⟨j6, rfl⟩ | ⟨j6, rfl⟩ | ⟨j6, rfl⟩ | ⟨j6, rfl⟩ | ⟨j6, rfl⟩ | ⟨j6, rfl⟩ | ⟨j6, rfl⟩
      · skip
        have f141 : 0 ≤ H.2.2.1 72 0 (n) ∧ H.2.2.1 72 0 (n) ≤ 299 := hT.1 72 (n)
        have f142 : 1 ≤ H.1 11 12 0 ∧ H.1 11 12 0 ≤ 300 := hT.2.1 12
        have f141b : H.2.2.1 72 0 (n) < H.1 11 12 0 := hT.2.2.1 72 (n) rfl
        have f143 : 0 ≤ H.2.2.1 56 0 (H.2.2.1 72 0 (n)) ∧ H.2.2.1 56 0 (H.2.2.1 72 0 (n)) ≤ 300 := hT.1 56 (H.2.2.1 72 0 (n))
        have f143gP : 0 ≤ H.2.2.1 72 0 (n) → H.2.2.1 72 0 (n) < 300 → H.2.2.1 56 0 (H.2.2.1 72 0 (n)) ≤ H.2.2.1 72 0 (n) := k0gP.2.2.2.2.1 (H.2.2.1 72 0 (n))
        refine J.run 8 rfl ⟨(show 0 ≤ n ∧ n < 16 from ⟨by omega, by omega⟩), (show 0 ≤ H.2.2.1 72 0 (n) ∧ H.2.2.1 72 0 (n) < 300 from ⟨by omega, by omega⟩)⟩ ?_
        try dsimp only
        refine J.icmp rfl rfl rfl ⟨(show -2147483648 ≤ H.2.2.1 56 0 (H.2.2.1 72 0 (n)) ∧ H.2.2.1 56 0 (H.2.2.1 72 0 (n)) ≤ 2147483647 from ⟨by omega, by omega⟩), (show -2147483648 ≤ gr ∧ gr ≤ 2147483647 from ⟨by omega, by omega⟩)⟩ (fun hc => ?_) (fun hc => ?_)
        · have c144 : H.2.2.1 56 0 (H.2.2.1 72 0 (n)) ≤ gr := hc
          clear hc
          refine J.run0 2 rfl ?_
          try dsimp only
          exact ih.2.2 (pairs) (gr) (apart) (n) ((0 : Int)) H _ (show 100 * (16 - (n)) - 2 - ((0 : Int)) < _ by omega) (show 0 ≤ (n) ∧ (n) < 16 from ⟨by omega, by omega⟩) (show 0 ≤ ((0 : Int)) ∧ ((0 : Int)) ≤ (n) from ⟨by omega, by omega⟩) (show 0 ≤ (gr) ∧ (gr) ≤ 300 from ⟨by omega, by omega⟩) hT hE k0gP k0gX k0gL k0gZ k0gQ k0gB k0gK k0gN k0gW (Or.inl rfl)
        · have c145 : ¬ (H.2.2.1 56 0 (H.2.2.1 72 0 (n)) ≤ gr) := hc
          clear hc
          refine J.run 10 rfl ⟨(show 0 ≤ n ∧ n < 16 from ⟨by omega, by omega⟩), (show 0 ≤ H.2.2.1 72 0 (n) ∧ H.2.2.1 72 0 (n) < 300 from ⟨by omega, by omega⟩)⟩ ?_
          try dsimp only
          exact ih.2.2 (pairs) (H.2.2.1 56 0 (H.2.2.1 72 0 (n))) (apart) (n) ((0 : Int)) H _ (show 100 * (16 - (n)) - 2 - ((0 : Int)) < _ by omega) (show 0 ≤ (n) ∧ (n) < 16 from ⟨by omega, by omega⟩) (show 0 ≤ ((0 : Int)) ∧ ((0 : Int)) ≤ (n) from ⟨by omega, by omega⟩) (show 0 ≤ (H.2.2.1 56 0 (H.2.2.1 72 0 (n))) ∧ (H.2.2.1 56 0 (H.2.2.1 72 0 (n))) ≤ 300 from ⟨by omega, by omega⟩) hT hE k0gP k0gX k0gL k0gZ k0gQ k0gB k0gK k0gN k0gW (Or.inr (Or.inl rfl))
      · skip
        have f146 : 0 ≤ H.2.2.1 72 0 (n) ∧ H.2.2.1 72 0 (n) ≤ 299 := hT.1 72 (n)
        have f147 : 1 ≤ H.1 11 12 0 ∧ H.1 11 12 0 ≤ 300 := hT.2.1 12
        have f146b : H.2.2.1 72 0 (n) < H.1 11 12 0 := hT.2.2.1 72 (n) rfl
        have f148 : 0 ≤ H.2.2.1 56 0 (H.2.2.1 72 0 (n)) ∧ H.2.2.1 56 0 (H.2.2.1 72 0 (n)) ≤ 300 := hT.1 56 (H.2.2.1 72 0 (n))
        have f148gP : 0 ≤ H.2.2.1 72 0 (n) → H.2.2.1 72 0 (n) < 300 → H.2.2.1 56 0 (H.2.2.1 72 0 (n)) ≤ H.2.2.1 72 0 (n) := k0gP.2.2.2.2.1 (H.2.2.1 72 0 (n))
        refine J.run 8 rfl ⟨(show 0 ≤ n ∧ n < 16 from ⟨by omega, by omega⟩), (show 0 ≤ H.2.2.1 72 0 (n) ∧ H.2.2.1 72 0 (n) < 300 from ⟨by omega, by omega⟩)⟩ ?_
        try dsimp only
        refine J.icmp rfl rfl rfl ⟨(show -2147483648 ≤ H.2.2.1 56 0 (H.2.2.1 72 0 (n)) ∧ H.2.2.1 56 0 (H.2.2.1 72 0 (n)) ≤ 2147483647 from ⟨by omega, by omega⟩), (show -2147483648 ≤ gr ∧ gr ≤ 2147483647 from ⟨by omega, by omega⟩)⟩ (fun hc => ?_) (fun hc => ?_)
        · have c149 : H.2.2.1 56 0 (H.2.2.1 72 0 (n)) ≤ gr := hc
          clear hc
          refine J.run0 2 rfl ?_
          try dsimp only
          exact ih.2.2 (pairs) (gr) (apart) (n) ((0 : Int)) H _ (show 100 * (16 - (n)) - 2 - ((0 : Int)) < _ by omega) (show 0 ≤ (n) ∧ (n) < 16 from ⟨by omega, by omega⟩) (show 0 ≤ ((0 : Int)) ∧ ((0 : Int)) ≤ (n) from ⟨by omega, by omega⟩) (show 0 ≤ (gr) ∧ (gr) ≤ 300 from ⟨by omega, by omega⟩) hT hE k0gP k0gX k0gL k0gZ k0gQ k0gB k0gK k0gN k0gW (Or.inr (Or.inr (Or.inl rfl)))
        · have c150 : ¬ (H.2.2.1 56 0 (H.2.2.1 72 0 (n)) ≤ gr) := hc
          clear hc
          refine J.run 10 rfl ⟨(show 0 ≤ n ∧ n < 16 from ⟨by omega, by omega⟩), (show 0 ≤ H.2.2.1 72 0 (n) ∧ H.2.2.1 72 0 (n) < 300 from ⟨by omega, by omega⟩)⟩ ?_
          try dsimp only
          exact ih.2.2 (pairs) (H.2.2.1 56 0 (H.2.2.1 72 0 (n))) (apart) (n) ((0 : Int)) H _ (show 100 * (16 - (n)) - 2 - ((0 : Int)) < _ by omega) (show 0 ≤ (n) ∧ (n) < 16 from ⟨by omega, by omega⟩) (show 0 ≤ ((0 : Int)) ∧ ((0 : Int)) ≤ (n) from ⟨by omega, by omega⟩) (show 0 ≤ (H.2.2.1 56 0 (H.2.2.1 72 0 (n))) ∧ (H.2.2.1 56 0 (H.2.2.1 72 0 (n))) ≤ 300 from ⟨by omega, by omega⟩) hT hE k0gP k0gX k0gL k0gZ k0gQ k0gB k0gK k0gN k0gW (Or.inr (Or.inr (Or.inr (Or.inl rfl))))
      · skip
        have f151 : 0 ≤ H.2.2.1 72 0 (n) ∧ H.2.2.1 72 0 (n) ≤ 299 := hT.1 72 (n)
        have f152 : 1 ≤ H.1 11 12 0 ∧ H.1 11 12 0 ≤ 300 := hT.2.1 12
        have f151b : H.2.2.1 72 0 (n) < H.1 11 12 0 := hT.2.2.1 72 (n) rfl
        have f153 : 0 ≤ H.2.2.1 56 0 (H.2.2.1 72 0 (n)) ∧ H.2.2.1 56 0 (H.2.2.1 72 0 (n)) ≤ 300 := hT.1 56 (H.2.2.1 72 0 (n))
        have f153gP : 0 ≤ H.2.2.1 72 0 (n) → H.2.2.1 72 0 (n) < 300 → H.2.2.1 56 0 (H.2.2.1 72 0 (n)) ≤ H.2.2.1 72 0 (n) := k0gP.2.2.2.2.1 (H.2.2.1 72 0 (n))
        refine J.run 8 rfl ⟨(show 0 ≤ n ∧ n < 16 from ⟨by omega, by omega⟩), (show 0 ≤ H.2.2.1 72 0 (n) ∧ H.2.2.1 72 0 (n) < 300 from ⟨by omega, by omega⟩)⟩ ?_
        try dsimp only
        refine J.icmp rfl rfl rfl ⟨(show -2147483648 ≤ H.2.2.1 56 0 (H.2.2.1 72 0 (n)) ∧ H.2.2.1 56 0 (H.2.2.1 72 0 (n)) ≤ 2147483647 from ⟨by omega, by omega⟩), (show -2147483648 ≤ gr ∧ gr ≤ 2147483647 from ⟨by omega, by omega⟩)⟩ (fun hc => ?_) (fun hc => ?_)
        · have c154 : H.2.2.1 56 0 (H.2.2.1 72 0 (n)) ≤ gr := hc
          clear hc
          refine J.run0 2 rfl ?_
          try dsimp only
          exact ih.2.2 (pairs) (gr) (apart) (n) ((0 : Int)) H _ (show 100 * (16 - (n)) - 2 - ((0 : Int)) < _ by omega) (show 0 ≤ (n) ∧ (n) < 16 from ⟨by omega, by omega⟩) (show 0 ≤ ((0 : Int)) ∧ ((0 : Int)) ≤ (n) from ⟨by omega, by omega⟩) (show 0 ≤ (gr) ∧ (gr) ≤ 300 from ⟨by omega, by omega⟩) hT hE k0gP k0gX k0gL k0gZ k0gQ k0gB k0gK k0gN k0gW (Or.inl rfl)
        · have c155 : ¬ (H.2.2.1 56 0 (H.2.2.1 72 0 (n)) ≤ gr) := hc
          clear hc
          refine J.run 10 rfl ⟨(show 0 ≤ n ∧ n < 16 from ⟨by omega, by omega⟩), (show 0 ≤ H.2.2.1 72 0 (n) ∧ H.2.2.1 72 0 (n) < 300 from ⟨by omega, by omega⟩)⟩ ?_
          try dsimp only
          exact ih.2.2 (pairs) (H.2.2.1 56 0 (H.2.2.1 72 0 (n))) (apart) (n) ((0 : Int)) H _ (show 100 * (16 - (n)) - 2 - ((0 : Int)) < _ by omega) (show 0 ≤ (n) ∧ (n) < 16 from ⟨by omega, by omega⟩) (show 0 ≤ ((0 : Int)) ∧ ((0 : Int)) ≤ (n) from ⟨by omega, by omega⟩) (show 0 ≤ (H.2.2.1 56 0 (H.2.2.1 72 0 (n))) ∧ (H.2.2.1 56 0 (H.2.2.1 72 0 (n))) ≤ 300 from ⟨by omega, by omega⟩) hT hE k0gP k0gX k0gL k0gZ k0gQ k0gB k0gK k0gN k0gW (Or.inr (Or.inl rfl))
      · skip
        have f156 : 0 ≤ H.2.2.1 72 0 (n) ∧ H.2.2.1 72 0 (n) ≤ 299 := hT.1 72 (n)
        have f157 : 1 ≤ H.1 11 12 0 ∧ H.1 11 12 0 ≤ 300 := hT.2.1 12
        have f156b : H.2.2.1 72 0 (n) < H.1 11 12 0 := hT.2.2.1 72 (n) rfl
        have f158 : 0 ≤ H.2.2.1 56 0 (H.2.2.1 72 0 (n)) ∧ H.2.2.1 56 0 (H.2.2.1 72 0 (n)) ≤ 300 := hT.1 56 (H.2.2.1 72 0 (n))
        have f158gP : 0 ≤ H.2.2.1 72 0 (n) → H.2.2.1 72 0 (n) < 300 → H.2.2.1 56 0 (H.2.2.1 72 0 (n)) ≤ H.2.2.1 72 0 (n) := k0gP.2.2.2.2.1 (H.2.2.1 72 0 (n))
        refine J.run 8 rfl ⟨(show 0 ≤ n ∧ n < 16 from ⟨by omega, by omega⟩), (show 0 ≤ H.2.2.1 72 0 (n) ∧ H.2.2.1 72 0 (n) < 300 from ⟨by omega, by omega⟩)⟩ ?_
        try dsimp only
        refine J.icmp rfl rfl rfl ⟨(show -2147483648 ≤ H.2.2.1 56 0 (H.2.2.1 72 0 (n)) ∧ H.2.2.1 56 0 (H.2.2.1 72 0 (n)) ≤ 2147483647 from ⟨by omega, by omega⟩), (show -2147483648 ≤ gr ∧ gr ≤ 2147483647 from ⟨by omega, by omega⟩)⟩ (fun hc => ?_) (fun hc => ?_)
        · have c159 : H.2.2.1 56 0 (H.2.2.1 72 0 (n)) ≤ gr := hc
          clear hc
          refine J.run0 2 rfl ?_
          try dsimp only
          exact ih.2.2 (pairs) (gr) (apart) (n) ((0 : Int)) H _ (show 100 * (16 - (n)) - 2 - ((0 : Int)) < _ by omega) (show 0 ≤ (n) ∧ (n) < 16 from ⟨by omega, by omega⟩) (show 0 ≤ ((0 : Int)) ∧ ((0 : Int)) ≤ (n) from ⟨by omega, by omega⟩) (show 0 ≤ (gr) ∧ (gr) ≤ 300 from ⟨by omega, by omega⟩) hT hE k0gP k0gX k0gL k0gZ k0gQ k0gB k0gK k0gN k0gW (Or.inr (Or.inr (Or.inl rfl)))
        · have c160 : ¬ (H.2.2.1 56 0 (H.2.2.1 72 0 (n)) ≤ gr) := hc
          clear hc
          refine J.run 10 rfl ⟨(show 0 ≤ n ∧ n < 16 from ⟨by omega, by omega⟩), (show 0 ≤ H.2.2.1 72 0 (n) ∧ H.2.2.1 72 0 (n) < 300 from ⟨by omega, by omega⟩)⟩ ?_
          try dsimp only
          exact ih.2.2 (pairs) (H.2.2.1 56 0 (H.2.2.1 72 0 (n))) (apart) (n) ((0 : Int)) H _ (show 100 * (16 - (n)) - 2 - ((0 : Int)) < _ by omega) (show 0 ≤ (n) ∧ (n) < 16 from ⟨by omega, by omega⟩) (show 0 ≤ ((0 : Int)) ∧ ((0 : Int)) ≤ (n) from ⟨by omega, by omega⟩) (show 0 ≤ (H.2.2.1 56 0 (H.2.2.1 72 0 (n))) ∧ (H.2.2.1 56 0 (H.2.2.1 72 0 (n))) ≤ 300 from ⟨by omega, by omega⟩) hT hE k0gP k0gX k0gL k0gZ k0gQ k0gB k0gK k0gN k0gW (Or.inr (Or.inr (Or.inr (Or.inl rfl))))
      · skip
        have f161 : 0 ≤ H.2.2.1 72 0 (n) ∧ H.2.2.1 72 0 (n) ≤ 299 := hT.1 72 (n)
        have f162 : 1 ≤ H.1 11 12 0 ∧ H.1 11 12 0 ≤ 300 := hT.2.1 12
        have f161b : H.2.2.1 72 0 (n) < H.1 11 12 0 := hT.2.2.1 72 (n) rfl
        have f163 : 0 ≤ H.2.2.1 56 0 (H.2.2.1 72 0 (n)) ∧ H.2.2.1 56 0 (H.2.2.1 72 0 (n)) ≤ 300 := hT.1 56 (H.2.2.1 72 0 (n))
        have f163gP : 0 ≤ H.2.2.1 72 0 (n) → H.2.2.1 72 0 (n) < 300 → H.2.2.1 56 0 (H.2.2.1 72 0 (n)) ≤ H.2.2.1 72 0 (n) := k0gP.2.2.2.2.1 (H.2.2.1 72 0 (n))
        refine J.run 8 rfl ⟨(show 0 ≤ n ∧ n < 16 from ⟨by omega, by omega⟩), (show 0 ≤ H.2.2.1 72 0 (n) ∧ H.2.2.1 72 0 (n) < 300 from ⟨by omega, by omega⟩)⟩ ?_
        try dsimp only
        refine J.icmp rfl rfl rfl ⟨(show -2147483648 ≤ H.2.2.1 56 0 (H.2.2.1 72 0 (n)) ∧ H.2.2.1 56 0 (H.2.2.1 72 0 (n)) ≤ 2147483647 from ⟨by omega, by omega⟩), (show -2147483648 ≤ gr ∧ gr ≤ 2147483647 from ⟨by omega, by omega⟩)⟩ (fun hc => ?_) (fun hc => ?_)
        · have c164 : H.2.2.1 56 0 (H.2.2.1 72 0 (n)) ≤ gr := hc
          clear hc
          refine J.run0 2 rfl ?_
          try dsimp only
          exact ih.2.2 (pairs) (gr) (apart) (n) ((0 : Int)) H _ (show 100 * (16 - (n)) - 2 - ((0 : Int)) < _ by omega) (show 0 ≤ (n) ∧ (n) < 16 from ⟨by omega, by omega⟩) (show 0 ≤ ((0 : Int)) ∧ ((0 : Int)) ≤ (n) from ⟨by omega, by omega⟩) (show 0 ≤ (gr) ∧ (gr) ≤ 300 from ⟨by omega, by omega⟩) hT hE k0gP k0gX k0gL k0gZ k0gQ k0gB k0gK k0gN k0gW (Or.inr (Or.inr (Or.inr (Or.inr (Or.inr (Or.inr (Or.inr (Or.inr (Or.inl rfl)))))))))
        · have c165 : ¬ (H.2.2.1 56 0 (H.2.2.1 72 0 (n)) ≤ gr) := hc
          clear hc
          refine J.run 10 rfl ⟨(show 0 ≤ n ∧ n < 16 from ⟨by omega, by omega⟩), (show 0 ≤ H.2.2.1 72 0 (n) ∧ H.2.2.1 72 0 (n) < 300 from ⟨by omega, by omega⟩)⟩ ?_
          try dsimp only
          exact ih.2.2 (pairs) (H.2.2.1 56 0 (H.2.2.1 72 0 (n))) (apart) (n) ((0 : Int)) H _ (show 100 * (16 - (n)) - 2 - ((0 : Int)) < _ by omega) (show 0 ≤ (n) ∧ (n) < 16 from ⟨by omega, by omega⟩) (show 0 ≤ ((0 : Int)) ∧ ((0 : Int)) ≤ (n) from ⟨by omega, by omega⟩) (show 0 ≤ (H.2.2.1 56 0 (H.2.2.1 72 0 (n))) ∧ (H.2.2.1 56 0 (H.2.2.1 72 0 (n))) ≤ 300 from ⟨by omega, by omega⟩) hT hE k0gP k0gX k0gL k0gZ k0gQ k0gB k0gK k0gN k0gW (Or.inr (Or.inl rfl))
      · skip
        have f166 : 0 ≤ H.2.2.1 72 0 (n) ∧ H.2.2.1 72 0 (n) ≤ 299 := hT.1 72 (n)
        have f167 : 1 ≤ H.1 11 12 0 ∧ H.1 11 12 0 ≤ 300 := hT.2.1 12
        have f166b : H.2.2.1 72 0 (n) < H.1 11 12 0 := hT.2.2.1 72 (n) rfl
        have f168 : 0 ≤ H.2.2.1 56 0 (H.2.2.1 72 0 (n)) ∧ H.2.2.1 56 0 (H.2.2.1 72 0 (n)) ≤ 300 := hT.1 56 (H.2.2.1 72 0 (n))
        have f168gP : 0 ≤ H.2.2.1 72 0 (n) → H.2.2.1 72 0 (n) < 300 → H.2.2.1 56 0 (H.2.2.1 72 0 (n)) ≤ H.2.2.1 72 0 (n) := k0gP.2.2.2.2.1 (H.2.2.1 72 0 (n))
        refine J.run 8 rfl ⟨(show 0 ≤ n ∧ n < 16 from ⟨by omega, by omega⟩), (show 0 ≤ H.2.2.1 72 0 (n) ∧ H.2.2.1 72 0 (n) < 300 from ⟨by omega, by omega⟩)⟩ ?_
        try dsimp only
        refine J.icmp rfl rfl rfl ⟨(show -2147483648 ≤ H.2.2.1 56 0 (H.2.2.1 72 0 (n)) ∧ H.2.2.1 56 0 (H.2.2.1 72 0 (n)) ≤ 2147483647 from ⟨by omega, by omega⟩), (show -2147483648 ≤ gr ∧ gr ≤ 2147483647 from ⟨by omega, by omega⟩)⟩ (fun hc => ?_) (fun hc => ?_)
        · have c169 : H.2.2.1 56 0 (H.2.2.1 72 0 (n)) ≤ gr := hc
          clear hc
          refine J.run0 2 rfl ?_
          try dsimp only
          exact ih.2.2 (pairs) (gr) (apart) (n) ((0 : Int)) H _ (show 100 * (16 - (n)) - 2 - ((0 : Int)) < _ by omega) (show 0 ≤ (n) ∧ (n) < 16 from ⟨by omega, by omega⟩) (show 0 ≤ ((0 : Int)) ∧ ((0 : Int)) ≤ (n) from ⟨by omega, by omega⟩) (show 0 ≤ (gr) ∧ (gr) ≤ 300 from ⟨by omega, by omega⟩) hT hE k0gP k0gX k0gL k0gZ k0gQ k0gB k0gK k0gN k0gW (Or.inr (Or.inr (Or.inr (Or.inr (Or.inr (Or.inr (Or.inr (Or.inr (Or.inr (Or.inr (Or.inl rfl)))))))))))
        · have c170 : ¬ (H.2.2.1 56 0 (H.2.2.1 72 0 (n)) ≤ gr) := hc
          clear hc
          refine J.run 10 rfl ⟨(show 0 ≤ n ∧ n < 16 from ⟨by omega, by omega⟩), (show 0 ≤ H.2.2.1 72 0 (n) ∧ H.2.2.1 72 0 (n) < 300 from ⟨by omega, by omega⟩)⟩ ?_
          try dsimp only
          exact ih.2.2 (pairs) (H.2.2.1 56 0 (H.2.2.1 72 0 (n))) (apart) (n) ((0 : Int)) H _ (show 100 * (16 - (n)) - 2 - ((0 : Int)) < _ by omega) (show 0 ≤ (n) ∧ (n) < 16 from ⟨by omega, by omega⟩) (show 0 ≤ ((0 : Int)) ∧ ((0 : Int)) ≤ (n) from ⟨by omega, by omega⟩) (show 0 ≤ (H.2.2.1 56 0 (H.2.2.1 72 0 (n))) ∧ (H.2.2.1 56 0 (H.2.2.1 72 0 (n))) ≤ 300 from ⟨by omega, by omega⟩) hT hE k0gP k0gX k0gL k0gZ k0gQ k0gB k0gK k0gN k0gW (Or.inr (Or.inr (Or.inr (Or.inr (Or.inr (Or.inr (Or.inr (Or.inr (Or.inr (Or.inr (Or.inr (Or.inl rfl))))))))))))
      · skip
        have f171 : 0 ≤ H.2.2.1 72 0 (n) ∧ H.2.2.1 72 0 (n) ≤ 299 := hT.1 72 (n)
        have f172 : 1 ≤ H.1 11 12 0 ∧ H.1 11 12 0 ≤ 300 := hT.2.1 12
        have f171b : H.2.2.1 72 0 (n) < H.1 11 12 0 := hT.2.2.1 72 (n) rfl
        have f173 : 0 ≤ H.2.2.1 56 0 (H.2.2.1 72 0 (n)) ∧ H.2.2.1 56 0 (H.2.2.1 72 0 (n)) ≤ 300 := hT.1 56 (H.2.2.1 72 0 (n))
        have f173gP : 0 ≤ H.2.2.1 72 0 (n) → H.2.2.1 72 0 (n) < 300 → H.2.2.1 56 0 (H.2.2.1 72 0 (n)) ≤ H.2.2.1 72 0 (n) := k0gP.2.2.2.2.1 (H.2.2.1 72 0 (n))
        refine J.run 8 rfl ⟨(show 0 ≤ n ∧ n < 16 from ⟨by omega, by omega⟩), (show 0 ≤ H.2.2.1 72 0 (n) ∧ H.2.2.1 72 0 (n) < 300 from ⟨by omega, by omega⟩)⟩ ?_
        try dsimp only
        refine J.icmp rfl rfl rfl ⟨(show -2147483648 ≤ H.2.2.1 56 0 (H.2.2.1 72 0 (n)) ∧ H.2.2.1 56 0 (H.2.2.1 72 0 (n)) ≤ 2147483647 from ⟨by omega, by omega⟩), (show -2147483648 ≤ gr ∧ gr ≤ 2147483647 from ⟨by omega, by omega⟩)⟩ (fun hc => ?_) (fun hc => ?_)
        · have c174 : H.2.2.1 56 0 (H.2.2.1 72 0 (n)) ≤ gr := hc
          clear hc
          refine J.run0 2 rfl ?_
          try dsimp only
          exact ih.2.2 (pairs) (gr) (apart) (n) ((0 : Int)) H _ (show 100 * (16 - (n)) - 2 - ((0 : Int)) < _ by omega) (show 0 ≤ (n) ∧ (n) < 16 from ⟨by omega, by omega⟩) (show 0 ≤ ((0 : Int)) ∧ ((0 : Int)) ≤ (n) from ⟨by omega, by omega⟩) (show 0 ≤ (gr) ∧ (gr) ≤ 300 from ⟨by omega, by omega⟩) hT hE k0gP k0gX k0gL k0gZ k0gQ k0gB k0gK k0gN k0gW (Or.inr (Or.inr (Or.inr (Or.inr (Or.inr (Or.inr (Or.inr (Or.inr (Or.inr (Or.inr (Or.inr (Or.inr (Or.inl rfl)))))))))))))
        · have c175 : ¬ (H.2.2.1 56 0 (H.2.2.1 72 0 (n)) ≤ gr) := hc
          clear hc
          refine J.run 10 rfl ⟨(show 0 ≤ n ∧ n < 16 from ⟨by omega, by omega⟩), (show 0 ≤ H.2.2.1 72 0 (n) ∧ H.2.2.1 72 0 (n) < 300 from ⟨by omega, by omega⟩)⟩ ?_
          try dsimp only
          exact ih.2.2 (pairs) (H.2.2.1 56 0 (H.2.2.1 72 0 (n))) (apart) (n) ((0 : Int)) H _ (show 100 * (16 - (n)) - 2 - ((0 : Int)) < _ by omega) (show 0 ≤ (n) ∧ (n) < 16 from ⟨by omega, by omega⟩) (show 0 ≤ ((0 : Int)) ∧ ((0 : Int)) ≤ (n) from ⟨by omega, by omega⟩) (show 0 ≤ (H.2.2.1 56 0 (H.2.2.1 72 0 (n))) ∧ (H.2.2.1 56 0 (H.2.2.1 72 0 (n))) ≤ 300 from ⟨by omega, by omega⟩) hT hE k0gP k0gX k0gL k0gZ k0gQ k0gB k0gK k0gN k0gW (Or.inr (Or.inr (Or.inr (Or.inl rfl))))
      · skip
        have f176 : 0 ≤ H.2.2.1 72 0 (n) ∧ H.2.2.1 72 0 (n) ≤ 299 := hT.1 72 (n)
        have f177 : 1 ≤ H.1 11 12 0 ∧ H.1 11 12 0 ≤ 300 := hT.2.1 12
        have f176b : H.2.2.1 72 0 (n) < H.1 11 12 0 := hT.2.2.1 72 (n) rfl
        have f178 : 0 ≤ H.2.2.1 56 0 (H.2.2.1 72 0 (n)) ∧ H.2.2.1 56 0 (H.2.2.1 72 0 (n)) ≤ 300 := hT.1 56 (H.2.2.1 72 0 (n))
        have f178gP : 0 ≤ H.2.2.1 72 0 (n) → H.2.2.1 72 0 (n) < 300 → H.2.2.1 56 0 (H.2.2.1 72 0 (n)) ≤ H.2.2.1 72 0 (n) := k0gP.2.2.2.2.1 (H.2.2.1 72 0 (n))
        refine J.run 8 rfl ⟨(show 0 ≤ n ∧ n < 16 from ⟨by omega, by omega⟩), (show 0 ≤ H.2.2.1 72 0 (n) ∧ H.2.2.1 72 0 (n) < 300 from ⟨by omega, by omega⟩)⟩ ?_
        try dsimp only
        refine J.icmp rfl rfl rfl ⟨(show -2147483648 ≤ H.2.2.1 56 0 (H.2.2.1 72 0 (n)) ∧ H.2.2.1 56 0 (H.2.2.1 72 0 (n)) ≤ 2147483647 from ⟨by omega, by omega⟩), (show -2147483648 ≤ gr ∧ gr ≤ 2147483647 from ⟨by omega, by omega⟩)⟩ (fun hc => ?_) (fun hc => ?_)
        · have c179 : H.2.2.1 56 0 (H.2.2.1 72 0 (n)) ≤ gr := hc
          clear hc
          refine J.run0 2 rfl ?_
          try dsimp only
          exact ih.2.2 (pairs) (gr) (apart) (n) ((0 : Int)) H _ (show 100 * (16 - (n)) - 2 - ((0 : Int)) < _ by omega) (show 0 ≤ (n) ∧ (n) < 16 from ⟨by omega, by omega⟩) (show 0 ≤ ((0 : Int)) ∧ ((0 : Int)) ≤ (n) from ⟨by omega, by omega⟩) (show 0 ≤ (gr) ∧ (gr) ≤ 300 from ⟨by omega, by omega⟩) hT hE k0gP k0gX k0gL k0gZ k0gQ k0gB k0gK k0gN k0gW (Or.inr (Or.inr (Or.inr (Or.inr (Or.inr (Or.inr (Or.inr (Or.inr (Or.inr (Or.inr (Or.inr (Or.inr (Or.inr (Or.inl rfl))))))))))))))
        · have c180 : ¬ (H.2.2.1 56 0 (H.2.2.1 72 0 (n)) ≤ gr) := hc
          clear hc
          refine J.run 10 rfl ⟨(show 0 ≤ n ∧ n < 16 from ⟨by omega, by omega⟩), (show 0 ≤ H.2.2.1 72 0 (n) ∧ H.2.2.1 72 0 (n) < 300 from ⟨by omega, by omega⟩)⟩ ?_
          try dsimp only
          exact ih.2.2 (pairs) (H.2.2.1 56 0 (H.2.2.1 72 0 (n))) (apart) (n) ((0 : Int)) H _ (show 100 * (16 - (n)) - 2 - ((0 : Int)) < _ by omega) (show 0 ≤ (n) ∧ (n) < 16 from ⟨by omega, by omega⟩) (show 0 ≤ ((0 : Int)) ∧ ((0 : Int)) ≤ (n) from ⟨by omega, by omega⟩) (show 0 ≤ (H.2.2.1 56 0 (H.2.2.1 72 0 (n))) ∧ (H.2.2.1 56 0 (H.2.2.1 72 0 (n))) ≤ 300 from ⟨by omega, by omega⟩) hT hE k0gP k0gX k0gL k0gZ k0gQ k0gB k0gK k0gN k0gW (Or.inr (Or.inr (Or.inr (Or.inr (Or.inr (Or.inr (Or.inr (Or.inr (Or.inr (Or.inr (Or.inr (Or.inl rfl))))))))))))
      · skip
        have f181 : 0 ≤ H.2.2.1 72 0 (n) ∧ H.2.2.1 72 0 (n) ≤ 299 := hT.1 72 (n)
        have f182 : 1 ≤ H.1 11 12 0 ∧ H.1 11 12 0 ≤ 300 := hT.2.1 12
        have f181b : H.2.2.1 72 0 (n) < H.1 11 12 0 := hT.2.2.1 72 (n) rfl
        have f183 : 0 ≤ H.2.2.1 56 0 (H.2.2.1 72 0 (n)) ∧ H.2.2.1 56 0 (H.2.2.1 72 0 (n)) ≤ 300 := hT.1 56 (H.2.2.1 72 0 (n))
        have f183gP : 0 ≤ H.2.2.1 72 0 (n) → H.2.2.1 72 0 (n) < 300 → H.2.2.1 56 0 (H.2.2.1 72 0 (n)) ≤ H.2.2.1 72 0 (n) := k0gP.2.2.2.2.1 (H.2.2.1 72 0 (n))
        refine J.run 8 rfl ⟨(show 0 ≤ n ∧ n < 16 from ⟨by omega, by omega⟩), (show 0 ≤ H.2.2.1 72 0 (n) ∧ H.2.2.1 72 0 (n) < 300 from ⟨by omega, by omega⟩)⟩ ?_
        try dsimp only
        refine J.icmp rfl rfl rfl ⟨(show -2147483648 ≤ H.2.2.1 56 0 (H.2.2.1 72 0 (n)) ∧ H.2.2.1 56 0 (H.2.2.1 72 0 (n)) ≤ 2147483647 from ⟨by omega, by omega⟩), (show -2147483648 ≤ gr ∧ gr ≤ 2147483647 from ⟨by omega, by omega⟩)⟩ (fun hc => ?_) (fun hc => ?_)
        · have c184 : H.2.2.1 56 0 (H.2.2.1 72 0 (n)) ≤ gr := hc
          clear hc
          refine J.run0 2 rfl ?_
          try dsimp only
          exact ih.2.2 (pairs) (gr) (apart) (n) ((0 : Int)) H _ (show 100 * (16 - (n)) - 2 - ((0 : Int)) < _ by omega) (show 0 ≤ (n) ∧ (n) < 16 from ⟨by omega, by omega⟩) (show 0 ≤ ((0 : Int)) ∧ ((0 : Int)) ≤ (n) from ⟨by omega, by omega⟩) (show 0 ≤ (gr) ∧ (gr) ≤ 300 from ⟨by omega, by omega⟩) hT hE k0gP k0gX k0gL k0gZ k0gQ k0gB k0gK k0gN k0gW (Or.inr (Or.inr (Or.inr (Or.inr (Or.inr (Or.inr (Or.inr (Or.inr (Or.inr (Or.inr (Or.inr (Or.inr (Or.inr (Or.inr (Or.inl rfl)))))))))))))))
        · have c185 : ¬ (H.2.2.1 56 0 (H.2.2.1 72 0 (n)) ≤ gr) := hc
          clear hc
          refine J.run 10 rfl ⟨(show 0 ≤ n ∧ n < 16 from ⟨by omega, by omega⟩), (show 0 ≤ H.2.2.1 72 0 (n) ∧ H.2.2.1 72 0 (n) < 300 from ⟨by omega, by omega⟩)⟩ ?_
          try dsimp only
          exact ih.2.2 (pairs) (H.2.2.1 56 0 (H.2.2.1 72 0 (n))) (apart) (n) ((0 : Int)) H _ (show 100 * (16 - (n)) - 2 - ((0 : Int)) < _ by omega) (show 0 ≤ (n) ∧ (n) < 16 from ⟨by omega, by omega⟩) (show 0 ≤ ((0 : Int)) ∧ ((0 : Int)) ≤ (n) from ⟨by omega, by omega⟩) (show 0 ≤ (H.2.2.1 56 0 (H.2.2.1 72 0 (n))) ∧ (H.2.2.1 56 0 (H.2.2.1 72 0 (n))) ≤ 300 from ⟨by omega, by omega⟩) hT hE k0gP k0gX k0gL k0gZ k0gQ k0gB k0gK k0gN k0gW (Or.inr (Or.inr (Or.inr (Or.inr (Or.inr (Or.inr (Or.inr (Or.inr (Or.inr (Or.inr (Or.inr (Or.inl rfl))))))))))))
      · skip
        have f186 : 0 ≤ H.2.2.1 72 0 (n) ∧ H.2.2.1 72 0 (n) ≤ 299 := hT.1 72 (n)
        have f187 : 1 ≤ H.1 11 12 0 ∧ H.1 11 12 0 ≤ 300 := hT.2.1 12
        have f186b : H.2.2.1 72 0 (n) < H.1 11 12 0 := hT.2.2.1 72 (n) rfl
        have f188 : 0 ≤ H.2.2.1 56 0 (H.2.2.1 72 0 (n)) ∧ H.2.2.1 56 0 (H.2.2.1 72 0 (n)) ≤ 300 := hT.1 56 (H.2.2.1 72 0 (n))
        have f188gP : 0 ≤ H.2.2.1 72 0 (n) → H.2.2.1 72 0 (n) < 300 → H.2.2.1 56 0 (H.2.2.1 72 0 (n)) ≤ H.2.2.1 72 0 (n) := k0gP.2.2.2.2.1 (H.2.2.1 72 0 (n))
        refine J.run 8 rfl ⟨(show 0 ≤ n ∧ n < 16 from ⟨by omega, by omega⟩), (show 0 ≤ H.2.2.1 72 0 (n) ∧ H.2.2.1 72 0 (n) < 300 from ⟨by omega, by omega⟩)⟩ ?_
        try dsimp only
        refine J.icmp rfl rfl rfl ⟨(show -2147483648 ≤ H.2.2.1 56 0 (H.2.2.1 72 0 (n)) ∧ H.2.2.1 56 0 (H.2.2.1 72 0 (n)) ≤ 2147483647 from ⟨by omega, by omega⟩), (show -2147483648 ≤ gr ∧ gr ≤ 2147483647 from ⟨by omega, by omega⟩)⟩ (fun hc => ?_) (fun hc => ?_)
        · have c189 : H.2.2.1 56 0 (H.2.2.1 72 0 (n)) ≤ gr := hc
          clear hc
          refine J.run0 2 rfl ?_
          try dsimp only
          exact ih.2.2 (pairs) (gr) (apart) (n) ((0 : Int)) H _ (show 100 * (16 - (n)) - 2 - ((0 : Int)) < _ by omega) (show 0 ≤ (n) ∧ (n) < 16 from ⟨by omega, by omega⟩) (show 0 ≤ ((0 : Int)) ∧ ((0 : Int)) ≤ (n) from ⟨by omega, by omega⟩) (show 0 ≤ (gr) ∧ (gr) ≤ 300 from ⟨by omega, by omega⟩) hT hE k0gP k0gX k0gL k0gZ k0gQ k0gB k0gK k0gN k0gW (Or.inr (Or.inr (Or.inr (Or.inr (Or.inr (Or.inr (Or.inr (Or.inr (Or.inr (Or.inr (Or.inr (Or.inr (Or.inr (Or.inr (Or.inr (rfl))))))))))))))))
        · have c190 : ¬ (H.2.2.1 56 0 (H.2.2.1 72 0 (n)) ≤ gr) := hc
          clear hc
          refine J.run 10 rfl ⟨(show 0 ≤ n ∧ n < 16 from ⟨by omega, by omega⟩), (show 0 ≤ H.2.2.1 72 0 (n) ∧ H.2.2.1 72 0 (n) < 300 from ⟨by omega, by omega⟩)⟩ ?_
          try dsimp only
          exact ih.2.2 (pairs) (H.2.2.1 56 0 (H.2.2.1 72 0 (n))) (apart) (n) ((0 : Int)) H _ (show 100 * (16 - (n)) - 2 - ((0 : Int)) < _ by omega) (show 0 ≤ (n) ∧ (n) < 16 from ⟨by omega, by omega⟩) (show 0 ≤ ((0 : Int)) ∧ ((0 : Int)) ≤ (n) from ⟨by omega, by omega⟩) (show 0 ≤ (H.2.2.1 56 0 (H.2.2.1 72 0 (n))) ∧ (H.2.2.1 56 0 (H.2.2.1 72 0 (n))) ≤ 300 from ⟨by omega, by omega⟩) hT hE k0gP k0gX k0gL k0gZ k0gQ k0gB k0gK k0gN k0gW (Or.inr (Or.inl rfl))
    · intro pairs gr apart n k H lv hm hi0 hi1 hi2 hT hE k0gP k0gX k0gL k0gZ k0gQ k0gB k0gK k0gN k0gW hlv
      rcases hlv with rfl | rfl | rfl | rfl | rfl | rfl | rfl | rfl | rfl | rfl | rfl | rfl | rfl | rfl | rfl | rfl
      · skip
        refine J.run0 2 rfl ?_
        try dsimp only
        refine J.icmp rfl rfl rfl ⟨(show -2147483648 ≤ k ∧ k ≤ 2147483647 from ⟨by omega, by omega⟩), (show -2147483648 ≤ n ∧ n ≤ 2147483647 from ⟨by omega, by omega⟩)⟩ (fun hc => ?_) (fun hc => ?_)
        · have c191 : n ≤ k := hc
          clear hc
          refine J.run0 2 rfl ?_
          try dsimp only
          exact ih.1 (pairs) (gr) (apart) (n + 1) H _ (show 100 * (16 - (n + 1)) < _ by omega) (show 0 ≤ (n + 1) ∧ (n + 1) ≤ 16 from ⟨by omega, by omega⟩) (show 0 ≤ (gr) ∧ (gr) ≤ 300 from ⟨by omega, by omega⟩) hT hE k0gP k0gX k0gL k0gZ k0gQ k0gB k0gK k0gN k0gW (Or.inr (Or.inl ⟨_, rfl⟩))
        · have c192 : ¬ (n ≤ k) := hc
          clear hc
          have f193 : 0 ≤ H.2.2.1 79 0 (k) ∧ H.2.2.1 79 0 (k) ≤ 1 := hT.1 79 (k)
          refine J.run 4 rfl (show 0 ≤ k ∧ k < 16 from ⟨by omega, by omega⟩) ?_
          try dsimp only
          refine J.ifc rfl rfl rfl (show -2147483648 ≤ H.2.2.1 79 0 (k) ∧ H.2.2.1 79 0 (k) ≤ 2147483647 from ⟨by omega, by omega⟩) (fun hc => ?_) (fun hc => ?_)
          · have c194 : ¬ (H.2.2.1 79 0 (k) = (0 : Int)) := hc
            clear hc
            refine J.run0 2 rfl ?_
            try dsimp only
            exact ih.2.2 (pairs) (gr) (apart) (n) (k + 1) H _ (show 100 * (16 - (n)) - 2 - (k + 1) < _ by omega) (show 0 ≤ (n) ∧ (n) < 16 from ⟨by omega, by omega⟩) (show 0 ≤ (k + 1) ∧ (k + 1) ≤ (n) from ⟨by omega, by omega⟩) (show 0 ≤ (gr) ∧ (gr) ≤ 300 from ⟨by omega, by omega⟩) hT hE k0gP k0gX k0gL k0gZ k0gQ k0gB k0gK k0gN k0gW (Or.inl rfl)
          · have c195 : ¬ (¬ (H.2.2.1 79 0 (k) = (0 : Int))) := hc
            clear hc
            have f196 : 0 ≤ H.2.2.1 72 0 (k) ∧ H.2.2.1 72 0 (k) ≤ 299 := hT.1 72 (k)
            have f197 : 1 ≤ H.1 11 12 0 ∧ H.1 11 12 0 ≤ 300 := hT.2.1 12
            have f196b : H.2.2.1 72 0 (k) < H.1 11 12 0 := hT.2.2.1 72 (k) rfl
            have g198 : n = k → H.2.2.1 72 0 (n) = H.2.2.1 72 0 (k) := fun z => by rw [z]
            have f199 : 0 ≤ H.2.2.1 72 0 (n) ∧ H.2.2.1 72 0 (n) ≤ 299 := hT.1 72 (n)
            have f199b : H.2.2.1 72 0 (n) < H.1 11 12 0 := hT.2.2.1 72 (n) rfl
            refine J.run 9 rfl ⟨(show 0 ≤ k ∧ k < 16 from ⟨by omega, by omega⟩), (show 0 ≤ n ∧ n < 16 from ⟨by omega, by omega⟩)⟩ ?_
            try dsimp only
            refine J.inv rfl rfl rfl rfl rfl rfl jDr rfl rfl rfl rfl rfl (g_isAbove (above := H.2.2.1 72 0 (k)) (b := H.2.2.1 72 0 (n)) hT k0gP (show -2147483648 ≤ (H.2.2.1 72 0 (k)) ∧ (H.2.2.1 72 0 (k)) ≤ 2147483647 from ⟨by omega, by omega⟩) (show -1 ≤ (H.2.2.1 72 0 (n)) ∧ (H.2.2.1 72 0 (n)) < 300 from ⟨by omega, by omega⟩)) ?_
            rintro v w H ⟨rfl, rfl, x200, rfl, r201⟩
            have r201' : 0 ≤ x200 ∧ x200 ≤ 1 := r201
            try dsimp only [Option.toList, List.append, List.cons_append, List.nil_append]
            refine J.ifc rfl rfl rfl (show -2147483648 ≤ x200 ∧ x200 ≤ 2147483647 from ⟨by omega, by omega⟩) (fun hc => ?_) (fun hc => ?_)
            · have c202 : ¬ (x200 = (0 : Int)) := hc
              clear hc
              refine J.run0 2 rfl ?_
              try dsimp only
              exact ih.2.2 (pairs) (gr) (apart) (n) (k + 1) H _ (show 100 * (16 - (n)) - 2 - (k + 1) < _ by omega) (show 0 ≤ (n) ∧ (n) < 16 from ⟨by omega, by omega⟩) (show 0 ≤ (k + 1) ∧ (k + 1) ≤ (n) from ⟨by omega, by omega⟩) (show 0 ≤ (gr) ∧ (gr) ≤ 300 from ⟨by omega, by omega⟩) hT hE k0gP k0gX k0gL k0gZ k0gQ k0gB k0gK k0gN k0gW (Or.inl rfl)
            · have c203 : ¬ (¬ (x200 = (0 : Int))) := hc
              clear hc
              refine J.run 9 rfl ⟨(show 0 ≤ n ∧ n < 16 from ⟨by omega, by omega⟩), (show 0 ≤ k ∧ k < 16 from ⟨by omega, by omega⟩)⟩ ?_
              try dsimp only
              refine J.inv rfl rfl rfl rfl rfl rfl jDr rfl rfl rfl rfl rfl (g_isAbove (above := H.2.2.1 72 0 (n)) (b := H.2.2.1 72 0 (k)) hT k0gP (show -2147483648 ≤ (H.2.2.1 72 0 (n)) ∧ (H.2.2.1 72 0 (n)) ≤ 2147483647 from ⟨by omega, by omega⟩) (show -1 ≤ (H.2.2.1 72 0 (k)) ∧ (H.2.2.1 72 0 (k)) < 300 from ⟨by omega, by omega⟩)) ?_
              rintro v w H ⟨rfl, rfl, x204, rfl, r205⟩
              have r205' : 0 ≤ x204 ∧ x204 ≤ 1 := r205
              try dsimp only [Option.toList, List.append, List.cons_append, List.nil_append]
              refine J.ifc rfl rfl rfl (show -2147483648 ≤ x204 ∧ x204 ≤ 2147483647 from ⟨by omega, by omega⟩) (fun hc => ?_) (fun hc => ?_)
              · have c206 : ¬ (x204 = (0 : Int)) := hc
                clear hc
                refine J.run0 2 rfl ?_
                try dsimp only
                exact ih.2.2 (pairs) (gr) (apart) (n) (k + 1) H _ (show 100 * (16 - (n)) - 2 - (k + 1) < _ by omega) (show 0 ≤ (n) ∧ (n) < 16 from ⟨by omega, by omega⟩) (show 0 ≤ (k + 1) ∧ (k + 1) ≤ (n) from ⟨by omega, by omega⟩) (show 0 ≤ (gr) ∧ (gr) ≤ 300 from ⟨by omega, by omega⟩) hT hE k0gP k0gX k0gL k0gZ k0gQ k0gB k0gK k0gN k0gW (Or.inl rfl)
              · have c207 : ¬ (¬ (x204 = (0 : Int))) := hc
                clear hc
                refine J.run0 3 rfl ?_
                try dsimp only
                exact ih.2.2 (pairs + 1) (gr) (apart) (n) (k + 1) H _ (show 100 * (16 - (n)) - 2 - (k + 1) < _ by omega) (show 0 ≤ (n) ∧ (n) < 16 from ⟨by omega, by omega⟩) (show 0 ≤ (k + 1) ∧ (k + 1) ≤ (n) from ⟨by omega, by omega⟩) (show 0 ≤ (gr) ∧ (gr) ≤ 300 from ⟨by omega, by omega⟩) hT hE k0gP k0gX k0gL k0gZ k0gQ k0gB k0gK k0gN k0gW (Or.inr (Or.inr (Or.inr (Or.inr (Or.inl rfl)))))
      · skip
        refine J.run0 2 rfl ?_
        try dsimp only
        refine J.icmp rfl rfl rfl ⟨(show -2147483648 ≤ k ∧ k ≤ 2147483647 from ⟨by omega, by omega⟩), (show -2147483648 ≤ n ∧ n ≤ 2147483647 from ⟨by omega, by omega⟩)⟩ (fun hc => ?_) (fun hc => ?_)
        · have c208 : n ≤ k := hc
          clear hc
          refine J.run0 2 rfl ?_
          try dsimp only
          exact ih.1 (pairs) (gr) (apart) (n + 1) H _ (show 100 * (16 - (n + 1)) < _ by omega) (show 0 ≤ (n + 1) ∧ (n + 1) ≤ 16 from ⟨by omega, by omega⟩) (show 0 ≤ (gr) ∧ (gr) ≤ 300 from ⟨by omega, by omega⟩) hT hE k0gP k0gX k0gL k0gZ k0gQ k0gB k0gK k0gN k0gW (Or.inr (Or.inr (Or.inl ⟨_, rfl⟩)))
        · have c209 : ¬ (n ≤ k) := hc
          clear hc
          have f210 : 0 ≤ H.2.2.1 79 0 (k) ∧ H.2.2.1 79 0 (k) ≤ 1 := hT.1 79 (k)
          refine J.run 4 rfl (show 0 ≤ k ∧ k < 16 from ⟨by omega, by omega⟩) ?_
          try dsimp only
          refine J.ifc rfl rfl rfl (show -2147483648 ≤ H.2.2.1 79 0 (k) ∧ H.2.2.1 79 0 (k) ≤ 2147483647 from ⟨by omega, by omega⟩) (fun hc => ?_) (fun hc => ?_)
          · have c211 : ¬ (H.2.2.1 79 0 (k) = (0 : Int)) := hc
            clear hc
            refine J.run0 2 rfl ?_
            try dsimp only
            exact ih.2.2 (pairs) (gr) (apart) (n) (k + 1) H _ (show 100 * (16 - (n)) - 2 - (k + 1) < _ by omega) (show 0 ≤ (n) ∧ (n) < 16 from ⟨by omega, by omega⟩) (show 0 ≤ (k + 1) ∧ (k + 1) ≤ (n) from ⟨by omega, by omega⟩) (show 0 ≤ (gr) ∧ (gr) ≤ 300 from ⟨by omega, by omega⟩) hT hE k0gP k0gX k0gL k0gZ k0gQ k0gB k0gK k0gN k0gW (Or.inr (Or.inl rfl))
          · have c212 : ¬ (¬ (H.2.2.1 79 0 (k) = (0 : Int))) := hc
            clear hc
            have f213 : 0 ≤ H.2.2.1 72 0 (k) ∧ H.2.2.1 72 0 (k) ≤ 299 := hT.1 72 (k)
            have f214 : 1 ≤ H.1 11 12 0 ∧ H.1 11 12 0 ≤ 300 := hT.2.1 12
            have f213b : H.2.2.1 72 0 (k) < H.1 11 12 0 := hT.2.2.1 72 (k) rfl
            have g215 : n = k → H.2.2.1 72 0 (n) = H.2.2.1 72 0 (k) := fun z => by rw [z]
            have f216 : 0 ≤ H.2.2.1 72 0 (n) ∧ H.2.2.1 72 0 (n) ≤ 299 := hT.1 72 (n)
            have f216b : H.2.2.1 72 0 (n) < H.1 11 12 0 := hT.2.2.1 72 (n) rfl
            refine J.run 9 rfl ⟨(show 0 ≤ k ∧ k < 16 from ⟨by omega, by omega⟩), (show 0 ≤ n ∧ n < 16 from ⟨by omega, by omega⟩)⟩ ?_
            try dsimp only
            refine J.inv rfl rfl rfl rfl rfl rfl jDr rfl rfl rfl rfl rfl (g_isAbove (above := H.2.2.1 72 0 (k)) (b := H.2.2.1 72 0 (n)) hT k0gP (show -2147483648 ≤ (H.2.2.1 72 0 (k)) ∧ (H.2.2.1 72 0 (k)) ≤ 2147483647 from ⟨by omega, by omega⟩) (show -1 ≤ (H.2.2.1 72 0 (n)) ∧ (H.2.2.1 72 0 (n)) < 300 from ⟨by omega, by omega⟩)) ?_
            rintro v w H ⟨rfl, rfl, x217, rfl, r218⟩
            have r218' : 0 ≤ x217 ∧ x217 ≤ 1 := r218
            try dsimp only [Option.toList, List.append, List.cons_append, List.nil_append]
            refine J.ifc rfl rfl rfl (show -2147483648 ≤ x217 ∧ x217 ≤ 2147483647 from ⟨by omega, by omega⟩) (fun hc => ?_) (fun hc => ?_)
            · have c219 : ¬ (x217 = (0 : Int)) := hc
              clear hc
              refine J.run0 2 rfl ?_
              try dsimp only
              exact ih.2.2 (pairs) (gr) (apart) (n) (k + 1) H _ (show 100 * (16 - (n)) - 2 - (k + 1) < _ by omega) (show 0 ≤ (n) ∧ (n) < 16 from ⟨by omega, by omega⟩) (show 0 ≤ (k + 1) ∧ (k + 1) ≤ (n) from ⟨by omega, by omega⟩) (show 0 ≤ (gr) ∧ (gr) ≤ 300 from ⟨by omega, by omega⟩) hT hE k0gP k0gX k0gL k0gZ k0gQ k0gB k0gK k0gN k0gW (Or.inr (Or.inl rfl))
            · have c220 : ¬ (¬ (x217 = (0 : Int))) := hc
              clear hc
              refine J.run 9 rfl ⟨(show 0 ≤ n ∧ n < 16 from ⟨by omega, by omega⟩), (show 0 ≤ k ∧ k < 16 from ⟨by omega, by omega⟩)⟩ ?_
              try dsimp only
              refine J.inv rfl rfl rfl rfl rfl rfl jDr rfl rfl rfl rfl rfl (g_isAbove (above := H.2.2.1 72 0 (n)) (b := H.2.2.1 72 0 (k)) hT k0gP (show -2147483648 ≤ (H.2.2.1 72 0 (n)) ∧ (H.2.2.1 72 0 (n)) ≤ 2147483647 from ⟨by omega, by omega⟩) (show -1 ≤ (H.2.2.1 72 0 (k)) ∧ (H.2.2.1 72 0 (k)) < 300 from ⟨by omega, by omega⟩)) ?_
              rintro v w H ⟨rfl, rfl, x221, rfl, r222⟩
              have r222' : 0 ≤ x221 ∧ x221 ≤ 1 := r222
              try dsimp only [Option.toList, List.append, List.cons_append, List.nil_append]
              refine J.ifc rfl rfl rfl (show -2147483648 ≤ x221 ∧ x221 ≤ 2147483647 from ⟨by omega, by omega⟩) (fun hc => ?_) (fun hc => ?_)
              · have c223 : ¬ (x221 = (0 : Int)) := hc
                clear hc
                refine J.run0 2 rfl ?_
                try dsimp only
                exact ih.2.2 (pairs) (gr) (apart) (n) (k + 1) H _ (show 100 * (16 - (n)) - 2 - (k + 1) < _ by omega) (show 0 ≤ (n) ∧ (n) < 16 from ⟨by omega, by omega⟩) (show 0 ≤ (k + 1) ∧ (k + 1) ≤ (n) from ⟨by omega, by omega⟩) (show 0 ≤ (gr) ∧ (gr) ≤ 300 from ⟨by omega, by omega⟩) hT hE k0gP k0gX k0gL k0gZ k0gQ k0gB k0gK k0gN k0gW (Or.inr (Or.inl rfl))
              · have c224 : ¬ (¬ (x221 = (0 : Int))) := hc
                clear hc
                refine J.run0 3 rfl ?_
                try dsimp only
                exact ih.2.2 (pairs + 1) (gr) (apart) (n) (k + 1) H _ (show 100 * (16 - (n)) - 2 - (k + 1) < _ by omega) (show 0 ≤ (n) ∧ (n) < 16 from ⟨by omega, by omega⟩) (show 0 ≤ (k + 1) ∧ (k + 1) ≤ (n) from ⟨by omega, by omega⟩) (show 0 ≤ (gr) ∧ (gr) ≤ 300 from ⟨by omega, by omega⟩) hT hE k0gP k0gX k0gL k0gZ k0gQ k0gB k0gK k0gN k0gW (Or.inr (Or.inr (Or.inr (Or.inr (Or.inr (Or.inl rfl))))))
      · skip
        refine J.run0 2 rfl ?_
        try dsimp only
        refine J.icmp rfl rfl rfl ⟨(show -2147483648 ≤ k ∧ k ≤ 2147483647 from ⟨by omega, by omega⟩), (show -2147483648 ≤ n ∧ n ≤ 2147483647 from ⟨by omega, by omega⟩)⟩ (fun hc => ?_) (fun hc => ?_)
        · have c225 : n ≤ k := hc
          clear hc
          refine J.run0 2 rfl ?_
          try dsimp only
          exact ih.1 (pairs) (gr) (apart) (n + 1) H _ (show 100 * (16 - (n + 1)) < _ by omega) (show 0 ≤ (n + 1) ∧ (n + 1) ≤ 16 from ⟨by omega, by omega⟩) (show 0 ≤ (gr) ∧ (gr) ≤ 300 from ⟨by omega, by omega⟩) hT hE k0gP k0gX k0gL k0gZ k0gQ k0gB k0gK k0gN k0gW (Or.inr (Or.inl ⟨_, rfl⟩))
        · have c226 : ¬ (n ≤ k) := hc
          clear hc
          have f227 : 0 ≤ H.2.2.1 79 0 (k) ∧ H.2.2.1 79 0 (k) ≤ 1 := hT.1 79 (k)
          refine J.run 4 rfl (show 0 ≤ k ∧ k < 16 from ⟨by omega, by omega⟩) ?_
          try dsimp only
          refine J.ifc rfl rfl rfl (show -2147483648 ≤ H.2.2.1 79 0 (k) ∧ H.2.2.1 79 0 (k) ≤ 2147483647 from ⟨by omega, by omega⟩) (fun hc => ?_) (fun hc => ?_)
          · have c228 : ¬ (H.2.2.1 79 0 (k) = (0 : Int)) := hc
            clear hc
            refine J.run0 2 rfl ?_
            try dsimp only
            exact ih.2.2 (pairs) (gr) (apart) (n) (k + 1) H _ (show 100 * (16 - (n)) - 2 - (k + 1) < _ by omega) (show 0 ≤ (n) ∧ (n) < 16 from ⟨by omega, by omega⟩) (show 0 ≤ (k + 1) ∧ (k + 1) ≤ (n) from ⟨by omega, by omega⟩) (show 0 ≤ (gr) ∧ (gr) ≤ 300 from ⟨by omega, by omega⟩) hT hE k0gP k0gX k0gL k0gZ k0gQ k0gB k0gK k0gN k0gW (Or.inr (Or.inr (Or.inl rfl)))
          · have c229 : ¬ (¬ (H.2.2.1 79 0 (k) = (0 : Int))) := hc
            clear hc
            have f230 : 0 ≤ H.2.2.1 72 0 (k) ∧ H.2.2.1 72 0 (k) ≤ 299 := hT.1 72 (k)
            have f231 : 1 ≤ H.1 11 12 0 ∧ H.1 11 12 0 ≤ 300 := hT.2.1 12
            have f230b : H.2.2.1 72 0 (k) < H.1 11 12 0 := hT.2.2.1 72 (k) rfl
            have g232 : n = k → H.2.2.1 72 0 (n) = H.2.2.1 72 0 (k) := fun z => by rw [z]
            have f233 : 0 ≤ H.2.2.1 72 0 (n) ∧ H.2.2.1 72 0 (n) ≤ 299 := hT.1 72 (n)
            have f233b : H.2.2.1 72 0 (n) < H.1 11 12 0 := hT.2.2.1 72 (n) rfl
            refine J.run 9 rfl ⟨(show 0 ≤ k ∧ k < 16 from ⟨by omega, by omega⟩), (show 0 ≤ n ∧ n < 16 from ⟨by omega, by omega⟩)⟩ ?_
            try dsimp only
            refine J.inv rfl rfl rfl rfl rfl rfl jDr rfl rfl rfl rfl rfl (g_isAbove (above := H.2.2.1 72 0 (k)) (b := H.2.2.1 72 0 (n)) hT k0gP (show -2147483648 ≤ (H.2.2.1 72 0 (k)) ∧ (H.2.2.1 72 0 (k)) ≤ 2147483647 from ⟨by omega, by omega⟩) (show -1 ≤ (H.2.2.1 72 0 (n)) ∧ (H.2.2.1 72 0 (n)) < 300 from ⟨by omega, by omega⟩)) ?_
            rintro v w H ⟨rfl, rfl, x234, rfl, r235⟩
            have r235' : 0 ≤ x234 ∧ x234 ≤ 1 := r235
            try dsimp only [Option.toList, List.append, List.cons_append, List.nil_append]
            refine J.ifc rfl rfl rfl (show -2147483648 ≤ x234 ∧ x234 ≤ 2147483647 from ⟨by omega, by omega⟩) (fun hc => ?_) (fun hc => ?_)
            · have c236 : ¬ (x234 = (0 : Int)) := hc
              clear hc
              refine J.run0 2 rfl ?_
              try dsimp only
              exact ih.2.2 (pairs) (gr) (apart) (n) (k + 1) H _ (show 100 * (16 - (n)) - 2 - (k + 1) < _ by omega) (show 0 ≤ (n) ∧ (n) < 16 from ⟨by omega, by omega⟩) (show 0 ≤ (k + 1) ∧ (k + 1) ≤ (n) from ⟨by omega, by omega⟩) (show 0 ≤ (gr) ∧ (gr) ≤ 300 from ⟨by omega, by omega⟩) hT hE k0gP k0gX k0gL k0gZ k0gQ k0gB k0gK k0gN k0gW (Or.inr (Or.inr (Or.inl rfl)))
            · have c237 : ¬ (¬ (x234 = (0 : Int))) := hc
              clear hc
              refine J.run 9 rfl ⟨(show 0 ≤ n ∧ n < 16 from ⟨by omega, by omega⟩), (show 0 ≤ k ∧ k < 16 from ⟨by omega, by omega⟩)⟩ ?_
              try dsimp only
              refine J.inv rfl rfl rfl rfl rfl rfl jDr rfl rfl rfl rfl rfl (g_isAbove (above := H.2.2.1 72 0 (n)) (b := H.2.2.1 72 0 (k)) hT k0gP (show -2147483648 ≤ (H.2.2.1 72 0 (n)) ∧ (H.2.2.1 72 0 (n)) ≤ 2147483647 from ⟨by omega, by omega⟩) (show -1 ≤ (H.2.2.1 72 0 (k)) ∧ (H.2.2.1 72 0 (k)) < 300 from ⟨by omega, by omega⟩)) ?_
              rintro v w H ⟨rfl, rfl, x238, rfl, r239⟩
              have r239' : 0 ≤ x238 ∧ x238 ≤ 1 := r239
              try dsimp only [Option.toList, List.append, List.cons_append, List.nil_append]
              refine J.ifc rfl rfl rfl (show -2147483648 ≤ x238 ∧ x238 ≤ 2147483647 from ⟨by omega, by omega⟩) (fun hc => ?_) (fun hc => ?_)
              · have c240 : ¬ (x238 = (0 : Int)) := hc
                clear hc
                refine J.run0 2 rfl ?_
                try dsimp only
                exact ih.2.2 (pairs) (gr) (apart) (n) (k + 1) H _ (show 100 * (16 - (n)) - 2 - (k + 1) < _ by omega) (show 0 ≤ (n) ∧ (n) < 16 from ⟨by omega, by omega⟩) (show 0 ≤ (k + 1) ∧ (k + 1) ≤ (n) from ⟨by omega, by omega⟩) (show 0 ≤ (gr) ∧ (gr) ≤ 300 from ⟨by omega, by omega⟩) hT hE k0gP k0gX k0gL k0gZ k0gQ k0gB k0gK k0gN k0gW (Or.inr (Or.inr (Or.inl rfl)))
              · have c241 : ¬ (¬ (x238 = (0 : Int))) := hc
                clear hc
                refine J.run0 3 rfl ?_
                try dsimp only
                exact ih.2.2 (pairs + 1) (gr) (apart) (n) (k + 1) H _ (show 100 * (16 - (n)) - 2 - (k + 1) < _ by omega) (show 0 ≤ (n) ∧ (n) < 16 from ⟨by omega, by omega⟩) (show 0 ≤ (k + 1) ∧ (k + 1) ≤ (n) from ⟨by omega, by omega⟩) (show 0 ≤ (gr) ∧ (gr) ≤ 300 from ⟨by omega, by omega⟩) hT hE k0gP k0gX k0gL k0gZ k0gQ k0gB k0gK k0gN k0gW (Or.inr (Or.inr (Or.inr (Or.inr (Or.inr (Or.inr (Or.inl rfl)))))))
      · skip
        refine J.run0 2 rfl ?_
        try dsimp only
        refine J.icmp rfl rfl rfl ⟨(show -2147483648 ≤ k ∧ k ≤ 2147483647 from ⟨by omega, by omega⟩), (show -2147483648 ≤ n ∧ n ≤ 2147483647 from ⟨by omega, by omega⟩)⟩ (fun hc => ?_) (fun hc => ?_)
        · have c242 : n ≤ k := hc
          clear hc
          refine J.run0 2 rfl ?_
          try dsimp only
          exact ih.1 (pairs) (gr) (apart) (n + 1) H _ (show 100 * (16 - (n + 1)) < _ by omega) (show 0 ≤ (n + 1) ∧ (n + 1) ≤ 16 from ⟨by omega, by omega⟩) (show 0 ≤ (gr) ∧ (gr) ≤ 300 from ⟨by omega, by omega⟩) hT hE k0gP k0gX k0gL k0gZ k0gQ k0gB k0gK k0gN k0gW (Or.inr (Or.inr (Or.inl ⟨_, rfl⟩)))
        · have c243 : ¬ (n ≤ k) := hc
          clear hc
          have f244 : 0 ≤ H.2.2.1 79 0 (k) ∧ H.2.2.1 79 0 (k) ≤ 1 := hT.1 79 (k)
          refine J.run 4 rfl (show 0 ≤ k ∧ k < 16 from ⟨by omega, by omega⟩) ?_
          try dsimp only
          refine J.ifc rfl rfl rfl (show -2147483648 ≤ H.2.2.1 79 0 (k) ∧ H.2.2.1 79 0 (k) ≤ 2147483647 from ⟨by omega, by omega⟩) (fun hc => ?_) (fun hc => ?_)
          · have c245 : ¬ (H.2.2.1 79 0 (k) = (0 : Int)) := hc
            clear hc
            refine J.run0 2 rfl ?_
            try dsimp only
            exact ih.2.2 (pairs) (gr) (apart) (n) (k + 1) H _ (show 100 * (16 - (n)) - 2 - (k + 1) < _ by omega) (show 0 ≤ (n) ∧ (n) < 16 from ⟨by omega, by omega⟩) (show 0 ≤ (k + 1) ∧ (k + 1) ≤ (n) from ⟨by omega, by omega⟩) (show 0 ≤ (gr) ∧ (gr) ≤ 300 from ⟨by omega, by omega⟩) hT hE k0gP k0gX k0gL k0gZ k0gQ k0gB k0gK k0gN k0gW (Or.inr (Or.inr (Or.inr (Or.inl rfl))))
          · have c246 : ¬ (¬ (H.2.2.1 79 0 (k) = (0 : Int))) := hc
            clear hc
            have f247 : 0 ≤ H.2.2.1 72 0 (k) ∧ H.2.2.1 72 0 (k) ≤ 299 := hT.1 72 (k)
            have f248 : 1 ≤ H.1 11 12 0 ∧ H.1 11 12 0 ≤ 300 := hT.2.1 12
            have f247b : H.2.2.1 72 0 (k) < H.1 11 12 0 := hT.2.2.1 72 (k) rfl
            have g249 : n = k → H.2.2.1 72 0 (n) = H.2.2.1 72 0 (k) := fun z => by rw [z]
            have f250 : 0 ≤ H.2.2.1 72 0 (n) ∧ H.2.2.1 72 0 (n) ≤ 299 := hT.1 72 (n)
            have f250b : H.2.2.1 72 0 (n) < H.1 11 12 0 := hT.2.2.1 72 (n) rfl
            refine J.run 9 rfl ⟨(show 0 ≤ k ∧ k < 16 from ⟨by omega, by omega⟩), (show 0 ≤ n ∧ n < 16 from ⟨by omega, by omega⟩)⟩ ?_
            try dsimp only
            refine J.inv rfl rfl rfl rfl rfl rfl jDr rfl rfl rfl rfl rfl (g_isAbove (above := H.2.2.1 72 0 (k)) (b := H.2.2.1 72 0 (n)) hT k0gP (show -2147483648 ≤ (H.2.2.1 72 0 (k)) ∧ (H.2.2.1 72 0 (k)) ≤ 2147483647 from ⟨by omega, by omega⟩) (show -1 ≤ (H.2.2.1 72 0 (n)) ∧ (H.2.2.1 72 0 (n)) < 300 from ⟨by omega, by omega⟩)) ?_
            rintro v w H ⟨rfl, rfl, x251, rfl, r252⟩
            have r252' : 0 ≤ x251 ∧ x251 ≤ 1 := r252
            try dsimp only [Option.toList, List.append, List.cons_append, List.nil_append]
            refine J.ifc rfl rfl rfl (show -2147483648 ≤ x251 ∧ x251 ≤ 2147483647 from ⟨by omega, by omega⟩) (fun hc => ?_) (fun hc => ?_)
            · have c253 : ¬ (x251 = (0 : Int)) := hc
              clear hc
              refine J.run0 2 rfl ?_
              try dsimp only
              exact ih.2.2 (pairs) (gr) (apart) (n) (k + 1) H _ (show 100 * (16 - (n)) - 2 - (k + 1) < _ by omega) (show 0 ≤ (n) ∧ (n) < 16 from ⟨by omega, by omega⟩) (show 0 ≤ (k + 1) ∧ (k + 1) ≤ (n) from ⟨by omega, by omega⟩) (show 0 ≤ (gr) ∧ (gr) ≤ 300 from ⟨by omega, by omega⟩) hT hE k0gP k0gX k0gL k0gZ k0gQ k0gB k0gK k0gN k0gW (Or.inr (Or.inr (Or.inr (Or.inl rfl))))
            · have c254 : ¬ (¬ (x251 = (0 : Int))) := hc
              clear hc
              refine J.run 9 rfl ⟨(show 0 ≤ n ∧ n < 16 from ⟨by omega, by omega⟩), (show 0 ≤ k ∧ k < 16 from ⟨by omega, by omega⟩)⟩ ?_
              try dsimp only
              refine J.inv rfl rfl rfl rfl rfl rfl jDr rfl rfl rfl rfl rfl (g_isAbove (above := H.2.2.1 72 0 (n)) (b := H.2.2.1 72 0 (k)) hT k0gP (show -2147483648 ≤ (H.2.2.1 72 0 (n)) ∧ (H.2.2.1 72 0 (n)) ≤ 2147483647 from ⟨by omega, by omega⟩) (show -1 ≤ (H.2.2.1 72 0 (k)) ∧ (H.2.2.1 72 0 (k)) < 300 from ⟨by omega, by omega⟩)) ?_
              rintro v w H ⟨rfl, rfl, x255, rfl, r256⟩
              have r256' : 0 ≤ x255 ∧ x255 ≤ 1 := r256
              try dsimp only [Option.toList, List.append, List.cons_append, List.nil_append]
              refine J.ifc rfl rfl rfl (show -2147483648 ≤ x255 ∧ x255 ≤ 2147483647 from ⟨by omega, by omega⟩) (fun hc => ?_) (fun hc => ?_)
              · have c257 : ¬ (x255 = (0 : Int)) := hc
                clear hc
                refine J.run0 2 rfl ?_
                try dsimp only
                exact ih.2.2 (pairs) (gr) (apart) (n) (k + 1) H _ (show 100 * (16 - (n)) - 2 - (k + 1) < _ by omega) (show 0 ≤ (n) ∧ (n) < 16 from ⟨by omega, by omega⟩) (show 0 ≤ (k + 1) ∧ (k + 1) ≤ (n) from ⟨by omega, by omega⟩) (show 0 ≤ (gr) ∧ (gr) ≤ 300 from ⟨by omega, by omega⟩) hT hE k0gP k0gX k0gL k0gZ k0gQ k0gB k0gK k0gN k0gW (Or.inr (Or.inr (Or.inr (Or.inl rfl))))
              · have c258 : ¬ (¬ (x255 = (0 : Int))) := hc
                clear hc
                refine J.run0 3 rfl ?_
                try dsimp only
                exact ih.2.2 (pairs + 1) (gr) (apart) (n) (k + 1) H _ (show 100 * (16 - (n)) - 2 - (k + 1) < _ by omega) (show 0 ≤ (n) ∧ (n) < 16 from ⟨by omega, by omega⟩) (show 0 ≤ (k + 1) ∧ (k + 1) ≤ (n) from ⟨by omega, by omega⟩) (show 0 ≤ (gr) ∧ (gr) ≤ 300 from ⟨by omega, by omega⟩) hT hE k0gP k0gX k0gL k0gZ k0gQ k0gB k0gK k0gN k0gW (Or.inr (Or.inr (Or.inr (Or.inr (Or.inr (Or.inr (Or.inr (Or.inl rfl))))))))
      · skip
        refine J.run0 2 rfl ?_
        try dsimp only
        refine J.icmp rfl rfl rfl ⟨(show -2147483648 ≤ k ∧ k ≤ 2147483647 from ⟨by omega, by omega⟩), (show -2147483648 ≤ n ∧ n ≤ 2147483647 from ⟨by omega, by omega⟩)⟩ (fun hc => ?_) (fun hc => ?_)
        · have c259 : n ≤ k := hc
          clear hc
          refine J.run0 2 rfl ?_
          try dsimp only
          exact ih.1 (pairs) (gr) (apart) (n + 1) H _ (show 100 * (16 - (n + 1)) < _ by omega) (show 0 ≤ (n + 1) ∧ (n + 1) ≤ 16 from ⟨by omega, by omega⟩) (show 0 ≤ (gr) ∧ (gr) ≤ 300 from ⟨by omega, by omega⟩) hT hE k0gP k0gX k0gL k0gZ k0gQ k0gB k0gK k0gN k0gW (Or.inr (Or.inr (Or.inr (Or.inl ⟨_, rfl⟩))))
        · have c260 : ¬ (n ≤ k) := hc
          clear hc
          have f261 : 0 ≤ H.2.2.1 79 0 (k) ∧ H.2.2.1 79 0 (k) ≤ 1 := hT.1 79 (k)
          refine J.run 4 rfl (show 0 ≤ k ∧ k < 16 from ⟨by omega, by omega⟩) ?_
          try dsimp only
          refine J.ifc rfl rfl rfl (show -2147483648 ≤ H.2.2.1 79 0 (k) ∧ H.2.2.1 79 0 (k) ≤ 2147483647 from ⟨by omega, by omega⟩) (fun hc => ?_) (fun hc => ?_)
          · have c262 : ¬ (H.2.2.1 79 0 (k) = (0 : Int)) := hc
            clear hc
            refine J.run0 2 rfl ?_
            try dsimp only
            exact ih.2.2 (pairs) (gr) (apart) (n) (k + 1) H _ (show 100 * (16 - (n)) - 2 - (k + 1) < _ by omega) (show 0 ≤ (n) ∧ (n) < 16 from ⟨by omega, by omega⟩) (show 0 ≤ (k + 1) ∧ (k + 1) ≤ (n) from ⟨by omega, by omega⟩) (show 0 ≤ (gr) ∧ (gr) ≤ 300 from ⟨by omega, by omega⟩) hT hE k0gP k0gX k0gL k0gZ k0gQ k0gB k0gK k0gN k0gW (Or.inr (Or.inr (Or.inr (Or.inr (Or.inl rfl)))))
          · have c263 : ¬ (¬ (H.2.2.1 79 0 (k) = (0 : Int))) := hc
            clear hc
            have f264 : 0 ≤ H.2.2.1 72 0 (k) ∧ H.2.2.1 72 0 (k) ≤ 299 := hT.1 72 (k)
            have f265 : 1 ≤ H.1 11 12 0 ∧ H.1 11 12 0 ≤ 300 := hT.2.1 12
            have f264b : H.2.2.1 72 0 (k) < H.1 11 12 0 := hT.2.2.1 72 (k) rfl
            have g266 : n = k → H.2.2.1 72 0 (n) = H.2.2.1 72 0 (k) := fun z => by rw [z]
            have f267 : 0 ≤ H.2.2.1 72 0 (n) ∧ H.2.2.1 72 0 (n) ≤ 299 := hT.1 72 (n)
            have f267b : H.2.2.1 72 0 (n) < H.1 11 12 0 := hT.2.2.1 72 (n) rfl
            refine J.run 9 rfl ⟨(show 0 ≤ k ∧ k < 16 from ⟨by omega, by omega⟩), (show 0 ≤ n ∧ n < 16 from ⟨by omega, by omega⟩)⟩ ?_
            try dsimp only
            refine J.inv rfl rfl rfl rfl rfl rfl jDr rfl rfl rfl rfl rfl (g_isAbove (above := H.2.2.1 72 0 (k)) (b := H.2.2.1 72 0 (n)) hT k0gP (show -2147483648 ≤ (H.2.2.1 72 0 (k)) ∧ (H.2.2.1 72 0 (k)) ≤ 2147483647 from ⟨by omega, by omega⟩) (show -1 ≤ (H.2.2.1 72 0 (n)) ∧ (H.2.2.1 72 0 (n)) < 300 from ⟨by omega, by omega⟩)) ?_
            rintro v w H ⟨rfl, rfl, x268, rfl, r269⟩
            have r269' : 0 ≤ x268 ∧ x268 ≤ 1 := r269
            try dsimp only [Option.toList, List.append, List.cons_append, List.nil_append]
            refine J.ifc rfl rfl rfl (show -2147483648 ≤ x268 ∧ x268 ≤ 2147483647 from ⟨by omega, by omega⟩) (fun hc => ?_) (fun hc => ?_)
            · have c270 : ¬ (x268 = (0 : Int)) := hc
              clear hc
              refine J.run0 2 rfl ?_
              try dsimp only
              exact ih.2.2 (pairs) (gr) (apart) (n) (k + 1) H _ (show 100 * (16 - (n)) - 2 - (k + 1) < _ by omega) (show 0 ≤ (n) ∧ (n) < 16 from ⟨by omega, by omega⟩) (show 0 ≤ (k + 1) ∧ (k + 1) ≤ (n) from ⟨by omega, by omega⟩) (show 0 ≤ (gr) ∧ (gr) ≤ 300 from ⟨by omega, by omega⟩) hT hE k0gP k0gX k0gL k0gZ k0gQ k0gB k0gK k0gN k0gW (Or.inr (Or.inr (Or.inr (Or.inr (Or.inl rfl)))))
            · have c271 : ¬ (¬ (x268 = (0 : Int))) := hc
              clear hc
              refine J.run 9 rfl ⟨(show 0 ≤ n ∧ n < 16 from ⟨by omega, by omega⟩), (show 0 ≤ k ∧ k < 16 from ⟨by omega, by omega⟩)⟩ ?_
              try dsimp only
              refine J.inv rfl rfl rfl rfl rfl rfl jDr rfl rfl rfl rfl rfl (g_isAbove (above := H.2.2.1 72 0 (n)) (b := H.2.2.1 72 0 (k)) hT k0gP (show -2147483648 ≤ (H.2.2.1 72 0 (n)) ∧ (H.2.2.1 72 0 (n)) ≤ 2147483647 from ⟨by omega, by omega⟩) (show -1 ≤ (H.2.2.1 72 0 (k)) ∧ (H.2.2.1 72 0 (k)) < 300 from ⟨by omega, by omega⟩)) ?_
              rintro v w H ⟨rfl, rfl, x272, rfl, r273⟩
              have r273' : 0 ≤ x272 ∧ x272 ≤ 1 := r273
              try dsimp only [Option.toList, List.append, List.cons_append, List.nil_append]
              refine J.ifc rfl rfl rfl (show -2147483648 ≤ x272 ∧ x272 ≤ 2147483647 from ⟨by omega, by omega⟩) (fun hc => ?_) (fun hc => ?_)
              · have c274 : ¬ (x272 = (0 : Int)) := hc
                clear hc
                refine J.run0 2 rfl ?_
                try dsimp only
                exact ih.2.2 (pairs) (gr) (apart) (n) (k + 1) H _ (show 100 * (16 - (n)) - 2 - (k + 1) < _ by omega) (show 0 ≤ (n) ∧ (n) < 16 from ⟨by omega, by omega⟩) (show 0 ≤ (k + 1) ∧ (k + 1) ≤ (n) from ⟨by omega, by omega⟩) (show 0 ≤ (gr) ∧ (gr) ≤ 300 from ⟨by omega, by omega⟩) hT hE k0gP k0gX k0gL k0gZ k0gQ k0gB k0gK k0gN k0gW (Or.inr (Or.inr (Or.inr (Or.inr (Or.inl rfl)))))
              · have c275 : ¬ (¬ (x272 = (0 : Int))) := hc
                clear hc
                refine J.run0 3 rfl ?_
                try dsimp only
                exact ih.2.2 (pairs + 1) (gr) (apart) (n) (k + 1) H _ (show 100 * (16 - (n)) - 2 - (k + 1) < _ by omega) (show 0 ≤ (n) ∧ (n) < 16 from ⟨by omega, by omega⟩) (show 0 ≤ (k + 1) ∧ (k + 1) ≤ (n) from ⟨by omega, by omega⟩) (show 0 ≤ (gr) ∧ (gr) ≤ 300 from ⟨by omega, by omega⟩) hT hE k0gP k0gX k0gL k0gZ k0gQ k0gB k0gK k0gN k0gW (Or.inr (Or.inr (Or.inr (Or.inr (Or.inl rfl)))))
      · skip
        refine J.run0 2 rfl ?_
        try dsimp only
        refine J.icmp rfl rfl rfl ⟨(show -2147483648 ≤ k ∧ k ≤ 2147483647 from ⟨by omega, by omega⟩), (show -2147483648 ≤ n ∧ n ≤ 2147483647 from ⟨by omega, by omega⟩)⟩ (fun hc => ?_) (fun hc => ?_)
        · have c276 : n ≤ k := hc
          clear hc
          refine J.run0 2 rfl ?_
          try dsimp only
          exact ih.1 (pairs) (gr) (apart) (n + 1) H _ (show 100 * (16 - (n + 1)) < _ by omega) (show 0 ≤ (n + 1) ∧ (n + 1) ≤ 16 from ⟨by omega, by omega⟩) (show 0 ≤ (gr) ∧ (gr) ≤ 300 from ⟨by omega, by omega⟩) hT hE k0gP k0gX k0gL k0gZ k0gQ k0gB k0gK k0gN k0gW (Or.inr (Or.inr (Or.inr (Or.inr (Or.inl ⟨_, rfl⟩)))))
        · have c277 : ¬ (n ≤ k) := hc
          clear hc
          have f278 : 0 ≤ H.2.2.1 79 0 (k) ∧ H.2.2.1 79 0 (k) ≤ 1 := hT.1 79 (k)
          refine J.run 4 rfl (show 0 ≤ k ∧ k < 16 from ⟨by omega, by omega⟩) ?_
          try dsimp only
          refine J.ifc rfl rfl rfl (show -2147483648 ≤ H.2.2.1 79 0 (k) ∧ H.2.2.1 79 0 (k) ≤ 2147483647 from ⟨by omega, by omega⟩) (fun hc => ?_) (fun hc => ?_)
          · have c279 : ¬ (H.2.2.1 79 0 (k) = (0 : Int)) := hc
            clear hc
            refine J.run0 2 rfl ?_
            try dsimp only
            exact ih.2.2 (pairs) (gr) (apart) (n) (k + 1) H _ (show 100 * (16 - (n)) - 2 - (k + 1) < _ by omega) (show 0 ≤ (n) ∧ (n) < 16 from ⟨by omega, by omega⟩) (show 0 ≤ (k + 1) ∧ (k + 1) ≤ (n) from ⟨by omega, by omega⟩) (show 0 ≤ (gr) ∧ (gr) ≤ 300 from ⟨by omega, by omega⟩) hT hE k0gP k0gX k0gL k0gZ k0gQ k0gB k0gK k0gN k0gW (Or.inr (Or.inr (Or.inr (Or.inr (Or.inr (Or.inl rfl))))))
          · have c280 : ¬ (¬ (H.2.2.1 79 0 (k) = (0 : Int))) := hc
            clear hc
            have f281 : 0 ≤ H.2.2.1 72 0 (k) ∧ H.2.2.1 72 0 (k) ≤ 299 := hT.1 72 (k)
            have f282 : 1 ≤ H.1 11 12 0 ∧ H.1 11 12 0 ≤ 300 := hT.2.1 12
            have f281b : H.2.2.1 72 0 (k) < H.1 11 12 0 := hT.2.2.1 72 (k) rfl
            have g283 : n = k → H.2.2.1 72 0 (n) = H.2.2.1 72 0 (k) := fun z => by rw [z]
            have f284 : 0 ≤ H.2.2.1 72 0 (n) ∧ H.2.2.1 72 0 (n) ≤ 299 := hT.1 72 (n)
            have f284b : H.2.2.1 72 0 (n) < H.1 11 12 0 := hT.2.2.1 72 (n) rfl
            refine J.run 9 rfl ⟨(show 0 ≤ k ∧ k < 16 from ⟨by omega, by omega⟩), (show 0 ≤ n ∧ n < 16 from ⟨by omega, by omega⟩)⟩ ?_
            try dsimp only
            refine J.inv rfl rfl rfl rfl rfl rfl jDr rfl rfl rfl rfl rfl (g_isAbove (above := H.2.2.1 72 0 (k)) (b := H.2.2.1 72 0 (n)) hT k0gP (show -2147483648 ≤ (H.2.2.1 72 0 (k)) ∧ (H.2.2.1 72 0 (k)) ≤ 2147483647 from ⟨by omega, by omega⟩) (show -1 ≤ (H.2.2.1 72 0 (n)) ∧ (H.2.2.1 72 0 (n)) < 300 from ⟨by omega, by omega⟩)) ?_
            rintro v w H ⟨rfl, rfl, x285, rfl, r286⟩
            have r286' : 0 ≤ x285 ∧ x285 ≤ 1 := r286
            try dsimp only [Option.toList, List.append, List.cons_append, List.nil_append]
            refine J.ifc rfl rfl rfl (show -2147483648 ≤ x285 ∧ x285 ≤ 2147483647 from ⟨by omega, by omega⟩) (fun hc => ?_) (fun hc => ?_)
            · have c287 : ¬ (x285 = (0 : Int)) := hc
              clear hc
              refine J.run0 2 rfl ?_
              try dsimp only
              exact ih.2.2 (pairs) (gr) (apart) (n) (k + 1) H _ (show 100 * (16 - (n)) - 2 - (k + 1) < _ by omega) (show 0 ≤ (n) ∧ (n) < 16 from ⟨by omega, by omega⟩) (show 0 ≤ (k + 1) ∧ (k + 1) ≤ (n) from ⟨by omega, by omega⟩) (show 0 ≤ (gr) ∧ (gr) ≤ 300 from ⟨by omega, by omega⟩) hT hE k0gP k0gX k0gL k0gZ k0gQ k0gB k0gK k0gN k0gW (Or.inr (Or.inr (Or.inr (Or.inr (Or.inr (Or.inl rfl))))))
            · have c288 : ¬ (¬ (x285 = (0 : Int))) := hc
              clear hc
              refine J.run 9 rfl ⟨(show 0 ≤ n ∧ n < 16 from ⟨by omega, by omega⟩), (show 0 ≤ k ∧ k < 16 from ⟨by omega, by omega⟩)⟩ ?_
              try dsimp only
              refine J.inv rfl rfl rfl rfl rfl rfl jDr rfl rfl rfl rfl rfl (g_isAbove (above := H.2.2.1 72 0 (n)) (b := H.2.2.1 72 0 (k)) hT k0gP (show -2147483648 ≤ (H.2.2.1 72 0 (n)) ∧ (H.2.2.1 72 0 (n)) ≤ 2147483647 from ⟨by omega, by omega⟩) (show -1 ≤ (H.2.2.1 72 0 (k)) ∧ (H.2.2.1 72 0 (k)) < 300 from ⟨by omega, by omega⟩)) ?_
              rintro v w H ⟨rfl, rfl, x289, rfl, r290⟩
              have r290' : 0 ≤ x289 ∧ x289 ≤ 1 := r290
              try dsimp only [Option.toList, List.append, List.cons_append, List.nil_append]
              refine J.ifc rfl rfl rfl (show -2147483648 ≤ x289 ∧ x289 ≤ 2147483647 from ⟨by omega, by omega⟩) (fun hc => ?_) (fun hc => ?_)
              · have c291 : ¬ (x289 = (0 : Int)) := hc
                clear hc
                refine J.run0 2 rfl ?_
                try dsimp only
                exact ih.2.2 (pairs) (gr) (apart) (n) (k + 1) H _ (show 100 * (16 - (n)) - 2 - (k + 1) < _ by omega) (show 0 ≤ (n) ∧ (n) < 16 from ⟨by omega, by omega⟩) (show 0 ≤ (k + 1) ∧ (k + 1) ≤ (n) from ⟨by omega, by omega⟩) (show 0 ≤ (gr) ∧ (gr) ≤ 300 from ⟨by omega, by omega⟩) hT hE k0gP k0gX k0gL k0gZ k0gQ k0gB k0gK k0gN k0gW (Or.inr (Or.inr (Or.inr (Or.inr (Or.inr (Or.inl rfl))))))
              · have c292 : ¬ (¬ (x289 = (0 : Int))) := hc
                clear hc
                refine J.run0 3 rfl ?_
                try dsimp only
                exact ih.2.2 (pairs + 1) (gr) (apart) (n) (k + 1) H _ (show 100 * (16 - (n)) - 2 - (k + 1) < _ by omega) (show 0 ≤ (n) ∧ (n) < 16 from ⟨by omega, by omega⟩) (show 0 ≤ (k + 1) ∧ (k + 1) ≤ (n) from ⟨by omega, by omega⟩) (show 0 ≤ (gr) ∧ (gr) ≤ 300 from ⟨by omega, by omega⟩) hT hE k0gP k0gX k0gL k0gZ k0gQ k0gB k0gK k0gN k0gW (Or.inr (Or.inr (Or.inr (Or.inr (Or.inr (Or.inl rfl))))))
      · skip
        refine J.run0 2 rfl ?_
        try dsimp only
        refine J.icmp rfl rfl rfl ⟨(show -2147483648 ≤ k ∧ k ≤ 2147483647 from ⟨by omega, by omega⟩), (show -2147483648 ≤ n ∧ n ≤ 2147483647 from ⟨by omega, by omega⟩)⟩ (fun hc => ?_) (fun hc => ?_)
        · have c293 : n ≤ k := hc
          clear hc
          refine J.run0 2 rfl ?_
          try dsimp only
          exact ih.1 (pairs) (gr) (apart) (n + 1) H _ (show 100 * (16 - (n + 1)) < _ by omega) (show 0 ≤ (n + 1) ∧ (n + 1) ≤ 16 from ⟨by omega, by omega⟩) (show 0 ≤ (gr) ∧ (gr) ≤ 300 from ⟨by omega, by omega⟩) hT hE k0gP k0gX k0gL k0gZ k0gQ k0gB k0gK k0gN k0gW (Or.inr (Or.inr (Or.inr (Or.inl ⟨_, rfl⟩))))
        · have c294 : ¬ (n ≤ k) := hc
          clear hc
          have f295 : 0 ≤ H.2.2.1 79 0 (k) ∧ H.2.2.1 79 0 (k) ≤ 1 := hT.1 79 (k)
          refine J.run 4 rfl (show 0 ≤ k ∧ k < 16 from ⟨by omega, by omega⟩) ?_
          try dsimp only
          refine J.ifc rfl rfl rfl (show -2147483648 ≤ H.2.2.1 79 0 (k) ∧ H.2.2.1 79 0 (k) ≤ 2147483647 from ⟨by omega, by omega⟩) (fun hc => ?_) (fun hc => ?_)
          · have c296 : ¬ (H.2.2.1 79 0 (k) = (0 : Int)) := hc
            clear hc
            refine J.run0 2 rfl ?_
            try dsimp only
            exact ih.2.2 (pairs) (gr) (apart) (n) (k + 1) H _ (show 100 * (16 - (n)) - 2 - (k + 1) < _ by omega) (show 0 ≤ (n) ∧ (n) < 16 from ⟨by omega, by omega⟩) (show 0 ≤ (k + 1) ∧ (k + 1) ≤ (n) from ⟨by omega, by omega⟩) (show 0 ≤ (gr) ∧ (gr) ≤ 300 from ⟨by omega, by omega⟩) hT hE k0gP k0gX k0gL k0gZ k0gQ k0gB k0gK k0gN k0gW (Or.inr (Or.inr (Or.inr (Or.inr (Or.inr (Or.inr (Or.inl rfl)))))))
          · have c297 : ¬ (¬ (H.2.2.1 79 0 (k) = (0 : Int))) := hc
            clear hc
            have f298 : 0 ≤ H.2.2.1 72 0 (k) ∧ H.2.2.1 72 0 (k) ≤ 299 := hT.1 72 (k)
            have f299 : 1 ≤ H.1 11 12 0 ∧ H.1 11 12 0 ≤ 300 := hT.2.1 12
            have f298b : H.2.2.1 72 0 (k) < H.1 11 12 0 := hT.2.2.1 72 (k) rfl
            have g300 : n = k → H.2.2.1 72 0 (n) = H.2.2.1 72 0 (k) := fun z => by rw [z]
            have f301 : 0 ≤ H.2.2.1 72 0 (n) ∧ H.2.2.1 72 0 (n) ≤ 299 := hT.1 72 (n)
            have f301b : H.2.2.1 72 0 (n) < H.1 11 12 0 := hT.2.2.1 72 (n) rfl
            refine J.run 9 rfl ⟨(show 0 ≤ k ∧ k < 16 from ⟨by omega, by omega⟩), (show 0 ≤ n ∧ n < 16 from ⟨by omega, by omega⟩)⟩ ?_
            try dsimp only
            refine J.inv rfl rfl rfl rfl rfl rfl jDr rfl rfl rfl rfl rfl (g_isAbove (above := H.2.2.1 72 0 (k)) (b := H.2.2.1 72 0 (n)) hT k0gP (show -2147483648 ≤ (H.2.2.1 72 0 (k)) ∧ (H.2.2.1 72 0 (k)) ≤ 2147483647 from ⟨by omega, by omega⟩) (show -1 ≤ (H.2.2.1 72 0 (n)) ∧ (H.2.2.1 72 0 (n)) < 300 from ⟨by omega, by omega⟩)) ?_
            rintro v w H ⟨rfl, rfl, x302, rfl, r303⟩
            have r303' : 0 ≤ x302 ∧ x302 ≤ 1 := r303
            try dsimp only [Option.toList, List.append, List.cons_append, List.nil_append]
            refine J.ifc rfl rfl rfl (show -2147483648 ≤ x302 ∧ x302 ≤ 2147483647 from ⟨by omega, by omega⟩) (fun hc => ?_) (fun hc => ?_)
            · have c304 : ¬ (x302 = (0 : Int)) := hc
              clear hc
              refine J.run0 2 rfl ?_
              try dsimp only
              exact ih.2.2 (pairs) (gr) (apart) (n) (k + 1) H _ (show 100 * (16 - (n)) - 2 - (k + 1) < _ by omega) (show 0 ≤ (n) ∧ (n) < 16 from ⟨by omega, by omega⟩) (show 0 ≤ (k + 1) ∧ (k + 1) ≤ (n) from ⟨by omega, by omega⟩) (show 0 ≤ (gr) ∧ (gr) ≤ 300 from ⟨by omega, by omega⟩) hT hE k0gP k0gX k0gL k0gZ k0gQ k0gB k0gK k0gN k0gW (Or.inr (Or.inr (Or.inr (Or.inr (Or.inr (Or.inr (Or.inl rfl)))))))
            · have c305 : ¬ (¬ (x302 = (0 : Int))) := hc
              clear hc
              refine J.run 9 rfl ⟨(show 0 ≤ n ∧ n < 16 from ⟨by omega, by omega⟩), (show 0 ≤ k ∧ k < 16 from ⟨by omega, by omega⟩)⟩ ?_
              try dsimp only
              refine J.inv rfl rfl rfl rfl rfl rfl jDr rfl rfl rfl rfl rfl (g_isAbove (above := H.2.2.1 72 0 (n)) (b := H.2.2.1 72 0 (k)) hT k0gP (show -2147483648 ≤ (H.2.2.1 72 0 (n)) ∧ (H.2.2.1 72 0 (n)) ≤ 2147483647 from ⟨by omega, by omega⟩) (show -1 ≤ (H.2.2.1 72 0 (k)) ∧ (H.2.2.1 72 0 (k)) < 300 from ⟨by omega, by omega⟩)) ?_
              rintro v w H ⟨rfl, rfl, x306, rfl, r307⟩
              have r307' : 0 ≤ x306 ∧ x306 ≤ 1 := r307
              try dsimp only [Option.toList, List.append, List.cons_append, List.nil_append]
              refine J.ifc rfl rfl rfl (show -2147483648 ≤ x306 ∧ x306 ≤ 2147483647 from ⟨by omega, by omega⟩) (fun hc => ?_) (fun hc => ?_)
              · have c308 : ¬ (x306 = (0 : Int)) := hc
                clear hc
                refine J.run0 2 rfl ?_
                try dsimp only
                exact ih.2.2 (pairs) (gr) (apart) (n) (k + 1) H _ (show 100 * (16 - (n)) - 2 - (k + 1) < _ by omega) (show 0 ≤ (n) ∧ (n) < 16 from ⟨by omega, by omega⟩) (show 0 ≤ (k + 1) ∧ (k + 1) ≤ (n) from ⟨by omega, by omega⟩) (show 0 ≤ (gr) ∧ (gr) ≤ 300 from ⟨by omega, by omega⟩) hT hE k0gP k0gX k0gL k0gZ k0gQ k0gB k0gK k0gN k0gW (Or.inr (Or.inr (Or.inr (Or.inr (Or.inr (Or.inr (Or.inl rfl)))))))
              · have c309 : ¬ (¬ (x306 = (0 : Int))) := hc
                clear hc
                refine J.run0 3 rfl ?_
                try dsimp only
                exact ih.2.2 (pairs + 1) (gr) (apart) (n) (k + 1) H _ (show 100 * (16 - (n)) - 2 - (k + 1) < _ by omega) (show 0 ≤ (n) ∧ (n) < 16 from ⟨by omega, by omega⟩) (show 0 ≤ (k + 1) ∧ (k + 1) ≤ (n) from ⟨by omega, by omega⟩) (show 0 ≤ (gr) ∧ (gr) ≤ 300 from ⟨by omega, by omega⟩) hT hE k0gP k0gX k0gL k0gZ k0gQ k0gB k0gK k0gN k0gW (Or.inr (Or.inr (Or.inr (Or.inr (Or.inr (Or.inr (Or.inl rfl)))))))
      · skip
        refine J.run0 2 rfl ?_
        try dsimp only
        refine J.icmp rfl rfl rfl ⟨(show -2147483648 ≤ k ∧ k ≤ 2147483647 from ⟨by omega, by omega⟩), (show -2147483648 ≤ n ∧ n ≤ 2147483647 from ⟨by omega, by omega⟩)⟩ (fun hc => ?_) (fun hc => ?_)
        · have c310 : n ≤ k := hc
          clear hc
          refine J.run0 2 rfl ?_
          try dsimp only
          exact ih.1 (pairs) (gr) (apart) (n + 1) H _ (show 100 * (16 - (n + 1)) < _ by omega) (show 0 ≤ (n + 1) ∧ (n + 1) ≤ 16 from ⟨by omega, by omega⟩) (show 0 ≤ (gr) ∧ (gr) ≤ 300 from ⟨by omega, by omega⟩) hT hE k0gP k0gX k0gL k0gZ k0gQ k0gB k0gK k0gN k0gW (Or.inr (Or.inr (Or.inr (Or.inr (Or.inl ⟨_, rfl⟩)))))
        · have c311 : ¬ (n ≤ k) := hc
          clear hc
          have f312 : 0 ≤ H.2.2.1 79 0 (k) ∧ H.2.2.1 79 0 (k) ≤ 1 := hT.1 79 (k)
          refine J.run 4 rfl (show 0 ≤ k ∧ k < 16 from ⟨by omega, by omega⟩) ?_
          try dsimp only
          refine J.ifc rfl rfl rfl (show -2147483648 ≤ H.2.2.1 79 0 (k) ∧ H.2.2.1 79 0 (k) ≤ 2147483647 from ⟨by omega, by omega⟩) (fun hc => ?_) (fun hc => ?_)
          · have c313 : ¬ (H.2.2.1 79 0 (k) = (0 : Int)) := hc
            clear hc
            refine J.run0 2 rfl ?_
            try dsimp only
            exact ih.2.2 (pairs) (gr) (apart) (n) (k + 1) H _ (show 100 * (16 - (n)) - 2 - (k + 1) < _ by omega) (show 0 ≤ (n) ∧ (n) < 16 from ⟨by omega, by omega⟩) (show 0 ≤ (k + 1) ∧ (k + 1) ≤ (n) from ⟨by omega, by omega⟩) (show 0 ≤ (gr) ∧ (gr) ≤ 300 from ⟨by omega, by omega⟩) hT hE k0gP k0gX k0gL k0gZ k0gQ k0gB k0gK k0gN k0gW (Or.inr (Or.inr (Or.inr (Or.inr (Or.inr (Or.inr (Or.inr (Or.inl rfl))))))))
          · have c314 : ¬ (¬ (H.2.2.1 79 0 (k) = (0 : Int))) := hc
            clear hc
            have f315 : 0 ≤ H.2.2.1 72 0 (k) ∧ H.2.2.1 72 0 (k) ≤ 299 := hT.1 72 (k)
            have f316 : 1 ≤ H.1 11 12 0 ∧ H.1 11 12 0 ≤ 300 := hT.2.1 12
            have f315b : H.2.2.1 72 0 (k) < H.1 11 12 0 := hT.2.2.1 72 (k) rfl
            have g317 : n = k → H.2.2.1 72 0 (n) = H.2.2.1 72 0 (k) := fun z => by rw [z]
            have f318 : 0 ≤ H.2.2.1 72 0 (n) ∧ H.2.2.1 72 0 (n) ≤ 299 := hT.1 72 (n)
            have f318b : H.2.2.1 72 0 (n) < H.1 11 12 0 := hT.2.2.1 72 (n) rfl
            refine J.run 9 rfl ⟨(show 0 ≤ k ∧ k < 16 from ⟨by omega, by omega⟩), (show 0 ≤ n ∧ n < 16 from ⟨by omega, by omega⟩)⟩ ?_
            try dsimp only
            refine J.inv rfl rfl rfl rfl rfl rfl jDr rfl rfl rfl rfl rfl (g_isAbove (above := H.2.2.1 72 0 (k)) (b := H.2.2.1 72 0 (n)) hT k0gP (show -2147483648 ≤ (H.2.2.1 72 0 (k)) ∧ (H.2.2.1 72 0 (k)) ≤ 2147483647 from ⟨by omega, by omega⟩) (show -1 ≤ (H.2.2.1 72 0 (n)) ∧ (H.2.2.1 72 0 (n)) < 300 from ⟨by omega, by omega⟩)) ?_
            rintro v w H ⟨rfl, rfl, x319, rfl, r320⟩
            have r320' : 0 ≤ x319 ∧ x319 ≤ 1 := r320
            try dsimp only [Option.toList, List.append, List.cons_append, List.nil_append]
            refine J.ifc rfl rfl rfl (show -2147483648 ≤ x319 ∧ x319 ≤ 2147483647 from ⟨by omega, by omega⟩) (fun hc => ?_) (fun hc => ?_)
            · have c321 : ¬ (x319 = (0 : Int)) := hc
              clear hc
              refine J.run0 2 rfl ?_
              try dsimp only
              exact ih.2.2 (pairs) (gr) (apart) (n) (k + 1) H _ (show 100 * (16 - (n)) - 2 - (k + 1) < _ by omega) (show 0 ≤ (n) ∧ (n) < 16 from ⟨by omega, by omega⟩) (show 0 ≤ (k + 1) ∧ (k + 1) ≤ (n) from ⟨by omega, by omega⟩) (show 0 ≤ (gr) ∧ (gr) ≤ 300 from ⟨by omega, by omega⟩) hT hE k0gP k0gX k0gL k0gZ k0gQ k0gB k0gK k0gN k0gW (Or.inr (Or.inr (Or.inr (Or.inr (Or.inr (Or.inr (Or.inr (Or.inl rfl))))))))
            · have c322 : ¬ (¬ (x319 = (0 : Int))) := hc
              clear hc
              refine J.run 9 rfl ⟨(show 0 ≤ n ∧ n < 16 from ⟨by omega, by omega⟩), (show 0 ≤ k ∧ k < 16 from ⟨by omega, by omega⟩)⟩ ?_
              try dsimp only
              refine J.inv rfl rfl rfl rfl rfl rfl jDr rfl rfl rfl rfl rfl (g_isAbove (above := H.2.2.1 72 0 (n)) (b := H.2.2.1 72 0 (k)) hT k0gP (show -2147483648 ≤ (H.2.2.1 72 0 (n)) ∧ (H.2.2.1 72 0 (n)) ≤ 2147483647 from ⟨by omega, by omega⟩) (show -1 ≤ (H.2.2.1 72 0 (k)) ∧ (H.2.2.1 72 0 (k)) < 300 from ⟨by omega, by omega⟩)) ?_
              rintro v w H ⟨rfl, rfl, x323, rfl, r324⟩
              have r324' : 0 ≤ x323 ∧ x323 ≤ 1 := r324
              try dsimp only [Option.toList, List.append, List.cons_append, List.nil_append]
              refine J.ifc rfl rfl rfl (show -2147483648 ≤ x323 ∧ x323 ≤ 2147483647 from ⟨by omega, by omega⟩) (fun hc => ?_) (fun hc => ?_)
              · have c325 : ¬ (x323 = (0 : Int)) := hc
                clear hc
                refine J.run0 2 rfl ?_
                try dsimp only
                exact ih.2.2 (pairs) (gr) (apart) (n) (k + 1) H _ (show 100 * (16 - (n)) - 2 - (k + 1) < _ by omega) (show 0 ≤ (n) ∧ (n) < 16 from ⟨by omega, by omega⟩) (show 0 ≤ (k + 1) ∧ (k + 1) ≤ (n) from ⟨by omega, by omega⟩) (show 0 ≤ (gr) ∧ (gr) ≤ 300 from ⟨by omega, by omega⟩) hT hE k0gP k0gX k0gL k0gZ k0gQ k0gB k0gK k0gN k0gW (Or.inr (Or.inr (Or.inr (Or.inr (Or.inr (Or.inr (Or.inr (Or.inl rfl))))))))
              · have c326 : ¬ (¬ (x323 = (0 : Int))) := hc
                clear hc
                refine J.run0 3 rfl ?_
                try dsimp only
                exact ih.2.2 (pairs + 1) (gr) (apart) (n) (k + 1) H _ (show 100 * (16 - (n)) - 2 - (k + 1) < _ by omega) (show 0 ≤ (n) ∧ (n) < 16 from ⟨by omega, by omega⟩) (show 0 ≤ (k + 1) ∧ (k + 1) ≤ (n) from ⟨by omega, by omega⟩) (show 0 ≤ (gr) ∧ (gr) ≤ 300 from ⟨by omega, by omega⟩) hT hE k0gP k0gX k0gL k0gZ k0gQ k0gB k0gK k0gN k0gW (Or.inr (Or.inr (Or.inr (Or.inr (Or.inr (Or.inr (Or.inr (Or.inl rfl))))))))
      · skip
        refine J.run0 2 rfl ?_
        try dsimp only
        refine J.icmp rfl rfl rfl ⟨(show -2147483648 ≤ k ∧ k ≤ 2147483647 from ⟨by omega, by omega⟩), (show -2147483648 ≤ n ∧ n ≤ 2147483647 from ⟨by omega, by omega⟩)⟩ (fun hc => ?_) (fun hc => ?_)
        · have c327 : n ≤ k := hc
          clear hc
          refine J.run0 2 rfl ?_
          try dsimp only
          exact ih.1 (pairs) (gr) (apart) (n + 1) H _ (show 100 * (16 - (n + 1)) < _ by omega) (show 0 ≤ (n + 1) ∧ (n + 1) ≤ 16 from ⟨by omega, by omega⟩) (show 0 ≤ (gr) ∧ (gr) ≤ 300 from ⟨by omega, by omega⟩) hT hE k0gP k0gX k0gL k0gZ k0gQ k0gB k0gK k0gN k0gW (Or.inr (Or.inr (Or.inl ⟨_, rfl⟩)))
        · have c328 : ¬ (n ≤ k) := hc
          clear hc
          have f329 : 0 ≤ H.2.2.1 79 0 (k) ∧ H.2.2.1 79 0 (k) ≤ 1 := hT.1 79 (k)
          refine J.run 4 rfl (show 0 ≤ k ∧ k < 16 from ⟨by omega, by omega⟩) ?_
          try dsimp only
          refine J.ifc rfl rfl rfl (show -2147483648 ≤ H.2.2.1 79 0 (k) ∧ H.2.2.1 79 0 (k) ≤ 2147483647 from ⟨by omega, by omega⟩) (fun hc => ?_) (fun hc => ?_)
          · have c330 : ¬ (H.2.2.1 79 0 (k) = (0 : Int)) := hc
            clear hc
            refine J.run0 2 rfl ?_
            try dsimp only
            exact ih.2.2 (pairs) (gr) (apart) (n) (k + 1) H _ (show 100 * (16 - (n)) - 2 - (k + 1) < _ by omega) (show 0 ≤ (n) ∧ (n) < 16 from ⟨by omega, by omega⟩) (show 0 ≤ (k + 1) ∧ (k + 1) ≤ (n) from ⟨by omega, by omega⟩) (show 0 ≤ (gr) ∧ (gr) ≤ 300 from ⟨by omega, by omega⟩) hT hE k0gP k0gX k0gL k0gZ k0gQ k0gB k0gK k0gN k0gW (Or.inr (Or.inr (Or.inr (Or.inr (Or.inr (Or.inr (Or.inr (Or.inr (Or.inl rfl)))))))))
          · have c331 : ¬ (¬ (H.2.2.1 79 0 (k) = (0 : Int))) := hc
            clear hc
            have f332 : 0 ≤ H.2.2.1 72 0 (k) ∧ H.2.2.1 72 0 (k) ≤ 299 := hT.1 72 (k)
            have f333 : 1 ≤ H.1 11 12 0 ∧ H.1 11 12 0 ≤ 300 := hT.2.1 12
            have f332b : H.2.2.1 72 0 (k) < H.1 11 12 0 := hT.2.2.1 72 (k) rfl
            have g334 : n = k → H.2.2.1 72 0 (n) = H.2.2.1 72 0 (k) := fun z => by rw [z]
            have f335 : 0 ≤ H.2.2.1 72 0 (n) ∧ H.2.2.1 72 0 (n) ≤ 299 := hT.1 72 (n)
            have f335b : H.2.2.1 72 0 (n) < H.1 11 12 0 := hT.2.2.1 72 (n) rfl
            refine J.run 9 rfl ⟨(show 0 ≤ k ∧ k < 16 from ⟨by omega, by omega⟩), (show 0 ≤ n ∧ n < 16 from ⟨by omega, by omega⟩)⟩ ?_
            try dsimp only
            refine J.inv rfl rfl rfl rfl rfl rfl jDr rfl rfl rfl rfl rfl (g_isAbove (above := H.2.2.1 72 0 (k)) (b := H.2.2.1 72 0 (n)) hT k0gP (show -2147483648 ≤ (H.2.2.1 72 0 (k)) ∧ (H.2.2.1 72 0 (k)) ≤ 2147483647 from ⟨by omega, by omega⟩) (show -1 ≤ (H.2.2.1 72 0 (n)) ∧ (H.2.2.1 72 0 (n)) < 300 from ⟨by omega, by omega⟩)) ?_
            rintro v w H ⟨rfl, rfl, x336, rfl, r337⟩
            have r337' : 0 ≤ x336 ∧ x336 ≤ 1 := r337
            try dsimp only [Option.toList, List.append, List.cons_append, List.nil_append]
            refine J.ifc rfl rfl rfl (show -2147483648 ≤ x336 ∧ x336 ≤ 2147483647 from ⟨by omega, by omega⟩) (fun hc => ?_) (fun hc => ?_)
            · have c338 : ¬ (x336 = (0 : Int)) := hc
              clear hc
              refine J.run0 2 rfl ?_
              try dsimp only
              exact ih.2.2 (pairs) (gr) (apart) (n) (k + 1) H _ (show 100 * (16 - (n)) - 2 - (k + 1) < _ by omega) (show 0 ≤ (n) ∧ (n) < 16 from ⟨by omega, by omega⟩) (show 0 ≤ (k + 1) ∧ (k + 1) ≤ (n) from ⟨by omega, by omega⟩) (show 0 ≤ (gr) ∧ (gr) ≤ 300 from ⟨by omega, by omega⟩) hT hE k0gP k0gX k0gL k0gZ k0gQ k0gB k0gK k0gN k0gW (Or.inr (Or.inr (Or.inr (Or.inr (Or.inr (Or.inr (Or.inr (Or.inr (Or.inl rfl)))))))))
            · have c339 : ¬ (¬ (x336 = (0 : Int))) := hc
              clear hc
              refine J.run 9 rfl ⟨(show 0 ≤ n ∧ n < 16 from ⟨by omega, by omega⟩), (show 0 ≤ k ∧ k < 16 from ⟨by omega, by omega⟩)⟩ ?_
              try dsimp only
              refine J.inv rfl rfl rfl rfl rfl rfl jDr rfl rfl rfl rfl rfl (g_isAbove (above := H.2.2.1 72 0 (n)) (b := H.2.2.1 72 0 (k)) hT k0gP (show -2147483648 ≤ (H.2.2.1 72 0 (n)) ∧ (H.2.2.1 72 0 (n)) ≤ 2147483647 from ⟨by omega, by omega⟩) (show -1 ≤ (H.2.2.1 72 0 (k)) ∧ (H.2.2.1 72 0 (k)) < 300 from ⟨by omega, by omega⟩)) ?_
              rintro v w H ⟨rfl, rfl, x340, rfl, r341⟩
              have r341' : 0 ≤ x340 ∧ x340 ≤ 1 := r341
              try dsimp only [Option.toList, List.append, List.cons_append, List.nil_append]
              refine J.ifc rfl rfl rfl (show -2147483648 ≤ x340 ∧ x340 ≤ 2147483647 from ⟨by omega, by omega⟩) (fun hc => ?_) (fun hc => ?_)
              · have c342 : ¬ (x340 = (0 : Int)) := hc
                clear hc
                refine J.run0 2 rfl ?_
                try dsimp only
                exact ih.2.2 (pairs) (gr) (apart) (n) (k + 1) H _ (show 100 * (16 - (n)) - 2 - (k + 1) < _ by omega) (show 0 ≤ (n) ∧ (n) < 16 from ⟨by omega, by omega⟩) (show 0 ≤ (k + 1) ∧ (k + 1) ≤ (n) from ⟨by omega, by omega⟩) (show 0 ≤ (gr) ∧ (gr) ≤ 300 from ⟨by omega, by omega⟩) hT hE k0gP k0gX k0gL k0gZ k0gQ k0gB k0gK k0gN k0gW (Or.inr (Or.inr (Or.inr (Or.inr (Or.inr (Or.inr (Or.inr (Or.inr (Or.inl rfl)))))))))
              · have c343 : ¬ (¬ (x340 = (0 : Int))) := hc
                clear hc
                refine J.run0 3 rfl ?_
                try dsimp only
                exact ih.2.2 (pairs + 1) (gr) (apart) (n) (k + 1) H _ (show 100 * (16 - (n)) - 2 - (k + 1) < _ by omega) (show 0 ≤ (n) ∧ (n) < 16 from ⟨by omega, by omega⟩) (show 0 ≤ (k + 1) ∧ (k + 1) ≤ (n) from ⟨by omega, by omega⟩) (show 0 ≤ (gr) ∧ (gr) ≤ 300 from ⟨by omega, by omega⟩) hT hE k0gP k0gX k0gL k0gZ k0gQ k0gB k0gK k0gN k0gW (Or.inr (Or.inr (Or.inr (Or.inr (Or.inr (Or.inr (Or.inr (Or.inr (Or.inr (Or.inl rfl))))))))))
      · skip
        refine J.run0 2 rfl ?_
        try dsimp only
        refine J.icmp rfl rfl rfl ⟨(show -2147483648 ≤ k ∧ k ≤ 2147483647 from ⟨by omega, by omega⟩), (show -2147483648 ≤ n ∧ n ≤ 2147483647 from ⟨by omega, by omega⟩)⟩ (fun hc => ?_) (fun hc => ?_)
        · have c344 : n ≤ k := hc
          clear hc
          refine J.run0 2 rfl ?_
          try dsimp only
          exact ih.1 (pairs) (gr) (apart) (n + 1) H _ (show 100 * (16 - (n + 1)) < _ by omega) (show 0 ≤ (n + 1) ∧ (n + 1) ≤ 16 from ⟨by omega, by omega⟩) (show 0 ≤ (gr) ∧ (gr) ≤ 300 from ⟨by omega, by omega⟩) hT hE k0gP k0gX k0gL k0gZ k0gQ k0gB k0gK k0gN k0gW (Or.inr (Or.inr (Or.inr (Or.inr (Or.inl ⟨_, rfl⟩)))))
        · have c345 : ¬ (n ≤ k) := hc
          clear hc
          have f346 : 0 ≤ H.2.2.1 79 0 (k) ∧ H.2.2.1 79 0 (k) ≤ 1 := hT.1 79 (k)
          refine J.run 4 rfl (show 0 ≤ k ∧ k < 16 from ⟨by omega, by omega⟩) ?_
          try dsimp only
          refine J.ifc rfl rfl rfl (show -2147483648 ≤ H.2.2.1 79 0 (k) ∧ H.2.2.1 79 0 (k) ≤ 2147483647 from ⟨by omega, by omega⟩) (fun hc => ?_) (fun hc => ?_)
          · have c347 : ¬ (H.2.2.1 79 0 (k) = (0 : Int)) := hc
            clear hc
            refine J.run0 2 rfl ?_
            try dsimp only
            exact ih.2.2 (pairs) (gr) (apart) (n) (k + 1) H _ (show 100 * (16 - (n)) - 2 - (k + 1) < _ by omega) (show 0 ≤ (n) ∧ (n) < 16 from ⟨by omega, by omega⟩) (show 0 ≤ (k + 1) ∧ (k + 1) ≤ (n) from ⟨by omega, by omega⟩) (show 0 ≤ (gr) ∧ (gr) ≤ 300 from ⟨by omega, by omega⟩) hT hE k0gP k0gX k0gL k0gZ k0gQ k0gB k0gK k0gN k0gW (Or.inr (Or.inr (Or.inr (Or.inr (Or.inr (Or.inr (Or.inr (Or.inr (Or.inr (Or.inl rfl))))))))))
          · have c348 : ¬ (¬ (H.2.2.1 79 0 (k) = (0 : Int))) := hc
            clear hc
            have f349 : 0 ≤ H.2.2.1 72 0 (k) ∧ H.2.2.1 72 0 (k) ≤ 299 := hT.1 72 (k)
            have f350 : 1 ≤ H.1 11 12 0 ∧ H.1 11 12 0 ≤ 300 := hT.2.1 12
            have f349b : H.2.2.1 72 0 (k) < H.1 11 12 0 := hT.2.2.1 72 (k) rfl
            have g351 : n = k → H.2.2.1 72 0 (n) = H.2.2.1 72 0 (k) := fun z => by rw [z]
            have f352 : 0 ≤ H.2.2.1 72 0 (n) ∧ H.2.2.1 72 0 (n) ≤ 299 := hT.1 72 (n)
            have f352b : H.2.2.1 72 0 (n) < H.1 11 12 0 := hT.2.2.1 72 (n) rfl
            refine J.run 9 rfl ⟨(show 0 ≤ k ∧ k < 16 from ⟨by omega, by omega⟩), (show 0 ≤ n ∧ n < 16 from ⟨by omega, by omega⟩)⟩ ?_
            try dsimp only
            refine J.inv rfl rfl rfl rfl rfl rfl jDr rfl rfl rfl rfl rfl (g_isAbove (above := H.2.2.1 72 0 (k)) (b := H.2.2.1 72 0 (n)) hT k0gP (show -2147483648 ≤ (H.2.2.1 72 0 (k)) ∧ (H.2.2.1 72 0 (k)) ≤ 2147483647 from ⟨by omega, by omega⟩) (show -1 ≤ (H.2.2.1 72 0 (n)) ∧ (H.2.2.1 72 0 (n)) < 300 from ⟨by omega, by omega⟩)) ?_
            rintro v w H ⟨rfl, rfl, x353, rfl, r354⟩
            have r354' : 0 ≤ x353 ∧ x353 ≤ 1 := r354
            try dsimp only [Option.toList, List.append, List.cons_append, List.nil_append]
            refine J.ifc rfl rfl rfl (show -2147483648 ≤ x353 ∧ x353 ≤ 2147483647 from ⟨by omega, by omega⟩) (fun hc => ?_) (fun hc => ?_)
            · have c355 : ¬ (x353 = (0 : Int)) := hc
              clear hc
              refine J.run0 2 rfl ?_
              try dsimp only
              exact ih.2.2 (pairs) (gr) (apart) (n) (k + 1) H _ (show 100 * (16 - (n)) - 2 - (k + 1) < _ by omega) (show 0 ≤ (n) ∧ (n) < 16 from ⟨by omega, by omega⟩) (show 0 ≤ (k + 1) ∧ (k + 1) ≤ (n) from ⟨by omega, by omega⟩) (show 0 ≤ (gr) ∧ (gr) ≤ 300 from ⟨by omega, by omega⟩) hT hE k0gP k0gX k0gL k0gZ k0gQ k0gB k0gK k0gN k0gW (Or.inr (Or.inr (Or.inr (Or.inr (Or.inr (Or.inr (Or.inr (Or.inr (Or.inr (Or.inl rfl))))))))))
            · have c356 : ¬ (¬ (x353 = (0 : Int))) := hc
              clear hc
              refine J.run 9 rfl ⟨(show 0 ≤ n ∧ n < 16 from ⟨by omega, by omega⟩), (show 0 ≤ k ∧ k < 16 from ⟨by omega, by omega⟩)⟩ ?_
              try dsimp only
              refine J.inv rfl rfl rfl rfl rfl rfl jDr rfl rfl rfl rfl rfl (g_isAbove (above := H.2.2.1 72 0 (n)) (b := H.2.2.1 72 0 (k)) hT k0gP (show -2147483648 ≤ (H.2.2.1 72 0 (n)) ∧ (H.2.2.1 72 0 (n)) ≤ 2147483647 from ⟨by omega, by omega⟩) (show -1 ≤ (H.2.2.1 72 0 (k)) ∧ (H.2.2.1 72 0 (k)) < 300 from ⟨by omega, by omega⟩)) ?_
              rintro v w H ⟨rfl, rfl, x357, rfl, r358⟩
              have r358' : 0 ≤ x357 ∧ x357 ≤ 1 := r358
              try dsimp only [Option.toList, List.append, List.cons_append, List.nil_append]
              refine J.ifc rfl rfl rfl (show -2147483648 ≤ x357 ∧ x357 ≤ 2147483647 from ⟨by omega, by omega⟩) (fun hc => ?_) (fun hc => ?_)
              · have c359 : ¬ (x357 = (0 : Int)) := hc
                clear hc
                refine J.run0 2 rfl ?_
                try dsimp only
                exact ih.2.2 (pairs) (gr) (apart) (n) (k + 1) H _ (show 100 * (16 - (n)) - 2 - (k + 1) < _ by omega) (show 0 ≤ (n) ∧ (n) < 16 from ⟨by omega, by omega⟩) (show 0 ≤ (k + 1) ∧ (k + 1) ≤ (n) from ⟨by omega, by omega⟩) (show 0 ≤ (gr) ∧ (gr) ≤ 300 from ⟨by omega, by omega⟩) hT hE k0gP k0gX k0gL k0gZ k0gQ k0gB k0gK k0gN k0gW (Or.inr (Or.inr (Or.inr (Or.inr (Or.inr (Or.inr (Or.inr (Or.inr (Or.inr (Or.inl rfl))))))))))
              · have c360 : ¬ (¬ (x357 = (0 : Int))) := hc
                clear hc
                refine J.run0 3 rfl ?_
                try dsimp only
                exact ih.2.2 (pairs + 1) (gr) (apart) (n) (k + 1) H _ (show 100 * (16 - (n)) - 2 - (k + 1) < _ by omega) (show 0 ≤ (n) ∧ (n) < 16 from ⟨by omega, by omega⟩) (show 0 ≤ (k + 1) ∧ (k + 1) ≤ (n) from ⟨by omega, by omega⟩) (show 0 ≤ (gr) ∧ (gr) ≤ 300 from ⟨by omega, by omega⟩) hT hE k0gP k0gX k0gL k0gZ k0gQ k0gB k0gK k0gN k0gW (Or.inr (Or.inr (Or.inr (Or.inr (Or.inr (Or.inr (Or.inr (Or.inr (Or.inr (Or.inl rfl))))))))))
      · skip
        refine J.run0 2 rfl ?_
        try dsimp only
        refine J.icmp rfl rfl rfl ⟨(show -2147483648 ≤ k ∧ k ≤ 2147483647 from ⟨by omega, by omega⟩), (show -2147483648 ≤ n ∧ n ≤ 2147483647 from ⟨by omega, by omega⟩)⟩ (fun hc => ?_) (fun hc => ?_)
        · have c361 : n ≤ k := hc
          clear hc
          refine J.run0 2 rfl ?_
          try dsimp only
          exact ih.1 (pairs) (gr) (apart) (n + 1) H _ (show 100 * (16 - (n + 1)) < _ by omega) (show 0 ≤ (n + 1) ∧ (n + 1) ≤ 16 from ⟨by omega, by omega⟩) (show 0 ≤ (gr) ∧ (gr) ≤ 300 from ⟨by omega, by omega⟩) hT hE k0gP k0gX k0gL k0gZ k0gQ k0gB k0gK k0gN k0gW (Or.inr (Or.inr (Or.inr (Or.inl ⟨_, rfl⟩))))
        · have c362 : ¬ (n ≤ k) := hc
          clear hc
          have f363 : 0 ≤ H.2.2.1 79 0 (k) ∧ H.2.2.1 79 0 (k) ≤ 1 := hT.1 79 (k)
          refine J.run 4 rfl (show 0 ≤ k ∧ k < 16 from ⟨by omega, by omega⟩) ?_
          try dsimp only
          refine J.ifc rfl rfl rfl (show -2147483648 ≤ H.2.2.1 79 0 (k) ∧ H.2.2.1 79 0 (k) ≤ 2147483647 from ⟨by omega, by omega⟩) (fun hc => ?_) (fun hc => ?_)
          · have c364 : ¬ (H.2.2.1 79 0 (k) = (0 : Int)) := hc
            clear hc
            refine J.run0 2 rfl ?_
            try dsimp only
            exact ih.2.2 (pairs) (gr) (apart) (n) (k + 1) H _ (show 100 * (16 - (n)) - 2 - (k + 1) < _ by omega) (show 0 ≤ (n) ∧ (n) < 16 from ⟨by omega, by omega⟩) (show 0 ≤ (k + 1) ∧ (k + 1) ≤ (n) from ⟨by omega, by omega⟩) (show 0 ≤ (gr) ∧ (gr) ≤ 300 from ⟨by omega, by omega⟩) hT hE k0gP k0gX k0gL k0gZ k0gQ k0gB k0gK k0gN k0gW (Or.inr (Or.inr (Or.inr (Or.inr (Or.inr (Or.inr (Or.inr (Or.inr (Or.inr (Or.inr (Or.inl rfl)))))))))))
          · have c365 : ¬ (¬ (H.2.2.1 79 0 (k) = (0 : Int))) := hc
            clear hc
            have f366 : 0 ≤ H.2.2.1 72 0 (k) ∧ H.2.2.1 72 0 (k) ≤ 299 := hT.1 72 (k)
            have f367 : 1 ≤ H.1 11 12 0 ∧ H.1 11 12 0 ≤ 300 := hT.2.1 12
            have f366b : H.2.2.1 72 0 (k) < H.1 11 12 0 := hT.2.2.1 72 (k) rfl
            have g368 : n = k → H.2.2.1 72 0 (n) = H.2.2.1 72 0 (k) := fun z => by rw [z]
            have f369 : 0 ≤ H.2.2.1 72 0 (n) ∧ H.2.2.1 72 0 (n) ≤ 299 := hT.1 72 (n)
            have f369b : H.2.2.1 72 0 (n) < H.1 11 12 0 := hT.2.2.1 72 (n) rfl
            refine J.run 9 rfl ⟨(show 0 ≤ k ∧ k < 16 from ⟨by omega, by omega⟩), (show 0 ≤ n ∧ n < 16 from ⟨by omega, by omega⟩)⟩ ?_
            try dsimp only
            refine J.inv rfl rfl rfl rfl rfl rfl jDr rfl rfl rfl rfl rfl (g_isAbove (above := H.2.2.1 72 0 (k)) (b := H.2.2.1 72 0 (n)) hT k0gP (show -2147483648 ≤ (H.2.2.1 72 0 (k)) ∧ (H.2.2.1 72 0 (k)) ≤ 2147483647 from ⟨by omega, by omega⟩) (show -1 ≤ (H.2.2.1 72 0 (n)) ∧ (H.2.2.1 72 0 (n)) < 300 from ⟨by omega, by omega⟩)) ?_
            rintro v w H ⟨rfl, rfl, x370, rfl, r371⟩
            have r371' : 0 ≤ x370 ∧ x370 ≤ 1 := r371
            try dsimp only [Option.toList, List.append, List.cons_append, List.nil_append]
            refine J.ifc rfl rfl rfl (show -2147483648 ≤ x370 ∧ x370 ≤ 2147483647 from ⟨by omega, by omega⟩) (fun hc => ?_) (fun hc => ?_)
            · have c372 : ¬ (x370 = (0 : Int)) := hc
              clear hc
              refine J.run0 2 rfl ?_
              try dsimp only
              exact ih.2.2 (pairs) (gr) (apart) (n) (k + 1) H _ (show 100 * (16 - (n)) - 2 - (k + 1) < _ by omega) (show 0 ≤ (n) ∧ (n) < 16 from ⟨by omega, by omega⟩) (show 0 ≤ (k + 1) ∧ (k + 1) ≤ (n) from ⟨by omega, by omega⟩) (show 0 ≤ (gr) ∧ (gr) ≤ 300 from ⟨by omega, by omega⟩) hT hE k0gP k0gX k0gL k0gZ k0gQ k0gB k0gK k0gN k0gW (Or.inr (Or.inr (Or.inr (Or.inr (Or.inr (Or.inr (Or.inr (Or.inr (Or.inr (Or.inr (Or.inl rfl)))))))))))
            · have c373 : ¬ (¬ (x370 = (0 : Int))) := hc
              clear hc
              refine J.run 9 rfl ⟨(show 0 ≤ n ∧ n < 16 from ⟨by omega, by omega⟩), (show 0 ≤ k ∧ k < 16 from ⟨by omega, by omega⟩)⟩ ?_
              try dsimp only
              refine J.inv rfl rfl rfl rfl rfl rfl jDr rfl rfl rfl rfl rfl (g_isAbove (above := H.2.2.1 72 0 (n)) (b := H.2.2.1 72 0 (k)) hT k0gP (show -2147483648 ≤ (H.2.2.1 72 0 (n)) ∧ (H.2.2.1 72 0 (n)) ≤ 2147483647 from ⟨by omega, by omega⟩) (show -1 ≤ (H.2.2.1 72 0 (k)) ∧ (H.2.2.1 72 0 (k)) < 300 from ⟨by omega, by omega⟩)) ?_
              rintro v w H ⟨rfl, rfl, x374, rfl, r375⟩
              have r375' : 0 ≤ x374 ∧ x374 ≤ 1 := r375
              try dsimp only [Option.toList, List.append, List.cons_append, List.nil_append]
              refine J.ifc rfl rfl rfl (show -2147483648 ≤ x374 ∧ x374 ≤ 2147483647 from ⟨by omega, by omega⟩) (fun hc => ?_) (fun hc => ?_)
              · have c376 : ¬ (x374 = (0 : Int)) := hc
                clear hc
                refine J.run0 2 rfl ?_
                try dsimp only
                exact ih.2.2 (pairs) (gr) (apart) (n) (k + 1) H _ (show 100 * (16 - (n)) - 2 - (k + 1) < _ by omega) (show 0 ≤ (n) ∧ (n) < 16 from ⟨by omega, by omega⟩) (show 0 ≤ (k + 1) ∧ (k + 1) ≤ (n) from ⟨by omega, by omega⟩) (show 0 ≤ (gr) ∧ (gr) ≤ 300 from ⟨by omega, by omega⟩) hT hE k0gP k0gX k0gL k0gZ k0gQ k0gB k0gK k0gN k0gW (Or.inr (Or.inr (Or.inr (Or.inr (Or.inr (Or.inr (Or.inr (Or.inr (Or.inr (Or.inr (Or.inl rfl)))))))))))
              · have c377 : ¬ (¬ (x374 = (0 : Int))) := hc
                clear hc
                refine J.run0 3 rfl ?_
                try dsimp only
                exact ih.2.2 (pairs + 1) (gr) (apart) (n) (k + 1) H _ (show 100 * (16 - (n)) - 2 - (k + 1) < _ by omega) (show 0 ≤ (n) ∧ (n) < 16 from ⟨by omega, by omega⟩) (show 0 ≤ (k + 1) ∧ (k + 1) ≤ (n) from ⟨by omega, by omega⟩) (show 0 ≤ (gr) ∧ (gr) ≤ 300 from ⟨by omega, by omega⟩) hT hE k0gP k0gX k0gL k0gZ k0gQ k0gB k0gK k0gN k0gW (Or.inr (Or.inr (Or.inr (Or.inr (Or.inl rfl)))))
      · skip
        refine J.run0 2 rfl ?_
        try dsimp only
        refine J.icmp rfl rfl rfl ⟨(show -2147483648 ≤ k ∧ k ≤ 2147483647 from ⟨by omega, by omega⟩), (show -2147483648 ≤ n ∧ n ≤ 2147483647 from ⟨by omega, by omega⟩)⟩ (fun hc => ?_) (fun hc => ?_)
        · have c378 : n ≤ k := hc
          clear hc
          refine J.run0 2 rfl ?_
          try dsimp only
          exact ih.1 (pairs) (gr) (apart) (n + 1) H _ (show 100 * (16 - (n + 1)) < _ by omega) (show 0 ≤ (n + 1) ∧ (n + 1) ≤ 16 from ⟨by omega, by omega⟩) (show 0 ≤ (gr) ∧ (gr) ≤ 300 from ⟨by omega, by omega⟩) hT hE k0gP k0gX k0gL k0gZ k0gQ k0gB k0gK k0gN k0gW (Or.inr (Or.inr (Or.inr (Or.inr (Or.inr (Or.inl ⟨_, rfl⟩))))))
        · have c379 : ¬ (n ≤ k) := hc
          clear hc
          have f380 : 0 ≤ H.2.2.1 79 0 (k) ∧ H.2.2.1 79 0 (k) ≤ 1 := hT.1 79 (k)
          refine J.run 4 rfl (show 0 ≤ k ∧ k < 16 from ⟨by omega, by omega⟩) ?_
          try dsimp only
          refine J.ifc rfl rfl rfl (show -2147483648 ≤ H.2.2.1 79 0 (k) ∧ H.2.2.1 79 0 (k) ≤ 2147483647 from ⟨by omega, by omega⟩) (fun hc => ?_) (fun hc => ?_)
          · have c381 : ¬ (H.2.2.1 79 0 (k) = (0 : Int)) := hc
            clear hc
            refine J.run0 2 rfl ?_
            try dsimp only
            exact ih.2.2 (pairs) (gr) (apart) (n) (k + 1) H _ (show 100 * (16 - (n)) - 2 - (k + 1) < _ by omega) (show 0 ≤ (n) ∧ (n) < 16 from ⟨by omega, by omega⟩) (show 0 ≤ (k + 1) ∧ (k + 1) ≤ (n) from ⟨by omega, by omega⟩) (show 0 ≤ (gr) ∧ (gr) ≤ 300 from ⟨by omega, by omega⟩) hT hE k0gP k0gX k0gL k0gZ k0gQ k0gB k0gK k0gN k0gW (Or.inr (Or.inr (Or.inr (Or.inr (Or.inr (Or.inr (Or.inr (Or.inr (Or.inr (Or.inr (Or.inr (Or.inl rfl))))))))))))
          · have c382 : ¬ (¬ (H.2.2.1 79 0 (k) = (0 : Int))) := hc
            clear hc
            have f383 : 0 ≤ H.2.2.1 72 0 (k) ∧ H.2.2.1 72 0 (k) ≤ 299 := hT.1 72 (k)
            have f384 : 1 ≤ H.1 11 12 0 ∧ H.1 11 12 0 ≤ 300 := hT.2.1 12
            have f383b : H.2.2.1 72 0 (k) < H.1 11 12 0 := hT.2.2.1 72 (k) rfl
            have g385 : n = k → H.2.2.1 72 0 (n) = H.2.2.1 72 0 (k) := fun z => by rw [z]
            have f386 : 0 ≤ H.2.2.1 72 0 (n) ∧ H.2.2.1 72 0 (n) ≤ 299 := hT.1 72 (n)
            have f386b : H.2.2.1 72 0 (n) < H.1 11 12 0 := hT.2.2.1 72 (n) rfl
            refine J.run 9 rfl ⟨(show 0 ≤ k ∧ k < 16 from ⟨by omega, by omega⟩), (show 0 ≤ n ∧ n < 16 from ⟨by omega, by omega⟩)⟩ ?_
            try dsimp only
            refine J.inv rfl rfl rfl rfl rfl rfl jDr rfl rfl rfl rfl rfl (g_isAbove (above := H.2.2.1 72 0 (k)) (b := H.2.2.1 72 0 (n)) hT k0gP (show -2147483648 ≤ (H.2.2.1 72 0 (k)) ∧ (H.2.2.1 72 0 (k)) ≤ 2147483647 from ⟨by omega, by omega⟩) (show -1 ≤ (H.2.2.1 72 0 (n)) ∧ (H.2.2.1 72 0 (n)) < 300 from ⟨by omega, by omega⟩)) ?_
            rintro v w H ⟨rfl, rfl, x387, rfl, r388⟩
            have r388' : 0 ≤ x387 ∧ x387 ≤ 1 := r388
            try dsimp only [Option.toList, List.append, List.cons_append, List.nil_append]
            refine J.ifc rfl rfl rfl (show -2147483648 ≤ x387 ∧ x387 ≤ 2147483647 from ⟨by omega, by omega⟩) (fun hc => ?_) (fun hc => ?_)
            · have c389 : ¬ (x387 = (0 : Int)) := hc
              clear hc
              refine J.run0 2 rfl ?_
              try dsimp only
              exact ih.2.2 (pairs) (gr) (apart) (n) (k + 1) H _ (show 100 * (16 - (n)) - 2 - (k + 1) < _ by omega) (show 0 ≤ (n) ∧ (n) < 16 from ⟨by omega, by omega⟩) (show 0 ≤ (k + 1) ∧ (k + 1) ≤ (n) from ⟨by omega, by omega⟩) (show 0 ≤ (gr) ∧ (gr) ≤ 300 from ⟨by omega, by omega⟩) hT hE k0gP k0gX k0gL k0gZ k0gQ k0gB k0gK k0gN k0gW (Or.inr (Or.inr (Or.inr (Or.inr (Or.inr (Or.inr (Or.inr (Or.inr (Or.inr (Or.inr (Or.inr (Or.inl rfl))))))))))))
            · have c390 : ¬ (¬ (x387 = (0 : Int))) := hc
              clear hc
              refine J.run 9 rfl ⟨(show 0 ≤ n ∧ n < 16 from ⟨by omega, by omega⟩), (show 0 ≤ k ∧ k < 16 from ⟨by omega, by omega⟩)⟩ ?_
              try dsimp only
              refine J.inv rfl rfl rfl rfl rfl rfl jDr rfl rfl rfl rfl rfl (g_isAbove (above := H.2.2.1 72 0 (n)) (b := H.2.2.1 72 0 (k)) hT k0gP (show -2147483648 ≤ (H.2.2.1 72 0 (n)) ∧ (H.2.2.1 72 0 (n)) ≤ 2147483647 from ⟨by omega, by omega⟩) (show -1 ≤ (H.2.2.1 72 0 (k)) ∧ (H.2.2.1 72 0 (k)) < 300 from ⟨by omega, by omega⟩)) ?_
              rintro v w H ⟨rfl, rfl, x391, rfl, r392⟩
              have r392' : 0 ≤ x391 ∧ x391 ≤ 1 := r392
              try dsimp only [Option.toList, List.append, List.cons_append, List.nil_append]
              refine J.ifc rfl rfl rfl (show -2147483648 ≤ x391 ∧ x391 ≤ 2147483647 from ⟨by omega, by omega⟩) (fun hc => ?_) (fun hc => ?_)
              · have c393 : ¬ (x391 = (0 : Int)) := hc
                clear hc
                refine J.run0 2 rfl ?_
                try dsimp only
                exact ih.2.2 (pairs) (gr) (apart) (n) (k + 1) H _ (show 100 * (16 - (n)) - 2 - (k + 1) < _ by omega) (show 0 ≤ (n) ∧ (n) < 16 from ⟨by omega, by omega⟩) (show 0 ≤ (k + 1) ∧ (k + 1) ≤ (n) from ⟨by omega, by omega⟩) (show 0 ≤ (gr) ∧ (gr) ≤ 300 from ⟨by omega, by omega⟩) hT hE k0gP k0gX k0gL k0gZ k0gQ k0gB k0gK k0gN k0gW (Or.inr (Or.inr (Or.inr (Or.inr (Or.inr (Or.inr (Or.inr (Or.inr (Or.inr (Or.inr (Or.inr (Or.inl rfl))))))))))))
              · have c394 : ¬ (¬ (x391 = (0 : Int))) := hc
                clear hc
                refine J.run0 3 rfl ?_
                try dsimp only
                exact ih.2.2 (pairs + 1) (gr) (apart) (n) (k + 1) H _ (show 100 * (16 - (n)) - 2 - (k + 1) < _ by omega) (show 0 ≤ (n) ∧ (n) < 16 from ⟨by omega, by omega⟩) (show 0 ≤ (k + 1) ∧ (k + 1) ≤ (n) from ⟨by omega, by omega⟩) (show 0 ≤ (gr) ∧ (gr) ≤ 300 from ⟨by omega, by omega⟩) hT hE k0gP k0gX k0gL k0gZ k0gQ k0gB k0gK k0gN k0gW (Or.inr (Or.inr (Or.inr (Or.inr (Or.inr (Or.inl rfl))))))
      · skip
        refine J.run0 2 rfl ?_
        try dsimp only
        refine J.icmp rfl rfl rfl ⟨(show -2147483648 ≤ k ∧ k ≤ 2147483647 from ⟨by omega, by omega⟩), (show -2147483648 ≤ n ∧ n ≤ 2147483647 from ⟨by omega, by omega⟩)⟩ (fun hc => ?_) (fun hc => ?_)
        · have c395 : n ≤ k := hc
          clear hc
          refine J.run0 2 rfl ?_
          try dsimp only
          exact ih.1 (pairs) (gr) (apart) (n + 1) H _ (show 100 * (16 - (n + 1)) < _ by omega) (show 0 ≤ (n + 1) ∧ (n + 1) ≤ 16 from ⟨by omega, by omega⟩) (show 0 ≤ (gr) ∧ (gr) ≤ 300 from ⟨by omega, by omega⟩) hT hE k0gP k0gX k0gL k0gZ k0gQ k0gB k0gK k0gN k0gW (Or.inr (Or.inr (Or.inr (Or.inr (Or.inr (Or.inr (⟨_, rfl⟩)))))))
        · have c396 : ¬ (n ≤ k) := hc
          clear hc
          have f397 : 0 ≤ H.2.2.1 79 0 (k) ∧ H.2.2.1 79 0 (k) ≤ 1 := hT.1 79 (k)
          refine J.run 4 rfl (show 0 ≤ k ∧ k < 16 from ⟨by omega, by omega⟩) ?_
          try dsimp only
          refine J.ifc rfl rfl rfl (show -2147483648 ≤ H.2.2.1 79 0 (k) ∧ H.2.2.1 79 0 (k) ≤ 2147483647 from ⟨by omega, by omega⟩) (fun hc => ?_) (fun hc => ?_)
          · have c398 : ¬ (H.2.2.1 79 0 (k) = (0 : Int)) := hc
            clear hc
            refine J.run0 2 rfl ?_
            try dsimp only
            exact ih.2.2 (pairs) (gr) (apart) (n) (k + 1) H _ (show 100 * (16 - (n)) - 2 - (k + 1) < _ by omega) (show 0 ≤ (n) ∧ (n) < 16 from ⟨by omega, by omega⟩) (show 0 ≤ (k + 1) ∧ (k + 1) ≤ (n) from ⟨by omega, by omega⟩) (show 0 ≤ (gr) ∧ (gr) ≤ 300 from ⟨by omega, by omega⟩) hT hE k0gP k0gX k0gL k0gZ k0gQ k0gB k0gK k0gN k0gW (Or.inr (Or.inr (Or.inr (Or.inr (Or.inr (Or.inr (Or.inr (Or.inr (Or.inr (Or.inr (Or.inr (Or.inr (Or.inl rfl)))))))))))))
          · have c399 : ¬ (¬ (H.2.2.1 79 0 (k) = (0 : Int))) := hc
            clear hc
            have f400 : 0 ≤ H.2.2.1 72 0 (k) ∧ H.2.2.1 72 0 (k) ≤ 299 := hT.1 72 (k)
            have f401 : 1 ≤ H.1 11 12 0 ∧ H.1 11 12 0 ≤ 300 := hT.2.1 12
            have f400b : H.2.2.1 72 0 (k) < H.1 11 12 0 := hT.2.2.1 72 (k) rfl
            have g402 : n = k → H.2.2.1 72 0 (n) = H.2.2.1 72 0 (k) := fun z => by rw [z]
            have f403 : 0 ≤ H.2.2.1 72 0 (n) ∧ H.2.2.1 72 0 (n) ≤ 299 := hT.1 72 (n)
            have f403b : H.2.2.1 72 0 (n) < H.1 11 12 0 := hT.2.2.1 72 (n) rfl
            refine J.run 9 rfl ⟨(show 0 ≤ k ∧ k < 16 from ⟨by omega, by omega⟩), (show 0 ≤ n ∧ n < 16 from ⟨by omega, by omega⟩)⟩ ?_
            try dsimp only
            refine J.inv rfl rfl rfl rfl rfl rfl jDr rfl rfl rfl rfl rfl (g_isAbove (above := H.2.2.1 72 0 (k)) (b := H.2.2.1 72 0 (n)) hT k0gP (show -2147483648 ≤ (H.2.2.1 72 0 (k)) ∧ (H.2.2.1 72 0 (k)) ≤ 2147483647 from ⟨by omega, by omega⟩) (show -1 ≤ (H.2.2.1 72 0 (n)) ∧ (H.2.2.1 72 0 (n)) < 300 from ⟨by omega, by omega⟩)) ?_
            rintro v w H ⟨rfl, rfl, x404, rfl, r405⟩
            have r405' : 0 ≤ x404 ∧ x404 ≤ 1 := r405
            try dsimp only [Option.toList, List.append, List.cons_append, List.nil_append]
            refine J.ifc rfl rfl rfl (show -2147483648 ≤ x404 ∧ x404 ≤ 2147483647 from ⟨by omega, by omega⟩) (fun hc => ?_) (fun hc => ?_)
            · have c406 : ¬ (x404 = (0 : Int)) := hc
              clear hc
              refine J.run0 2 rfl ?_
              try dsimp only
              exact ih.2.2 (pairs) (gr) (apart) (n) (k + 1) H _ (show 100 * (16 - (n)) - 2 - (k + 1) < _ by omega) (show 0 ≤ (n) ∧ (n) < 16 from ⟨by omega, by omega⟩) (show 0 ≤ (k + 1) ∧ (k + 1) ≤ (n) from ⟨by omega, by omega⟩) (show 0 ≤ (gr) ∧ (gr) ≤ 300 from ⟨by omega, by omega⟩) hT hE k0gP k0gX k0gL k0gZ k0gQ k0gB k0gK k0gN k0gW (Or.inr (Or.inr (Or.inr (Or.inr (Or.inr (Or.inr (Or.inr (Or.inr (Or.inr (Or.inr (Or.inr (Or.inr (Or.inl rfl)))))))))))))
            · have c407 : ¬ (¬ (x404 = (0 : Int))) := hc
              clear hc
              refine J.run 9 rfl ⟨(show 0 ≤ n ∧ n < 16 from ⟨by omega, by omega⟩), (show 0 ≤ k ∧ k < 16 from ⟨by omega, by omega⟩)⟩ ?_
              try dsimp only
              refine J.inv rfl rfl rfl rfl rfl rfl jDr rfl rfl rfl rfl rfl (g_isAbove (above := H.2.2.1 72 0 (n)) (b := H.2.2.1 72 0 (k)) hT k0gP (show -2147483648 ≤ (H.2.2.1 72 0 (n)) ∧ (H.2.2.1 72 0 (n)) ≤ 2147483647 from ⟨by omega, by omega⟩) (show -1 ≤ (H.2.2.1 72 0 (k)) ∧ (H.2.2.1 72 0 (k)) < 300 from ⟨by omega, by omega⟩)) ?_
              rintro v w H ⟨rfl, rfl, x408, rfl, r409⟩
              have r409' : 0 ≤ x408 ∧ x408 ≤ 1 := r409
              try dsimp only [Option.toList, List.append, List.cons_append, List.nil_append]
              refine J.ifc rfl rfl rfl (show -2147483648 ≤ x408 ∧ x408 ≤ 2147483647 from ⟨by omega, by omega⟩) (fun hc => ?_) (fun hc => ?_)
              · have c410 : ¬ (x408 = (0 : Int)) := hc
                clear hc
                refine J.run0 2 rfl ?_
                try dsimp only
                exact ih.2.2 (pairs) (gr) (apart) (n) (k + 1) H _ (show 100 * (16 - (n)) - 2 - (k + 1) < _ by omega) (show 0 ≤ (n) ∧ (n) < 16 from ⟨by omega, by omega⟩) (show 0 ≤ (k + 1) ∧ (k + 1) ≤ (n) from ⟨by omega, by omega⟩) (show 0 ≤ (gr) ∧ (gr) ≤ 300 from ⟨by omega, by omega⟩) hT hE k0gP k0gX k0gL k0gZ k0gQ k0gB k0gK k0gN k0gW (Or.inr (Or.inr (Or.inr (Or.inr (Or.inr (Or.inr (Or.inr (Or.inr (Or.inr (Or.inr (Or.inr (Or.inr (Or.inl rfl)))))))))))))
              · have c411 : ¬ (¬ (x408 = (0 : Int))) := hc
                clear hc
                refine J.run0 3 rfl ?_
                try dsimp only
                exact ih.2.2 (pairs + 1) (gr) (apart) (n) (k + 1) H _ (show 100 * (16 - (n)) - 2 - (k + 1) < _ by omega) (show 0 ≤ (n) ∧ (n) < 16 from ⟨by omega, by omega⟩) (show 0 ≤ (k + 1) ∧ (k + 1) ≤ (n) from ⟨by omega, by omega⟩) (show 0 ≤ (gr) ∧ (gr) ≤ 300 from ⟨by omega, by omega⟩) hT hE k0gP k0gX k0gL k0gZ k0gQ k0gB k0gK k0gN k0gW (Or.inr (Or.inr (Or.inr (Or.inr (Or.inr (Or.inr (Or.inl rfl)))))))
      · skip
        refine J.run0 2 rfl ?_
        try dsimp only
        refine J.icmp rfl rfl rfl ⟨(show -2147483648 ≤ k ∧ k ≤ 2147483647 from ⟨by omega, by omega⟩), (show -2147483648 ≤ n ∧ n ≤ 2147483647 from ⟨by omega, by omega⟩)⟩ (fun hc => ?_) (fun hc => ?_)
        · have c412 : n ≤ k := hc
          clear hc
          refine J.run0 2 rfl ?_
          try dsimp only
          exact ih.1 (pairs) (gr) (apart) (n + 1) H _ (show 100 * (16 - (n + 1)) < _ by omega) (show 0 ≤ (n + 1) ∧ (n + 1) ≤ 16 from ⟨by omega, by omega⟩) (show 0 ≤ (gr) ∧ (gr) ≤ 300 from ⟨by omega, by omega⟩) hT hE k0gP k0gX k0gL k0gZ k0gQ k0gB k0gK k0gN k0gW (Or.inr (Or.inr (Or.inr (Or.inr (Or.inl ⟨_, rfl⟩)))))
        · have c413 : ¬ (n ≤ k) := hc
          clear hc
          have f414 : 0 ≤ H.2.2.1 79 0 (k) ∧ H.2.2.1 79 0 (k) ≤ 1 := hT.1 79 (k)
          refine J.run 4 rfl (show 0 ≤ k ∧ k < 16 from ⟨by omega, by omega⟩) ?_
          try dsimp only
          refine J.ifc rfl rfl rfl (show -2147483648 ≤ H.2.2.1 79 0 (k) ∧ H.2.2.1 79 0 (k) ≤ 2147483647 from ⟨by omega, by omega⟩) (fun hc => ?_) (fun hc => ?_)
          · have c415 : ¬ (H.2.2.1 79 0 (k) = (0 : Int)) := hc
            clear hc
            refine J.run0 2 rfl ?_
            try dsimp only
            exact ih.2.2 (pairs) (gr) (apart) (n) (k + 1) H _ (show 100 * (16 - (n)) - 2 - (k + 1) < _ by omega) (show 0 ≤ (n) ∧ (n) < 16 from ⟨by omega, by omega⟩) (show 0 ≤ (k + 1) ∧ (k + 1) ≤ (n) from ⟨by omega, by omega⟩) (show 0 ≤ (gr) ∧ (gr) ≤ 300 from ⟨by omega, by omega⟩) hT hE k0gP k0gX k0gL k0gZ k0gQ k0gB k0gK k0gN k0gW (Or.inr (Or.inr (Or.inr (Or.inr (Or.inr (Or.inr (Or.inr (Or.inr (Or.inr (Or.inr (Or.inr (Or.inr (Or.inr (Or.inl rfl))))))))))))))
          · have c416 : ¬ (¬ (H.2.2.1 79 0 (k) = (0 : Int))) := hc
            clear hc
            have f417 : 0 ≤ H.2.2.1 72 0 (k) ∧ H.2.2.1 72 0 (k) ≤ 299 := hT.1 72 (k)
            have f418 : 1 ≤ H.1 11 12 0 ∧ H.1 11 12 0 ≤ 300 := hT.2.1 12
            have f417b : H.2.2.1 72 0 (k) < H.1 11 12 0 := hT.2.2.1 72 (k) rfl
            have g419 : n = k → H.2.2.1 72 0 (n) = H.2.2.1 72 0 (k) := fun z => by rw [z]
            have f420 : 0 ≤ H.2.2.1 72 0 (n) ∧ H.2.2.1 72 0 (n) ≤ 299 := hT.1 72 (n)
            have f420b : H.2.2.1 72 0 (n) < H.1 11 12 0 := hT.2.2.1 72 (n) rfl
            refine J.run 9 rfl ⟨(show 0 ≤ k ∧ k < 16 from ⟨by omega, by omega⟩), (show 0 ≤ n ∧ n < 16 from ⟨by omega, by omega⟩)⟩ ?_
            try dsimp only
            refine J.inv rfl rfl rfl rfl rfl rfl jDr rfl rfl rfl rfl rfl (g_isAbove (above := H.2.2.1 72 0 (k)) (b := H.2.2.1 72 0 (n)) hT k0gP (show -2147483648 ≤ (H.2.2.1 72 0 (k)) ∧ (H.2.2.1 72 0 (k)) ≤ 2147483647 from ⟨by omega, by omega⟩) (show -1 ≤ (H.2.2.1 72 0 (n)) ∧ (H.2.2.1 72 0 (n)) < 300 from ⟨by omega, by omega⟩)) ?_
            rintro v w H ⟨rfl, rfl, x421, rfl, r422⟩
            have r422' : 0 ≤ x421 ∧ x421 ≤ 1 := r422
            try dsimp only [Option.toList, List.append, List.cons_append, List.nil_append]
            refine J.ifc rfl rfl rfl (show -2147483648 ≤ x421 ∧ x421 ≤ 2147483647 from ⟨by omega, by omega⟩) (fun hc => ?_) (fun hc => ?_)
            · have c423 : ¬ (x421 = (0 : Int)) := hc
              clear hc
              refine J.run0 2 rfl ?_
              try dsimp only
              exact ih.2.2 (pairs) (gr) (apart) (n) (k + 1) H _ (show 100 * (16 - (n)) - 2 - (k + 1) < _ by omega) (show 0 ≤ (n) ∧ (n) < 16 from ⟨by omega, by omega⟩) (show 0 ≤ (k + 1) ∧ (k + 1) ≤ (n) from ⟨by omega, by omega⟩) (show 0 ≤ (gr) ∧ (gr) ≤ 300 from ⟨by omega, by omega⟩) hT hE k0gP k0gX k0gL k0gZ k0gQ k0gB k0gK k0gN k0gW (Or.inr (Or.inr (Or.inr (Or.inr (Or.inr (Or.inr (Or.inr (Or.inr (Or.inr (Or.inr (Or.inr (Or.inr (Or.inr (Or.inl rfl))))))))))))))
            · have c424 : ¬ (¬ (x421 = (0 : Int))) := hc
              clear hc
              refine J.run 9 rfl ⟨(show 0 ≤ n ∧ n < 16 from ⟨by omega, by omega⟩), (show 0 ≤ k ∧ k < 16 from ⟨by omega, by omega⟩)⟩ ?_
              try dsimp only
              refine J.inv rfl rfl rfl rfl rfl rfl jDr rfl rfl rfl rfl rfl (g_isAbove (above := H.2.2.1 72 0 (n)) (b := H.2.2.1 72 0 (k)) hT k0gP (show -2147483648 ≤ (H.2.2.1 72 0 (n)) ∧ (H.2.2.1 72 0 (n)) ≤ 2147483647 from ⟨by omega, by omega⟩) (show -1 ≤ (H.2.2.1 72 0 (k)) ∧ (H.2.2.1 72 0 (k)) < 300 from ⟨by omega, by omega⟩)) ?_
              rintro v w H ⟨rfl, rfl, x425, rfl, r426⟩
              have r426' : 0 ≤ x425 ∧ x425 ≤ 1 := r426
              try dsimp only [Option.toList, List.append, List.cons_append, List.nil_append]
              refine J.ifc rfl rfl rfl (show -2147483648 ≤ x425 ∧ x425 ≤ 2147483647 from ⟨by omega, by omega⟩) (fun hc => ?_) (fun hc => ?_)
              · have c427 : ¬ (x425 = (0 : Int)) := hc
                clear hc
                refine J.run0 2 rfl ?_
                try dsimp only
                exact ih.2.2 (pairs) (gr) (apart) (n) (k + 1) H _ (show 100 * (16 - (n)) - 2 - (k + 1) < _ by omega) (show 0 ≤ (n) ∧ (n) < 16 from ⟨by omega, by omega⟩) (show 0 ≤ (k + 1) ∧ (k + 1) ≤ (n) from ⟨by omega, by omega⟩) (show 0 ≤ (gr) ∧ (gr) ≤ 300 from ⟨by omega, by omega⟩) hT hE k0gP k0gX k0gL k0gZ k0gQ k0gB k0gK k0gN k0gW (Or.inr (Or.inr (Or.inr (Or.inr (Or.inr (Or.inr (Or.inr (Or.inr (Or.inr (Or.inr (Or.inr (Or.inr (Or.inr (Or.inl rfl))))))))))))))
              · have c428 : ¬ (¬ (x425 = (0 : Int))) := hc
                clear hc
                refine J.run0 3 rfl ?_
                try dsimp only
                exact ih.2.2 (pairs + 1) (gr) (apart) (n) (k + 1) H _ (show 100 * (16 - (n)) - 2 - (k + 1) < _ by omega) (show 0 ≤ (n) ∧ (n) < 16 from ⟨by omega, by omega⟩) (show 0 ≤ (k + 1) ∧ (k + 1) ≤ (n) from ⟨by omega, by omega⟩) (show 0 ≤ (gr) ∧ (gr) ≤ 300 from ⟨by omega, by omega⟩) hT hE k0gP k0gX k0gL k0gZ k0gQ k0gB k0gK k0gN k0gW (Or.inr (Or.inr (Or.inr (Or.inr (Or.inr (Or.inr (Or.inr (Or.inr (Or.inr (Or.inl rfl))))))))))
      · skip
        refine J.run0 2 rfl ?_
        try dsimp only
        refine J.icmp rfl rfl rfl ⟨(show -2147483648 ≤ k ∧ k ≤ 2147483647 from ⟨by omega, by omega⟩), (show -2147483648 ≤ n ∧ n ≤ 2147483647 from ⟨by omega, by omega⟩)⟩ (fun hc => ?_) (fun hc => ?_)
        · have c429 : n ≤ k := hc
          clear hc
          refine J.run0 2 rfl ?_
          try dsimp only
          exact ih.1 (pairs) (gr) (apart) (n + 1) H _ (show 100 * (16 - (n + 1)) < _ by omega) (show 0 ≤ (n + 1) ∧ (n + 1) ≤ 16 from ⟨by omega, by omega⟩) (show 0 ≤ (gr) ∧ (gr) ≤ 300 from ⟨by omega, by omega⟩) hT hE k0gP k0gX k0gL k0gZ k0gQ k0gB k0gK k0gN k0gW (Or.inr (Or.inr (Or.inr (Or.inr (Or.inr (Or.inl ⟨_, rfl⟩))))))
        · have c430 : ¬ (n ≤ k) := hc
          clear hc
          have f431 : 0 ≤ H.2.2.1 79 0 (k) ∧ H.2.2.1 79 0 (k) ≤ 1 := hT.1 79 (k)
          refine J.run 4 rfl (show 0 ≤ k ∧ k < 16 from ⟨by omega, by omega⟩) ?_
          try dsimp only
          refine J.ifc rfl rfl rfl (show -2147483648 ≤ H.2.2.1 79 0 (k) ∧ H.2.2.1 79 0 (k) ≤ 2147483647 from ⟨by omega, by omega⟩) (fun hc => ?_) (fun hc => ?_)
          · have c432 : ¬ (H.2.2.1 79 0 (k) = (0 : Int)) := hc
            clear hc
            refine J.run0 2 rfl ?_
            try dsimp only
            exact ih.2.2 (pairs) (gr) (apart) (n) (k + 1) H _ (show 100 * (16 - (n)) - 2 - (k + 1) < _ by omega) (show 0 ≤ (n) ∧ (n) < 16 from ⟨by omega, by omega⟩) (show 0 ≤ (k + 1) ∧ (k + 1) ≤ (n) from ⟨by omega, by omega⟩) (show 0 ≤ (gr) ∧ (gr) ≤ 300 from ⟨by omega, by omega⟩) hT hE k0gP k0gX k0gL k0gZ k0gQ k0gB k0gK k0gN k0gW (Or.inr (Or.inr (Or.inr (Or.inr (Or.inr (Or.inr (Or.inr (Or.inr (Or.inr (Or.inr (Or.inr (Or.inr (Or.inr (Or.inr (Or.inl rfl)))))))))))))))
          · have c433 : ¬ (¬ (H.2.2.1 79 0 (k) = (0 : Int))) := hc
            clear hc
            have f434 : 0 ≤ H.2.2.1 72 0 (k) ∧ H.2.2.1 72 0 (k) ≤ 299 := hT.1 72 (k)
            have f435 : 1 ≤ H.1 11 12 0 ∧ H.1 11 12 0 ≤ 300 := hT.2.1 12
            have f434b : H.2.2.1 72 0 (k) < H.1 11 12 0 := hT.2.2.1 72 (k) rfl
            have g436 : n = k → H.2.2.1 72 0 (n) = H.2.2.1 72 0 (k) := fun z => by rw [z]
            have f437 : 0 ≤ H.2.2.1 72 0 (n) ∧ H.2.2.1 72 0 (n) ≤ 299 := hT.1 72 (n)
            have f437b : H.2.2.1 72 0 (n) < H.1 11 12 0 := hT.2.2.1 72 (n) rfl
            refine J.run 9 rfl ⟨(show 0 ≤ k ∧ k < 16 from ⟨by omega, by omega⟩), (show 0 ≤ n ∧ n < 16 from ⟨by omega, by omega⟩)⟩ ?_
            try dsimp only
            refine J.inv rfl rfl rfl rfl rfl rfl jDr rfl rfl rfl rfl rfl (g_isAbove (above := H.2.2.1 72 0 (k)) (b := H.2.2.1 72 0 (n)) hT k0gP (show -2147483648 ≤ (H.2.2.1 72 0 (k)) ∧ (H.2.2.1 72 0 (k)) ≤ 2147483647 from ⟨by omega, by omega⟩) (show -1 ≤ (H.2.2.1 72 0 (n)) ∧ (H.2.2.1 72 0 (n)) < 300 from ⟨by omega, by omega⟩)) ?_
            rintro v w H ⟨rfl, rfl, x438, rfl, r439⟩
            have r439' : 0 ≤ x438 ∧ x438 ≤ 1 := r439
            try dsimp only [Option.toList, List.append, List.cons_append, List.nil_append]
            refine J.ifc rfl rfl rfl (show -2147483648 ≤ x438 ∧ x438 ≤ 2147483647 from ⟨by omega, by omega⟩) (fun hc => ?_) (fun hc => ?_)
            · have c440 : ¬ (x438 = (0 : Int)) := hc
              clear hc
              refine J.run0 2 rfl ?_
              try dsimp only
              exact ih.2.2 (pairs) (gr) (apart) (n) (k + 1) H _ (show 100 * (16 - (n)) - 2 - (k + 1) < _ by omega) (show 0 ≤ (n) ∧ (n) < 16 from ⟨by omega, by omega⟩) (show 0 ≤ (k + 1) ∧ (k + 1) ≤ (n) from ⟨by omega, by omega⟩) (show 0 ≤ (gr) ∧ (gr) ≤ 300 from ⟨by omega, by omega⟩) hT hE k0gP k0gX k0gL k0gZ k0gQ k0gB k0gK k0gN k0gW (Or.inr (Or.inr (Or.inr (Or.inr (Or.inr (Or.inr (Or.inr (Or.inr (Or.inr (Or.inr (Or.inr (Or.inr (Or.inr (Or.inr (Or.inl rfl)))))))))))))))
            · have c441 : ¬ (¬ (x438 = (0 : Int))) := hc
              clear hc
              refine J.run 9 rfl ⟨(show 0 ≤ n ∧ n < 16 from ⟨by omega, by omega⟩), (show 0 ≤ k ∧ k < 16 from ⟨by omega, by omega⟩)⟩ ?_
              try dsimp only
              refine J.inv rfl rfl rfl rfl rfl rfl jDr rfl rfl rfl rfl rfl (g_isAbove (above := H.2.2.1 72 0 (n)) (b := H.2.2.1 72 0 (k)) hT k0gP (show -2147483648 ≤ (H.2.2.1 72 0 (n)) ∧ (H.2.2.1 72 0 (n)) ≤ 2147483647 from ⟨by omega, by omega⟩) (show -1 ≤ (H.2.2.1 72 0 (k)) ∧ (H.2.2.1 72 0 (k)) < 300 from ⟨by omega, by omega⟩)) ?_
              rintro v w H ⟨rfl, rfl, x442, rfl, r443⟩
              have r443' : 0 ≤ x442 ∧ x442 ≤ 1 := r443
              try dsimp only [Option.toList, List.append, List.cons_append, List.nil_append]
              refine J.ifc rfl rfl rfl (show -2147483648 ≤ x442 ∧ x442 ≤ 2147483647 from ⟨by omega, by omega⟩) (fun hc => ?_) (fun hc => ?_)
              · have c444 : ¬ (x442 = (0 : Int)) := hc
                clear hc
                refine J.run0 2 rfl ?_
                try dsimp only
                exact ih.2.2 (pairs) (gr) (apart) (n) (k + 1) H _ (show 100 * (16 - (n)) - 2 - (k + 1) < _ by omega) (show 0 ≤ (n) ∧ (n) < 16 from ⟨by omega, by omega⟩) (show 0 ≤ (k + 1) ∧ (k + 1) ≤ (n) from ⟨by omega, by omega⟩) (show 0 ≤ (gr) ∧ (gr) ≤ 300 from ⟨by omega, by omega⟩) hT hE k0gP k0gX k0gL k0gZ k0gQ k0gB k0gK k0gN k0gW (Or.inr (Or.inr (Or.inr (Or.inr (Or.inr (Or.inr (Or.inr (Or.inr (Or.inr (Or.inr (Or.inr (Or.inr (Or.inr (Or.inr (Or.inl rfl)))))))))))))))
              · have c445 : ¬ (¬ (x442 = (0 : Int))) := hc
                clear hc
                refine J.run0 3 rfl ?_
                try dsimp only
                exact ih.2.2 (pairs + 1) (gr) (apart) (n) (k + 1) H _ (show 100 * (16 - (n)) - 2 - (k + 1) < _ by omega) (show 0 ≤ (n) ∧ (n) < 16 from ⟨by omega, by omega⟩) (show 0 ≤ (k + 1) ∧ (k + 1) ≤ (n) from ⟨by omega, by omega⟩) (show 0 ≤ (gr) ∧ (gr) ≤ 300 from ⟨by omega, by omega⟩) hT hE k0gP k0gX k0gL k0gZ k0gQ k0gB k0gK k0gN k0gW (Or.inr (Or.inr (Or.inr (Or.inr (Or.inr (Or.inr (Or.inr (Or.inr (Or.inr (Or.inl rfl))))))))))
      · skip
        refine J.run0 2 rfl ?_
        try dsimp only
        refine J.icmp rfl rfl rfl ⟨(show -2147483648 ≤ k ∧ k ≤ 2147483647 from ⟨by omega, by omega⟩), (show -2147483648 ≤ n ∧ n ≤ 2147483647 from ⟨by omega, by omega⟩)⟩ (fun hc => ?_) (fun hc => ?_)
        · have c446 : n ≤ k := hc
          clear hc
          refine J.run0 2 rfl ?_
          try dsimp only
          exact ih.1 (pairs) (gr) (apart) (n + 1) H _ (show 100 * (16 - (n + 1)) < _ by omega) (show 0 ≤ (n + 1) ∧ (n + 1) ≤ 16 from ⟨by omega, by omega⟩) (show 0 ≤ (gr) ∧ (gr) ≤ 300 from ⟨by omega, by omega⟩) hT hE k0gP k0gX k0gL k0gZ k0gQ k0gB k0gK k0gN k0gW (Or.inr (Or.inr (Or.inr (Or.inr (Or.inr (Or.inr (⟨_, rfl⟩)))))))
        · have c447 : ¬ (n ≤ k) := hc
          clear hc
          have f448 : 0 ≤ H.2.2.1 79 0 (k) ∧ H.2.2.1 79 0 (k) ≤ 1 := hT.1 79 (k)
          refine J.run 4 rfl (show 0 ≤ k ∧ k < 16 from ⟨by omega, by omega⟩) ?_
          try dsimp only
          refine J.ifc rfl rfl rfl (show -2147483648 ≤ H.2.2.1 79 0 (k) ∧ H.2.2.1 79 0 (k) ≤ 2147483647 from ⟨by omega, by omega⟩) (fun hc => ?_) (fun hc => ?_)
          · have c449 : ¬ (H.2.2.1 79 0 (k) = (0 : Int)) := hc
            clear hc
            refine J.run0 2 rfl ?_
            try dsimp only
            exact ih.2.2 (pairs) (gr) (apart) (n) (k + 1) H _ (show 100 * (16 - (n)) - 2 - (k + 1) < _ by omega) (show 0 ≤ (n) ∧ (n) < 16 from ⟨by omega, by omega⟩) (show 0 ≤ (k + 1) ∧ (k + 1) ≤ (n) from ⟨by omega, by omega⟩) (show 0 ≤ (gr) ∧ (gr) ≤ 300 from ⟨by omega, by omega⟩) hT hE k0gP k0gX k0gL k0gZ k0gQ k0gB k0gK k0gN k0gW (Or.inr (Or.inr (Or.inr (Or.inr (Or.inr (Or.inr (Or.inr (Or.inr (Or.inr (Or.inr (Or.inr (Or.inr (Or.inr (Or.inr (Or.inr (rfl))))))))))))))))
          · have c450 : ¬ (¬ (H.2.2.1 79 0 (k) = (0 : Int))) := hc
            clear hc
            have f451 : 0 ≤ H.2.2.1 72 0 (k) ∧ H.2.2.1 72 0 (k) ≤ 299 := hT.1 72 (k)
            have f452 : 1 ≤ H.1 11 12 0 ∧ H.1 11 12 0 ≤ 300 := hT.2.1 12
            have f451b : H.2.2.1 72 0 (k) < H.1 11 12 0 := hT.2.2.1 72 (k) rfl
            have g453 : n = k → H.2.2.1 72 0 (n) = H.2.2.1 72 0 (k) := fun z => by rw [z]
            have f454 : 0 ≤ H.2.2.1 72 0 (n) ∧ H.2.2.1 72 0 (n) ≤ 299 := hT.1 72 (n)
            have f454b : H.2.2.1 72 0 (n) < H.1 11 12 0 := hT.2.2.1 72 (n) rfl
            refine J.run 9 rfl ⟨(show 0 ≤ k ∧ k < 16 from ⟨by omega, by omega⟩), (show 0 ≤ n ∧ n < 16 from ⟨by omega, by omega⟩)⟩ ?_
            try dsimp only
            refine J.inv rfl rfl rfl rfl rfl rfl jDr rfl rfl rfl rfl rfl (g_isAbove (above := H.2.2.1 72 0 (k)) (b := H.2.2.1 72 0 (n)) hT k0gP (show -2147483648 ≤ (H.2.2.1 72 0 (k)) ∧ (H.2.2.1 72 0 (k)) ≤ 2147483647 from ⟨by omega, by omega⟩) (show -1 ≤ (H.2.2.1 72 0 (n)) ∧ (H.2.2.1 72 0 (n)) < 300 from ⟨by omega, by omega⟩)) ?_
            rintro v w H ⟨rfl, rfl, x455, rfl, r456⟩
            have r456' : 0 ≤ x455 ∧ x455 ≤ 1 := r456
            try dsimp only [Option.toList, List.append, List.cons_append, List.nil_append]
            refine J.ifc rfl rfl rfl (show -2147483648 ≤ x455 ∧ x455 ≤ 2147483647 from ⟨by omega, by omega⟩) (fun hc => ?_) (fun hc => ?_)
            · have c457 : ¬ (x455 = (0 : Int)) := hc
              clear hc
              refine J.run0 2 rfl ?_
              try dsimp only
              exact ih.2.2 (pairs) (gr) (apart) (n) (k + 1) H _ (show 100 * (16 - (n)) - 2 - (k + 1) < _ by omega) (show 0 ≤ (n) ∧ (n) < 16 from ⟨by omega, by omega⟩) (show 0 ≤ (k + 1) ∧ (k + 1) ≤ (n) from ⟨by omega, by omega⟩) (show 0 ≤ (gr) ∧ (gr) ≤ 300 from ⟨by omega, by omega⟩) hT hE k0gP k0gX k0gL k0gZ k0gQ k0gB k0gK k0gN k0gW (Or.inr (Or.inr (Or.inr (Or.inr (Or.inr (Or.inr (Or.inr (Or.inr (Or.inr (Or.inr (Or.inr (Or.inr (Or.inr (Or.inr (Or.inr (rfl))))))))))))))))
            · have c458 : ¬ (¬ (x455 = (0 : Int))) := hc
              clear hc
              refine J.run 9 rfl ⟨(show 0 ≤ n ∧ n < 16 from ⟨by omega, by omega⟩), (show 0 ≤ k ∧ k < 16 from ⟨by omega, by omega⟩)⟩ ?_
              try dsimp only
              refine J.inv rfl rfl rfl rfl rfl rfl jDr rfl rfl rfl rfl rfl (g_isAbove (above := H.2.2.1 72 0 (n)) (b := H.2.2.1 72 0 (k)) hT k0gP (show -2147483648 ≤ (H.2.2.1 72 0 (n)) ∧ (H.2.2.1 72 0 (n)) ≤ 2147483647 from ⟨by omega, by omega⟩) (show -1 ≤ (H.2.2.1 72 0 (k)) ∧ (H.2.2.1 72 0 (k)) < 300 from ⟨by omega, by omega⟩)) ?_
              rintro v w H ⟨rfl, rfl, x459, rfl, r460⟩
              have r460' : 0 ≤ x459 ∧ x459 ≤ 1 := r460
              try dsimp only [Option.toList, List.append, List.cons_append, List.nil_append]
              refine J.ifc rfl rfl rfl (show -2147483648 ≤ x459 ∧ x459 ≤ 2147483647 from ⟨by omega, by omega⟩) (fun hc => ?_) (fun hc => ?_)
              · have c461 : ¬ (x459 = (0 : Int)) := hc
                clear hc
                refine J.run0 2 rfl ?_
                try dsimp only
                exact ih.2.2 (pairs) (gr) (apart) (n) (k + 1) H _ (show 100 * (16 - (n)) - 2 - (k + 1) < _ by omega) (show 0 ≤ (n) ∧ (n) < 16 from ⟨by omega, by omega⟩) (show 0 ≤ (k + 1) ∧ (k + 1) ≤ (n) from ⟨by omega, by omega⟩) (show 0 ≤ (gr) ∧ (gr) ≤ 300 from ⟨by omega, by omega⟩) hT hE k0gP k0gX k0gL k0gZ k0gQ k0gB k0gK k0gN k0gW (Or.inr (Or.inr (Or.inr (Or.inr (Or.inr (Or.inr (Or.inr (Or.inr (Or.inr (Or.inr (Or.inr (Or.inr (Or.inr (Or.inr (Or.inr (rfl))))))))))))))))
              · have c462 : ¬ (¬ (x459 = (0 : Int))) := hc
                clear hc
                refine J.run0 3 rfl ?_
                try dsimp only
                exact ih.2.2 (pairs + 1) (gr) (apart) (n) (k + 1) H _ (show 100 * (16 - (n)) - 2 - (k + 1) < _ by omega) (show 0 ≤ (n) ∧ (n) < 16 from ⟨by omega, by omega⟩) (show 0 ≤ (k + 1) ∧ (k + 1) ≤ (n) from ⟨by omega, by omega⟩) (show 0 ≤ (gr) ∧ (gr) ≤ 300 from ⟨by omega, by omega⟩) hT hE k0gP k0gX k0gL k0gZ k0gQ k0gB k0gK k0gN k0gW (Or.inr (Or.inr (Or.inr (Or.inr (Or.inl rfl)))))
-- 
theorem g_count {what : Int} {H : jH} (hT : gT H) (k0gP : gP H) (k0gX : gX H) (k0gL : gL H) (k0gZ : gZ H) (k0gQ : gQ H) (k0gB : gB H) (k0gK : gK H) (k0gN : gN H) (k0gW : gW H (H.1 11 19 0)) (hp0 : -2147483648 ≤ what ∧ what ≤ 2147483647) : J true (d + 1) 169 w (0, jargs 0 [jT, .inl what], [], H) (jN fun v w' H' => w' = w ∧ gT H' ∧ jEx [47] [109] H' H ∧ gP H' ∧ gX H' ∧ gL H' ∧ gZ H' ∧ gQ H' ∧ gB H' ∧ gK H' ∧ gN H' ∧ gW H' (H'.1 11 19 0) ∧ ∃ x, v = some (.inl x) ∧ True) := by
  have hE : jEx [47] [109] H H := jEx.refl _ _ _
  refine J.run0 4 rfl ?_
  try dsimp only
  refine J.ins rfl rfl rfl rfl rfl rfl rfl rfl rfl (g_in (u := what) (a := (0 : Int)) (b := (8 : Int)) hT  (show -2147483648 ≤ (what) ∧ (what) ≤ 2147483647 from ⟨by omega, by omega⟩) (show -2147483648 ≤ ((0 : Int)) ∧ ((0 : Int)) ≤ 2147483647 from ⟨by omega, by omega⟩) (show -2147483648 ≤ ((8 : Int)) ∧ ((8 : Int)) ≤ 2147483647 from ⟨by omega, by omega⟩)) ?_
  rintro v w H ⟨rfl, rfl, x463, rfl, r464⟩
  have r464' : (x463 = 0 ∨ x463 = 1) ∧ (x463 = 1 → (what) ≥ ((0 : Int)) ∧ (what) ≤ ((8 : Int))) ∧ (x463 = 0 → (what) < ((0 : Int)) ∨ ((8 : Int)) < (what)) := r464
  try dsimp only [Option.toList, List.append, List.cons_append, List.nil_append]
  refine J.ifc rfl rfl rfl (show -2147483648 ≤ x463 ∧ x463 ≤ 2147483647 from ⟨by omega, by omega⟩) (fun hc => ?_) (fun hc => ?_)
  · have c465 : x463 = (0 : Int) := hc
    clear hc
    refine J.run0 2 rfl ?_
    try dsimp only
    refine J.gn fun H466 hH466 => ?_
    have hT467 : gT H466 := by rw [hH466]; exact gT.num (f := 47) hT (show 0 ≤ (1 : Int) ∧ (1 : Int) ≤ 3 from ⟨by omega, by omega⟩) (by decide) (fun z => absurd z (by decide))
    have hE468 : jEx [47] [109] H466 H := by rw [hH466]; exact jEx.num hE (by decide)
    have k469 : gP H466 := by rw [hH466]; exact k0gP
    have k470 : gX H466 := by rw [hH466]; exact k0gX
    have k471 : gL H466 := by rw [hH466]; exact k0gL
    have k472 : gZ H466 := by rw [hH466]; exact k0gZ
    have k473 : gQ H466 := by rw [hH466]; exact k0gQ
    have k474 : gB H466 := by rw [hH466]; exact k0gB
    have k475 : gK H466 := by rw [hH466]; exact k0gK
    have k476 : gN H466 := by rw [hH466]; exact k0gN
    have k477 : gW H466 (H466.1 11 19 0) := by rw [hH466]; exact k0gW
    have g478 : H466.1 11 47 0 = (1 : Int) := by subst hH466; rfl
    have g479 : H466.1 11 12 0 = H.1 11 12 0 := by subst hH466; rfl
    clear hH466
    have f480 : 0 ≤ H466.1 11 47 0 ∧ H466.1 11 47 0 ≤ 3 := hT467.2.1 47
    refine J.run0 2 rfl ?_
    try dsimp only
    refine J.ifc rfl rfl rfl (show -2147483648 ≤ H466.1 11 47 0 ∧ H466.1 11 47 0 ≤ 2147483647 from ⟨by omega, by omega⟩) (fun hc => ?_) (fun hc => ?_)
    · have c481 : H466.1 11 47 0 ≤ (0 : Int) := hc
      clear hc
      refine J.run0 1 rfl ?_
      try dsimp only
      refine J.ifc rfl rfl rfl (show -2147483648 ≤ what ∧ what ≤ 2147483647 from ⟨by omega, by omega⟩) (fun hc => ?_) (fun hc => ?_)
      · have c482 : ¬ (what = (0 : Int)) := hc
        clear hc
        refine J.run0 2 rfl ?_
        try dsimp only
        refine J.icmp rfl rfl rfl ⟨(show -2147483648 ≤ what ∧ what ≤ 2147483647 from ⟨by omega, by omega⟩), (show -2147483648 ≤ (1 : Int) ∧ (1 : Int) ≤ 2147483647 from ⟨by omega, by omega⟩)⟩ (fun hc => ?_) (fun hc => ?_)
        · have c483 : ¬ (what = (1 : Int)) := hc
          clear hc
          refine J.run0 2 rfl ?_
          try dsimp only
          refine J.icmp rfl rfl rfl ⟨(show -2147483648 ≤ what ∧ what ≤ 2147483647 from ⟨by omega, by omega⟩), (show -2147483648 ≤ (2 : Int) ∧ (2 : Int) ≤ 2147483647 from ⟨by omega, by omega⟩)⟩ (fun hc => ?_) (fun hc => ?_)
          · have c484 : ¬ (what = (2 : Int)) := hc
            clear hc
            refine J.run0 2 rfl ?_
            try dsimp only
            refine J.icmp rfl rfl rfl ⟨(show -2147483648 ≤ what ∧ what ≤ 2147483647 from ⟨by omega, by omega⟩), (show -2147483648 ≤ (3 : Int) ∧ (3 : Int) ≤ 2147483647 from ⟨by omega, by omega⟩)⟩ (fun hc => ?_) (fun hc => ?_)
            · have c485 : ¬ (what = (3 : Int)) := hc
              clear hc
              refine J.run0 2 rfl ?_
              try dsimp only
              refine J.icmp rfl rfl rfl ⟨(show -2147483648 ≤ what ∧ what ≤ 2147483647 from ⟨by omega, by omega⟩), (show -2147483648 ≤ (4 : Int) ∧ (4 : Int) ≤ 2147483647 from ⟨by omega, by omega⟩)⟩ (fun hc => ?_) (fun hc => ?_)
              · have c486 : ¬ (what = (4 : Int)) := hc
                clear hc
                refine J.run0 2 rfl ?_
                try dsimp only
                refine J.icmp rfl rfl rfl ⟨(show -2147483648 ≤ what ∧ what ≤ 2147483647 from ⟨by omega, by omega⟩), (show -2147483648 ≤ (8 : Int) ∧ (8 : Int) ≤ 2147483647 from ⟨by omega, by omega⟩)⟩ (fun hc => ?_) (fun hc => ?_)
                · have c487 : ¬ (what = (8 : Int)) := hc
                  clear hc
                  refine J.run0 8 rfl ?_
                  try dsimp only
                  exact (g_count_l0 (H0 := H) (what := what)  hp0 ((100 * (16 - ((0 : Int))) : Int).toNat + 1)).1 ((0 : Int)) ((0 : Int)) ((0 : Int)) ((0 : Int)) H466 _ (show 100 * (16 - ((0 : Int))) < _ by omega) (show 0 ≤ ((0 : Int)) ∧ ((0 : Int)) ≤ 16 from ⟨by omega, by omega⟩) (show 0 ≤ ((0 : Int)) ∧ ((0 : Int)) ≤ 300 from ⟨by omega, by omega⟩) hT467 hE468 k469 k470 k471 k472 k473 k474 k475 k476 k477 (Or.inl rfl)
                · have c488 : ¬ (¬ (what = (8 : Int))) := hc
                  clear hc
                  refine J.run0 1 rfl ?_
                  try dsimp only
                  refine J.inv rfl rfl rfl rfl rfl rfl jDr rfl rfl rfl rfl rfl (g_doubles  hT467  ) ?_
                  rintro v w H491 ⟨rfl, hT492, ehE493, x489, rfl, r490⟩
                  have hE493 := jEx.trans ehE493 hE468 (by decide) (by decide)
                  have r490' : True := r490
                  have k494 : gP H491 := gP.ex k469 ehE493 (by decide)
                  have k495 : gX H491 := gX.ex k470 ehE493 (by decide)
                  have k496 : gL H491 := gL.ex k471 ehE493 (by decide)
                  have k497 : gZ H491 := gZ.ex k472 ehE493 (by decide)
                  have k498 : gQ H491 := gQ.ex k473 ehE493 (by decide)
                  have k499 : gB H491 := gB.ex k474 ehE493 (by decide)
                  have k500 : gK H491 := gK.ex k475 ehE493 (by decide)
                  have k501 : gN H491 := gN.ex k476 ehE493 (by decide)
                  have k502 : gW H491 (H491.1 11 19 0) := gWm.ex k477 ehE493 (by decide)
                  have g503 : H491.1 11 12 0 = H466.1 11 12 0 := ehE493.v 12 (by decide)
                  try dsimp only [Option.toList, List.append, List.cons_append, List.nil_append]
                  exact J.reti rfl rfl rfl ⟨_, rfl, rfl, hT492, hE493, k494, k495, k496, k497, k498, k499, k500, k501, k502, _, rfl, (show True from trivial)⟩
              · have c504 : ¬ (¬ (what = (4 : Int))) := hc
                clear hc
                have f505 : 0 ≤ H466.1 11 45 0 ∧ H466.1 11 45 0 ≤ 299 := hT467.2.1 45
                have f506 : 1 ≤ H466.1 11 12 0 ∧ H466.1 11 12 0 ≤ 300 := hT467.2.1 12
                have f505b : H466.1 11 45 0 < H466.1 11 12 0 := hT467.2.2.2 45 rfl
                refine J.run0 2 rfl ?_
                try dsimp only
                exact J.reti rfl rfl rfl ⟨_, rfl, rfl, hT467, hE468, k469, k470, k471, k472, k473, k474, k475, k476, k477, _, rfl, (show True from trivial)⟩
            · have c507 : ¬ (¬ (what = (3 : Int))) := hc
              clear hc
              refine J.run0 1 rfl ?_
              try dsimp only
              refine J.inv rfl rfl rfl rfl rfl rfl jDr rfl rfl rfl rfl rfl (g_faulty  hT467  ) ?_
              rintro v w H466 ⟨rfl, rfl, x508, rfl, r509⟩
              have r509' : x508 = jcnt (H466.2.2.1 79 0) 16 ∧ 0 ≤ x508 ∧ x508 ≤ 16 := r509
              try dsimp only [Option.toList, List.append, List.cons_append, List.nil_append]
              exact J.reti rfl rfl rfl ⟨_, rfl, rfl, hT467, hE468, k469, k470, k471, k472, k473, k474, k475, k476, k477, _, rfl, (show True from trivial)⟩
          · have c510 : ¬ (¬ (what = (2 : Int))) := hc
            clear hc
            have f511 : 1 ≤ H466.1 11 12 0 ∧ H466.1 11 12 0 ≤ 300 := hT467.2.1 12
            refine J.run0 2 rfl ?_
            try dsimp only
            exact J.reti rfl rfl rfl ⟨_, rfl, rfl, hT467, hE468, k469, k470, k471, k472, k473, k474, k475, k476, k477, _, rfl, (show True from trivial)⟩
        · have c512 : ¬ (¬ (what = (1 : Int))) := hc
          clear hc
          have f513 : 0 ≤ H466.1 11 19 0 ∧ H466.1 11 19 0 ≤ 6000 := hT467.2.1 19
          refine J.run0 2 rfl ?_
          try dsimp only
          exact J.reti rfl rfl rfl ⟨_, rfl, rfl, hT467, hE468, k469, k470, k471, k472, k473, k474, k475, k476, k477, _, rfl, (show True from trivial)⟩
      · have c514 : ¬ (¬ (what = (0 : Int))) := hc
        clear hc
        have f515 : 0 ≤ H466.1 11 4 0 ∧ H466.1 11 4 0 ≤ 1500 := hT467.2.1 4
        refine J.run0 2 rfl ?_
        try dsimp only
        exact J.reti rfl rfl rfl ⟨_, rfl, rfl, hT467, hE468, k469, k470, k471, k472, k473, k474, k475, k476, k477, _, rfl, (show True from trivial)⟩
    · have c516 : ¬ (H466.1 11 47 0 ≤ (0 : Int)) := hc
      clear hc
      refine J.run0 1 rfl ?_
      try dsimp only
      exact J.reti rfl rfl rfl ⟨_, rfl, rfl, hT467, hE468, k469, k470, k471, k472, k473, k474, k475, k476, k477, _, rfl, (show True from trivial)⟩
  · have c517 : ¬ (x463 = (0 : Int)) := hc
    clear hc
    refine J.run0 3 rfl ?_
    try dsimp only
    refine J.gn fun H518 hH518 => ?_
    have hT519 : gT H518 := by rw [hH518]; exact gT.num (f := 47) hT (show 0 ≤ (0 : Int) ∧ (0 : Int) ≤ 3 from ⟨by omega, by omega⟩) (by decide) (fun z => absurd z (by decide))
    have hE520 : jEx [47] [109] H518 H := by rw [hH518]; exact jEx.num hE (by decide)
    have k521 : gP H518 := by rw [hH518]; exact k0gP
    have k522 : gX H518 := by rw [hH518]; exact k0gX
    have k523 : gL H518 := by rw [hH518]; exact k0gL
    have k524 : gZ H518 := by rw [hH518]; exact k0gZ
    have k525 : gQ H518 := by rw [hH518]; exact k0gQ
    have k526 : gB H518 := by rw [hH518]; exact k0gB
    have k527 : gK H518 := by rw [hH518]; exact k0gK
    have k528 : gN H518 := by rw [hH518]; exact k0gN
    have k529 : gW H518 (H518.1 11 19 0) := by rw [hH518]; exact k0gW
    have g530 : H518.1 11 47 0 = (0 : Int) := by subst hH518; rfl
    have g531 : H518.1 11 12 0 = H.1 11 12 0 := by subst hH518; rfl
    clear hH518
    have f532 : 0 ≤ H518.1 11 47 0 ∧ H518.1 11 47 0 ≤ 3 := hT519.2.1 47
    refine J.run0 2 rfl ?_
    try dsimp only
    refine J.ifc rfl rfl rfl (show -2147483648 ≤ H518.1 11 47 0 ∧ H518.1 11 47 0 ≤ 2147483647 from ⟨by omega, by omega⟩) (fun hc => ?_) (fun hc => ?_)
    · have c533 : H518.1 11 47 0 ≤ (0 : Int) := hc
      clear hc
      refine J.run0 1 rfl ?_
      try dsimp only
      refine J.ifc rfl rfl rfl (show -2147483648 ≤ what ∧ what ≤ 2147483647 from ⟨by omega, by omega⟩) (fun hc => ?_) (fun hc => ?_)
      · have c534 : ¬ (what = (0 : Int)) := hc
        clear hc
        refine J.run0 2 rfl ?_
        try dsimp only
        refine J.icmp rfl rfl rfl ⟨(show -2147483648 ≤ what ∧ what ≤ 2147483647 from ⟨by omega, by omega⟩), (show -2147483648 ≤ (1 : Int) ∧ (1 : Int) ≤ 2147483647 from ⟨by omega, by omega⟩)⟩ (fun hc => ?_) (fun hc => ?_)
        · have c535 : ¬ (what = (1 : Int)) := hc
          clear hc
          refine J.run0 2 rfl ?_
          try dsimp only
          refine J.icmp rfl rfl rfl ⟨(show -2147483648 ≤ what ∧ what ≤ 2147483647 from ⟨by omega, by omega⟩), (show -2147483648 ≤ (2 : Int) ∧ (2 : Int) ≤ 2147483647 from ⟨by omega, by omega⟩)⟩ (fun hc => ?_) (fun hc => ?_)
          · have c536 : ¬ (what = (2 : Int)) := hc
            clear hc
            refine J.run0 2 rfl ?_
            try dsimp only
            refine J.icmp rfl rfl rfl ⟨(show -2147483648 ≤ what ∧ what ≤ 2147483647 from ⟨by omega, by omega⟩), (show -2147483648 ≤ (3 : Int) ∧ (3 : Int) ≤ 2147483647 from ⟨by omega, by omega⟩)⟩ (fun hc => ?_) (fun hc => ?_)
            · have c537 : ¬ (what = (3 : Int)) := hc
              clear hc
              refine J.run0 2 rfl ?_
              try dsimp only
              refine J.icmp rfl rfl rfl ⟨(show -2147483648 ≤ what ∧ what ≤ 2147483647 from ⟨by omega, by omega⟩), (show -2147483648 ≤ (4 : Int) ∧ (4 : Int) ≤ 2147483647 from ⟨by omega, by omega⟩)⟩ (fun hc => ?_) (fun hc => ?_)
              · have c538 : ¬ (what = (4 : Int)) := hc
                clear hc
                refine J.run0 2 rfl ?_
                try dsimp only
                refine J.icmp rfl rfl rfl ⟨(show -2147483648 ≤ what ∧ what ≤ 2147483647 from ⟨by omega, by omega⟩), (show -2147483648 ≤ (8 : Int) ∧ (8 : Int) ≤ 2147483647 from ⟨by omega, by omega⟩)⟩ (fun hc => ?_) (fun hc => ?_)
                · have c539 : ¬ (what = (8 : Int)) := hc
                  clear hc
                  refine J.run0 8 rfl ?_
                  try dsimp only
                  exact (g_count_l0 (H0 := H) (what := what)  hp0 ((100 * (16 - ((0 : Int))) : Int).toNat + 1)).1 ((0 : Int)) ((0 : Int)) ((0 : Int)) ((0 : Int)) H518 _ (show 100 * (16 - ((0 : Int))) < _ by omega) (show 0 ≤ ((0 : Int)) ∧ ((0 : Int)) ≤ 16 from ⟨by omega, by omega⟩) (show 0 ≤ ((0 : Int)) ∧ ((0 : Int)) ≤ 300 from ⟨by omega, by omega⟩) hT519 hE520 k521 k522 k523 k524 k525 k526 k527 k528 k529 (Or.inl rfl)
                · have c540 : ¬ (¬ (what = (8 : Int))) := hc
                  clear hc
                  refine J.run0 1 rfl ?_
                  try dsimp only
                  refine J.inv rfl rfl rfl rfl rfl rfl jDr rfl rfl rfl rfl rfl (g_doubles  hT519  ) ?_
                  rintro v w H543 ⟨rfl, hT544, ehE545, x541, rfl, r542⟩
                  have hE545 := jEx.trans ehE545 hE520 (by decide) (by decide)
                  have r542' : True := r542
                  have k546 : gP H543 := gP.ex k521 ehE545 (by decide)
                  have k547 : gX H543 := gX.ex k522 ehE545 (by decide)
                  have k548 : gL H543 := gL.ex k523 ehE545 (by decide)
                  have k549 : gZ H543 := gZ.ex k524 ehE545 (by decide)
                  have k550 : gQ H543 := gQ.ex k525 ehE545 (by decide)
                  have k551 : gB H543 := gB.ex k526 ehE545 (by decide)
                  have k552 : gK H543 := gK.ex k527 ehE545 (by decide)
                  have k553 : gN H543 := gN.ex k528 ehE545 (by decide)
                  have k554 : gW H543 (H543.1 11 19 0) := gWm.ex k529 ehE545 (by decide)
                  have g555 : H543.1 11 12 0 = H518.1 11 12 0 := ehE545.v 12 (by decide)
                  try dsimp only [Option.toList, List.append, List.cons_append, List.nil_append]
                  exact J.reti rfl rfl rfl ⟨_, rfl, rfl, hT544, hE545, k546, k547, k548, k549, k550, k551, k552, k553, k554, _, rfl, (show True from trivial)⟩
              · have c556 : ¬ (¬ (what = (4 : Int))) := hc
                clear hc
                have f557 : 0 ≤ H518.1 11 45 0 ∧ H518.1 11 45 0 ≤ 299 := hT519.2.1 45
                have f558 : 1 ≤ H518.1 11 12 0 ∧ H518.1 11 12 0 ≤ 300 := hT519.2.1 12
                have f557b : H518.1 11 45 0 < H518.1 11 12 0 := hT519.2.2.2 45 rfl
                refine J.run0 2 rfl ?_
                try dsimp only
                exact J.reti rfl rfl rfl ⟨_, rfl, rfl, hT519, hE520, k521, k522, k523, k524, k525, k526, k527, k528, k529, _, rfl, (show True from trivial)⟩
            · have c559 : ¬ (¬ (what = (3 : Int))) := hc
              clear hc
              refine J.run0 1 rfl ?_
              try dsimp only
              refine J.inv rfl rfl rfl rfl rfl rfl jDr rfl rfl rfl rfl rfl (g_faulty  hT519  ) ?_
              rintro v w H518 ⟨rfl, rfl, x560, rfl, r561⟩
              have r561' : x560 = jcnt (H518.2.2.1 79 0) 16 ∧ 0 ≤ x560 ∧ x560 ≤ 16 := r561
              try dsimp only [Option.toList, List.append, List.cons_append, List.nil_append]
              exact J.reti rfl rfl rfl ⟨_, rfl, rfl, hT519, hE520, k521, k522, k523, k524, k525, k526, k527, k528, k529, _, rfl, (show True from trivial)⟩
          · have c562 : ¬ (¬ (what = (2 : Int))) := hc
            clear hc
            have f563 : 1 ≤ H518.1 11 12 0 ∧ H518.1 11 12 0 ≤ 300 := hT519.2.1 12
            refine J.run0 2 rfl ?_
            try dsimp only
            exact J.reti rfl rfl rfl ⟨_, rfl, rfl, hT519, hE520, k521, k522, k523, k524, k525, k526, k527, k528, k529, _, rfl, (show True from trivial)⟩
        · have c564 : ¬ (¬ (what = (1 : Int))) := hc
          clear hc
          have f565 : 0 ≤ H518.1 11 19 0 ∧ H518.1 11 19 0 ≤ 6000 := hT519.2.1 19
          refine J.run0 2 rfl ?_
          try dsimp only
          exact J.reti rfl rfl rfl ⟨_, rfl, rfl, hT519, hE520, k521, k522, k523, k524, k525, k526, k527, k528, k529, _, rfl, (show True from trivial)⟩
      · have c566 : ¬ (¬ (what = (0 : Int))) := hc
        clear hc
        have f567 : 0 ≤ H518.1 11 4 0 ∧ H518.1 11 4 0 ≤ 1500 := hT519.2.1 4
        refine J.run0 2 rfl ?_
        try dsimp only
        exact J.reti rfl rfl rfl ⟨_, rfl, rfl, hT519, hE520, k521, k522, k523, k524, k525, k526, k527, k528, k529, _, rfl, (show True from trivial)⟩
    · have c568 : ¬ (H518.1 11 47 0 ≤ (0 : Int)) := hc
      clear hc
      refine J.run0 1 rfl ?_
      try dsimp only
      exact J.reti rfl rfl rfl ⟨_, rfl, rfl, hT519, hE520, k521, k522, k523, k524, k525, k526, k527, k528, k529, _, rfl, (show True from trivial)⟩
end
