-- M: X11_isSent
section
variable {d : Nat} {w : jW} 
-- 
theorem g_isSent_l0 {b r both : Int} {H0 : jH} (hp0 : 0 ≤ b ∧ b < 300) (hp1 : b < H0.1 11 12 0) (hp2 : -2147483648 ≤ r ∧ r ≤ 2147483647) (hp3 : 0 ≤ both ∧ both ≤ 1) : ∀ (m : Nat), (∀ (cl all part su sound k : Int) (H : jH) (lv : jL), 16 - k < (m : Int) → (0 ≤ k ∧ k ≤ 16) → (0 ≤ sound ∧ sound ≤ 1) → (0 ≤ cl ∧ cl ≤ 40320000 * k) → (0 ≤ all ∧ all ≤ 40320000 * k) → (0 ≤ part ∧ part ≤ 40320000 * k) → (0 ≤ su ∧ su ≤ 40320000 * k) → (b < H.1 11 12 0) → gT H → jEx [48, 56, 57] [108, 99, 100, 101, 105, 102, 103, 104, 61, 81] H H0 → gP H → gX H → gL H → gZ H → gQ H → gB H → gK H → gN H → gW H (H.1 11 19 0) → (lv = [(9, .inl k), (8, .inl sound), (7, .inl su), (6, .inl part), (5, .inl all), (4, .inl cl), (0, jT), (1, .inl b), (2, .inl r), (3, .inl both)] ∨ (∃ j10 : Int, lv = [(9, .inl k), (7, .inl su), (5, .inl all), (10, .inl j10), (8, .inl sound), (6, .inl part), (4, .inl cl), (0, jT), (1, .inl b), (2, .inl r), (3, .inl both)]) ∨ (∃ j10 : Int, lv = [(9, .inl k), (6, .inl part), (4, .inl cl), (7, .inl su), (5, .inl all), (10, .inl j10), (8, .inl sound), (0, jT), (1, .inl b), (2, .inl r), (3, .inl both)]) ∨ (∃ j10 : Int, lv = [(9, .inl k), (7, .inl su), (5, .inl all), (10, .inl j10), (6, .inl part), (4, .inl cl), (8, .inl sound), (0, jT), (1, .inl b), (2, .inl r), (3, .inl both)])) → J true (d + 303) 164 w (122, lv, [], H) (jN fun v w' H' => w' = w ∧ gT H' ∧ jEx [48, 56, 57] [108, 99, 100, 101, 105, 102, 103, 104, 61, 81] H' H0 ∧ gP H' ∧ gX H' ∧ gL H' ∧ gZ H' ∧ gQ H' ∧ gB H' ∧ gK H' ∧ gN H' ∧ gW H' (H'.1 11 19 0) ∧ ∃ x, v = some (.inl x) ∧ 0 ≤ x ∧ x ≤ 1)) := by
  intro m
  induction m with
  | zero =>
    skip
    · intro cl all part su sound k H lv hm hi0 hi1 hi2 hi3 hi4 hi5 hi6 hT hE k0gP k0gX k0gL k0gZ k0gQ k0gB k0gK k0gN k0gW hlv
      exfalso
      omega
  | succ m ih =>
    skip
    · intro cl all part su sound k H lv hm hi0 hi1 hi2 hi3 hi4 hi5 hi6 hT hE k0gP k0gX k0gL k0gZ k0gQ k0gB k0gK k0gN k0gW hlv
      rcases hlv with rfl | ⟨j10, rfl⟩ | ⟨j10, rfl⟩ | ⟨j10, rfl⟩
      · skip
        refine J.run0 2 rfl ?_
        try dsimp only
        refine J.icmp rfl rfl rfl ⟨(show -2147483648 ≤ k ∧ k ≤ 2147483647 from ⟨by omega, by omega⟩), (show -2147483648 ≤ (16 : Int) ∧ (16 : Int) ≤ 2147483647 from ⟨by omega, by omega⟩)⟩ (fun hc => ?_) (fun hc => ?_)
        · have c1 : (16 : Int) ≤ k := hc
          clear hc
          refine J.run0 6 rfl ?_
          try dsimp only
          refine J.icmp rfl rfl rfl ⟨(show -2147483648 ≤ (3 : Int) * cl ∧ (3 : Int) * cl ≤ 2147483647 from ⟨by omega, by omega⟩), (show -2147483648 ≤ (2 : Int) * all ∧ (2 : Int) * all ≤ 2147483647 from ⟨by omega, by omega⟩)⟩ (fun hc => ?_) (fun hc => ?_)
          · have c2 : (3 : Int) * cl ≤ (2 : Int) * all := hc
            clear hc
            refine J.run0 1 rfl ?_
            try dsimp only
            exact J.retb rfl rfl rfl (show (0 : Int) = 0 ∨ (0 : Int) = 1 by omega) ⟨_, rfl, rfl, hT, hE, k0gP, k0gX, k0gL, k0gZ, k0gQ, k0gB, k0gK, k0gN, k0gW, _, rfl, (show 0 ≤ ((0 : Int)) ∧ ((0 : Int)) ≤ 1 from ⟨by omega, by omega⟩)⟩
          · have c3 : ¬ ((3 : Int) * cl ≤ (2 : Int) * all) := hc
            clear hc
            refine J.run0 1 rfl ?_
            try dsimp only
            refine J.ifc rfl rfl rfl (show -2147483648 ≤ both ∧ both ≤ 2147483647 from ⟨by omega, by omega⟩) (fun hc => ?_) (fun hc => ?_)
            · have c4 : both = (0 : Int) := hc
              clear hc
              refine J.run0 2 rfl ?_
              try dsimp only
              exact J.retb rfl rfl rfl (show (1 : Int) = 0 ∨ (1 : Int) = 1 by omega) ⟨_, rfl, rfl, hT, hE, k0gP, k0gX, k0gL, k0gZ, k0gQ, k0gB, k0gK, k0gN, k0gW, _, rfl, (show 0 ≤ ((1 : Int)) ∧ ((1 : Int)) ≤ 1 from ⟨by omega, by omega⟩)⟩
            · have c5 : ¬ (both = (0 : Int)) := hc
              clear hc
              refine J.run0 4 rfl ?_
              try dsimp only
              refine J.icmp rfl rfl rfl ⟨(show -2147483648 ≤ (3 : Int) * part ∧ (3 : Int) * part ≤ 2147483647 from ⟨by omega, by omega⟩), (show -2147483648 ≤ su ∧ su ≤ 2147483647 from ⟨by omega, by omega⟩)⟩ (fun hc => ?_) (fun hc => ?_)
              · have c6 : (3 : Int) * part ≤ su := hc
                clear hc
                refine J.run0 1 rfl ?_
                try dsimp only
                exact J.retb rfl rfl rfl (show (0 : Int) = 0 ∨ (0 : Int) = 1 by omega) ⟨_, rfl, rfl, hT, hE, k0gP, k0gX, k0gL, k0gZ, k0gQ, k0gB, k0gK, k0gN, k0gW, _, rfl, (show 0 ≤ ((0 : Int)) ∧ ((0 : Int)) ≤ 1 from ⟨by omega, by omega⟩)⟩
              · have c7 : ¬ ((3 : Int) * part ≤ su) := hc
                clear hc
                refine J.run0 2 rfl ?_
                try dsimp only
                exact J.retb rfl rfl rfl (show (1 : Int) = 0 ∨ (1 : Int) = 1 by omega) ⟨_, rfl, rfl, hT, hE, k0gP, k0gX, k0gL, k0gZ, k0gQ, k0gB, k0gK, k0gN, k0gW, _, rfl, (show 0 ≤ ((1 : Int)) ∧ ((1 : Int)) ≤ 1 from ⟨by omega, by omega⟩)⟩
        · have c8 : ¬ ((16 : Int) ≤ k) := hc
          clear hc
          refine J.run0 1 rfl ?_
          try dsimp only
          refine J.ifc rfl rfl rfl (show -2147483648 ≤ sound ∧ sound ≤ 2147483647 from ⟨by omega, by omega⟩) (fun hc => ?_) (fun hc => ?_)
          · have c9 : sound = (0 : Int) := hc
            clear hc
            have f10 : 0 ≤ H.2.2.1 60 0 (((16 : Int) * b) + k) ∧ H.2.2.1 60 0 (((16 : Int) * b) + k) ≤ 40320000 := hT.1 60 (((16 : Int) * b) + k)
            have f11 : 0 ≤ H.2.2.1 81 0 (k) ∧ H.2.2.1 81 0 (k) ≤ 1 := hT.1 81 (k)
            refine J.run 21 rfl ⟨(show 0 ≤ ((16 : Int) * b) + k ∧ ((16 : Int) * b) + k < 4800 from ⟨by omega, by omega⟩), (show 0 ≤ k ∧ k < 16 from ⟨by omega, by omega⟩)⟩ ?_
            try dsimp only
            refine J.ifc rfl rfl rfl (show -2147483648 ≤ H.2.2.1 81 0 (k) ∧ H.2.2.1 81 0 (k) ≤ 2147483647 from ⟨by omega, by omega⟩) (fun hc => ?_) (fun hc => ?_)
            · have c12 : H.2.2.1 81 0 (k) = (0 : Int) := hc
              clear hc
              refine J.run0 2 rfl ?_
              try dsimp only
              exact ih (cl) (all + (H.2.2.1 60 0 (((16 : Int) * b) + k))) (part) (su + (0 : Int)) (sound) (k + 1) H _ (show 16 - (k + 1) < _ by omega) (show 0 ≤ (k + 1) ∧ (k + 1) ≤ 16 from ⟨by omega, by omega⟩) (show 0 ≤ (sound) ∧ (sound) ≤ 1 from ⟨by omega, by omega⟩) (show 0 ≤ (cl) ∧ (cl) ≤ 40320000 * (k + 1) from ⟨by omega, by omega⟩) (show 0 ≤ (all + (H.2.2.1 60 0 (((16 : Int) * b) + k))) ∧ (all + (H.2.2.1 60 0 (((16 : Int) * b) + k))) ≤ 40320000 * (k + 1) from ⟨by omega, by omega⟩) (show 0 ≤ (part) ∧ (part) ≤ 40320000 * (k + 1) from ⟨by omega, by omega⟩) (show 0 ≤ (su + (0 : Int)) ∧ (su + (0 : Int)) ≤ 40320000 * (k + 1) from ⟨by omega, by omega⟩) (show b < H.1 11 12 0 from by omega) hT hE k0gP k0gX k0gL k0gZ k0gQ k0gB k0gK k0gN k0gW (Or.inr (Or.inl ⟨_, rfl⟩))
            · have c13 : ¬ (H.2.2.1 81 0 (k) = (0 : Int)) := hc
              clear hc
              refine J.run 17 rfl (show 0 ≤ ((16 : Int) * b) + k ∧ ((16 : Int) * b) + k < 4800 from ⟨by omega, by omega⟩) ?_
              try dsimp only
              exact ih (cl + (H.2.2.1 60 0 (((16 : Int) * b) + k))) (all + (H.2.2.1 60 0 (((16 : Int) * b) + k))) (part + (0 : Int)) (su + (0 : Int)) (sound) (k + 1) H _ (show 16 - (k + 1) < _ by omega) (show 0 ≤ (k + 1) ∧ (k + 1) ≤ 16 from ⟨by omega, by omega⟩) (show 0 ≤ (sound) ∧ (sound) ≤ 1 from ⟨by omega, by omega⟩) (show 0 ≤ (cl + (H.2.2.1 60 0 (((16 : Int) * b) + k))) ∧ (cl + (H.2.2.1 60 0 (((16 : Int) * b) + k))) ≤ 40320000 * (k + 1) from ⟨by omega, by omega⟩) (show 0 ≤ (all + (H.2.2.1 60 0 (((16 : Int) * b) + k))) ∧ (all + (H.2.2.1 60 0 (((16 : Int) * b) + k))) ≤ 40320000 * (k + 1) from ⟨by omega, by omega⟩) (show 0 ≤ (part + (0 : Int)) ∧ (part + (0 : Int)) ≤ 40320000 * (k + 1) from ⟨by omega, by omega⟩) (show 0 ≤ (su + (0 : Int)) ∧ (su + (0 : Int)) ≤ 40320000 * (k + 1) from ⟨by omega, by omega⟩) (show b < H.1 11 12 0 from by omega) hT hE k0gP k0gX k0gL k0gZ k0gQ k0gB k0gK k0gN k0gW (Or.inr (Or.inr (Or.inl ⟨_, rfl⟩)))
          · have c14 : ¬ (sound = (0 : Int)) := hc
            clear hc
            refine J.run0 2 rfl ?_
            try dsimp only
            refine J.inv rfl rfl rfl rfl rfl rfl jDr rfl rfl rfl rfl rfl (g_powerOf (n := k) hT  (show 0 ≤ (k) ∧ (k) < 16 from ⟨by omega, by omega⟩)) ?_
            rintro v w H ⟨rfl, rfl, x15, rfl, r16⟩
            have r16' : x15 = gpow H ((k)) ∧ 0 ≤ x15 ∧ x15 ≤ 40320000 := r16
            try dsimp only [Option.toList, List.append, List.cons_append, List.nil_append]
            have f17 : 0 ≤ H.2.2.1 60 0 (((16 : Int) * b) + k) ∧ H.2.2.1 60 0 (((16 : Int) * b) + k) ≤ 40320000 := hT.1 60 (((16 : Int) * b) + k)
            have f18 : 0 ≤ H.2.2.1 81 0 (k) ∧ H.2.2.1 81 0 (k) ≤ 1 := hT.1 81 (k)
            refine J.run 21 rfl ⟨(show 0 ≤ ((16 : Int) * b) + k ∧ ((16 : Int) * b) + k < 4800 from ⟨by omega, by omega⟩), (show 0 ≤ k ∧ k < 16 from ⟨by omega, by omega⟩)⟩ ?_
            try dsimp only
            refine J.ifc rfl rfl rfl (show -2147483648 ≤ H.2.2.1 81 0 (k) ∧ H.2.2.1 81 0 (k) ≤ 2147483647 from ⟨by omega, by omega⟩) (fun hc => ?_) (fun hc => ?_)
            · have c19 : H.2.2.1 81 0 (k) = (0 : Int) := hc
              clear hc
              refine J.run0 2 rfl ?_
              try dsimp only
              exact ih (cl) (all + (H.2.2.1 60 0 (((16 : Int) * b) + k))) (part) (su + x15) (sound) (k + 1) H _ (show 16 - (k + 1) < _ by omega) (show 0 ≤ (k + 1) ∧ (k + 1) ≤ 16 from ⟨by omega, by omega⟩) (show 0 ≤ (sound) ∧ (sound) ≤ 1 from ⟨by omega, by omega⟩) (show 0 ≤ (cl) ∧ (cl) ≤ 40320000 * (k + 1) from ⟨by omega, by omega⟩) (show 0 ≤ (all + (H.2.2.1 60 0 (((16 : Int) * b) + k))) ∧ (all + (H.2.2.1 60 0 (((16 : Int) * b) + k))) ≤ 40320000 * (k + 1) from ⟨by omega, by omega⟩) (show 0 ≤ (part) ∧ (part) ≤ 40320000 * (k + 1) from ⟨by omega, by omega⟩) (show 0 ≤ (su + x15) ∧ (su + x15) ≤ 40320000 * (k + 1) from ⟨by omega, by omega⟩) (show b < H.1 11 12 0 from by omega) hT hE k0gP k0gX k0gL k0gZ k0gQ k0gB k0gK k0gN k0gW (Or.inr (Or.inl ⟨_, rfl⟩))
            · have c20 : ¬ (H.2.2.1 81 0 (k) = (0 : Int)) := hc
              clear hc
              refine J.run 17 rfl (show 0 ≤ ((16 : Int) * b) + k ∧ ((16 : Int) * b) + k < 4800 from ⟨by omega, by omega⟩) ?_
              try dsimp only
              exact ih (cl + (H.2.2.1 60 0 (((16 : Int) * b) + k))) (all + (H.2.2.1 60 0 (((16 : Int) * b) + k))) (part + x15) (su + x15) (sound) (k + 1) H _ (show 16 - (k + 1) < _ by omega) (show 0 ≤ (k + 1) ∧ (k + 1) ≤ 16 from ⟨by omega, by omega⟩) (show 0 ≤ (sound) ∧ (sound) ≤ 1 from ⟨by omega, by omega⟩) (show 0 ≤ (cl + (H.2.2.1 60 0 (((16 : Int) * b) + k))) ∧ (cl + (H.2.2.1 60 0 (((16 : Int) * b) + k))) ≤ 40320000 * (k + 1) from ⟨by omega, by omega⟩) (show 0 ≤ (all + (H.2.2.1 60 0 (((16 : Int) * b) + k))) ∧ (all + (H.2.2.1 60 0 (((16 : Int) * b) + k))) ≤ 40320000 * (k + 1) from ⟨by omega, by omega⟩) (show 0 ≤ (part + x15) ∧ (part + x15) ≤ 40320000 * (k + 1) from ⟨by omega, by omega⟩) (show 0 ≤ (su + x15) ∧ (su + x15) ≤ 40320000 * (k + 1) from ⟨by omega, by omega⟩) (show b < H.1 11 12 0 from by omega) hT hE k0gP k0gX k0gL k0gZ k0gQ k0gB k0gK k0gN k0gW (Or.inr (Or.inr (Or.inl ⟨_, rfl⟩)))
      · skip
        refine J.run0 2 rfl ?_
        try dsimp only
        refine J.icmp rfl rfl rfl ⟨(show -2147483648 ≤ k ∧ k ≤ 2147483647 from ⟨by omega, by omega⟩), (show -2147483648 ≤ (16 : Int) ∧ (16 : Int) ≤ 2147483647 from ⟨by omega, by omega⟩)⟩ (fun hc => ?_) (fun hc => ?_)
        · have c21 : (16 : Int) ≤ k := hc
          clear hc
          refine J.run0 6 rfl ?_
          try dsimp only
          refine J.icmp rfl rfl rfl ⟨(show -2147483648 ≤ (3 : Int) * cl ∧ (3 : Int) * cl ≤ 2147483647 from ⟨by omega, by omega⟩), (show -2147483648 ≤ (2 : Int) * all ∧ (2 : Int) * all ≤ 2147483647 from ⟨by omega, by omega⟩)⟩ (fun hc => ?_) (fun hc => ?_)
          · have c22 : (3 : Int) * cl ≤ (2 : Int) * all := hc
            clear hc
            refine J.run0 1 rfl ?_
            try dsimp only
            exact J.retb rfl rfl rfl (show (0 : Int) = 0 ∨ (0 : Int) = 1 by omega) ⟨_, rfl, rfl, hT, hE, k0gP, k0gX, k0gL, k0gZ, k0gQ, k0gB, k0gK, k0gN, k0gW, _, rfl, (show 0 ≤ ((0 : Int)) ∧ ((0 : Int)) ≤ 1 from ⟨by omega, by omega⟩)⟩
          · have c23 : ¬ ((3 : Int) * cl ≤ (2 : Int) * all) := hc
            clear hc
            refine J.run0 1 rfl ?_
            try dsimp only
            refine J.ifc rfl rfl rfl (show -2147483648 ≤ both ∧ both ≤ 2147483647 from ⟨by omega, by omega⟩) (fun hc => ?_) (fun hc => ?_)
            · have c24 : both = (0 : Int) := hc
              clear hc
              refine J.run0 2 rfl ?_
              try dsimp only
              exact J.retb rfl rfl rfl (show (1 : Int) = 0 ∨ (1 : Int) = 1 by omega) ⟨_, rfl, rfl, hT, hE, k0gP, k0gX, k0gL, k0gZ, k0gQ, k0gB, k0gK, k0gN, k0gW, _, rfl, (show 0 ≤ ((1 : Int)) ∧ ((1 : Int)) ≤ 1 from ⟨by omega, by omega⟩)⟩
            · have c25 : ¬ (both = (0 : Int)) := hc
              clear hc
              refine J.run0 4 rfl ?_
              try dsimp only
              refine J.icmp rfl rfl rfl ⟨(show -2147483648 ≤ (3 : Int) * part ∧ (3 : Int) * part ≤ 2147483647 from ⟨by omega, by omega⟩), (show -2147483648 ≤ su ∧ su ≤ 2147483647 from ⟨by omega, by omega⟩)⟩ (fun hc => ?_) (fun hc => ?_)
              · have c26 : (3 : Int) * part ≤ su := hc
                clear hc
                refine J.run0 1 rfl ?_
                try dsimp only
                exact J.retb rfl rfl rfl (show (0 : Int) = 0 ∨ (0 : Int) = 1 by omega) ⟨_, rfl, rfl, hT, hE, k0gP, k0gX, k0gL, k0gZ, k0gQ, k0gB, k0gK, k0gN, k0gW, _, rfl, (show 0 ≤ ((0 : Int)) ∧ ((0 : Int)) ≤ 1 from ⟨by omega, by omega⟩)⟩
              · have c27 : ¬ ((3 : Int) * part ≤ su) := hc
                clear hc
                refine J.run0 2 rfl ?_
                try dsimp only
                exact J.retb rfl rfl rfl (show (1 : Int) = 0 ∨ (1 : Int) = 1 by omega) ⟨_, rfl, rfl, hT, hE, k0gP, k0gX, k0gL, k0gZ, k0gQ, k0gB, k0gK, k0gN, k0gW, _, rfl, (show 0 ≤ ((1 : Int)) ∧ ((1 : Int)) ≤ 1 from ⟨by omega, by omega⟩)⟩
        · have c28 : ¬ ((16 : Int) ≤ k) := hc
          clear hc
          refine J.run0 1 rfl ?_
          try dsimp only
          refine J.ifc rfl rfl rfl (show -2147483648 ≤ sound ∧ sound ≤ 2147483647 from ⟨by omega, by omega⟩) (fun hc => ?_) (fun hc => ?_)
          · have c29 : sound = (0 : Int) := hc
            clear hc
            have f30 : 0 ≤ H.2.2.1 60 0 (((16 : Int) * b) + k) ∧ H.2.2.1 60 0 (((16 : Int) * b) + k) ≤ 40320000 := hT.1 60 (((16 : Int) * b) + k)
            have f31 : 0 ≤ H.2.2.1 81 0 (k) ∧ H.2.2.1 81 0 (k) ≤ 1 := hT.1 81 (k)
            refine J.run 21 rfl ⟨(show 0 ≤ ((16 : Int) * b) + k ∧ ((16 : Int) * b) + k < 4800 from ⟨by omega, by omega⟩), (show 0 ≤ k ∧ k < 16 from ⟨by omega, by omega⟩)⟩ ?_
            try dsimp only
            refine J.ifc rfl rfl rfl (show -2147483648 ≤ H.2.2.1 81 0 (k) ∧ H.2.2.1 81 0 (k) ≤ 2147483647 from ⟨by omega, by omega⟩) (fun hc => ?_) (fun hc => ?_)
            · have c32 : H.2.2.1 81 0 (k) = (0 : Int) := hc
              clear hc
              refine J.run0 2 rfl ?_
              try dsimp only
              exact ih (cl) (all + (H.2.2.1 60 0 (((16 : Int) * b) + k))) (part) (su + (0 : Int)) (sound) (k + 1) H _ (show 16 - (k + 1) < _ by omega) (show 0 ≤ (k + 1) ∧ (k + 1) ≤ 16 from ⟨by omega, by omega⟩) (show 0 ≤ (sound) ∧ (sound) ≤ 1 from ⟨by omega, by omega⟩) (show 0 ≤ (cl) ∧ (cl) ≤ 40320000 * (k + 1) from ⟨by omega, by omega⟩) (show 0 ≤ (all + (H.2.2.1 60 0 (((16 : Int) * b) + k))) ∧ (all + (H.2.2.1 60 0 (((16 : Int) * b) + k))) ≤ 40320000 * (k + 1) from ⟨by omega, by omega⟩) (show 0 ≤ (part) ∧ (part) ≤ 40320000 * (k + 1) from ⟨by omega, by omega⟩) (show 0 ≤ (su + (0 : Int)) ∧ (su + (0 : Int)) ≤ 40320000 * (k + 1) from ⟨by omega, by omega⟩) (show b < H.1 11 12 0 from by omega) hT hE k0gP k0gX k0gL k0gZ k0gQ k0gB k0gK k0gN k0gW (Or.inr (Or.inl ⟨_, rfl⟩))
            · have c33 : ¬ (H.2.2.1 81 0 (k) = (0 : Int)) := hc
              clear hc
              refine J.run 17 rfl (show 0 ≤ ((16 : Int) * b) + k ∧ ((16 : Int) * b) + k < 4800 from ⟨by omega, by omega⟩) ?_
              try dsimp only
              exact ih (cl + (H.2.2.1 60 0 (((16 : Int) * b) + k))) (all + (H.2.2.1 60 0 (((16 : Int) * b) + k))) (part + (0 : Int)) (su + (0 : Int)) (sound) (k + 1) H _ (show 16 - (k + 1) < _ by omega) (show 0 ≤ (k + 1) ∧ (k + 1) ≤ 16 from ⟨by omega, by omega⟩) (show 0 ≤ (sound) ∧ (sound) ≤ 1 from ⟨by omega, by omega⟩) (show 0 ≤ (cl + (H.2.2.1 60 0 (((16 : Int) * b) + k))) ∧ (cl + (H.2.2.1 60 0 (((16 : Int) * b) + k))) ≤ 40320000 * (k + 1) from ⟨by omega, by omega⟩) (show 0 ≤ (all + (H.2.2.1 60 0 (((16 : Int) * b) + k))) ∧ (all + (H.2.2.1 60 0 (((16 : Int) * b) + k))) ≤ 40320000 * (k + 1) from ⟨by omega, by omega⟩) (show 0 ≤ (part + (0 : Int)) ∧ (part + (0 : Int)) ≤ 40320000 * (k + 1) from ⟨by omega, by omega⟩) (show 0 ≤ (su + (0 : Int)) ∧ (su + (0 : Int)) ≤ 40320000 * (k + 1) from ⟨by omega, by omega⟩) (show b < H.1 11 12 0 from by omega) hT hE k0gP k0gX k0gL k0gZ k0gQ k0gB k0gK k0gN k0gW (Or.inr (Or.inr (Or.inl ⟨_, rfl⟩)))
          · have c34 : ¬ (sound = (0 : Int)) := hc
            clear hc
            refine J.run0 2 rfl ?_
            try dsimp only
            refine J.inv rfl rfl rfl rfl rfl rfl jDr rfl rfl rfl rfl rfl (g_powerOf (n := k) hT  (show 0 ≤ (k) ∧ (k) < 16 from ⟨by omega, by omega⟩)) ?_
            rintro v w H ⟨rfl, rfl, x35, rfl, r36⟩
            have r36' : x35 = gpow H ((k)) ∧ 0 ≤ x35 ∧ x35 ≤ 40320000 := r36
            try dsimp only [Option.toList, List.append, List.cons_append, List.nil_append]
            have f37 : 0 ≤ H.2.2.1 60 0 (((16 : Int) * b) + k) ∧ H.2.2.1 60 0 (((16 : Int) * b) + k) ≤ 40320000 := hT.1 60 (((16 : Int) * b) + k)
            have f38 : 0 ≤ H.2.2.1 81 0 (k) ∧ H.2.2.1 81 0 (k) ≤ 1 := hT.1 81 (k)
            refine J.run 21 rfl ⟨(show 0 ≤ ((16 : Int) * b) + k ∧ ((16 : Int) * b) + k < 4800 from ⟨by omega, by omega⟩), (show 0 ≤ k ∧ k < 16 from ⟨by omega, by omega⟩)⟩ ?_
            try dsimp only
            refine J.ifc rfl rfl rfl (show -2147483648 ≤ H.2.2.1 81 0 (k) ∧ H.2.2.1 81 0 (k) ≤ 2147483647 from ⟨by omega, by omega⟩) (fun hc => ?_) (fun hc => ?_)
            · have c39 : H.2.2.1 81 0 (k) = (0 : Int) := hc
              clear hc
              refine J.run0 2 rfl ?_
              try dsimp only
              exact ih (cl) (all + (H.2.2.1 60 0 (((16 : Int) * b) + k))) (part) (su + x35) (sound) (k + 1) H _ (show 16 - (k + 1) < _ by omega) (show 0 ≤ (k + 1) ∧ (k + 1) ≤ 16 from ⟨by omega, by omega⟩) (show 0 ≤ (sound) ∧ (sound) ≤ 1 from ⟨by omega, by omega⟩) (show 0 ≤ (cl) ∧ (cl) ≤ 40320000 * (k + 1) from ⟨by omega, by omega⟩) (show 0 ≤ (all + (H.2.2.1 60 0 (((16 : Int) * b) + k))) ∧ (all + (H.2.2.1 60 0 (((16 : Int) * b) + k))) ≤ 40320000 * (k + 1) from ⟨by omega, by omega⟩) (show 0 ≤ (part) ∧ (part) ≤ 40320000 * (k + 1) from ⟨by omega, by omega⟩) (show 0 ≤ (su + x35) ∧ (su + x35) ≤ 40320000 * (k + 1) from ⟨by omega, by omega⟩) (show b < H.1 11 12 0 from by omega) hT hE k0gP k0gX k0gL k0gZ k0gQ k0gB k0gK k0gN k0gW (Or.inr (Or.inl ⟨_, rfl⟩))
            · have c40 : ¬ (H.2.2.1 81 0 (k) = (0 : Int)) := hc
              clear hc
              refine J.run 17 rfl (show 0 ≤ ((16 : Int) * b) + k ∧ ((16 : Int) * b) + k < 4800 from ⟨by omega, by omega⟩) ?_
              try dsimp only
              exact ih (cl + (H.2.2.1 60 0 (((16 : Int) * b) + k))) (all + (H.2.2.1 60 0 (((16 : Int) * b) + k))) (part + x35) (su + x35) (sound) (k + 1) H _ (show 16 - (k + 1) < _ by omega) (show 0 ≤ (k + 1) ∧ (k + 1) ≤ 16 from ⟨by omega, by omega⟩) (show 0 ≤ (sound) ∧ (sound) ≤ 1 from ⟨by omega, by omega⟩) (show 0 ≤ (cl + (H.2.2.1 60 0 (((16 : Int) * b) + k))) ∧ (cl + (H.2.2.1 60 0 (((16 : Int) * b) + k))) ≤ 40320000 * (k + 1) from ⟨by omega, by omega⟩) (show 0 ≤ (all + (H.2.2.1 60 0 (((16 : Int) * b) + k))) ∧ (all + (H.2.2.1 60 0 (((16 : Int) * b) + k))) ≤ 40320000 * (k + 1) from ⟨by omega, by omega⟩) (show 0 ≤ (part + x35) ∧ (part + x35) ≤ 40320000 * (k + 1) from ⟨by omega, by omega⟩) (show 0 ≤ (su + x35) ∧ (su + x35) ≤ 40320000 * (k + 1) from ⟨by omega, by omega⟩) (show b < H.1 11 12 0 from by omega) hT hE k0gP k0gX k0gL k0gZ k0gQ k0gB k0gK k0gN k0gW (Or.inr (Or.inr (Or.inl ⟨_, rfl⟩)))
      · skip
        refine J.run0 2 rfl ?_
        try dsimp only
        refine J.icmp rfl rfl rfl ⟨(show -2147483648 ≤ k ∧ k ≤ 2147483647 from ⟨by omega, by omega⟩), (show -2147483648 ≤ (16 : Int) ∧ (16 : Int) ≤ 2147483647 from ⟨by omega, by omega⟩)⟩ (fun hc => ?_) (fun hc => ?_)
        · have c41 : (16 : Int) ≤ k := hc
          clear hc
          refine J.run0 6 rfl ?_
          try dsimp only
          refine J.icmp rfl rfl rfl ⟨(show -2147483648 ≤ (3 : Int) * cl ∧ (3 : Int) * cl ≤ 2147483647 from ⟨by omega, by omega⟩), (show -2147483648 ≤ (2 : Int) * all ∧ (2 : Int) * all ≤ 2147483647 from ⟨by omega, by omega⟩)⟩ (fun hc => ?_) (fun hc => ?_)
          · have c42 : (3 : Int) * cl ≤ (2 : Int) * all := hc
            clear hc
            refine J.run0 1 rfl ?_
            try dsimp only
            exact J.retb rfl rfl rfl (show (0 : Int) = 0 ∨ (0 : Int) = 1 by omega) ⟨_, rfl, rfl, hT, hE, k0gP, k0gX, k0gL, k0gZ, k0gQ, k0gB, k0gK, k0gN, k0gW, _, rfl, (show 0 ≤ ((0 : Int)) ∧ ((0 : Int)) ≤ 1 from ⟨by omega, by omega⟩)⟩
          · have c43 : ¬ ((3 : Int) * cl ≤ (2 : Int) * all) := hc
            clear hc
            refine J.run0 1 rfl ?_
            try dsimp only
            refine J.ifc rfl rfl rfl (show -2147483648 ≤ both ∧ both ≤ 2147483647 from ⟨by omega, by omega⟩) (fun hc => ?_) (fun hc => ?_)
            · have c44 : both = (0 : Int) := hc
              clear hc
              refine J.run0 2 rfl ?_
              try dsimp only
              exact J.retb rfl rfl rfl (show (1 : Int) = 0 ∨ (1 : Int) = 1 by omega) ⟨_, rfl, rfl, hT, hE, k0gP, k0gX, k0gL, k0gZ, k0gQ, k0gB, k0gK, k0gN, k0gW, _, rfl, (show 0 ≤ ((1 : Int)) ∧ ((1 : Int)) ≤ 1 from ⟨by omega, by omega⟩)⟩
            · have c45 : ¬ (both = (0 : Int)) := hc
              clear hc
              refine J.run0 4 rfl ?_
              try dsimp only
              refine J.icmp rfl rfl rfl ⟨(show -2147483648 ≤ (3 : Int) * part ∧ (3 : Int) * part ≤ 2147483647 from ⟨by omega, by omega⟩), (show -2147483648 ≤ su ∧ su ≤ 2147483647 from ⟨by omega, by omega⟩)⟩ (fun hc => ?_) (fun hc => ?_)
              · have c46 : (3 : Int) * part ≤ su := hc
                clear hc
                refine J.run0 1 rfl ?_
                try dsimp only
                exact J.retb rfl rfl rfl (show (0 : Int) = 0 ∨ (0 : Int) = 1 by omega) ⟨_, rfl, rfl, hT, hE, k0gP, k0gX, k0gL, k0gZ, k0gQ, k0gB, k0gK, k0gN, k0gW, _, rfl, (show 0 ≤ ((0 : Int)) ∧ ((0 : Int)) ≤ 1 from ⟨by omega, by omega⟩)⟩
              · have c47 : ¬ ((3 : Int) * part ≤ su) := hc
                clear hc
                refine J.run0 2 rfl ?_
                try dsimp only
                exact J.retb rfl rfl rfl (show (1 : Int) = 0 ∨ (1 : Int) = 1 by omega) ⟨_, rfl, rfl, hT, hE, k0gP, k0gX, k0gL, k0gZ, k0gQ, k0gB, k0gK, k0gN, k0gW, _, rfl, (show 0 ≤ ((1 : Int)) ∧ ((1 : Int)) ≤ 1 from ⟨by omega, by omega⟩)⟩
        · have c48 : ¬ ((16 : Int) ≤ k) := hc
          clear hc
          refine J.run0 1 rfl ?_
          try dsimp only
          refine J.ifc rfl rfl rfl (show -2147483648 ≤ sound ∧ sound ≤ 2147483647 from ⟨by omega, by omega⟩) (fun hc => ?_) (fun hc => ?_)
          · have c49 : sound = (0 : Int) := hc
            clear hc
            have f50 : 0 ≤ H.2.2.1 60 0 (((16 : Int) * b) + k) ∧ H.2.2.1 60 0 (((16 : Int) * b) + k) ≤ 40320000 := hT.1 60 (((16 : Int) * b) + k)
            have f51 : 0 ≤ H.2.2.1 81 0 (k) ∧ H.2.2.1 81 0 (k) ≤ 1 := hT.1 81 (k)
            refine J.run 21 rfl ⟨(show 0 ≤ ((16 : Int) * b) + k ∧ ((16 : Int) * b) + k < 4800 from ⟨by omega, by omega⟩), (show 0 ≤ k ∧ k < 16 from ⟨by omega, by omega⟩)⟩ ?_
            try dsimp only
            refine J.ifc rfl rfl rfl (show -2147483648 ≤ H.2.2.1 81 0 (k) ∧ H.2.2.1 81 0 (k) ≤ 2147483647 from ⟨by omega, by omega⟩) (fun hc => ?_) (fun hc => ?_)
            · have c52 : H.2.2.1 81 0 (k) = (0 : Int) := hc
              clear hc
              refine J.run0 2 rfl ?_
              try dsimp only
              exact ih (cl) (all + (H.2.2.1 60 0 (((16 : Int) * b) + k))) (part) (su + (0 : Int)) (sound) (k + 1) H _ (show 16 - (k + 1) < _ by omega) (show 0 ≤ (k + 1) ∧ (k + 1) ≤ 16 from ⟨by omega, by omega⟩) (show 0 ≤ (sound) ∧ (sound) ≤ 1 from ⟨by omega, by omega⟩) (show 0 ≤ (cl) ∧ (cl) ≤ 40320000 * (k + 1) from ⟨by omega, by omega⟩) (show 0 ≤ (all + (H.2.2.1 60 0 (((16 : Int) * b) + k))) ∧ (all + (H.2.2.1 60 0 (((16 : Int) * b) + k))) ≤ 40320000 * (k + 1) from ⟨by omega, by omega⟩) (show 0 ≤ (part) ∧ (part) ≤ 40320000 * (k + 1) from ⟨by omega, by omega⟩) (show 0 ≤ (su + (0 : Int)) ∧ (su + (0 : Int)) ≤ 40320000 * (k + 1) from ⟨by omega, by omega⟩) (show b < H.1 11 12 0 from by omega) hT hE k0gP k0gX k0gL k0gZ k0gQ k0gB k0gK k0gN k0gW (Or.inr (Or.inr (Or.inr (⟨_, rfl⟩))))
            · have c53 : ¬ (H.2.2.1 81 0 (k) = (0 : Int)) := hc
              clear hc
              refine J.run 17 rfl (show 0 ≤ ((16 : Int) * b) + k ∧ ((16 : Int) * b) + k < 4800 from ⟨by omega, by omega⟩) ?_
              try dsimp only
              exact ih (cl + (H.2.2.1 60 0 (((16 : Int) * b) + k))) (all + (H.2.2.1 60 0 (((16 : Int) * b) + k))) (part + (0 : Int)) (su + (0 : Int)) (sound) (k + 1) H _ (show 16 - (k + 1) < _ by omega) (show 0 ≤ (k + 1) ∧ (k + 1) ≤ 16 from ⟨by omega, by omega⟩) (show 0 ≤ (sound) ∧ (sound) ≤ 1 from ⟨by omega, by omega⟩) (show 0 ≤ (cl + (H.2.2.1 60 0 (((16 : Int) * b) + k))) ∧ (cl + (H.2.2.1 60 0 (((16 : Int) * b) + k))) ≤ 40320000 * (k + 1) from ⟨by omega, by omega⟩) (show 0 ≤ (all + (H.2.2.1 60 0 (((16 : Int) * b) + k))) ∧ (all + (H.2.2.1 60 0 (((16 : Int) * b) + k))) ≤ 40320000 * (k + 1) from ⟨by omega, by omega⟩) (show 0 ≤ (part + (0 : Int)) ∧ (part + (0 : Int)) ≤ 40320000 * (k + 1) from ⟨by omega, by omega⟩) (show 0 ≤ (su + (0 : Int)) ∧ (su + (0 : Int)) ≤ 40320000 * (k + 1) from ⟨by omega, by omega⟩) (show b < H.1 11 12 0 from by omega) hT hE k0gP k0gX k0gL k0gZ k0gQ k0gB k0gK k0gN k0gW (Or.inr (Or.inr (Or.inl ⟨_, rfl⟩)))
          · have c54 : ¬ (sound = (0 : Int)) := hc
            clear hc
            refine J.run0 2 rfl ?_
            try dsimp only
            refine J.inv rfl rfl rfl rfl rfl rfl jDr rfl rfl rfl rfl rfl (g_powerOf (n := k) hT  (show 0 ≤ (k) ∧ (k) < 16 from ⟨by omega, by omega⟩)) ?_
            rintro v w H ⟨rfl, rfl, x55, rfl, r56⟩
            have r56' : x55 = gpow H ((k)) ∧ 0 ≤ x55 ∧ x55 ≤ 40320000 := r56
            try dsimp only [Option.toList, List.append, List.cons_append, List.nil_append]
            have f57 : 0 ≤ H.2.2.1 60 0 (((16 : Int) * b) + k) ∧ H.2.2.1 60 0 (((16 : Int) * b) + k) ≤ 40320000 := hT.1 60 (((16 : Int) * b) + k)
            have f58 : 0 ≤ H.2.2.1 81 0 (k) ∧ H.2.2.1 81 0 (k) ≤ 1 := hT.1 81 (k)
            refine J.run 21 rfl ⟨(show 0 ≤ ((16 : Int) * b) + k ∧ ((16 : Int) * b) + k < 4800 from ⟨by omega, by omega⟩), (show 0 ≤ k ∧ k < 16 from ⟨by omega, by omega⟩)⟩ ?_
            try dsimp only
            refine J.ifc rfl rfl rfl (show -2147483648 ≤ H.2.2.1 81 0 (k) ∧ H.2.2.1 81 0 (k) ≤ 2147483647 from ⟨by omega, by omega⟩) (fun hc => ?_) (fun hc => ?_)
            · have c59 : H.2.2.1 81 0 (k) = (0 : Int) := hc
              clear hc
              refine J.run0 2 rfl ?_
              try dsimp only
              exact ih (cl) (all + (H.2.2.1 60 0 (((16 : Int) * b) + k))) (part) (su + x55) (sound) (k + 1) H _ (show 16 - (k + 1) < _ by omega) (show 0 ≤ (k + 1) ∧ (k + 1) ≤ 16 from ⟨by omega, by omega⟩) (show 0 ≤ (sound) ∧ (sound) ≤ 1 from ⟨by omega, by omega⟩) (show 0 ≤ (cl) ∧ (cl) ≤ 40320000 * (k + 1) from ⟨by omega, by omega⟩) (show 0 ≤ (all + (H.2.2.1 60 0 (((16 : Int) * b) + k))) ∧ (all + (H.2.2.1 60 0 (((16 : Int) * b) + k))) ≤ 40320000 * (k + 1) from ⟨by omega, by omega⟩) (show 0 ≤ (part) ∧ (part) ≤ 40320000 * (k + 1) from ⟨by omega, by omega⟩) (show 0 ≤ (su + x55) ∧ (su + x55) ≤ 40320000 * (k + 1) from ⟨by omega, by omega⟩) (show b < H.1 11 12 0 from by omega) hT hE k0gP k0gX k0gL k0gZ k0gQ k0gB k0gK k0gN k0gW (Or.inr (Or.inr (Or.inr (⟨_, rfl⟩))))
            · have c60 : ¬ (H.2.2.1 81 0 (k) = (0 : Int)) := hc
              clear hc
              refine J.run 17 rfl (show 0 ≤ ((16 : Int) * b) + k ∧ ((16 : Int) * b) + k < 4800 from ⟨by omega, by omega⟩) ?_
              try dsimp only
              exact ih (cl + (H.2.2.1 60 0 (((16 : Int) * b) + k))) (all + (H.2.2.1 60 0 (((16 : Int) * b) + k))) (part + x55) (su + x55) (sound) (k + 1) H _ (show 16 - (k + 1) < _ by omega) (show 0 ≤ (k + 1) ∧ (k + 1) ≤ 16 from ⟨by omega, by omega⟩) (show 0 ≤ (sound) ∧ (sound) ≤ 1 from ⟨by omega, by omega⟩) (show 0 ≤ (cl + (H.2.2.1 60 0 (((16 : Int) * b) + k))) ∧ (cl + (H.2.2.1 60 0 (((16 : Int) * b) + k))) ≤ 40320000 * (k + 1) from ⟨by omega, by omega⟩) (show 0 ≤ (all + (H.2.2.1 60 0 (((16 : Int) * b) + k))) ∧ (all + (H.2.2.1 60 0 (((16 : Int) * b) + k))) ≤ 40320000 * (k + 1) from ⟨by omega, by omega⟩) (show 0 ≤ (part + x55) ∧ (part + x55) ≤ 40320000 * (k + 1) from ⟨by omega, by omega⟩) (show 0 ≤ (su + x55) ∧ (su + x55) ≤ 40320000 * (k + 1) from ⟨by omega, by omega⟩) (show b < H.1 11 12 0 from by omega) hT hE k0gP k0gX k0gL k0gZ k0gQ k0gB k0gK k0gN k0gW (Or.inr (Or.inr (Or.inl ⟨_, rfl⟩)))
      · skip
        refine J.run0 2 rfl ?_
        try dsimp only
        refine J.icmp rfl rfl rfl ⟨(show -2147483648 ≤ k ∧ k ≤ 2147483647 from ⟨by omega, by omega⟩), (show -2147483648 ≤ (16 : Int) ∧ (16 : Int) ≤ 2147483647 from ⟨by omega, by omega⟩)⟩ (fun hc => ?_) (fun hc => ?_)
        · have c61 : (16 : Int) ≤ k := hc
          clear hc
          refine J.run0 6 rfl ?_
          try dsimp only
          refine J.icmp rfl rfl rfl ⟨(show -2147483648 ≤ (3 : Int) * cl ∧ (3 : Int) * cl ≤ 2147483647 from ⟨by omega, by omega⟩), (show -2147483648 ≤ (2 : Int) * all ∧ (2 : Int) * all ≤ 2147483647 from ⟨by omega, by omega⟩)⟩ (fun hc => ?_) (fun hc => ?_)
          · have c62 : (3 : Int) * cl ≤ (2 : Int) * all := hc
            clear hc
            refine J.run0 1 rfl ?_
            try dsimp only
            exact J.retb rfl rfl rfl (show (0 : Int) = 0 ∨ (0 : Int) = 1 by omega) ⟨_, rfl, rfl, hT, hE, k0gP, k0gX, k0gL, k0gZ, k0gQ, k0gB, k0gK, k0gN, k0gW, _, rfl, (show 0 ≤ ((0 : Int)) ∧ ((0 : Int)) ≤ 1 from ⟨by omega, by omega⟩)⟩
          · have c63 : ¬ ((3 : Int) * cl ≤ (2 : Int) * all) := hc
            clear hc
            refine J.run0 1 rfl ?_
            try dsimp only
            refine J.ifc rfl rfl rfl (show -2147483648 ≤ both ∧ both ≤ 2147483647 from ⟨by omega, by omega⟩) (fun hc => ?_) (fun hc => ?_)
            · have c64 : both = (0 : Int) := hc
              clear hc
              refine J.run0 2 rfl ?_
              try dsimp only
              exact J.retb rfl rfl rfl (show (1 : Int) = 0 ∨ (1 : Int) = 1 by omega) ⟨_, rfl, rfl, hT, hE, k0gP, k0gX, k0gL, k0gZ, k0gQ, k0gB, k0gK, k0gN, k0gW, _, rfl, (show 0 ≤ ((1 : Int)) ∧ ((1 : Int)) ≤ 1 from ⟨by omega, by omega⟩)⟩
            · have c65 : ¬ (both = (0 : Int)) := hc
              clear hc
              refine J.run0 4 rfl ?_
              try dsimp only
              refine J.icmp rfl rfl rfl ⟨(show -2147483648 ≤ (3 : Int) * part ∧ (3 : Int) * part ≤ 2147483647 from ⟨by omega, by omega⟩), (show -2147483648 ≤ su ∧ su ≤ 2147483647 from ⟨by omega, by omega⟩)⟩ (fun hc => ?_) (fun hc => ?_)
              · have c66 : (3 : Int) * part ≤ su := hc
                clear hc
                refine J.run0 1 rfl ?_
                try dsimp only
                exact J.retb rfl rfl rfl (show (0 : Int) = 0 ∨ (0 : Int) = 1 by omega) ⟨_, rfl, rfl, hT, hE, k0gP, k0gX, k0gL, k0gZ, k0gQ, k0gB, k0gK, k0gN, k0gW, _, rfl, (show 0 ≤ ((0 : Int)) ∧ ((0 : Int)) ≤ 1 from ⟨by omega, by omega⟩)⟩
              · have c67 : ¬ ((3 : Int) * part ≤ su) := hc
                clear hc
                refine J.run0 2 rfl ?_
                try dsimp only
                exact J.retb rfl rfl rfl (show (1 : Int) = 0 ∨ (1 : Int) = 1 by omega) ⟨_, rfl, rfl, hT, hE, k0gP, k0gX, k0gL, k0gZ, k0gQ, k0gB, k0gK, k0gN, k0gW, _, rfl, (show 0 ≤ ((1 : Int)) ∧ ((1 : Int)) ≤ 1 from ⟨by omega, by omega⟩)⟩
        · have c68 : ¬ ((16 : Int) ≤ k) := hc
          clear hc
          refine J.run0 1 rfl ?_
          try dsimp only
          refine J.ifc rfl rfl rfl (show -2147483648 ≤ sound ∧ sound ≤ 2147483647 from ⟨by omega, by omega⟩) (fun hc => ?_) (fun hc => ?_)
          · have c69 : sound = (0 : Int) := hc
            clear hc
            have f70 : 0 ≤ H.2.2.1 60 0 (((16 : Int) * b) + k) ∧ H.2.2.1 60 0 (((16 : Int) * b) + k) ≤ 40320000 := hT.1 60 (((16 : Int) * b) + k)
            have f71 : 0 ≤ H.2.2.1 81 0 (k) ∧ H.2.2.1 81 0 (k) ≤ 1 := hT.1 81 (k)
            refine J.run 21 rfl ⟨(show 0 ≤ ((16 : Int) * b) + k ∧ ((16 : Int) * b) + k < 4800 from ⟨by omega, by omega⟩), (show 0 ≤ k ∧ k < 16 from ⟨by omega, by omega⟩)⟩ ?_
            try dsimp only
            refine J.ifc rfl rfl rfl (show -2147483648 ≤ H.2.2.1 81 0 (k) ∧ H.2.2.1 81 0 (k) ≤ 2147483647 from ⟨by omega, by omega⟩) (fun hc => ?_) (fun hc => ?_)
            · have c72 : H.2.2.1 81 0 (k) = (0 : Int) := hc
              clear hc
              refine J.run0 2 rfl ?_
              try dsimp only
              exact ih (cl) (all + (H.2.2.1 60 0 (((16 : Int) * b) + k))) (part) (su + (0 : Int)) (sound) (k + 1) H _ (show 16 - (k + 1) < _ by omega) (show 0 ≤ (k + 1) ∧ (k + 1) ≤ 16 from ⟨by omega, by omega⟩) (show 0 ≤ (sound) ∧ (sound) ≤ 1 from ⟨by omega, by omega⟩) (show 0 ≤ (cl) ∧ (cl) ≤ 40320000 * (k + 1) from ⟨by omega, by omega⟩) (show 0 ≤ (all + (H.2.2.1 60 0 (((16 : Int) * b) + k))) ∧ (all + (H.2.2.1 60 0 (((16 : Int) * b) + k))) ≤ 40320000 * (k + 1) from ⟨by omega, by omega⟩) (show 0 ≤ (part) ∧ (part) ≤ 40320000 * (k + 1) from ⟨by omega, by omega⟩) (show 0 ≤ (su + (0 : Int)) ∧ (su + (0 : Int)) ≤ 40320000 * (k + 1) from ⟨by omega, by omega⟩) (show b < H.1 11 12 0 from by omega) hT hE k0gP k0gX k0gL k0gZ k0gQ k0gB k0gK k0gN k0gW (Or.inr (Or.inr (Or.inr (⟨_, rfl⟩))))
            · have c73 : ¬ (H.2.2.1 81 0 (k) = (0 : Int)) := hc
              clear hc
              refine J.run 17 rfl (show 0 ≤ ((16 : Int) * b) + k ∧ ((16 : Int) * b) + k < 4800 from ⟨by omega, by omega⟩) ?_
              try dsimp only
              exact ih (cl + (H.2.2.1 60 0 (((16 : Int) * b) + k))) (all + (H.2.2.1 60 0 (((16 : Int) * b) + k))) (part + (0 : Int)) (su + (0 : Int)) (sound) (k + 1) H _ (show 16 - (k + 1) < _ by omega) (show 0 ≤ (k + 1) ∧ (k + 1) ≤ 16 from ⟨by omega, by omega⟩) (show 0 ≤ (sound) ∧ (sound) ≤ 1 from ⟨by omega, by omega⟩) (show 0 ≤ (cl + (H.2.2.1 60 0 (((16 : Int) * b) + k))) ∧ (cl + (H.2.2.1 60 0 (((16 : Int) * b) + k))) ≤ 40320000 * (k + 1) from ⟨by omega, by omega⟩) (show 0 ≤ (all + (H.2.2.1 60 0 (((16 : Int) * b) + k))) ∧ (all + (H.2.2.1 60 0 (((16 : Int) * b) + k))) ≤ 40320000 * (k + 1) from ⟨by omega, by omega⟩) (show 0 ≤ (part + (0 : Int)) ∧ (part + (0 : Int)) ≤ 40320000 * (k + 1) from ⟨by omega, by omega⟩) (show 0 ≤ (su + (0 : Int)) ∧ (su + (0 : Int)) ≤ 40320000 * (k + 1) from ⟨by omega, by omega⟩) (show b < H.1 11 12 0 from by omega) hT hE k0gP k0gX k0gL k0gZ k0gQ k0gB k0gK k0gN k0gW (Or.inr (Or.inr (Or.inl ⟨_, rfl⟩)))
          · have c74 : ¬ (sound = (0 : Int)) := hc
            clear hc
            refine J.run0 2 rfl ?_
            try dsimp only
            refine J.inv rfl rfl rfl rfl rfl rfl jDr rfl rfl rfl rfl rfl (g_powerOf (n := k) hT  (show 0 ≤ (k) ∧ (k) < 16 from ⟨by omega, by omega⟩)) ?_
            rintro v w H ⟨rfl, rfl, x75, rfl, r76⟩
            have r76' : x75 = gpow H ((k)) ∧ 0 ≤ x75 ∧ x75 ≤ 40320000 := r76
            try dsimp only [Option.toList, List.append, List.cons_append, List.nil_append]
            have f77 : 0 ≤ H.2.2.1 60 0 (((16 : Int) * b) + k) ∧ H.2.2.1 60 0 (((16 : Int) * b) + k) ≤ 40320000 := hT.1 60 (((16 : Int) * b) + k)
            have f78 : 0 ≤ H.2.2.1 81 0 (k) ∧ H.2.2.1 81 0 (k) ≤ 1 := hT.1 81 (k)
            refine J.run 21 rfl ⟨(show 0 ≤ ((16 : Int) * b) + k ∧ ((16 : Int) * b) + k < 4800 from ⟨by omega, by omega⟩), (show 0 ≤ k ∧ k < 16 from ⟨by omega, by omega⟩)⟩ ?_
            try dsimp only
            refine J.ifc rfl rfl rfl (show -2147483648 ≤ H.2.2.1 81 0 (k) ∧ H.2.2.1 81 0 (k) ≤ 2147483647 from ⟨by omega, by omega⟩) (fun hc => ?_) (fun hc => ?_)
            · have c79 : H.2.2.1 81 0 (k) = (0 : Int) := hc
              clear hc
              refine J.run0 2 rfl ?_
              try dsimp only
              exact ih (cl) (all + (H.2.2.1 60 0 (((16 : Int) * b) + k))) (part) (su + x75) (sound) (k + 1) H _ (show 16 - (k + 1) < _ by omega) (show 0 ≤ (k + 1) ∧ (k + 1) ≤ 16 from ⟨by omega, by omega⟩) (show 0 ≤ (sound) ∧ (sound) ≤ 1 from ⟨by omega, by omega⟩) (show 0 ≤ (cl) ∧ (cl) ≤ 40320000 * (k + 1) from ⟨by omega, by omega⟩) (show 0 ≤ (all + (H.2.2.1 60 0 (((16 : Int) * b) + k))) ∧ (all + (H.2.2.1 60 0 (((16 : Int) * b) + k))) ≤ 40320000 * (k + 1) from ⟨by omega, by omega⟩) (show 0 ≤ (part) ∧ (part) ≤ 40320000 * (k + 1) from ⟨by omega, by omega⟩) (show 0 ≤ (su + x75) ∧ (su + x75) ≤ 40320000 * (k + 1) from ⟨by omega, by omega⟩) (show b < H.1 11 12 0 from by omega) hT hE k0gP k0gX k0gL k0gZ k0gQ k0gB k0gK k0gN k0gW (Or.inr (Or.inr (Or.inr (⟨_, rfl⟩))))
            · have c80 : ¬ (H.2.2.1 81 0 (k) = (0 : Int)) := hc
              clear hc
              refine J.run 17 rfl (show 0 ≤ ((16 : Int) * b) + k ∧ ((16 : Int) * b) + k < 4800 from ⟨by omega, by omega⟩) ?_
              try dsimp only
              exact ih (cl + (H.2.2.1 60 0 (((16 : Int) * b) + k))) (all + (H.2.2.1 60 0 (((16 : Int) * b) + k))) (part + x75) (su + x75) (sound) (k + 1) H _ (show 16 - (k + 1) < _ by omega) (show 0 ≤ (k + 1) ∧ (k + 1) ≤ 16 from ⟨by omega, by omega⟩) (show 0 ≤ (sound) ∧ (sound) ≤ 1 from ⟨by omega, by omega⟩) (show 0 ≤ (cl + (H.2.2.1 60 0 (((16 : Int) * b) + k))) ∧ (cl + (H.2.2.1 60 0 (((16 : Int) * b) + k))) ≤ 40320000 * (k + 1) from ⟨by omega, by omega⟩) (show 0 ≤ (all + (H.2.2.1 60 0 (((16 : Int) * b) + k))) ∧ (all + (H.2.2.1 60 0 (((16 : Int) * b) + k))) ≤ 40320000 * (k + 1) from ⟨by omega, by omega⟩) (show 0 ≤ (part + x75) ∧ (part + x75) ≤ 40320000 * (k + 1) from ⟨by omega, by omega⟩) (show 0 ≤ (su + x75) ∧ (su + x75) ≤ 40320000 * (k + 1) from ⟨by omega, by omega⟩) (show b < H.1 11 12 0 from by omega) hT hE k0gP k0gX k0gL k0gZ k0gQ k0gB k0gK k0gN k0gW (Or.inr (Or.inr (Or.inl ⟨_, rfl⟩)))
-- 
theorem g_isSent_l1 {b r both : Int} {H0 : jH} (hp0 : 0 ≤ b ∧ b < 300) (hp1 : b < H0.1 11 12 0) (hp2 : -2147483648 ≤ r ∧ r ≤ 2147483647) (hp3 : 0 ≤ both ∧ both ≤ 1) : ∀ (m : Nat), (∀ (k : Int) (H : jH) (lv : jL), 6000 - k < (m : Int) → (0 ≤ k ∧ k ≤ 6000) → (b < H.1 11 12 0) → gT H → jEx [48, 56, 57] [108, 99, 100, 101, 105, 102, 103, 104, 61, 81] H H0 → gP H → gX H → gL H → gZ H → gQ H → gB H → gK H → gN H → gW H (H.1 11 19 0) → (lv = [(4, .inl k), (0, jT), (1, .inl b), (2, .inl r), (3, .inl both)]) → J true (d + 303) 164 w (7, lv, [], H) (jN fun v w' H' => w' = w ∧ gT H' ∧ jEx [48, 56, 57] [108, 99, 100, 101, 105, 102, 103, 104, 61, 81] H' H0 ∧ gP H' ∧ gX H' ∧ gL H' ∧ gZ H' ∧ gQ H' ∧ gB H' ∧ gK H' ∧ gN H' ∧ gW H' (H'.1 11 19 0) ∧ ∃ x, v = some (.inl x) ∧ 0 ≤ x ∧ x ≤ 1)) := by
  intro m
  induction m with
  | zero =>
    skip
    · intro k H lv hm hi0 hi1 hT hE k0gP k0gX k0gL k0gZ k0gQ k0gB k0gK k0gN k0gW hlv
      exfalso
      omega
  | succ m ih =>
    skip
    · intro k H lv hm hi0 hi1 hT hE k0gP k0gX k0gL k0gZ k0gQ k0gB k0gK k0gN k0gW hlv
      rcases hlv with rfl
      have f81 : 0 ≤ H.1 11 19 0 ∧ H.1 11 19 0 ≤ 6000 := hT.2.1 19
      refine J.run0 3 rfl ?_
      try dsimp only
      refine J.icmp rfl rfl rfl ⟨(show -2147483648 ≤ k ∧ k ≤ 2147483647 from ⟨by omega, by omega⟩), (show -2147483648 ≤ H.1 11 19 0 ∧ H.1 11 19 0 ≤ 2147483647 from ⟨by omega, by omega⟩)⟩ (fun hc => ?_) (fun hc => ?_)
      · have c82 : H.1 11 19 0 ≤ k := hc
        clear hc
        have f83 : 0 ≤ H.1 11 45 0 ∧ H.1 11 45 0 ≤ 299 := hT.2.1 45
        have f84 : 1 ≤ H.1 11 12 0 ∧ H.1 11 12 0 ≤ 300 := hT.2.1 12
        have f83b : H.1 11 45 0 < H.1 11 12 0 := hT.2.2.2 45 rfl
        refine J.run0 11 rfl ?_
        try dsimp only
        refine J.inv rfl rfl rfl rfl rfl rfl jDr rfl rfl rfl rfl rfl (g_isSound (b := H.1 11 45 0) hT k0gP k0gX k0gL k0gZ (show 0 ≤ (H.1 11 45 0) ∧ (H.1 11 45 0) < 300 from ⟨by omega, by omega⟩) (show (H.1 11 45 0) < H.1 11 12 0 from by omega)) ?_
        rintro v w H87 ⟨rfl, hT88, ehE89, k90, k91, k92, k93, x85, rfl, r86⟩
        have hE89 := jEx.trans ehE89 hE (by decide) (by decide)
        have r86' : 0 ≤ x85 ∧ x85 ≤ 1 := r86
        have k94 : gQ H87 := gQ.ex k0gQ ehE89 (by decide)
        have k95 : gB H87 := gB.ex k0gB ehE89 (by decide)
        have k96 : gK H87 := gK.ex k0gK ehE89 (by decide)
        have k97 : gN H87 := gN.ex k0gN ehE89 (by decide)
        have k98 : gW H87 (H87.1 11 19 0) := gWm.ex k0gW ehE89 (by decide)
        have g99 : H87.1 11 12 0 = H.1 11 12 0 := ehE89.v 12 (by decide)
        have g100 : H87.1 11 45 0 = H.1 11 45 0 := ehE89.v 45 (by decide)
        try dsimp only [Option.toList, List.append, List.cons_append, List.nil_append]
        refine J.run0 2 rfl ?_
        try dsimp only
        refine J.ifc rfl rfl rfl (show -2147483648 ≤ x85 ∧ x85 ≤ 2147483647 from ⟨by omega, by omega⟩) (fun hc => ?_) (fun hc => ?_)
        · have c101 : x85 = (0 : Int) := hc
          clear hc
          refine J.run0 2 rfl ?_
          try dsimp only
          exact (g_isSent_l0 (H0 := H0) (b := b) (r := r) (both := both)  hp0 hp1 hp2 hp3 ((16 - ((0 : Int)) : Int).toNat + 1)) ((0 : Int)) ((0 : Int)) ((0 : Int)) ((0 : Int)) (x85) ((0 : Int)) H87 _ (show 16 - ((0 : Int)) < _ by omega) (show 0 ≤ ((0 : Int)) ∧ ((0 : Int)) ≤ 16 from ⟨by omega, by omega⟩) (show 0 ≤ (x85) ∧ (x85) ≤ 1 from ⟨by omega, by omega⟩) (show 0 ≤ ((0 : Int)) ∧ ((0 : Int)) ≤ 40320000 * ((0 : Int)) from ⟨by omega, by omega⟩) (show 0 ≤ ((0 : Int)) ∧ ((0 : Int)) ≤ 40320000 * ((0 : Int)) from ⟨by omega, by omega⟩) (show 0 ≤ ((0 : Int)) ∧ ((0 : Int)) ≤ 40320000 * ((0 : Int)) from ⟨by omega, by omega⟩) (show 0 ≤ ((0 : Int)) ∧ ((0 : Int)) ≤ 40320000 * ((0 : Int)) from ⟨by omega, by omega⟩) (show b < H87.1 11 12 0 from by omega) hT88 hE89 k90 k91 k92 k93 k94 k95 k96 k97 k98 (Or.inl rfl)
        · have c102 : ¬ (x85 = (0 : Int)) := hc
          clear hc
          have f103 : 0 ≤ H87.1 11 45 0 ∧ H87.1 11 45 0 ≤ 299 := hT88.2.1 45
          have f104 : 1 ≤ H87.1 11 12 0 ∧ H87.1 11 12 0 ≤ 300 := hT88.2.1 12
          have f103b : H87.1 11 45 0 < H87.1 11 12 0 := hT88.2.2.2 45 rfl
          refine J.run0 3 rfl ?_
          try dsimp only
          refine J.inv rfl rfl rfl rfl rfl rfl jDr rfl rfl rfl rfl rfl (g_state (b := H87.1 11 45 0) hT88 k90 k91 k92 (show 0 ≤ (H87.1 11 45 0) ∧ (H87.1 11 45 0) < 300 from ⟨by omega, by omega⟩) (show (H87.1 11 45 0) < H87.1 11 12 0 from by omega)) ?_
          rintro v w H107 ⟨rfl, hT108, ehE109, k110, k111, k112, rfl⟩
          have hE109 := jEx.trans ehE109 hE89 (by decide) (by decide)
          have k113 : gZ H107 := gZ.ex k93 ehE109 (by decide)
          have k114 : gQ H107 := gQ.ex k94 ehE109 (by decide)
          have k115 : gB H107 := gB.ex k95 ehE109 (by decide)
          have k116 : gK H107 := gK.ex k96 ehE109 (by decide)
          have k117 : gN H107 := gN.ex k97 ehE109 (by decide)
          have k118 : gW H107 (H107.1 11 19 0) := gWm.ex k98 ehE109 (by decide)
          have g119 : H107.1 11 12 0 = H87.1 11 12 0 := ehE109.v 12 (by decide)
          have g120 : H107.1 11 45 0 = H87.1 11 45 0 := ehE109.v 45 (by decide)
          try dsimp only [Option.toList, List.append, List.cons_append, List.nil_append]
          refine J.run0 2 rfl ?_
          try dsimp only
          exact (g_isSent_l0 (H0 := H0) (b := b) (r := r) (both := both)  hp0 hp1 hp2 hp3 ((16 - ((0 : Int)) : Int).toNat + 1)) ((0 : Int)) ((0 : Int)) ((0 : Int)) ((0 : Int)) (x85) ((0 : Int)) H107 _ (show 16 - ((0 : Int)) < _ by omega) (show 0 ≤ ((0 : Int)) ∧ ((0 : Int)) ≤ 16 from ⟨by omega, by omega⟩) (show 0 ≤ (x85) ∧ (x85) ≤ 1 from ⟨by omega, by omega⟩) (show 0 ≤ ((0 : Int)) ∧ ((0 : Int)) ≤ 40320000 * ((0 : Int)) from ⟨by omega, by omega⟩) (show 0 ≤ ((0 : Int)) ∧ ((0 : Int)) ≤ 40320000 * ((0 : Int)) from ⟨by omega, by omega⟩) (show 0 ≤ ((0 : Int)) ∧ ((0 : Int)) ≤ 40320000 * ((0 : Int)) from ⟨by omega, by omega⟩) (show 0 ≤ ((0 : Int)) ∧ ((0 : Int)) ≤ 40320000 * ((0 : Int)) from ⟨by omega, by omega⟩) (show b < H107.1 11 12 0 from by omega) hT108 hE109 k110 k111 k112 k113 k114 k115 k116 k117 k118 (Or.inl rfl)
      · have c121 : ¬ (H.1 11 19 0 ≤ k) := hc
        clear hc
        have f122 : 0 ≤ H.2.2.1 63 0 (k) ∧ H.2.2.1 63 0 (k) ≤ 2 := hT.1 63 (k)
        refine J.run 5 rfl (show 0 ≤ k ∧ k < 6000 from ⟨by omega, by omega⟩) ?_
        try dsimp only
        refine J.icmp rfl rfl rfl ⟨(show -2147483648 ≤ H.2.2.1 63 0 (k) ∧ H.2.2.1 63 0 (k) ≤ 2147483647 from ⟨by omega, by omega⟩), (show -2147483648 ≤ (2 : Int) ∧ (2 : Int) ≤ 2147483647 from ⟨by omega, by omega⟩)⟩ (fun hc => ?_) (fun hc => ?_)
        · have c123 : ¬ (H.2.2.1 63 0 (k) = (2 : Int)) := hc
          clear hc
          refine J.run0 2 rfl ?_
          try dsimp only
          exact ih (k + 1) H _ (show 6000 - (k + 1) < _ by omega) (show 0 ≤ (k + 1) ∧ (k + 1) ≤ 6000 from ⟨by omega, by omega⟩) (show b < H.1 11 12 0 from by omega) hT hE k0gP k0gX k0gL k0gZ k0gQ k0gB k0gK k0gN k0gW rfl
        · have c124 : ¬ (¬ (H.2.2.1 63 0 (k) = (2 : Int))) := hc
          clear hc
          have f125 : -1 ≤ H.2.2.1 67 0 (k) ∧ H.2.2.1 67 0 (k) ≤ 299 := hT.1 67 (k)
          have f126 : 1 ≤ H.1 11 12 0 ∧ H.1 11 12 0 ≤ 300 := hT.2.1 12
          have f125b : H.2.2.1 67 0 (k) < H.1 11 12 0 := hT.2.2.1 67 (k) rfl
          refine J.run 5 rfl (show 0 ≤ k ∧ k < 6000 from ⟨by omega, by omega⟩) ?_
          try dsimp only
          refine J.icmp rfl rfl rfl ⟨(show -2147483648 ≤ H.2.2.1 67 0 (k) ∧ H.2.2.1 67 0 (k) ≤ 2147483647 from ⟨by omega, by omega⟩), (show -2147483648 ≤ b ∧ b ≤ 2147483647 from ⟨by omega, by omega⟩)⟩ (fun hc => ?_) (fun hc => ?_)
          · have c127 : ¬ (H.2.2.1 67 0 (k) = b) := hc
            clear hc
            refine J.run0 2 rfl ?_
            try dsimp only
            exact ih (k + 1) H _ (show 6000 - (k + 1) < _ by omega) (show 0 ≤ (k + 1) ∧ (k + 1) ≤ 6000 from ⟨by omega, by omega⟩) (show b < H.1 11 12 0 from by omega) hT hE k0gP k0gX k0gL k0gZ k0gQ k0gB k0gK k0gN k0gW rfl
          · have c128 : ¬ (¬ (H.2.2.1 67 0 (k) = b)) := hc
            clear hc
            have f129 : 0 ≤ H.2.2.1 65 0 (k) ∧ H.2.2.1 65 0 (k) ≤ 301 := hT.1 65 (k)
            have f130 : 0 ≤ H.2.2.1 56 0 (b) ∧ H.2.2.1 56 0 (b) ≤ 300 := hT.1 56 (b)
            have f130gP : 0 ≤ b → b < 300 → H.2.2.1 56 0 (b) ≤ b := k0gP.2.2.2.2.1 (b)
            refine J.run 8 rfl ⟨(show 0 ≤ k ∧ k < 6000 from ⟨by omega, by omega⟩), (show 0 ≤ b ∧ b < 300 from ⟨by omega, by omega⟩)⟩ ?_
            try dsimp only
            refine J.icmp rfl rfl rfl ⟨(show -2147483648 ≤ H.2.2.1 65 0 (k) ∧ H.2.2.1 65 0 (k) ≤ 2147483647 from ⟨by omega, by omega⟩), (show -2147483648 ≤ H.2.2.1 56 0 (b) ∧ H.2.2.1 56 0 (b) ≤ 2147483647 from ⟨by omega, by omega⟩)⟩ (fun hc => ?_) (fun hc => ?_)
            · have c131 : ¬ (H.2.2.1 65 0 (k) = H.2.2.1 56 0 (b)) := hc
              clear hc
              refine J.run0 2 rfl ?_
              try dsimp only
              exact ih (k + 1) H _ (show 6000 - (k + 1) < _ by omega) (show 0 ≤ (k + 1) ∧ (k + 1) ≤ 6000 from ⟨by omega, by omega⟩) (show b < H.1 11 12 0 from by omega) hT hE k0gP k0gX k0gL k0gZ k0gQ k0gB k0gK k0gN k0gW rfl
            · have c132 : ¬ (¬ (H.2.2.1 65 0 (k) = H.2.2.1 56 0 (b))) := hc
              clear hc
              have f133 : 0 ≤ H.2.2.1 66 0 (k) ∧ H.2.2.1 66 0 (k) ≤ 31 := hT.1 66 (k)
              refine J.run 5 rfl (show 0 ≤ k ∧ k < 6000 from ⟨by omega, by omega⟩) ?_
              try dsimp only
              refine J.icmp rfl rfl rfl ⟨(show -2147483648 ≤ H.2.2.1 66 0 (k) ∧ H.2.2.1 66 0 (k) ≤ 2147483647 from ⟨by omega, by omega⟩), (show -2147483648 ≤ r ∧ r ≤ 2147483647 from ⟨by omega, by omega⟩)⟩ (fun hc => ?_) (fun hc => ?_)
              · have c134 : ¬ (H.2.2.1 66 0 (k) = r) := hc
                clear hc
                refine J.run0 2 rfl ?_
                try dsimp only
                exact ih (k + 1) H _ (show 6000 - (k + 1) < _ by omega) (show 0 ≤ (k + 1) ∧ (k + 1) ≤ 6000 from ⟨by omega, by omega⟩) (show b < H.1 11 12 0 from by omega) hT hE k0gP k0gX k0gL k0gZ k0gQ k0gB k0gK k0gN k0gW rfl
              · have c135 : ¬ (¬ (H.2.2.1 66 0 (k) = r)) := hc
                clear hc
                have f136 : 0 ≤ H.2.2.1 64 0 (k) ∧ H.2.2.1 64 0 (k) ≤ 15 := hT.1 64 (k)
                refine J.run 8 rfl ⟨(show 0 ≤ k ∧ k < 6000 from ⟨by omega, by omega⟩), (show ((1 : Int) = 0 ∨ (1 : Int) = 1) ∧ 0 ≤ H.2.2.1 64 0 (k) ∧ H.2.2.1 64 0 (k) < 16 from ⟨by omega, by omega, by omega⟩)⟩ ?_
                try dsimp only
                refine J.gn fun H137 hH137 => ?_
                have hT138 : gT H137 := by rw [hH137]; exact gT.upd hT (show 0 ≤ (1 : Int) ∧ (1 : Int) ≤ 1 from ⟨by omega, by omega⟩) (fun z => absurd z (by decide))
                have hE139 : jEx [48, 56, 57] [108, 99, 100, 101, 105, 102, 103, 104, 61, 81] H137 H0 := by rw [hH137]; exact jEx.row hE (by decide)
                have k140 : gP H137 := by rw [hH137]; exact k0gP
                have k141 : gX H137 := by rw [hH137]; exact k0gX
                have k142 : gL H137 := by rw [hH137]; exact k0gL
                have k143 : gZ H137 := by rw [hH137]; exact k0gZ
                have k144 : gQ H137 := by rw [hH137]; exact k0gQ
                have k145 : gB H137 := by rw [hH137]; exact k0gB
                have k146 : gK H137 := by rw [hH137]; exact k0gK
                have k147 : gN H137 := by rw [hH137]; exact k0gN
                have k148 : gW H137 (H137.1 11 19 0) := by rw [hH137]; exact k0gW
                have g149 : H137.2.2.1 81 0 (H.2.2.1 64 0 (k)) = (1 : Int) := by subst hH137; exact if_pos rfl
                have g150 : H137.1 11 12 0 = H.1 11 12 0 := by subst hH137; rfl
                have g151 : H137.1 11 45 0 = H.1 11 45 0 := by subst hH137; rfl
                have g152 : H137.2.2.1 63 0 (k) = H.2.2.1 63 0 (k) := by subst hH137; rfl
                have g153 : H137.2.2.1 67 0 (k) = H.2.2.1 67 0 (k) := by subst hH137; rfl
                have g154 : H137.2.2.1 65 0 (k) = H.2.2.1 65 0 (k) := by subst hH137; rfl
                have g155 : H137.2.2.1 56 0 (b) = H.2.2.1 56 0 (b) := by subst hH137; rfl
                have g156 : H137.2.2.1 66 0 (k) = H.2.2.1 66 0 (k) := by subst hH137; rfl
                have g157 : H137.2.2.1 64 0 (k) = H.2.2.1 64 0 (k) := by subst hH137; rfl
                clear hH137
                refine J.run0 2 rfl ?_
                try dsimp only
                exact ih (k + 1) H137 _ (show 6000 - (k + 1) < _ by omega) (show 0 ≤ (k + 1) ∧ (k + 1) ≤ 6000 from ⟨by omega, by omega⟩) (show b < H137.1 11 12 0 from by omega) hT138 hE139 k140 k141 k142 k143 k144 k145 k146 k147 k148 rfl
-- 
theorem g_isSent {b r both : Int} {H : jH} (hT : gT H) (k0gP : gP H) (k0gX : gX H) (k0gL : gL H) (k0gZ : gZ H) (k0gQ : gQ H) (k0gB : gB H) (k0gK : gK H) (k0gN : gN H) (k0gW : gW H (H.1 11 19 0)) (hp0 : 0 ≤ b ∧ b < 300) (hp1 : b < H.1 11 12 0) (hp2 : -2147483648 ≤ r ∧ r ≤ 2147483647) (hp3 : 0 ≤ both ∧ both ≤ 1) : J true (d + 303) 164 w (0, jargs 0 [jT, .inl b, .inl r, .inl both], [], H) (jN fun v w' H' => w' = w ∧ gT H' ∧ jEx [48, 56, 57] [108, 99, 100, 101, 105, 102, 103, 104, 61, 81] H' H ∧ gP H' ∧ gX H' ∧ gL H' ∧ gZ H' ∧ gQ H' ∧ gB H' ∧ gK H' ∧ gN H' ∧ gW H' (H'.1 11 19 0) ∧ ∃ x, v = some (.inl x) ∧ 0 ≤ x ∧ x ≤ 1) := by
  have hE : jEx [48, 56, 57] [108, 99, 100, 101, 105, 102, 103, 104, 61, 81] H H := jEx.refl _ _ _
  refine J.run0 1 rfl ?_
  try dsimp only
  refine J.inv rfl rfl rfl rfl rfl rfl jDr rfl rfl rfl rfl rfl (g_clear  hT  ) ?_
  rintro v w H160 ⟨rfl, hT161, ehE162, rfl⟩
  have hE162 := jEx.trans ehE162 hE (by decide) (by decide)
  have k163 : gP H160 := gP.ex k0gP ehE162 (by decide)
  have k164 : gX H160 := gX.ex k0gX ehE162 (by decide)
  have k165 : gL H160 := gL.ex k0gL ehE162 (by decide)
  have k166 : gZ H160 := gZ.ex k0gZ ehE162 (by decide)
  have k167 : gQ H160 := gQ.ex k0gQ ehE162 (by decide)
  have k168 : gB H160 := gB.ex k0gB ehE162 (by decide)
  have k169 : gK H160 := gK.ex k0gK ehE162 (by decide)
  have k170 : gN H160 := gN.ex k0gN ehE162 (by decide)
  have k171 : gW H160 (H160.1 11 19 0) := gWm.ex k0gW ehE162 (by decide)
  have g172 : H160.1 11 12 0 = H.1 11 12 0 := ehE162.v 12 (by decide)
  have g173 : H160.1 11 45 0 = H.1 11 45 0 := ehE162.v 45 (by decide)
  try dsimp only [Option.toList, List.append, List.cons_append, List.nil_append]
  refine J.run0 2 rfl ?_
  try dsimp only
  exact (g_isSent_l1 (H0 := H) (b := b) (r := r) (both := both)  hp0 hp1 hp2 hp3 ((6000 - ((0 : Int)) : Int).toNat + 1)) ((0 : Int)) H160 _ (show 6000 - ((0 : Int)) < _ by omega) (show 0 ≤ ((0 : Int)) ∧ ((0 : Int)) ≤ 6000 from ⟨by omega, by omega⟩) (show b < H160.1 11 12 0 from by omega) hT161 hE162 k163 k164 k165 k166 k167 k168 k169 k170 k171 rfl
end
