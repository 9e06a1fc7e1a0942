-- M: X11_told
section
variable {d : Nat} {w : jW} 
-- 
theorem g_told {n what : Int} {H : jH} (hT : gT H) (k0gP : gP H) (k0gX : gX H) (k0gL : gL H) (k0gZ : gZ H) (k0gQ : gQ H) (k0gB : gB H) (k0gK : gK H) (k0gN : gN H) (k0gW : gW H (H.1 11 19 0)) (hp0 : -2147483648 ≤ n ∧ n ≤ 2147483647) (hp1 : -2147483648 ≤ what ∧ what ≤ 2147483647) : J true (d + 2) 159 w (0, jargs 0 [jT, .inl n, .inl what], [], H) (jN fun v w' H' => w' = w ∧ gT H' ∧ jEx [47] [] H' H ∧ gP H' ∧ gX H' ∧ gL H' ∧ gZ H' ∧ gQ H' ∧ gB H' ∧ gK H' ∧ gN H' ∧ gW H' (H'.1 11 19 0) ∧ ∃ x, v = some (.inl x) ∧ -2147483648 ≤ x ∧ x ≤ 2147483647) := by
  have hE : jEx [47] [] H H := jEx.refl _ _ _
  refine J.run0 4 rfl ?_
  try dsimp only
  refine J.ins rfl rfl rfl rfl rfl rfl rfl rfl rfl (g_in (u := n) (a := (0 : Int)) (b := (15 : Int)) hT  (show -2147483648 ≤ (n) ∧ (n) ≤ 2147483647 from ⟨by omega, by omega⟩) (show -2147483648 ≤ ((0 : Int)) ∧ ((0 : Int)) ≤ 2147483647 from ⟨by omega, by omega⟩) (show -2147483648 ≤ ((15 : Int)) ∧ ((15 : Int)) ≤ 2147483647 from ⟨by omega, by omega⟩)) ?_
  rintro v w H ⟨rfl, rfl, x1, rfl, r2⟩
  have r2' : (x1 = 0 ∨ x1 = 1) ∧ (x1 = 1 → (n) ≥ ((0 : Int)) ∧ (n) ≤ ((15 : Int))) ∧ (x1 = 0 → (n) < ((0 : Int)) ∨ ((15 : Int)) < (n)) := r2
  try dsimp only [Option.toList, List.append, List.cons_append, List.nil_append]
  refine J.ifc rfl rfl rfl (show -2147483648 ≤ x1 ∧ x1 ≤ 2147483647 from ⟨by omega, by omega⟩) (fun hc => ?_) (fun hc => ?_)
  · have c3 : ¬ (x1 = (0 : Int)) := hc
    clear hc
    refine J.run0 3 rfl ?_
    try dsimp only
    refine J.ins rfl rfl rfl rfl rfl rfl rfl rfl rfl (g_in (u := what) (a := (0 : Int)) (b := (11 : Int)) hT  (show -2147483648 ≤ (what) ∧ (what) ≤ 2147483647 from ⟨by omega, by omega⟩) (show -2147483648 ≤ ((0 : Int)) ∧ ((0 : Int)) ≤ 2147483647 from ⟨by omega, by omega⟩) (show -2147483648 ≤ ((11 : Int)) ∧ ((11 : Int)) ≤ 2147483647 from ⟨by omega, by omega⟩)) ?_
    rintro v w H ⟨rfl, rfl, x4, rfl, r5⟩
    have r5' : (x4 = 0 ∨ x4 = 1) ∧ (x4 = 1 → (what) ≥ ((0 : Int)) ∧ (what) ≤ ((11 : Int))) ∧ (x4 = 0 → (what) < ((0 : Int)) ∨ ((11 : Int)) < (what)) := r5
    try dsimp only [Option.toList, List.append, List.cons_append, List.nil_append]
    refine J.ifc rfl rfl rfl (show -2147483648 ≤ x4 ∧ x4 ≤ 2147483647 from ⟨by omega, by omega⟩) (fun hc => ?_) (fun hc => ?_)
    · have c6 : ¬ (x4 = (0 : Int)) := hc
      clear hc
      refine J.run0 2 rfl ?_
      try dsimp only
      refine J.gn fun H7 hH7 => ?_
      have hT8 : gT H7 := by rw [hH7]; exact gT.num (f := 47) hT (show 0 ≤ (0 : Int) ∧ (0 : Int) ≤ 3 from ⟨by omega, by omega⟩) (by decide) (fun z => absurd z (by decide))
      have hE9 : jEx [47] [] H7 H := by rw [hH7]; exact jEx.num hE (by decide)
      have k10 : gP H7 := by rw [hH7]; exact k0gP
      have k11 : gX H7 := by rw [hH7]; exact k0gX
      have k12 : gL H7 := by rw [hH7]; exact k0gL
      have k13 : gZ H7 := by rw [hH7]; exact k0gZ
      have k14 : gQ H7 := by rw [hH7]; exact k0gQ
      have k15 : gB H7 := by rw [hH7]; exact k0gB
      have k16 : gK H7 := by rw [hH7]; exact k0gK
      have k17 : gN H7 := by rw [hH7]; exact k0gN
      have k18 : gW H7 (H7.1 11 19 0) := by rw [hH7]; exact k0gW
      have g19 : H7.1 11 47 0 = (0 : Int) := by subst hH7; rfl
      have g20 : H7.1 11 12 0 = H.1 11 12 0 := by subst hH7; rfl
      clear hH7
      have f21 : 0 ≤ H7.1 11 47 0 ∧ H7.1 11 47 0 ≤ 3 := hT8.2.1 47
      refine J.run0 2 rfl ?_
      try dsimp only
      refine J.ifc rfl rfl rfl (show -2147483648 ≤ H7.1 11 47 0 ∧ H7.1 11 47 0 ≤ 2147483647 from ⟨by omega, by omega⟩) (fun hc => ?_) (fun hc => ?_)
      · have c22 : H7.1 11 47 0 ≤ (0 : Int) := hc
        clear hc
        have f23 : 0 ≤ H7.2.2.1 80 0 (n) ∧ H7.2.2.1 80 0 (n) ≤ 1 := hT8.1 80 (n)
        refine J.run 4 rfl (show 0 ≤ n ∧ n < 16 from ⟨by omega, by omega⟩) ?_
        try dsimp only
        refine J.ifc rfl rfl rfl (show -2147483648 ≤ H7.2.2.1 80 0 (n) ∧ H7.2.2.1 80 0 (n) ≤ 2147483647 from ⟨by omega, by omega⟩) (fun hc => ?_) (fun hc => ?_)
        · have c24 : H7.2.2.1 80 0 (n) = (0 : Int) := hc
          clear hc
          refine J.run0 1 rfl ?_
          try dsimp only
          by_cases c25 : what = 0
          · refine J.tsw rfl rfl rfl ⟨by omega, by omega⟩ (t := 140) (by rw [c25]; rfl) ?_
            refine J.run0 2 rfl ?_
            try dsimp only
            refine J.inv rfl rfl rfl rfl rfl rfl jDr rfl rfl rfl rfl rfl (g_heightE (n := n) hT8  (show 0 ≤ (n) ∧ (n) < 16 from ⟨by omega, by omega⟩)) ?_
            rintro v w H7 ⟨rfl, rfl, x26, rfl, r27⟩
            have r27' : x26 = H7.2.2.1 56 0 (H7.2.2.1 72 0 ((n))) + 1 ∧ 1 ≤ x26 ∧ x26 ≤ 301 := r27
            try dsimp only [Option.toList, List.append, List.cons_append, List.nil_append]
            exact J.reti rfl rfl rfl ⟨_, rfl, rfl, hT8, hE9, k10, k11, k12, k13, k14, k15, k16, k17, k18, _, rfl, (show -2147483648 ≤ (x26) ∧ (x26) ≤ 2147483647 from ⟨by omega, by omega⟩)⟩
          by_cases c28 : what = 1
          · refine J.tsw rfl rfl rfl ⟨by omega, by omega⟩ (t := 146) (by rw [c28]; rfl) ?_
            have f29 : 0 ≤ H7.2.2.1 73 0 (n) ∧ H7.2.2.1 73 0 (n) ≤ 31 := hT8.1 73 (n)
            refine J.run 4 rfl (show 0 ≤ n ∧ n < 16 from ⟨by omega, by omega⟩) ?_
            try dsimp only
            exact J.reti rfl rfl rfl ⟨_, rfl, rfl, hT8, hE9, k10, k11, k12, k13, k14, k15, k16, k17, k18, _, rfl, (show -2147483648 ≤ (H7.2.2.1 73 0 (n)) ∧ (H7.2.2.1 73 0 (n)) ≤ 2147483647 from ⟨by omega, by omega⟩)⟩
          by_cases c30 : what = 2
          · refine J.tsw rfl rfl rfl ⟨by omega, by omega⟩ (t := 153) (by rw [c30]; rfl) ?_
            have f31 : 0 ≤ H7.2.2.1 74 0 (n) ∧ H7.2.2.1 74 0 (n) ≤ 2 := hT8.1 74 (n)
            refine J.run 4 rfl (show 0 ≤ n ∧ n < 16 from ⟨by omega, by omega⟩) ?_
            try dsimp only
            exact J.reti rfl rfl rfl ⟨_, rfl, rfl, hT8, hE9, k10, k11, k12, k13, k14, k15, k16, k17, k18, _, rfl, (show -2147483648 ≤ (H7.2.2.1 74 0 (n)) ∧ (H7.2.2.1 74 0 (n)) ≤ 2147483647 from ⟨by omega, by omega⟩)⟩
          by_cases c32 : what = 3
          · refine J.tsw rfl rfl rfl ⟨by omega, by omega⟩ (t := 160) (by rw [c32]; rfl) ?_
            have f33 : 0 ≤ H7.2.2.1 72 0 (n) ∧ H7.2.2.1 72 0 (n) ≤ 299 := hT8.1 72 (n)
            have f34 : 1 ≤ H7.1 11 12 0 ∧ H7.1 11 12 0 ≤ 300 := hT8.2.1 12
            have f33b : H7.2.2.1 72 0 (n) < H7.1 11 12 0 := hT8.2.2.1 72 (n) rfl
            refine J.run 4 rfl (show 0 ≤ n ∧ n < 16 from ⟨by omega, by omega⟩) ?_
            try dsimp only
            exact J.reti rfl rfl rfl ⟨_, rfl, rfl, hT8, hE9, k10, k11, k12, k13, k14, k15, k16, k17, k18, _, rfl, (show -2147483648 ≤ (H7.2.2.1 72 0 (n)) ∧ (H7.2.2.1 72 0 (n)) ≤ 2147483647 from ⟨by omega, by omega⟩)⟩
          by_cases c35 : what = 4
          · refine J.tsw rfl rfl rfl ⟨by omega, by omega⟩ (t := 167) (by rw [c35]; rfl) ?_
            have f36 : -1 ≤ H7.2.2.1 75 0 (n) ∧ H7.2.2.1 75 0 (n) ≤ 299 := hT8.1 75 (n)
            refine J.run 4 rfl (show 0 ≤ n ∧ n < 16 from ⟨by omega, by omega⟩) ?_
            try dsimp only
            exact J.reti rfl rfl rfl ⟨_, rfl, rfl, hT8, hE9, k10, k11, k12, k13, k14, k15, k16, k17, k18, _, rfl, (show -2147483648 ≤ (H7.2.2.1 75 0 (n)) ∧ (H7.2.2.1 75 0 (n)) ≤ 2147483647 from ⟨by omega, by omega⟩)⟩
          by_cases c37 : what = 5
          · refine J.tsw rfl rfl rfl ⟨by omega, by omega⟩ (t := 174) (by rw [c37]; rfl) ?_
            have f38 : -1 ≤ H7.2.2.1 76 0 (n) ∧ H7.2.2.1 76 0 (n) ≤ 31 := hT8.1 76 (n)
            refine J.run 4 rfl (show 0 ≤ n ∧ n < 16 from ⟨by omega, by omega⟩) ?_
            try dsimp only
            exact J.reti rfl rfl rfl ⟨_, rfl, rfl, hT8, hE9, k10, k11, k12, k13, k14, k15, k16, k17, k18, _, rfl, (show -2147483648 ≤ (H7.2.2.1 76 0 (n)) ∧ (H7.2.2.1 76 0 (n)) ≤ 2147483647 from ⟨by omega, by omega⟩)⟩
          by_cases c39 : what = 6
          · refine J.tsw rfl rfl rfl ⟨by omega, by omega⟩ (t := 181) (by rw [c39]; rfl) ?_
            have f40 : -1 ≤ H7.2.2.1 77 0 (n) ∧ H7.2.2.1 77 0 (n) ≤ 299 := hT8.1 77 (n)
            have f41 : 1 ≤ H7.1 11 12 0 ∧ H7.1 11 12 0 ≤ 300 := hT8.2.1 12
            have f40b : H7.2.2.1 77 0 (n) < H7.1 11 12 0 := hT8.2.2.1 77 (n) rfl
            refine J.run 4 rfl (show 0 ≤ n ∧ n < 16 from ⟨by omega, by omega⟩) ?_
            try dsimp only
            exact J.reti rfl rfl rfl ⟨_, rfl, rfl, hT8, hE9, k10, k11, k12, k13, k14, k15, k16, k17, k18, _, rfl, (show -2147483648 ≤ (H7.2.2.1 77 0 (n)) ∧ (H7.2.2.1 77 0 (n)) ≤ 2147483647 from ⟨by omega, by omega⟩)⟩
          by_cases c42 : what = 7
          · refine J.tsw rfl rfl rfl ⟨by omega, by omega⟩ (t := 188) (by rw [c42]; rfl) ?_
            have f43 : -1 ≤ H7.2.2.1 78 0 (n) ∧ H7.2.2.1 78 0 (n) ≤ 31 := hT8.1 78 (n)
            refine J.run 4 rfl (show 0 ≤ n ∧ n < 16 from ⟨by omega, by omega⟩) ?_
            try dsimp only
            exact J.reti rfl rfl rfl ⟨_, rfl, rfl, hT8, hE9, k10, k11, k12, k13, k14, k15, k16, k17, k18, _, rfl, (show -2147483648 ≤ (H7.2.2.1 78 0 (n)) ∧ (H7.2.2.1 78 0 (n)) ≤ 2147483647 from ⟨by omega, by omega⟩)⟩
          by_cases c44 : what = 8
          · refine J.tsw rfl rfl rfl ⟨by omega, by omega⟩ (t := 195) (by rw [c44]; rfl) ?_
            have f45 : 0 ≤ H7.2.2.1 71 0 (n) ∧ H7.2.2.1 71 0 (n) ≤ 6000 := hT8.1 71 (n)
            refine J.run 4 rfl (show 0 ≤ n ∧ n < 16 from ⟨by omega, by omega⟩) ?_
            try dsimp only
            exact J.reti rfl rfl rfl ⟨_, rfl, rfl, hT8, hE9, k10, k11, k12, k13, k14, k15, k16, k17, k18, _, rfl, (show -2147483648 ≤ (H7.2.2.1 71 0 (n)) ∧ (H7.2.2.1 71 0 (n)) ≤ 2147483647 from ⟨by omega, by omega⟩)⟩
          by_cases c46 : what = 9
          · refine J.tsw rfl rfl rfl ⟨by omega, by omega⟩ (t := 202) (by rw [c46]; rfl) ?_
            have f47 : 0 ≤ H7.2.2.1 79 0 (n) ∧ H7.2.2.1 79 0 (n) ≤ 1 := hT8.1 79 (n)
            refine J.run 4 rfl (show 0 ≤ n ∧ n < 16 from ⟨by omega, by omega⟩) ?_
            try dsimp only
            refine J.ifc rfl rfl rfl (show -2147483648 ≤ H7.2.2.1 79 0 (n) ∧ H7.2.2.1 79 0 (n) ≤ 2147483647 from ⟨by omega, by omega⟩) (fun hc => ?_) (fun hc => ?_)
            · have c48 : H7.2.2.1 79 0 (n) = (0 : Int) := hc
              clear hc
              refine J.run 4 rfl (show 0 ≤ n ∧ n < 16 from ⟨by omega, by omega⟩) ?_
              try dsimp only
              refine J.ifc rfl rfl rfl (show -2147483648 ≤ H7.2.2.1 80 0 (n) ∧ H7.2.2.1 80 0 (n) ≤ 2147483647 from ⟨by omega, by omega⟩) (fun hc => ?_) (fun hc => ?_)
              · have c49 : H7.2.2.1 80 0 (n) = (0 : Int) := hc
                clear hc
                refine J.run0 1 rfl ?_
                try dsimp only
                exact J.reti rfl rfl rfl ⟨_, rfl, rfl, hT8, hE9, k10, k11, k12, k13, k14, k15, k16, k17, k18, _, rfl, (show -2147483648 ≤ ((0 : Int)) ∧ ((0 : Int)) ≤ 2147483647 from ⟨by omega, by omega⟩)⟩
              · have c50 : ¬ (H7.2.2.1 80 0 (n) = (0 : Int)) := hc
                clear hc
                refine J.run0 2 rfl ?_
                try dsimp only
                exact J.reti rfl rfl rfl ⟨_, rfl, rfl, hT8, hE9, k10, k11, k12, k13, k14, k15, k16, k17, k18, _, rfl, (show -2147483648 ≤ ((2 : Int)) ∧ ((2 : Int)) ≤ 2147483647 from ⟨by omega, by omega⟩)⟩
            · have c51 : ¬ (H7.2.2.1 79 0 (n) = (0 : Int)) := hc
              clear hc
              refine J.run0 2 rfl ?_
              try dsimp only
              exact J.reti rfl rfl rfl ⟨_, rfl, rfl, hT8, hE9, k10, k11, k12, k13, k14, k15, k16, k17, k18, _, rfl, (show -2147483648 ≤ ((1 : Int)) ∧ ((1 : Int)) ≤ 2147483647 from ⟨by omega, by omega⟩)⟩
          by_cases c52 : what = 10
          · refine J.tsw rfl rfl rfl ⟨by omega, by omega⟩ (t := 230) (by rw [c52]; rfl) ?_
            have f53 : 0 ≤ H7.2.2.1 73 0 (n) ∧ H7.2.2.1 73 0 (n) ≤ 31 := hT8.1 73 (n)
            refine J.run 6 rfl (show 0 ≤ n ∧ n < 16 from ⟨by omega, by omega⟩) ?_
            try dsimp only
            refine J.inv rfl rfl rfl rfl rfl rfl jDr rfl rfl rfl rfl rfl (g_proposer (n := n) (r := H7.2.2.1 73 0 (n)) hT8 k14 (show 0 ≤ (n) ∧ (n) < 16 from ⟨by omega, by omega⟩) (show 0 ≤ (H7.2.2.1 73 0 (n)) ∧ (H7.2.2.1 73 0 (n)) < 32 from ⟨by omega, by omega⟩)) ?_
            rintro v w H7 ⟨rfl, rfl, x54, rfl, r55⟩
            have r55' : (-1) ≤ x54 ∧ x54 ≤ 15 := r55
            try dsimp only [Option.toList, List.append, List.cons_append, List.nil_append]
            exact J.reti rfl rfl rfl ⟨_, rfl, rfl, hT8, hE9, k10, k11, k12, k13, k14, k15, k16, k17, k18, _, rfl, (show -2147483648 ≤ (x54) ∧ (x54) ≤ 2147483647 from ⟨by omega, by omega⟩)⟩
          have c56 : what < 0 ∨ 10 < what := by omega
          refine J.tsw rfl rfl rfl ⟨by omega, by omega⟩ (t := 242) (by rw [if_pos c56]; rfl) ?_
          have f57 : 0 ≤ H7.2.2.1 83 0 (n) ∧ H7.2.2.1 83 0 (n) ≤ 96 := hT8.1 83 (n)
          have f58 : 0 ≤ H7.2.2.1 84 0 (n) ∧ H7.2.2.1 84 0 (n) ≤ 11 := hT8.1 84 (n)
          refine J.run 11 rfl ⟨(show 0 ≤ n ∧ n < 16 from ⟨by omega, by omega⟩), (show 0 ≤ n ∧ n < 16 from ⟨by omega, by omega⟩)⟩ ?_
          try dsimp only
          exact J.reti rfl rfl rfl ⟨_, rfl, rfl, hT8, hE9, k10, k11, k12, k13, k14, k15, k16, k17, k18, _, rfl, (show -2147483648 ≤ (((12 : Int) * (H7.2.2.1 83 0 (n))) + (H7.2.2.1 84 0 (n))) ∧ (((12 : Int) * (H7.2.2.1 83 0 (n))) + (H7.2.2.1 84 0 (n))) ≤ 2147483647 from ⟨by omega, by omega⟩)⟩
        · have c59 : ¬ (H7.2.2.1 80 0 (n) = (0 : Int)) := hc
          clear hc
          refine J.run0 2 rfl ?_
          try dsimp only
          refine J.icmp rfl rfl rfl ⟨(show -2147483648 ≤ what ∧ what ≤ 2147483647 from ⟨by omega, by omega⟩), (show -2147483648 ≤ (1 : Int) ∧ (1 : Int) ≤ 2147483647 from ⟨by omega, by omega⟩)⟩ (fun hc => ?_) (fun hc => ?_)
          · have c60 : what = (1 : Int) := hc
            clear hc
            refine J.run0 1 rfl ?_
            try dsimp only
            exact J.reti rfl rfl rfl ⟨_, rfl, rfl, hT8, hE9, k10, k11, k12, k13, k14, k15, k16, k17, k18, _, rfl, (show -2147483648 ≤ ((-1 : Int)) ∧ ((-1 : Int)) ≤ 2147483647 from ⟨by omega, by omega⟩)⟩
          · have c61 : ¬ (what = (1 : Int)) := hc
            clear hc
            refine J.run0 2 rfl ?_
            try dsimp only
            refine J.icmp rfl rfl rfl ⟨(show -2147483648 ≤ what ∧ what ≤ 2147483647 from ⟨by omega, by omega⟩), (show -2147483648 ≤ (2 : Int) ∧ (2 : Int) ≤ 2147483647 from ⟨by omega, by omega⟩)⟩ (fun hc => ?_) (fun hc => ?_)
            · have c62 : what = (2 : Int) := hc
              clear hc
              refine J.run0 1 rfl ?_
              try dsimp only
              exact J.reti rfl rfl rfl ⟨_, rfl, rfl, hT8, hE9, k10, k11, k12, k13, k14, k15, k16, k17, k18, _, rfl, (show -2147483648 ≤ ((-1 : Int)) ∧ ((-1 : Int)) ≤ 2147483647 from ⟨by omega, by omega⟩)⟩
            · have c63 : ¬ (what = (2 : Int)) := hc
              clear hc
              refine J.run0 2 rfl ?_
              try dsimp only
              refine J.icmp rfl rfl rfl ⟨(show -2147483648 ≤ what ∧ what ≤ 2147483647 from ⟨by omega, by omega⟩), (show -2147483648 ≤ (3 : Int) ∧ (3 : Int) ≤ 2147483647 from ⟨by omega, by omega⟩)⟩ (fun hc => ?_) (fun hc => ?_)
              · have c64 : what ≤ (3 : Int) := hc
                clear hc
                refine J.run0 2 rfl ?_
                try dsimp only
                refine J.icmp rfl rfl rfl ⟨(show -2147483648 ≤ what ∧ what ≤ 2147483647 from ⟨by omega, by omega⟩), (show -2147483648 ≤ (10 : Int) ∧ (10 : Int) ≤ 2147483647 from ⟨by omega, by omega⟩)⟩ (fun hc => ?_) (fun hc => ?_)
                · have c65 : ¬ (what = (10 : Int)) := hc
                  clear hc
                  refine J.run0 1 rfl ?_
                  try dsimp only
                  by_cases c66 : what = 0
                  · refine J.tsw rfl rfl rfl ⟨by omega, by omega⟩ (t := 140) (by rw [c66]; rfl) ?_
                    refine J.run0 2 rfl ?_
                    try dsimp only
                    refine J.inv rfl rfl rfl rfl rfl rfl jDr rfl rfl rfl rfl rfl (g_heightE (n := n) hT8  (show 0 ≤ (n) ∧ (n) < 16 from ⟨by omega, by omega⟩)) ?_
                    rintro v w H7 ⟨rfl, rfl, x67, rfl, r68⟩
                    have r68' : x67 = H7.2.2.1 56 0 (H7.2.2.1 72 0 ((n))) + 1 ∧ 1 ≤ x67 ∧ x67 ≤ 301 := r68
                    try dsimp only [Option.toList, List.append, List.cons_append, List.nil_append]
                    exact J.reti rfl rfl rfl ⟨_, rfl, rfl, hT8, hE9, k10, k11, k12, k13, k14, k15, k16, k17, k18, _, rfl, (show -2147483648 ≤ (x67) ∧ (x67) ≤ 2147483647 from ⟨by omega, by omega⟩)⟩
                  by_cases c69 : what = 1
                  · refine J.tsw rfl rfl rfl ⟨by omega, by omega⟩ (t := 146) (by rw [c69]; rfl) ?_
                    have f70 : 0 ≤ H7.2.2.1 73 0 (n) ∧ H7.2.2.1 73 0 (n) ≤ 31 := hT8.1 73 (n)
                    refine J.run 4 rfl (show 0 ≤ n ∧ n < 16 from ⟨by omega, by omega⟩) ?_
                    try dsimp only
                    exact J.reti rfl rfl rfl ⟨_, rfl, rfl, hT8, hE9, k10, k11, k12, k13, k14, k15, k16, k17, k18, _, rfl, (show -2147483648 ≤ (H7.2.2.1 73 0 (n)) ∧ (H7.2.2.1 73 0 (n)) ≤ 2147483647 from ⟨by omega, by omega⟩)⟩
                  by_cases c71 : what = 2
                  · refine J.tsw rfl rfl rfl ⟨by omega, by omega⟩ (t := 153) (by rw [c71]; rfl) ?_
                    have f72 : 0 ≤ H7.2.2.1 74 0 (n) ∧ H7.2.2.1 74 0 (n) ≤ 2 := hT8.1 74 (n)
                    refine J.run 4 rfl (show 0 ≤ n ∧ n < 16 from ⟨by omega, by omega⟩) ?_
                    try dsimp only
                    exact J.reti rfl rfl rfl ⟨_, rfl, rfl, hT8, hE9, k10, k11, k12, k13, k14, k15, k16, k17, k18, _, rfl, (show -2147483648 ≤ (H7.2.2.1 74 0 (n)) ∧ (H7.2.2.1 74 0 (n)) ≤ 2147483647 from ⟨by omega, by omega⟩)⟩
                  by_cases c73 : what = 3
                  · refine J.tsw rfl rfl rfl ⟨by omega, by omega⟩ (t := 160) (by rw [c73]; rfl) ?_
                    have f74 : 0 ≤ H7.2.2.1 72 0 (n) ∧ H7.2.2.1 72 0 (n) ≤ 299 := hT8.1 72 (n)
                    have f75 : 1 ≤ H7.1 11 12 0 ∧ H7.1 11 12 0 ≤ 300 := hT8.2.1 12
                    have f74b : H7.2.2.1 72 0 (n) < H7.1 11 12 0 := hT8.2.2.1 72 (n) rfl
                    refine J.run 4 rfl (show 0 ≤ n ∧ n < 16 from ⟨by omega, by omega⟩) ?_
                    try dsimp only
                    exact J.reti rfl rfl rfl ⟨_, rfl, rfl, hT8, hE9, k10, k11, k12, k13, k14, k15, k16, k17, k18, _, rfl, (show -2147483648 ≤ (H7.2.2.1 72 0 (n)) ∧ (H7.2.2.1 72 0 (n)) ≤ 2147483647 from ⟨by omega, by omega⟩)⟩
                  by_cases c76 : what = 4
                  · refine J.tsw rfl rfl rfl ⟨by omega, by omega⟩ (t := 167) (by rw [c76]; rfl) ?_
                    have f77 : -1 ≤ H7.2.2.1 75 0 (n) ∧ H7.2.2.1 75 0 (n) ≤ 299 := hT8.1 75 (n)
                    refine J.run 4 rfl (show 0 ≤ n ∧ n < 16 from ⟨by omega, by omega⟩) ?_
                    try dsimp only
                    exact J.reti rfl rfl rfl ⟨_, rfl, rfl, hT8, hE9, k10, k11, k12, k13, k14, k15, k16, k17, k18, _, rfl, (show -2147483648 ≤ (H7.2.2.1 75 0 (n)) ∧ (H7.2.2.1 75 0 (n)) ≤ 2147483647 from ⟨by omega, by omega⟩)⟩
                  by_cases c78 : what = 5
                  · refine J.tsw rfl rfl rfl ⟨by omega, by omega⟩ (t := 174) (by rw [c78]; rfl) ?_
                    have f79 : -1 ≤ H7.2.2.1 76 0 (n) ∧ H7.2.2.1 76 0 (n) ≤ 31 := hT8.1 76 (n)
                    refine J.run 4 rfl (show 0 ≤ n ∧ n < 16 from ⟨by omega, by omega⟩) ?_
                    try dsimp only
                    exact J.reti rfl rfl rfl ⟨_, rfl, rfl, hT8, hE9, k10, k11, k12, k13, k14, k15, k16, k17, k18, _, rfl, (show -2147483648 ≤ (H7.2.2.1 76 0 (n)) ∧ (H7.2.2.1 76 0 (n)) ≤ 2147483647 from ⟨by omega, by omega⟩)⟩
                  by_cases c80 : what = 6
                  · refine J.tsw rfl rfl rfl ⟨by omega, by omega⟩ (t := 181) (by rw [c80]; rfl) ?_
                    have f81 : -1 ≤ H7.2.2.1 77 0 (n) ∧ H7.2.2.1 77 0 (n) ≤ 299 := hT8.1 77 (n)
                    have f82 : 1 ≤ H7.1 11 12 0 ∧ H7.1 11 12 0 ≤ 300 := hT8.2.1 12
                    have f81b : H7.2.2.1 77 0 (n) < H7.1 11 12 0 := hT8.2.2.1 77 (n) rfl
                    refine J.run 4 rfl (show 0 ≤ n ∧ n < 16 from ⟨by omega, by omega⟩) ?_
                    try dsimp only
                    exact J.reti rfl rfl rfl ⟨_, rfl, rfl, hT8, hE9, k10, k11, k12, k13, k14, k15, k16, k17, k18, _, rfl, (show -2147483648 ≤ (H7.2.2.1 77 0 (n)) ∧ (H7.2.2.1 77 0 (n)) ≤ 2147483647 from ⟨by omega, by omega⟩)⟩
                  by_cases c83 : what = 7
                  · refine J.tsw rfl rfl rfl ⟨by omega, by omega⟩ (t := 188) (by rw [c83]; rfl) ?_
                    have f84 : -1 ≤ H7.2.2.1 78 0 (n) ∧ H7.2.2.1 78 0 (n) ≤ 31 := hT8.1 78 (n)
                    refine J.run 4 rfl (show 0 ≤ n ∧ n < 16 from ⟨by omega, by omega⟩) ?_
                    try dsimp only
                    exact J.reti rfl rfl rfl ⟨_, rfl, rfl, hT8, hE9, k10, k11, k12, k13, k14, k15, k16, k17, k18, _, rfl, (show -2147483648 ≤ (H7.2.2.1 78 0 (n)) ∧ (H7.2.2.1 78 0 (n)) ≤ 2147483647 from ⟨by omega, by omega⟩)⟩
                  by_cases c85 : what = 8
                  · refine J.tsw rfl rfl rfl ⟨by omega, by omega⟩ (t := 195) (by rw [c85]; rfl) ?_
                    have f86 : 0 ≤ H7.2.2.1 71 0 (n) ∧ H7.2.2.1 71 0 (n) ≤ 6000 := hT8.1 71 (n)
                    refine J.run 4 rfl (show 0 ≤ n ∧ n < 16 from ⟨by omega, by omega⟩) ?_
                    try dsimp only
                    exact J.reti rfl rfl rfl ⟨_, rfl, rfl, hT8, hE9, k10, k11, k12, k13, k14, k15, k16, k17, k18, _, rfl, (show -2147483648 ≤ (H7.2.2.1 71 0 (n)) ∧ (H7.2.2.1 71 0 (n)) ≤ 2147483647 from ⟨by omega, by omega⟩)⟩
                  by_cases c87 : what = 9
                  · refine J.tsw rfl rfl rfl ⟨by omega, by omega⟩ (t := 202) (by rw [c87]; rfl) ?_
                    have f88 : 0 ≤ H7.2.2.1 79 0 (n) ∧ H7.2.2.1 79 0 (n) ≤ 1 := hT8.1 79 (n)
                    refine J.run 4 rfl (show 0 ≤ n ∧ n < 16 from ⟨by omega, by omega⟩) ?_
                    try dsimp only
                    refine J.ifc rfl rfl rfl (show -2147483648 ≤ H7.2.2.1 79 0 (n) ∧ H7.2.2.1 79 0 (n) ≤ 2147483647 from ⟨by omega, by omega⟩) (fun hc => ?_) (fun hc => ?_)
                    · have c89 : H7.2.2.1 79 0 (n) = (0 : Int) := hc
                      clear hc
                      refine J.run 4 rfl (show 0 ≤ n ∧ n < 16 from ⟨by omega, by omega⟩) ?_
                      try dsimp only
                      refine J.ifc rfl rfl rfl (show -2147483648 ≤ H7.2.2.1 80 0 (n) ∧ H7.2.2.1 80 0 (n) ≤ 2147483647 from ⟨by omega, by omega⟩) (fun hc => ?_) (fun hc => ?_)
                      · have c90 : H7.2.2.1 80 0 (n) = (0 : Int) := hc
                        clear hc
                        refine J.run0 1 rfl ?_
                        try dsimp only
                        exact J.reti rfl rfl rfl ⟨_, rfl, rfl, hT8, hE9, k10, k11, k12, k13, k14, k15, k16, k17, k18, _, rfl, (show -2147483648 ≤ ((0 : Int)) ∧ ((0 : Int)) ≤ 2147483647 from ⟨by omega, by omega⟩)⟩
                      · have c91 : ¬ (H7.2.2.1 80 0 (n) = (0 : Int)) := hc
                        clear hc
                        refine J.run0 2 rfl ?_
                        try dsimp only
                        exact J.reti rfl rfl rfl ⟨_, rfl, rfl, hT8, hE9, k10, k11, k12, k13, k14, k15, k16, k17, k18, _, rfl, (show -2147483648 ≤ ((2 : Int)) ∧ ((2 : Int)) ≤ 2147483647 from ⟨by omega, by omega⟩)⟩
                    · have c92 : ¬ (H7.2.2.1 79 0 (n) = (0 : Int)) := hc
                      clear hc
                      refine J.run0 2 rfl ?_
                      try dsimp only
                      exact J.reti rfl rfl rfl ⟨_, rfl, rfl, hT8, hE9, k10, k11, k12, k13, k14, k15, k16, k17, k18, _, rfl, (show -2147483648 ≤ ((1 : Int)) ∧ ((1 : Int)) ≤ 2147483647 from ⟨by omega, by omega⟩)⟩
                  by_cases c93 : what = 10
                  · refine J.tsw rfl rfl rfl ⟨by omega, by omega⟩ (t := 230) (by rw [c93]; rfl) ?_
                    have f94 : 0 ≤ H7.2.2.1 73 0 (n) ∧ H7.2.2.1 73 0 (n) ≤ 31 := hT8.1 73 (n)
                    refine J.run 6 rfl (show 0 ≤ n ∧ n < 16 from ⟨by omega, by omega⟩) ?_
                    try dsimp only
                    refine J.inv rfl rfl rfl rfl rfl rfl jDr rfl rfl rfl rfl rfl (g_proposer (n := n) (r := H7.2.2.1 73 0 (n)) hT8 k14 (show 0 ≤ (n) ∧ (n) < 16 from ⟨by omega, by omega⟩) (show 0 ≤ (H7.2.2.1 73 0 (n)) ∧ (H7.2.2.1 73 0 (n)) < 32 from ⟨by omega, by omega⟩)) ?_
                    rintro v w H7 ⟨rfl, rfl, x95, rfl, r96⟩
                    have r96' : (-1) ≤ x95 ∧ x95 ≤ 15 := r96
                    try dsimp only [Option.toList, List.append, List.cons_append, List.nil_append]
                    exact J.reti rfl rfl rfl ⟨_, rfl, rfl, hT8, hE9, k10, k11, k12, k13, k14, k15, k16, k17, k18, _, rfl, (show -2147483648 ≤ (x95) ∧ (x95) ≤ 2147483647 from ⟨by omega, by omega⟩)⟩
                  have c97 : what < 0 ∨ 10 < what := by omega
                  refine J.tsw rfl rfl rfl ⟨by omega, by omega⟩ (t := 242) (by rw [if_pos c97]; rfl) ?_
                  have f98 : 0 ≤ H7.2.2.1 83 0 (n) ∧ H7.2.2.1 83 0 (n) ≤ 96 := hT8.1 83 (n)
                  have f99 : 0 ≤ H7.2.2.1 84 0 (n) ∧ H7.2.2.1 84 0 (n) ≤ 11 := hT8.1 84 (n)
                  refine J.run 11 rfl ⟨(show 0 ≤ n ∧ n < 16 from ⟨by omega, by omega⟩), (show 0 ≤ n ∧ n < 16 from ⟨by omega, by omega⟩)⟩ ?_
                  try dsimp only
                  exact J.reti rfl rfl rfl ⟨_, rfl, rfl, hT8, hE9, k10, k11, k12, k13, k14, k15, k16, k17, k18, _, rfl, (show -2147483648 ≤ (((12 : Int) * (H7.2.2.1 83 0 (n))) + (H7.2.2.1 84 0 (n))) ∧ (((12 : Int) * (H7.2.2.1 83 0 (n))) + (H7.2.2.1 84 0 (n))) ≤ 2147483647 from ⟨by omega, by omega⟩)⟩
                · have c100 : ¬ (¬ (what = (10 : Int))) := hc
                  clear hc
                  refine J.run0 1 rfl ?_
                  try dsimp only
                  exact J.reti rfl rfl rfl ⟨_, rfl, rfl, hT8, hE9, k10, k11, k12, k13, k14, k15, k16, k17, k18, _, rfl, (show -2147483648 ≤ ((-1 : Int)) ∧ ((-1 : Int)) ≤ 2147483647 from ⟨by omega, by omega⟩)⟩
              · have c101 : ¬ (what ≤ (3 : Int)) := hc
                clear hc
                refine J.run0 2 rfl ?_
                try dsimp only
                refine J.icmp rfl rfl rfl ⟨(show -2147483648 ≤ what ∧ what ≤ 2147483647 from ⟨by omega, by omega⟩), (show -2147483648 ≤ (8 : Int) ∧ (8 : Int) ≤ 2147483647 from ⟨by omega, by omega⟩)⟩ (fun hc => ?_) (fun hc => ?_)
                · have c102 : what < (8 : Int) := hc
                  clear hc
                  refine J.run0 1 rfl ?_
                  try dsimp only
                  exact J.reti rfl rfl rfl ⟨_, rfl, rfl, hT8, hE9, k10, k11, k12, k13, k14, k15, k16, k17, k18, _, rfl, (show -2147483648 ≤ ((-1 : Int)) ∧ ((-1 : Int)) ≤ 2147483647 from ⟨by omega, by omega⟩)⟩
                · have c103 : ¬ (what < (8 : Int)) := hc
                  clear hc
                  refine J.run0 2 rfl ?_
                  try dsimp only
                  refine J.icmp rfl rfl rfl ⟨(show -2147483648 ≤ what ∧ what ≤ 2147483647 from ⟨by omega, by omega⟩), (show -2147483648 ≤ (10 : Int) ∧ (10 : Int) ≤ 2147483647 from ⟨by omega, by omega⟩)⟩ (fun hc => ?_) (fun hc => ?_)
                  · have c104 : ¬ (what = (10 : Int)) := hc
                    clear hc
                    refine J.run0 1 rfl ?_
                    try dsimp only
                    by_cases c105 : what = 0
                    · refine J.tsw rfl rfl rfl ⟨by omega, by omega⟩ (t := 140) (by rw [c105]; rfl) ?_
                      refine J.run0 2 rfl ?_
                      try dsimp only
                      refine J.inv rfl rfl rfl rfl rfl rfl jDr rfl rfl rfl rfl rfl (g_heightE (n := n) hT8  (show 0 ≤ (n) ∧ (n) < 16 from ⟨by omega, by omega⟩)) ?_
                      rintro v w H7 ⟨rfl, rfl, x106, rfl, r107⟩
                      have r107' : x106 = H7.2.2.1 56 0 (H7.2.2.1 72 0 ((n))) + 1 ∧ 1 ≤ x106 ∧ x106 ≤ 301 := r107
                      try dsimp only [Option.toList, List.append, List.cons_append, List.nil_append]
                      exact J.reti rfl rfl rfl ⟨_, rfl, rfl, hT8, hE9, k10, k11, k12, k13, k14, k15, k16, k17, k18, _, rfl, (show -2147483648 ≤ (x106) ∧ (x106) ≤ 2147483647 from ⟨by omega, by omega⟩)⟩
                    by_cases c108 : what = 1
                    · refine J.tsw rfl rfl rfl ⟨by omega, by omega⟩ (t := 146) (by rw [c108]; rfl) ?_
                      have f109 : 0 ≤ H7.2.2.1 73 0 (n) ∧ H7.2.2.1 73 0 (n) ≤ 31 := hT8.1 73 (n)
                      refine J.run 4 rfl (show 0 ≤ n ∧ n < 16 from ⟨by omega, by omega⟩) ?_
                      try dsimp only
                      exact J.reti rfl rfl rfl ⟨_, rfl, rfl, hT8, hE9, k10, k11, k12, k13, k14, k15, k16, k17, k18, _, rfl, (show -2147483648 ≤ (H7.2.2.1 73 0 (n)) ∧ (H7.2.2.1 73 0 (n)) ≤ 2147483647 from ⟨by omega, by omega⟩)⟩
                    by_cases c110 : what = 2
                    · refine J.tsw rfl rfl rfl ⟨by omega, by omega⟩ (t := 153) (by rw [c110]; rfl) ?_
                      have f111 : 0 ≤ H7.2.2.1 74 0 (n) ∧ H7.2.2.1 74 0 (n) ≤ 2 := hT8.1 74 (n)
                      refine J.run 4 rfl (show 0 ≤ n ∧ n < 16 from ⟨by omega, by omega⟩) ?_
                      try dsimp only
                      exact J.reti rfl rfl rfl ⟨_, rfl, rfl, hT8, hE9, k10, k11, k12, k13, k14, k15, k16, k17, k18, _, rfl, (show -2147483648 ≤ (H7.2.2.1 74 0 (n)) ∧ (H7.2.2.1 74 0 (n)) ≤ 2147483647 from ⟨by omega, by omega⟩)⟩
                    by_cases c112 : what = 3
                    · refine J.tsw rfl rfl rfl ⟨by omega, by omega⟩ (t := 160) (by rw [c112]; rfl) ?_
                      have f113 : 0 ≤ H7.2.2.1 72 0 (n) ∧ H7.2.2.1 72 0 (n) ≤ 299 := hT8.1 72 (n)
                      have f114 : 1 ≤ H7.1 11 12 0 ∧ H7.1 11 12 0 ≤ 300 := hT8.2.1 12
                      have f113b : H7.2.2.1 72 0 (n) < H7.1 11 12 0 := hT8.2.2.1 72 (n) rfl
                      refine J.run 4 rfl (show 0 ≤ n ∧ n < 16 from ⟨by omega, by omega⟩) ?_
                      try dsimp only
                      exact J.reti rfl rfl rfl ⟨_, rfl, rfl, hT8, hE9, k10, k11, k12, k13, k14, k15, k16, k17, k18, _, rfl, (show -2147483648 ≤ (H7.2.2.1 72 0 (n)) ∧ (H7.2.2.1 72 0 (n)) ≤ 2147483647 from ⟨by omega, by omega⟩)⟩
                    by_cases c115 : what = 4
                    · refine J.tsw rfl rfl rfl ⟨by omega, by omega⟩ (t := 167) (by rw [c115]; rfl) ?_
                      have f116 : -1 ≤ H7.2.2.1 75 0 (n) ∧ H7.2.2.1 75 0 (n) ≤ 299 := hT8.1 75 (n)
                      refine J.run 4 rfl (show 0 ≤ n ∧ n < 16 from ⟨by omega, by omega⟩) ?_
                      try dsimp only
                      exact J.reti rfl rfl rfl ⟨_, rfl, rfl, hT8, hE9, k10, k11, k12, k13, k14, k15, k16, k17, k18, _, rfl, (show -2147483648 ≤ (H7.2.2.1 75 0 (n)) ∧ (H7.2.2.1 75 0 (n)) ≤ 2147483647 from ⟨by omega, by omega⟩)⟩
                    by_cases c117 : what = 5
                    · refine J.tsw rfl rfl rfl ⟨by omega, by omega⟩ (t := 174) (by rw [c117]; rfl) ?_
                      have f118 : -1 ≤ H7.2.2.1 76 0 (n) ∧ H7.2.2.1 76 0 (n) ≤ 31 := hT8.1 76 (n)
                      refine J.run 4 rfl (show 0 ≤ n ∧ n < 16 from ⟨by omega, by omega⟩) ?_
                      try dsimp only
                      exact J.reti rfl rfl rfl ⟨_, rfl, rfl, hT8, hE9, k10, k11, k12, k13, k14, k15, k16, k17, k18, _, rfl, (show -2147483648 ≤ (H7.2.2.1 76 0 (n)) ∧ (H7.2.2.1 76 0 (n)) ≤ 2147483647 from ⟨by omega, by omega⟩)⟩
                    by_cases c119 : what = 6
                    · refine J.tsw rfl rfl rfl ⟨by omega, by omega⟩ (t := 181) (by rw [c119]; rfl) ?_
                      have f120 : -1 ≤ H7.2.2.1 77 0 (n) ∧ H7.2.2.1 77 0 (n) ≤ 299 := hT8.1 77 (n)
                      have f121 : 1 ≤ H7.1 11 12 0 ∧ H7.1 11 12 0 ≤ 300 := hT8.2.1 12
                      have f120b : H7.2.2.1 77 0 (n) < H7.1 11 12 0 := hT8.2.2.1 77 (n) rfl
                      refine J.run 4 rfl (show 0 ≤ n ∧ n < 16 from ⟨by omega, by omega⟩) ?_
                      try dsimp only
                      exact J.reti rfl rfl rfl ⟨_, rfl, rfl, hT8, hE9, k10, k11, k12, k13, k14, k15, k16, k17, k18, _, rfl, (show -2147483648 ≤ (H7.2.2.1 77 0 (n)) ∧ (H7.2.2.1 77 0 (n)) ≤ 2147483647 from ⟨by omega, by omega⟩)⟩
                    by_cases c122 : what = 7
                    · refine J.tsw rfl rfl rfl ⟨by omega, by omega⟩ (t := 188) (by rw [c122]; rfl) ?_
                      have f123 : -1 ≤ H7.2.2.1 78 0 (n) ∧ H7.2.2.1 78 0 (n) ≤ 31 := hT8.1 78 (n)
                      refine J.run 4 rfl (show 0 ≤ n ∧ n < 16 from ⟨by omega, by omega⟩) ?_
                      try dsimp only
                      exact J.reti rfl rfl rfl ⟨_, rfl, rfl, hT8, hE9, k10, k11, k12, k13, k14, k15, k16, k17, k18, _, rfl, (show -2147483648 ≤ (H7.2.2.1 78 0 (n)) ∧ (H7.2.2.1 78 0 (n)) ≤ 2147483647 from ⟨by omega, by omega⟩)⟩
                    by_cases c124 : what = 8
                    · refine J.tsw rfl rfl rfl ⟨by omega, by omega⟩ (t := 195) (by rw [c124]; rfl) ?_
                      have f125 : 0 ≤ H7.2.2.1 71 0 (n) ∧ H7.2.2.1 71 0 (n) ≤ 6000 := hT8.1 71 (n)
                      refine J.run 4 rfl (show 0 ≤ n ∧ n < 16 from ⟨by omega, by omega⟩) ?_
                      try dsimp only
                      exact J.reti rfl rfl rfl ⟨_, rfl, rfl, hT8, hE9, k10, k11, k12, k13, k14, k15, k16, k17, k18, _, rfl, (show -2147483648 ≤ (H7.2.2.1 71 0 (n)) ∧ (H7.2.2.1 71 0 (n)) ≤ 2147483647 from ⟨by omega, by omega⟩)⟩
                    by_cases c126 : what = 9
                    · refine J.tsw rfl rfl rfl ⟨by omega, by omega⟩ (t := 202) (by rw [c126]; rfl) ?_
                      have f127 : 0 ≤ H7.2.2.1 79 0 (n) ∧ H7.2.2.1 79 0 (n) ≤ 1 := hT8.1 79 (n)
                      refine J.run 4 rfl (show 0 ≤ n ∧ n < 16 from ⟨by omega, by omega⟩) ?_
                      try dsimp only
                      refine J.ifc rfl rfl rfl (show -2147483648 ≤ H7.2.2.1 79 0 (n) ∧ H7.2.2.1 79 0 (n) ≤ 2147483647 from ⟨by omega, by omega⟩) (fun hc => ?_) (fun hc => ?_)
                      · have c128 : H7.2.2.1 79 0 (n) = (0 : Int) := hc
                        clear hc
                        refine J.run 4 rfl (show 0 ≤ n ∧ n < 16 from ⟨by omega, by omega⟩) ?_
                        try dsimp only
                        refine J.ifc rfl rfl rfl (show -2147483648 ≤ H7.2.2.1 80 0 (n) ∧ H7.2.2.1 80 0 (n) ≤ 2147483647 from ⟨by omega, by omega⟩) (fun hc => ?_) (fun hc => ?_)
                        · have c129 : H7.2.2.1 80 0 (n) = (0 : Int) := hc
                          clear hc
                          refine J.run0 1 rfl ?_
                          try dsimp only
                          exact J.reti rfl rfl rfl ⟨_, rfl, rfl, hT8, hE9, k10, k11, k12, k13, k14, k15, k16, k17, k18, _, rfl, (show -2147483648 ≤ ((0 : Int)) ∧ ((0 : Int)) ≤ 2147483647 from ⟨by omega, by omega⟩)⟩
                        · have c130 : ¬ (H7.2.2.1 80 0 (n) = (0 : Int)) := hc
                          clear hc
                          refine J.run0 2 rfl ?_
                          try dsimp only
                          exact J.reti rfl rfl rfl ⟨_, rfl, rfl, hT8, hE9, k10, k11, k12, k13, k14, k15, k16, k17, k18, _, rfl, (show -2147483648 ≤ ((2 : Int)) ∧ ((2 : Int)) ≤ 2147483647 from ⟨by omega, by omega⟩)⟩
                      · have c131 : ¬ (H7.2.2.1 79 0 (n) = (0 : Int)) := hc
                        clear hc
                        refine J.run0 2 rfl ?_
                        try dsimp only
                        exact J.reti rfl rfl rfl ⟨_, rfl, rfl, hT8, hE9, k10, k11, k12, k13, k14, k15, k16, k17, k18, _, rfl, (show -2147483648 ≤ ((1 : Int)) ∧ ((1 : Int)) ≤ 2147483647 from ⟨by omega, by omega⟩)⟩
                    by_cases c132 : what = 10
                    · refine J.tsw rfl rfl rfl ⟨by omega, by omega⟩ (t := 230) (by rw [c132]; rfl) ?_
                      have f133 : 0 ≤ H7.2.2.1 73 0 (n) ∧ H7.2.2.1 73 0 (n) ≤ 31 := hT8.1 73 (n)
                      refine J.run 6 rfl (show 0 ≤ n ∧ n < 16 from ⟨by omega, by omega⟩) ?_
                      try dsimp only
                      refine J.inv rfl rfl rfl rfl rfl rfl jDr rfl rfl rfl rfl rfl (g_proposer (n := n) (r := H7.2.2.1 73 0 (n)) hT8 k14 (show 0 ≤ (n) ∧ (n) < 16 from ⟨by omega, by omega⟩) (show 0 ≤ (H7.2.2.1 73 0 (n)) ∧ (H7.2.2.1 73 0 (n)) < 32 from ⟨by omega, by omega⟩)) ?_
                      rintro v w H7 ⟨rfl, rfl, x134, rfl, r135⟩
                      have r135' : (-1) ≤ x134 ∧ x134 ≤ 15 := r135
                      try dsimp only [Option.toList, List.append, List.cons_append, List.nil_append]
                      exact J.reti rfl rfl rfl ⟨_, rfl, rfl, hT8, hE9, k10, k11, k12, k13, k14, k15, k16, k17, k18, _, rfl, (show -2147483648 ≤ (x134) ∧ (x134) ≤ 2147483647 from ⟨by omega, by omega⟩)⟩
                    have c136 : what < 0 ∨ 10 < what := by omega
                    refine J.tsw rfl rfl rfl ⟨by omega, by omega⟩ (t := 242) (by rw [if_pos c136]; rfl) ?_
                    have f137 : 0 ≤ H7.2.2.1 83 0 (n) ∧ H7.2.2.1 83 0 (n) ≤ 96 := hT8.1 83 (n)
                    have f138 : 0 ≤ H7.2.2.1 84 0 (n) ∧ H7.2.2.1 84 0 (n) ≤ 11 := hT8.1 84 (n)
                    refine J.run 11 rfl ⟨(show 0 ≤ n ∧ n < 16 from ⟨by omega, by omega⟩), (show 0 ≤ n ∧ n < 16 from ⟨by omega, by omega⟩)⟩ ?_
                    try dsimp only
                    exact J.reti rfl rfl rfl ⟨_, rfl, rfl, hT8, hE9, k10, k11, k12, k13, k14, k15, k16, k17, k18, _, rfl, (show -2147483648 ≤ (((12 : Int) * (H7.2.2.1 83 0 (n))) + (H7.2.2.1 84 0 (n))) ∧ (((12 : Int) * (H7.2.2.1 83 0 (n))) + (H7.2.2.1 84 0 (n))) ≤ 2147483647 from ⟨by omega, by omega⟩)⟩
                  · have c139 : ¬ (¬ (what = (10 : Int))) := hc
                    clear hc
                    refine J.run0 1 rfl ?_
                    try dsimp only
                    exact J.reti rfl rfl rfl ⟨_, rfl, rfl, hT8, hE9, k10, k11, k12, k13, k14, k15, k16, k17, k18, _, rfl, (show -2147483648 ≤ ((-1 : Int)) ∧ ((-1 : Int)) ≤ 2147483647 from ⟨by omega, by omega⟩)⟩
      · have c140 : ¬ (H7.1 11 47 0 ≤ (0 : Int)) := hc
        clear hc
        refine J.run0 1 rfl ?_
        try dsimp only
        exact J.reti rfl rfl rfl ⟨_, rfl, rfl, hT8, hE9, k10, k11, k12, k13, k14, k15, k16, k17, k18, _, rfl, (show -2147483648 ≤ ((0 : Int)) ∧ ((0 : Int)) ≤ 2147483647 from ⟨by omega, by omega⟩)⟩
    · have c141 : ¬ (¬ (x4 = (0 : Int))) := hc
      clear hc
      refine J.run0 3 rfl ?_
      try dsimp only
      refine J.gn fun H142 hH142 => ?_
      have hT143 : gT H142 := by rw [hH142]; exact gT.num (f := 47) hT (show 0 ≤ (2 : Int) ∧ (2 : Int) ≤ 3 from ⟨by omega, by omega⟩) (by decide) (fun z => absurd z (by decide))
      have hE144 : jEx [47] [] H142 H := by rw [hH142]; exact jEx.num hE (by decide)
      have k145 : gP H142 := by rw [hH142]; exact k0gP
      have k146 : gX H142 := by rw [hH142]; exact k0gX
      have k147 : gL H142 := by rw [hH142]; exact k0gL
      have k148 : gZ H142 := by rw [hH142]; exact k0gZ
      have k149 : gQ H142 := by rw [hH142]; exact k0gQ
      have k150 : gB H142 := by rw [hH142]; exact k0gB
      have k151 : gK H142 := by rw [hH142]; exact k0gK
      have k152 : gN H142 := by rw [hH142]; exact k0gN
      have k153 : gW H142 (H142.1 11 19 0) := by rw [hH142]; exact k0gW
      have g154 : H142.1 11 47 0 = (2 : Int) := by subst hH142; rfl
      have g155 : H142.1 11 12 0 = H.1 11 12 0 := by subst hH142; rfl
      clear hH142
      have f156 : 0 ≤ H142.1 11 47 0 ∧ H142.1 11 47 0 ≤ 3 := hT143.2.1 47
      refine J.run0 2 rfl ?_
      try dsimp only
      refine J.ifc rfl rfl rfl (show -2147483648 ≤ H142.1 11 47 0 ∧ H142.1 11 47 0 ≤ 2147483647 from ⟨by omega, by omega⟩) (fun hc => ?_) (fun hc => ?_)
      · have c157 : H142.1 11 47 0 ≤ (0 : Int) := hc
        clear hc
        have f158 : 0 ≤ H142.2.2.1 80 0 (n) ∧ H142.2.2.1 80 0 (n) ≤ 1 := hT143.1 80 (n)
        refine J.run 4 rfl (show 0 ≤ n ∧ n < 16 from ⟨by omega, by omega⟩) ?_
        try dsimp only
        refine J.ifc rfl rfl rfl (show -2147483648 ≤ H142.2.2.1 80 0 (n) ∧ H142.2.2.1 80 0 (n) ≤ 2147483647 from ⟨by omega, by omega⟩) (fun hc => ?_) (fun hc => ?_)
        · have c159 : H142.2.2.1 80 0 (n) = (0 : Int) := hc
          clear hc
          refine J.run0 1 rfl ?_
          try dsimp only
          by_cases c160 : what = 0
          · refine J.tsw rfl rfl rfl ⟨by omega, by omega⟩ (t := 140) (by rw [c160]; rfl) ?_
            refine J.run0 2 rfl ?_
            try dsimp only
            refine J.inv rfl rfl rfl rfl rfl rfl jDr rfl rfl rfl rfl rfl (g_heightE (n := n) hT143  (show 0 ≤ (n) ∧ (n) < 16 from ⟨by omega, by omega⟩)) ?_
            rintro v w H142 ⟨rfl, rfl, x161, rfl, r162⟩
            have r162' : x161 = H142.2.2.1 56 0 (H142.2.2.1 72 0 ((n))) + 1 ∧ 1 ≤ x161 ∧ x161 ≤ 301 := r162
            try dsimp only [Option.toList, List.append, List.cons_append, List.nil_append]
            exact J.reti rfl rfl rfl ⟨_, rfl, rfl, hT143, hE144, k145, k146, k147, k148, k149, k150, k151, k152, k153, _, rfl, (show -2147483648 ≤ (x161) ∧ (x161) ≤ 2147483647 from ⟨by omega, by omega⟩)⟩
          by_cases c163 : what = 1
          · refine J.tsw rfl rfl rfl ⟨by omega, by omega⟩ (t := 146) (by rw [c163]; rfl) ?_
            have f164 : 0 ≤ H142.2.2.1 73 0 (n) ∧ H142.2.2.1 73 0 (n) ≤ 31 := hT143.1 73 (n)
            refine J.run 4 rfl (show 0 ≤ n ∧ n < 16 from ⟨by omega, by omega⟩) ?_
            try dsimp only
            exact J.reti rfl rfl rfl ⟨_, rfl, rfl, hT143, hE144, k145, k146, k147, k148, k149, k150, k151, k152, k153, _, rfl, (show -2147483648 ≤ (H142.2.2.1 73 0 (n)) ∧ (H142.2.2.1 73 0 (n)) ≤ 2147483647 from ⟨by omega, by omega⟩)⟩
          by_cases c165 : what = 2
          · refine J.tsw rfl rfl rfl ⟨by omega, by omega⟩ (t := 153) (by rw [c165]; rfl) ?_
            have f166 : 0 ≤ H142.2.2.1 74 0 (n) ∧ H142.2.2.1 74 0 (n) ≤ 2 := hT143.1 74 (n)
            refine J.run 4 rfl (show 0 ≤ n ∧ n < 16 from ⟨by omega, by omega⟩) ?_
            try dsimp only
            exact J.reti rfl rfl rfl ⟨_, rfl, rfl, hT143, hE144, k145, k146, k147, k148, k149, k150, k151, k152, k153, _, rfl, (show -2147483648 ≤ (H142.2.2.1 74 0 (n)) ∧ (H142.2.2.1 74 0 (n)) ≤ 2147483647 from ⟨by omega, by omega⟩)⟩
          by_cases c167 : what = 3
          · refine J.tsw rfl rfl rfl ⟨by omega, by omega⟩ (t := 160) (by rw [c167]; rfl) ?_
            have f168 : 0 ≤ H142.2.2.1 72 0 (n) ∧ H142.2.2.1 72 0 (n) ≤ 299 := hT143.1 72 (n)
            have f169 : 1 ≤ H142.1 11 12 0 ∧ H142.1 11 12 0 ≤ 300 := hT143.2.1 12
            have f168b : H142.2.2.1 72 0 (n) < H142.1 11 12 0 := hT143.2.2.1 72 (n) rfl
            refine J.run 4 rfl (show 0 ≤ n ∧ n < 16 from ⟨by omega, by omega⟩) ?_
            try dsimp only
            exact J.reti rfl rfl rfl ⟨_, rfl, rfl, hT143, hE144, k145, k146, k147, k148, k149, k150, k151, k152, k153, _, rfl, (show -2147483648 ≤ (H142.2.2.1 72 0 (n)) ∧ (H142.2.2.1 72 0 (n)) ≤ 2147483647 from ⟨by omega, by omega⟩)⟩
          by_cases c170 : what = 4
          · refine J.tsw rfl rfl rfl ⟨by omega, by omega⟩ (t := 167) (by rw [c170]; rfl) ?_
            have f171 : -1 ≤ H142.2.2.1 75 0 (n) ∧ H142.2.2.1 75 0 (n) ≤ 299 := hT143.1 75 (n)
            refine J.run 4 rfl (show 0 ≤ n ∧ n < 16 from ⟨by omega, by omega⟩) ?_
            try dsimp only
            exact J.reti rfl rfl rfl ⟨_, rfl, rfl, hT143, hE144, k145, k146, k147, k148, k149, k150, k151, k152, k153, _, rfl, (show -2147483648 ≤ (H142.2.2.1 75 0 (n)) ∧ (H142.2.2.1 75 0 (n)) ≤ 2147483647 from ⟨by omega, by omega⟩)⟩
          by_cases c172 : what = 5
          · refine J.tsw rfl rfl rfl ⟨by omega, by omega⟩ (t := 174) (by rw [c172]; rfl) ?_
            have f173 : -1 ≤ H142.2.2.1 76 0 (n) ∧ H142.2.2.1 76 0 (n) ≤ 31 := hT143.1 76 (n)
            refine J.run 4 rfl (show 0 ≤ n ∧ n < 16 from ⟨by omega, by omega⟩) ?_
            try dsimp only
            exact J.reti rfl rfl rfl ⟨_, rfl, rfl, hT143, hE144, k145, k146, k147, k148, k149, k150, k151, k152, k153, _, rfl, (show -2147483648 ≤ (H142.2.2.1 76 0 (n)) ∧ (H142.2.2.1 76 0 (n)) ≤ 2147483647 from ⟨by omega, by omega⟩)⟩
          by_cases c174 : what = 6
          · refine J.tsw rfl rfl rfl ⟨by omega, by omega⟩ (t := 181) (by rw [c174]; rfl) ?_
            have f175 : -1 ≤ H142.2.2.1 77 0 (n) ∧ H142.2.2.1 77 0 (n) ≤ 299 := hT143.1 77 (n)
            have f176 : 1 ≤ H142.1 11 12 0 ∧ H142.1 11 12 0 ≤ 300 := hT143.2.1 12
            have f175b : H142.2.2.1 77 0 (n) < H142.1 11 12 0 := hT143.2.2.1 77 (n) rfl
            refine J.run 4 rfl (show 0 ≤ n ∧ n < 16 from ⟨by omega, by omega⟩) ?_
            try dsimp only
            exact J.reti rfl rfl rfl ⟨_, rfl, rfl, hT143, hE144, k145, k146, k147, k148, k149, k150, k151, k152, k153, _, rfl, (show -2147483648 ≤ (H142.2.2.1 77 0 (n)) ∧ (H142.2.2.1 77 0 (n)) ≤ 2147483647 from ⟨by omega, by omega⟩)⟩
          by_cases c177 : what = 7
          · refine J.tsw rfl rfl rfl ⟨by omega, by omega⟩ (t := 188) (by rw [c177]; rfl) ?_
            have f178 : -1 ≤ H142.2.2.1 78 0 (n) ∧ H142.2.2.1 78 0 (n) ≤ 31 := hT143.1 78 (n)
            refine J.run 4 rfl (show 0 ≤ n ∧ n < 16 from ⟨by omega, by omega⟩) ?_
            try dsimp only
            exact J.reti rfl rfl rfl ⟨_, rfl, rfl, hT143, hE144, k145, k146, k147, k148, k149, k150, k151, k152, k153, _, rfl, (show -2147483648 ≤ (H142.2.2.1 78 0 (n)) ∧ (H142.2.2.1 78 0 (n)) ≤ 2147483647 from ⟨by omega, by omega⟩)⟩
          by_cases c179 : what = 8
          · refine J.tsw rfl rfl rfl ⟨by omega, by omega⟩ (t := 195) (by rw [c179]; rfl) ?_
            have f180 : 0 ≤ H142.2.2.1 71 0 (n) ∧ H142.2.2.1 71 0 (n) ≤ 6000 := hT143.1 71 (n)
            refine J.run 4 rfl (show 0 ≤ n ∧ n < 16 from ⟨by omega, by omega⟩) ?_
            try dsimp only
            exact J.reti rfl rfl rfl ⟨_, rfl, rfl, hT143, hE144, k145, k146, k147, k148, k149, k150, k151, k152, k153, _, rfl, (show -2147483648 ≤ (H142.2.2.1 71 0 (n)) ∧ (H142.2.2.1 71 0 (n)) ≤ 2147483647 from ⟨by omega, by omega⟩)⟩
          by_cases c181 : what = 9
          · refine J.tsw rfl rfl rfl ⟨by omega, by omega⟩ (t := 202) (by rw [c181]; rfl) ?_
            have f182 : 0 ≤ H142.2.2.1 79 0 (n) ∧ H142.2.2.1 79 0 (n) ≤ 1 := hT143.1 79 (n)
            refine J.run 4 rfl (show 0 ≤ n ∧ n < 16 from ⟨by omega, by omega⟩) ?_
            try dsimp only
            refine J.ifc rfl rfl rfl (show -2147483648 ≤ H142.2.2.1 79 0 (n) ∧ H142.2.2.1 79 0 (n) ≤ 2147483647 from ⟨by omega, by omega⟩) (fun hc => ?_) (fun hc => ?_)
            · have c183 : H142.2.2.1 79 0 (n) = (0 : Int) := hc
              clear hc
              refine J.run 4 rfl (show 0 ≤ n ∧ n < 16 from ⟨by omega, by omega⟩) ?_
              try dsimp only
              refine J.ifc rfl rfl rfl (show -2147483648 ≤ H142.2.2.1 80 0 (n) ∧ H142.2.2.1 80 0 (n) ≤ 2147483647 from ⟨by omega, by omega⟩) (fun hc => ?_) (fun hc => ?_)
              · have c184 : H142.2.2.1 80 0 (n) = (0 : Int) := hc
                clear hc
                refine J.run0 1 rfl ?_
                try dsimp only
                exact J.reti rfl rfl rfl ⟨_, rfl, rfl, hT143, hE144, k145, k146, k147, k148, k149, k150, k151, k152, k153, _, rfl, (show -2147483648 ≤ ((0 : Int)) ∧ ((0 : Int)) ≤ 2147483647 from ⟨by omega, by omega⟩)⟩
              · have c185 : ¬ (H142.2.2.1 80 0 (n) = (0 : Int)) := hc
                clear hc
                refine J.run0 2 rfl ?_
                try dsimp only
                exact J.reti rfl rfl rfl ⟨_, rfl, rfl, hT143, hE144, k145, k146, k147, k148, k149, k150, k151, k152, k153, _, rfl, (show -2147483648 ≤ ((2 : Int)) ∧ ((2 : Int)) ≤ 2147483647 from ⟨by omega, by omega⟩)⟩
            · have c186 : ¬ (H142.2.2.1 79 0 (n) = (0 : Int)) := hc
              clear hc
              refine J.run0 2 rfl ?_
              try dsimp only
              exact J.reti rfl rfl rfl ⟨_, rfl, rfl, hT143, hE144, k145, k146, k147, k148, k149, k150, k151, k152, k153, _, rfl, (show -2147483648 ≤ ((1 : Int)) ∧ ((1 : Int)) ≤ 2147483647 from ⟨by omega, by omega⟩)⟩
          by_cases c187 : what = 10
          · refine J.tsw rfl rfl rfl ⟨by omega, by omega⟩ (t := 230) (by rw [c187]; rfl) ?_
            have f188 : 0 ≤ H142.2.2.1 73 0 (n) ∧ H142.2.2.1 73 0 (n) ≤ 31 := hT143.1 73 (n)
            refine J.run 6 rfl (show 0 ≤ n ∧ n < 16 from ⟨by omega, by omega⟩) ?_
            try dsimp only
            refine J.inv rfl rfl rfl rfl rfl rfl jDr rfl rfl rfl rfl rfl (g_proposer (n := n) (r := H142.2.2.1 73 0 (n)) hT143 k149 (show 0 ≤ (n) ∧ (n) < 16 from ⟨by omega, by omega⟩) (show 0 ≤ (H142.2.2.1 73 0 (n)) ∧ (H142.2.2.1 73 0 (n)) < 32 from ⟨by omega, by omega⟩)) ?_
            rintro v w H142 ⟨rfl, rfl, x189, rfl, r190⟩
            have r190' : (-1) ≤ x189 ∧ x189 ≤ 15 := r190
            try dsimp only [Option.toList, List.append, List.cons_append, List.nil_append]
            exact J.reti rfl rfl rfl ⟨_, rfl, rfl, hT143, hE144, k145, k146, k147, k148, k149, k150, k151, k152, k153, _, rfl, (show -2147483648 ≤ (x189) ∧ (x189) ≤ 2147483647 from ⟨by omega, by omega⟩)⟩
          have c191 : what < 0 ∨ 10 < what := by omega
          refine J.tsw rfl rfl rfl ⟨by omega, by omega⟩ (t := 242) (by rw [if_pos c191]; rfl) ?_
          have f192 : 0 ≤ H142.2.2.1 83 0 (n) ∧ H142.2.2.1 83 0 (n) ≤ 96 := hT143.1 83 (n)
          have f193 : 0 ≤ H142.2.2.1 84 0 (n) ∧ H142.2.2.1 84 0 (n) ≤ 11 := hT143.1 84 (n)
          refine J.run 11 rfl ⟨(show 0 ≤ n ∧ n < 16 from ⟨by omega, by omega⟩), (show 0 ≤ n ∧ n < 16 from ⟨by omega, by omega⟩)⟩ ?_
          try dsimp only
          exact J.reti rfl rfl rfl ⟨_, rfl, rfl, hT143, hE144, k145, k146, k147, k148, k149, k150, k151, k152, k153, _, rfl, (show -2147483648 ≤ (((12 : Int) * (H142.2.2.1 83 0 (n))) + (H142.2.2.1 84 0 (n))) ∧ (((12 : Int) * (H142.2.2.1 83 0 (n))) + (H142.2.2.1 84 0 (n))) ≤ 2147483647 from ⟨by omega, by omega⟩)⟩
        · have c194 : ¬ (H142.2.2.1 80 0 (n) = (0 : Int)) := hc
          clear hc
          refine J.run0 2 rfl ?_
          try dsimp only
          refine J.icmp rfl rfl rfl ⟨(show -2147483648 ≤ what ∧ what ≤ 2147483647 from ⟨by omega, by omega⟩), (show -2147483648 ≤ (1 : Int) ∧ (1 : Int) ≤ 2147483647 from ⟨by omega, by omega⟩)⟩ (fun hc => ?_) (fun hc => ?_)
          · have c195 : what = (1 : Int) := hc
            clear hc
            refine J.run0 1 rfl ?_
            try dsimp only
            exact J.reti rfl rfl rfl ⟨_, rfl, rfl, hT143, hE144, k145, k146, k147, k148, k149, k150, k151, k152, k153, _, rfl, (show -2147483648 ≤ ((-1 : Int)) ∧ ((-1 : Int)) ≤ 2147483647 from ⟨by omega, by omega⟩)⟩
          · have c196 : ¬ (what = (1 : Int)) := hc
            clear hc
            refine J.run0 2 rfl ?_
            try dsimp only
            refine J.icmp rfl rfl rfl ⟨(show -2147483648 ≤ what ∧ what ≤ 2147483647 from ⟨by omega, by omega⟩), (show -2147483648 ≤ (2 : Int) ∧ (2 : Int) ≤ 2147483647 from ⟨by omega, by omega⟩)⟩ (fun hc => ?_) (fun hc => ?_)
            · have c197 : what = (2 : Int) := hc
              clear hc
              refine J.run0 1 rfl ?_
              try dsimp only
              exact J.reti rfl rfl rfl ⟨_, rfl, rfl, hT143, hE144, k145, k146, k147, k148, k149, k150, k151, k152, k153, _, rfl, (show -2147483648 ≤ ((-1 : Int)) ∧ ((-1 : Int)) ≤ 2147483647 from ⟨by omega, by omega⟩)⟩
            · have c198 : ¬ (what = (2 : Int)) := hc
              clear hc
              refine J.run0 2 rfl ?_
              try dsimp only
              refine J.icmp rfl rfl rfl ⟨(show -2147483648 ≤ what ∧ what ≤ 2147483647 from ⟨by omega, by omega⟩), (show -2147483648 ≤ (3 : Int) ∧ (3 : Int) ≤ 2147483647 from ⟨by omega, by omega⟩)⟩ (fun hc => ?_) (fun hc => ?_)
              · have c199 : what ≤ (3 : Int) := hc
                clear hc
                refine J.run0 2 rfl ?_
                try dsimp only
                refine J.icmp rfl rfl rfl ⟨(show -2147483648 ≤ what ∧ what ≤ 2147483647 from ⟨by omega, by omega⟩), (show -2147483648 ≤ (10 : Int) ∧ (10 : Int) ≤ 2147483647 from ⟨by omega, by omega⟩)⟩ (fun hc => ?_) (fun hc => ?_)
                · have c200 : ¬ (what = (10 : Int)) := hc
                  clear hc
                  refine J.run0 1 rfl ?_
                  try dsimp only
                  by_cases c201 : what = 0
                  · refine J.tsw rfl rfl rfl ⟨by omega, by omega⟩ (t := 140) (by rw [c201]; rfl) ?_
                    refine J.run0 2 rfl ?_
                    try dsimp only
                    refine J.inv rfl rfl rfl rfl rfl rfl jDr rfl rfl rfl rfl rfl (g_heightE (n := n) hT143  (show 0 ≤ (n) ∧ (n) < 16 from ⟨by omega, by omega⟩)) ?_
                    rintro v w H142 ⟨rfl, rfl, x202, rfl, r203⟩
                    have r203' : x202 = H142.2.2.1 56 0 (H142.2.2.1 72 0 ((n))) + 1 ∧ 1 ≤ x202 ∧ x202 ≤ 301 := r203
                    try dsimp only [Option.toList, List.append, List.cons_append, List.nil_append]
                    exact J.reti rfl rfl rfl ⟨_, rfl, rfl, hT143, hE144, k145, k146, k147, k148, k149, k150, k151, k152, k153, _, rfl, (show -2147483648 ≤ (x202) ∧ (x202) ≤ 2147483647 from ⟨by omega, by omega⟩)⟩
                  by_cases c204 : what = 1
                  · refine J.tsw rfl rfl rfl ⟨by omega, by omega⟩ (t := 146) (by rw [c204]; rfl) ?_
                    have f205 : 0 ≤ H142.2.2.1 73 0 (n) ∧ H142.2.2.1 73 0 (n) ≤ 31 := hT143.1 73 (n)
                    refine J.run 4 rfl (show 0 ≤ n ∧ n < 16 from ⟨by omega, by omega⟩) ?_
                    try dsimp only
                    exact J.reti rfl rfl rfl ⟨_, rfl, rfl, hT143, hE144, k145, k146, k147, k148, k149, k150, k151, k152, k153, _, rfl, (show -2147483648 ≤ (H142.2.2.1 73 0 (n)) ∧ (H142.2.2.1 73 0 (n)) ≤ 2147483647 from ⟨by omega, by omega⟩)⟩
                  by_cases c206 : what = 2
                  · refine J.tsw rfl rfl rfl ⟨by omega, by omega⟩ (t := 153) (by rw [c206]; rfl) ?_
                    have f207 : 0 ≤ H142.2.2.1 74 0 (n) ∧ H142.2.2.1 74 0 (n) ≤ 2 := hT143.1 74 (n)
                    refine J.run 4 rfl (show 0 ≤ n ∧ n < 16 from ⟨by omega, by omega⟩) ?_
                    try dsimp only
                    exact J.reti rfl rfl rfl ⟨_, rfl, rfl, hT143, hE144, k145, k146, k147, k148, k149, k150, k151, k152, k153, _, rfl, (show -2147483648 ≤ (H142.2.2.1 74 0 (n)) ∧ (H142.2.2.1 74 0 (n)) ≤ 2147483647 from ⟨by omega, by omega⟩)⟩
                  by_cases c208 : what = 3
                  · refine J.tsw rfl rfl rfl ⟨by omega, by omega⟩ (t := 160) (by rw [c208]; rfl) ?_
                    have f209 : 0 ≤ H142.2.2.1 72 0 (n) ∧ H142.2.2.1 72 0 (n) ≤ 299 := hT143.1 72 (n)
                    have f210 : 1 ≤ H142.1 11 12 0 ∧ H142.1 11 12 0 ≤ 300 := hT143.2.1 12
                    have f209b : H142.2.2.1 72 0 (n) < H142.1 11 12 0 := hT143.2.2.1 72 (n) rfl
                    refine J.run 4 rfl (show 0 ≤ n ∧ n < 16 from ⟨by omega, by omega⟩) ?_
                    try dsimp only
                    exact J.reti rfl rfl rfl ⟨_, rfl, rfl, hT143, hE144, k145, k146, k147, k148, k149, k150, k151, k152, k153, _, rfl, (show -2147483648 ≤ (H142.2.2.1 72 0 (n)) ∧ (H142.2.2.1 72 0 (n)) ≤ 2147483647 from ⟨by omega, by omega⟩)⟩
                  by_cases c211 : what = 4
                  · refine J.tsw rfl rfl rfl ⟨by omega, by omega⟩ (t := 167) (by rw [c211]; rfl) ?_
                    have f212 : -1 ≤ H142.2.2.1 75 0 (n) ∧ H142.2.2.1 75 0 (n) ≤ 299 := hT143.1 75 (n)
                    refine J.run 4 rfl (show 0 ≤ n ∧ n < 16 from ⟨by omega, by omega⟩) ?_
                    try dsimp only
                    exact J.reti rfl rfl rfl ⟨_, rfl, rfl, hT143, hE144, k145, k146, k147, k148, k149, k150, k151, k152, k153, _, rfl, (show -2147483648 ≤ (H142.2.2.1 75 0 (n)) ∧ (H142.2.2.1 75 0 (n)) ≤ 2147483647 from ⟨by omega, by omega⟩)⟩
                  by_cases c213 : what = 5
                  · refine J.tsw rfl rfl rfl ⟨by omega, by omega⟩ (t := 174) (by rw [c213]; rfl) ?_
                    have f214 : -1 ≤ H142.2.2.1 76 0 (n) ∧ H142.2.2.1 76 0 (n) ≤ 31 := hT143.1 76 (n)
                    refine J.run 4 rfl (show 0 ≤ n ∧ n < 16 from ⟨by omega, by omega⟩) ?_
                    try dsimp only
                    exact J.reti rfl rfl rfl ⟨_, rfl, rfl, hT143, hE144, k145, k146, k147, k148, k149, k150, k151, k152, k153, _, rfl, (show -2147483648 ≤ (H142.2.2.1 76 0 (n)) ∧ (H142.2.2.1 76 0 (n)) ≤ 2147483647 from ⟨by omega, by omega⟩)⟩
                  by_cases c215 : what = 6
                  · refine J.tsw rfl rfl rfl ⟨by omega, by omega⟩ (t := 181) (by rw [c215]; rfl) ?_
                    have f216 : -1 ≤ H142.2.2.1 77 0 (n) ∧ H142.2.2.1 77 0 (n) ≤ 299 := hT143.1 77 (n)
                    have f217 : 1 ≤ H142.1 11 12 0 ∧ H142.1 11 12 0 ≤ 300 := hT143.2.1 12
                    have f216b : H142.2.2.1 77 0 (n) < H142.1 11 12 0 := hT143.2.2.1 77 (n) rfl
                    refine J.run 4 rfl (show 0 ≤ n ∧ n < 16 from ⟨by omega, by omega⟩) ?_
                    try dsimp only
                    exact J.reti rfl rfl rfl ⟨_, rfl, rfl, hT143, hE144, k145, k146, k147, k148, k149, k150, k151, k152, k153, _, rfl, (show -2147483648 ≤ (H142.2.2.1 77 0 (n)) ∧ (H142.2.2.1 77 0 (n)) ≤ 2147483647 from ⟨by omega, by omega⟩)⟩
                  by_cases c218 : what = 7
                  · refine J.tsw rfl rfl rfl ⟨by omega, by omega⟩ (t := 188) (by rw [c218]; rfl) ?_
                    have f219 : -1 ≤ H142.2.2.1 78 0 (n) ∧ H142.2.2.1 78 0 (n) ≤ 31 := hT143.1 78 (n)
                    refine J.run 4 rfl (show 0 ≤ n ∧ n < 16 from ⟨by omega, by omega⟩) ?_
                    try dsimp only
                    exact J.reti rfl rfl rfl ⟨_, rfl, rfl, hT143, hE144, k145, k146, k147, k148, k149, k150, k151, k152, k153, _, rfl, (show -2147483648 ≤ (H142.2.2.1 78 0 (n)) ∧ (H142.2.2.1 78 0 (n)) ≤ 2147483647 from ⟨by omega, by omega⟩)⟩
                  by_cases c220 : what = 8
                  · refine J.tsw rfl rfl rfl ⟨by omega, by omega⟩ (t := 195) (by rw [c220]; rfl) ?_
                    have f221 : 0 ≤ H142.2.2.1 71 0 (n) ∧ H142.2.2.1 71 0 (n) ≤ 6000 := hT143.1 71 (n)
                    refine J.run 4 rfl (show 0 ≤ n ∧ n < 16 from ⟨by omega, by omega⟩) ?_
                    try dsimp only
                    exact J.reti rfl rfl rfl ⟨_, rfl, rfl, hT143, hE144, k145, k146, k147, k148, k149, k150, k151, k152, k153, _, rfl, (show -2147483648 ≤ (H142.2.2.1 71 0 (n)) ∧ (H142.2.2.1 71 0 (n)) ≤ 2147483647 from ⟨by omega, by omega⟩)⟩
                  by_cases c222 : what = 9
                  · refine J.tsw rfl rfl rfl ⟨by omega, by omega⟩ (t := 202) (by rw [c222]; rfl) ?_
                    have f223 : 0 ≤ H142.2.2.1 79 0 (n) ∧ H142.2.2.1 79 0 (n) ≤ 1 := hT143.1 79 (n)
                    refine J.run 4 rfl (show 0 ≤ n ∧ n < 16 from ⟨by omega, by omega⟩) ?_
                    try dsimp only
                    refine J.ifc rfl rfl rfl (show -2147483648 ≤ H142.2.2.1 79 0 (n) ∧ H142.2.2.1 79 0 (n) ≤ 2147483647 from ⟨by omega, by omega⟩) (fun hc => ?_) (fun hc => ?_)
                    · have c224 : H142.2.2.1 79 0 (n) = (0 : Int) := hc
                      clear hc
                      refine J.run 4 rfl (show 0 ≤ n ∧ n < 16 from ⟨by omega, by omega⟩) ?_
                      try dsimp only
                      refine J.ifc rfl rfl rfl (show -2147483648 ≤ H142.2.2.1 80 0 (n) ∧ H142.2.2.1 80 0 (n) ≤ 2147483647 from ⟨by omega, by omega⟩) (fun hc => ?_) (fun hc => ?_)
                      · have c225 : H142.2.2.1 80 0 (n) = (0 : Int) := hc
                        clear hc
                        refine J.run0 1 rfl ?_
                        try dsimp only
                        exact J.reti rfl rfl rfl ⟨_, rfl, rfl, hT143, hE144, k145, k146, k147, k148, k149, k150, k151, k152, k153, _, rfl, (show -2147483648 ≤ ((0 : Int)) ∧ ((0 : Int)) ≤ 2147483647 from ⟨by omega, by omega⟩)⟩
                      · have c226 : ¬ (H142.2.2.1 80 0 (n) = (0 : Int)) := hc
                        clear hc
                        refine J.run0 2 rfl ?_
                        try dsimp only
                        exact J.reti rfl rfl rfl ⟨_, rfl, rfl, hT143, hE144, k145, k146, k147, k148, k149, k150, k151, k152, k153, _, rfl, (show -2147483648 ≤ ((2 : Int)) ∧ ((2 : Int)) ≤ 2147483647 from ⟨by omega, by omega⟩)⟩
                    · have c227 : ¬ (H142.2.2.1 79 0 (n) = (0 : Int)) := hc
                      clear hc
                      refine J.run0 2 rfl ?_
                      try dsimp only
                      exact J.reti rfl rfl rfl ⟨_, rfl, rfl, hT143, hE144, k145, k146, k147, k148, k149, k150, k151, k152, k153, _, rfl, (show -2147483648 ≤ ((1 : Int)) ∧ ((1 : Int)) ≤ 2147483647 from ⟨by omega, by omega⟩)⟩
                  by_cases c228 : what = 10
                  · refine J.tsw rfl rfl rfl ⟨by omega, by omega⟩ (t := 230) (by rw [c228]; rfl) ?_
                    have f229 : 0 ≤ H142.2.2.1 73 0 (n) ∧ H142.2.2.1 73 0 (n) ≤ 31 := hT143.1 73 (n)
                    refine J.run 6 rfl (show 0 ≤ n ∧ n < 16 from ⟨by omega, by omega⟩) ?_
                    try dsimp only
                    refine J.inv rfl rfl rfl rfl rfl rfl jDr rfl rfl rfl rfl rfl (g_proposer (n := n) (r := H142.2.2.1 73 0 (n)) hT143 k149 (show 0 ≤ (n) ∧ (n) < 16 from ⟨by omega, by omega⟩) (show 0 ≤ (H142.2.2.1 73 0 (n)) ∧ (H142.2.2.1 73 0 (n)) < 32 from ⟨by omega, by omega⟩)) ?_
                    rintro v w H142 ⟨rfl, rfl, x230, rfl, r231⟩
                    have r231' : (-1) ≤ x230 ∧ x230 ≤ 15 := r231
                    try dsimp only [Option.toList, List.append, List.cons_append, List.nil_append]
                    exact J.reti rfl rfl rfl ⟨_, rfl, rfl, hT143, hE144, k145, k146, k147, k148, k149, k150, k151, k152, k153, _, rfl, (show -2147483648 ≤ (x230) ∧ (x230) ≤ 2147483647 from ⟨by omega, by omega⟩)⟩
                  have c232 : what < 0 ∨ 10 < what := by omega
                  refine J.tsw rfl rfl rfl ⟨by omega, by omega⟩ (t := 242) (by rw [if_pos c232]; rfl) ?_
                  have f233 : 0 ≤ H142.2.2.1 83 0 (n) ∧ H142.2.2.1 83 0 (n) ≤ 96 := hT143.1 83 (n)
                  have f234 : 0 ≤ H142.2.2.1 84 0 (n) ∧ H142.2.2.1 84 0 (n) ≤ 11 := hT143.1 84 (n)
                  refine J.run 11 rfl ⟨(show 0 ≤ n ∧ n < 16 from ⟨by omega, by omega⟩), (show 0 ≤ n ∧ n < 16 from ⟨by omega, by omega⟩)⟩ ?_
                  try dsimp only
                  exact J.reti rfl rfl rfl ⟨_, rfl, rfl, hT143, hE144, k145, k146, k147, k148, k149, k150, k151, k152, k153, _, rfl, (show -2147483648 ≤ (((12 : Int) * (H142.2.2.1 83 0 (n))) + (H142.2.2.1 84 0 (n))) ∧ (((12 : Int) * (H142.2.2.1 83 0 (n))) + (H142.2.2.1 84 0 (n))) ≤ 2147483647 from ⟨by omega, by omega⟩)⟩
                · have c235 : ¬ (¬ (what = (10 : Int))) := hc
                  clear hc
                  refine J.run0 1 rfl ?_
                  try dsimp only
                  exact J.reti rfl rfl rfl ⟨_, rfl, rfl, hT143, hE144, k145, k146, k147, k148, k149, k150, k151, k152, k153, _, rfl, (show -2147483648 ≤ ((-1 : Int)) ∧ ((-1 : Int)) ≤ 2147483647 from ⟨by omega, by omega⟩)⟩
              · have c236 : ¬ (what ≤ (3 : Int)) := hc
                clear hc
                refine J.run0 2 rfl ?_
                try dsimp only
                refine J.icmp rfl rfl rfl ⟨(show -2147483648 ≤ what ∧ what ≤ 2147483647 from ⟨by omega, by omega⟩), (show -2147483648 ≤ (8 : Int) ∧ (8 : Int) ≤ 2147483647 from ⟨by omega, by omega⟩)⟩ (fun hc => ?_) (fun hc => ?_)
                · have c237 : what < (8 : Int) := hc
                  clear hc
                  refine J.run0 1 rfl ?_
                  try dsimp only
                  exact J.reti rfl rfl rfl ⟨_, rfl, rfl, hT143, hE144, k145, k146, k147, k148, k149, k150, k151, k152, k153, _, rfl, (show -2147483648 ≤ ((-1 : Int)) ∧ ((-1 : Int)) ≤ 2147483647 from ⟨by omega, by omega⟩)⟩
                · have c238 : ¬ (what < (8 : Int)) := hc
                  clear hc
                  refine J.run0 2 rfl ?_
                  try dsimp only
                  refine J.icmp rfl rfl rfl ⟨(show -2147483648 ≤ what ∧ what ≤ 2147483647 from ⟨by omega, by omega⟩), (show -2147483648 ≤ (10 : Int) ∧ (10 : Int) ≤ 2147483647 from ⟨by omega, by omega⟩)⟩ (fun hc => ?_) (fun hc => ?_)
                  · have c239 : ¬ (what = (10 : Int)) := hc
                    clear hc
                    refine J.run0 1 rfl ?_
                    try dsimp only
                    by_cases c240 : what = 0
                    · refine J.tsw rfl rfl rfl ⟨by omega, by omega⟩ (t := 140) (by rw [c240]; rfl) ?_
                      refine J.run0 2 rfl ?_
                      try dsimp only
                      refine J.inv rfl rfl rfl rfl rfl rfl jDr rfl rfl rfl rfl rfl (g_heightE (n := n) hT143  (show 0 ≤ (n) ∧ (n) < 16 from ⟨by omega, by omega⟩)) ?_
                      rintro v w H142 ⟨rfl, rfl, x241, rfl, r242⟩
                      have r242' : x241 = H142.2.2.1 56 0 (H142.2.2.1 72 0 ((n))) + 1 ∧ 1 ≤ x241 ∧ x241 ≤ 301 := r242
                      try dsimp only [Option.toList, List.append, List.cons_append, List.nil_append]
                      exact J.reti rfl rfl rfl ⟨_, rfl, rfl, hT143, hE144, k145, k146, k147, k148, k149, k150, k151, k152, k153, _, rfl, (show -2147483648 ≤ (x241) ∧ (x241) ≤ 2147483647 from ⟨by omega, by omega⟩)⟩
                    by_cases c243 : what = 1
                    · refine J.tsw rfl rfl rfl ⟨by omega, by omega⟩ (t := 146) (by rw [c243]; rfl) ?_
                      have f244 : 0 ≤ H142.2.2.1 73 0 (n) ∧ H142.2.2.1 73 0 (n) ≤ 31 := hT143.1 73 (n)
                      refine J.run 4 rfl (show 0 ≤ n ∧ n < 16 from ⟨by omega, by omega⟩) ?_
                      try dsimp only
                      exact J.reti rfl rfl rfl ⟨_, rfl, rfl, hT143, hE144, k145, k146, k147, k148, k149, k150, k151, k152, k153, _, rfl, (show -2147483648 ≤ (H142.2.2.1 73 0 (n)) ∧ (H142.2.2.1 73 0 (n)) ≤ 2147483647 from ⟨by omega, by omega⟩)⟩
                    by_cases c245 : what = 2
                    · refine J.tsw rfl rfl rfl ⟨by omega, by omega⟩ (t := 153) (by rw [c245]; rfl) ?_
                      have f246 : 0 ≤ H142.2.2.1 74 0 (n) ∧ H142.2.2.1 74 0 (n) ≤ 2 := hT143.1 74 (n)
                      refine J.run 4 rfl (show 0 ≤ n ∧ n < 16 from ⟨by omega, by omega⟩) ?_
                      try dsimp only
                      exact J.reti rfl rfl rfl ⟨_, rfl, rfl, hT143, hE144, k145, k146, k147, k148, k149, k150, k151, k152, k153, _, rfl, (show -2147483648 ≤ (H142.2.2.1 74 0 (n)) ∧ (H142.2.2.1 74 0 (n)) ≤ 2147483647 from ⟨by omega, by omega⟩)⟩
                    by_cases c247 : what = 3
                    · refine J.tsw rfl rfl rfl ⟨by omega, by omega⟩ (t := 160) (by rw [c247]; rfl) ?_
                      have f248 : 0 ≤ H142.2.2.1 72 0 (n) ∧ H142.2.2.1 72 0 (n) ≤ 299 := hT143.1 72 (n)
                      have f249 : 1 ≤ H142.1 11 12 0 ∧ H142.1 11 12 0 ≤ 300 := hT143.2.1 12
                      have f248b : H142.2.2.1 72 0 (n) < H142.1 11 12 0 := hT143.2.2.1 72 (n) rfl
                      refine J.run 4 rfl (show 0 ≤ n ∧ n < 16 from ⟨by omega, by omega⟩) ?_
                      try dsimp only
                      exact J.reti rfl rfl rfl ⟨_, rfl, rfl, hT143, hE144, k145, k146, k147, k148, k149, k150, k151, k152, k153, _, rfl, (show -2147483648 ≤ (H142.2.2.1 72 0 (n)) ∧ (H142.2.2.1 72 0 (n)) ≤ 2147483647 from ⟨by omega, by omega⟩)⟩
                    by_cases c250 : what = 4
                    · refine J.tsw rfl rfl rfl ⟨by omega, by omega⟩ (t := 167) (by rw [c250]; rfl) ?_
                      have f251 : -1 ≤ H142.2.2.1 75 0 (n) ∧ H142.2.2.1 75 0 (n) ≤ 299 := hT143.1 75 (n)
                      refine J.run 4 rfl (show 0 ≤ n ∧ n < 16 from ⟨by omega, by omega⟩) ?_
                      try dsimp only
                      exact J.reti rfl rfl rfl ⟨_, rfl, rfl, hT143, hE144, k145, k146, k147, k148, k149, k150, k151, k152, k153, _, rfl, (show -2147483648 ≤ (H142.2.2.1 75 0 (n)) ∧ (H142.2.2.1 75 0 (n)) ≤ 2147483647 from ⟨by omega, by omega⟩)⟩
                    by_cases c252 : what = 5
                    · refine J.tsw rfl rfl rfl ⟨by omega, by omega⟩ (t := 174) (by rw [c252]; rfl) ?_
                      have f253 : -1 ≤ H142.2.2.1 76 0 (n) ∧ H142.2.2.1 76 0 (n) ≤ 31 := hT143.1 76 (n)
                      refine J.run 4 rfl (show 0 ≤ n ∧ n < 16 from ⟨by omega, by omega⟩) ?_
                      try dsimp only
                      exact J.reti rfl rfl rfl ⟨_, rfl, rfl, hT143, hE144, k145, k146, k147, k148, k149, k150, k151, k152, k153, _, rfl, (show -2147483648 ≤ (H142.2.2.1 76 0 (n)) ∧ (H142.2.2.1 76 0 (n)) ≤ 2147483647 from ⟨by omega, by omega⟩)⟩
                    by_cases c254 : what = 6
                    · refine J.tsw rfl rfl rfl ⟨by omega, by omega⟩ (t := 181) (by rw [c254]; rfl) ?_
                      have f255 : -1 ≤ H142.2.2.1 77 0 (n) ∧ H142.2.2.1 77 0 (n) ≤ 299 := hT143.1 77 (n)
                      have f256 : 1 ≤ H142.1 11 12 0 ∧ H142.1 11 12 0 ≤ 300 := hT143.2.1 12
                      have f255b : H142.2.2.1 77 0 (n) < H142.1 11 12 0 := hT143.2.2.1 77 (n) rfl
                      refine J.run 4 rfl (show 0 ≤ n ∧ n < 16 from ⟨by omega, by omega⟩) ?_
                      try dsimp only
                      exact J.reti rfl rfl rfl ⟨_, rfl, rfl, hT143, hE144, k145, k146, k147, k148, k149, k150, k151, k152, k153, _, rfl, (show -2147483648 ≤ (H142.2.2.1 77 0 (n)) ∧ (H142.2.2.1 77 0 (n)) ≤ 2147483647 from ⟨by omega, by omega⟩)⟩
                    by_cases c257 : what = 7
                    · refine J.tsw rfl rfl rfl ⟨by omega, by omega⟩ (t := 188) (by rw [c257]; rfl) ?_
                      have f258 : -1 ≤ H142.2.2.1 78 0 (n) ∧ H142.2.2.1 78 0 (n) ≤ 31 := hT143.1 78 (n)
                      refine J.run 4 rfl (show 0 ≤ n ∧ n < 16 from ⟨by omega, by omega⟩) ?_
                      try dsimp only
                      exact J.reti rfl rfl rfl ⟨_, rfl, rfl, hT143, hE144, k145, k146, k147, k148, k149, k150, k151, k152, k153, _, rfl, (show -2147483648 ≤ (H142.2.2.1 78 0 (n)) ∧ (H142.2.2.1 78 0 (n)) ≤ 2147483647 from ⟨by omega, by omega⟩)⟩
                    by_cases c259 : what = 8
                    · refine J.tsw rfl rfl rfl ⟨by omega, by omega⟩ (t := 195) (by rw [c259]; rfl) ?_
                      have f260 : 0 ≤ H142.2.2.1 71 0 (n) ∧ H142.2.2.1 71 0 (n) ≤ 6000 := hT143.1 71 (n)
                      refine J.run 4 rfl (show 0 ≤ n ∧ n < 16 from ⟨by omega, by omega⟩) ?_
                      try dsimp only
                      exact J.reti rfl rfl rfl ⟨_, rfl, rfl, hT143, hE144, k145, k146, k147, k148, k149, k150, k151, k152, k153, _, rfl, (show -2147483648 ≤ (H142.2.2.1 71 0 (n)) ∧ (H142.2.2.1 71 0 (n)) ≤ 2147483647 from ⟨by omega, by omega⟩)⟩
                    by_cases c261 : what = 9
                    · refine J.tsw rfl rfl rfl ⟨by omega, by omega⟩ (t := 202) (by rw [c261]; rfl) ?_
                      have f262 : 0 ≤ H142.2.2.1 79 0 (n) ∧ H142.2.2.1 79 0 (n) ≤ 1 := hT143.1 79 (n)
                      refine J.run 4 rfl (show 0 ≤ n ∧ n < 16 from ⟨by omega, by omega⟩) ?_
                      try dsimp only
                      refine J.ifc rfl rfl rfl (show -2147483648 ≤ H142.2.2.1 79 0 (n) ∧ H142.2.2.1 79 0 (n) ≤ 2147483647 from ⟨by omega, by omega⟩) (fun hc => ?_) (fun hc => ?_)
                      · have c263 : H142.2.2.1 79 0 (n) = (0 : Int) := hc
                        clear hc
                        refine J.run 4 rfl (show 0 ≤ n ∧ n < 16 from ⟨by omega, by omega⟩) ?_
                        try dsimp only
                        refine J.ifc rfl rfl rfl (show -2147483648 ≤ H142.2.2.1 80 0 (n) ∧ H142.2.2.1 80 0 (n) ≤ 2147483647 from ⟨by omega, by omega⟩) (fun hc => ?_) (fun hc => ?_)
                        · have c264 : H142.2.2.1 80 0 (n) = (0 : Int) := hc
                          clear hc
                          refine J.run0 1 rfl ?_
                          try dsimp only
                          exact J.reti rfl rfl rfl ⟨_, rfl, rfl, hT143, hE144, k145, k146, k147, k148, k149, k150, k151, k152, k153, _, rfl, (show -2147483648 ≤ ((0 : Int)) ∧ ((0 : Int)) ≤ 2147483647 from ⟨by omega, by omega⟩)⟩
                        · have c265 : ¬ (H142.2.2.1 80 0 (n) = (0 : Int)) := hc
                          clear hc
                          refine J.run0 2 rfl ?_
                          try dsimp only
                          exact J.reti rfl rfl rfl ⟨_, rfl, rfl, hT143, hE144, k145, k146, k147, k148, k149, k150, k151, k152, k153, _, rfl, (show -2147483648 ≤ ((2 : Int)) ∧ ((2 : Int)) ≤ 2147483647 from ⟨by omega, by omega⟩)⟩
                      · have c266 : ¬ (H142.2.2.1 79 0 (n) = (0 : Int)) := hc
                        clear hc
                        refine J.run0 2 rfl ?_
                        try dsimp only
                        exact J.reti rfl rfl rfl ⟨_, rfl, rfl, hT143, hE144, k145, k146, k147, k148, k149, k150, k151, k152, k153, _, rfl, (show -2147483648 ≤ ((1 : Int)) ∧ ((1 : Int)) ≤ 2147483647 from ⟨by omega, by omega⟩)⟩
                    by_cases c267 : what = 10
                    · refine J.tsw rfl rfl rfl ⟨by omega, by omega⟩ (t := 230) (by rw [c267]; rfl) ?_
                      have f268 : 0 ≤ H142.2.2.1 73 0 (n) ∧ H142.2.2.1 73 0 (n) ≤ 31 := hT143.1 73 (n)
                      refine J.run 6 rfl (show 0 ≤ n ∧ n < 16 from ⟨by omega, by omega⟩) ?_
                      try dsimp only
                      refine J.inv rfl rfl rfl rfl rfl rfl jDr rfl rfl rfl rfl rfl (g_proposer (n := n) (r := H142.2.2.1 73 0 (n)) hT143 k149 (show 0 ≤ (n) ∧ (n) < 16 from ⟨by omega, by omega⟩) (show 0 ≤ (H142.2.2.1 73 0 (n)) ∧ (H142.2.2.1 73 0 (n)) < 32 from ⟨by omega, by omega⟩)) ?_
                      rintro v w H142 ⟨rfl, rfl, x269, rfl, r270⟩
                      have r270' : (-1) ≤ x269 ∧ x269 ≤ 15 := r270
                      try dsimp only [Option.toList, List.append, List.cons_append, List.nil_append]
                      exact J.reti rfl rfl rfl ⟨_, rfl, rfl, hT143, hE144, k145, k146, k147, k148, k149, k150, k151, k152, k153, _, rfl, (show -2147483648 ≤ (x269) ∧ (x269) ≤ 2147483647 from ⟨by omega, by omega⟩)⟩
                    have c271 : what < 0 ∨ 10 < what := by omega
                    refine J.tsw rfl rfl rfl ⟨by omega, by omega⟩ (t := 242) (by rw [if_pos c271]; rfl) ?_
                    have f272 : 0 ≤ H142.2.2.1 83 0 (n) ∧ H142.2.2.1 83 0 (n) ≤ 96 := hT143.1 83 (n)
                    have f273 : 0 ≤ H142.2.2.1 84 0 (n) ∧ H142.2.2.1 84 0 (n) ≤ 11 := hT143.1 84 (n)
                    refine J.run 11 rfl ⟨(show 0 ≤ n ∧ n < 16 from ⟨by omega, by omega⟩), (show 0 ≤ n ∧ n < 16 from ⟨by omega, by omega⟩)⟩ ?_
                    try dsimp only
                    exact J.reti rfl rfl rfl ⟨_, rfl, rfl, hT143, hE144, k145, k146, k147, k148, k149, k150, k151, k152, k153, _, rfl, (show -2147483648 ≤ (((12 : Int) * (H142.2.2.1 83 0 (n))) + (H142.2.2.1 84 0 (n))) ∧ (((12 : Int) * (H142.2.2.1 83 0 (n))) + (H142.2.2.1 84 0 (n))) ≤ 2147483647 from ⟨by omega, by omega⟩)⟩
                  · have c274 : ¬ (¬ (what = (10 : Int))) := hc
                    clear hc
                    refine J.run0 1 rfl ?_
                    try dsimp only
                    exact J.reti rfl rfl rfl ⟨_, rfl, rfl, hT143, hE144, k145, k146, k147, k148, k149, k150, k151, k152, k153, _, rfl, (show -2147483648 ≤ ((-1 : Int)) ∧ ((-1 : Int)) ≤ 2147483647 from ⟨by omega, by omega⟩)⟩
      · have c275 : ¬ (H142.1 11 47 0 ≤ (0 : Int)) := hc
        clear hc
        refine J.run0 1 rfl ?_
        try dsimp only
        exact J.reti rfl rfl rfl ⟨_, rfl, rfl, hT143, hE144, k145, k146, k147, k148, k149, k150, k151, k152, k153, _, rfl, (show -2147483648 ≤ ((0 : Int)) ∧ ((0 : Int)) ≤ 2147483647 from ⟨by omega, by omega⟩)⟩
  · have c276 : ¬ (¬ (x1 = (0 : Int))) := hc
    clear hc
    refine J.run0 3 rfl ?_
    try dsimp only
    refine J.gn fun H277 hH277 => ?_
    have hT278 : gT H277 := by rw [hH277]; exact gT.num (f := 47) hT (show 0 ≤ (1 : Int) ∧ (1 : Int) ≤ 3 from ⟨by omega, by omega⟩) (by decide) (fun z => absurd z (by decide))
    have hE279 : jEx [47] [] H277 H := by rw [hH277]; exact jEx.num hE (by decide)
    have k280 : gP H277 := by rw [hH277]; exact k0gP
    have k281 : gX H277 := by rw [hH277]; exact k0gX
    have k282 : gL H277 := by rw [hH277]; exact k0gL
    have k283 : gZ H277 := by rw [hH277]; exact k0gZ
    have k284 : gQ H277 := by rw [hH277]; exact k0gQ
    have k285 : gB H277 := by rw [hH277]; exact k0gB
    have k286 : gK H277 := by rw [hH277]; exact k0gK
    have k287 : gN H277 := by rw [hH277]; exact k0gN
    have k288 : gW H277 (H277.1 11 19 0) := by rw [hH277]; exact k0gW
    have g289 : H277.1 11 47 0 = (1 : Int) := by subst hH277; rfl
    have g290 : H277.1 11 12 0 = H.1 11 12 0 := by subst hH277; rfl
    clear hH277
    have f291 : 0 ≤ H277.1 11 47 0 ∧ H277.1 11 47 0 ≤ 3 := hT278.2.1 47
    refine J.run0 2 rfl ?_
    try dsimp only
    refine J.ifc rfl rfl rfl (show -2147483648 ≤ H277.1 11 47 0 ∧ H277.1 11 47 0 ≤ 2147483647 from ⟨by omega, by omega⟩) (fun hc => ?_) (fun hc => ?_)
    · have c292 : H277.1 11 47 0 ≤ (0 : Int) := hc
      clear hc
      have f293 : 0 ≤ H277.2.2.1 80 0 (n) ∧ H277.2.2.1 80 0 (n) ≤ 1 := hT278.1 80 (n)
      refine J.run 4 rfl (show 0 ≤ n ∧ n < 16 from ⟨by omega, by omega⟩) ?_
      try dsimp only
      refine J.ifc rfl rfl rfl (show -2147483648 ≤ H277.2.2.1 80 0 (n) ∧ H277.2.2.1 80 0 (n) ≤ 2147483647 from ⟨by omega, by omega⟩) (fun hc => ?_) (fun hc => ?_)
      · have c294 : H277.2.2.1 80 0 (n) = (0 : Int) := hc
        clear hc
        refine J.run0 1 rfl ?_
        try dsimp only
        by_cases c295 : what = 0
        · refine J.tsw rfl rfl rfl ⟨by omega, by omega⟩ (t := 140) (by rw [c295]; rfl) ?_
          refine J.run0 2 rfl ?_
          try dsimp only
          refine J.inv rfl rfl rfl rfl rfl rfl jDr rfl rfl rfl rfl rfl (g_heightE (n := n) hT278  (show 0 ≤ (n) ∧ (n) < 16 from ⟨by omega, by omega⟩)) ?_
          rintro v w H277 ⟨rfl, rfl, x296, rfl, r297⟩
          have r297' : x296 = H277.2.2.1 56 0 (H277.2.2.1 72 0 ((n))) + 1 ∧ 1 ≤ x296 ∧ x296 ≤ 301 := r297
          try dsimp only [Option.toList, List.append, List.cons_append, List.nil_append]
          exact J.reti rfl rfl rfl ⟨_, rfl, rfl, hT278, hE279, k280, k281, k282, k283, k284, k285, k286, k287, k288, _, rfl, (show -2147483648 ≤ (x296) ∧ (x296) ≤ 2147483647 from ⟨by omega, by omega⟩)⟩
        by_cases c298 : what = 1
        · refine J.tsw rfl rfl rfl ⟨by omega, by omega⟩ (t := 146) (by rw [c298]; rfl) ?_
          have f299 : 0 ≤ H277.2.2.1 73 0 (n) ∧ H277.2.2.1 73 0 (n) ≤ 31 := hT278.1 73 (n)
          refine J.run 4 rfl (show 0 ≤ n ∧ n < 16 from ⟨by omega, by omega⟩) ?_
          try dsimp only
          exact J.reti rfl rfl rfl ⟨_, rfl, rfl, hT278, hE279, k280, k281, k282, k283, k284, k285, k286, k287, k288, _, rfl, (show -2147483648 ≤ (H277.2.2.1 73 0 (n)) ∧ (H277.2.2.1 73 0 (n)) ≤ 2147483647 from ⟨by omega, by omega⟩)⟩
        by_cases c300 : what = 2
        · refine J.tsw rfl rfl rfl ⟨by omega, by omega⟩ (t := 153) (by rw [c300]; rfl) ?_
          have f301 : 0 ≤ H277.2.2.1 74 0 (n) ∧ H277.2.2.1 74 0 (n) ≤ 2 := hT278.1 74 (n)
          refine J.run 4 rfl (show 0 ≤ n ∧ n < 16 from ⟨by omega, by omega⟩) ?_
          try dsimp only
          exact J.reti rfl rfl rfl ⟨_, rfl, rfl, hT278, hE279, k280, k281, k282, k283, k284, k285, k286, k287, k288, _, rfl, (show -2147483648 ≤ (H277.2.2.1 74 0 (n)) ∧ (H277.2.2.1 74 0 (n)) ≤ 2147483647 from ⟨by omega, by omega⟩)⟩
        by_cases c302 : what = 3
        · refine J.tsw rfl rfl rfl ⟨by omega, by omega⟩ (t := 160) (by rw [c302]; rfl) ?_
          have f303 : 0 ≤ H277.2.2.1 72 0 (n) ∧ H277.2.2.1 72 0 (n) ≤ 299 := hT278.1 72 (n)
          have f304 : 1 ≤ H277.1 11 12 0 ∧ H277.1 11 12 0 ≤ 300 := hT278.2.1 12
          have f303b : H277.2.2.1 72 0 (n) < H277.1 11 12 0 := hT278.2.2.1 72 (n) rfl
          refine J.run 4 rfl (show 0 ≤ n ∧ n < 16 from ⟨by omega, by omega⟩) ?_
          try dsimp only
          exact J.reti rfl rfl rfl ⟨_, rfl, rfl, hT278, hE279, k280, k281, k282, k283, k284, k285, k286, k287, k288, _, rfl, (show -2147483648 ≤ (H277.2.2.1 72 0 (n)) ∧ (H277.2.2.1 72 0 (n)) ≤ 2147483647 from ⟨by omega, by omega⟩)⟩
        by_cases c305 : what = 4
        · refine J.tsw rfl rfl rfl ⟨by omega, by omega⟩ (t := 167) (by rw [c305]; rfl) ?_
          have f306 : -1 ≤ H277.2.2.1 75 0 (n) ∧ H277.2.2.1 75 0 (n) ≤ 299 := hT278.1 75 (n)
          refine J.run 4 rfl (show 0 ≤ n ∧ n < 16 from ⟨by omega, by omega⟩) ?_
          try dsimp only
          exact J.reti rfl rfl rfl ⟨_, rfl, rfl, hT278, hE279, k280, k281, k282, k283, k284, k285, k286, k287, k288, _, rfl, (show -2147483648 ≤ (H277.2.2.1 75 0 (n)) ∧ (H277.2.2.1 75 0 (n)) ≤ 2147483647 from ⟨by omega, by omega⟩)⟩
        by_cases c307 : what = 5
        · refine J.tsw rfl rfl rfl ⟨by omega, by omega⟩ (t := 174) (by rw [c307]; rfl) ?_
          have f308 : -1 ≤ H277.2.2.1 76 0 (n) ∧ H277.2.2.1 76 0 (n) ≤ 31 := hT278.1 76 (n)
          refine J.run 4 rfl (show 0 ≤ n ∧ n < 16 from ⟨by omega, by omega⟩) ?_
          try dsimp only
          exact J.reti rfl rfl rfl ⟨_, rfl, rfl, hT278, hE279, k280, k281, k282, k283, k284, k285, k286, k287, k288, _, rfl, (show -2147483648 ≤ (H277.2.2.1 76 0 (n)) ∧ (H277.2.2.1 76 0 (n)) ≤ 2147483647 from ⟨by omega, by omega⟩)⟩
        by_cases c309 : what = 6
        · refine J.tsw rfl rfl rfl ⟨by omega, by omega⟩ (t := 181) (by rw [c309]; rfl) ?_
          have f310 : -1 ≤ H277.2.2.1 77 0 (n) ∧ H277.2.2.1 77 0 (n) ≤ 299 := hT278.1 77 (n)
          have f311 : 1 ≤ H277.1 11 12 0 ∧ H277.1 11 12 0 ≤ 300 := hT278.2.1 12
          have f310b : H277.2.2.1 77 0 (n) < H277.1 11 12 0 := hT278.2.2.1 77 (n) rfl
          refine J.run 4 rfl (show 0 ≤ n ∧ n < 16 from ⟨by omega, by omega⟩) ?_
          try dsimp only
          exact J.reti rfl rfl rfl ⟨_, rfl, rfl, hT278, hE279, k280, k281, k282, k283, k284, k285, k286, k287, k288, _, rfl, (show -2147483648 ≤ (H277.2.2.1 77 0 (n)) ∧ (H277.2.2.1 77 0 (n)) ≤ 2147483647 from ⟨by omega, by omega⟩)⟩
        by_cases c312 : what = 7
        · refine J.tsw rfl rfl rfl ⟨by omega, by omega⟩ (t := 188) (by rw [c312]; rfl) ?_
          have f313 : -1 ≤ H277.2.2.1 78 0 (n) ∧ H277.2.2.1 78 0 (n) ≤ 31 := hT278.1 78 (n)
          refine J.run 4 rfl (show 0 ≤ n ∧ n < 16 from ⟨by omega, by omega⟩) ?_
          try dsimp only
          exact J.reti rfl rfl rfl ⟨_, rfl, rfl, hT278, hE279, k280, k281, k282, k283, k284, k285, k286, k287, k288, _, rfl, (show -2147483648 ≤ (H277.2.2.1 78 0 (n)) ∧ (H277.2.2.1 78 0 (n)) ≤ 2147483647 from ⟨by omega, by omega⟩)⟩
        by_cases c314 : what = 8
        · refine J.tsw rfl rfl rfl ⟨by omega, by omega⟩ (t := 195) (by rw [c314]; rfl) ?_
          have f315 : 0 ≤ H277.2.2.1 71 0 (n) ∧ H277.2.2.1 71 0 (n) ≤ 6000 := hT278.1 71 (n)
          refine J.run 4 rfl (show 0 ≤ n ∧ n < 16 from ⟨by omega, by omega⟩) ?_
          try dsimp only
          exact J.reti rfl rfl rfl ⟨_, rfl, rfl, hT278, hE279, k280, k281, k282, k283, k284, k285, k286, k287, k288, _, rfl, (show -2147483648 ≤ (H277.2.2.1 71 0 (n)) ∧ (H277.2.2.1 71 0 (n)) ≤ 2147483647 from ⟨by omega, by omega⟩)⟩
        by_cases c316 : what = 9
        · refine J.tsw rfl rfl rfl ⟨by omega, by omega⟩ (t := 202) (by rw [c316]; rfl) ?_
          have f317 : 0 ≤ H277.2.2.1 79 0 (n) ∧ H277.2.2.1 79 0 (n) ≤ 1 := hT278.1 79 (n)
          refine J.run 4 rfl (show 0 ≤ n ∧ n < 16 from ⟨by omega, by omega⟩) ?_
          try dsimp only
          refine J.ifc rfl rfl rfl (show -2147483648 ≤ H277.2.2.1 79 0 (n) ∧ H277.2.2.1 79 0 (n) ≤ 2147483647 from ⟨by omega, by omega⟩) (fun hc => ?_) (fun hc => ?_)
          · have c318 : H277.2.2.1 79 0 (n) = (0 : Int) := hc
            clear hc
            refine J.run 4 rfl (show 0 ≤ n ∧ n < 16 from ⟨by omega, by omega⟩) ?_
            try dsimp only
            refine J.ifc rfl rfl rfl (show -2147483648 ≤ H277.2.2.1 80 0 (n) ∧ H277.2.2.1 80 0 (n) ≤ 2147483647 from ⟨by omega, by omega⟩) (fun hc => ?_) (fun hc => ?_)
            · have c319 : H277.2.2.1 80 0 (n) = (0 : Int) := hc
              clear hc
              refine J.run0 1 rfl ?_
              try dsimp only
              exact J.reti rfl rfl rfl ⟨_, rfl, rfl, hT278, hE279, k280, k281, k282, k283, k284, k285, k286, k287, k288, _, rfl, (show -2147483648 ≤ ((0 : Int)) ∧ ((0 : Int)) ≤ 2147483647 from ⟨by omega, by omega⟩)⟩
            · have c320 : ¬ (H277.2.2.1 80 0 (n) = (0 : Int)) := hc
              clear hc
              refine J.run0 2 rfl ?_
              try dsimp only
              exact J.reti rfl rfl rfl ⟨_, rfl, rfl, hT278, hE279, k280, k281, k282, k283, k284, k285, k286, k287, k288, _, rfl, (show -2147483648 ≤ ((2 : Int)) ∧ ((2 : Int)) ≤ 2147483647 from ⟨by omega, by omega⟩)⟩
          · have c321 : ¬ (H277.2.2.1 79 0 (n) = (0 : Int)) := hc
            clear hc
            refine J.run0 2 rfl ?_
            try dsimp only
            exact J.reti rfl rfl rfl ⟨_, rfl, rfl, hT278, hE279, k280, k281, k282, k283, k284, k285, k286, k287, k288, _, rfl, (show -2147483648 ≤ ((1 : Int)) ∧ ((1 : Int)) ≤ 2147483647 from ⟨by omega, by omega⟩)⟩
        by_cases c322 : what = 10
        · refine J.tsw rfl rfl rfl ⟨by omega, by omega⟩ (t := 230) (by rw [c322]; rfl) ?_
          have f323 : 0 ≤ H277.2.2.1 73 0 (n) ∧ H277.2.2.1 73 0 (n) ≤ 31 := hT278.1 73 (n)
          refine J.run 6 rfl (show 0 ≤ n ∧ n < 16 from ⟨by omega, by omega⟩) ?_
          try dsimp only
          refine J.inv rfl rfl rfl rfl rfl rfl jDr rfl rfl rfl rfl rfl (g_proposer (n := n) (r := H277.2.2.1 73 0 (n)) hT278 k284 (show 0 ≤ (n) ∧ (n) < 16 from ⟨by omega, by omega⟩) (show 0 ≤ (H277.2.2.1 73 0 (n)) ∧ (H277.2.2.1 73 0 (n)) < 32 from ⟨by omega, by omega⟩)) ?_
          rintro v w H277 ⟨rfl, rfl, x324, rfl, r325⟩
          have r325' : (-1) ≤ x324 ∧ x324 ≤ 15 := r325
          try dsimp only [Option.toList, List.append, List.cons_append, List.nil_append]
          exact J.reti rfl rfl rfl ⟨_, rfl, rfl, hT278, hE279, k280, k281, k282, k283, k284, k285, k286, k287, k288, _, rfl, (show -2147483648 ≤ (x324) ∧ (x324) ≤ 2147483647 from ⟨by omega, by omega⟩)⟩
        have c326 : what < 0 ∨ 10 < what := by omega
        refine J.tsw rfl rfl rfl ⟨by omega, by omega⟩ (t := 242) (by rw [if_pos c326]; rfl) ?_
        have f327 : 0 ≤ H277.2.2.1 83 0 (n) ∧ H277.2.2.1 83 0 (n) ≤ 96 := hT278.1 83 (n)
        have f328 : 0 ≤ H277.2.2.1 84 0 (n) ∧ H277.2.2.1 84 0 (n) ≤ 11 := hT278.1 84 (n)
        refine J.run 11 rfl ⟨(show 0 ≤ n ∧ n < 16 from ⟨by omega, by omega⟩), (show 0 ≤ n ∧ n < 16 from ⟨by omega, by omega⟩)⟩ ?_
        try dsimp only
        exact J.reti rfl rfl rfl ⟨_, rfl, rfl, hT278, hE279, k280, k281, k282, k283, k284, k285, k286, k287, k288, _, rfl, (show -2147483648 ≤ (((12 : Int) * (H277.2.2.1 83 0 (n))) + (H277.2.2.1 84 0 (n))) ∧ (((12 : Int) * (H277.2.2.1 83 0 (n))) + (H277.2.2.1 84 0 (n))) ≤ 2147483647 from ⟨by omega, by omega⟩)⟩
      · have c329 : ¬ (H277.2.2.1 80 0 (n) = (0 : Int)) := hc
        clear hc
        refine J.run0 2 rfl ?_
        try dsimp only
        refine J.icmp rfl rfl rfl ⟨(show -2147483648 ≤ what ∧ what ≤ 2147483647 from ⟨by omega, by omega⟩), (show -2147483648 ≤ (1 : Int) ∧ (1 : Int) ≤ 2147483647 from ⟨by omega, by omega⟩)⟩ (fun hc => ?_) (fun hc => ?_)
        · have c330 : what = (1 : Int) := hc
          clear hc
          refine J.run0 1 rfl ?_
          try dsimp only
          exact J.reti rfl rfl rfl ⟨_, rfl, rfl, hT278, hE279, k280, k281, k282, k283, k284, k285, k286, k287, k288, _, rfl, (show -2147483648 ≤ ((-1 : Int)) ∧ ((-1 : Int)) ≤ 2147483647 from ⟨by omega, by omega⟩)⟩
        · have c331 : ¬ (what = (1 : Int)) := hc
          clear hc
          refine J.run0 2 rfl ?_
          try dsimp only
          refine J.icmp rfl rfl rfl ⟨(show -2147483648 ≤ what ∧ what ≤ 2147483647 from ⟨by omega, by omega⟩), (show -2147483648 ≤ (2 : Int) ∧ (2 : Int) ≤ 2147483647 from ⟨by omega, by omega⟩)⟩ (fun hc => ?_) (fun hc => ?_)
          · have c332 : what = (2 : Int) := hc
            clear hc
            refine J.run0 1 rfl ?_
            try dsimp only
            exact J.reti rfl rfl rfl ⟨_, rfl, rfl, hT278, hE279, k280, k281, k282, k283, k284, k285, k286, k287, k288, _, rfl, (show -2147483648 ≤ ((-1 : Int)) ∧ ((-1 : Int)) ≤ 2147483647 from ⟨by omega, by omega⟩)⟩
          · have c333 : ¬ (what = (2 : Int)) := hc
            clear hc
            refine J.run0 2 rfl ?_
            try dsimp only
            refine J.icmp rfl rfl rfl ⟨(show -2147483648 ≤ what ∧ what ≤ 2147483647 from ⟨by omega, by omega⟩), (show -2147483648 ≤ (3 : Int) ∧ (3 : Int) ≤ 2147483647 from ⟨by omega, by omega⟩)⟩ (fun hc => ?_) (fun hc => ?_)
            · have c334 : what ≤ (3 : Int) := hc
              clear hc
              refine J.run0 2 rfl ?_
              try dsimp only
              refine J.icmp rfl rfl rfl ⟨(show -2147483648 ≤ what ∧ what ≤ 2147483647 from ⟨by omega, by omega⟩), (show -2147483648 ≤ (10 : Int) ∧ (10 : Int) ≤ 2147483647 from ⟨by omega, by omega⟩)⟩ (fun hc => ?_) (fun hc => ?_)
              · have c335 : ¬ (what = (10 : Int)) := hc
                clear hc
                refine J.run0 1 rfl ?_
                try dsimp only
                by_cases c336 : what = 0
                · refine J.tsw rfl rfl rfl ⟨by omega, by omega⟩ (t := 140) (by rw [c336]; rfl) ?_
                  refine J.run0 2 rfl ?_
                  try dsimp only
                  refine J.inv rfl rfl rfl rfl rfl rfl jDr rfl rfl rfl rfl rfl (g_heightE (n := n) hT278  (show 0 ≤ (n) ∧ (n) < 16 from ⟨by omega, by omega⟩)) ?_
                  rintro v w H277 ⟨rfl, rfl, x337, rfl, r338⟩
                  have r338' : x337 = H277.2.2.1 56 0 (H277.2.2.1 72 0 ((n))) + 1 ∧ 1 ≤ x337 ∧ x337 ≤ 301 := r338
                  try dsimp only [Option.toList, List.append, List.cons_append, List.nil_append]
                  exact J.reti rfl rfl rfl ⟨_, rfl, rfl, hT278, hE279, k280, k281, k282, k283, k284, k285, k286, k287, k288, _, rfl, (show -2147483648 ≤ (x337) ∧ (x337) ≤ 2147483647 from ⟨by omega, by omega⟩)⟩
                by_cases c339 : what = 1
                · refine J.tsw rfl rfl rfl ⟨by omega, by omega⟩ (t := 146) (by rw [c339]; rfl) ?_
                  have f340 : 0 ≤ H277.2.2.1 73 0 (n) ∧ H277.2.2.1 73 0 (n) ≤ 31 := hT278.1 73 (n)
                  refine J.run 4 rfl (show 0 ≤ n ∧ n < 16 from ⟨by omega, by omega⟩) ?_
                  try dsimp only
                  exact J.reti rfl rfl rfl ⟨_, rfl, rfl, hT278, hE279, k280, k281, k282, k283, k284, k285, k286, k287, k288, _, rfl, (show -2147483648 ≤ (H277.2.2.1 73 0 (n)) ∧ (H277.2.2.1 73 0 (n)) ≤ 2147483647 from ⟨by omega, by omega⟩)⟩
                by_cases c341 : what = 2
                · refine J.tsw rfl rfl rfl ⟨by omega, by omega⟩ (t := 153) (by rw [c341]; rfl) ?_
                  have f342 : 0 ≤ H277.2.2.1 74 0 (n) ∧ H277.2.2.1 74 0 (n) ≤ 2 := hT278.1 74 (n)
                  refine J.run 4 rfl (show 0 ≤ n ∧ n < 16 from ⟨by omega, by omega⟩) ?_
                  try dsimp only
                  exact J.reti rfl rfl rfl ⟨_, rfl, rfl, hT278, hE279, k280, k281, k282, k283, k284, k285, k286, k287, k288, _, rfl, (show -2147483648 ≤ (H277.2.2.1 74 0 (n)) ∧ (H277.2.2.1 74 0 (n)) ≤ 2147483647 from ⟨by omega, by omega⟩)⟩
                by_cases c343 : what = 3
                · refine J.tsw rfl rfl rfl ⟨by omega, by omega⟩ (t := 160) (by rw [c343]; rfl) ?_
                  have f344 : 0 ≤ H277.2.2.1 72 0 (n) ∧ H277.2.2.1 72 0 (n) ≤ 299 := hT278.1 72 (n)
                  have f345 : 1 ≤ H277.1 11 12 0 ∧ H277.1 11 12 0 ≤ 300 := hT278.2.1 12
                  have f344b : H277.2.2.1 72 0 (n) < H277.1 11 12 0 := hT278.2.2.1 72 (n) rfl
                  refine J.run 4 rfl (show 0 ≤ n ∧ n < 16 from ⟨by omega, by omega⟩) ?_
                  try dsimp only
                  exact J.reti rfl rfl rfl ⟨_, rfl, rfl, hT278, hE279, k280, k281, k282, k283, k284, k285, k286, k287, k288, _, rfl, (show -2147483648 ≤ (H277.2.2.1 72 0 (n)) ∧ (H277.2.2.1 72 0 (n)) ≤ 2147483647 from ⟨by omega, by omega⟩)⟩
                by_cases c346 : what = 4
                · refine J.tsw rfl rfl rfl ⟨by omega, by omega⟩ (t := 167) (by rw [c346]; rfl) ?_
                  have f347 : -1 ≤ H277.2.2.1 75 0 (n) ∧ H277.2.2.1 75 0 (n) ≤ 299 := hT278.1 75 (n)
                  refine J.run 4 rfl (show 0 ≤ n ∧ n < 16 from ⟨by omega, by omega⟩) ?_
                  try dsimp only
                  exact J.reti rfl rfl rfl ⟨_, rfl, rfl, hT278, hE279, k280, k281, k282, k283, k284, k285, k286, k287, k288, _, rfl, (show -2147483648 ≤ (H277.2.2.1 75 0 (n)) ∧ (H277.2.2.1 75 0 (n)) ≤ 2147483647 from ⟨by omega, by omega⟩)⟩
                by_cases c348 : what = 5
                · refine J.tsw rfl rfl rfl ⟨by omega, by omega⟩ (t := 174) (by rw [c348]; rfl) ?_
                  have f349 : -1 ≤ H277.2.2.1 76 0 (n) ∧ H277.2.2.1 76 0 (n) ≤ 31 := hT278.1 76 (n)
                  refine J.run 4 rfl (show 0 ≤ n ∧ n < 16 from ⟨by omega, by omega⟩) ?_
                  try dsimp only
                  exact J.reti rfl rfl rfl ⟨_, rfl, rfl, hT278, hE279, k280, k281, k282, k283, k284, k285, k286, k287, k288, _, rfl, (show -2147483648 ≤ (H277.2.2.1 76 0 (n)) ∧ (H277.2.2.1 76 0 (n)) ≤ 2147483647 from ⟨by omega, by omega⟩)⟩
                by_cases c350 : what = 6
                · refine J.tsw rfl rfl rfl ⟨by omega, by omega⟩ (t := 181) (by rw [c350]; rfl) ?_
                  have f351 : -1 ≤ H277.2.2.1 77 0 (n) ∧ H277.2.2.1 77 0 (n) ≤ 299 := hT278.1 77 (n)
                  have f352 : 1 ≤ H277.1 11 12 0 ∧ H277.1 11 12 0 ≤ 300 := hT278.2.1 12
                  have f351b : H277.2.2.1 77 0 (n) < H277.1 11 12 0 := hT278.2.2.1 77 (n) rfl
                  refine J.run 4 rfl (show 0 ≤ n ∧ n < 16 from ⟨by omega, by omega⟩) ?_
                  try dsimp only
                  exact J.reti rfl rfl rfl ⟨_, rfl, rfl, hT278, hE279, k280, k281, k282, k283, k284, k285, k286, k287, k288, _, rfl, (show -2147483648 ≤ (H277.2.2.1 77 0 (n)) ∧ (H277.2.2.1 77 0 (n)) ≤ 2147483647 from ⟨by omega, by omega⟩)⟩
                by_cases c353 : what = 7
                · refine J.tsw rfl rfl rfl ⟨by omega, by omega⟩ (t := 188) (by rw [c353]; rfl) ?_
                  have f354 : -1 ≤ H277.2.2.1 78 0 (n) ∧ H277.2.2.1 78 0 (n) ≤ 31 := hT278.1 78 (n)
                  refine J.run 4 rfl (show 0 ≤ n ∧ n < 16 from ⟨by omega, by omega⟩) ?_
                  try dsimp only
                  exact J.reti rfl rfl rfl ⟨_, rfl, rfl, hT278, hE279, k280, k281, k282, k283, k284, k285, k286, k287, k288, _, rfl, (show -2147483648 ≤ (H277.2.2.1 78 0 (n)) ∧ (H277.2.2.1 78 0 (n)) ≤ 2147483647 from ⟨by omega, by omega⟩)⟩
                by_cases c355 : what = 8
                · refine J.tsw rfl rfl rfl ⟨by omega, by omega⟩ (t := 195) (by rw [c355]; rfl) ?_
                  have f356 : 0 ≤ H277.2.2.1 71 0 (n) ∧ H277.2.2.1 71 0 (n) ≤ 6000 := hT278.1 71 (n)
                  refine J.run 4 rfl (show 0 ≤ n ∧ n < 16 from ⟨by omega, by omega⟩) ?_
                  try dsimp only
                  exact J.reti rfl rfl rfl ⟨_, rfl, rfl, hT278, hE279, k280, k281, k282, k283, k284, k285, k286, k287, k288, _, rfl, (show -2147483648 ≤ (H277.2.2.1 71 0 (n)) ∧ (H277.2.2.1 71 0 (n)) ≤ 2147483647 from ⟨by omega, by omega⟩)⟩
                by_cases c357 : what = 9
                · refine J.tsw rfl rfl rfl ⟨by omega, by omega⟩ (t := 202) (by rw [c357]; rfl) ?_
                  have f358 : 0 ≤ H277.2.2.1 79 0 (n) ∧ H277.2.2.1 79 0 (n) ≤ 1 := hT278.1 79 (n)
                  refine J.run 4 rfl (show 0 ≤ n ∧ n < 16 from ⟨by omega, by omega⟩) ?_
                  try dsimp only
                  refine J.ifc rfl rfl rfl (show -2147483648 ≤ H277.2.2.1 79 0 (n) ∧ H277.2.2.1 79 0 (n) ≤ 2147483647 from ⟨by omega, by omega⟩) (fun hc => ?_) (fun hc => ?_)
                  · have c359 : H277.2.2.1 79 0 (n) = (0 : Int) := hc
                    clear hc
                    refine J.run 4 rfl (show 0 ≤ n ∧ n < 16 from ⟨by omega, by omega⟩) ?_
                    try dsimp only
                    refine J.ifc rfl rfl rfl (show -2147483648 ≤ H277.2.2.1 80 0 (n) ∧ H277.2.2.1 80 0 (n) ≤ 2147483647 from ⟨by omega, by omega⟩) (fun hc => ?_) (fun hc => ?_)
                    · have c360 : H277.2.2.1 80 0 (n) = (0 : Int) := hc
                      clear hc
                      refine J.run0 1 rfl ?_
                      try dsimp only
                      exact J.reti rfl rfl rfl ⟨_, rfl, rfl, hT278, hE279, k280, k281, k282, k283, k284, k285, k286, k287, k288, _, rfl, (show -2147483648 ≤ ((0 : Int)) ∧ ((0 : Int)) ≤ 2147483647 from ⟨by omega, by omega⟩)⟩
                    · have c361 : ¬ (H277.2.2.1 80 0 (n) = (0 : Int)) := hc
                      clear hc
                      refine J.run0 2 rfl ?_
                      try dsimp only
                      exact J.reti rfl rfl rfl ⟨_, rfl, rfl, hT278, hE279, k280, k281, k282, k283, k284, k285, k286, k287, k288, _, rfl, (show -2147483648 ≤ ((2 : Int)) ∧ ((2 : Int)) ≤ 2147483647 from ⟨by omega, by omega⟩)⟩
                  · have c362 : ¬ (H277.2.2.1 79 0 (n) = (0 : Int)) := hc
                    clear hc
                    refine J.run0 2 rfl ?_
                    try dsimp only
                    exact J.reti rfl rfl rfl ⟨_, rfl, rfl, hT278, hE279, k280, k281, k282, k283, k284, k285, k286, k287, k288, _, rfl, (show -2147483648 ≤ ((1 : Int)) ∧ ((1 : Int)) ≤ 2147483647 from ⟨by omega, by omega⟩)⟩
                by_cases c363 : what = 10
                · refine J.tsw rfl rfl rfl ⟨by omega, by omega⟩ (t := 230) (by rw [c363]; rfl) ?_
                  have f364 : 0 ≤ H277.2.2.1 73 0 (n) ∧ H277.2.2.1 73 0 (n) ≤ 31 := hT278.1 73 (n)
                  refine J.run 6 rfl (show 0 ≤ n ∧ n < 16 from ⟨by omega, by omega⟩) ?_
                  try dsimp only
                  refine J.inv rfl rfl rfl rfl rfl rfl jDr rfl rfl rfl rfl rfl (g_proposer (n := n) (r := H277.2.2.1 73 0 (n)) hT278 k284 (show 0 ≤ (n) ∧ (n) < 16 from ⟨by omega, by omega⟩) (show 0 ≤ (H277.2.2.1 73 0 (n)) ∧ (H277.2.2.1 73 0 (n)) < 32 from ⟨by omega, by omega⟩)) ?_
                  rintro v w H277 ⟨rfl, rfl, x365, rfl, r366⟩
                  have r366' : (-1) ≤ x365 ∧ x365 ≤ 15 := r366
                  try dsimp only [Option.toList, List.append, List.cons_append, List.nil_append]
                  exact J.reti rfl rfl rfl ⟨_, rfl, rfl, hT278, hE279, k280, k281, k282, k283, k284, k285, k286, k287, k288, _, rfl, (show -2147483648 ≤ (x365) ∧ (x365) ≤ 2147483647 from ⟨by omega, by omega⟩)⟩
                have c367 : what < 0 ∨ 10 < what := by omega
                refine J.tsw rfl rfl rfl ⟨by omega, by omega⟩ (t := 242) (by rw [if_pos c367]; rfl) ?_
                have f368 : 0 ≤ H277.2.2.1 83 0 (n) ∧ H277.2.2.1 83 0 (n) ≤ 96 := hT278.1 83 (n)
                have f369 : 0 ≤ H277.2.2.1 84 0 (n) ∧ H277.2.2.1 84 0 (n) ≤ 11 := hT278.1 84 (n)
                refine J.run 11 rfl ⟨(show 0 ≤ n ∧ n < 16 from ⟨by omega, by omega⟩), (show 0 ≤ n ∧ n < 16 from ⟨by omega, by omega⟩)⟩ ?_
                try dsimp only
                exact J.reti rfl rfl rfl ⟨_, rfl, rfl, hT278, hE279, k280, k281, k282, k283, k284, k285, k286, k287, k288, _, rfl, (show -2147483648 ≤ (((12 : Int) * (H277.2.2.1 83 0 (n))) + (H277.2.2.1 84 0 (n))) ∧ (((12 : Int) * (H277.2.2.1 83 0 (n))) + (H277.2.2.1 84 0 (n))) ≤ 2147483647 from ⟨by omega, by omega⟩)⟩
              · have c370 : ¬ (¬ (what = (10 : Int))) := hc
                clear hc
                refine J.run0 1 rfl ?_
                try dsimp only
                exact J.reti rfl rfl rfl ⟨_, rfl, rfl, hT278, hE279, k280, k281, k282, k283, k284, k285, k286, k287, k288, _, rfl, (show -2147483648 ≤ ((-1 : Int)) ∧ ((-1 : Int)) ≤ 2147483647 from ⟨by omega, by omega⟩)⟩
            · have c371 : ¬ (what ≤ (3 : Int)) := hc
              clear hc
              refine J.run0 2 rfl ?_
              try dsimp only
              refine J.icmp rfl rfl rfl ⟨(show -2147483648 ≤ what ∧ what ≤ 2147483647 from ⟨by omega, by omega⟩), (show -2147483648 ≤ (8 : Int) ∧ (8 : Int) ≤ 2147483647 from ⟨by omega, by omega⟩)⟩ (fun hc => ?_) (fun hc => ?_)
              · have c372 : what < (8 : Int) := hc
                clear hc
                refine J.run0 1 rfl ?_
                try dsimp only
                exact J.reti rfl rfl rfl ⟨_, rfl, rfl, hT278, hE279, k280, k281, k282, k283, k284, k285, k286, k287, k288, _, rfl, (show -2147483648 ≤ ((-1 : Int)) ∧ ((-1 : Int)) ≤ 2147483647 from ⟨by omega, by omega⟩)⟩
              · have c373 : ¬ (what < (8 : Int)) := hc
                clear hc
                refine J.run0 2 rfl ?_
                try dsimp only
                refine J.icmp rfl rfl rfl ⟨(show -2147483648 ≤ what ∧ what ≤ 2147483647 from ⟨by omega, by omega⟩), (show -2147483648 ≤ (10 : Int) ∧ (10 : Int) ≤ 2147483647 from ⟨by omega, by omega⟩)⟩ (fun hc => ?_) (fun hc => ?_)
                · have c374 : ¬ (what = (10 : Int)) := hc
                  clear hc
                  refine J.run0 1 rfl ?_
                  try dsimp only
                  by_cases c375 : what = 0
                  · refine J.tsw rfl rfl rfl ⟨by omega, by omega⟩ (t := 140) (by rw [c375]; rfl) ?_
                    refine J.run0 2 rfl ?_
                    try dsimp only
                    refine J.inv rfl rfl rfl rfl rfl rfl jDr rfl rfl rfl rfl rfl (g_heightE (n := n) hT278  (show 0 ≤ (n) ∧ (n) < 16 from ⟨by omega, by omega⟩)) ?_
                    rintro v w H277 ⟨rfl, rfl, x376, rfl, r377⟩
                    have r377' : x376 = H277.2.2.1 56 0 (H277.2.2.1 72 0 ((n))) + 1 ∧ 1 ≤ x376 ∧ x376 ≤ 301 := r377
                    try dsimp only [Option.toList, List.append, List.cons_append, List.nil_append]
                    exact J.reti rfl rfl rfl ⟨_, rfl, rfl, hT278, hE279, k280, k281, k282, k283, k284, k285, k286, k287, k288, _, rfl, (show -2147483648 ≤ (x376) ∧ (x376) ≤ 2147483647 from ⟨by omega, by omega⟩)⟩
                  by_cases c378 : what = 1
                  · refine J.tsw rfl rfl rfl ⟨by omega, by omega⟩ (t := 146) (by rw [c378]; rfl) ?_
                    have f379 : 0 ≤ H277.2.2.1 73 0 (n) ∧ H277.2.2.1 73 0 (n) ≤ 31 := hT278.1 73 (n)
                    refine J.run 4 rfl (show 0 ≤ n ∧ n < 16 from ⟨by omega, by omega⟩) ?_
                    try dsimp only
                    exact J.reti rfl rfl rfl ⟨_, rfl, rfl, hT278, hE279, k280, k281, k282, k283, k284, k285, k286, k287, k288, _, rfl, (show -2147483648 ≤ (H277.2.2.1 73 0 (n)) ∧ (H277.2.2.1 73 0 (n)) ≤ 2147483647 from ⟨by omega, by omega⟩)⟩
                  by_cases c380 : what = 2
                  · refine J.tsw rfl rfl rfl ⟨by omega, by omega⟩ (t := 153) (by rw [c380]; rfl) ?_
                    have f381 : 0 ≤ H277.2.2.1 74 0 (n) ∧ H277.2.2.1 74 0 (n) ≤ 2 := hT278.1 74 (n)
                    refine J.run 4 rfl (show 0 ≤ n ∧ n < 16 from ⟨by omega, by omega⟩) ?_
                    try dsimp only
                    exact J.reti rfl rfl rfl ⟨_, rfl, rfl, hT278, hE279, k280, k281, k282, k283, k284, k285, k286, k287, k288, _, rfl, (show -2147483648 ≤ (H277.2.2.1 74 0 (n)) ∧ (H277.2.2.1 74 0 (n)) ≤ 2147483647 from ⟨by omega, by omega⟩)⟩
                  by_cases c382 : what = 3
                  · refine J.tsw rfl rfl rfl ⟨by omega, by omega⟩ (t := 160) (by rw [c382]; rfl) ?_
                    have f383 : 0 ≤ H277.2.2.1 72 0 (n) ∧ H277.2.2.1 72 0 (n) ≤ 299 := hT278.1 72 (n)
                    have f384 : 1 ≤ H277.1 11 12 0 ∧ H277.1 11 12 0 ≤ 300 := hT278.2.1 12
                    have f383b : H277.2.2.1 72 0 (n) < H277.1 11 12 0 := hT278.2.2.1 72 (n) rfl
                    refine J.run 4 rfl (show 0 ≤ n ∧ n < 16 from ⟨by omega, by omega⟩) ?_
                    try dsimp only
                    exact J.reti rfl rfl rfl ⟨_, rfl, rfl, hT278, hE279, k280, k281, k282, k283, k284, k285, k286, k287, k288, _, rfl, (show -2147483648 ≤ (H277.2.2.1 72 0 (n)) ∧ (H277.2.2.1 72 0 (n)) ≤ 2147483647 from ⟨by omega, by omega⟩)⟩
                  by_cases c385 : what = 4
                  · refine J.tsw rfl rfl rfl ⟨by omega, by omega⟩ (t := 167) (by rw [c385]; rfl) ?_
                    have f386 : -1 ≤ H277.2.2.1 75 0 (n) ∧ H277.2.2.1 75 0 (n) ≤ 299 := hT278.1 75 (n)
                    refine J.run 4 rfl (show 0 ≤ n ∧ n < 16 from ⟨by omega, by omega⟩) ?_
                    try dsimp only
                    exact J.reti rfl rfl rfl ⟨_, rfl, rfl, hT278, hE279, k280, k281, k282, k283, k284, k285, k286, k287, k288, _, rfl, (show -2147483648 ≤ (H277.2.2.1 75 0 (n)) ∧ (H277.2.2.1 75 0 (n)) ≤ 2147483647 from ⟨by omega, by omega⟩)⟩
                  by_cases c387 : what = 5
                  · refine J.tsw rfl rfl rfl ⟨by omega, by omega⟩ (t := 174) (by rw [c387]; rfl) ?_
                    have f388 : -1 ≤ H277.2.2.1 76 0 (n) ∧ H277.2.2.1 76 0 (n) ≤ 31 := hT278.1 76 (n)
                    refine J.run 4 rfl (show 0 ≤ n ∧ n < 16 from ⟨by omega, by omega⟩) ?_
                    try dsimp only
                    exact J.reti rfl rfl rfl ⟨_, rfl, rfl, hT278, hE279, k280, k281, k282, k283, k284, k285, k286, k287, k288, _, rfl, (show -2147483648 ≤ (H277.2.2.1 76 0 (n)) ∧ (H277.2.2.1 76 0 (n)) ≤ 2147483647 from ⟨by omega, by omega⟩)⟩
                  by_cases c389 : what = 6
                  · refine J.tsw rfl rfl rfl ⟨by omega, by omega⟩ (t := 181) (by rw [c389]; rfl) ?_
                    have f390 : -1 ≤ H277.2.2.1 77 0 (n) ∧ H277.2.2.1 77 0 (n) ≤ 299 := hT278.1 77 (n)
                    have f391 : 1 ≤ H277.1 11 12 0 ∧ H277.1 11 12 0 ≤ 300 := hT278.2.1 12
                    have f390b : H277.2.2.1 77 0 (n) < H277.1 11 12 0 := hT278.2.2.1 77 (n) rfl
                    refine J.run 4 rfl (show 0 ≤ n ∧ n < 16 from ⟨by omega, by omega⟩) ?_
                    try dsimp only
                    exact J.reti rfl rfl rfl ⟨_, rfl, rfl, hT278, hE279, k280, k281, k282, k283, k284, k285, k286, k287, k288, _, rfl, (show -2147483648 ≤ (H277.2.2.1 77 0 (n)) ∧ (H277.2.2.1 77 0 (n)) ≤ 2147483647 from ⟨by omega, by omega⟩)⟩
                  by_cases c392 : what = 7
                  · refine J.tsw rfl rfl rfl ⟨by omega, by omega⟩ (t := 188) (by rw [c392]; rfl) ?_
                    have f393 : -1 ≤ H277.2.2.1 78 0 (n) ∧ H277.2.2.1 78 0 (n) ≤ 31 := hT278.1 78 (n)
                    refine J.run 4 rfl (show 0 ≤ n ∧ n < 16 from ⟨by omega, by omega⟩) ?_
                    try dsimp only
                    exact J.reti rfl rfl rfl ⟨_, rfl, rfl, hT278, hE279, k280, k281, k282, k283, k284, k285, k286, k287, k288, _, rfl, (show -2147483648 ≤ (H277.2.2.1 78 0 (n)) ∧ (H277.2.2.1 78 0 (n)) ≤ 2147483647 from ⟨by omega, by omega⟩)⟩
                  by_cases c394 : what = 8
                  · refine J.tsw rfl rfl rfl ⟨by omega, by omega⟩ (t := 195) (by rw [c394]; rfl) ?_
                    have f395 : 0 ≤ H277.2.2.1 71 0 (n) ∧ H277.2.2.1 71 0 (n) ≤ 6000 := hT278.1 71 (n)
                    refine J.run 4 rfl (show 0 ≤ n ∧ n < 16 from ⟨by omega, by omega⟩) ?_
                    try dsimp only
                    exact J.reti rfl rfl rfl ⟨_, rfl, rfl, hT278, hE279, k280, k281, k282, k283, k284, k285, k286, k287, k288, _, rfl, (show -2147483648 ≤ (H277.2.2.1 71 0 (n)) ∧ (H277.2.2.1 71 0 (n)) ≤ 2147483647 from ⟨by omega, by omega⟩)⟩
                  by_cases c396 : what = 9
                  · refine J.tsw rfl rfl rfl ⟨by omega, by omega⟩ (t := 202) (by rw [c396]; rfl) ?_
                    have f397 : 0 ≤ H277.2.2.1 79 0 (n) ∧ H277.2.2.1 79 0 (n) ≤ 1 := hT278.1 79 (n)
                    refine J.run 4 rfl (show 0 ≤ n ∧ n < 16 from ⟨by omega, by omega⟩) ?_
                    try dsimp only
                    refine J.ifc rfl rfl rfl (show -2147483648 ≤ H277.2.2.1 79 0 (n) ∧ H277.2.2.1 79 0 (n) ≤ 2147483647 from ⟨by omega, by omega⟩) (fun hc => ?_) (fun hc => ?_)
                    · have c398 : H277.2.2.1 79 0 (n) = (0 : Int) := hc
                      clear hc
                      refine J.run 4 rfl (show 0 ≤ n ∧ n < 16 from ⟨by omega, by omega⟩) ?_
                      try dsimp only
                      refine J.ifc rfl rfl rfl (show -2147483648 ≤ H277.2.2.1 80 0 (n) ∧ H277.2.2.1 80 0 (n) ≤ 2147483647 from ⟨by omega, by omega⟩) (fun hc => ?_) (fun hc => ?_)
                      · have c399 : H277.2.2.1 80 0 (n) = (0 : Int) := hc
                        clear hc
                        refine J.run0 1 rfl ?_
                        try dsimp only
                        exact J.reti rfl rfl rfl ⟨_, rfl, rfl, hT278, hE279, k280, k281, k282, k283, k284, k285, k286, k287, k288, _, rfl, (show -2147483648 ≤ ((0 : Int)) ∧ ((0 : Int)) ≤ 2147483647 from ⟨by omega, by omega⟩)⟩
                      · have c400 : ¬ (H277.2.2.1 80 0 (n) = (0 : Int)) := hc
                        clear hc
                        refine J.run0 2 rfl ?_
                        try dsimp only
                        exact J.reti rfl rfl rfl ⟨_, rfl, rfl, hT278, hE279, k280, k281, k282, k283, k284, k285, k286, k287, k288, _, rfl, (show -2147483648 ≤ ((2 : Int)) ∧ ((2 : Int)) ≤ 2147483647 from ⟨by omega, by omega⟩)⟩
                    · have c401 : ¬ (H277.2.2.1 79 0 (n) = (0 : Int)) := hc
                      clear hc
                      refine J.run0 2 rfl ?_
                      try dsimp only
                      exact J.reti rfl rfl rfl ⟨_, rfl, rfl, hT278, hE279, k280, k281, k282, k283, k284, k285, k286, k287, k288, _, rfl, (show -2147483648 ≤ ((1 : Int)) ∧ ((1 : Int)) ≤ 2147483647 from ⟨by omega, by omega⟩)⟩
                  by_cases c402 : what = 10
                  · refine J.tsw rfl rfl rfl ⟨by omega, by omega⟩ (t := 230) (by rw [c402]; rfl) ?_
                    have f403 : 0 ≤ H277.2.2.1 73 0 (n) ∧ H277.2.2.1 73 0 (n) ≤ 31 := hT278.1 73 (n)
                    refine J.run 6 rfl (show 0 ≤ n ∧ n < 16 from ⟨by omega, by omega⟩) ?_
                    try dsimp only
                    refine J.inv rfl rfl rfl rfl rfl rfl jDr rfl rfl rfl rfl rfl (g_proposer (n := n) (r := H277.2.2.1 73 0 (n)) hT278 k284 (show 0 ≤ (n) ∧ (n) < 16 from ⟨by omega, by omega⟩) (show 0 ≤ (H277.2.2.1 73 0 (n)) ∧ (H277.2.2.1 73 0 (n)) < 32 from ⟨by omega, by omega⟩)) ?_
                    rintro v w H277 ⟨rfl, rfl, x404, rfl, r405⟩
                    have r405' : (-1) ≤ x404 ∧ x404 ≤ 15 := r405
                    try dsimp only [Option.toList, List.append, List.cons_append, List.nil_append]
                    exact J.reti rfl rfl rfl ⟨_, rfl, rfl, hT278, hE279, k280, k281, k282, k283, k284, k285, k286, k287, k288, _, rfl, (show -2147483648 ≤ (x404) ∧ (x404) ≤ 2147483647 from ⟨by omega, by omega⟩)⟩
                  have c406 : what < 0 ∨ 10 < what := by omega
                  refine J.tsw rfl rfl rfl ⟨by omega, by omega⟩ (t := 242) (by rw [if_pos c406]; rfl) ?_
                  have f407 : 0 ≤ H277.2.2.1 83 0 (n) ∧ H277.2.2.1 83 0 (n) ≤ 96 := hT278.1 83 (n)
                  have f408 : 0 ≤ H277.2.2.1 84 0 (n) ∧ H277.2.2.1 84 0 (n) ≤ 11 := hT278.1 84 (n)
                  refine J.run 11 rfl ⟨(show 0 ≤ n ∧ n < 16 from ⟨by omega, by omega⟩), (show 0 ≤ n ∧ n < 16 from ⟨by omega, by omega⟩)⟩ ?_
                  try dsimp only
                  exact J.reti rfl rfl rfl ⟨_, rfl, rfl, hT278, hE279, k280, k281, k282, k283, k284, k285, k286, k287, k288, _, rfl, (show -2147483648 ≤ (((12 : Int) * (H277.2.2.1 83 0 (n))) + (H277.2.2.1 84 0 (n))) ∧ (((12 : Int) * (H277.2.2.1 83 0 (n))) + (H277.2.2.1 84 0 (n))) ≤ 2147483647 from ⟨by omega, by omega⟩)⟩
                · have c409 : ¬ (¬ (what = (10 : Int))) := hc
                  clear hc
                  refine J.run0 1 rfl ?_
                  try dsimp only
                  exact J.reti rfl rfl rfl ⟨_, rfl, rfl, hT278, hE279, k280, k281, k282, k283, k284, k285, k286, k287, k288, _, rfl, (show -2147483648 ≤ ((-1 : Int)) ∧ ((-1 : Int)) ≤ 2147483647 from ⟨by omega, by omega⟩)⟩
    · have c410 : ¬ (H277.1 11 47 0 ≤ (0 : Int)) := hc
      clear hc
      refine J.run0 1 rfl ?_
      try dsimp only
      exact J.reti rfl rfl rfl ⟨_, rfl, rfl, hT278, hE279, k280, k281, k282, k283, k284, k285, k286, k287, k288, _, rfl, (show -2147483648 ≤ ((0 : Int)) ∧ ((0 : Int)) ≤ 2147483647 from ⟨by omega, by omega⟩)⟩
end
