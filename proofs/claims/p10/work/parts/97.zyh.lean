-- M: X11_sync
section
variable {d : Nat} {w : jW} 
-- 
theorem g_sync {n b : Int} {H : jH} (hT : gT H) (k0gP : gP H) (k0gX : gX H) (k0gL : gL H) (k0gZ : gZ H) (k0gQ : gQ H) (k0gB : gB H) (k0gK : gK H) (k0gN : gN H) (k0gW : gW H (H.1 11 19 0)) (hp0 : -2147483648 ≤ n ∧ n ≤ 2147483647) (hp1 : -2147483648 ≤ b ∧ b ≤ 2147483647) : J true (d + 306) 154 w (0, jargs 0 [jT, .inl n, .inl b], [], H) (jN fun v w' H' => w' = w ∧ gT H' ∧ jEx [19, 12, 48, 56, 57, 47] [60, 56, 59, 58, 55, 57, 61, 99, 100, 77, 78, 82, 80, 114, 115, 81, 105, 71, 70, 72, 75, 76, 68, 67, 65, 63, 64, 66, 112, 113, 108, 110, 101, 102, 103, 104, 83, 73, 74, 84, 111, 89, 88, 93, 94, 86, 91, 92, 85, 87, 90] H' H ∧ gP H' ∧ gX H' ∧ gL H' ∧ gZ H' ∧ gQ H' ∧ gB H' ∧ gK H' ∧ gN H' ∧ gW H' (H'.1 11 19 0) ∧ ∃ x, v = some (.inl x) ∧ 0 ≤ x ∧ x ≤ 301) := by
  have hE : jEx [19, 12, 48, 56, 57, 47] [60, 56, 59, 58, 55, 57, 61, 99, 100, 77, 78, 82, 80, 114, 115, 81, 105, 71, 70, 72, 75, 76, 68, 67, 65, 63, 64, 66, 112, 113, 108, 110, 101, 102, 103, 104, 83, 73, 74, 84, 111, 89, 88, 93, 94, 86, 91, 92, 85, 87, 90] H H := jEx.refl _ _ _
  refine J.run0 4 rfl ?_
  try dsimp only
  refine J.ins rfl rfl rfl rfl rfl rfl rfl rfl rfl (g_in (u := n) (a := (0 : Int)) (b := (15 : Int)) hT  (show -2147483648 ≤ (n) ∧ (n) ≤ 2147483647 from ⟨by omega, by omega⟩) (show -2147483648 ≤ ((0 : Int)) ∧ ((0 : Int)) ≤ 2147483647 from ⟨by omega, by omega⟩) (show -2147483648 ≤ ((15 : Int)) ∧ ((15 : Int)) ≤ 2147483647 from ⟨by omega, by omega⟩)) ?_
  rintro v w H ⟨rfl, rfl, x1, rfl, r2⟩
  have r2' : (x1 = 0 ∨ x1 = 1) ∧ (x1 = 1 → (n) ≥ ((0 : Int)) ∧ (n) ≤ ((15 : Int))) ∧ (x1 = 0 → (n) < ((0 : Int)) ∨ ((15 : Int)) < (n)) := r2
  have rL_in := r2'
  try dsimp only [Option.toList, List.append, List.cons_append, List.nil_append]
  refine J.ifc rfl rfl rfl (show -2147483648 ≤ x1 ∧ x1 ≤ 2147483647 from ⟨by omega, by omega⟩) (fun hc => ?_) (fun hc => ?_)
  · have c3 : x1 = (0 : Int) := hc
    clear hc
    refine J.run0 2 rfl ?_
    try dsimp only
    refine J.gn fun H4 hH4 => ?_
    have hT5 : gT H4 := by rw [hH4]; exact gT.num (f := 47) hT (show 0 ≤ (1 : Int) ∧ (1 : Int) ≤ 3 from ⟨by omega, by omega⟩) (by decide) (fun z => absurd z (by decide))
    have hE6 : jEx [19, 12, 48, 56, 57, 47] [60, 56, 59, 58, 55, 57, 61, 99, 100, 77, 78, 82, 80, 114, 115, 81, 105, 71, 70, 72, 75, 76, 68, 67, 65, 63, 64, 66, 112, 113, 108, 110, 101, 102, 103, 104, 83, 73, 74, 84, 111, 89, 88, 93, 94, 86, 91, 92, 85, 87, 90] H4 H := by rw [hH4]; exact jEx.num hE (by decide)
    have k7 : gP H4 := by rw [hH4]; exact k0gP
    have k8 : gX H4 := by rw [hH4]; exact k0gX
    have k9 : gL H4 := by rw [hH4]; exact k0gL
    have k10 : gZ H4 := by rw [hH4]; exact k0gZ
    have k11 : gQ H4 := by rw [hH4]; exact k0gQ
    have k12 : gB H4 := by rw [hH4]; exact k0gB
    have k13 : gK H4 := by rw [hH4]; exact k0gK
    have k14 : gN H4 := by rw [hH4]; exact k0gN
    have k15 : gW H4 (H4.1 11 19 0) := by rw [hH4]; exact k0gW
    have g16 : H4.1 11 47 0 = (1 : Int) := by subst hH4; rfl
    have g17 : H4.1 11 12 0 = H.1 11 12 0 := by subst hH4; rfl
    have g18 : H4.1 11 19 0 = H.1 11 19 0 := by subst hH4; rfl
    have g19 : H4.2.2.1 80 0 (n) = H.2.2.1 80 0 (n) := by subst hH4; rfl
    clear hH4
    have f20 : 0 ≤ H4.1 11 47 0 ∧ H4.1 11 47 0 ≤ 3 := hT5.2.1 47
    refine J.run0 2 rfl ?_
    try dsimp only
    refine J.ifc rfl rfl rfl (show -2147483648 ≤ H4.1 11 47 0 ∧ H4.1 11 47 0 ≤ 2147483647 from ⟨by omega, by omega⟩) (fun hc => ?_) (fun hc => ?_)
    · have c21 : H4.1 11 47 0 ≤ (0 : Int) := hc
      clear hc
      have f22 : 0 ≤ H4.2.2.1 79 0 (n) ∧ H4.2.2.1 79 0 (n) ≤ 1 := hT5.1 79 (n)
      refine J.run 4 rfl (show 0 ≤ n ∧ n < 16 from ⟨by omega, by omega⟩) ?_
      try dsimp only
      refine J.ifc rfl rfl rfl (show -2147483648 ≤ H4.2.2.1 79 0 (n) ∧ H4.2.2.1 79 0 (n) ≤ 2147483647 from ⟨by omega, by omega⟩) (fun hc => ?_) (fun hc => ?_)
      · have c23 : ¬ (H4.2.2.1 79 0 (n) = (0 : Int)) := hc
        clear hc
        refine J.run0 2 rfl ?_
        try dsimp only
        refine J.inv rfl rfl rfl rfl rfl rfl jDr rfl rfl rfl rfl rfl (g_heightE (n := n) hT5  (show 0 ≤ (n) ∧ (n) < 16 from ⟨by omega, by omega⟩)) ?_
        rintro v w H4 ⟨rfl, rfl, x24, rfl, r25⟩
        have r25' : x24 = H4.2.2.1 56 0 (H4.2.2.1 72 0 ((n))) + 1 ∧ 1 ≤ x24 ∧ x24 ≤ 301 := r25
        have rL_heightE := r25'
        try dsimp only [Option.toList, List.append, List.cons_append, List.nil_append]
        exact J.reti rfl rfl rfl ⟨_, rfl, rfl, hT5, hE6, k7, k8, k9, k10, k11, k12, k13, k14, k15, _, rfl, (show 0 ≤ (x24) ∧ (x24) ≤ 301 from ⟨by omega, by omega⟩)⟩
      · have c26 : ¬ (¬ (H4.2.2.1 79 0 (n) = (0 : Int))) := hc
        clear hc
        have f27 : 0 ≤ H4.2.2.1 80 0 (n) ∧ H4.2.2.1 80 0 (n) ≤ 1 := hT5.1 80 (n)
        refine J.run 4 rfl (show 0 ≤ n ∧ n < 16 from ⟨by omega, by omega⟩) ?_
        try dsimp only
        refine J.ifc rfl rfl rfl (show -2147483648 ≤ H4.2.2.1 80 0 (n) ∧ H4.2.2.1 80 0 (n) ≤ 2147483647 from ⟨by omega, by omega⟩) (fun hc => ?_) (fun hc => ?_)
        · have c28 : ¬ (H4.2.2.1 80 0 (n) = (0 : Int)) := hc
          clear hc
          refine J.run0 2 rfl ?_
          try dsimp only
          refine J.inv rfl rfl rfl rfl rfl rfl jDr rfl rfl rfl rfl rfl (g_heightE (n := n) hT5  (show 0 ≤ (n) ∧ (n) < 16 from ⟨by omega, by omega⟩)) ?_
          rintro v w H4 ⟨rfl, rfl, x29, rfl, r30⟩
          have r30' : x29 = H4.2.2.1 56 0 (H4.2.2.1 72 0 ((n))) + 1 ∧ 1 ≤ x29 ∧ x29 ≤ 301 := r30
          have rL_heightE := r30'
          try dsimp only [Option.toList, List.append, List.cons_append, List.nil_append]
          exact J.reti rfl rfl rfl ⟨_, rfl, rfl, hT5, hE6, k7, k8, k9, k10, k11, k12, k13, k14, k15, _, rfl, (show 0 ≤ (x29) ∧ (x29) ≤ 301 from ⟨by omega, by omega⟩)⟩
        · have c31 : ¬ (¬ (H4.2.2.1 80 0 (n) = (0 : Int))) := hc
          clear hc
          refine J.run0 3 rfl ?_
          try dsimp only
          have f32 : 1 ≤ H4.1 11 12 0 ∧ H4.1 11 12 0 ≤ 300 := hT5.2.1 12
          refine J.inv rfl rfl rfl rfl rfl rfl jDr rfl rfl rfl rfl rfl (g_isGood (n := n) (b := b) hT5 k7 k8 k9 k10 (show 0 ≤ (n) ∧ (n) < 16 from ⟨by omega, by omega⟩) (show 0 ≤ (b) ∧ (b) < 300 from ⟨by omega, by omega⟩) (show (b) < H4.1 11 12 0 from by omega)) ?_
          rintro v w H35 ⟨rfl, hT36, ehE37, k38, k39, k40, k41, x33, rfl, r34⟩
          have hE37 := jEx.trans ehE37 hE6 (by decide) (by decide)
          have r34' : 0 ≤ x33 ∧ x33 ≤ 1 ∧ (x33 = 1 → H35.2.2.1 55 0 ((b)) = H35.2.2.1 72 0 ((n))) := r34
          have k42 : gQ H35 := gQ.ex k11 ehE37 (by decide)
          have k43 : gB H35 := gB.ex k12 ehE37 (by decide)
          have k44 : gK H35 := gK.ex k13 ehE37 (by decide)
          have k45 : gN H35 := gN.ex k14 ehE37 (by decide)
          have k46 : gW H35 (H35.1 11 19 0) := gWm.ex k15 ehE37 (by decide)
          have g47 : H35.1 11 12 0 = H4.1 11 12 0 := ehE37.v 12 (by decide)
          have g48 : H35.1 11 19 0 = H4.1 11 19 0 := ehE37.v 19 (by decide)
          have g49 : H35.2.2.1 80 0 (n) = H4.2.2.1 80 0 (n) := congrFun (ehE37.r 80 (by decide)) _
          have g50 : H35.2.2.1 79 0 (n) = H4.2.2.1 79 0 (n) := congrFun (ehE37.r 79 (by decide)) _
          have rL_isGood := r34'
          have eL_isGood := ehE37
          try dsimp only [Option.toList, List.append, List.cons_append, List.nil_append]
          refine J.ifc rfl rfl rfl (show -2147483648 ≤ x33 ∧ x33 ≤ 2147483647 from ⟨by omega, by omega⟩) (fun hc => ?_) (fun hc => ?_)
          · have c51 : x33 = (0 : Int) := hc
            clear hc
            refine J.run0 2 rfl ?_
            try dsimp only
            refine J.inv rfl rfl rfl rfl rfl rfl jDr rfl rfl rfl rfl rfl (g_heightE (n := n) hT36  (show 0 ≤ (n) ∧ (n) < 16 from ⟨by omega, by omega⟩)) ?_
            rintro v w H35 ⟨rfl, rfl, x52, rfl, r53⟩
            have r53' : x52 = H35.2.2.1 56 0 (H35.2.2.1 72 0 ((n))) + 1 ∧ 1 ≤ x52 ∧ x52 ≤ 301 := r53
            have rL_heightE := r53'
            try dsimp only [Option.toList, List.append, List.cons_append, List.nil_append]
            exact J.reti rfl rfl rfl ⟨_, rfl, rfl, hT36, hE37, k38, k39, k40, k41, k42, k43, k44, k45, k46, _, rfl, (show 0 ≤ (x52) ∧ (x52) ≤ 301 from ⟨by omega, by omega⟩)⟩
          · have c54 : ¬ (x33 = (0 : Int)) := hc
            clear hc
            refine J.run0 3 rfl ?_
            try dsimp only
            refine J.inv rfl rfl rfl rfl rfl rfl jDr rfl rfl rfl rfl rfl (g_isCertain (n := n) (b := b) hT36  (show 0 ≤ (n) ∧ (n) < 16 from ⟨by omega, by omega⟩) (show 0 ≤ (b) ∧ (b) < 300 from ⟨by omega, by omega⟩)) ?_
            rintro v w H57 ⟨rfl, hT58, ehE59, x55, rfl, r56⟩
            have hE59 := jEx.trans ehE59 hE37 (by decide) (by decide)
            have r56' : 0 ≤ x55 ∧ x55 ≤ 1 := r56
            have k60 : gP H57 := gP.ex k38 ehE59 (by decide)
            have k61 : gX H57 := gX.ex k39 ehE59 (by decide)
            have k62 : gL H57 := gL.ex k40 ehE59 (by decide)
            have k63 : gZ H57 := gZ.ex k41 ehE59 (by decide)
            have k64 : gQ H57 := gQ.ex k42 ehE59 (by decide)
            have k65 : gB H57 := gB.ex k43 ehE59 (by decide)
            have k66 : gK H57 := gK.ex k44 ehE59 (by decide)
            have k67 : gN H57 := gN.ex k45 ehE59 (by decide)
            have k68 : gW H57 (H57.1 11 19 0) := gWm.ex k46 ehE59 (by decide)
            have g69 : H57.1 11 12 0 = H35.1 11 12 0 := ehE59.v 12 (by decide)
            have g70 : H57.1 11 19 0 = H35.1 11 19 0 := ehE59.v 19 (by decide)
            have g71 : H57.2.2.1 80 0 (n) = H35.2.2.1 80 0 (n) := congrFun (ehE59.r 80 (by decide)) _
            have g72 : H57.2.2.1 79 0 (n) = H35.2.2.1 79 0 (n) := congrFun (ehE59.r 79 (by decide)) _
            have g73 : H57.2.2.1 55 0 (b) = H35.2.2.1 55 0 (b) := congrFun (ehE59.r 55 (by decide)) _
            have g74 : H57.2.2.1 72 0 (n) = H35.2.2.1 72 0 (n) := congrFun (ehE59.r 72 (by decide)) _
            have rL_isCertain := r56'
            have eL_isCertain := ehE59
            try dsimp only [Option.toList, List.append, List.cons_append, List.nil_append]
            refine J.ifc rfl rfl rfl (show -2147483648 ≤ x55 ∧ x55 ≤ 2147483647 from ⟨by omega, by omega⟩) (fun hc => ?_) (fun hc => ?_)
            · have c75 : x55 = (0 : Int) := hc
              clear hc
              refine J.run0 2 rfl ?_
              try dsimp only
              refine J.inv rfl rfl rfl rfl rfl rfl jDr rfl rfl rfl rfl rfl (g_heightE (n := n) hT58  (show 0 ≤ (n) ∧ (n) < 16 from ⟨by omega, by omega⟩)) ?_
              rintro v w H57 ⟨rfl, rfl, x76, rfl, r77⟩
              have r77' : x76 = H57.2.2.1 56 0 (H57.2.2.1 72 0 ((n))) + 1 ∧ 1 ≤ x76 ∧ x76 ≤ 301 := r77
              have rL_heightE := r77'
              try dsimp only [Option.toList, List.append, List.cons_append, List.nil_append]
              exact J.reti rfl rfl rfl ⟨_, rfl, rfl, hT58, hE59, k60, k61, k62, k63, k64, k65, k66, k67, k68, _, rfl, (show 0 ≤ (x76) ∧ (x76) ≤ 301 from ⟨by omega, by omega⟩)⟩
            · have c78 : ¬ (x55 = (0 : Int)) := hc
              clear hc
              refine J.run0 3 rfl ?_
              try dsimp only
              have f79 : 1 ≤ H57.1 11 12 0 ∧ H57.1 11 12 0 ≤ 300 := hT58.2.1 12
              refine J.inv rfl rfl rfl rfl rfl rfl jDr rfl rfl rfl rfl rfl (g_decided (n := n) (b := b) (u := 16) hT58 k60 k61 k62 k63 k64 k65 k66 k67 k68 gU.triv (show 0 ≤ (n) ∧ (n) < 16 from ⟨by omega, by omega⟩) (show 0 ≤ (b) ∧ (b) < 300 from ⟨by omega, by omega⟩) (show (b) < H57.1 11 12 0 from by omega) (show H57.2.2.1 80 0 ((n)) = 0 from by omega) (show (n) < (16) from by omega)) ?_
              rintro v w H82 ⟨rfl, hT83, ehE84, k85, k86, k87, k88, k89, k90, k91, k92, k93, k94, p95, p96, rfl⟩
              have hE84 := jEx.trans ehE84 hE59 (by decide) (by decide)
              have p95' : 192 * H57.2.2.1 56 0 ((b)) ≤ 192 * H82.2.2.1 56 0 (H82.2.2.1 72 0 ((n))) + 6 * H82.2.2.1 73 0 ((n)) + 2 * H82.2.2.1 74 0 ((n)) + H82.2.2.1 115 0 ((n)) := p95
              have p96' : H57.1 11 19 0 ≤ H82.1 11 19 0 := p96
              have pL_decided_0 := p95'
              have pL_decided_1 := p96'
              have g97 : H82.2.2.1 79 0 (n) = H57.2.2.1 79 0 (n) := congrFun (ehE84.r 79 (by decide)) _
              have eL_decided := ehE84
              try dsimp only [Option.toList, List.append, List.cons_append, List.nil_append]
              refine J.run0 2 rfl ?_
              try dsimp only
              refine J.inv rfl rfl rfl rfl rfl rfl jDr rfl rfl rfl rfl rfl (g_act (n := n) (u := 16) hT83 k85 k86 k87 k88 k89 k90 k91 k92 k93 gU.triv (show 0 ≤ (n) ∧ (n) < 16 from ⟨by omega, by omega⟩) (show (n) < (16) from by omega)) ?_
              rintro v w H100 ⟨rfl, hT101, ehE102, k103, k104, k105, k106, k107, k108, k109, k110, k111, k112, p113, rfl⟩
              have hE102 := jEx.trans ehE102 hE84 (by decide) (by decide)
              have p113' : H82.1 11 19 0 ≤ H100.1 11 19 0 := p113
              have pL_act_0 := p113'
              have g114 : H100.2.2.1 79 0 (n) = H82.2.2.1 79 0 (n) := congrFun (ehE102.r 79 (by decide)) _
              have eL_act := ehE102
              try dsimp only [Option.toList, List.append, List.cons_append, List.nil_append]
              refine J.run0 2 rfl ?_
              try dsimp only
              refine J.inv rfl rfl rfl rfl rfl rfl jDr rfl rfl rfl rfl rfl (g_heightE (n := n) hT101  (show 0 ≤ (n) ∧ (n) < 16 from ⟨by omega, by omega⟩)) ?_
              rintro v w H100 ⟨rfl, rfl, x115, rfl, r116⟩
              have r116' : x115 = H100.2.2.1 56 0 (H100.2.2.1 72 0 ((n))) + 1 ∧ 1 ≤ x115 ∧ x115 ≤ 301 := r116
              have rL_heightE := r116'
              try dsimp only [Option.toList, List.append, List.cons_append, List.nil_append]
              exact J.reti rfl rfl rfl ⟨_, rfl, rfl, hT101, hE102, k103, k104, k105, k106, k107, k108, k109, k110, k111, _, rfl, (show 0 ≤ (x115) ∧ (x115) ≤ 301 from ⟨by omega, by omega⟩)⟩
    · have c117 : ¬ (H4.1 11 47 0 ≤ (0 : Int)) := hc
      clear hc
      refine J.run0 1 rfl ?_
      try dsimp only
      exact J.reti rfl rfl rfl ⟨_, rfl, rfl, hT5, hE6, k7, k8, k9, k10, k11, k12, k13, k14, k15, _, rfl, (show 0 ≤ ((0 : Int)) ∧ ((0 : Int)) ≤ 301 from ⟨by omega, by omega⟩)⟩
  · have c118 : ¬ (x1 = (0 : Int)) := hc
    clear hc
    have f119 : 1 ≤ H.1 11 12 0 ∧ H.1 11 12 0 ≤ 300 := hT.2.1 12
    refine J.run0 6 rfl ?_
    try dsimp only
    refine J.ins rfl rfl rfl rfl rfl rfl rfl rfl rfl (g_in (u := b) (a := (0 : Int)) (b := (H.1 11 12 0) - (1 : Int)) hT  (show -2147483648 ≤ (b) ∧ (b) ≤ 2147483647 from ⟨by omega, by omega⟩) (show -2147483648 ≤ ((0 : Int)) ∧ ((0 : Int)) ≤ 2147483647 from ⟨by omega, by omega⟩) (show -2147483648 ≤ ((H.1 11 12 0) - (1 : Int)) ∧ ((H.1 11 12 0) - (1 : Int)) ≤ 2147483647 from ⟨by omega, by omega⟩)) ?_
    rintro v w H ⟨rfl, rfl, x120, rfl, r121⟩
    have r121' : (x120 = 0 ∨ x120 = 1) ∧ (x120 = 1 → (b) ≥ ((0 : Int)) ∧ (b) ≤ ((H.1 11 12 0) - (1 : Int))) ∧ (x120 = 0 → (b) < ((0 : Int)) ∨ ((H.1 11 12 0) - (1 : Int)) < (b)) := r121
    have rL_in := r121'
    try dsimp only [Option.toList, List.append, List.cons_append, List.nil_append]
    refine J.ifc rfl rfl rfl (show -2147483648 ≤ x120 ∧ x120 ≤ 2147483647 from ⟨by omega, by omega⟩) (fun hc => ?_) (fun hc => ?_)
    · have c122 : x120 = (0 : Int) := hc
      clear hc
      refine J.run0 2 rfl ?_
      try dsimp only
      refine J.gn fun H123 hH123 => ?_
      have hT124 : gT H123 := by rw [hH123]; exact gT.num (f := 47) hT (show 0 ≤ (1 : Int) ∧ (1 : Int) ≤ 3 from ⟨by omega, by omega⟩) (by decide) (fun z => absurd z (by decide))
      have hE125 : jEx [19, 12, 48, 56, 57, 47] [60, 56, 59, 58, 55, 57, 61, 99, 100, 77, 78, 82, 80, 114, 115, 81, 105, 71, 70, 72, 75, 76, 68, 67, 65, 63, 64, 66, 112, 113, 108, 110, 101, 102, 103, 104, 83, 73, 74, 84, 111, 89, 88, 93, 94, 86, 91, 92, 85, 87, 90] H123 H := by rw [hH123]; exact jEx.num hE (by decide)
      have k126 : gP H123 := by rw [hH123]; exact k0gP
      have k127 : gX H123 := by rw [hH123]; exact k0gX
      have k128 : gL H123 := by rw [hH123]; exact k0gL
      have k129 : gZ H123 := by rw [hH123]; exact k0gZ
      have k130 : gQ H123 := by rw [hH123]; exact k0gQ
      have k131 : gB H123 := by rw [hH123]; exact k0gB
      have k132 : gK H123 := by rw [hH123]; exact k0gK
      have k133 : gN H123 := by rw [hH123]; exact k0gN
      have k134 : gW H123 (H123.1 11 19 0) := by rw [hH123]; exact k0gW
      have g135 : H123.1 11 47 0 = (1 : Int) := by subst hH123; rfl
      have g136 : H123.1 11 12 0 = H.1 11 12 0 := by subst hH123; rfl
      have g137 : H123.1 11 19 0 = H.1 11 19 0 := by subst hH123; rfl
      have g138 : H123.2.2.1 80 0 (n) = H.2.2.1 80 0 (n) := by subst hH123; rfl
      clear hH123
      have f139 : 0 ≤ H123.1 11 47 0 ∧ H123.1 11 47 0 ≤ 3 := hT124.2.1 47
      refine J.run0 2 rfl ?_
      try dsimp only
      refine J.ifc rfl rfl rfl (show -2147483648 ≤ H123.1 11 47 0 ∧ H123.1 11 47 0 ≤ 2147483647 from ⟨by omega, by omega⟩) (fun hc => ?_) (fun hc => ?_)
      · have c140 : H123.1 11 47 0 ≤ (0 : Int) := hc
        clear hc
        have f141 : 0 ≤ H123.2.2.1 79 0 (n) ∧ H123.2.2.1 79 0 (n) ≤ 1 := hT124.1 79 (n)
        refine J.run 4 rfl (show 0 ≤ n ∧ n < 16 from ⟨by omega, by omega⟩) ?_
        try dsimp only
        refine J.ifc rfl rfl rfl (show -2147483648 ≤ H123.2.2.1 79 0 (n) ∧ H123.2.2.1 79 0 (n) ≤ 2147483647 from ⟨by omega, by omega⟩) (fun hc => ?_) (fun hc => ?_)
        · have c142 : ¬ (H123.2.2.1 79 0 (n) = (0 : Int)) := hc
          clear hc
          refine J.run0 2 rfl ?_
          try dsimp only
          refine J.inv rfl rfl rfl rfl rfl rfl jDr rfl rfl rfl rfl rfl (g_heightE (n := n) hT124  (show 0 ≤ (n) ∧ (n) < 16 from ⟨by omega, by omega⟩)) ?_
          rintro v w H123 ⟨rfl, rfl, x143, rfl, r144⟩
          have r144' : x143 = H123.2.2.1 56 0 (H123.2.2.1 72 0 ((n))) + 1 ∧ 1 ≤ x143 ∧ x143 ≤ 301 := r144
          have rL_heightE := r144'
          try dsimp only [Option.toList, List.append, List.cons_append, List.nil_append]
          exact J.reti rfl rfl rfl ⟨_, rfl, rfl, hT124, hE125, k126, k127, k128, k129, k130, k131, k132, k133, k134, _, rfl, (show 0 ≤ (x143) ∧ (x143) ≤ 301 from ⟨by omega, by omega⟩)⟩
        · have c145 : ¬ (¬ (H123.2.2.1 79 0 (n) = (0 : Int))) := hc
          clear hc
          have f146 : 0 ≤ H123.2.2.1 80 0 (n) ∧ H123.2.2.1 80 0 (n) ≤ 1 := hT124.1 80 (n)
          refine J.run 4 rfl (show 0 ≤ n ∧ n < 16 from ⟨by omega, by omega⟩) ?_
          try dsimp only
          refine J.ifc rfl rfl rfl (show -2147483648 ≤ H123.2.2.1 80 0 (n) ∧ H123.2.2.1 80 0 (n) ≤ 2147483647 from ⟨by omega, by omega⟩) (fun hc => ?_) (fun hc => ?_)
          · have c147 : ¬ (H123.2.2.1 80 0 (n) = (0 : Int)) := hc
            clear hc
            refine J.run0 2 rfl ?_
            try dsimp only
            refine J.inv rfl rfl rfl rfl rfl rfl jDr rfl rfl rfl rfl rfl (g_heightE (n := n) hT124  (show 0 ≤ (n) ∧ (n) < 16 from ⟨by omega, by omega⟩)) ?_
            rintro v w H123 ⟨rfl, rfl, x148, rfl, r149⟩
            have r149' : x148 = H123.2.2.1 56 0 (H123.2.2.1 72 0 ((n))) + 1 ∧ 1 ≤ x148 ∧ x148 ≤ 301 := r149
            have rL_heightE := r149'
            try dsimp only [Option.toList, List.append, List.cons_append, List.nil_append]
            exact J.reti rfl rfl rfl ⟨_, rfl, rfl, hT124, hE125, k126, k127, k128, k129, k130, k131, k132, k133, k134, _, rfl, (show 0 ≤ (x148) ∧ (x148) ≤ 301 from ⟨by omega, by omega⟩)⟩
          · have c150 : ¬ (¬ (H123.2.2.1 80 0 (n) = (0 : Int))) := hc
            clear hc
            refine J.run0 3 rfl ?_
            try dsimp only
            have f151 : 1 ≤ H123.1 11 12 0 ∧ H123.1 11 12 0 ≤ 300 := hT124.2.1 12
            refine J.inv rfl rfl rfl rfl rfl rfl jDr rfl rfl rfl rfl rfl (g_isGood (n := n) (b := b) hT124 k126 k127 k128 k129 (show 0 ≤ (n) ∧ (n) < 16 from ⟨by omega, by omega⟩) (show 0 ≤ (b) ∧ (b) < 300 from ⟨by omega, by omega⟩) (show (b) < H123.1 11 12 0 from by omega)) ?_
            rintro v w H154 ⟨rfl, hT155, ehE156, k157, k158, k159, k160, x152, rfl, r153⟩
            have hE156 := jEx.trans ehE156 hE125 (by decide) (by decide)
            have r153' : 0 ≤ x152 ∧ x152 ≤ 1 ∧ (x152 = 1 → H154.2.2.1 55 0 ((b)) = H154.2.2.1 72 0 ((n))) := r153
            have k161 : gQ H154 := gQ.ex k130 ehE156 (by decide)
            have k162 : gB H154 := gB.ex k131 ehE156 (by decide)
            have k163 : gK H154 := gK.ex k132 ehE156 (by decide)
            have k164 : gN H154 := gN.ex k133 ehE156 (by decide)
            have k165 : gW H154 (H154.1 11 19 0) := gWm.ex k134 ehE156 (by decide)
            have g166 : H154.1 11 12 0 = H123.1 11 12 0 := ehE156.v 12 (by decide)
            have g167 : H154.1 11 19 0 = H123.1 11 19 0 := ehE156.v 19 (by decide)
            have g168 : H154.2.2.1 80 0 (n) = H123.2.2.1 80 0 (n) := congrFun (ehE156.r 80 (by decide)) _
            have g169 : H154.2.2.1 79 0 (n) = H123.2.2.1 79 0 (n) := congrFun (ehE156.r 79 (by decide)) _
            have rL_isGood := r153'
            have eL_isGood := ehE156
            try dsimp only [Option.toList, List.append, List.cons_append, List.nil_append]
            refine J.ifc rfl rfl rfl (show -2147483648 ≤ x152 ∧ x152 ≤ 2147483647 from ⟨by omega, by omega⟩) (fun hc => ?_) (fun hc => ?_)
            · have c170 : x152 = (0 : Int) := hc
              clear hc
              refine J.run0 2 rfl ?_
              try dsimp only
              refine J.inv rfl rfl rfl rfl rfl rfl jDr rfl rfl rfl rfl rfl (g_heightE (n := n) hT155  (show 0 ≤ (n) ∧ (n) < 16 from ⟨by omega, by omega⟩)) ?_
              rintro v w H154 ⟨rfl, rfl, x171, rfl, r172⟩
              have r172' : x171 = H154.2.2.1 56 0 (H154.2.2.1 72 0 ((n))) + 1 ∧ 1 ≤ x171 ∧ x171 ≤ 301 := r172
              have rL_heightE := r172'
              try dsimp only [Option.toList, List.append, List.cons_append, List.nil_append]
              exact J.reti rfl rfl rfl ⟨_, rfl, rfl, hT155, hE156, k157, k158, k159, k160, k161, k162, k163, k164, k165, _, rfl, (show 0 ≤ (x171) ∧ (x171) ≤ 301 from ⟨by omega, by omega⟩)⟩
            · have c173 : ¬ (x152 = (0 : Int)) := hc
              clear hc
              refine J.run0 3 rfl ?_
              try dsimp only
              refine J.inv rfl rfl rfl rfl rfl rfl jDr rfl rfl rfl rfl rfl (g_isCertain (n := n) (b := b) hT155  (show 0 ≤ (n) ∧ (n) < 16 from ⟨by omega, by omega⟩) (show 0 ≤ (b) ∧ (b) < 300 from ⟨by omega, by omega⟩)) ?_
              rintro v w H176 ⟨rfl, hT177, ehE178, x174, rfl, r175⟩
              have hE178 := jEx.trans ehE178 hE156 (by decide) (by decide)
              have r175' : 0 ≤ x174 ∧ x174 ≤ 1 := r175
              have k179 : gP H176 := gP.ex k157 ehE178 (by decide)
              have k180 : gX H176 := gX.ex k158 ehE178 (by decide)
              have k181 : gL H176 := gL.ex k159 ehE178 (by decide)
              have k182 : gZ H176 := gZ.ex k160 ehE178 (by decide)
              have k183 : gQ H176 := gQ.ex k161 ehE178 (by decide)
              have k184 : gB H176 := gB.ex k162 ehE178 (by decide)
              have k185 : gK H176 := gK.ex k163 ehE178 (by decide)
              have k186 : gN H176 := gN.ex k164 ehE178 (by decide)
              have k187 : gW H176 (H176.1 11 19 0) := gWm.ex k165 ehE178 (by decide)
              have g188 : H176.1 11 12 0 = H154.1 11 12 0 := ehE178.v 12 (by decide)
              have g189 : H176.1 11 19 0 = H154.1 11 19 0 := ehE178.v 19 (by decide)
              have g190 : H176.2.2.1 80 0 (n) = H154.2.2.1 80 0 (n) := congrFun (ehE178.r 80 (by decide)) _
              have g191 : H176.2.2.1 79 0 (n) = H154.2.2.1 79 0 (n) := congrFun (ehE178.r 79 (by decide)) _
              have g192 : H176.2.2.1 55 0 (b) = H154.2.2.1 55 0 (b) := congrFun (ehE178.r 55 (by decide)) _
              have g193 : H176.2.2.1 72 0 (n) = H154.2.2.1 72 0 (n) := congrFun (ehE178.r 72 (by decide)) _
              have rL_isCertain := r175'
              have eL_isCertain := ehE178
              try dsimp only [Option.toList, List.append, List.cons_append, List.nil_append]
              refine J.ifc rfl rfl rfl (show -2147483648 ≤ x174 ∧ x174 ≤ 2147483647 from ⟨by omega, by omega⟩) (fun hc => ?_) (fun hc => ?_)
              · have c194 : x174 = (0 : Int) := hc
                clear hc
                refine J.run0 2 rfl ?_
                try dsimp only
                refine J.inv rfl rfl rfl rfl rfl rfl jDr rfl rfl rfl rfl rfl (g_heightE (n := n) hT177  (show 0 ≤ (n) ∧ (n) < 16 from ⟨by omega, by omega⟩)) ?_
                rintro v w H176 ⟨rfl, rfl, x195, rfl, r196⟩
                have r196' : x195 = H176.2.2.1 56 0 (H176.2.2.1 72 0 ((n))) + 1 ∧ 1 ≤ x195 ∧ x195 ≤ 301 := r196
                have rL_heightE := r196'
                try dsimp only [Option.toList, List.append, List.cons_append, List.nil_append]
                exact J.reti rfl rfl rfl ⟨_, rfl, rfl, hT177, hE178, k179, k180, k181, k182, k183, k184, k185, k186, k187, _, rfl, (show 0 ≤ (x195) ∧ (x195) ≤ 301 from ⟨by omega, by omega⟩)⟩
              · have c197 : ¬ (x174 = (0 : Int)) := hc
                clear hc
                refine J.run0 3 rfl ?_
                try dsimp only
                have f198 : 1 ≤ H176.1 11 12 0 ∧ H176.1 11 12 0 ≤ 300 := hT177.2.1 12
                refine J.inv rfl rfl rfl rfl rfl rfl jDr rfl rfl rfl rfl rfl (g_decided (n := n) (b := b) (u := 16) hT177 k179 k180 k181 k182 k183 k184 k185 k186 k187 gU.triv (show 0 ≤ (n) ∧ (n) < 16 from ⟨by omega, by omega⟩) (show 0 ≤ (b) ∧ (b) < 300 from ⟨by omega, by omega⟩) (show (b) < H176.1 11 12 0 from by omega) (show H176.2.2.1 80 0 ((n)) = 0 from by omega) (show (n) < (16) from by omega)) ?_
                rintro v w H201 ⟨rfl, hT202, ehE203, k204, k205, k206, k207, k208, k209, k210, k211, k212, k213, p214, p215, rfl⟩
                have hE203 := jEx.trans ehE203 hE178 (by decide) (by decide)
                have p214' : 192 * H176.2.2.1 56 0 ((b)) ≤ 192 * H201.2.2.1 56 0 (H201.2.2.1 72 0 ((n))) + 6 * H201.2.2.1 73 0 ((n)) + 2 * H201.2.2.1 74 0 ((n)) + H201.2.2.1 115 0 ((n)) := p214
                have p215' : H176.1 11 19 0 ≤ H201.1 11 19 0 := p215
                have pL_decided_0 := p214'
                have pL_decided_1 := p215'
                have g216 : H201.2.2.1 79 0 (n) = H176.2.2.1 79 0 (n) := congrFun (ehE203.r 79 (by decide)) _
                have eL_decided := ehE203
                try dsimp only [Option.toList, List.append, List.cons_append, List.nil_append]
                refine J.run0 2 rfl ?_
                try dsimp only
                refine J.inv rfl rfl rfl rfl rfl rfl jDr rfl rfl rfl rfl rfl (g_act (n := n) (u := 16) hT202 k204 k205 k206 k207 k208 k209 k210 k211 k212 gU.triv (show 0 ≤ (n) ∧ (n) < 16 from ⟨by omega, by omega⟩) (show (n) < (16) from by omega)) ?_
                rintro v w H219 ⟨rfl, hT220, ehE221, k222, k223, k224, k225, k226, k227, k228, k229, k230, k231, p232, rfl⟩
                have hE221 := jEx.trans ehE221 hE203 (by decide) (by decide)
                have p232' : H201.1 11 19 0 ≤ H219.1 11 19 0 := p232
                have pL_act_0 := p232'
                have g233 : H219.2.2.1 79 0 (n) = H201.2.2.1 79 0 (n) := congrFun (ehE221.r 79 (by decide)) _
                have eL_act := ehE221
                try dsimp only [Option.toList, List.append, List.cons_append, List.nil_append]
                refine J.run0 2 rfl ?_
                try dsimp only
                refine J.inv rfl rfl rfl rfl rfl rfl jDr rfl rfl rfl rfl rfl (g_heightE (n := n) hT220  (show 0 ≤ (n) ∧ (n) < 16 from ⟨by omega, by omega⟩)) ?_
                rintro v w H219 ⟨rfl, rfl, x234, rfl, r235⟩
                have r235' : x234 = H219.2.2.1 56 0 (H219.2.2.1 72 0 ((n))) + 1 ∧ 1 ≤ x234 ∧ x234 ≤ 301 := r235
                have rL_heightE := r235'
                try dsimp only [Option.toList, List.append, List.cons_append, List.nil_append]
                exact J.reti rfl rfl rfl ⟨_, rfl, rfl, hT220, hE221, k222, k223, k224, k225, k226, k227, k228, k229, k230, _, rfl, (show 0 ≤ (x234) ∧ (x234) ≤ 301 from ⟨by omega, by omega⟩)⟩
      · have c236 : ¬ (H123.1 11 47 0 ≤ (0 : Int)) := hc
        clear hc
        refine J.run0 1 rfl ?_
        try dsimp only
        exact J.reti rfl rfl rfl ⟨_, rfl, rfl, hT124, hE125, k126, k127, k128, k129, k130, k131, k132, k133, k134, _, rfl, (show 0 ≤ ((0 : Int)) ∧ ((0 : Int)) ≤ 301 from ⟨by omega, by omega⟩)⟩
    · have c237 : ¬ (x120 = (0 : Int)) := hc
      clear hc
      refine J.run0 3 rfl ?_
      try dsimp only
      refine J.gn fun H238 hH238 => ?_
      have hT239 : gT H238 := by rw [hH238]; exact gT.num (f := 47) hT (show 0 ≤ (0 : Int) ∧ (0 : Int) ≤ 3 from ⟨by omega, by omega⟩) (by decide) (fun z => absurd z (by decide))
      have hE240 : jEx [19, 12, 48, 56, 57, 47] [60, 56, 59, 58, 55, 57, 61, 99, 100, 77, 78, 82, 80, 114, 115, 81, 105, 71, 70, 72, 75, 76, 68, 67, 65, 63, 64, 66, 112, 113, 108, 110, 101, 102, 103, 104, 83, 73, 74, 84, 111, 89, 88, 93, 94, 86, 91, 92, 85, 87, 90] H238 H := by rw [hH238]; exact jEx.num hE (by decide)
      have k241 : gP H238 := by rw [hH238]; exact k0gP
      have k242 : gX H238 := by rw [hH238]; exact k0gX
      have k243 : gL H238 := by rw [hH238]; exact k0gL
      have k244 : gZ H238 := by rw [hH238]; exact k0gZ
      have k245 : gQ H238 := by rw [hH238]; exact k0gQ
      have k246 : gB H238 := by rw [hH238]; exact k0gB
      have k247 : gK H238 := by rw [hH238]; exact k0gK
      have k248 : gN H238 := by rw [hH238]; exact k0gN
      have k249 : gW H238 (H238.1 11 19 0) := by rw [hH238]; exact k0gW
      have g250 : H238.1 11 47 0 = (0 : Int) := by subst hH238; rfl
      have g251 : H238.1 11 12 0 = H.1 11 12 0 := by subst hH238; rfl
      have g252 : H238.1 11 19 0 = H.1 11 19 0 := by subst hH238; rfl
      have g253 : H238.2.2.1 80 0 (n) = H.2.2.1 80 0 (n) := by subst hH238; rfl
      clear hH238
      have f254 : 0 ≤ H238.1 11 47 0 ∧ H238.1 11 47 0 ≤ 3 := hT239.2.1 47
      refine J.run0 2 rfl ?_
      try dsimp only
      refine J.ifc rfl rfl rfl (show -2147483648 ≤ H238.1 11 47 0 ∧ H238.1 11 47 0 ≤ 2147483647 from ⟨by omega, by omega⟩) (fun hc => ?_) (fun hc => ?_)
      · have c255 : H238.1 11 47 0 ≤ (0 : Int) := hc
        clear hc
        have f256 : 0 ≤ H238.2.2.1 79 0 (n) ∧ H238.2.2.1 79 0 (n) ≤ 1 := hT239.1 79 (n)
        refine J.run 4 rfl (show 0 ≤ n ∧ n < 16 from ⟨by omega, by omega⟩) ?_
        try dsimp only
        refine J.ifc rfl rfl rfl (show -2147483648 ≤ H238.2.2.1 79 0 (n) ∧ H238.2.2.1 79 0 (n) ≤ 2147483647 from ⟨by omega, by omega⟩) (fun hc => ?_) (fun hc => ?_)
        · have c257 : ¬ (H238.2.2.1 79 0 (n) = (0 : Int)) := hc
          clear hc
          refine J.run0 2 rfl ?_
          try dsimp only
          refine J.inv rfl rfl rfl rfl rfl rfl jDr rfl rfl rfl rfl rfl (g_heightE (n := n) hT239  (show 0 ≤ (n) ∧ (n) < 16 from ⟨by omega, by omega⟩)) ?_
          rintro v w H238 ⟨rfl, rfl, x258, rfl, r259⟩
          have r259' : x258 = H238.2.2.1 56 0 (H238.2.2.1 72 0 ((n))) + 1 ∧ 1 ≤ x258 ∧ x258 ≤ 301 := r259
          have rL_heightE := r259'
          try dsimp only [Option.toList, List.append, List.cons_append, List.nil_append]
          exact J.reti rfl rfl rfl ⟨_, rfl, rfl, hT239, hE240, k241, k242, k243, k244, k245, k246, k247, k248, k249, _, rfl, (show 0 ≤ (x258) ∧ (x258) ≤ 301 from ⟨by omega, by omega⟩)⟩
        · have c260 : ¬ (¬ (H238.2.2.1 79 0 (n) = (0 : Int))) := hc
          clear hc
          have f261 : 0 ≤ H238.2.2.1 80 0 (n) ∧ H238.2.2.1 80 0 (n) ≤ 1 := hT239.1 80 (n)
          refine J.run 4 rfl (show 0 ≤ n ∧ n < 16 from ⟨by omega, by omega⟩) ?_
          try dsimp only
          refine J.ifc rfl rfl rfl (show -2147483648 ≤ H238.2.2.1 80 0 (n) ∧ H238.2.2.1 80 0 (n) ≤ 2147483647 from ⟨by omega, by omega⟩) (fun hc => ?_) (fun hc => ?_)
          · have c262 : ¬ (H238.2.2.1 80 0 (n) = (0 : Int)) := hc
            clear hc
            refine J.run0 2 rfl ?_
            try dsimp only
            refine J.inv rfl rfl rfl rfl rfl rfl jDr rfl rfl rfl rfl rfl (g_heightE (n := n) hT239  (show 0 ≤ (n) ∧ (n) < 16 from ⟨by omega, by omega⟩)) ?_
            rintro v w H238 ⟨rfl, rfl, x263, rfl, r264⟩
            have r264' : x263 = H238.2.2.1 56 0 (H238.2.2.1 72 0 ((n))) + 1 ∧ 1 ≤ x263 ∧ x263 ≤ 301 := r264
            have rL_heightE := r264'
            try dsimp only [Option.toList, List.append, List.cons_append, List.nil_append]
            exact J.reti rfl rfl rfl ⟨_, rfl, rfl, hT239, hE240, k241, k242, k243, k244, k245, k246, k247, k248, k249, _, rfl, (show 0 ≤ (x263) ∧ (x263) ≤ 301 from ⟨by omega, by omega⟩)⟩
          · have c265 : ¬ (¬ (H238.2.2.1 80 0 (n) = (0 : Int))) := hc
            clear hc
            refine J.run0 3 rfl ?_
            try dsimp only
            have f266 : 1 ≤ H238.1 11 12 0 ∧ H238.1 11 12 0 ≤ 300 := hT239.2.1 12
            refine J.inv rfl rfl rfl rfl rfl rfl jDr rfl rfl rfl rfl rfl (g_isGood (n := n) (b := b) hT239 k241 k242 k243 k244 (show 0 ≤ (n) ∧ (n) < 16 from ⟨by omega, by omega⟩) (show 0 ≤ (b) ∧ (b) < 300 from ⟨by omega, by omega⟩) (show (b) < H238.1 11 12 0 from by omega)) ?_
            rintro v w H269 ⟨rfl, hT270, ehE271, k272, k273, k274, k275, x267, rfl, r268⟩
            have hE271 := jEx.trans ehE271 hE240 (by decide) (by decide)
            have r268' : 0 ≤ x267 ∧ x267 ≤ 1 ∧ (x267 = 1 → H269.2.2.1 55 0 ((b)) = H269.2.2.1 72 0 ((n))) := r268
            have k276 : gQ H269 := gQ.ex k245 ehE271 (by decide)
            have k277 : gB H269 := gB.ex k246 ehE271 (by decide)
            have k278 : gK H269 := gK.ex k247 ehE271 (by decide)
            have k279 : gN H269 := gN.ex k248 ehE271 (by decide)
            have k280 : gW H269 (H269.1 11 19 0) := gWm.ex k249 ehE271 (by decide)
            have g281 : H269.1 11 12 0 = H238.1 11 12 0 := ehE271.v 12 (by decide)
            have g282 : H269.1 11 19 0 = H238.1 11 19 0 := ehE271.v 19 (by decide)
            have g283 : H269.2.2.1 80 0 (n) = H238.2.2.1 80 0 (n) := congrFun (ehE271.r 80 (by decide)) _
            have g284 : H269.2.2.1 79 0 (n) = H238.2.2.1 79 0 (n) := congrFun (ehE271.r 79 (by decide)) _
            have rL_isGood := r268'
            have eL_isGood := ehE271
            try dsimp only [Option.toList, List.append, List.cons_append, List.nil_append]
            refine J.ifc rfl rfl rfl (show -2147483648 ≤ x267 ∧ x267 ≤ 2147483647 from ⟨by omega, by omega⟩) (fun hc => ?_) (fun hc => ?_)
            · have c285 : x267 = (0 : Int) := hc
              clear hc
              refine J.run0 2 rfl ?_
              try dsimp only
              refine J.inv rfl rfl rfl rfl rfl rfl jDr rfl rfl rfl rfl rfl (g_heightE (n := n) hT270  (show 0 ≤ (n) ∧ (n) < 16 from ⟨by omega, by omega⟩)) ?_
              rintro v w H269 ⟨rfl, rfl, x286, rfl, r287⟩
              have r287' : x286 = H269.2.2.1 56 0 (H269.2.2.1 72 0 ((n))) + 1 ∧ 1 ≤ x286 ∧ x286 ≤ 301 := r287
              have rL_heightE := r287'
              try dsimp only [Option.toList, List.append, List.cons_append, List.nil_append]
              exact J.reti rfl rfl rfl ⟨_, rfl, rfl, hT270, hE271, k272, k273, k274, k275, k276, k277, k278, k279, k280, _, rfl, (show 0 ≤ (x286) ∧ (x286) ≤ 301 from ⟨by omega, by omega⟩)⟩
            · have c288 : ¬ (x267 = (0 : Int)) := hc
              clear hc
              refine J.run0 3 rfl ?_
              try dsimp only
              refine J.inv rfl rfl rfl rfl rfl rfl jDr rfl rfl rfl rfl rfl (g_isCertain (n := n) (b := b) hT270  (show 0 ≤ (n) ∧ (n) < 16 from ⟨by omega, by omega⟩) (show 0 ≤ (b) ∧ (b) < 300 from ⟨by omega, by omega⟩)) ?_
              rintro v w H291 ⟨rfl, hT292, ehE293, x289, rfl, r290⟩
              have hE293 := jEx.trans ehE293 hE271 (by decide) (by decide)
              have r290' : 0 ≤ x289 ∧ x289 ≤ 1 := r290
              have k294 : gP H291 := gP.ex k272 ehE293 (by decide)
              have k295 : gX H291 := gX.ex k273 ehE293 (by decide)
              have k296 : gL H291 := gL.ex k274 ehE293 (by decide)
              have k297 : gZ H291 := gZ.ex k275 ehE293 (by decide)
              have k298 : gQ H291 := gQ.ex k276 ehE293 (by decide)
              have k299 : gB H291 := gB.ex k277 ehE293 (by decide)
              have k300 : gK H291 := gK.ex k278 ehE293 (by decide)
              have k301 : gN H291 := gN.ex k279 ehE293 (by decide)
              have k302 : gW H291 (H291.1 11 19 0) := gWm.ex k280 ehE293 (by decide)
              have g303 : H291.1 11 12 0 = H269.1 11 12 0 := ehE293.v 12 (by decide)
              have g304 : H291.1 11 19 0 = H269.1 11 19 0 := ehE293.v 19 (by decide)
              have g305 : H291.2.2.1 80 0 (n) = H269.2.2.1 80 0 (n) := congrFun (ehE293.r 80 (by decide)) _
              have g306 : H291.2.2.1 79 0 (n) = H269.2.2.1 79 0 (n) := congrFun (ehE293.r 79 (by decide)) _
              have g307 : H291.2.2.1 55 0 (b) = H269.2.2.1 55 0 (b) := congrFun (ehE293.r 55 (by decide)) _
              have g308 : H291.2.2.1 72 0 (n) = H269.2.2.1 72 0 (n) := congrFun (ehE293.r 72 (by decide)) _
              have rL_isCertain := r290'
              have eL_isCertain := ehE293
              try dsimp only [Option.toList, List.append, List.cons_append, List.nil_append]
              refine J.ifc rfl rfl rfl (show -2147483648 ≤ x289 ∧ x289 ≤ 2147483647 from ⟨by omega, by omega⟩) (fun hc => ?_) (fun hc => ?_)
              · have c309 : x289 = (0 : Int) := hc
                clear hc
                refine J.run0 2 rfl ?_
                try dsimp only
                refine J.inv rfl rfl rfl rfl rfl rfl jDr rfl rfl rfl rfl rfl (g_heightE (n := n) hT292  (show 0 ≤ (n) ∧ (n) < 16 from ⟨by omega, by omega⟩)) ?_
                rintro v w H291 ⟨rfl, rfl, x310, rfl, r311⟩
                have r311' : x310 = H291.2.2.1 56 0 (H291.2.2.1 72 0 ((n))) + 1 ∧ 1 ≤ x310 ∧ x310 ≤ 301 := r311
                have rL_heightE := r311'
                try dsimp only [Option.toList, List.append, List.cons_append, List.nil_append]
                exact J.reti rfl rfl rfl ⟨_, rfl, rfl, hT292, hE293, k294, k295, k296, k297, k298, k299, k300, k301, k302, _, rfl, (show 0 ≤ (x310) ∧ (x310) ≤ 301 from ⟨by omega, by omega⟩)⟩
              · have c312 : ¬ (x289 = (0 : Int)) := hc
                clear hc
                refine J.run0 3 rfl ?_
                try dsimp only
                have f313 : 1 ≤ H291.1 11 12 0 ∧ H291.1 11 12 0 ≤ 300 := hT292.2.1 12
                refine J.inv rfl rfl rfl rfl rfl rfl jDr rfl rfl rfl rfl rfl (g_decided (n := n) (b := b) (u := 16) hT292 k294 k295 k296 k297 k298 k299 k300 k301 k302 gU.triv (show 0 ≤ (n) ∧ (n) < 16 from ⟨by omega, by omega⟩) (show 0 ≤ (b) ∧ (b) < 300 from ⟨by omega, by omega⟩) (show (b) < H291.1 11 12 0 from by omega) (show H291.2.2.1 80 0 ((n)) = 0 from by omega) (show (n) < (16) from by omega)) ?_
                rintro v w H316 ⟨rfl, hT317, ehE318, k319, k320, k321, k322, k323, k324, k325, k326, k327, k328, p329, p330, rfl⟩
                have hE318 := jEx.trans ehE318 hE293 (by decide) (by decide)
                have p329' : 192 * H291.2.2.1 56 0 ((b)) ≤ 192 * H316.2.2.1 56 0 (H316.2.2.1 72 0 ((n))) + 6 * H316.2.2.1 73 0 ((n)) + 2 * H316.2.2.1 74 0 ((n)) + H316.2.2.1 115 0 ((n)) := p329
                have p330' : H291.1 11 19 0 ≤ H316.1 11 19 0 := p330
                have pL_decided_0 := p329'
                have pL_decided_1 := p330'
                have g331 : H316.2.2.1 79 0 (n) = H291.2.2.1 79 0 (n) := congrFun (ehE318.r 79 (by decide)) _
                have eL_decided := ehE318
                try dsimp only [Option.toList, List.append, List.cons_append, List.nil_append]
                refine J.run0 2 rfl ?_
                try dsimp only
                refine J.inv rfl rfl rfl rfl rfl rfl jDr rfl rfl rfl rfl rfl (g_act (n := n) (u := 16) hT317 k319 k320 k321 k322 k323 k324 k325 k326 k327 gU.triv (show 0 ≤ (n) ∧ (n) < 16 from ⟨by omega, by omega⟩) (show (n) < (16) from by omega)) ?_
                rintro v w H334 ⟨rfl, hT335, ehE336, k337, k338, k339, k340, k341, k342, k343, k344, k345, k346, p347, rfl⟩
                have hE336 := jEx.trans ehE336 hE318 (by decide) (by decide)
                have p347' : H316.1 11 19 0 ≤ H334.1 11 19 0 := p347
                have pL_act_0 := p347'
                have g348 : H334.2.2.1 79 0 (n) = H316.2.2.1 79 0 (n) := congrFun (ehE336.r 79 (by decide)) _
                have eL_act := ehE336
                try dsimp only [Option.toList, List.append, List.cons_append, List.nil_append]
                refine J.run0 2 rfl ?_
                try dsimp only
                refine J.inv rfl rfl rfl rfl rfl rfl jDr rfl rfl rfl rfl rfl (g_heightE (n := n) hT335  (show 0 ≤ (n) ∧ (n) < 16 from ⟨by omega, by omega⟩)) ?_
                rintro v w H334 ⟨rfl, rfl, x349, rfl, r350⟩
                have r350' : x349 = H334.2.2.1 56 0 (H334.2.2.1 72 0 ((n))) + 1 ∧ 1 ≤ x349 ∧ x349 ≤ 301 := r350
                have rL_heightE := r350'
                try dsimp only [Option.toList, List.append, List.cons_append, List.nil_append]
                exact J.reti rfl rfl rfl ⟨_, rfl, rfl, hT335, hE336, k337, k338, k339, k340, k341, k342, k343, k344, k345, _, rfl, (show 0 ≤ (x349) ∧ (x349) ≤ 301 from ⟨by omega, by omega⟩)⟩
      · have c351 : ¬ (H238.1 11 47 0 ≤ (0 : Int)) := hc
        clear hc
        refine J.run0 1 rfl ?_
        try dsimp only
        exact J.reti rfl rfl rfl ⟨_, rfl, rfl, hT239, hE240, k241, k242, k243, k244, k245, k246, k247, k248, k249, _, rfl, (show 0 ≤ ((0 : Int)) ∧ ((0 : Int)) ≤ 301 from ⟨by omega, by omega⟩)⟩
end
