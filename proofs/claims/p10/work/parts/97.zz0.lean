-- M: X11_start
section
variable {d : Nat} {w : jW} 
-- 
theorem g_start_l0 {n : Int} {H0 : jH} (hp0 : -2147483648 ≤ n ∧ n ≤ 2147483647) : ∀ (m : Nat), (∀ (many k i : Int) (H : jH) (lv : jL), 3000 - i < (m : Int) → (0 ≤ n ∧ n < 16) → (1 ≤ many ∧ many ≤ 96) → (k = 128 * n + many - 1) → (128 * n ≤ i ∧ i ≤ 128 * n + many) → (H.2.2.1 83 0 (n) = many) → (H.2.2.1 80 0 (n) = 0) → (∀ j, i ≤ j → j ≤ k → 0 ≤ H.2.2.1 85 0 j → H.2.2.1 114 0 (6000 * n + H.2.2.1 85 0 j) = 0) → gT H → jEx [19, 12, 48, 56, 57, 47] [60, 56, 59, 58, 55, 57, 61, 99, 100, 77, 78, 82, 80, 114, 115, 81, 105, 71, 70, 72, 75, 76, 68, 67, 65, 63, 64, 66, 112, 113, 108, 110, 101, 102, 103, 104, 83, 73, 74, 84, 111, 89, 88, 93, 94, 86, 91, 92, 85, 87, 90] H H0 → gP H → gX H → gL H → gZ H → gQ H → gB H → gK H → gN H → gW H (H.1 11 19 0) → (lv = [(4, .inl i), (3, .inl k), (2, .inl many), (0, jT), (1, .inl n)]) → J true (d + 306) 157 w (199, lv, [], H) (jN fun v w' H' => w' = w ∧ gT H' ∧ jEx [19, 12, 48, 56, 57, 47] [60, 56, 59, 58, 55, 57, 61, 99, 100, 77, 78, 82, 80, 114, 115, 81, 105, 71, 70, 72, 75, 76, 68, 67, 65, 63, 64, 66, 112, 113, 108, 110, 101, 102, 103, 104, 83, 73, 74, 84, 111, 89, 88, 93, 94, 86, 91, 92, 85, 87, 90] H' H0 ∧ gP H' ∧ gX H' ∧ gL H' ∧ gZ H' ∧ gQ H' ∧ gB H' ∧ gK H' ∧ gN H' ∧ gW H' (H'.1 11 19 0) ∧ ∃ x, v = some (.inl x) ∧ 0 ≤ x ∧ x ≤ 96)) := by
  intro m
  induction m with
  | zero =>
    skip
    · intro many k i H lv hm hi0 hi1 hi2 hi3 hi4 hi5 hi6 hT hE k0gP k0gX k0gL k0gZ k0gQ k0gB k0gK k0gN k0gW hlv
      exfalso
      omega
  | succ m ih =>
    skip
    · intro many k i H lv hm hi0 hi1 hi2 hi3 hi4 hi5 hi6 hT hE k0gP k0gX k0gL k0gZ k0gQ k0gB k0gK k0gN k0gW hlv
      rcases hlv with rfl
      refine J.run0 2 rfl ?_
      try dsimp only
      refine J.icmp rfl rfl rfl ⟨(show -2147483648 ≤ i ∧ i ≤ 2147483647 from ⟨by omega, by omega⟩), (show -2147483648 ≤ k ∧ k ≤ 2147483647 from ⟨by omega, by omega⟩)⟩ (fun hc => ?_) (fun hc => ?_)
      · have c1 : k < i := hc
        clear hc
        refine J.run0 2 rfl ?_
        try dsimp only
        refine J.inv rfl rfl rfl rfl rfl rfl jDr rfl rfl rfl rfl rfl (g_act (n := n) (u := 16) hT k0gP k0gX k0gL k0gZ k0gQ k0gB k0gK k0gN k0gW gU.triv (show 0 ≤ (n) ∧ (n) < 16 from ⟨by omega, by omega⟩) (show (n) < (16) from by omega)) ?_
        rintro v w H4 ⟨rfl, hT5, ehE6, k7, k8, k9, k10, k11, k12, k13, k14, k15, k16, p17, rfl⟩
        have hE6 := jEx.trans ehE6 hE (by decide) (by decide)
        have p17' : H.1 11 19 0 ≤ H4.1 11 19 0 := p17
        have pL_act_0 := p17'
        have eL_act := ehE6
        try dsimp only [Option.toList, List.append, List.cons_append, List.nil_append]
        refine J.run0 1 rfl ?_
        try dsimp only
        exact J.reti rfl rfl rfl ⟨_, rfl, rfl, hT5, hE6, k7, k8, k9, k10, k11, k12, k13, k14, k15, _, rfl, (show 0 ≤ (many) ∧ (many) ≤ 96 from ⟨by omega, by omega⟩)⟩
      · have c18 : ¬ (k < i) := hc
        clear hc
        have f19 : -1 ≤ H.2.2.1 85 0 (i) ∧ H.2.2.1 85 0 (i) ≤ 5999 := hT.1 85 (i)
        refine J.run 4 rfl (show 0 ≤ i ∧ i < 2048 from ⟨by omega, by omega⟩) ?_
        try dsimp only
        refine J.ifc rfl rfl rfl (show -2147483648 ≤ H.2.2.1 85 0 (i) ∧ H.2.2.1 85 0 (i) ≤ 2147483647 from ⟨by omega, by omega⟩) (fun hc => ?_) (fun hc => ?_)
        · have c20 : H.2.2.1 85 0 (i) < (0 : Int) := hc
          clear hc
          have f21 : 0 ≤ H.1 11 19 0 ∧ H.1 11 19 0 ≤ 6000 := hT.2.1 19
          refine J.run0 3 rfl ?_
          try dsimp only
          refine J.icmp rfl rfl rfl ⟨(show -2147483648 ≤ H.1 11 19 0 ∧ H.1 11 19 0 ≤ 2147483647 from ⟨by omega, by omega⟩), (show -2147483648 ≤ (6000 : Int) ∧ (6000 : Int) ≤ 2147483647 from ⟨by omega, by omega⟩)⟩ (fun hc => ?_) (fun hc => ?_)
          · have c22 : (6000 : Int) ≤ H.1 11 19 0 := hc
            clear hc
            refine J.run0 2 rfl ?_
            try dsimp only
            exact ih (many) (k) (i + 1) H _ (show 3000 - (i + 1) < _ by omega) (show 0 ≤ n ∧ n < 16 from ⟨by omega, by omega⟩) (show 1 ≤ (many) ∧ (many) ≤ 96 from ⟨by omega, by omega⟩) (show (k) = 128 * n + (many) - 1 from by omega) (show 128 * n ≤ (i + 1) ∧ (i + 1) ≤ 128 * n + (many) from ⟨by omega, by omega⟩) (show H.2.2.1 83 0 (n) = (many) from by omega) (show H.2.2.1 80 0 (n) = 0 from by omega) (show ∀ j, (i + 1) ≤ j → j ≤ (k) → 0 ≤ H.2.2.1 85 0 j → H.2.2.1 114 0 (6000 * n + H.2.2.1 85 0 j) = 0 from (by first | exact (fun j _ _ hz => by have y : -1 ≤ H.2.2.1 85 0 j ∧ H.2.2.1 85 0 j ≤ 5999 := hT.1 85 j; rw [sI]; exact qn _ hz (by omega)) | exact gst1 k0gW ⟨by omega, by omega⟩ (by omega) (by omega) hi6 (by omega) (eL_know.r 85 (by decide)) pL_know_0 | exact gst2 k0gW ⟨by omega, by omega⟩ (by omega) (by omega) hi6 (sW.trans (by rw [eL_spoken.r 85 (by decide)])) (fun z hz => (congrFun sK z).trans (pL_spoken_0 z hz)) | exact (fun j a b => hi6 j (by omega) b))) hT hE k0gP k0gX k0gL k0gZ k0gQ k0gB k0gK k0gN k0gW rfl
          · have c23 : ¬ ((6000 : Int) ≤ H.1 11 19 0) := hc
            clear hc
            have kOld := k0gW
            have f24 : 0 ≤ H.2.2.1 86 0 (i) ∧ H.2.2.1 86 0 (i) ≤ 2 := hT.1 86 (i)
            refine J.run 11 rfl (show 0 ≤ i ∧ i < 2048 from ⟨by omega, by omega⟩) ?_
            try dsimp only
            refine J.inv rfl rfl rfl rfl rfl rfl jDr rfl rfl rfl rfl rfl (g_heightE (n := n) hT  (show 0 ≤ (n) ∧ (n) < 16 from ⟨by omega, by omega⟩)) ?_
            rintro v w H ⟨rfl, rfl, x25, rfl, r26⟩
            have r26' : x25 = H.2.2.1 56 0 (H.2.2.1 72 0 ((n))) + 1 ∧ 1 ≤ x25 ∧ x25 ≤ 301 := r26
            have rL_heightE := r26'
            try dsimp only [Option.toList, List.append, List.cons_append, List.nil_append]
            have f27 : 0 ≤ H.2.2.1 87 0 (i) ∧ H.2.2.1 87 0 (i) ≤ 31 := hT.1 87 (i)
            have f28 : -1 ≤ H.2.2.1 88 0 (i) ∧ H.2.2.1 88 0 (i) ≤ 299 := hT.1 88 (i)
            have f29 : 1 ≤ H.1 11 12 0 ∧ H.1 11 12 0 ≤ 300 := hT.2.1 12
            have f28b : H.2.2.1 88 0 (i) < H.1 11 12 0 := hT.2.2.1 88 (i) rfl
            have f30 : -1 ≤ H.2.2.1 89 0 (i) ∧ H.2.2.1 89 0 (i) ≤ 31 := hT.1 89 (i)
            refine J.run 12 rfl ⟨(show 0 ≤ i ∧ i < 2048 from ⟨by omega, by omega⟩), (show 0 ≤ i ∧ i < 2048 from ⟨by omega, by omega⟩), (show 0 ≤ i ∧ i < 2048 from ⟨by omega, by omega⟩)⟩ ?_
            try dsimp only
            refine J.inv rfl rfl rfl rfl rfl rfl jDr rfl rfl rfl rfl rfl (g_spoken (n := n) (kind := H.2.2.1 86 0 (i)) (h := x25) (r := H.2.2.1 87 0 (i)) (block := H.2.2.1 88 0 (i)) (before := H.2.2.1 89 0 (i)) hT k0gB k0gK k0gN (show 0 ≤ (n) ∧ (n) < 16 from ⟨by omega, by omega⟩) (show 0 ≤ (H.2.2.1 86 0 (i)) ∧ (H.2.2.1 86 0 (i)) ≤ 2 from ⟨by omega, by omega⟩) (show 0 ≤ (x25) ∧ (x25) ≤ 301 from ⟨by omega, by omega⟩) (show 0 ≤ (H.2.2.1 87 0 (i)) ∧ (H.2.2.1 87 0 (i)) < 32 from ⟨by omega, by omega⟩) (show -1 ≤ (H.2.2.1 88 0 (i)) ∧ (H.2.2.1 88 0 (i)) < 300 from ⟨by omega, by omega⟩) (show (H.2.2.1 88 0 (i)) < H.1 11 12 0 from by omega) (show -1 ≤ (H.2.2.1 89 0 (i)) ∧ (H.2.2.1 89 0 (i)) < 32 from ⟨by omega, by omega⟩) (show H.1 11 19 0 < 6000 from by omega) (show H.2.2.1 80 0 ((n)) = 0 from by omega)) ?_
            rintro v w H33 ⟨rfl, hT34, ehE35, k36, k37, k38, p39, x31, rfl, r32⟩
            have hE35 := jEx.trans ehE35 hE (by decide) (by decide)
            have p39' : ∀ z, z ≠ 6000 * (n) + H.1 11 19 0 → H33.2.2.1 114 0 z = H.2.2.1 114 0 z := p39
            have r32' : x31 = H.1 11 19 0 ∧ 0 ≤ x31 ∧ x31 ≤ 5999 ∧ H33.1 11 19 0 = H.1 11 19 0 + 1 := r32
            have pL_spoken_0 := p39'
            have k40 : gP H33 := gP.ex k0gP ehE35 (by decide)
            have k41 : gX H33 := gX.ex k0gX ehE35 (by decide)
            have k42 : gL H33 := gL.ex k0gL ehE35 (by decide)
            have k43 : gZ H33 := gZ.ex k0gZ ehE35 (by decide)
            have k44 : gQ H33 := gQ.ex k0gQ ehE35 (by decide)
            have k45 : gW H33 (H33.1 11 19 0) := gW.mono (gW.ex k0gW ehE35 (by decide)) (by omega)
            have g46 : H33.1 11 12 0 = H.1 11 12 0 := ehE35.v 12 (by decide)
            have g47 : H33.2.2.1 83 0 (n) = H.2.2.1 83 0 (n) := congrFun (ehE35.r 83 (by decide)) _
            have g48 : H33.2.2.1 80 0 (n) = H.2.2.1 80 0 (n) := congrFun (ehE35.r 80 (by decide)) _
            have g49 : H33.2.2.1 85 0 (i) = H.2.2.1 85 0 (i) := congrFun (ehE35.r 85 (by decide)) _
            have g50 : H33.2.2.1 86 0 (i) = H.2.2.1 86 0 (i) := congrFun (ehE35.r 86 (by decide)) _
            have g51 : H33.2.2.1 87 0 (i) = H.2.2.1 87 0 (i) := congrFun (ehE35.r 87 (by decide)) _
            have g52 : H33.2.2.1 88 0 (i) = H.2.2.1 88 0 (i) := congrFun (ehE35.r 88 (by decide)) _
            have g53 : H33.2.2.1 89 0 (i) = H.2.2.1 89 0 (i) := congrFun (ehE35.r 89 (by decide)) _
            have rL_spoken := r32'
            have eL_spoken := ehE35
            try dsimp only [Option.toList, List.append, List.cons_append, List.nil_append]
            refine J.run 1 rfl (show 0 ≤ i ∧ i < 2048 from ⟨by omega, by omega⟩) ?_
            try dsimp only
            refine J.gn fun H54 hH54 => ?_
            have hT55 : gT H54 := by rw [hH54]; exact gT.upd hT34 (show -1 ≤ x31 ∧ x31 ≤ 5999 from ⟨by omega, by omega⟩) (fun z => absurd z (by decide))
            have hE56 : jEx [19, 12, 48, 56, 57, 47] [60, 56, 59, 58, 55, 57, 61, 99, 100, 77, 78, 82, 80, 114, 115, 81, 105, 71, 70, 72, 75, 76, 68, 67, 65, 63, 64, 66, 112, 113, 108, 110, 101, 102, 103, 104, 83, 73, 74, 84, 111, 89, 88, 93, 94, 86, 91, 92, 85, 87, 90] H54 H0 := by rw [hH54]; exact jEx.row hE35 (by decide)
            have k57 : gP H54 := by rw [hH54]; exact k40
            have k58 : gX H54 := by rw [hH54]; exact k41
            have k59 : gL H54 := by rw [hH54]; exact k42
            have k60 : gZ H54 := by rw [hH54]; exact k43
            have k61 : gQ H54 := by rw [hH54]; exact k44
            have k62 : gB H54 := by rw [hH54]; exact k36
            have k63 : gK H54 := by rw [hH54]; exact k37
            have k64 : gN H54 := by rw [hH54]; exact k38
            have k65 : gW H54 (H54.1 11 19 0) := by rw [hH54]; exact gWm.msg (gW.ex kOld eL_spoken (by decide)) (by omega) (show H33.1 11 19 0 = _ + 1 by omega)
            have sW : H54.2.2.1 85 0 = jup (H33.2.2.1 85 0) (i) (x31) := by subst hH54; rfl
            have sK : H54.2.2.1 114 0 = H33.2.2.1 114 0 := by subst hH54; rfl
            have g66 : H54.2.2.1 85 0 (i) = x31 := by subst hH54; exact if_pos rfl
            have g67 : H54.1 11 12 0 = H33.1 11 12 0 := by subst hH54; rfl
            have g68 : H54.1 11 19 0 = H33.1 11 19 0 := by subst hH54; rfl
            have g69 : H54.2.2.1 83 0 (n) = H33.2.2.1 83 0 (n) := by subst hH54; rfl
            have g70 : H54.2.2.1 80 0 (n) = H33.2.2.1 80 0 (n) := by subst hH54; rfl
            have g72 : H54.2.2.1 86 0 (i) = H33.2.2.1 86 0 (i) := by subst hH54; rfl
            have g73 : H54.2.2.1 87 0 (i) = H33.2.2.1 87 0 (i) := by subst hH54; rfl
            have g74 : H54.2.2.1 88 0 (i) = H33.2.2.1 88 0 (i) := by subst hH54; rfl
            have g75 : H54.2.2.1 89 0 (i) = H33.2.2.1 89 0 (i) := by subst hH54; rfl
            clear hH54
            refine J.run0 2 rfl ?_
            try dsimp only
            exact ih (many) (k) (i + 1) H54 _ (show 3000 - (i + 1) < _ by omega) (show 0 ≤ n ∧ n < 16 from ⟨by omega, by omega⟩) (show 1 ≤ (many) ∧ (many) ≤ 96 from ⟨by omega, by omega⟩) (show (k) = 128 * n + (many) - 1 from by omega) (show 128 * n ≤ (i + 1) ∧ (i + 1) ≤ 128 * n + (many) from ⟨by omega, by omega⟩) (show H54.2.2.1 83 0 (n) = (many) from by omega) (show H54.2.2.1 80 0 (n) = 0 from by omega) (show ∀ j, (i + 1) ≤ j → j ≤ (k) → 0 ≤ H54.2.2.1 85 0 j → H54.2.2.1 114 0 (6000 * n + H54.2.2.1 85 0 j) = 0 from (by first | exact (fun j _ _ hz => by have y : -1 ≤ H54.2.2.1 85 0 j ∧ H54.2.2.1 85 0 j ≤ 5999 := hT55.1 85 j; rw [sI]; exact qn _ hz (by omega)) | exact gst1 k0gW ⟨by omega, by omega⟩ (by omega) (by omega) hi6 (by omega) (eL_know.r 85 (by decide)) pL_know_0 | exact gst2 k0gW ⟨by omega, by omega⟩ (by omega) (by omega) hi6 (sW.trans (by rw [eL_spoken.r 85 (by decide)])) (fun z hz => (congrFun sK z).trans (pL_spoken_0 z hz)) | exact (fun j a b => hi6 j (by omega) b))) hT55 hE56 k57 k58 k59 k60 k61 k62 k63 k64 k65 rfl
        · have c76 : ¬ (H.2.2.1 85 0 (i) < (0 : Int)) := hc
          clear hc
          have qw := ((k0gW n (by omega) (by omega)).2.1 (i - 128 * n) (by omega) (by omega)).2
          rw [show 128 * n + (i - 128 * n) = i by omega] at qw
          have qz := hi6 (i) (by omega) (by omega) (by omega)
          refine J.run 6 rfl (show 0 ≤ i ∧ i < 2048 from ⟨by omega, by omega⟩) ?_
          try dsimp only
          refine J.inv rfl rfl rfl rfl rfl rfl jDr rfl rfl rfl rfl rfl (g_know (n := n) (m := H.2.2.1 85 0 (i)) hT k0gB k0gK k0gN (show 0 ≤ (n) ∧ (n) < 16 from ⟨by omega, by omega⟩) (show 0 ≤ (H.2.2.1 85 0 (i)) ∧ (H.2.2.1 85 0 (i)) < 6000 from ⟨by omega, by omega⟩) (show (H.2.2.1 85 0 (i)) < H.1 11 19 0 from by omega) (show H.2.2.1 114 0 (6000 * (n) + (H.2.2.1 85 0 (i))) = 0 from by omega) (show H.2.2.1 80 0 ((n)) = 0 from by omega)) ?_
          rintro v w H79 ⟨rfl, hT80, ehE81, k82, k83, k84, p85, rfl⟩
          have hE81 := jEx.trans ehE81 hE (by decide) (by decide)
          have p85' : ∀ z, z ≠ 6000 * (n) + (H.2.2.1 85 0 (i)) → H79.2.2.1 114 0 z = H.2.2.1 114 0 z := p85
          have pL_know_0 := p85'
          have k86 : gP H79 := gP.ex k0gP ehE81 (by decide)
          have k87 : gX H79 := gX.ex k0gX ehE81 (by decide)
          have k88 : gL H79 := gL.ex k0gL ehE81 (by decide)
          have k89 : gZ H79 := gZ.ex k0gZ ehE81 (by decide)
          have k90 : gQ H79 := gQ.ex k0gQ ehE81 (by decide)
          have k91 : gW H79 (H79.1 11 19 0) := gWm.ex k0gW ehE81 (by decide)
          have g92 : H79.1 11 12 0 = H.1 11 12 0 := ehE81.v 12 (by decide)
          have g93 : H79.1 11 19 0 = H.1 11 19 0 := ehE81.v 19 (by decide)
          have g94 : H79.2.2.1 83 0 (n) = H.2.2.1 83 0 (n) := congrFun (ehE81.r 83 (by decide)) _
          have g95 : H79.2.2.1 80 0 (n) = H.2.2.1 80 0 (n) := congrFun (ehE81.r 80 (by decide)) _
          have g96 : H79.2.2.1 85 0 (i) = H.2.2.1 85 0 (i) := congrFun (ehE81.r 85 (by decide)) _
          have eL_know := ehE81
          try dsimp only [Option.toList, List.append, List.cons_append, List.nil_append]
          refine J.run0 3 rfl ?_
          try dsimp only
          exact ih (many) (k) (i + 1) H79 _ (show 3000 - (i + 1) < _ by omega) (show 0 ≤ n ∧ n < 16 from ⟨by omega, by omega⟩) (show 1 ≤ (many) ∧ (many) ≤ 96 from ⟨by omega, by omega⟩) (show (k) = 128 * n + (many) - 1 from by omega) (show 128 * n ≤ (i + 1) ∧ (i + 1) ≤ 128 * n + (many) from ⟨by omega, by omega⟩) (show H79.2.2.1 83 0 (n) = (many) from by omega) (show H79.2.2.1 80 0 (n) = 0 from by omega) (show ∀ j, (i + 1) ≤ j → j ≤ (k) → 0 ≤ H79.2.2.1 85 0 j → H79.2.2.1 114 0 (6000 * n + H79.2.2.1 85 0 j) = 0 from (by first | exact (fun j _ _ hz => by have y : -1 ≤ H79.2.2.1 85 0 j ∧ H79.2.2.1 85 0 j ≤ 5999 := hT80.1 85 j; rw [sI]; exact qn _ hz (by omega)) | exact gst1 k0gW ⟨by omega, by omega⟩ (by omega) (by omega) hi6 (by omega) (eL_know.r 85 (by decide)) pL_know_0 | exact gst2 k0gW ⟨by omega, by omega⟩ (by omega) (by omega) hi6 (sW.trans (by rw [eL_spoken.r 85 (by decide)])) (fun z hz => (congrFun sK z).trans (pL_spoken_0 z hz)) | exact (fun j a b => hi6 j (by omega) b))) hT80 hE81 k86 k87 k88 k89 k90 k82 k83 k84 k91 rfl
-- 
theorem g_start {n : Int} {H : jH} (hT : gT H) (k0gP : gP H) (k0gX : gX H) (k0gL : gL H) (k0gZ : gZ H) (k0gQ : gQ H) (k0gB : gB H) (k0gK : gK H) (k0gN : gN H) (k0gW : gW H (H.1 11 19 0)) (hp0 : -2147483648 ≤ n ∧ n ≤ 2147483647) : J true (d + 306) 157 w (0, jargs 0 [jT, .inl n], [], H) (jN fun v w' H' => w' = w ∧ gT H' ∧ jEx [19, 12, 48, 56, 57, 47] [60, 56, 59, 58, 55, 57, 61, 99, 100, 77, 78, 82, 80, 114, 115, 81, 105, 71, 70, 72, 75, 76, 68, 67, 65, 63, 64, 66, 112, 113, 108, 110, 101, 102, 103, 104, 83, 73, 74, 84, 111, 89, 88, 93, 94, 86, 91, 92, 85, 87, 90] H' H ∧ gP H' ∧ gX H' ∧ gL H' ∧ gZ H' ∧ gQ H' ∧ gB H' ∧ gK H' ∧ gN H' ∧ gW H' (H'.1 11 19 0) ∧ ∃ x, v = some (.inl x) ∧ 0 ≤ x ∧ x ≤ 96) := by
  have hE : jEx [19, 12, 48, 56, 57, 47] [60, 56, 59, 58, 55, 57, 61, 99, 100, 77, 78, 82, 80, 114, 115, 81, 105, 71, 70, 72, 75, 76, 68, 67, 65, 63, 64, 66, 112, 113, 108, 110, 101, 102, 103, 104, 83, 73, 74, 84, 111, 89, 88, 93, 94, 86, 91, 92, 85, 87, 90] H H := jEx.refl _ _ _
  refine J.run0 4 rfl ?_
  try dsimp only
  refine J.ins rfl rfl rfl rfl rfl rfl rfl rfl rfl (g_in (u := n) (a := (0 : Int)) (b := (15 : Int)) hT  (show -2147483648 ≤ (n) ∧ (n) ≤ 2147483647 from ⟨by omega, by omega⟩) (show -2147483648 ≤ ((0 : Int)) ∧ ((0 : Int)) ≤ 2147483647 from ⟨by omega, by omega⟩) (show -2147483648 ≤ ((15 : Int)) ∧ ((15 : Int)) ≤ 2147483647 from ⟨by omega, by omega⟩)) ?_
  rintro v w H ⟨rfl, rfl, x97, rfl, r98⟩
  have r98' : (x97 = 0 ∨ x97 = 1) ∧ (x97 = 1 → (n) ≥ ((0 : Int)) ∧ (n) ≤ ((15 : Int))) ∧ (x97 = 0 → (n) < ((0 : Int)) ∨ ((15 : Int)) < (n)) := r98
  have rL_in := r98'
  try dsimp only [Option.toList, List.append, List.cons_append, List.nil_append]
  refine J.ifc rfl rfl rfl (show -2147483648 ≤ x97 ∧ x97 ≤ 2147483647 from ⟨by omega, by omega⟩) (fun hc => ?_) (fun hc => ?_)
  · have c99 : ¬ (x97 = (0 : Int)) := hc
    clear hc
    have f100 : 0 ≤ H.2.2.1 80 0 (n) ∧ H.2.2.1 80 0 (n) ≤ 1 := hT.1 80 (n)
    refine J.run 4 rfl (show 0 ≤ n ∧ n < 16 from ⟨by omega, by omega⟩) ?_
    try dsimp only
    refine J.ifc rfl rfl rfl (show -2147483648 ≤ H.2.2.1 80 0 (n) ∧ H.2.2.1 80 0 (n) ≤ 2147483647 from ⟨by omega, by omega⟩) (fun hc => ?_) (fun hc => ?_)
    · have c101 : ¬ (H.2.2.1 80 0 (n) = (0 : Int)) := hc
      clear hc
      refine J.run0 2 rfl ?_
      try dsimp only
      refine J.gn fun H102 hH102 => ?_
      have hT103 : gT H102 := by rw [hH102]; exact gT.num (f := 47) hT (show 0 ≤ (0 : Int) ∧ (0 : Int) ≤ 3 from ⟨by omega, by omega⟩) (by decide) (fun z => absurd z (by decide))
      have hE104 : jEx [19, 12, 48, 56, 57, 47] [60, 56, 59, 58, 55, 57, 61, 99, 100, 77, 78, 82, 80, 114, 115, 81, 105, 71, 70, 72, 75, 76, 68, 67, 65, 63, 64, 66, 112, 113, 108, 110, 101, 102, 103, 104, 83, 73, 74, 84, 111, 89, 88, 93, 94, 86, 91, 92, 85, 87, 90] H102 H := by rw [hH102]; exact jEx.num hE (by decide)
      have k105 : gP H102 := by rw [hH102]; exact k0gP
      have k106 : gX H102 := by rw [hH102]; exact k0gX
      have k107 : gL H102 := by rw [hH102]; exact k0gL
      have k108 : gZ H102 := by rw [hH102]; exact k0gZ
      have k109 : gQ H102 := by rw [hH102]; exact k0gQ
      have k110 : gB H102 := by rw [hH102]; exact k0gB
      have k111 : gK H102 := by rw [hH102]; exact k0gK
      have k112 : gN H102 := by rw [hH102]; exact k0gN
      have k113 : gW H102 (H102.1 11 19 0) := by rw [hH102]; exact k0gW
      have g114 : H102.1 11 47 0 = (0 : Int) := by subst hH102; rfl
      have g115 : H102.1 11 12 0 = H.1 11 12 0 := by subst hH102; rfl
      have g116 : H102.1 11 19 0 = H.1 11 19 0 := by subst hH102; rfl
      have g117 : H102.2.2.1 80 0 (n) = H.2.2.1 80 0 (n) := by subst hH102; rfl
      have g118 : H102.2.2.1 83 0 (n) = H.2.2.1 83 0 (n) := by subst hH102; rfl
      have g119 : H102.2.2.1 79 0 (n) = H.2.2.1 79 0 (n) := by subst hH102; rfl
      have g120 : H102.2.2.1 73 0 (n) = H.2.2.1 73 0 (n) := by subst hH102; rfl
      have g121 : H102.2.2.1 74 0 (n) = H.2.2.1 74 0 (n) := by subst hH102; rfl
      clear hH102
      have f122 : 0 ≤ H102.1 11 47 0 ∧ H102.1 11 47 0 ≤ 3 := hT103.2.1 47
      refine J.run0 2 rfl ?_
      try dsimp only
      refine J.ifc rfl rfl rfl (show -2147483648 ≤ H102.1 11 47 0 ∧ H102.1 11 47 0 ≤ 2147483647 from ⟨by omega, by omega⟩) (fun hc => ?_) (fun hc => ?_)
      · have c123 : H102.1 11 47 0 ≤ (0 : Int) := hc
        clear hc
        have qn : ∀ z, 0 ≤ z → z < 6000 → H102.2.2.1 114 0 (6000 * n + z) = 0 := gK.none k111 hT103 ⟨by omega, by omega⟩ (k110 n (by omega) (by omega) (by omega)).1
        have sI : H102.2.2.1 114 0 = H102.2.2.1 114 0 := rfl
        have f124 : 0 ≤ H102.2.2.1 83 0 (n) ∧ H102.2.2.1 83 0 (n) ≤ 96 := hT103.1 83 (n)
        refine J.run 10 rfl ⟨(show 0 ≤ n ∧ n < 16 from ⟨by omega, by omega⟩), (show ((0 : Int) = 0 ∨ (0 : Int) = 1) ∧ 0 ≤ n ∧ n < 16 from ⟨by omega, by omega, by omega⟩)⟩ ?_
        try dsimp only
        refine J.gn fun H125 hH125 => ?_
        have hT126 : gT H125 := by rw [hH125]; exact gT.upd hT103 (show 0 ≤ (0 : Int) ∧ (0 : Int) ≤ 1 from ⟨by omega, by omega⟩) (fun z => absurd z (by decide))
        have hE127 : jEx [19, 12, 48, 56, 57, 47] [60, 56, 59, 58, 55, 57, 61, 99, 100, 77, 78, 82, 80, 114, 115, 81, 105, 71, 70, 72, 75, 76, 68, 67, 65, 63, 64, 66, 112, 113, 108, 110, 101, 102, 103, 104, 83, 73, 74, 84, 111, 89, 88, 93, 94, 86, 91, 92, 85, 87, 90] H125 H := by rw [hH125]; exact jEx.row hE104 (by decide)
        have k128 : gP H125 := by rw [hH125]; exact k105
        have k129 : gX H125 := by rw [hH125]; exact k106
        have k130 : gL H125 := by rw [hH125]; exact k107
        have k131 : gZ H125 := by rw [hH125]; exact k108
        have k132 : gQ H125 := by rw [hH125]; exact k109
        have k133 : gB H125 := by rw [hH125]; exact gB.wd k110 rfl
        have k134 : gK H125 := by rw [hH125]; exact k111
        have k135 : gN H125 := by rw [hH125]; exact k112
        have k136 : gW H125 (H125.1 11 19 0) := by rw [hH125]; exact k113
        have sI := (show H125.2.2.1 114 0 = H102.2.2.1 114 0 from by subst hH125; rfl).trans sI
        have g137 : H125.2.2.1 80 0 (n) = (0 : Int) := by subst hH125; exact if_pos rfl
        have g138 : H125.1 11 12 0 = H102.1 11 12 0 := by subst hH125; rfl
        have g139 : H125.1 11 19 0 = H102.1 11 19 0 := by subst hH125; rfl
        have g141 : H125.2.2.1 83 0 (n) = H102.2.2.1 83 0 (n) := by subst hH125; rfl
        have g142 : H125.2.2.1 79 0 (n) = H102.2.2.1 79 0 (n) := by subst hH125; rfl
        have g143 : H125.2.2.1 73 0 (n) = H102.2.2.1 73 0 (n) := by subst hH125; rfl
        have g144 : H125.2.2.1 74 0 (n) = H102.2.2.1 74 0 (n) := by subst hH125; rfl
        clear hH125
        refine J.run 5 rfl (show 0 ≤ n ∧ n < 16 from ⟨by omega, by omega⟩) ?_
        try dsimp only
        refine J.gn fun H145 hH145 => ?_
        have hT146 : gT H145 := by rw [hH145]; exact gT.upd hT126 (show 0 ≤ (0 : Int) ∧ (0 : Int) ≤ 11 from ⟨by omega, by omega⟩) (fun z => absurd z (by decide))
        have hE147 : jEx [19, 12, 48, 56, 57, 47] [60, 56, 59, 58, 55, 57, 61, 99, 100, 77, 78, 82, 80, 114, 115, 81, 105, 71, 70, 72, 75, 76, 68, 67, 65, 63, 64, 66, 112, 113, 108, 110, 101, 102, 103, 104, 83, 73, 74, 84, 111, 89, 88, 93, 94, 86, 91, 92, 85, 87, 90] H145 H := by rw [hH145]; exact jEx.row hE127 (by decide)
        have k148 : gP H145 := by rw [hH145]; exact k128
        have k149 : gX H145 := by rw [hH145]; exact k129
        have k150 : gL H145 := by rw [hH145]; exact k130
        have k151 : gZ H145 := by rw [hH145]; exact k131
        have k152 : gQ H145 := by rw [hH145]; exact k132
        have k153 : gB H145 := by rw [hH145]; exact k133
        have k154 : gK H145 := by rw [hH145]; exact k134
        have k155 : gN H145 := by rw [hH145]; exact k135
        have k156 : gW H145 (H145.1 11 19 0) := by rw [hH145]; exact k136
        have sI := (show H145.2.2.1 114 0 = H125.2.2.1 114 0 from by subst hH145; rfl).trans sI
        have g157 : H145.2.2.1 84 0 (n) = (0 : Int) := by subst hH145; exact if_pos rfl
        have g158 : H145.1 11 12 0 = H125.1 11 12 0 := by subst hH145; rfl
        have g159 : H145.1 11 19 0 = H125.1 11 19 0 := by subst hH145; rfl
        have g160 : H145.2.2.1 80 0 (n) = H125.2.2.1 80 0 (n) := by subst hH145; rfl
        have g161 : H145.2.2.1 83 0 (n) = H125.2.2.1 83 0 (n) := by subst hH145; rfl
        have g162 : H145.2.2.1 79 0 (n) = H125.2.2.1 79 0 (n) := by subst hH145; rfl
        have g163 : H145.2.2.1 73 0 (n) = H125.2.2.1 73 0 (n) := by subst hH145; rfl
        have g164 : H145.2.2.1 74 0 (n) = H125.2.2.1 74 0 (n) := by subst hH145; rfl
        clear hH145
        refine J.run0 1 rfl ?_
        try dsimp only
        refine J.ifc rfl rfl rfl (show -2147483648 ≤ H102.2.2.1 83 0 (n) ∧ H102.2.2.1 83 0 (n) ≤ 2147483647 from ⟨by omega, by omega⟩) (fun hc => ?_) (fun hc => ?_)
        · have c165 : ¬ (H102.2.2.1 83 0 (n) = (0 : Int)) := hc
          clear hc
          refine J.run0 8 rfl ?_
          try dsimp only
          have qv := ((k156 n (by omega) (by omega)).2.1 (H102.2.2.1 83 0 (n) - 1) (by omega) (by omega)).1
          rw [show 128 * n + (H102.2.2.1 83 0 (n) - 1) = (((128 : Int) * n) + (H102.2.2.1 83 0 (n))) - (1 : Int) by omega] at qv
          have k166 : gV H145 (H145.1 11 19 0) n := gV.of k156
          have f167 : 0 ≤ H145.2.2.1 87 0 ((((128 : Int) * n) + (H102.2.2.1 83 0 (n))) - (1 : Int)) ∧ H145.2.2.1 87 0 ((((128 : Int) * n) + (H102.2.2.1 83 0 (n))) - (1 : Int)) ≤ 31 := hT146.1 87 ((((128 : Int) * n) + (H102.2.2.1 83 0 (n))) - (1 : Int))
          refine J.run 8 rfl ⟨(show 0 ≤ (((128 : Int) * n) + (H102.2.2.1 83 0 (n))) - (1 : Int) ∧ (((128 : Int) * n) + (H102.2.2.1 83 0 (n))) - (1 : Int) < 2048 from ⟨by omega, by omega⟩), (show 0 ≤ n ∧ n < 16 from ⟨by omega, by omega⟩)⟩ ?_
          try dsimp only
          refine J.gn fun H168 hH168 => ?_
          have hT169 : gT H168 := by rw [hH168]; exact gT.upd hT146 (show 0 ≤ H145.2.2.1 87 0 ((((128 : Int) * n) + (H102.2.2.1 83 0 (n))) - (1 : Int)) ∧ H145.2.2.1 87 0 ((((128 : Int) * n) + (H102.2.2.1 83 0 (n))) - (1 : Int)) ≤ 31 from ⟨by omega, by omega⟩) (fun z => absurd z (by decide))
          have hE170 : jEx [19, 12, 48, 56, 57, 47] [60, 56, 59, 58, 55, 57, 61, 99, 100, 77, 78, 82, 80, 114, 115, 81, 105, 71, 70, 72, 75, 76, 68, 67, 65, 63, 64, 66, 112, 113, 108, 110, 101, 102, 103, 104, 83, 73, 74, 84, 111, 89, 88, 93, 94, 86, 91, 92, 85, 87, 90] H168 H := by rw [hH168]; exact jEx.row hE147 (by decide)
          have k171 : gP H168 := by rw [hH168]; exact k148
          have k172 : gX H168 := by rw [hH168]; exact k149
          have k173 : gL H168 := by rw [hH168]; exact k150
          have k174 : gZ H168 := by rw [hH168]; exact k151
          have k175 : gQ H168 := by rw [hH168]; exact k152
          have k176 : gB H168 := by rw [hH168]; exact k153
          have k177 : gK H168 := by rw [hH168]; exact k154
          have k178 : gN H168 := by rw [hH168]; exact k155
          have k179 : gV H168 (H168.1 11 19 0) n := by rw [hH168]; exact gV.round k166
          have sI := (show H168.2.2.1 114 0 = H145.2.2.1 114 0 from by subst hH168; rfl).trans sI
          have g180 : H168.2.2.1 73 0 (n) = H145.2.2.1 87 0 ((((128 : Int) * n) + (H102.2.2.1 83 0 (n))) - (1 : Int)) := by subst hH168; exact if_pos rfl
          have g181 : H168.1 11 12 0 = H145.1 11 12 0 := by subst hH168; rfl
          have g182 : H168.1 11 19 0 = H145.1 11 19 0 := by subst hH168; rfl
          have g183 : H168.2.2.1 84 0 (n) = H145.2.2.1 84 0 (n) := by subst hH168; rfl
          have g184 : H168.2.2.1 80 0 (n) = H145.2.2.1 80 0 (n) := by subst hH168; rfl
          have g185 : H168.2.2.1 83 0 (n) = H145.2.2.1 83 0 (n) := by subst hH168; rfl
          have g186 : H168.2.2.1 79 0 (n) = H145.2.2.1 79 0 (n) := by subst hH168; rfl
          have g188 : H168.2.2.1 74 0 (n) = H145.2.2.1 74 0 (n) := by subst hH168; rfl
          have g189 : H168.2.2.1 87 0 ((((128 : Int) * n) + (H102.2.2.1 83 0 (n))) - (1 : Int)) = H145.2.2.1 87 0 ((((128 : Int) * n) + (H102.2.2.1 83 0 (n))) - (1 : Int)) := by subst hH168; rfl
          have g190 : H168.2.2.1 90 0 ((((128 : Int) * n) + (H102.2.2.1 83 0 (n))) - (1 : Int)) = H145.2.2.1 90 0 ((((128 : Int) * n) + (H102.2.2.1 83 0 (n))) - (1 : Int)) := by subst hH168; rfl
          clear hH168
          have f191 : 0 ≤ H168.2.2.1 90 0 ((((128 : Int) * n) + (H102.2.2.1 83 0 (n))) - (1 : Int)) ∧ H168.2.2.1 90 0 ((((128 : Int) * n) + (H102.2.2.1 83 0 (n))) - (1 : Int)) ≤ 2 := hT169.1 90 ((((128 : Int) * n) + (H102.2.2.1 83 0 (n))) - (1 : Int))
          refine J.run 8 rfl ⟨(show 0 ≤ (((128 : Int) * n) + (H102.2.2.1 83 0 (n))) - (1 : Int) ∧ (((128 : Int) * n) + (H102.2.2.1 83 0 (n))) - (1 : Int) < 2048 from ⟨by omega, by omega⟩), (show 0 ≤ n ∧ n < 16 from ⟨by omega, by omega⟩)⟩ ?_
          try dsimp only
          refine J.gn fun H192 hH192 => ?_
          have hT193 : gT H192 := by rw [hH192]; exact gT.upd hT169 (show 0 ≤ H168.2.2.1 90 0 ((((128 : Int) * n) + (H102.2.2.1 83 0 (n))) - (1 : Int)) ∧ H168.2.2.1 90 0 ((((128 : Int) * n) + (H102.2.2.1 83 0 (n))) - (1 : Int)) ≤ 2 from ⟨by omega, by omega⟩) (fun z => absurd z (by decide))
          have hE194 : jEx [19, 12, 48, 56, 57, 47] [60, 56, 59, 58, 55, 57, 61, 99, 100, 77, 78, 82, 80, 114, 115, 81, 105, 71, 70, 72, 75, 76, 68, 67, 65, 63, 64, 66, 112, 113, 108, 110, 101, 102, 103, 104, 83, 73, 74, 84, 111, 89, 88, 93, 94, 86, 91, 92, 85, 87, 90] H192 H := by rw [hH192]; exact jEx.row hE170 (by decide)
          have k195 : gP H192 := by rw [hH192]; exact k171
          have k196 : gX H192 := by rw [hH192]; exact k172
          have k197 : gL H192 := by rw [hH192]; exact k173
          have k198 : gZ H192 := by rw [hH192]; exact k174
          have k199 : gQ H192 := by rw [hH192]; exact k175
          have k200 : gB H192 := by rw [hH192]; exact k176
          have k201 : gK H192 := by rw [hH192]; exact k177
          have k202 : gN H192 := by rw [hH192]; exact k178
          have k203 : gV H192 (H192.1 11 19 0) n := by rw [hH192]; exact gV.step k179
          have sI := (show H192.2.2.1 114 0 = H168.2.2.1 114 0 from by subst hH192; rfl).trans sI
          have g204 : H192.2.2.1 74 0 (n) = H168.2.2.1 90 0 ((((128 : Int) * n) + (H102.2.2.1 83 0 (n))) - (1 : Int)) := by subst hH192; exact if_pos rfl
          have g205 : H192.1 11 12 0 = H168.1 11 12 0 := by subst hH192; rfl
          have g206 : H192.1 11 19 0 = H168.1 11 19 0 := by subst hH192; rfl
          have g207 : H192.2.2.1 73 0 (n) = H168.2.2.1 73 0 (n) := by subst hH192; rfl
          have g208 : H192.2.2.1 84 0 (n) = H168.2.2.1 84 0 (n) := by subst hH192; rfl
          have g209 : H192.2.2.1 80 0 (n) = H168.2.2.1 80 0 (n) := by subst hH192; rfl
          have g210 : H192.2.2.1 83 0 (n) = H168.2.2.1 83 0 (n) := by subst hH192; rfl
          have g211 : H192.2.2.1 79 0 (n) = H168.2.2.1 79 0 (n) := by subst hH192; rfl
          have g213 : H192.2.2.1 87 0 ((((128 : Int) * n) + (H102.2.2.1 83 0 (n))) - (1 : Int)) = H168.2.2.1 87 0 ((((128 : Int) * n) + (H102.2.2.1 83 0 (n))) - (1 : Int)) := by subst hH192; rfl
          have g214 : H192.2.2.1 90 0 ((((128 : Int) * n) + (H102.2.2.1 83 0 (n))) - (1 : Int)) = H168.2.2.1 90 0 ((((128 : Int) * n) + (H102.2.2.1 83 0 (n))) - (1 : Int)) := by subst hH192; rfl
          clear hH192
          have f215 : -1 ≤ H192.2.2.1 91 0 ((((128 : Int) * n) + (H102.2.2.1 83 0 (n))) - (1 : Int)) ∧ H192.2.2.1 91 0 ((((128 : Int) * n) + (H102.2.2.1 83 0 (n))) - (1 : Int)) ≤ 299 := hT193.1 91 ((((128 : Int) * n) + (H102.2.2.1 83 0 (n))) - (1 : Int))
          refine J.run 8 rfl ⟨(show 0 ≤ (((128 : Int) * n) + (H102.2.2.1 83 0 (n))) - (1 : Int) ∧ (((128 : Int) * n) + (H102.2.2.1 83 0 (n))) - (1 : Int) < 2048 from ⟨by omega, by omega⟩), (show 0 ≤ n ∧ n < 16 from ⟨by omega, by omega⟩)⟩ ?_
          try dsimp only
          refine J.gn fun H216 hH216 => ?_
          have hT217 : gT H216 := by rw [hH216]; exact gT.upd hT193 (show -1 ≤ H192.2.2.1 91 0 ((((128 : Int) * n) + (H102.2.2.1 83 0 (n))) - (1 : Int)) ∧ H192.2.2.1 91 0 ((((128 : Int) * n) + (H102.2.2.1 83 0 (n))) - (1 : Int)) ≤ 299 from ⟨by omega, by omega⟩) (fun z => absurd z (by decide))
          have hE218 : jEx [19, 12, 48, 56, 57, 47] [60, 56, 59, 58, 55, 57, 61, 99, 100, 77, 78, 82, 80, 114, 115, 81, 105, 71, 70, 72, 75, 76, 68, 67, 65, 63, 64, 66, 112, 113, 108, 110, 101, 102, 103, 104, 83, 73, 74, 84, 111, 89, 88, 93, 94, 86, 91, 92, 85, 87, 90] H216 H := by rw [hH216]; exact jEx.row hE194 (by decide)
          have k219 : gP H216 := by rw [hH216]; exact k195
          have k220 : gX H216 := by rw [hH216]; exact k196
          have k221 : gL H216 := by rw [hH216]; exact k197
          have k222 : gZ H216 := by rw [hH216]; exact k198
          have k223 : gQ H216 := by rw [hH216]; exact k199
          have k224 : gB H216 := by rw [hH216]; exact k200
          have k225 : gK H216 := by rw [hH216]; exact k201
          have k226 : gN H216 := by rw [hH216]; exact k202
          have k227 : gV H216 (H216.1 11 19 0) n := by rw [hH216]; exact k203
          have sI := (show H216.2.2.1 114 0 = H192.2.2.1 114 0 from by subst hH216; rfl).trans sI
          have g228 : H216.2.2.1 75 0 (n) = H192.2.2.1 91 0 ((((128 : Int) * n) + (H102.2.2.1 83 0 (n))) - (1 : Int)) := by subst hH216; exact if_pos rfl
          have g229 : H216.1 11 12 0 = H192.1 11 12 0 := by subst hH216; rfl
          have g230 : H216.1 11 19 0 = H192.1 11 19 0 := by subst hH216; rfl
          have g231 : H216.2.2.1 74 0 (n) = H192.2.2.1 74 0 (n) := by subst hH216; rfl
          have g232 : H216.2.2.1 73 0 (n) = H192.2.2.1 73 0 (n) := by subst hH216; rfl
          have g233 : H216.2.2.1 84 0 (n) = H192.2.2.1 84 0 (n) := by subst hH216; rfl
          have g234 : H216.2.2.1 80 0 (n) = H192.2.2.1 80 0 (n) := by subst hH216; rfl
          have g235 : H216.2.2.1 83 0 (n) = H192.2.2.1 83 0 (n) := by subst hH216; rfl
          have g236 : H216.2.2.1 79 0 (n) = H192.2.2.1 79 0 (n) := by subst hH216; rfl
          have g237 : H216.2.2.1 87 0 ((((128 : Int) * n) + (H102.2.2.1 83 0 (n))) - (1 : Int)) = H192.2.2.1 87 0 ((((128 : Int) * n) + (H102.2.2.1 83 0 (n))) - (1 : Int)) := by subst hH216; rfl
          have g238 : H216.2.2.1 90 0 ((((128 : Int) * n) + (H102.2.2.1 83 0 (n))) - (1 : Int)) = H192.2.2.1 90 0 ((((128 : Int) * n) + (H102.2.2.1 83 0 (n))) - (1 : Int)) := by subst hH216; rfl
          have g239 : H216.2.2.1 91 0 ((((128 : Int) * n) + (H102.2.2.1 83 0 (n))) - (1 : Int)) = H192.2.2.1 91 0 ((((128 : Int) * n) + (H102.2.2.1 83 0 (n))) - (1 : Int)) := by subst hH216; rfl
          clear hH216
          have f240 : -1 ≤ H216.2.2.1 92 0 ((((128 : Int) * n) + (H102.2.2.1 83 0 (n))) - (1 : Int)) ∧ H216.2.2.1 92 0 ((((128 : Int) * n) + (H102.2.2.1 83 0 (n))) - (1 : Int)) ≤ 31 := hT217.1 92 ((((128 : Int) * n) + (H102.2.2.1 83 0 (n))) - (1 : Int))
          refine J.run 8 rfl ⟨(show 0 ≤ (((128 : Int) * n) + (H102.2.2.1 83 0 (n))) - (1 : Int) ∧ (((128 : Int) * n) + (H102.2.2.1 83 0 (n))) - (1 : Int) < 2048 from ⟨by omega, by omega⟩), (show 0 ≤ n ∧ n < 16 from ⟨by omega, by omega⟩)⟩ ?_
          try dsimp only
          refine J.gn fun H241 hH241 => ?_
          have hT242 : gT H241 := by rw [hH241]; exact gT.upd hT217 (show -1 ≤ H216.2.2.1 92 0 ((((128 : Int) * n) + (H102.2.2.1 83 0 (n))) - (1 : Int)) ∧ H216.2.2.1 92 0 ((((128 : Int) * n) + (H102.2.2.1 83 0 (n))) - (1 : Int)) ≤ 31 from ⟨by omega, by omega⟩) (fun z => absurd z (by decide))
          have hE243 : jEx [19, 12, 48, 56, 57, 47] [60, 56, 59, 58, 55, 57, 61, 99, 100, 77, 78, 82, 80, 114, 115, 81, 105, 71, 70, 72, 75, 76, 68, 67, 65, 63, 64, 66, 112, 113, 108, 110, 101, 102, 103, 104, 83, 73, 74, 84, 111, 89, 88, 93, 94, 86, 91, 92, 85, 87, 90] H241 H := by rw [hH241]; exact jEx.row hE218 (by decide)
          have k244 : gP H241 := by rw [hH241]; exact k219
          have k245 : gX H241 := by rw [hH241]; exact k220
          have k246 : gL H241 := by rw [hH241]; exact k221
          have k247 : gZ H241 := by rw [hH241]; exact k222
          have k248 : gQ H241 := by rw [hH241]; exact k223
          have k249 : gB H241 := by rw [hH241]; exact k224
          have k250 : gK H241 := by rw [hH241]; exact k225
          have k251 : gN H241 := by rw [hH241]; exact k226
          have k252 : gV H241 (H241.1 11 19 0) n := by rw [hH241]; exact k227
          have sI := (show H241.2.2.1 114 0 = H216.2.2.1 114 0 from by subst hH241; rfl).trans sI
          have g253 : H241.2.2.1 76 0 (n) = H216.2.2.1 92 0 ((((128 : Int) * n) + (H102.2.2.1 83 0 (n))) - (1 : Int)) := by subst hH241; exact if_pos rfl
          have g254 : H241.1 11 12 0 = H216.1 11 12 0 := by subst hH241; rfl
          have g255 : H241.1 11 19 0 = H216.1 11 19 0 := by subst hH241; rfl
          have g256 : H241.2.2.1 75 0 (n) = H216.2.2.1 75 0 (n) := by subst hH241; rfl
          have g257 : H241.2.2.1 74 0 (n) = H216.2.2.1 74 0 (n) := by subst hH241; rfl
          have g258 : H241.2.2.1 73 0 (n) = H216.2.2.1 73 0 (n) := by subst hH241; rfl
          have g259 : H241.2.2.1 84 0 (n) = H216.2.2.1 84 0 (n) := by subst hH241; rfl
          have g260 : H241.2.2.1 80 0 (n) = H216.2.2.1 80 0 (n) := by subst hH241; rfl
          have g261 : H241.2.2.1 83 0 (n) = H216.2.2.1 83 0 (n) := by subst hH241; rfl
          have g262 : H241.2.2.1 79 0 (n) = H216.2.2.1 79 0 (n) := by subst hH241; rfl
          have g263 : H241.2.2.1 87 0 ((((128 : Int) * n) + (H102.2.2.1 83 0 (n))) - (1 : Int)) = H216.2.2.1 87 0 ((((128 : Int) * n) + (H102.2.2.1 83 0 (n))) - (1 : Int)) := by subst hH241; rfl
          have g264 : H241.2.2.1 90 0 ((((128 : Int) * n) + (H102.2.2.1 83 0 (n))) - (1 : Int)) = H216.2.2.1 90 0 ((((128 : Int) * n) + (H102.2.2.1 83 0 (n))) - (1 : Int)) := by subst hH241; rfl
          have g265 : H241.2.2.1 91 0 ((((128 : Int) * n) + (H102.2.2.1 83 0 (n))) - (1 : Int)) = H216.2.2.1 91 0 ((((128 : Int) * n) + (H102.2.2.1 83 0 (n))) - (1 : Int)) := by subst hH241; rfl
          have g266 : H241.2.2.1 92 0 ((((128 : Int) * n) + (H102.2.2.1 83 0 (n))) - (1 : Int)) = H216.2.2.1 92 0 ((((128 : Int) * n) + (H102.2.2.1 83 0 (n))) - (1 : Int)) := by subst hH241; rfl
          clear hH241
          have f267 : -1 ≤ H241.2.2.1 93 0 ((((128 : Int) * n) + (H102.2.2.1 83 0 (n))) - (1 : Int)) ∧ H241.2.2.1 93 0 ((((128 : Int) * n) + (H102.2.2.1 83 0 (n))) - (1 : Int)) ≤ 299 := hT242.1 93 ((((128 : Int) * n) + (H102.2.2.1 83 0 (n))) - (1 : Int))
          have f268 : 1 ≤ H241.1 11 12 0 ∧ H241.1 11 12 0 ≤ 300 := hT242.2.1 12
          have f267b : H241.2.2.1 93 0 ((((128 : Int) * n) + (H102.2.2.1 83 0 (n))) - (1 : Int)) < H241.1 11 12 0 := hT242.2.2.1 93 ((((128 : Int) * n) + (H102.2.2.1 83 0 (n))) - (1 : Int)) rfl
          refine J.run 8 rfl ⟨(show 0 ≤ (((128 : Int) * n) + (H102.2.2.1 83 0 (n))) - (1 : Int) ∧ (((128 : Int) * n) + (H102.2.2.1 83 0 (n))) - (1 : Int) < 2048 from ⟨by omega, by omega⟩), (show 0 ≤ n ∧ n < 16 from ⟨by omega, by omega⟩)⟩ ?_
          try dsimp only
          refine J.gn fun H269 hH269 => ?_
          have hT270 : gT H269 := by rw [hH269]; exact gT.upd hT242 (show -1 ≤ H241.2.2.1 93 0 ((((128 : Int) * n) + (H102.2.2.1 83 0 (n))) - (1 : Int)) ∧ H241.2.2.1 93 0 ((((128 : Int) * n) + (H102.2.2.1 83 0 (n))) - (1 : Int)) ≤ 299 from ⟨by omega, by omega⟩) (fun _ => show H241.2.2.1 93 0 ((((128 : Int) * n) + (H102.2.2.1 83 0 (n))) - (1 : Int)) < H241.1 11 12 0 by omega)
          have hE271 : jEx [19, 12, 48, 56, 57, 47] [60, 56, 59, 58, 55, 57, 61, 99, 100, 77, 78, 82, 80, 114, 115, 81, 105, 71, 70, 72, 75, 76, 68, 67, 65, 63, 64, 66, 112, 113, 108, 110, 101, 102, 103, 104, 83, 73, 74, 84, 111, 89, 88, 93, 94, 86, 91, 92, 85, 87, 90] H269 H := by rw [hH269]; exact jEx.row hE243 (by decide)
          have k272 : gP H269 := by rw [hH269]; exact k244
          have k273 : gX H269 := by rw [hH269]; exact k245
          have k274 : gL H269 := by rw [hH269]; exact k246
          have k275 : gZ H269 := by rw [hH269]; exact k247
          have k276 : gQ H269 := by rw [hH269]; exact k248
          have k277 : gB H269 := by rw [hH269]; exact k249
          have k278 : gK H269 := by rw [hH269]; exact k250
          have k279 : gN H269 := by rw [hH269]; exact k251
          have k280 : gV H269 (H269.1 11 19 0) n := by rw [hH269]; exact k252
          have sI := (show H269.2.2.1 114 0 = H241.2.2.1 114 0 from by subst hH269; rfl).trans sI
          have g281 : H269.2.2.1 77 0 (n) = H241.2.2.1 93 0 ((((128 : Int) * n) + (H102.2.2.1 83 0 (n))) - (1 : Int)) := by subst hH269; exact if_pos rfl
          have g282 : H269.1 11 12 0 = H241.1 11 12 0 := by subst hH269; rfl
          have g283 : H269.1 11 19 0 = H241.1 11 19 0 := by subst hH269; rfl
          have g284 : H269.2.2.1 76 0 (n) = H241.2.2.1 76 0 (n) := by subst hH269; rfl
          have g285 : H269.2.2.1 75 0 (n) = H241.2.2.1 75 0 (n) := by subst hH269; rfl
          have g286 : H269.2.2.1 74 0 (n) = H241.2.2.1 74 0 (n) := by subst hH269; rfl
          have g287 : H269.2.2.1 73 0 (n) = H241.2.2.1 73 0 (n) := by subst hH269; rfl
          have g288 : H269.2.2.1 84 0 (n) = H241.2.2.1 84 0 (n) := by subst hH269; rfl
          have g289 : H269.2.2.1 80 0 (n) = H241.2.2.1 80 0 (n) := by subst hH269; rfl
          have g290 : H269.2.2.1 83 0 (n) = H241.2.2.1 83 0 (n) := by subst hH269; rfl
          have g291 : H269.2.2.1 79 0 (n) = H241.2.2.1 79 0 (n) := by subst hH269; rfl
          have g292 : H269.2.2.1 87 0 ((((128 : Int) * n) + (H102.2.2.1 83 0 (n))) - (1 : Int)) = H241.2.2.1 87 0 ((((128 : Int) * n) + (H102.2.2.1 83 0 (n))) - (1 : Int)) := by subst hH269; rfl
          have g293 : H269.2.2.1 90 0 ((((128 : Int) * n) + (H102.2.2.1 83 0 (n))) - (1 : Int)) = H241.2.2.1 90 0 ((((128 : Int) * n) + (H102.2.2.1 83 0 (n))) - (1 : Int)) := by subst hH269; rfl
          have g294 : H269.2.2.1 91 0 ((((128 : Int) * n) + (H102.2.2.1 83 0 (n))) - (1 : Int)) = H241.2.2.1 91 0 ((((128 : Int) * n) + (H102.2.2.1 83 0 (n))) - (1 : Int)) := by subst hH269; rfl
          have g295 : H269.2.2.1 92 0 ((((128 : Int) * n) + (H102.2.2.1 83 0 (n))) - (1 : Int)) = H241.2.2.1 92 0 ((((128 : Int) * n) + (H102.2.2.1 83 0 (n))) - (1 : Int)) := by subst hH269; rfl
          have g296 : H269.2.2.1 93 0 ((((128 : Int) * n) + (H102.2.2.1 83 0 (n))) - (1 : Int)) = H241.2.2.1 93 0 ((((128 : Int) * n) + (H102.2.2.1 83 0 (n))) - (1 : Int)) := by subst hH269; rfl
          clear hH269
          have f297 : -1 ≤ H269.2.2.1 94 0 ((((128 : Int) * n) + (H102.2.2.1 83 0 (n))) - (1 : Int)) ∧ H269.2.2.1 94 0 ((((128 : Int) * n) + (H102.2.2.1 83 0 (n))) - (1 : Int)) ≤ 31 := hT270.1 94 ((((128 : Int) * n) + (H102.2.2.1 83 0 (n))) - (1 : Int))
          refine J.run 8 rfl ⟨(show 0 ≤ (((128 : Int) * n) + (H102.2.2.1 83 0 (n))) - (1 : Int) ∧ (((128 : Int) * n) + (H102.2.2.1 83 0 (n))) - (1 : Int) < 2048 from ⟨by omega, by omega⟩), (show 0 ≤ n ∧ n < 16 from ⟨by omega, by omega⟩)⟩ ?_
          try dsimp only
          refine J.gn fun H298 hH298 => ?_
          have hT299 : gT H298 := by rw [hH298]; exact gT.upd hT270 (show -1 ≤ H269.2.2.1 94 0 ((((128 : Int) * n) + (H102.2.2.1 83 0 (n))) - (1 : Int)) ∧ H269.2.2.1 94 0 ((((128 : Int) * n) + (H102.2.2.1 83 0 (n))) - (1 : Int)) ≤ 31 from ⟨by omega, by omega⟩) (fun z => absurd z (by decide))
          have hE300 : jEx [19, 12, 48, 56, 57, 47] [60, 56, 59, 58, 55, 57, 61, 99, 100, 77, 78, 82, 80, 114, 115, 81, 105, 71, 70, 72, 75, 76, 68, 67, 65, 63, 64, 66, 112, 113, 108, 110, 101, 102, 103, 104, 83, 73, 74, 84, 111, 89, 88, 93, 94, 86, 91, 92, 85, 87, 90] H298 H := by rw [hH298]; exact jEx.row hE271 (by decide)
          have k301 : gP H298 := by rw [hH298]; exact k272
          have k302 : gX H298 := by rw [hH298]; exact k273
          have k303 : gL H298 := by rw [hH298]; exact k274
          have k304 : gZ H298 := by rw [hH298]; exact k275
          have k305 : gQ H298 := by rw [hH298]; exact k276
          have k306 : gB H298 := by rw [hH298]; exact k277
          have k307 : gK H298 := by rw [hH298]; exact k278
          have k308 : gN H298 := by rw [hH298]; exact k279
          have k309 : gV H298 (H298.1 11 19 0) n := by rw [hH298]; exact k280
          have sI := (show H298.2.2.1 114 0 = H269.2.2.1 114 0 from by subst hH298; rfl).trans sI
          have g310 : H298.2.2.1 78 0 (n) = H269.2.2.1 94 0 ((((128 : Int) * n) + (H102.2.2.1 83 0 (n))) - (1 : Int)) := by subst hH298; exact if_pos rfl
          have g311 : H298.1 11 12 0 = H269.1 11 12 0 := by subst hH298; rfl
          have g312 : H298.1 11 19 0 = H269.1 11 19 0 := by subst hH298; rfl
          have g313 : H298.2.2.1 77 0 (n) = H269.2.2.1 77 0 (n) := by subst hH298; rfl
          have g314 : H298.2.2.1 76 0 (n) = H269.2.2.1 76 0 (n) := by subst hH298; rfl
          have g315 : H298.2.2.1 75 0 (n) = H269.2.2.1 75 0 (n) := by subst hH298; rfl
          have g316 : H298.2.2.1 74 0 (n) = H269.2.2.1 74 0 (n) := by subst hH298; rfl
          have g317 : H298.2.2.1 73 0 (n) = H269.2.2.1 73 0 (n) := by subst hH298; rfl
          have g318 : H298.2.2.1 84 0 (n) = H269.2.2.1 84 0 (n) := by subst hH298; rfl
          have g319 : H298.2.2.1 80 0 (n) = H269.2.2.1 80 0 (n) := by subst hH298; rfl
          have g320 : H298.2.2.1 83 0 (n) = H269.2.2.1 83 0 (n) := by subst hH298; rfl
          have g321 : H298.2.2.1 79 0 (n) = H269.2.2.1 79 0 (n) := by subst hH298; rfl
          have g322 : H298.2.2.1 87 0 ((((128 : Int) * n) + (H102.2.2.1 83 0 (n))) - (1 : Int)) = H269.2.2.1 87 0 ((((128 : Int) * n) + (H102.2.2.1 83 0 (n))) - (1 : Int)) := by subst hH298; rfl
          have g323 : H298.2.2.1 90 0 ((((128 : Int) * n) + (H102.2.2.1 83 0 (n))) - (1 : Int)) = H269.2.2.1 90 0 ((((128 : Int) * n) + (H102.2.2.1 83 0 (n))) - (1 : Int)) := by subst hH298; rfl
          have g324 : H298.2.2.1 91 0 ((((128 : Int) * n) + (H102.2.2.1 83 0 (n))) - (1 : Int)) = H269.2.2.1 91 0 ((((128 : Int) * n) + (H102.2.2.1 83 0 (n))) - (1 : Int)) := by subst hH298; rfl
          have g325 : H298.2.2.1 92 0 ((((128 : Int) * n) + (H102.2.2.1 83 0 (n))) - (1 : Int)) = H269.2.2.1 92 0 ((((128 : Int) * n) + (H102.2.2.1 83 0 (n))) - (1 : Int)) := by subst hH298; rfl
          have g326 : H298.2.2.1 93 0 ((((128 : Int) * n) + (H102.2.2.1 83 0 (n))) - (1 : Int)) = H269.2.2.1 93 0 ((((128 : Int) * n) + (H102.2.2.1 83 0 (n))) - (1 : Int)) := by subst hH298; rfl
          have g327 : H298.2.2.1 94 0 ((((128 : Int) * n) + (H102.2.2.1 83 0 (n))) - (1 : Int)) = H269.2.2.1 94 0 ((((128 : Int) * n) + (H102.2.2.1 83 0 (n))) - (1 : Int)) := by subst hH298; rfl
          clear hH298
          refine J.run 5 rfl (show ((0 : Int) = 0 ∨ (0 : Int) = 1) ∧ 0 ≤ n ∧ n < 16 from ⟨by omega, by omega, by omega⟩) ?_
          try dsimp only
          refine J.gn fun H328 hH328 => ?_
          have hT329 : gT H328 := by rw [hH328]; exact gT.upd hT299 (show 0 ≤ (0 : Int) ∧ (0 : Int) ≤ 1 from ⟨by omega, by omega⟩) (fun z => absurd z (by decide))
          have hE330 : jEx [19, 12, 48, 56, 57, 47] [60, 56, 59, 58, 55, 57, 61, 99, 100, 77, 78, 82, 80, 114, 115, 81, 105, 71, 70, 72, 75, 76, 68, 67, 65, 63, 64, 66, 112, 113, 108, 110, 101, 102, 103, 104, 83, 73, 74, 84, 111, 89, 88, 93, 94, 86, 91, 92, 85, 87, 90] H328 H := by rw [hH328]; exact jEx.row hE300 (by decide)
          have k331 : gP H328 := by rw [hH328]; exact k301
          have k332 : gX H328 := by rw [hH328]; exact k302
          have k333 : gL H328 := by rw [hH328]; exact k303
          have k334 : gZ H328 := by rw [hH328]; exact k304
          have k335 : gQ H328 := by rw [hH328]; exact k305
          have k336 : gB H328 := by rw [hH328]; exact k306
          have k337 : gK H328 := by rw [hH328]; exact k307
          have k338 : gN H328 := by rw [hH328]; exact k308
          have k339 : gV H328 (H328.1 11 19 0) n := by rw [hH328]; exact k309
          have sI := (show H328.2.2.1 114 0 = H298.2.2.1 114 0 from by subst hH328; rfl).trans sI
          have g340 : H328.2.2.1 115 0 (n) = (0 : Int) := by subst hH328; exact if_pos rfl
          have g341 : H328.1 11 12 0 = H298.1 11 12 0 := by subst hH328; rfl
          have g342 : H328.1 11 19 0 = H298.1 11 19 0 := by subst hH328; rfl
          have g343 : H328.2.2.1 78 0 (n) = H298.2.2.1 78 0 (n) := by subst hH328; rfl
          have g344 : H328.2.2.1 77 0 (n) = H298.2.2.1 77 0 (n) := by subst hH328; rfl
          have g345 : H328.2.2.1 76 0 (n) = H298.2.2.1 76 0 (n) := by subst hH328; rfl
          have g346 : H328.2.2.1 75 0 (n) = H298.2.2.1 75 0 (n) := by subst hH328; rfl
          have g347 : H328.2.2.1 74 0 (n) = H298.2.2.1 74 0 (n) := by subst hH328; rfl
          have g348 : H328.2.2.1 73 0 (n) = H298.2.2.1 73 0 (n) := by subst hH328; rfl
          have g349 : H328.2.2.1 84 0 (n) = H298.2.2.1 84 0 (n) := by subst hH328; rfl
          have g350 : H328.2.2.1 80 0 (n) = H298.2.2.1 80 0 (n) := by subst hH328; rfl
          have g351 : H328.2.2.1 83 0 (n) = H298.2.2.1 83 0 (n) := by subst hH328; rfl
          have g352 : H328.2.2.1 79 0 (n) = H298.2.2.1 79 0 (n) := by subst hH328; rfl
          have g353 : H328.2.2.1 87 0 ((((128 : Int) * n) + (H102.2.2.1 83 0 (n))) - (1 : Int)) = H298.2.2.1 87 0 ((((128 : Int) * n) + (H102.2.2.1 83 0 (n))) - (1 : Int)) := by subst hH328; rfl
          have g354 : H328.2.2.1 90 0 ((((128 : Int) * n) + (H102.2.2.1 83 0 (n))) - (1 : Int)) = H298.2.2.1 90 0 ((((128 : Int) * n) + (H102.2.2.1 83 0 (n))) - (1 : Int)) := by subst hH328; rfl
          have g355 : H328.2.2.1 91 0 ((((128 : Int) * n) + (H102.2.2.1 83 0 (n))) - (1 : Int)) = H298.2.2.1 91 0 ((((128 : Int) * n) + (H102.2.2.1 83 0 (n))) - (1 : Int)) := by subst hH328; rfl
          have g356 : H328.2.2.1 92 0 ((((128 : Int) * n) + (H102.2.2.1 83 0 (n))) - (1 : Int)) = H298.2.2.1 92 0 ((((128 : Int) * n) + (H102.2.2.1 83 0 (n))) - (1 : Int)) := by subst hH328; rfl
          have g357 : H328.2.2.1 93 0 ((((128 : Int) * n) + (H102.2.2.1 83 0 (n))) - (1 : Int)) = H298.2.2.1 93 0 ((((128 : Int) * n) + (H102.2.2.1 83 0 (n))) - (1 : Int)) := by subst hH328; rfl
          have g358 : H328.2.2.1 94 0 ((((128 : Int) * n) + (H102.2.2.1 83 0 (n))) - (1 : Int)) = H298.2.2.1 94 0 ((((128 : Int) * n) + (H102.2.2.1 83 0 (n))) - (1 : Int)) := by subst hH328; rfl
          clear hH328
          have k359 : gW H328 (H328.1 11 19 0) := gV.back k339 (by omega)
          refine J.run0 4 rfl ?_
          try dsimp only
          exact (g_start_l0 (H0 := H) (n := n)  hp0 ((3000 - ((128 : Int) * n) : Int).toNat + 1)) (H102.2.2.1 83 0 (n)) ((((128 : Int) * n) + (H102.2.2.1 83 0 (n))) - (1 : Int)) ((128 : Int) * n) H328 _ (show 3000 - ((128 : Int) * n) < _ by omega) (show 0 ≤ n ∧ n < 16 from ⟨by omega, by omega⟩) (show 1 ≤ (H102.2.2.1 83 0 (n)) ∧ (H102.2.2.1 83 0 (n)) ≤ 96 from ⟨by omega, by omega⟩) (show ((((128 : Int) * n) + (H102.2.2.1 83 0 (n))) - (1 : Int)) = 128 * n + (H102.2.2.1 83 0 (n)) - 1 from by omega) (show 128 * n ≤ ((128 : Int) * n) ∧ ((128 : Int) * n) ≤ 128 * n + (H102.2.2.1 83 0 (n)) from ⟨by omega, by omega⟩) (show H328.2.2.1 83 0 (n) = (H102.2.2.1 83 0 (n)) from by omega) (show H328.2.2.1 80 0 (n) = 0 from by omega) (show ∀ j, ((128 : Int) * n) ≤ j → j ≤ ((((128 : Int) * n) + (H102.2.2.1 83 0 (n))) - (1 : Int)) → 0 ≤ H328.2.2.1 85 0 j → H328.2.2.1 114 0 (6000 * n + H328.2.2.1 85 0 j) = 0 from (by first | exact (fun j _ _ hz => by have y : -1 ≤ H328.2.2.1 85 0 j ∧ H328.2.2.1 85 0 j ≤ 5999 := hT329.1 85 j; rw [sI]; exact qn _ hz (by omega)) | exact gst1 k0gW ⟨by omega, by omega⟩ (by omega) (by omega) hi6 (by omega) (eL_know.r 85 (by decide)) pL_know_0 | exact gst2 k0gW ⟨by omega, by omega⟩ (by omega) (by omega) hi6 (sW.trans (by rw [eL_spoken.r 85 (by decide)])) (fun z hz => (congrFun sK z).trans (pL_spoken_0 z hz)) | exact (fun j a b => hi6 j (by omega) b))) hT329 hE330 k331 k332 k333 k334 k335 k336 k337 k338 k359 rfl
        · have c360 : ¬ (¬ (H102.2.2.1 83 0 (n) = (0 : Int))) := hc
          clear hc
          refine J.run 5 rfl (show 0 ≤ n ∧ n < 16 from ⟨by omega, by omega⟩) ?_
          try dsimp only
          refine J.gn fun H361 hH361 => ?_
          have hT362 : gT H361 := by rw [hH361]; exact gT.upd hT146 (show -1 ≤ (-1 : Int) ∧ (-1 : Int) ≤ 299 from ⟨by omega, by omega⟩) (fun z => absurd z (by decide))
          have hE363 : jEx [19, 12, 48, 56, 57, 47] [60, 56, 59, 58, 55, 57, 61, 99, 100, 77, 78, 82, 80, 114, 115, 81, 105, 71, 70, 72, 75, 76, 68, 67, 65, 63, 64, 66, 112, 113, 108, 110, 101, 102, 103, 104, 83, 73, 74, 84, 111, 89, 88, 93, 94, 86, 91, 92, 85, 87, 90] H361 H := by rw [hH361]; exact jEx.row hE147 (by decide)
          have k364 : gP H361 := by rw [hH361]; exact k148
          have k365 : gX H361 := by rw [hH361]; exact k149
          have k366 : gL H361 := by rw [hH361]; exact k150
          have k367 : gZ H361 := by rw [hH361]; exact k151
          have k368 : gQ H361 := by rw [hH361]; exact k152
          have k369 : gB H361 := by rw [hH361]; exact k153
          have k370 : gK H361 := by rw [hH361]; exact k154
          have k371 : gN H361 := by rw [hH361]; exact k155
          have k372 : gW H361 (H361.1 11 19 0) := by rw [hH361]; exact k156
          have sI := (show H361.2.2.1 114 0 = H145.2.2.1 114 0 from by subst hH361; rfl).trans sI
          have g373 : H361.2.2.1 75 0 (n) = (-1 : Int) := by subst hH361; exact if_pos rfl
          have g374 : H361.1 11 12 0 = H145.1 11 12 0 := by subst hH361; rfl
          have g375 : H361.1 11 19 0 = H145.1 11 19 0 := by subst hH361; rfl
          have g376 : H361.2.2.1 84 0 (n) = H145.2.2.1 84 0 (n) := by subst hH361; rfl
          have g377 : H361.2.2.1 80 0 (n) = H145.2.2.1 80 0 (n) := by subst hH361; rfl
          have g378 : H361.2.2.1 83 0 (n) = H145.2.2.1 83 0 (n) := by subst hH361; rfl
          have g379 : H361.2.2.1 79 0 (n) = H145.2.2.1 79 0 (n) := by subst hH361; rfl
          have g380 : H361.2.2.1 73 0 (n) = H145.2.2.1 73 0 (n) := by subst hH361; rfl
          have g381 : H361.2.2.1 74 0 (n) = H145.2.2.1 74 0 (n) := by subst hH361; rfl
          clear hH361
          refine J.run 5 rfl (show 0 ≤ n ∧ n < 16 from ⟨by omega, by omega⟩) ?_
          try dsimp only
          refine J.gn fun H382 hH382 => ?_
          have hT383 : gT H382 := by rw [hH382]; exact gT.upd hT362 (show -1 ≤ (-1 : Int) ∧ (-1 : Int) ≤ 31 from ⟨by omega, by omega⟩) (fun z => absurd z (by decide))
          have hE384 : jEx [19, 12, 48, 56, 57, 47] [60, 56, 59, 58, 55, 57, 61, 99, 100, 77, 78, 82, 80, 114, 115, 81, 105, 71, 70, 72, 75, 76, 68, 67, 65, 63, 64, 66, 112, 113, 108, 110, 101, 102, 103, 104, 83, 73, 74, 84, 111, 89, 88, 93, 94, 86, 91, 92, 85, 87, 90] H382 H := by rw [hH382]; exact jEx.row hE363 (by decide)
          have k385 : gP H382 := by rw [hH382]; exact k364
          have k386 : gX H382 := by rw [hH382]; exact k365
          have k387 : gL H382 := by rw [hH382]; exact k366
          have k388 : gZ H382 := by rw [hH382]; exact k367
          have k389 : gQ H382 := by rw [hH382]; exact k368
          have k390 : gB H382 := by rw [hH382]; exact k369
          have k391 : gK H382 := by rw [hH382]; exact k370
          have k392 : gN H382 := by rw [hH382]; exact k371
          have k393 : gW H382 (H382.1 11 19 0) := by rw [hH382]; exact k372
          have sI := (show H382.2.2.1 114 0 = H361.2.2.1 114 0 from by subst hH382; rfl).trans sI
          have g394 : H382.2.2.1 76 0 (n) = (-1 : Int) := by subst hH382; exact if_pos rfl
          have g395 : H382.1 11 12 0 = H361.1 11 12 0 := by subst hH382; rfl
          have g396 : H382.1 11 19 0 = H361.1 11 19 0 := by subst hH382; rfl
          have g397 : H382.2.2.1 75 0 (n) = H361.2.2.1 75 0 (n) := by subst hH382; rfl
          have g398 : H382.2.2.1 84 0 (n) = H361.2.2.1 84 0 (n) := by subst hH382; rfl
          have g399 : H382.2.2.1 80 0 (n) = H361.2.2.1 80 0 (n) := by subst hH382; rfl
          have g400 : H382.2.2.1 83 0 (n) = H361.2.2.1 83 0 (n) := by subst hH382; rfl
          have g401 : H382.2.2.1 79 0 (n) = H361.2.2.1 79 0 (n) := by subst hH382; rfl
          have g402 : H382.2.2.1 73 0 (n) = H361.2.2.1 73 0 (n) := by subst hH382; rfl
          have g403 : H382.2.2.1 74 0 (n) = H361.2.2.1 74 0 (n) := by subst hH382; rfl
          clear hH382
          have f404 : 1 ≤ H382.1 11 12 0 ∧ H382.1 11 12 0 ≤ 300 := hT383.2.1 12
          refine J.run 5 rfl (show 0 ≤ n ∧ n < 16 from ⟨by omega, by omega⟩) ?_
          try dsimp only
          refine J.gn fun H405 hH405 => ?_
          have hT406 : gT H405 := by rw [hH405]; exact gT.upd hT383 (show -1 ≤ (-1 : Int) ∧ (-1 : Int) ≤ 299 from ⟨by omega, by omega⟩) (fun _ => show (-1 : Int) < H382.1 11 12 0 by omega)
          have hE407 : jEx [19, 12, 48, 56, 57, 47] [60, 56, 59, 58, 55, 57, 61, 99, 100, 77, 78, 82, 80, 114, 115, 81, 105, 71, 70, 72, 75, 76, 68, 67, 65, 63, 64, 66, 112, 113, 108, 110, 101, 102, 103, 104, 83, 73, 74, 84, 111, 89, 88, 93, 94, 86, 91, 92, 85, 87, 90] H405 H := by rw [hH405]; exact jEx.row hE384 (by decide)
          have k408 : gP H405 := by rw [hH405]; exact k385
          have k409 : gX H405 := by rw [hH405]; exact k386
          have k410 : gL H405 := by rw [hH405]; exact k387
          have k411 : gZ H405 := by rw [hH405]; exact k388
          have k412 : gQ H405 := by rw [hH405]; exact k389
          have k413 : gB H405 := by rw [hH405]; exact k390
          have k414 : gK H405 := by rw [hH405]; exact k391
          have k415 : gN H405 := by rw [hH405]; exact k392
          have k416 : gW H405 (H405.1 11 19 0) := by rw [hH405]; exact k393
          have sI := (show H405.2.2.1 114 0 = H382.2.2.1 114 0 from by subst hH405; rfl).trans sI
          have g417 : H405.2.2.1 77 0 (n) = (-1 : Int) := by subst hH405; exact if_pos rfl
          have g418 : H405.1 11 12 0 = H382.1 11 12 0 := by subst hH405; rfl
          have g419 : H405.1 11 19 0 = H382.1 11 19 0 := by subst hH405; rfl
          have g420 : H405.2.2.1 76 0 (n) = H382.2.2.1 76 0 (n) := by subst hH405; rfl
          have g421 : H405.2.2.1 75 0 (n) = H382.2.2.1 75 0 (n) := by subst hH405; rfl
          have g422 : H405.2.2.1 84 0 (n) = H382.2.2.1 84 0 (n) := by subst hH405; rfl
          have g423 : H405.2.2.1 80 0 (n) = H382.2.2.1 80 0 (n) := by subst hH405; rfl
          have g424 : H405.2.2.1 83 0 (n) = H382.2.2.1 83 0 (n) := by subst hH405; rfl
          have g425 : H405.2.2.1 79 0 (n) = H382.2.2.1 79 0 (n) := by subst hH405; rfl
          have g426 : H405.2.2.1 73 0 (n) = H382.2.2.1 73 0 (n) := by subst hH405; rfl
          have g427 : H405.2.2.1 74 0 (n) = H382.2.2.1 74 0 (n) := by subst hH405; rfl
          clear hH405
          refine J.run 5 rfl (show 0 ≤ n ∧ n < 16 from ⟨by omega, by omega⟩) ?_
          try dsimp only
          refine J.gn fun H428 hH428 => ?_
          have hT429 : gT H428 := by rw [hH428]; exact gT.upd hT406 (show -1 ≤ (-1 : Int) ∧ (-1 : Int) ≤ 31 from ⟨by omega, by omega⟩) (fun z => absurd z (by decide))
          have hE430 : jEx [19, 12, 48, 56, 57, 47] [60, 56, 59, 58, 55, 57, 61, 99, 100, 77, 78, 82, 80, 114, 115, 81, 105, 71, 70, 72, 75, 76, 68, 67, 65, 63, 64, 66, 112, 113, 108, 110, 101, 102, 103, 104, 83, 73, 74, 84, 111, 89, 88, 93, 94, 86, 91, 92, 85, 87, 90] H428 H := by rw [hH428]; exact jEx.row hE407 (by decide)
          have k431 : gP H428 := by rw [hH428]; exact k408
          have k432 : gX H428 := by rw [hH428]; exact k409
          have k433 : gL H428 := by rw [hH428]; exact k410
          have k434 : gZ H428 := by rw [hH428]; exact k411
          have k435 : gQ H428 := by rw [hH428]; exact k412
          have k436 : gB H428 := by rw [hH428]; exact k413
          have k437 : gK H428 := by rw [hH428]; exact k414
          have k438 : gN H428 := by rw [hH428]; exact k415
          have k439 : gW H428 (H428.1 11 19 0) := by rw [hH428]; exact k416
          have sI := (show H428.2.2.1 114 0 = H405.2.2.1 114 0 from by subst hH428; rfl).trans sI
          have g440 : H428.2.2.1 78 0 (n) = (-1 : Int) := by subst hH428; exact if_pos rfl
          have g441 : H428.1 11 12 0 = H405.1 11 12 0 := by subst hH428; rfl
          have g442 : H428.1 11 19 0 = H405.1 11 19 0 := by subst hH428; rfl
          have g443 : H428.2.2.1 77 0 (n) = H405.2.2.1 77 0 (n) := by subst hH428; rfl
          have g444 : H428.2.2.1 76 0 (n) = H405.2.2.1 76 0 (n) := by subst hH428; rfl
          have g445 : H428.2.2.1 75 0 (n) = H405.2.2.1 75 0 (n) := by subst hH428; rfl
          have g446 : H428.2.2.1 84 0 (n) = H405.2.2.1 84 0 (n) := by subst hH428; rfl
          have g447 : H428.2.2.1 80 0 (n) = H405.2.2.1 80 0 (n) := by subst hH428; rfl
          have g448 : H428.2.2.1 83 0 (n) = H405.2.2.1 83 0 (n) := by subst hH428; rfl
          have g449 : H428.2.2.1 79 0 (n) = H405.2.2.1 79 0 (n) := by subst hH428; rfl
          have g450 : H428.2.2.1 73 0 (n) = H405.2.2.1 73 0 (n) := by subst hH428; rfl
          have g451 : H428.2.2.1 74 0 (n) = H405.2.2.1 74 0 (n) := by subst hH428; rfl
          clear hH428
          refine J.run0 3 rfl ?_
          try dsimp only
          refine J.inv rfl rfl rfl rfl rfl rfl jDr rfl rfl rfl rfl rfl (g_begins (n := n) (q := (0 : Int)) (u := 16) hT429 k431 k432 k433 k434 k435 k436 k437 k438 k439 gU.triv (show 0 ≤ (n) ∧ (n) < 16 from ⟨by omega, by omega⟩) (show 0 ≤ ((0 : Int)) ∧ ((0 : Int)) < 32 from ⟨by omega, by omega⟩) (show H428.2.2.1 83 0 ((n)) ≤ 3 * ((0 : Int)) from by omega) (show H428.2.2.1 80 0 ((n)) = 0 from by omega) (show (n) < (16) from by omega)) ?_
          rintro v w H454 ⟨rfl, hT455, ehE456, k457, k458, k459, k460, k461, k462, k463, k464, k465, k466, p467, p468, rfl⟩
          have hE456 := jEx.trans ehE456 hE430 (by decide) (by decide)
          have p467' : 192 * H428.2.2.1 56 0 (H428.2.2.1 72 0 ((n))) + 6 * ((0 : Int)) ≤ 192 * H454.2.2.1 56 0 (H454.2.2.1 72 0 ((n))) + 6 * H454.2.2.1 73 0 ((n)) + 2 * H454.2.2.1 74 0 ((n)) + H454.2.2.1 115 0 ((n)) := p467
          have p468' : H428.1 11 19 0 ≤ H454.1 11 19 0 := p468
          have pL_begins_0 := p467'
          have pL_begins_1 := p468'
          have g469 : H454.2.2.1 78 0 (n) = H428.2.2.1 78 0 (n) := congrFun (ehE456.r 78 (by decide)) _
          have g470 : H454.2.2.1 77 0 (n) = H428.2.2.1 77 0 (n) := congrFun (ehE456.r 77 (by decide)) _
          have g471 : H454.2.2.1 76 0 (n) = H428.2.2.1 76 0 (n) := congrFun (ehE456.r 76 (by decide)) _
          have g472 : H454.2.2.1 75 0 (n) = H428.2.2.1 75 0 (n) := congrFun (ehE456.r 75 (by decide)) _
          have g473 : H454.2.2.1 79 0 (n) = H428.2.2.1 79 0 (n) := congrFun (ehE456.r 79 (by decide)) _
          have eL_begins := ehE456
          try dsimp only [Option.toList, List.append, List.cons_append, List.nil_append]
          refine J.run0 3 rfl ?_
          try dsimp only
          refine J.inv rfl rfl rfl rfl rfl rfl jDr rfl rfl rfl rfl rfl (g_act (n := n) (u := 16) hT455 k457 k458 k459 k460 k461 k462 k463 k464 k465 gU.triv (show 0 ≤ (n) ∧ (n) < 16 from ⟨by omega, by omega⟩) (show (n) < (16) from by omega)) ?_
          rintro v w H476 ⟨rfl, hT477, ehE478, k479, k480, k481, k482, k483, k484, k485, k486, k487, k488, p489, rfl⟩
          have hE478 := jEx.trans ehE478 hE456 (by decide) (by decide)
          have p489' : H454.1 11 19 0 ≤ H476.1 11 19 0 := p489
          have pL_act_0 := p489'
          have g490 : H476.2.2.1 79 0 (n) = H454.2.2.1 79 0 (n) := congrFun (ehE478.r 79 (by decide)) _
          have eL_act := ehE478
          try dsimp only [Option.toList, List.append, List.cons_append, List.nil_append]
          refine J.run0 1 rfl ?_
          try dsimp only
          exact J.reti rfl rfl rfl ⟨_, rfl, rfl, hT477, hE478, k479, k480, k481, k482, k483, k484, k485, k486, k487, _, rfl, (show 0 ≤ (H102.2.2.1 83 0 (n)) ∧ (H102.2.2.1 83 0 (n)) ≤ 96 from ⟨by omega, by omega⟩)⟩
      · have c491 : ¬ (H102.1 11 47 0 ≤ (0 : Int)) := hc
        clear hc
        refine J.run0 1 rfl ?_
        try dsimp only
        exact J.reti rfl rfl rfl ⟨_, rfl, rfl, hT103, hE104, k105, k106, k107, k108, k109, k110, k111, k112, k113, _, rfl, (show 0 ≤ ((0 : Int)) ∧ ((0 : Int)) ≤ 96 from ⟨by omega, by omega⟩)⟩
    · have c492 : ¬ (¬ (H.2.2.1 80 0 (n) = (0 : Int))) := hc
      clear hc
      refine J.run0 3 rfl ?_
      try dsimp only
      refine J.gn fun H493 hH493 => ?_
      have hT494 : gT H493 := by rw [hH493]; exact gT.num (f := 47) hT (show 0 ≤ (2 : Int) ∧ (2 : Int) ≤ 3 from ⟨by omega, by omega⟩) (by decide) (fun z => absurd z (by decide))
      have hE495 : jEx [19, 12, 48, 56, 57, 47] [60, 56, 59, 58, 55, 57, 61, 99, 100, 77, 78, 82, 80, 114, 115, 81, 105, 71, 70, 72, 75, 76, 68, 67, 65, 63, 64, 66, 112, 113, 108, 110, 101, 102, 103, 104, 83, 73, 74, 84, 111, 89, 88, 93, 94, 86, 91, 92, 85, 87, 90] H493 H := by rw [hH493]; exact jEx.num hE (by decide)
      have k496 : gP H493 := by rw [hH493]; exact k0gP
      have k497 : gX H493 := by rw [hH493]; exact k0gX
      have k498 : gL H493 := by rw [hH493]; exact k0gL
      have k499 : gZ H493 := by rw [hH493]; exact k0gZ
      have k500 : gQ H493 := by rw [hH493]; exact k0gQ
      have k501 : gB H493 := by rw [hH493]; exact k0gB
      have k502 : gK H493 := by rw [hH493]; exact k0gK
      have k503 : gN H493 := by rw [hH493]; exact k0gN
      have k504 : gW H493 (H493.1 11 19 0) := by rw [hH493]; exact k0gW
      have g505 : H493.1 11 47 0 = (2 : Int) := by subst hH493; rfl
      have g506 : H493.1 11 12 0 = H.1 11 12 0 := by subst hH493; rfl
      have g507 : H493.1 11 19 0 = H.1 11 19 0 := by subst hH493; rfl
      have g508 : H493.2.2.1 80 0 (n) = H.2.2.1 80 0 (n) := by subst hH493; rfl
      have g509 : H493.2.2.1 83 0 (n) = H.2.2.1 83 0 (n) := by subst hH493; rfl
      have g510 : H493.2.2.1 79 0 (n) = H.2.2.1 79 0 (n) := by subst hH493; rfl
      have g511 : H493.2.2.1 73 0 (n) = H.2.2.1 73 0 (n) := by subst hH493; rfl
      have g512 : H493.2.2.1 74 0 (n) = H.2.2.1 74 0 (n) := by subst hH493; rfl
      clear hH493
      have f513 : 0 ≤ H493.1 11 47 0 ∧ H493.1 11 47 0 ≤ 3 := hT494.2.1 47
      refine J.run0 2 rfl ?_
      try dsimp only
      refine J.ifc rfl rfl rfl (show -2147483648 ≤ H493.1 11 47 0 ∧ H493.1 11 47 0 ≤ 2147483647 from ⟨by omega, by omega⟩) (fun hc => ?_) (fun hc => ?_)
      · have c514 : H493.1 11 47 0 ≤ (0 : Int) := hc
        clear hc
        have qn : ∀ z, 0 ≤ z → z < 6000 → H493.2.2.1 114 0 (6000 * n + z) = 0 := gK.none k502 hT494 ⟨by omega, by omega⟩ (k501 n (by omega) (by omega) (by omega)).1
        have sI : H493.2.2.1 114 0 = H493.2.2.1 114 0 := rfl
        have f515 : 0 ≤ H493.2.2.1 83 0 (n) ∧ H493.2.2.1 83 0 (n) ≤ 96 := hT494.1 83 (n)
        refine J.run 10 rfl ⟨(show 0 ≤ n ∧ n < 16 from ⟨by omega, by omega⟩), (show ((0 : Int) = 0 ∨ (0 : Int) = 1) ∧ 0 ≤ n ∧ n < 16 from ⟨by omega, by omega, by omega⟩)⟩ ?_
        try dsimp only
        refine J.gn fun H516 hH516 => ?_
        have hT517 : gT H516 := by rw [hH516]; exact gT.upd hT494 (show 0 ≤ (0 : Int) ∧ (0 : Int) ≤ 1 from ⟨by omega, by omega⟩) (fun z => absurd z (by decide))
        have hE518 : jEx [19, 12, 48, 56, 57, 47] [60, 56, 59, 58, 55, 57, 61, 99, 100, 77, 78, 82, 80, 114, 115, 81, 105, 71, 70, 72, 75, 76, 68, 67, 65, 63, 64, 66, 112, 113, 108, 110, 101, 102, 103, 104, 83, 73, 74, 84, 111, 89, 88, 93, 94, 86, 91, 92, 85, 87, 90] H516 H := by rw [hH516]; exact jEx.row hE495 (by decide)
        have k519 : gP H516 := by rw [hH516]; exact k496
        have k520 : gX H516 := by rw [hH516]; exact k497
        have k521 : gL H516 := by rw [hH516]; exact k498
        have k522 : gZ H516 := by rw [hH516]; exact k499
        have k523 : gQ H516 := by rw [hH516]; exact k500
        have k524 : gB H516 := by rw [hH516]; exact gB.wd k501 rfl
        have k525 : gK H516 := by rw [hH516]; exact k502
        have k526 : gN H516 := by rw [hH516]; exact k503
        have k527 : gW H516 (H516.1 11 19 0) := by rw [hH516]; exact k504
        have sI := (show H516.2.2.1 114 0 = H493.2.2.1 114 0 from by subst hH516; rfl).trans sI
        have g528 : H516.2.2.1 80 0 (n) = (0 : Int) := by subst hH516; exact if_pos rfl
        have g529 : H516.1 11 12 0 = H493.1 11 12 0 := by subst hH516; rfl
        have g530 : H516.1 11 19 0 = H493.1 11 19 0 := by subst hH516; rfl
        have g532 : H516.2.2.1 83 0 (n) = H493.2.2.1 83 0 (n) := by subst hH516; rfl
        have g533 : H516.2.2.1 79 0 (n) = H493.2.2.1 79 0 (n) := by subst hH516; rfl
        have g534 : H516.2.2.1 73 0 (n) = H493.2.2.1 73 0 (n) := by subst hH516; rfl
        have g535 : H516.2.2.1 74 0 (n) = H493.2.2.1 74 0 (n) := by subst hH516; rfl
        clear hH516
        refine J.run 5 rfl (show 0 ≤ n ∧ n < 16 from ⟨by omega, by omega⟩) ?_
        try dsimp only
        refine J.gn fun H536 hH536 => ?_
        have hT537 : gT H536 := by rw [hH536]; exact gT.upd hT517 (show 0 ≤ (0 : Int) ∧ (0 : Int) ≤ 11 from ⟨by omega, by omega⟩) (fun z => absurd z (by decide))
        have hE538 : jEx [19, 12, 48, 56, 57, 47] [60, 56, 59, 58, 55, 57, 61, 99, 100, 77, 78, 82, 80, 114, 115, 81, 105, 71, 70, 72, 75, 76, 68, 67, 65, 63, 64, 66, 112, 113, 108, 110, 101, 102, 103, 104, 83, 73, 74, 84, 111, 89, 88, 93, 94, 86, 91, 92, 85, 87, 90] H536 H := by rw [hH536]; exact jEx.row hE518 (by decide)
        have k539 : gP H536 := by rw [hH536]; exact k519
        have k540 : gX H536 := by rw [hH536]; exact k520
        have k541 : gL H536 := by rw [hH536]; exact k521
        have k542 : gZ H536 := by rw [hH536]; exact k522
        have k543 : gQ H536 := by rw [hH536]; exact k523
        have k544 : gB H536 := by rw [hH536]; exact k524
        have k545 : gK H536 := by rw [hH536]; exact k525
        have k546 : gN H536 := by rw [hH536]; exact k526
        have k547 : gW H536 (H536.1 11 19 0) := by rw [hH536]; exact k527
        have sI := (show H536.2.2.1 114 0 = H516.2.2.1 114 0 from by subst hH536; rfl).trans sI
        have g548 : H536.2.2.1 84 0 (n) = (0 : Int) := by subst hH536; exact if_pos rfl
        have g549 : H536.1 11 12 0 = H516.1 11 12 0 := by subst hH536; rfl
        have g550 : H536.1 11 19 0 = H516.1 11 19 0 := by subst hH536; rfl
        have g551 : H536.2.2.1 80 0 (n) = H516.2.2.1 80 0 (n) := by subst hH536; rfl
        have g552 : H536.2.2.1 83 0 (n) = H516.2.2.1 83 0 (n) := by subst hH536; rfl
        have g553 : H536.2.2.1 79 0 (n) = H516.2.2.1 79 0 (n) := by subst hH536; rfl
        have g554 : H536.2.2.1 73 0 (n) = H516.2.2.1 73 0 (n) := by subst hH536; rfl
        have g555 : H536.2.2.1 74 0 (n) = H516.2.2.1 74 0 (n) := by subst hH536; rfl
        clear hH536
        refine J.run0 1 rfl ?_
        try dsimp only
        refine J.ifc rfl rfl rfl (show -2147483648 ≤ H493.2.2.1 83 0 (n) ∧ H493.2.2.1 83 0 (n) ≤ 2147483647 from ⟨by omega, by omega⟩) (fun hc => ?_) (fun hc => ?_)
        · have c556 : ¬ (H493.2.2.1 83 0 (n) = (0 : Int)) := hc
          clear hc
          refine J.run0 8 rfl ?_
          try dsimp only
          have qv := ((k547 n (by omega) (by omega)).2.1 (H493.2.2.1 83 0 (n) - 1) (by omega) (by omega)).1
          rw [show 128 * n + (H493.2.2.1 83 0 (n) - 1) = (((128 : Int) * n) + (H493.2.2.1 83 0 (n))) - (1 : Int) by omega] at qv
          have k557 : gV H536 (H536.1 11 19 0) n := gV.of k547
          have f558 : 0 ≤ H536.2.2.1 87 0 ((((128 : Int) * n) + (H493.2.2.1 83 0 (n))) - (1 : Int)) ∧ H536.2.2.1 87 0 ((((128 : Int) * n) + (H493.2.2.1 83 0 (n))) - (1 : Int)) ≤ 31 := hT537.1 87 ((((128 : Int) * n) + (H493.2.2.1 83 0 (n))) - (1 : Int))
          refine J.run 8 rfl ⟨(show 0 ≤ (((128 : Int) * n) + (H493.2.2.1 83 0 (n))) - (1 : Int) ∧ (((128 : Int) * n) + (H493.2.2.1 83 0 (n))) - (1 : Int) < 2048 from ⟨by omega, by omega⟩), (show 0 ≤ n ∧ n < 16 from ⟨by omega, by omega⟩)⟩ ?_
          try dsimp only
          refine J.gn fun H559 hH559 => ?_
          have hT560 : gT H559 := by rw [hH559]; exact gT.upd hT537 (show 0 ≤ H536.2.2.1 87 0 ((((128 : Int) * n) + (H493.2.2.1 83 0 (n))) - (1 : Int)) ∧ H536.2.2.1 87 0 ((((128 : Int) * n) + (H493.2.2.1 83 0 (n))) - (1 : Int)) ≤ 31 from ⟨by omega, by omega⟩) (fun z => absurd z (by decide))
          have hE561 : jEx [19, 12, 48, 56, 57, 47] [60, 56, 59, 58, 55, 57, 61, 99, 100, 77, 78, 82, 80, 114, 115, 81, 105, 71, 70, 72, 75, 76, 68, 67, 65, 63, 64, 66, 112, 113, 108, 110, 101, 102, 103, 104, 83, 73, 74, 84, 111, 89, 88, 93, 94, 86, 91, 92, 85, 87, 90] H559 H := by rw [hH559]; exact jEx.row hE538 (by decide)
          have k562 : gP H559 := by rw [hH559]; exact k539
          have k563 : gX H559 := by rw [hH559]; exact k540
          have k564 : gL H559 := by rw [hH559]; exact k541
          have k565 : gZ H559 := by rw [hH559]; exact k542
          have k566 : gQ H559 := by rw [hH559]; exact k543
          have k567 : gB H559 := by rw [hH559]; exact k544
          have k568 : gK H559 := by rw [hH559]; exact k545
          have k569 : gN H559 := by rw [hH559]; exact k546
          have k570 : gV H559 (H559.1 11 19 0) n := by rw [hH559]; exact gV.round k557
          have sI := (show H559.2.2.1 114 0 = H536.2.2.1 114 0 from by subst hH559; rfl).trans sI
          have g571 : H559.2.2.1 73 0 (n) = H536.2.2.1 87 0 ((((128 : Int) * n) + (H493.2.2.1 83 0 (n))) - (1 : Int)) := by subst hH559; exact if_pos rfl
          have g572 : H559.1 11 12 0 = H536.1 11 12 0 := by subst hH559; rfl
          have g573 : H559.1 11 19 0 = H536.1 11 19 0 := by subst hH559; rfl
          have g574 : H559.2.2.1 84 0 (n) = H536.2.2.1 84 0 (n) := by subst hH559; rfl
          have g575 : H559.2.2.1 80 0 (n) = H536.2.2.1 80 0 (n) := by subst hH559; rfl
          have g576 : H559.2.2.1 83 0 (n) = H536.2.2.1 83 0 (n) := by subst hH559; rfl
          have g577 : H559.2.2.1 79 0 (n) = H536.2.2.1 79 0 (n) := by subst hH559; rfl
          have g579 : H559.2.2.1 74 0 (n) = H536.2.2.1 74 0 (n) := by subst hH559; rfl
          have g580 : H559.2.2.1 87 0 ((((128 : Int) * n) + (H493.2.2.1 83 0 (n))) - (1 : Int)) = H536.2.2.1 87 0 ((((128 : Int) * n) + (H493.2.2.1 83 0 (n))) - (1 : Int)) := by subst hH559; rfl
          have g581 : H559.2.2.1 90 0 ((((128 : Int) * n) + (H493.2.2.1 83 0 (n))) - (1 : Int)) = H536.2.2.1 90 0 ((((128 : Int) * n) + (H493.2.2.1 83 0 (n))) - (1 : Int)) := by subst hH559; rfl
          clear hH559
          have f582 : 0 ≤ H559.2.2.1 90 0 ((((128 : Int) * n) + (H493.2.2.1 83 0 (n))) - (1 : Int)) ∧ H559.2.2.1 90 0 ((((128 : Int) * n) + (H493.2.2.1 83 0 (n))) - (1 : Int)) ≤ 2 := hT560.1 90 ((((128 : Int) * n) + (H493.2.2.1 83 0 (n))) - (1 : Int))
          refine J.run 8 rfl ⟨(show 0 ≤ (((128 : Int) * n) + (H493.2.2.1 83 0 (n))) - (1 : Int) ∧ (((128 : Int) * n) + (H493.2.2.1 83 0 (n))) - (1 : Int) < 2048 from ⟨by omega, by omega⟩), (show 0 ≤ n ∧ n < 16 from ⟨by omega, by omega⟩)⟩ ?_
          try dsimp only
          refine J.gn fun H583 hH583 => ?_
          have hT584 : gT H583 := by rw [hH583]; exact gT.upd hT560 (show 0 ≤ H559.2.2.1 90 0 ((((128 : Int) * n) + (H493.2.2.1 83 0 (n))) - (1 : Int)) ∧ H559.2.2.1 90 0 ((((128 : Int) * n) + (H493.2.2.1 83 0 (n))) - (1 : Int)) ≤ 2 from ⟨by omega, by omega⟩) (fun z => absurd z (by decide))
          have hE585 : jEx [19, 12, 48, 56, 57, 47] [60, 56, 59, 58, 55, 57, 61, 99, 100, 77, 78, 82, 80, 114, 115, 81, 105, 71, 70, 72, 75, 76, 68, 67, 65, 63, 64, 66, 112, 113, 108, 110, 101, 102, 103, 104, 83, 73, 74, 84, 111, 89, 88, 93, 94, 86, 91, 92, 85, 87, 90] H583 H := by rw [hH583]; exact jEx.row hE561 (by decide)
          have k586 : gP H583 := by rw [hH583]; exact k562
          have k587 : gX H583 := by rw [hH583]; exact k563
          have k588 : gL H583 := by rw [hH583]; exact k564
          have k589 : gZ H583 := by rw [hH583]; exact k565
          have k590 : gQ H583 := by rw [hH583]; exact k566
          have k591 : gB H583 := by rw [hH583]; exact k567
          have k592 : gK H583 := by rw [hH583]; exact k568
          have k593 : gN H583 := by rw [hH583]; exact k569
          have k594 : gV H583 (H583.1 11 19 0) n := by rw [hH583]; exact gV.step k570
          have sI := (show H583.2.2.1 114 0 = H559.2.2.1 114 0 from by subst hH583; rfl).trans sI
          have g595 : H583.2.2.1 74 0 (n) = H559.2.2.1 90 0 ((((128 : Int) * n) + (H493.2.2.1 83 0 (n))) - (1 : Int)) := by subst hH583; exact if_pos rfl
          have g596 : H583.1 11 12 0 = H559.1 11 12 0 := by subst hH583; rfl
          have g597 : H583.1 11 19 0 = H559.1 11 19 0 := by subst hH583; rfl
          have g598 : H583.2.2.1 73 0 (n) = H559.2.2.1 73 0 (n) := by subst hH583; rfl
          have g599 : H583.2.2.1 84 0 (n) = H559.2.2.1 84 0 (n) := by subst hH583; rfl
          have g600 : H583.2.2.1 80 0 (n) = H559.2.2.1 80 0 (n) := by subst hH583; rfl
          have g601 : H583.2.2.1 83 0 (n) = H559.2.2.1 83 0 (n) := by subst hH583; rfl
          have g602 : H583.2.2.1 79 0 (n) = H559.2.2.1 79 0 (n) := by subst hH583; rfl
          have g604 : H583.2.2.1 87 0 ((((128 : Int) * n) + (H493.2.2.1 83 0 (n))) - (1 : Int)) = H559.2.2.1 87 0 ((((128 : Int) * n) + (H493.2.2.1 83 0 (n))) - (1 : Int)) := by subst hH583; rfl
          have g605 : H583.2.2.1 90 0 ((((128 : Int) * n) + (H493.2.2.1 83 0 (n))) - (1 : Int)) = H559.2.2.1 90 0 ((((128 : Int) * n) + (H493.2.2.1 83 0 (n))) - (1 : Int)) := by subst hH583; rfl
          clear hH583
          have f606 : -1 ≤ H583.2.2.1 91 0 ((((128 : Int) * n) + (H493.2.2.1 83 0 (n))) - (1 : Int)) ∧ H583.2.2.1 91 0 ((((128 : Int) * n) + (H493.2.2.1 83 0 (n))) - (1 : Int)) ≤ 299 := hT584.1 91 ((((128 : Int) * n) + (H493.2.2.1 83 0 (n))) - (1 : Int))
          refine J.run 8 rfl ⟨(show 0 ≤ (((128 : Int) * n) + (H493.2.2.1 83 0 (n))) - (1 : Int) ∧ (((128 : Int) * n) + (H493.2.2.1 83 0 (n))) - (1 : Int) < 2048 from ⟨by omega, by omega⟩), (show 0 ≤ n ∧ n < 16 from ⟨by omega, by omega⟩)⟩ ?_
          try dsimp only
          refine J.gn fun H607 hH607 => ?_
          have hT608 : gT H607 := by rw [hH607]; exact gT.upd hT584 (show -1 ≤ H583.2.2.1 91 0 ((((128 : Int) * n) + (H493.2.2.1 83 0 (n))) - (1 : Int)) ∧ H583.2.2.1 91 0 ((((128 : Int) * n) + (H493.2.2.1 83 0 (n))) - (1 : Int)) ≤ 299 from ⟨by omega, by omega⟩) (fun z => absurd z (by decide))
          have hE609 : jEx [19, 12, 48, 56, 57, 47] [60, 56, 59, 58, 55, 57, 61, 99, 100, 77, 78, 82, 80, 114, 115, 81, 105, 71, 70, 72, 75, 76, 68, 67, 65, 63, 64, 66, 112, 113, 108, 110, 101, 102, 103, 104, 83, 73, 74, 84, 111, 89, 88, 93, 94, 86, 91, 92, 85, 87, 90] H607 H := by rw [hH607]; exact jEx.row hE585 (by decide)
          have k610 : gP H607 := by rw [hH607]; exact k586
          have k611 : gX H607 := by rw [hH607]; exact k587
          have k612 : gL H607 := by rw [hH607]; exact k588
          have k613 : gZ H607 := by rw [hH607]; exact k589
          have k614 : gQ H607 := by rw [hH607]; exact k590
          have k615 : gB H607 := by rw [hH607]; exact k591
          have k616 : gK H607 := by rw [hH607]; exact k592
          have k617 : gN H607 := by rw [hH607]; exact k593
          have k618 : gV H607 (H607.1 11 19 0) n := by rw [hH607]; exact k594
          have sI := (show H607.2.2.1 114 0 = H583.2.2.1 114 0 from by subst hH607; rfl).trans sI
          have g619 : H607.2.2.1 75 0 (n) = H583.2.2.1 91 0 ((((128 : Int) * n) + (H493.2.2.1 83 0 (n))) - (1 : Int)) := by subst hH607; exact if_pos rfl
          have g620 : H607.1 11 12 0 = H583.1 11 12 0 := by subst hH607; rfl
          have g621 : H607.1 11 19 0 = H583.1 11 19 0 := by subst hH607; rfl
          have g622 : H607.2.2.1 74 0 (n) = H583.2.2.1 74 0 (n) := by subst hH607; rfl
          have g623 : H607.2.2.1 73 0 (n) = H583.2.2.1 73 0 (n) := by subst hH607; rfl
          have g624 : H607.2.2.1 84 0 (n) = H583.2.2.1 84 0 (n) := by subst hH607; rfl
          have g625 : H607.2.2.1 80 0 (n) = H583.2.2.1 80 0 (n) := by subst hH607; rfl
          have g626 : H607.2.2.1 83 0 (n) = H583.2.2.1 83 0 (n) := by subst hH607; rfl
          have g627 : H607.2.2.1 79 0 (n) = H583.2.2.1 79 0 (n) := by subst hH607; rfl
          have g628 : H607.2.2.1 87 0 ((((128 : Int) * n) + (H493.2.2.1 83 0 (n))) - (1 : Int)) = H583.2.2.1 87 0 ((((128 : Int) * n) + (H493.2.2.1 83 0 (n))) - (1 : Int)) := by subst hH607; rfl
          have g629 : H607.2.2.1 90 0 ((((128 : Int) * n) + (H493.2.2.1 83 0 (n))) - (1 : Int)) = H583.2.2.1 90 0 ((((128 : Int) * n) + (H493.2.2.1 83 0 (n))) - (1 : Int)) := by subst hH607; rfl
          have g630 : H607.2.2.1 91 0 ((((128 : Int) * n) + (H493.2.2.1 83 0 (n))) - (1 : Int)) = H583.2.2.1 91 0 ((((128 : Int) * n) + (H493.2.2.1 83 0 (n))) - (1 : Int)) := by subst hH607; rfl
          clear hH607
          have f631 : -1 ≤ H607.2.2.1 92 0 ((((128 : Int) * n) + (H493.2.2.1 83 0 (n))) - (1 : Int)) ∧ H607.2.2.1 92 0 ((((128 : Int) * n) + (H493.2.2.1 83 0 (n))) - (1 : Int)) ≤ 31 := hT608.1 92 ((((128 : Int) * n) + (H493.2.2.1 83 0 (n))) - (1 : Int))
          refine J.run 8 rfl ⟨(show 0 ≤ (((128 : Int) * n) + (H493.2.2.1 83 0 (n))) - (1 : Int) ∧ (((128 : Int) * n) + (H493.2.2.1 83 0 (n))) - (1 : Int) < 2048 from ⟨by omega, by omega⟩), (show 0 ≤ n ∧ n < 16 from ⟨by omega, by omega⟩)⟩ ?_
          try dsimp only
          refine J.gn fun H632 hH632 => ?_
          have hT633 : gT H632 := by rw [hH632]; exact gT.upd hT608 (show -1 ≤ H607.2.2.1 92 0 ((((128 : Int) * n) + (H493.2.2.1 83 0 (n))) - (1 : Int)) ∧ H607.2.2.1 92 0 ((((128 : Int) * n) + (H493.2.2.1 83 0 (n))) - (1 : Int)) ≤ 31 from ⟨by omega, by omega⟩) (fun z => absurd z (by decide))
          have hE634 : jEx [19, 12, 48, 56, 57, 47] [60, 56, 59, 58, 55, 57, 61, 99, 100, 77, 78, 82, 80, 114, 115, 81, 105, 71, 70, 72, 75, 76, 68, 67, 65, 63, 64, 66, 112, 113, 108, 110, 101, 102, 103, 104, 83, 73, 74, 84, 111, 89, 88, 93, 94, 86, 91, 92, 85, 87, 90] H632 H := by rw [hH632]; exact jEx.row hE609 (by decide)
          have k635 : gP H632 := by rw [hH632]; exact k610
          have k636 : gX H632 := by rw [hH632]; exact k611
          have k637 : gL H632 := by rw [hH632]; exact k612
          have k638 : gZ H632 := by rw [hH632]; exact k613
          have k639 : gQ H632 := by rw [hH632]; exact k614
          have k640 : gB H632 := by rw [hH632]; exact k615
          have k641 : gK H632 := by rw [hH632]; exact k616
          have k642 : gN H632 := by rw [hH632]; exact k617
          have k643 : gV H632 (H632.1 11 19 0) n := by rw [hH632]; exact k618
          have sI := (show H632.2.2.1 114 0 = H607.2.2.1 114 0 from by subst hH632; rfl).trans sI
          have g644 : H632.2.2.1 76 0 (n) = H607.2.2.1 92 0 ((((128 : Int) * n) + (H493.2.2.1 83 0 (n))) - (1 : Int)) := by subst hH632; exact if_pos rfl
          have g645 : H632.1 11 12 0 = H607.1 11 12 0 := by subst hH632; rfl
          have g646 : H632.1 11 19 0 = H607.1 11 19 0 := by subst hH632; rfl
          have g647 : H632.2.2.1 75 0 (n) = H607.2.2.1 75 0 (n) := by subst hH632; rfl
          have g648 : H632.2.2.1 74 0 (n) = H607.2.2.1 74 0 (n) := by subst hH632; rfl
          have g649 : H632.2.2.1 73 0 (n) = H607.2.2.1 73 0 (n) := by subst hH632; rfl
          have g650 : H632.2.2.1 84 0 (n) = H607.2.2.1 84 0 (n) := by subst hH632; rfl
          have g651 : H632.2.2.1 80 0 (n) = H607.2.2.1 80 0 (n) := by subst hH632; rfl
          have g652 : H632.2.2.1 83 0 (n) = H607.2.2.1 83 0 (n) := by subst hH632; rfl
          have g653 : H632.2.2.1 79 0 (n) = H607.2.2.1 79 0 (n) := by subst hH632; rfl
          have g654 : H632.2.2.1 87 0 ((((128 : Int) * n) + (H493.2.2.1 83 0 (n))) - (1 : Int)) = H607.2.2.1 87 0 ((((128 : Int) * n) + (H493.2.2.1 83 0 (n))) - (1 : Int)) := by subst hH632; rfl
          have g655 : H632.2.2.1 90 0 ((((128 : Int) * n) + (H493.2.2.1 83 0 (n))) - (1 : Int)) = H607.2.2.1 90 0 ((((128 : Int) * n) + (H493.2.2.1 83 0 (n))) - (1 : Int)) := by subst hH632; rfl
          have g656 : H632.2.2.1 91 0 ((((128 : Int) * n) + (H493.2.2.1 83 0 (n))) - (1 : Int)) = H607.2.2.1 91 0 ((((128 : Int) * n) + (H493.2.2.1 83 0 (n))) - (1 : Int)) := by subst hH632; rfl
          have g657 : H632.2.2.1 92 0 ((((128 : Int) * n) + (H493.2.2.1 83 0 (n))) - (1 : Int)) = H607.2.2.1 92 0 ((((128 : Int) * n) + (H493.2.2.1 83 0 (n))) - (1 : Int)) := by subst hH632; rfl
          clear hH632
          have f658 : -1 ≤ H632.2.2.1 93 0 ((((128 : Int) * n) + (H493.2.2.1 83 0 (n))) - (1 : Int)) ∧ H632.2.2.1 93 0 ((((128 : Int) * n) + (H493.2.2.1 83 0 (n))) - (1 : Int)) ≤ 299 := hT633.1 93 ((((128 : Int) * n) + (H493.2.2.1 83 0 (n))) - (1 : Int))
          have f659 : 1 ≤ H632.1 11 12 0 ∧ H632.1 11 12 0 ≤ 300 := hT633.2.1 12
          have f658b : H632.2.2.1 93 0 ((((128 : Int) * n) + (H493.2.2.1 83 0 (n))) - (1 : Int)) < H632.1 11 12 0 := hT633.2.2.1 93 ((((128 : Int) * n) + (H493.2.2.1 83 0 (n))) - (1 : Int)) rfl
          refine J.run 8 rfl ⟨(show 0 ≤ (((128 : Int) * n) + (H493.2.2.1 83 0 (n))) - (1 : Int) ∧ (((128 : Int) * n) + (H493.2.2.1 83 0 (n))) - (1 : Int) < 2048 from ⟨by omega, by omega⟩), (show 0 ≤ n ∧ n < 16 from ⟨by omega, by omega⟩)⟩ ?_
          try dsimp only
          refine J.gn fun H660 hH660 => ?_
          have hT661 : gT H660 := by rw [hH660]; exact gT.upd hT633 (show -1 ≤ H632.2.2.1 93 0 ((((128 : Int) * n) + (H493.2.2.1 83 0 (n))) - (1 : Int)) ∧ H632.2.2.1 93 0 ((((128 : Int) * n) + (H493.2.2.1 83 0 (n))) - (1 : Int)) ≤ 299 from ⟨by omega, by omega⟩) (fun _ => show H632.2.2.1 93 0 ((((128 : Int) * n) + (H493.2.2.1 83 0 (n))) - (1 : Int)) < H632.1 11 12 0 by omega)
          have hE662 : jEx [19, 12, 48, 56, 57, 47] [60, 56, 59, 58, 55, 57, 61, 99, 100, 77, 78, 82, 80, 114, 115, 81, 105, 71, 70, 72, 75, 76, 68, 67, 65, 63, 64, 66, 112, 113, 108, 110, 101, 102, 103, 104, 83, 73, 74, 84, 111, 89, 88, 93, 94, 86, 91, 92, 85, 87, 90] H660 H := by rw [hH660]; exact jEx.row hE634 (by decide)
          have k663 : gP H660 := by rw [hH660]; exact k635
          have k664 : gX H660 := by rw [hH660]; exact k636
          have k665 : gL H660 := by rw [hH660]; exact k637
          have k666 : gZ H660 := by rw [hH660]; exact k638
          have k667 : gQ H660 := by rw [hH660]; exact k639
          have k668 : gB H660 := by rw [hH660]; exact k640
          have k669 : gK H660 := by rw [hH660]; exact k641
          have k670 : gN H660 := by rw [hH660]; exact k642
          have k671 : gV H660 (H660.1 11 19 0) n := by rw [hH660]; exact k643
          have sI := (show H660.2.2.1 114 0 = H632.2.2.1 114 0 from by subst hH660; rfl).trans sI
          have g672 : H660.2.2.1 77 0 (n) = H632.2.2.1 93 0 ((((128 : Int) * n) + (H493.2.2.1 83 0 (n))) - (1 : Int)) := by subst hH660; exact if_pos rfl
          have g673 : H660.1 11 12 0 = H632.1 11 12 0 := by subst hH660; rfl
          have g674 : H660.1 11 19 0 = H632.1 11 19 0 := by subst hH660; rfl
          have g675 : H660.2.2.1 76 0 (n) = H632.2.2.1 76 0 (n) := by subst hH660; rfl
          have g676 : H660.2.2.1 75 0 (n) = H632.2.2.1 75 0 (n) := by subst hH660; rfl
          have g677 : H660.2.2.1 74 0 (n) = H632.2.2.1 74 0 (n) := by subst hH660; rfl
          have g678 : H660.2.2.1 73 0 (n) = H632.2.2.1 73 0 (n) := by subst hH660; rfl
          have g679 : H660.2.2.1 84 0 (n) = H632.2.2.1 84 0 (n) := by subst hH660; rfl
          have g680 : H660.2.2.1 80 0 (n) = H632.2.2.1 80 0 (n) := by subst hH660; rfl
          have g681 : H660.2.2.1 83 0 (n) = H632.2.2.1 83 0 (n) := by subst hH660; rfl
          have g682 : H660.2.2.1 79 0 (n) = H632.2.2.1 79 0 (n) := by subst hH660; rfl
          have g683 : H660.2.2.1 87 0 ((((128 : Int) * n) + (H493.2.2.1 83 0 (n))) - (1 : Int)) = H632.2.2.1 87 0 ((((128 : Int) * n) + (H493.2.2.1 83 0 (n))) - (1 : Int)) := by subst hH660; rfl
          have g684 : H660.2.2.1 90 0 ((((128 : Int) * n) + (H493.2.2.1 83 0 (n))) - (1 : Int)) = H632.2.2.1 90 0 ((((128 : Int) * n) + (H493.2.2.1 83 0 (n))) - (1 : Int)) := by subst hH660; rfl
          have g685 : H660.2.2.1 91 0 ((((128 : Int) * n) + (H493.2.2.1 83 0 (n))) - (1 : Int)) = H632.2.2.1 91 0 ((((128 : Int) * n) + (H493.2.2.1 83 0 (n))) - (1 : Int)) := by subst hH660; rfl
          have g686 : H660.2.2.1 92 0 ((((128 : Int) * n) + (H493.2.2.1 83 0 (n))) - (1 : Int)) = H632.2.2.1 92 0 ((((128 : Int) * n) + (H493.2.2.1 83 0 (n))) - (1 : Int)) := by subst hH660; rfl
          have g687 : H660.2.2.1 93 0 ((((128 : Int) * n) + (H493.2.2.1 83 0 (n))) - (1 : Int)) = H632.2.2.1 93 0 ((((128 : Int) * n) + (H493.2.2.1 83 0 (n))) - (1 : Int)) := by subst hH660; rfl
          clear hH660
          have f688 : -1 ≤ H660.2.2.1 94 0 ((((128 : Int) * n) + (H493.2.2.1 83 0 (n))) - (1 : Int)) ∧ H660.2.2.1 94 0 ((((128 : Int) * n) + (H493.2.2.1 83 0 (n))) - (1 : Int)) ≤ 31 := hT661.1 94 ((((128 : Int) * n) + (H493.2.2.1 83 0 (n))) - (1 : Int))
          refine J.run 8 rfl ⟨(show 0 ≤ (((128 : Int) * n) + (H493.2.2.1 83 0 (n))) - (1 : Int) ∧ (((128 : Int) * n) + (H493.2.2.1 83 0 (n))) - (1 : Int) < 2048 from ⟨by omega, by omega⟩), (show 0 ≤ n ∧ n < 16 from ⟨by omega, by omega⟩)⟩ ?_
          try dsimp only
          refine J.gn fun H689 hH689 => ?_
          have hT690 : gT H689 := by rw [hH689]; exact gT.upd hT661 (show -1 ≤ H660.2.2.1 94 0 ((((128 : Int) * n) + (H493.2.2.1 83 0 (n))) - (1 : Int)) ∧ H660.2.2.1 94 0 ((((128 : Int) * n) + (H493.2.2.1 83 0 (n))) - (1 : Int)) ≤ 31 from ⟨by omega, by omega⟩) (fun z => absurd z (by decide))
          have hE691 : jEx [19, 12, 48, 56, 57, 47] [60, 56, 59, 58, 55, 57, 61, 99, 100, 77, 78, 82, 80, 114, 115, 81, 105, 71, 70, 72, 75, 76, 68, 67, 65, 63, 64, 66, 112, 113, 108, 110, 101, 102, 103, 104, 83, 73, 74, 84, 111, 89, 88, 93, 94, 86, 91, 92, 85, 87, 90] H689 H := by rw [hH689]; exact jEx.row hE662 (by decide)
          have k692 : gP H689 := by rw [hH689]; exact k663
          have k693 : gX H689 := by rw [hH689]; exact k664
          have k694 : gL H689 := by rw [hH689]; exact k665
          have k695 : gZ H689 := by rw [hH689]; exact k666
          have k696 : gQ H689 := by rw [hH689]; exact k667
          have k697 : gB H689 := by rw [hH689]; exact k668
          have k698 : gK H689 := by rw [hH689]; exact k669
          have k699 : gN H689 := by rw [hH689]; exact k670
          have k700 : gV H689 (H689.1 11 19 0) n := by rw [hH689]; exact k671
          have sI := (show H689.2.2.1 114 0 = H660.2.2.1 114 0 from by subst hH689; rfl).trans sI
          have g701 : H689.2.2.1 78 0 (n) = H660.2.2.1 94 0 ((((128 : Int) * n) + (H493.2.2.1 83 0 (n))) - (1 : Int)) := by subst hH689; exact if_pos rfl
          have g702 : H689.1 11 12 0 = H660.1 11 12 0 := by subst hH689; rfl
          have g703 : H689.1 11 19 0 = H660.1 11 19 0 := by subst hH689; rfl
          have g704 : H689.2.2.1 77 0 (n) = H660.2.2.1 77 0 (n) := by subst hH689; rfl
          have g705 : H689.2.2.1 76 0 (n) = H660.2.2.1 76 0 (n) := by subst hH689; rfl
          have g706 : H689.2.2.1 75 0 (n) = H660.2.2.1 75 0 (n) := by subst hH689; rfl
          have g707 : H689.2.2.1 74 0 (n) = H660.2.2.1 74 0 (n) := by subst hH689; rfl
          have g708 : H689.2.2.1 73 0 (n) = H660.2.2.1 73 0 (n) := by subst hH689; rfl
          have g709 : H689.2.2.1 84 0 (n) = H660.2.2.1 84 0 (n) := by subst hH689; rfl
          have g710 : H689.2.2.1 80 0 (n) = H660.2.2.1 80 0 (n) := by subst hH689; rfl
          have g711 : H689.2.2.1 83 0 (n) = H660.2.2.1 83 0 (n) := by subst hH689; rfl
          have g712 : H689.2.2.1 79 0 (n) = H660.2.2.1 79 0 (n) := by subst hH689; rfl
          have g713 : H689.2.2.1 87 0 ((((128 : Int) * n) + (H493.2.2.1 83 0 (n))) - (1 : Int)) = H660.2.2.1 87 0 ((((128 : Int) * n) + (H493.2.2.1 83 0 (n))) - (1 : Int)) := by subst hH689; rfl
          have g714 : H689.2.2.1 90 0 ((((128 : Int) * n) + (H493.2.2.1 83 0 (n))) - (1 : Int)) = H660.2.2.1 90 0 ((((128 : Int) * n) + (H493.2.2.1 83 0 (n))) - (1 : Int)) := by subst hH689; rfl
          have g715 : H689.2.2.1 91 0 ((((128 : Int) * n) + (H493.2.2.1 83 0 (n))) - (1 : Int)) = H660.2.2.1 91 0 ((((128 : Int) * n) + (H493.2.2.1 83 0 (n))) - (1 : Int)) := by subst hH689; rfl
          have g716 : H689.2.2.1 92 0 ((((128 : Int) * n) + (H493.2.2.1 83 0 (n))) - (1 : Int)) = H660.2.2.1 92 0 ((((128 : Int) * n) + (H493.2.2.1 83 0 (n))) - (1 : Int)) := by subst hH689; rfl
          have g717 : H689.2.2.1 93 0 ((((128 : Int) * n) + (H493.2.2.1 83 0 (n))) - (1 : Int)) = H660.2.2.1 93 0 ((((128 : Int) * n) + (H493.2.2.1 83 0 (n))) - (1 : Int)) := by subst hH689; rfl
          have g718 : H689.2.2.1 94 0 ((((128 : Int) * n) + (H493.2.2.1 83 0 (n))) - (1 : Int)) = H660.2.2.1 94 0 ((((128 : Int) * n) + (H493.2.2.1 83 0 (n))) - (1 : Int)) := by subst hH689; rfl
          clear hH689
          refine J.run 5 rfl (show ((0 : Int) = 0 ∨ (0 : Int) = 1) ∧ 0 ≤ n ∧ n < 16 from ⟨by omega, by omega, by omega⟩) ?_
          try dsimp only
          refine J.gn fun H719 hH719 => ?_
          have hT720 : gT H719 := by rw [hH719]; exact gT.upd hT690 (show 0 ≤ (0 : Int) ∧ (0 : Int) ≤ 1 from ⟨by omega, by omega⟩) (fun z => absurd z (by decide))
          have hE721 : jEx [19, 12, 48, 56, 57, 47] [60, 56, 59, 58, 55, 57, 61, 99, 100, 77, 78, 82, 80, 114, 115, 81, 105, 71, 70, 72, 75, 76, 68, 67, 65, 63, 64, 66, 112, 113, 108, 110, 101, 102, 103, 104, 83, 73, 74, 84, 111, 89, 88, 93, 94, 86, 91, 92, 85, 87, 90] H719 H := by rw [hH719]; exact jEx.row hE691 (by decide)
          have k722 : gP H719 := by rw [hH719]; exact k692
          have k723 : gX H719 := by rw [hH719]; exact k693
          have k724 : gL H719 := by rw [hH719]; exact k694
          have k725 : gZ H719 := by rw [hH719]; exact k695
          have k726 : gQ H719 := by rw [hH719]; exact k696
          have k727 : gB H719 := by rw [hH719]; exact k697
          have k728 : gK H719 := by rw [hH719]; exact k698
          have k729 : gN H719 := by rw [hH719]; exact k699
          have k730 : gV H719 (H719.1 11 19 0) n := by rw [hH719]; exact k700
          have sI := (show H719.2.2.1 114 0 = H689.2.2.1 114 0 from by subst hH719; rfl).trans sI
          have g731 : H719.2.2.1 115 0 (n) = (0 : Int) := by subst hH719; exact if_pos rfl
          have g732 : H719.1 11 12 0 = H689.1 11 12 0 := by subst hH719; rfl
          have g733 : H719.1 11 19 0 = H689.1 11 19 0 := by subst hH719; rfl
          have g734 : H719.2.2.1 78 0 (n) = H689.2.2.1 78 0 (n) := by subst hH719; rfl
          have g735 : H719.2.2.1 77 0 (n) = H689.2.2.1 77 0 (n) := by subst hH719; rfl
          have g736 : H719.2.2.1 76 0 (n) = H689.2.2.1 76 0 (n) := by subst hH719; rfl
          have g737 : H719.2.2.1 75 0 (n) = H689.2.2.1 75 0 (n) := by subst hH719; rfl
          have g738 : H719.2.2.1 74 0 (n) = H689.2.2.1 74 0 (n) := by subst hH719; rfl
          have g739 : H719.2.2.1 73 0 (n) = H689.2.2.1 73 0 (n) := by subst hH719; rfl
          have g740 : H719.2.2.1 84 0 (n) = H689.2.2.1 84 0 (n) := by subst hH719; rfl
          have g741 : H719.2.2.1 80 0 (n) = H689.2.2.1 80 0 (n) := by subst hH719; rfl
          have g742 : H719.2.2.1 83 0 (n) = H689.2.2.1 83 0 (n) := by subst hH719; rfl
          have g743 : H719.2.2.1 79 0 (n) = H689.2.2.1 79 0 (n) := by subst hH719; rfl
          have g744 : H719.2.2.1 87 0 ((((128 : Int) * n) + (H493.2.2.1 83 0 (n))) - (1 : Int)) = H689.2.2.1 87 0 ((((128 : Int) * n) + (H493.2.2.1 83 0 (n))) - (1 : Int)) := by subst hH719; rfl
          have g745 : H719.2.2.1 90 0 ((((128 : Int) * n) + (H493.2.2.1 83 0 (n))) - (1 : Int)) = H689.2.2.1 90 0 ((((128 : Int) * n) + (H493.2.2.1 83 0 (n))) - (1 : Int)) := by subst hH719; rfl
          have g746 : H719.2.2.1 91 0 ((((128 : Int) * n) + (H493.2.2.1 83 0 (n))) - (1 : Int)) = H689.2.2.1 91 0 ((((128 : Int) * n) + (H493.2.2.1 83 0 (n))) - (1 : Int)) := by subst hH719; rfl
          have g747 : H719.2.2.1 92 0 ((((128 : Int) * n) + (H493.2.2.1 83 0 (n))) - (1 : Int)) = H689.2.2.1 92 0 ((((128 : Int) * n) + (H493.2.2.1 83 0 (n))) - (1 : Int)) := by subst hH719; rfl
          have g748 : H719.2.2.1 93 0 ((((128 : Int) * n) + (H493.2.2.1 83 0 (n))) - (1 : Int)) = H689.2.2.1 93 0 ((((128 : Int) * n) + (H493.2.2.1 83 0 (n))) - (1 : Int)) := by subst hH719; rfl
          have g749 : H719.2.2.1 94 0 ((((128 : Int) * n) + (H493.2.2.1 83 0 (n))) - (1 : Int)) = H689.2.2.1 94 0 ((((128 : Int) * n) + (H493.2.2.1 83 0 (n))) - (1 : Int)) := by subst hH719; rfl
          clear hH719
          have k750 : gW H719 (H719.1 11 19 0) := gV.back k730 (by omega)
          refine J.run0 4 rfl ?_
          try dsimp only
          exact (g_start_l0 (H0 := H) (n := n)  hp0 ((3000 - ((128 : Int) * n) : Int).toNat + 1)) (H493.2.2.1 83 0 (n)) ((((128 : Int) * n) + (H493.2.2.1 83 0 (n))) - (1 : Int)) ((128 : Int) * n) H719 _ (show 3000 - ((128 : Int) * n) < _ by omega) (show 0 ≤ n ∧ n < 16 from ⟨by omega, by omega⟩) (show 1 ≤ (H493.2.2.1 83 0 (n)) ∧ (H493.2.2.1 83 0 (n)) ≤ 96 from ⟨by omega, by omega⟩) (show ((((128 : Int) * n) + (H493.2.2.1 83 0 (n))) - (1 : Int)) = 128 * n + (H493.2.2.1 83 0 (n)) - 1 from by omega) (show 128 * n ≤ ((128 : Int) * n) ∧ ((128 : Int) * n) ≤ 128 * n + (H493.2.2.1 83 0 (n)) from ⟨by omega, by omega⟩) (show H719.2.2.1 83 0 (n) = (H493.2.2.1 83 0 (n)) from by omega) (show H719.2.2.1 80 0 (n) = 0 from by omega) (show ∀ j, ((128 : Int) * n) ≤ j → j ≤ ((((128 : Int) * n) + (H493.2.2.1 83 0 (n))) - (1 : Int)) → 0 ≤ H719.2.2.1 85 0 j → H719.2.2.1 114 0 (6000 * n + H719.2.2.1 85 0 j) = 0 from (by first | exact (fun j _ _ hz => by have y : -1 ≤ H719.2.2.1 85 0 j ∧ H719.2.2.1 85 0 j ≤ 5999 := hT720.1 85 j; rw [sI]; exact qn _ hz (by omega)) | exact gst1 k0gW ⟨by omega, by omega⟩ (by omega) (by omega) hi6 (by omega) (eL_know.r 85 (by decide)) pL_know_0 | exact gst2 k0gW ⟨by omega, by omega⟩ (by omega) (by omega) hi6 (sW.trans (by rw [eL_spoken.r 85 (by decide)])) (fun z hz => (congrFun sK z).trans (pL_spoken_0 z hz)) | exact (fun j a b => hi6 j (by omega) b))) hT720 hE721 k722 k723 k724 k725 k726 k727 k728 k729 k750 rfl
        · have c751 : ¬ (¬ (H493.2.2.1 83 0 (n) = (0 : Int))) := hc
          clear hc
          refine J.run 5 rfl (show 0 ≤ n ∧ n < 16 from ⟨by omega, by omega⟩) ?_
          try dsimp only
          refine J.gn fun H752 hH752 => ?_
          have hT753 : gT H752 := by rw [hH752]; exact gT.upd hT537 (show -1 ≤ (-1 : Int) ∧ (-1 : Int) ≤ 299 from ⟨by omega, by omega⟩) (fun z => absurd z (by decide))
          have hE754 : jEx [19, 12, 48, 56, 57, 47] [60, 56, 59, 58, 55, 57, 61, 99, 100, 77, 78, 82, 80, 114, 115, 81, 105, 71, 70, 72, 75, 76, 68, 67, 65, 63, 64, 66, 112, 113, 108, 110, 101, 102, 103, 104, 83, 73, 74, 84, 111, 89, 88, 93, 94, 86, 91, 92, 85, 87, 90] H752 H := by rw [hH752]; exact jEx.row hE538 (by decide)
          have k755 : gP H752 := by rw [hH752]; exact k539
          have k756 : gX H752 := by rw [hH752]; exact k540
          have k757 : gL H752 := by rw [hH752]; exact k541
          have k758 : gZ H752 := by rw [hH752]; exact k542
          have k759 : gQ H752 := by rw [hH752]; exact k543
          have k760 : gB H752 := by rw [hH752]; exact k544
          have k761 : gK H752 := by rw [hH752]; exact k545
          have k762 : gN H752 := by rw [hH752]; exact k546
          have k763 : gW H752 (H752.1 11 19 0) := by rw [hH752]; exact k547
          have sI := (show H752.2.2.1 114 0 = H536.2.2.1 114 0 from by subst hH752; rfl).trans sI
          have g764 : H752.2.2.1 75 0 (n) = (-1 : Int) := by subst hH752; exact if_pos rfl
          have g765 : H752.1 11 12 0 = H536.1 11 12 0 := by subst hH752; rfl
          have g766 : H752.1 11 19 0 = H536.1 11 19 0 := by subst hH752; rfl
          have g767 : H752.2.2.1 84 0 (n) = H536.2.2.1 84 0 (n) := by subst hH752; rfl
          have g768 : H752.2.2.1 80 0 (n) = H536.2.2.1 80 0 (n) := by subst hH752; rfl
          have g769 : H752.2.2.1 83 0 (n) = H536.2.2.1 83 0 (n) := by subst hH752; rfl
          have g770 : H752.2.2.1 79 0 (n) = H536.2.2.1 79 0 (n) := by subst hH752; rfl
          have g771 : H752.2.2.1 73 0 (n) = H536.2.2.1 73 0 (n) := by subst hH752; rfl
          have g772 : H752.2.2.1 74 0 (n) = H536.2.2.1 74 0 (n) := by subst hH752; rfl
          clear hH752
          refine J.run 5 rfl (show 0 ≤ n ∧ n < 16 from ⟨by omega, by omega⟩) ?_
          try dsimp only
          refine J.gn fun H773 hH773 => ?_
          have hT774 : gT H773 := by rw [hH773]; exact gT.upd hT753 (show -1 ≤ (-1 : Int) ∧ (-1 : Int) ≤ 31 from ⟨by omega, by omega⟩) (fun z => absurd z (by decide))
          have hE775 : jEx [19, 12, 48, 56, 57, 47] [60, 56, 59, 58, 55, 57, 61, 99, 100, 77, 78, 82, 80, 114, 115, 81, 105, 71, 70, 72, 75, 76, 68, 67, 65, 63, 64, 66, 112, 113, 108, 110, 101, 102, 103, 104, 83, 73, 74, 84, 111, 89, 88, 93, 94, 86, 91, 92, 85, 87, 90] H773 H := by rw [hH773]; exact jEx.row hE754 (by decide)
          have k776 : gP H773 := by rw [hH773]; exact k755
          have k777 : gX H773 := by rw [hH773]; exact k756
          have k778 : gL H773 := by rw [hH773]; exact k757
          have k779 : gZ H773 := by rw [hH773]; exact k758
          have k780 : gQ H773 := by rw [hH773]; exact k759
          have k781 : gB H773 := by rw [hH773]; exact k760
          have k782 : gK H773 := by rw [hH773]; exact k761
          have k783 : gN H773 := by rw [hH773]; exact k762
          have k784 : gW H773 (H773.1 11 19 0) := by rw [hH773]; exact k763
          have sI := (show H773.2.2.1 114 0 = H752.2.2.1 114 0 from by subst hH773; rfl).trans sI
          have g785 : H773.2.2.1 76 0 (n) = (-1 : Int) := by subst hH773; exact if_pos rfl
          have g786 : H773.1 11 12 0 = H752.1 11 12 0 := by subst hH773; rfl
          have g787 : H773.1 11 19 0 = H752.1 11 19 0 := by subst hH773; rfl
          have g788 : H773.2.2.1 75 0 (n) = H752.2.2.1 75 0 (n) := by subst hH773; rfl
          have g789 : H773.2.2.1 84 0 (n) = H752.2.2.1 84 0 (n) := by subst hH773; rfl
          have g790 : H773.2.2.1 80 0 (n) = H752.2.2.1 80 0 (n) := by subst hH773; rfl
          have g791 : H773.2.2.1 83 0 (n) = H752.2.2.1 83 0 (n) := by subst hH773; rfl
          have g792 : H773.2.2.1 79 0 (n) = H752.2.2.1 79 0 (n) := by subst hH773; rfl
          have g793 : H773.2.2.1 73 0 (n) = H752.2.2.1 73 0 (n) := by subst hH773; rfl
          have g794 : H773.2.2.1 74 0 (n) = H752.2.2.1 74 0 (n) := by subst hH773; rfl
          clear hH773
          have f795 : 1 ≤ H773.1 11 12 0 ∧ H773.1 11 12 0 ≤ 300 := hT774.2.1 12
          refine J.run 5 rfl (show 0 ≤ n ∧ n < 16 from ⟨by omega, by omega⟩) ?_
          try dsimp only
          refine J.gn fun H796 hH796 => ?_
          have hT797 : gT H796 := by rw [hH796]; exact gT.upd hT774 (show -1 ≤ (-1 : Int) ∧ (-1 : Int) ≤ 299 from ⟨by omega, by omega⟩) (fun _ => show (-1 : Int) < H773.1 11 12 0 by omega)
          have hE798 : jEx [19, 12, 48, 56, 57, 47] [60, 56, 59, 58, 55, 57, 61, 99, 100, 77, 78, 82, 80, 114, 115, 81, 105, 71, 70, 72, 75, 76, 68, 67, 65, 63, 64, 66, 112, 113, 108, 110, 101, 102, 103, 104, 83, 73, 74, 84, 111, 89, 88, 93, 94, 86, 91, 92, 85, 87, 90] H796 H := by rw [hH796]; exact jEx.row hE775 (by decide)
          have k799 : gP H796 := by rw [hH796]; exact k776
          have k800 : gX H796 := by rw [hH796]; exact k777
          have k801 : gL H796 := by rw [hH796]; exact k778
          have k802 : gZ H796 := by rw [hH796]; exact k779
          have k803 : gQ H796 := by rw [hH796]; exact k780
          have k804 : gB H796 := by rw [hH796]; exact k781
          have k805 : gK H796 := by rw [hH796]; exact k782
          have k806 : gN H796 := by rw [hH796]; exact k783
          have k807 : gW H796 (H796.1 11 19 0) := by rw [hH796]; exact k784
          have sI := (show H796.2.2.1 114 0 = H773.2.2.1 114 0 from by subst hH796; rfl).trans sI
          have g808 : H796.2.2.1 77 0 (n) = (-1 : Int) := by subst hH796; exact if_pos rfl
          have g809 : H796.1 11 12 0 = H773.1 11 12 0 := by subst hH796; rfl
          have g810 : H796.1 11 19 0 = H773.1 11 19 0 := by subst hH796; rfl
          have g811 : H796.2.2.1 76 0 (n) = H773.2.2.1 76 0 (n) := by subst hH796; rfl
          have g812 : H796.2.2.1 75 0 (n) = H773.2.2.1 75 0 (n) := by subst hH796; rfl
          have g813 : H796.2.2.1 84 0 (n) = H773.2.2.1 84 0 (n) := by subst hH796; rfl
          have g814 : H796.2.2.1 80 0 (n) = H773.2.2.1 80 0 (n) := by subst hH796; rfl
          have g815 : H796.2.2.1 83 0 (n) = H773.2.2.1 83 0 (n) := by subst hH796; rfl
          have g816 : H796.2.2.1 79 0 (n) = H773.2.2.1 79 0 (n) := by subst hH796; rfl
          have g817 : H796.2.2.1 73 0 (n) = H773.2.2.1 73 0 (n) := by subst hH796; rfl
          have g818 : H796.2.2.1 74 0 (n) = H773.2.2.1 74 0 (n) := by subst hH796; rfl
          clear hH796
          refine J.run 5 rfl (show 0 ≤ n ∧ n < 16 from ⟨by omega, by omega⟩) ?_
          try dsimp only
          refine J.gn fun H819 hH819 => ?_
          have hT820 : gT H819 := by rw [hH819]; exact gT.upd hT797 (show -1 ≤ (-1 : Int) ∧ (-1 : Int) ≤ 31 from ⟨by omega, by omega⟩) (fun z => absurd z (by decide))
          have hE821 : jEx [19, 12, 48, 56, 57, 47] [60, 56, 59, 58, 55, 57, 61, 99, 100, 77, 78, 82, 80, 114, 115, 81, 105, 71, 70, 72, 75, 76, 68, 67, 65, 63, 64, 66, 112, 113, 108, 110, 101, 102, 103, 104, 83, 73, 74, 84, 111, 89, 88, 93, 94, 86, 91, 92, 85, 87, 90] H819 H := by rw [hH819]; exact jEx.row hE798 (by decide)
          have k822 : gP H819 := by rw [hH819]; exact k799
          have k823 : gX H819 := by rw [hH819]; exact k800
          have k824 : gL H819 := by rw [hH819]; exact k801
          have k825 : gZ H819 := by rw [hH819]; exact k802
          have k826 : gQ H819 := by rw [hH819]; exact k803
          have k827 : gB H819 := by rw [hH819]; exact k804
          have k828 : gK H819 := by rw [hH819]; exact k805
          have k829 : gN H819 := by rw [hH819]; exact k806
          have k830 : gW H819 (H819.1 11 19 0) := by rw [hH819]; exact k807
          have sI := (show H819.2.2.1 114 0 = H796.2.2.1 114 0 from by subst hH819; rfl).trans sI
          have g831 : H819.2.2.1 78 0 (n) = (-1 : Int) := by subst hH819; exact if_pos rfl
          have g832 : H819.1 11 12 0 = H796.1 11 12 0 := by subst hH819; rfl
          have g833 : H819.1 11 19 0 = H796.1 11 19 0 := by subst hH819; rfl
          have g834 : H819.2.2.1 77 0 (n) = H796.2.2.1 77 0 (n) := by subst hH819; rfl
          have g835 : H819.2.2.1 76 0 (n) = H796.2.2.1 76 0 (n) := by subst hH819; rfl
          have g836 : H819.2.2.1 75 0 (n) = H796.2.2.1 75 0 (n) := by subst hH819; rfl
          have g837 : H819.2.2.1 84 0 (n) = H796.2.2.1 84 0 (n) := by subst hH819; rfl
          have g838 : H819.2.2.1 80 0 (n) = H796.2.2.1 80 0 (n) := by subst hH819; rfl
          have g839 : H819.2.2.1 83 0 (n) = H796.2.2.1 83 0 (n) := by subst hH819; rfl
          have g840 : H819.2.2.1 79 0 (n) = H796.2.2.1 79 0 (n) := by subst hH819; rfl
          have g841 : H819.2.2.1 73 0 (n) = H796.2.2.1 73 0 (n) := by subst hH819; rfl
          have g842 : H819.2.2.1 74 0 (n) = H796.2.2.1 74 0 (n) := by subst hH819; rfl
          clear hH819
          refine J.run0 3 rfl ?_
          try dsimp only
          refine J.inv rfl rfl rfl rfl rfl rfl jDr rfl rfl rfl rfl rfl (g_begins (n := n) (q := (0 : Int)) (u := 16) hT820 k822 k823 k824 k825 k826 k827 k828 k829 k830 gU.triv (show 0 ≤ (n) ∧ (n) < 16 from ⟨by omega, by omega⟩) (show 0 ≤ ((0 : Int)) ∧ ((0 : Int)) < 32 from ⟨by omega, by omega⟩) (show H819.2.2.1 83 0 ((n)) ≤ 3 * ((0 : Int)) from by omega) (show H819.2.2.1 80 0 ((n)) = 0 from by omega) (show (n) < (16) from by omega)) ?_
          rintro v w H845 ⟨rfl, hT846, ehE847, k848, k849, k850, k851, k852, k853, k854, k855, k856, k857, p858, p859, rfl⟩
          have hE847 := jEx.trans ehE847 hE821 (by decide) (by decide)
          have p858' : 192 * H819.2.2.1 56 0 (H819.2.2.1 72 0 ((n))) + 6 * ((0 : Int)) ≤ 192 * H845.2.2.1 56 0 (H845.2.2.1 72 0 ((n))) + 6 * H845.2.2.1 73 0 ((n)) + 2 * H845.2.2.1 74 0 ((n)) + H845.2.2.1 115 0 ((n)) := p858
          have p859' : H819.1 11 19 0 ≤ H845.1 11 19 0 := p859
          have pL_begins_0 := p858'
          have pL_begins_1 := p859'
          have g860 : H845.2.2.1 78 0 (n) = H819.2.2.1 78 0 (n) := congrFun (ehE847.r 78 (by decide)) _
          have g861 : H845.2.2.1 77 0 (n) = H819.2.2.1 77 0 (n) := congrFun (ehE847.r 77 (by decide)) _
          have g862 : H845.2.2.1 76 0 (n) = H819.2.2.1 76 0 (n) := congrFun (ehE847.r 76 (by decide)) _
          have g863 : H845.2.2.1 75 0 (n) = H819.2.2.1 75 0 (n) := congrFun (ehE847.r 75 (by decide)) _
          have g864 : H845.2.2.1 79 0 (n) = H819.2.2.1 79 0 (n) := congrFun (ehE847.r 79 (by decide)) _
          have eL_begins := ehE847
          try dsimp only [Option.toList, List.append, List.cons_append, List.nil_append]
          refine J.run0 3 rfl ?_
          try dsimp only
          refine J.inv rfl rfl rfl rfl rfl rfl jDr rfl rfl rfl rfl rfl (g_act (n := n) (u := 16) hT846 k848 k849 k850 k851 k852 k853 k854 k855 k856 gU.triv (show 0 ≤ (n) ∧ (n) < 16 from ⟨by omega, by omega⟩) (show (n) < (16) from by omega)) ?_
          rintro v w H867 ⟨rfl, hT868, ehE869, k870, k871, k872, k873, k874, k875, k876, k877, k878, k879, p880, rfl⟩
          have hE869 := jEx.trans ehE869 hE847 (by decide) (by decide)
          have p880' : H845.1 11 19 0 ≤ H867.1 11 19 0 := p880
          have pL_act_0 := p880'
          have g881 : H867.2.2.1 79 0 (n) = H845.2.2.1 79 0 (n) := congrFun (ehE869.r 79 (by decide)) _
          have eL_act := ehE869
          try dsimp only [Option.toList, List.append, List.cons_append, List.nil_append]
          refine J.run0 1 rfl ?_
          try dsimp only
          exact J.reti rfl rfl rfl ⟨_, rfl, rfl, hT868, hE869, k870, k871, k872, k873, k874, k875, k876, k877, k878, _, rfl, (show 0 ≤ (H493.2.2.1 83 0 (n)) ∧ (H493.2.2.1 83 0 (n)) ≤ 96 from ⟨by omega, by omega⟩)⟩
      · have c882 : ¬ (H493.1 11 47 0 ≤ (0 : Int)) := hc
        clear hc
        refine J.run0 1 rfl ?_
        try dsimp only
        exact J.reti rfl rfl rfl ⟨_, rfl, rfl, hT494, hE495, k496, k497, k498, k499, k500, k501, k502, k503, k504, _, rfl, (show 0 ≤ ((0 : Int)) ∧ ((0 : Int)) ≤ 96 from ⟨by omega, by omega⟩)⟩
  · have c883 : ¬ (¬ (x97 = (0 : Int))) := hc
    clear hc
    refine J.run0 3 rfl ?_
    try dsimp only
    refine J.gn fun H884 hH884 => ?_
    have hT885 : gT H884 := by rw [hH884]; exact gT.num (f := 47) hT (show 0 ≤ (1 : Int) ∧ (1 : Int) ≤ 3 from ⟨by omega, by omega⟩) (by decide) (fun z => absurd z (by decide))
    have hE886 : jEx [19, 12, 48, 56, 57, 47] [60, 56, 59, 58, 55, 57, 61, 99, 100, 77, 78, 82, 80, 114, 115, 81, 105, 71, 70, 72, 75, 76, 68, 67, 65, 63, 64, 66, 112, 113, 108, 110, 101, 102, 103, 104, 83, 73, 74, 84, 111, 89, 88, 93, 94, 86, 91, 92, 85, 87, 90] H884 H := by rw [hH884]; exact jEx.num hE (by decide)
    have k887 : gP H884 := by rw [hH884]; exact k0gP
    have k888 : gX H884 := by rw [hH884]; exact k0gX
    have k889 : gL H884 := by rw [hH884]; exact k0gL
    have k890 : gZ H884 := by rw [hH884]; exact k0gZ
    have k891 : gQ H884 := by rw [hH884]; exact k0gQ
    have k892 : gB H884 := by rw [hH884]; exact k0gB
    have k893 : gK H884 := by rw [hH884]; exact k0gK
    have k894 : gN H884 := by rw [hH884]; exact k0gN
    have k895 : gW H884 (H884.1 11 19 0) := by rw [hH884]; exact k0gW
    have g896 : H884.1 11 47 0 = (1 : Int) := by subst hH884; rfl
    have g897 : H884.1 11 12 0 = H.1 11 12 0 := by subst hH884; rfl
    have g898 : H884.1 11 19 0 = H.1 11 19 0 := by subst hH884; rfl
    have g899 : H884.2.2.1 80 0 (n) = H.2.2.1 80 0 (n) := by subst hH884; rfl
    have g900 : H884.2.2.1 83 0 (n) = H.2.2.1 83 0 (n) := by subst hH884; rfl
    have g901 : H884.2.2.1 79 0 (n) = H.2.2.1 79 0 (n) := by subst hH884; rfl
    have g902 : H884.2.2.1 73 0 (n) = H.2.2.1 73 0 (n) := by subst hH884; rfl
    have g903 : H884.2.2.1 74 0 (n) = H.2.2.1 74 0 (n) := by subst hH884; rfl
    clear hH884
    have f904 : 0 ≤ H884.1 11 47 0 ∧ H884.1 11 47 0 ≤ 3 := hT885.2.1 47
    refine J.run0 2 rfl ?_
    try dsimp only
    refine J.ifc rfl rfl rfl (show -2147483648 ≤ H884.1 11 47 0 ∧ H884.1 11 47 0 ≤ 2147483647 from ⟨by omega, by omega⟩) (fun hc => ?_) (fun hc => ?_)
    · have c905 : H884.1 11 47 0 ≤ (0 : Int) := hc
      clear hc
      have qn : ∀ z, 0 ≤ z → z < 6000 → H884.2.2.1 114 0 (6000 * n + z) = 0 := gK.none k893 hT885 ⟨by omega, by omega⟩ (k892 n (by omega) (by omega) (by omega)).1
      have sI : H884.2.2.1 114 0 = H884.2.2.1 114 0 := rfl
      have f906 : 0 ≤ H884.2.2.1 83 0 (n) ∧ H884.2.2.1 83 0 (n) ≤ 96 := hT885.1 83 (n)
      refine J.run 10 rfl ⟨(show 0 ≤ n ∧ n < 16 from ⟨by omega, by omega⟩), (show ((0 : Int) = 0 ∨ (0 : Int) = 1) ∧ 0 ≤ n ∧ n < 16 from ⟨by omega, by omega, by omega⟩)⟩ ?_
      try dsimp only
      refine J.gn fun H907 hH907 => ?_
      have hT908 : gT H907 := by rw [hH907]; exact gT.upd hT885 (show 0 ≤ (0 : Int) ∧ (0 : Int) ≤ 1 from ⟨by omega, by omega⟩) (fun z => absurd z (by decide))
      have hE909 : jEx [19, 12, 48, 56, 57, 47] [60, 56, 59, 58, 55, 57, 61, 99, 100, 77, 78, 82, 80, 114, 115, 81, 105, 71, 70, 72, 75, 76, 68, 67, 65, 63, 64, 66, 112, 113, 108, 110, 101, 102, 103, 104, 83, 73, 74, 84, 111, 89, 88, 93, 94, 86, 91, 92, 85, 87, 90] H907 H := by rw [hH907]; exact jEx.row hE886 (by decide)
      have k910 : gP H907 := by rw [hH907]; exact k887
      have k911 : gX H907 := by rw [hH907]; exact k888
      have k912 : gL H907 := by rw [hH907]; exact k889
      have k913 : gZ H907 := by rw [hH907]; exact k890
      have k914 : gQ H907 := by rw [hH907]; exact k891
      have k915 : gB H907 := by rw [hH907]; exact gB.wd k892 rfl
      have k916 : gK H907 := by rw [hH907]; exact k893
      have k917 : gN H907 := by rw [hH907]; exact k894
      have k918 : gW H907 (H907.1 11 19 0) := by rw [hH907]; exact k895
      have sI := (show H907.2.2.1 114 0 = H884.2.2.1 114 0 from by subst hH907; rfl).trans sI
      have g919 : H907.2.2.1 80 0 (n) = (0 : Int) := by subst hH907; exact if_pos rfl
      have g920 : H907.1 11 12 0 = H884.1 11 12 0 := by subst hH907; rfl
      have g921 : H907.1 11 19 0 = H884.1 11 19 0 := by subst hH907; rfl
      have g923 : H907.2.2.1 83 0 (n) = H884.2.2.1 83 0 (n) := by subst hH907; rfl
      have g924 : H907.2.2.1 79 0 (n) = H884.2.2.1 79 0 (n) := by subst hH907; rfl
      have g925 : H907.2.2.1 73 0 (n) = H884.2.2.1 73 0 (n) := by subst hH907; rfl
      have g926 : H907.2.2.1 74 0 (n) = H884.2.2.1 74 0 (n) := by subst hH907; rfl
      clear hH907
      refine J.run 5 rfl (show 0 ≤ n ∧ n < 16 from ⟨by omega, by omega⟩) ?_
      try dsimp only
      refine J.gn fun H927 hH927 => ?_
      have hT928 : gT H927 := by rw [hH927]; exact gT.upd hT908 (show 0 ≤ (0 : Int) ∧ (0 : Int) ≤ 11 from ⟨by omega, by omega⟩) (fun z => absurd z (by decide))
      have hE929 : jEx [19, 12, 48, 56, 57, 47] [60, 56, 59, 58, 55, 57, 61, 99, 100, 77, 78, 82, 80, 114, 115, 81, 105, 71, 70, 72, 75, 76, 68, 67, 65, 63, 64, 66, 112, 113, 108, 110, 101, 102, 103, 104, 83, 73, 74, 84, 111, 89, 88, 93, 94, 86, 91, 92, 85, 87, 90] H927 H := by rw [hH927]; exact jEx.row hE909 (by decide)
      have k930 : gP H927 := by rw [hH927]; exact k910
      have k931 : gX H927 := by rw [hH927]; exact k911
      have k932 : gL H927 := by rw [hH927]; exact k912
      have k933 : gZ H927 := by rw [hH927]; exact k913
      have k934 : gQ H927 := by rw [hH927]; exact k914
      have k935 : gB H927 := by rw [hH927]; exact k915
      have k936 : gK H927 := by rw [hH927]; exact k916
      have k937 : gN H927 := by rw [hH927]; exact k917
      have k938 : gW H927 (H927.1 11 19 0) := by rw [hH927]; exact k918
      have sI := (show H927.2.2.1 114 0 = H907.2.2.1 114 0 from by subst hH927; rfl).trans sI
      have g939 : H927.2.2.1 84 0 (n) = (0 : Int) := by subst hH927; exact if_pos rfl
      have g940 : H927.1 11 12 0 = H907.1 11 12 0 := by subst hH927; rfl
      have g941 : H927.1 11 19 0 = H907.1 11 19 0 := by subst hH927; rfl
      have g942 : H927.2.2.1 80 0 (n) = H907.2.2.1 80 0 (n) := by subst hH927; rfl
      have g943 : H927.2.2.1 83 0 (n) = H907.2.2.1 83 0 (n) := by subst hH927; rfl
      have g944 : H927.2.2.1 79 0 (n) = H907.2.2.1 79 0 (n) := by subst hH927; rfl
      have g945 : H927.2.2.1 73 0 (n) = H907.2.2.1 73 0 (n) := by subst hH927; rfl
      have g946 : H927.2.2.1 74 0 (n) = H907.2.2.1 74 0 (n) := by subst hH927; rfl
      clear hH927
      refine J.run0 1 rfl ?_
      try dsimp only
      refine J.ifc rfl rfl rfl (show -2147483648 ≤ H884.2.2.1 83 0 (n) ∧ H884.2.2.1 83 0 (n) ≤ 2147483647 from ⟨by omega, by omega⟩) (fun hc => ?_) (fun hc => ?_)
      · have c947 : ¬ (H884.2.2.1 83 0 (n) = (0 : Int)) := hc
        clear hc
        refine J.run0 8 rfl ?_
        try dsimp only
        have qv := ((k938 n (by omega) (by omega)).2.1 (H884.2.2.1 83 0 (n) - 1) (by omega) (by omega)).1
        rw [show 128 * n + (H884.2.2.1 83 0 (n) - 1) = (((128 : Int) * n) + (H884.2.2.1 83 0 (n))) - (1 : Int) by omega] at qv
        have k948 : gV H927 (H927.1 11 19 0) n := gV.of k938
        have f949 : 0 ≤ H927.2.2.1 87 0 ((((128 : Int) * n) + (H884.2.2.1 83 0 (n))) - (1 : Int)) ∧ H927.2.2.1 87 0 ((((128 : Int) * n) + (H884.2.2.1 83 0 (n))) - (1 : Int)) ≤ 31 := hT928.1 87 ((((128 : Int) * n) + (H884.2.2.1 83 0 (n))) - (1 : Int))
        refine J.run 8 rfl ⟨(show 0 ≤ (((128 : Int) * n) + (H884.2.2.1 83 0 (n))) - (1 : Int) ∧ (((128 : Int) * n) + (H884.2.2.1 83 0 (n))) - (1 : Int) < 2048 from ⟨by omega, by omega⟩), (show 0 ≤ n ∧ n < 16 from ⟨by omega, by omega⟩)⟩ ?_
        try dsimp only
        refine J.gn fun H950 hH950 => ?_
        have hT951 : gT H950 := by rw [hH950]; exact gT.upd hT928 (show 0 ≤ H927.2.2.1 87 0 ((((128 : Int) * n) + (H884.2.2.1 83 0 (n))) - (1 : Int)) ∧ H927.2.2.1 87 0 ((((128 : Int) * n) + (H884.2.2.1 83 0 (n))) - (1 : Int)) ≤ 31 from ⟨by omega, by omega⟩) (fun z => absurd z (by decide))
        have hE952 : jEx [19, 12, 48, 56, 57, 47] [60, 56, 59, 58, 55, 57, 61, 99, 100, 77, 78, 82, 80, 114, 115, 81, 105, 71, 70, 72, 75, 76, 68, 67, 65, 63, 64, 66, 112, 113, 108, 110, 101, 102, 103, 104, 83, 73, 74, 84, 111, 89, 88, 93, 94, 86, 91, 92, 85, 87, 90] H950 H := by rw [hH950]; exact jEx.row hE929 (by decide)
        have k953 : gP H950 := by rw [hH950]; exact k930
        have k954 : gX H950 := by rw [hH950]; exact k931
        have k955 : gL H950 := by rw [hH950]; exact k932
        have k956 : gZ H950 := by rw [hH950]; exact k933
        have k957 : gQ H950 := by rw [hH950]; exact k934
        have k958 : gB H950 := by rw [hH950]; exact k935
        have k959 : gK H950 := by rw [hH950]; exact k936
        have k960 : gN H950 := by rw [hH950]; exact k937
        have k961 : gV H950 (H950.1 11 19 0) n := by rw [hH950]; exact gV.round k948
        have sI := (show H950.2.2.1 114 0 = H927.2.2.1 114 0 from by subst hH950; rfl).trans sI
        have g962 : H950.2.2.1 73 0 (n) = H927.2.2.1 87 0 ((((128 : Int) * n) + (H884.2.2.1 83 0 (n))) - (1 : Int)) := by subst hH950; exact if_pos rfl
        have g963 : H950.1 11 12 0 = H927.1 11 12 0 := by subst hH950; rfl
        have g964 : H950.1 11 19 0 = H927.1 11 19 0 := by subst hH950; rfl
        have g965 : H950.2.2.1 84 0 (n) = H927.2.2.1 84 0 (n) := by subst hH950; rfl
        have g966 : H950.2.2.1 80 0 (n) = H927.2.2.1 80 0 (n) := by subst hH950; rfl
        have g967 : H950.2.2.1 83 0 (n) = H927.2.2.1 83 0 (n) := by subst hH950; rfl
        have g968 : H950.2.2.1 79 0 (n) = H927.2.2.1 79 0 (n) := by subst hH950; rfl
        have g970 : H950.2.2.1 74 0 (n) = H927.2.2.1 74 0 (n) := by subst hH950; rfl
        have g971 : H950.2.2.1 87 0 ((((128 : Int) * n) + (H884.2.2.1 83 0 (n))) - (1 : Int)) = H927.2.2.1 87 0 ((((128 : Int) * n) + (H884.2.2.1 83 0 (n))) - (1 : Int)) := by subst hH950; rfl
        have g972 : H950.2.2.1 90 0 ((((128 : Int) * n) + (H884.2.2.1 83 0 (n))) - (1 : Int)) = H927.2.2.1 90 0 ((((128 : Int) * n) + (H884.2.2.1 83 0 (n))) - (1 : Int)) := by subst hH950; rfl
        clear hH950
        have f973 : 0 ≤ H950.2.2.1 90 0 ((((128 : Int) * n) + (H884.2.2.1 83 0 (n))) - (1 : Int)) ∧ H950.2.2.1 90 0 ((((128 : Int) * n) + (H884.2.2.1 83 0 (n))) - (1 : Int)) ≤ 2 := hT951.1 90 ((((128 : Int) * n) + (H884.2.2.1 83 0 (n))) - (1 : Int))
        refine J.run 8 rfl ⟨(show 0 ≤ (((128 : Int) * n) + (H884.2.2.1 83 0 (n))) - (1 : Int) ∧ (((128 : Int) * n) + (H884.2.2.1 83 0 (n))) - (1 : Int) < 2048 from ⟨by omega, by omega⟩), (show 0 ≤ n ∧ n < 16 from ⟨by omega, by omega⟩)⟩ ?_
        try dsimp only
        refine J.gn fun H974 hH974 => ?_
        have hT975 : gT H974 := by rw [hH974]; exact gT.upd hT951 (show 0 ≤ H950.2.2.1 90 0 ((((128 : Int) * n) + (H884.2.2.1 83 0 (n))) - (1 : Int)) ∧ H950.2.2.1 90 0 ((((128 : Int) * n) + (H884.2.2.1 83 0 (n))) - (1 : Int)) ≤ 2 from ⟨by omega, by omega⟩) (fun z => absurd z (by decide))
        have hE976 : jEx [19, 12, 48, 56, 57, 47] [60, 56, 59, 58, 55, 57, 61, 99, 100, 77, 78, 82, 80, 114, 115, 81, 105, 71, 70, 72, 75, 76, 68, 67, 65, 63, 64, 66, 112, 113, 108, 110, 101, 102, 103, 104, 83, 73, 74, 84, 111, 89, 88, 93, 94, 86, 91, 92, 85, 87, 90] H974 H := by rw [hH974]; exact jEx.row hE952 (by decide)
        have k977 : gP H974 := by rw [hH974]; exact k953
        have k978 : gX H974 := by rw [hH974]; exact k954
        have k979 : gL H974 := by rw [hH974]; exact k955
        have k980 : gZ H974 := by rw [hH974]; exact k956
        have k981 : gQ H974 := by rw [hH974]; exact k957
        have k982 : gB H974 := by rw [hH974]; exact k958
        have k983 : gK H974 := by rw [hH974]; exact k959
        have k984 : gN H974 := by rw [hH974]; exact k960
        have k985 : gV H974 (H974.1 11 19 0) n := by rw [hH974]; exact gV.step k961
        have sI := (show H974.2.2.1 114 0 = H950.2.2.1 114 0 from by subst hH974; rfl).trans sI
        have g986 : H974.2.2.1 74 0 (n) = H950.2.2.1 90 0 ((((128 : Int) * n) + (H884.2.2.1 83 0 (n))) - (1 : Int)) := by subst hH974; exact if_pos rfl
        have g987 : H974.1 11 12 0 = H950.1 11 12 0 := by subst hH974; rfl
        have g988 : H974.1 11 19 0 = H950.1 11 19 0 := by subst hH974; rfl
        have g989 : H974.2.2.1 73 0 (n) = H950.2.2.1 73 0 (n) := by subst hH974; rfl
        have g990 : H974.2.2.1 84 0 (n) = H950.2.2.1 84 0 (n) := by subst hH974; rfl
        have g991 : H974.2.2.1 80 0 (n) = H950.2.2.1 80 0 (n) := by subst hH974; rfl
        have g992 : H974.2.2.1 83 0 (n) = H950.2.2.1 83 0 (n) := by subst hH974; rfl
        have g993 : H974.2.2.1 79 0 (n) = H950.2.2.1 79 0 (n) := by subst hH974; rfl
        have g995 : H974.2.2.1 87 0 ((((128 : Int) * n) + (H884.2.2.1 83 0 (n))) - (1 : Int)) = H950.2.2.1 87 0 ((((128 : Int) * n) + (H884.2.2.1 83 0 (n))) - (1 : Int)) := by subst hH974; rfl
        have g996 : H974.2.2.1 90 0 ((((128 : Int) * n) + (H884.2.2.1 83 0 (n))) - (1 : Int)) = H950.2.2.1 90 0 ((((128 : Int) * n) + (H884.2.2.1 83 0 (n))) - (1 : Int)) := by subst hH974; rfl
        clear hH974
        have f997 : -1 ≤ H974.2.2.1 91 0 ((((128 : Int) * n) + (H884.2.2.1 83 0 (n))) - (1 : Int)) ∧ H974.2.2.1 91 0 ((((128 : Int) * n) + (H884.2.2.1 83 0 (n))) - (1 : Int)) ≤ 299 := hT975.1 91 ((((128 : Int) * n) + (H884.2.2.1 83 0 (n))) - (1 : Int))
        refine J.run 8 rfl ⟨(show 0 ≤ (((128 : Int) * n) + (H884.2.2.1 83 0 (n))) - (1 : Int) ∧ (((128 : Int) * n) + (H884.2.2.1 83 0 (n))) - (1 : Int) < 2048 from ⟨by omega, by omega⟩), (show 0 ≤ n ∧ n < 16 from ⟨by omega, by omega⟩)⟩ ?_
        try dsimp only
        refine J.gn fun H998 hH998 => ?_
        have hT999 : gT H998 := by rw [hH998]; exact gT.upd hT975 (show -1 ≤ H974.2.2.1 91 0 ((((128 : Int) * n) + (H884.2.2.1 83 0 (n))) - (1 : Int)) ∧ H974.2.2.1 91 0 ((((128 : Int) * n) + (H884.2.2.1 83 0 (n))) - (1 : Int)) ≤ 299 from ⟨by omega, by omega⟩) (fun z => absurd z (by decide))
        have hE1000 : jEx [19, 12, 48, 56, 57, 47] [60, 56, 59, 58, 55, 57, 61, 99, 100, 77, 78, 82, 80, 114, 115, 81, 105, 71, 70, 72, 75, 76, 68, 67, 65, 63, 64, 66, 112, 113, 108, 110, 101, 102, 103, 104, 83, 73, 74, 84, 111, 89, 88, 93, 94, 86, 91, 92, 85, 87, 90] H998 H := by rw [hH998]; exact jEx.row hE976 (by decide)
        have k1001 : gP H998 := by rw [hH998]; exact k977
        have k1002 : gX H998 := by rw [hH998]; exact k978
        have k1003 : gL H998 := by rw [hH998]; exact k979
        have k1004 : gZ H998 := by rw [hH998]; exact k980
        have k1005 : gQ H998 := by rw [hH998]; exact k981
        have k1006 : gB H998 := by rw [hH998]; exact k982
        have k1007 : gK H998 := by rw [hH998]; exact k983
        have k1008 : gN H998 := by rw [hH998]; exact k984
        have k1009 : gV H998 (H998.1 11 19 0) n := by rw [hH998]; exact k985
        have sI := (show H998.2.2.1 114 0 = H974.2.2.1 114 0 from by subst hH998; rfl).trans sI
        have g1010 : H998.2.2.1 75 0 (n) = H974.2.2.1 91 0 ((((128 : Int) * n) + (H884.2.2.1 83 0 (n))) - (1 : Int)) := by subst hH998; exact if_pos rfl
        have g1011 : H998.1 11 12 0 = H974.1 11 12 0 := by subst hH998; rfl
        have g1012 : H998.1 11 19 0 = H974.1 11 19 0 := by subst hH998; rfl
        have g1013 : H998.2.2.1 74 0 (n) = H974.2.2.1 74 0 (n) := by subst hH998; rfl
        have g1014 : H998.2.2.1 73 0 (n) = H974.2.2.1 73 0 (n) := by subst hH998; rfl
        have g1015 : H998.2.2.1 84 0 (n) = H974.2.2.1 84 0 (n) := by subst hH998; rfl
        have g1016 : H998.2.2.1 80 0 (n) = H974.2.2.1 80 0 (n) := by subst hH998; rfl
        have g1017 : H998.2.2.1 83 0 (n) = H974.2.2.1 83 0 (n) := by subst hH998; rfl
        have g1018 : H998.2.2.1 79 0 (n) = H974.2.2.1 79 0 (n) := by subst hH998; rfl
        have g1019 : H998.2.2.1 87 0 ((((128 : Int) * n) + (H884.2.2.1 83 0 (n))) - (1 : Int)) = H974.2.2.1 87 0 ((((128 : Int) * n) + (H884.2.2.1 83 0 (n))) - (1 : Int)) := by subst hH998; rfl
        have g1020 : H998.2.2.1 90 0 ((((128 : Int) * n) + (H884.2.2.1 83 0 (n))) - (1 : Int)) = H974.2.2.1 90 0 ((((128 : Int) * n) + (H884.2.2.1 83 0 (n))) - (1 : Int)) := by subst hH998; rfl
        have g1021 : H998.2.2.1 91 0 ((((128 : Int) * n) + (H884.2.2.1 83 0 (n))) - (1 : Int)) = H974.2.2.1 91 0 ((((128 : Int) * n) + (H884.2.2.1 83 0 (n))) - (1 : Int)) := by subst hH998; rfl
        clear hH998
        have f1022 : -1 ≤ H998.2.2.1 92 0 ((((128 : Int) * n) + (H884.2.2.1 83 0 (n))) - (1 : Int)) ∧ H998.2.2.1 92 0 ((((128 : Int) * n) + (H884.2.2.1 83 0 (n))) - (1 : Int)) ≤ 31 := hT999.1 92 ((((128 : Int) * n) + (H884.2.2.1 83 0 (n))) - (1 : Int))
        refine J.run 8 rfl ⟨(show 0 ≤ (((128 : Int) * n) + (H884.2.2.1 83 0 (n))) - (1 : Int) ∧ (((128 : Int) * n) + (H884.2.2.1 83 0 (n))) - (1 : Int) < 2048 from ⟨by omega, by omega⟩), (show 0 ≤ n ∧ n < 16 from ⟨by omega, by omega⟩)⟩ ?_
        try dsimp only
        refine J.gn fun H1023 hH1023 => ?_
        have hT1024 : gT H1023 := by rw [hH1023]; exact gT.upd hT999 (show -1 ≤ H998.2.2.1 92 0 ((((128 : Int) * n) + (H884.2.2.1 83 0 (n))) - (1 : Int)) ∧ H998.2.2.1 92 0 ((((128 : Int) * n) + (H884.2.2.1 83 0 (n))) - (1 : Int)) ≤ 31 from ⟨by omega, by omega⟩) (fun z => absurd z (by decide))
        have hE1025 : jEx [19, 12, 48, 56, 57, 47] [60, 56, 59, 58, 55, 57, 61, 99, 100, 77, 78, 82, 80, 114, 115, 81, 105, 71, 70, 72, 75, 76, 68, 67, 65, 63, 64, 66, 112, 113, 108, 110, 101, 102, 103, 104, 83, 73, 74, 84, 111, 89, 88, 93, 94, 86, 91, 92, 85, 87, 90] H1023 H := by rw [hH1023]; exact jEx.row hE1000 (by decide)
        have k1026 : gP H1023 := by rw [hH1023]; exact k1001
        have k1027 : gX H1023 := by rw [hH1023]; exact k1002
        have k1028 : gL H1023 := by rw [hH1023]; exact k1003
        have k1029 : gZ H1023 := by rw [hH1023]; exact k1004
        have k1030 : gQ H1023 := by rw [hH1023]; exact k1005
        have k1031 : gB H1023 := by rw [hH1023]; exact k1006
        have k1032 : gK H1023 := by rw [hH1023]; exact k1007
        have k1033 : gN H1023 := by rw [hH1023]; exact k1008
        have k1034 : gV H1023 (H1023.1 11 19 0) n := by rw [hH1023]; exact k1009
        have sI := (show H1023.2.2.1 114 0 = H998.2.2.1 114 0 from by subst hH1023; rfl).trans sI
        have g1035 : H1023.2.2.1 76 0 (n) = H998.2.2.1 92 0 ((((128 : Int) * n) + (H884.2.2.1 83 0 (n))) - (1 : Int)) := by subst hH1023; exact if_pos rfl
        have g1036 : H1023.1 11 12 0 = H998.1 11 12 0 := by subst hH1023; rfl
        have g1037 : H1023.1 11 19 0 = H998.1 11 19 0 := by subst hH1023; rfl
        have g1038 : H1023.2.2.1 75 0 (n) = H998.2.2.1 75 0 (n) := by subst hH1023; rfl
        have g1039 : H1023.2.2.1 74 0 (n) = H998.2.2.1 74 0 (n) := by subst hH1023; rfl
        have g1040 : H1023.2.2.1 73 0 (n) = H998.2.2.1 73 0 (n) := by subst hH1023; rfl
        have g1041 : H1023.2.2.1 84 0 (n) = H998.2.2.1 84 0 (n) := by subst hH1023; rfl
        have g1042 : H1023.2.2.1 80 0 (n) = H998.2.2.1 80 0 (n) := by subst hH1023; rfl
        have g1043 : H1023.2.2.1 83 0 (n) = H998.2.2.1 83 0 (n) := by subst hH1023; rfl
        have g1044 : H1023.2.2.1 79 0 (n) = H998.2.2.1 79 0 (n) := by subst hH1023; rfl
        have g1045 : H1023.2.2.1 87 0 ((((128 : Int) * n) + (H884.2.2.1 83 0 (n))) - (1 : Int)) = H998.2.2.1 87 0 ((((128 : Int) * n) + (H884.2.2.1 83 0 (n))) - (1 : Int)) := by subst hH1023; rfl
        have g1046 : H1023.2.2.1 90 0 ((((128 : Int) * n) + (H884.2.2.1 83 0 (n))) - (1 : Int)) = H998.2.2.1 90 0 ((((128 : Int) * n) + (H884.2.2.1 83 0 (n))) - (1 : Int)) := by subst hH1023; rfl
        have g1047 : H1023.2.2.1 91 0 ((((128 : Int) * n) + (H884.2.2.1 83 0 (n))) - (1 : Int)) = H998.2.2.1 91 0 ((((128 : Int) * n) + (H884.2.2.1 83 0 (n))) - (1 : Int)) := by subst hH1023; rfl
        have g1048 : H1023.2.2.1 92 0 ((((128 : Int) * n) + (H884.2.2.1 83 0 (n))) - (1 : Int)) = H998.2.2.1 92 0 ((((128 : Int) * n) + (H884.2.2.1 83 0 (n))) - (1 : Int)) := by subst hH1023; rfl
        clear hH1023
        have f1049 : -1 ≤ H1023.2.2.1 93 0 ((((128 : Int) * n) + (H884.2.2.1 83 0 (n))) - (1 : Int)) ∧ H1023.2.2.1 93 0 ((((128 : Int) * n) + (H884.2.2.1 83 0 (n))) - (1 : Int)) ≤ 299 := hT1024.1 93 ((((128 : Int) * n) + (H884.2.2.1 83 0 (n))) - (1 : Int))
        have f1050 : 1 ≤ H1023.1 11 12 0 ∧ H1023.1 11 12 0 ≤ 300 := hT1024.2.1 12
        have f1049b : H1023.2.2.1 93 0 ((((128 : Int) * n) + (H884.2.2.1 83 0 (n))) - (1 : Int)) < H1023.1 11 12 0 := hT1024.2.2.1 93 ((((128 : Int) * n) + (H884.2.2.1 83 0 (n))) - (1 : Int)) rfl
        refine J.run 8 rfl ⟨(show 0 ≤ (((128 : Int) * n) + (H884.2.2.1 83 0 (n))) - (1 : Int) ∧ (((128 : Int) * n) + (H884.2.2.1 83 0 (n))) - (1 : Int) < 2048 from ⟨by omega, by omega⟩), (show 0 ≤ n ∧ n < 16 from ⟨by omega, by omega⟩)⟩ ?_
        try dsimp only
        refine J.gn fun H1051 hH1051 => ?_
        have hT1052 : gT H1051 := by rw [hH1051]; exact gT.upd hT1024 (show -1 ≤ H1023.2.2.1 93 0 ((((128 : Int) * n) + (H884.2.2.1 83 0 (n))) - (1 : Int)) ∧ H1023.2.2.1 93 0 ((((128 : Int) * n) + (H884.2.2.1 83 0 (n))) - (1 : Int)) ≤ 299 from ⟨by omega, by omega⟩) (fun _ => show H1023.2.2.1 93 0 ((((128 : Int) * n) + (H884.2.2.1 83 0 (n))) - (1 : Int)) < H1023.1 11 12 0 by omega)
        have hE1053 : jEx [19, 12, 48, 56, 57, 47] [60, 56, 59, 58, 55, 57, 61, 99, 100, 77, 78, 82, 80, 114, 115, 81, 105, 71, 70, 72, 75, 76, 68, 67, 65, 63, 64, 66, 112, 113, 108, 110, 101, 102, 103, 104, 83, 73, 74, 84, 111, 89, 88, 93, 94, 86, 91, 92, 85, 87, 90] H1051 H := by rw [hH1051]; exact jEx.row hE1025 (by decide)
        have k1054 : gP H1051 := by rw [hH1051]; exact k1026
        have k1055 : gX H1051 := by rw [hH1051]; exact k1027
        have k1056 : gL H1051 := by rw [hH1051]; exact k1028
        have k1057 : gZ H1051 := by rw [hH1051]; exact k1029
        have k1058 : gQ H1051 := by rw [hH1051]; exact k1030
        have k1059 : gB H1051 := by rw [hH1051]; exact k1031
        have k1060 : gK H1051 := by rw [hH1051]; exact k1032
        have k1061 : gN H1051 := by rw [hH1051]; exact k1033
        have k1062 : gV H1051 (H1051.1 11 19 0) n := by rw [hH1051]; exact k1034
        have sI := (show H1051.2.2.1 114 0 = H1023.2.2.1 114 0 from by subst hH1051; rfl).trans sI
        have g1063 : H1051.2.2.1 77 0 (n) = H1023.2.2.1 93 0 ((((128 : Int) * n) + (H884.2.2.1 83 0 (n))) - (1 : Int)) := by subst hH1051; exact if_pos rfl
        have g1064 : H1051.1 11 12 0 = H1023.1 11 12 0 := by subst hH1051; rfl
        have g1065 : H1051.1 11 19 0 = H1023.1 11 19 0 := by subst hH1051; rfl
        have g1066 : H1051.2.2.1 76 0 (n) = H1023.2.2.1 76 0 (n) := by subst hH1051; rfl
        have g1067 : H1051.2.2.1 75 0 (n) = H1023.2.2.1 75 0 (n) := by subst hH1051; rfl
        have g1068 : H1051.2.2.1 74 0 (n) = H1023.2.2.1 74 0 (n) := by subst hH1051; rfl
        have g1069 : H1051.2.2.1 73 0 (n) = H1023.2.2.1 73 0 (n) := by subst hH1051; rfl
        have g1070 : H1051.2.2.1 84 0 (n) = H1023.2.2.1 84 0 (n) := by subst hH1051; rfl
        have g1071 : H1051.2.2.1 80 0 (n) = H1023.2.2.1 80 0 (n) := by subst hH1051; rfl
        have g1072 : H1051.2.2.1 83 0 (n) = H1023.2.2.1 83 0 (n) := by subst hH1051; rfl
        have g1073 : H1051.2.2.1 79 0 (n) = H1023.2.2.1 79 0 (n) := by subst hH1051; rfl
        have g1074 : H1051.2.2.1 87 0 ((((128 : Int) * n) + (H884.2.2.1 83 0 (n))) - (1 : Int)) = H1023.2.2.1 87 0 ((((128 : Int) * n) + (H884.2.2.1 83 0 (n))) - (1 : Int)) := by subst hH1051; rfl
        have g1075 : H1051.2.2.1 90 0 ((((128 : Int) * n) + (H884.2.2.1 83 0 (n))) - (1 : Int)) = H1023.2.2.1 90 0 ((((128 : Int) * n) + (H884.2.2.1 83 0 (n))) - (1 : Int)) := by subst hH1051; rfl
        have g1076 : H1051.2.2.1 91 0 ((((128 : Int) * n) + (H884.2.2.1 83 0 (n))) - (1 : Int)) = H1023.2.2.1 91 0 ((((128 : Int) * n) + (H884.2.2.1 83 0 (n))) - (1 : Int)) := by subst hH1051; rfl
        have g1077 : H1051.2.2.1 92 0 ((((128 : Int) * n) + (H884.2.2.1 83 0 (n))) - (1 : Int)) = H1023.2.2.1 92 0 ((((128 : Int) * n) + (H884.2.2.1 83 0 (n))) - (1 : Int)) := by subst hH1051; rfl
        have g1078 : H1051.2.2.1 93 0 ((((128 : Int) * n) + (H884.2.2.1 83 0 (n))) - (1 : Int)) = H1023.2.2.1 93 0 ((((128 : Int) * n) + (H884.2.2.1 83 0 (n))) - (1 : Int)) := by subst hH1051; rfl
        clear hH1051
        have f1079 : -1 ≤ H1051.2.2.1 94 0 ((((128 : Int) * n) + (H884.2.2.1 83 0 (n))) - (1 : Int)) ∧ H1051.2.2.1 94 0 ((((128 : Int) * n) + (H884.2.2.1 83 0 (n))) - (1 : Int)) ≤ 31 := hT1052.1 94 ((((128 : Int) * n) + (H884.2.2.1 83 0 (n))) - (1 : Int))
        refine J.run 8 rfl ⟨(show 0 ≤ (((128 : Int) * n) + (H884.2.2.1 83 0 (n))) - (1 : Int) ∧ (((128 : Int) * n) + (H884.2.2.1 83 0 (n))) - (1 : Int) < 2048 from ⟨by omega, by omega⟩), (show 0 ≤ n ∧ n < 16 from ⟨by omega, by omega⟩)⟩ ?_
        try dsimp only
        refine J.gn fun H1080 hH1080 => ?_
        have hT1081 : gT H1080 := by rw [hH1080]; exact gT.upd hT1052 (show -1 ≤ H1051.2.2.1 94 0 ((((128 : Int) * n) + (H884.2.2.1 83 0 (n))) - (1 : Int)) ∧ H1051.2.2.1 94 0 ((((128 : Int) * n) + (H884.2.2.1 83 0 (n))) - (1 : Int)) ≤ 31 from ⟨by omega, by omega⟩) (fun z => absurd z (by decide))
        have hE1082 : jEx [19, 12, 48, 56, 57, 47] [60, 56, 59, 58, 55, 57, 61, 99, 100, 77, 78, 82, 80, 114, 115, 81, 105, 71, 70, 72, 75, 76, 68, 67, 65, 63, 64, 66, 112, 113, 108, 110, 101, 102, 103, 104, 83, 73, 74, 84, 111, 89, 88, 93, 94, 86, 91, 92, 85, 87, 90] H1080 H := by rw [hH1080]; exact jEx.row hE1053 (by decide)
        have k1083 : gP H1080 := by rw [hH1080]; exact k1054
        have k1084 : gX H1080 := by rw [hH1080]; exact k1055
        have k1085 : gL H1080 := by rw [hH1080]; exact k1056
        have k1086 : gZ H1080 := by rw [hH1080]; exact k1057
        have k1087 : gQ H1080 := by rw [hH1080]; exact k1058
        have k1088 : gB H1080 := by rw [hH1080]; exact k1059
        have k1089 : gK H1080 := by rw [hH1080]; exact k1060
        have k1090 : gN H1080 := by rw [hH1080]; exact k1061
        have k1091 : gV H1080 (H1080.1 11 19 0) n := by rw [hH1080]; exact k1062
        have sI := (show H1080.2.2.1 114 0 = H1051.2.2.1 114 0 from by subst hH1080; rfl).trans sI
        have g1092 : H1080.2.2.1 78 0 (n) = H1051.2.2.1 94 0 ((((128 : Int) * n) + (H884.2.2.1 83 0 (n))) - (1 : Int)) := by subst hH1080; exact if_pos rfl
        have g1093 : H1080.1 11 12 0 = H1051.1 11 12 0 := by subst hH1080; rfl
        have g1094 : H1080.1 11 19 0 = H1051.1 11 19 0 := by subst hH1080; rfl
        have g1095 : H1080.2.2.1 77 0 (n) = H1051.2.2.1 77 0 (n) := by subst hH1080; rfl
        have g1096 : H1080.2.2.1 76 0 (n) = H1051.2.2.1 76 0 (n) := by subst hH1080; rfl
        have g1097 : H1080.2.2.1 75 0 (n) = H1051.2.2.1 75 0 (n) := by subst hH1080; rfl
        have g1098 : H1080.2.2.1 74 0 (n) = H1051.2.2.1 74 0 (n) := by subst hH1080; rfl
        have g1099 : H1080.2.2.1 73 0 (n) = H1051.2.2.1 73 0 (n) := by subst hH1080; rfl
        have g1100 : H1080.2.2.1 84 0 (n) = H1051.2.2.1 84 0 (n) := by subst hH1080; rfl
        have g1101 : H1080.2.2.1 80 0 (n) = H1051.2.2.1 80 0 (n) := by subst hH1080; rfl
        have g1102 : H1080.2.2.1 83 0 (n) = H1051.2.2.1 83 0 (n) := by subst hH1080; rfl
        have g1103 : H1080.2.2.1 79 0 (n) = H1051.2.2.1 79 0 (n) := by subst hH1080; rfl
        have g1104 : H1080.2.2.1 87 0 ((((128 : Int) * n) + (H884.2.2.1 83 0 (n))) - (1 : Int)) = H1051.2.2.1 87 0 ((((128 : Int) * n) + (H884.2.2.1 83 0 (n))) - (1 : Int)) := by subst hH1080; rfl
        have g1105 : H1080.2.2.1 90 0 ((((128 : Int) * n) + (H884.2.2.1 83 0 (n))) - (1 : Int)) = H1051.2.2.1 90 0 ((((128 : Int) * n) + (H884.2.2.1 83 0 (n))) - (1 : Int)) := by subst hH1080; rfl
        have g1106 : H1080.2.2.1 91 0 ((((128 : Int) * n) + (H884.2.2.1 83 0 (n))) - (1 : Int)) = H1051.2.2.1 91 0 ((((128 : Int) * n) + (H884.2.2.1 83 0 (n))) - (1 : Int)) := by subst hH1080; rfl
        have g1107 : H1080.2.2.1 92 0 ((((128 : Int) * n) + (H884.2.2.1 83 0 (n))) - (1 : Int)) = H1051.2.2.1 92 0 ((((128 : Int) * n) + (H884.2.2.1 83 0 (n))) - (1 : Int)) := by subst hH1080; rfl
        have g1108 : H1080.2.2.1 93 0 ((((128 : Int) * n) + (H884.2.2.1 83 0 (n))) - (1 : Int)) = H1051.2.2.1 93 0 ((((128 : Int) * n) + (H884.2.2.1 83 0 (n))) - (1 : Int)) := by subst hH1080; rfl
        have g1109 : H1080.2.2.1 94 0 ((((128 : Int) * n) + (H884.2.2.1 83 0 (n))) - (1 : Int)) = H1051.2.2.1 94 0 ((((128 : Int) * n) + (H884.2.2.1 83 0 (n))) - (1 : Int)) := by subst hH1080; rfl
        clear hH1080
        refine J.run 5 rfl (show ((0 : Int) = 0 ∨ (0 : Int) = 1) ∧ 0 ≤ n ∧ n < 16 from ⟨by omega, by omega, by omega⟩) ?_
        try dsimp only
        refine J.gn fun H1110 hH1110 => ?_
        have hT1111 : gT H1110 := by rw [hH1110]; exact gT.upd hT1081 (show 0 ≤ (0 : Int) ∧ (0 : Int) ≤ 1 from ⟨by omega, by omega⟩) (fun z => absurd z (by decide))
        have hE1112 : jEx [19, 12, 48, 56, 57, 47] [60, 56, 59, 58, 55, 57, 61, 99, 100, 77, 78, 82, 80, 114, 115, 81, 105, 71, 70, 72, 75, 76, 68, 67, 65, 63, 64, 66, 112, 113, 108, 110, 101, 102, 103, 104, 83, 73, 74, 84, 111, 89, 88, 93, 94, 86, 91, 92, 85, 87, 90] H1110 H := by rw [hH1110]; exact jEx.row hE1082 (by decide)
        have k1113 : gP H1110 := by rw [hH1110]; exact k1083
        have k1114 : gX H1110 := by rw [hH1110]; exact k1084
        have k1115 : gL H1110 := by rw [hH1110]; exact k1085
        have k1116 : gZ H1110 := by rw [hH1110]; exact k1086
        have k1117 : gQ H1110 := by rw [hH1110]; exact k1087
        have k1118 : gB H1110 := by rw [hH1110]; exact k1088
        have k1119 : gK H1110 := by rw [hH1110]; exact k1089
        have k1120 : gN H1110 := by rw [hH1110]; exact k1090
        have k1121 : gV H1110 (H1110.1 11 19 0) n := by rw [hH1110]; exact k1091
        have sI := (show H1110.2.2.1 114 0 = H1080.2.2.1 114 0 from by subst hH1110; rfl).trans sI
        have g1122 : H1110.2.2.1 115 0 (n) = (0 : Int) := by subst hH1110; exact if_pos rfl
        have g1123 : H1110.1 11 12 0 = H1080.1 11 12 0 := by subst hH1110; rfl
        have g1124 : H1110.1 11 19 0 = H1080.1 11 19 0 := by subst hH1110; rfl
        have g1125 : H1110.2.2.1 78 0 (n) = H1080.2.2.1 78 0 (n) := by subst hH1110; rfl
        have g1126 : H1110.2.2.1 77 0 (n) = H1080.2.2.1 77 0 (n) := by subst hH1110; rfl
        have g1127 : H1110.2.2.1 76 0 (n) = H1080.2.2.1 76 0 (n) := by subst hH1110; rfl
        have g1128 : H1110.2.2.1 75 0 (n) = H1080.2.2.1 75 0 (n) := by subst hH1110; rfl
        have g1129 : H1110.2.2.1 74 0 (n) = H1080.2.2.1 74 0 (n) := by subst hH1110; rfl
        have g1130 : H1110.2.2.1 73 0 (n) = H1080.2.2.1 73 0 (n) := by subst hH1110; rfl
        have g1131 : H1110.2.2.1 84 0 (n) = H1080.2.2.1 84 0 (n) := by subst hH1110; rfl
        have g1132 : H1110.2.2.1 80 0 (n) = H1080.2.2.1 80 0 (n) := by subst hH1110; rfl
        have g1133 : H1110.2.2.1 83 0 (n) = H1080.2.2.1 83 0 (n) := by subst hH1110; rfl
        have g1134 : H1110.2.2.1 79 0 (n) = H1080.2.2.1 79 0 (n) := by subst hH1110; rfl
        have g1135 : H1110.2.2.1 87 0 ((((128 : Int) * n) + (H884.2.2.1 83 0 (n))) - (1 : Int)) = H1080.2.2.1 87 0 ((((128 : Int) * n) + (H884.2.2.1 83 0 (n))) - (1 : Int)) := by subst hH1110; rfl
        have g1136 : H1110.2.2.1 90 0 ((((128 : Int) * n) + (H884.2.2.1 83 0 (n))) - (1 : Int)) = H1080.2.2.1 90 0 ((((128 : Int) * n) + (H884.2.2.1 83 0 (n))) - (1 : Int)) := by subst hH1110; rfl
        have g1137 : H1110.2.2.1 91 0 ((((128 : Int) * n) + (H884.2.2.1 83 0 (n))) - (1 : Int)) = H1080.2.2.1 91 0 ((((128 : Int) * n) + (H884.2.2.1 83 0 (n))) - (1 : Int)) := by subst hH1110; rfl
        have g1138 : H1110.2.2.1 92 0 ((((128 : Int) * n) + (H884.2.2.1 83 0 (n))) - (1 : Int)) = H1080.2.2.1 92 0 ((((128 : Int) * n) + (H884.2.2.1 83 0 (n))) - (1 : Int)) := by subst hH1110; rfl
        have g1139 : H1110.2.2.1 93 0 ((((128 : Int) * n) + (H884.2.2.1 83 0 (n))) - (1 : Int)) = H1080.2.2.1 93 0 ((((128 : Int) * n) + (H884.2.2.1 83 0 (n))) - (1 : Int)) := by subst hH1110; rfl
        have g1140 : H1110.2.2.1 94 0 ((((128 : Int) * n) + (H884.2.2.1 83 0 (n))) - (1 : Int)) = H1080.2.2.1 94 0 ((((128 : Int) * n) + (H884.2.2.1 83 0 (n))) - (1 : Int)) := by subst hH1110; rfl
        clear hH1110
        have k1141 : gW H1110 (H1110.1 11 19 0) := gV.back k1121 (by omega)
        refine J.run0 4 rfl ?_
        try dsimp only
        exact (g_start_l0 (H0 := H) (n := n)  hp0 ((3000 - ((128 : Int) * n) : Int).toNat + 1)) (H884.2.2.1 83 0 (n)) ((((128 : Int) * n) + (H884.2.2.1 83 0 (n))) - (1 : Int)) ((128 : Int) * n) H1110 _ (show 3000 - ((128 : Int) * n) < _ by omega) (show 0 ≤ n ∧ n < 16 from ⟨by omega, by omega⟩) (show 1 ≤ (H884.2.2.1 83 0 (n)) ∧ (H884.2.2.1 83 0 (n)) ≤ 96 from ⟨by omega, by omega⟩) (show ((((128 : Int) * n) + (H884.2.2.1 83 0 (n))) - (1 : Int)) = 128 * n + (H884.2.2.1 83 0 (n)) - 1 from by omega) (show 128 * n ≤ ((128 : Int) * n) ∧ ((128 : Int) * n) ≤ 128 * n + (H884.2.2.1 83 0 (n)) from ⟨by omega, by omega⟩) (show H1110.2.2.1 83 0 (n) = (H884.2.2.1 83 0 (n)) from by omega) (show H1110.2.2.1 80 0 (n) = 0 from by omega) (show ∀ j, ((128 : Int) * n) ≤ j → j ≤ ((((128 : Int) * n) + (H884.2.2.1 83 0 (n))) - (1 : Int)) → 0 ≤ H1110.2.2.1 85 0 j → H1110.2.2.1 114 0 (6000 * n + H1110.2.2.1 85 0 j) = 0 from (by first | exact (fun j _ _ hz => by have y : -1 ≤ H1110.2.2.1 85 0 j ∧ H1110.2.2.1 85 0 j ≤ 5999 := hT1111.1 85 j; rw [sI]; exact qn _ hz (by omega)) | exact gst1 k0gW ⟨by omega, by omega⟩ (by omega) (by omega) hi6 (by omega) (eL_know.r 85 (by decide)) pL_know_0 | exact gst2 k0gW ⟨by omega, by omega⟩ (by omega) (by omega) hi6 (sW.trans (by rw [eL_spoken.r 85 (by decide)])) (fun z hz => (congrFun sK z).trans (pL_spoken_0 z hz)) | exact (fun j a b => hi6 j (by omega) b))) hT1111 hE1112 k1113 k1114 k1115 k1116 k1117 k1118 k1119 k1120 k1141 rfl
      · have c1142 : ¬ (¬ (H884.2.2.1 83 0 (n) = (0 : Int))) := hc
        clear hc
        refine J.run 5 rfl (show 0 ≤ n ∧ n < 16 from ⟨by omega, by omega⟩) ?_
        try dsimp only
        refine J.gn fun H1143 hH1143 => ?_
        have hT1144 : gT H1143 := by rw [hH1143]; exact gT.upd hT928 (show -1 ≤ (-1 : Int) ∧ (-1 : Int) ≤ 299 from ⟨by omega, by omega⟩) (fun z => absurd z (by decide))
        have hE1145 : jEx [19, 12, 48, 56, 57, 47] [60, 56, 59, 58, 55, 57, 61, 99, 100, 77, 78, 82, 80, 114, 115, 81, 105, 71, 70, 72, 75, 76, 68, 67, 65, 63, 64, 66, 112, 113, 108, 110, 101, 102, 103, 104, 83, 73, 74, 84, 111, 89, 88, 93, 94, 86, 91, 92, 85, 87, 90] H1143 H := by rw [hH1143]; exact jEx.row hE929 (by decide)
        have k1146 : gP H1143 := by rw [hH1143]; exact k930
        have k1147 : gX H1143 := by rw [hH1143]; exact k931
        have k1148 : gL H1143 := by rw [hH1143]; exact k932
        have k1149 : gZ H1143 := by rw [hH1143]; exact k933
        have k1150 : gQ H1143 := by rw [hH1143]; exact k934
        have k1151 : gB H1143 := by rw [hH1143]; exact k935
        have k1152 : gK H1143 := by rw [hH1143]; exact k936
        have k1153 : gN H1143 := by rw [hH1143]; exact k937
        have k1154 : gW H1143 (H1143.1 11 19 0) := by rw [hH1143]; exact k938
        have sI := (show H1143.2.2.1 114 0 = H927.2.2.1 114 0 from by subst hH1143; rfl).trans sI
        have g1155 : H1143.2.2.1 75 0 (n) = (-1 : Int) := by subst hH1143; exact if_pos rfl
        have g1156 : H1143.1 11 12 0 = H927.1 11 12 0 := by subst hH1143; rfl
        have g1157 : H1143.1 11 19 0 = H927.1 11 19 0 := by subst hH1143; rfl
        have g1158 : H1143.2.2.1 84 0 (n) = H927.2.2.1 84 0 (n) := by subst hH1143; rfl
        have g1159 : H1143.2.2.1 80 0 (n) = H927.2.2.1 80 0 (n) := by subst hH1143; rfl
        have g1160 : H1143.2.2.1 83 0 (n) = H927.2.2.1 83 0 (n) := by subst hH1143; rfl
        have g1161 : H1143.2.2.1 79 0 (n) = H927.2.2.1 79 0 (n) := by subst hH1143; rfl
        have g1162 : H1143.2.2.1 73 0 (n) = H927.2.2.1 73 0 (n) := by subst hH1143; rfl
        have g1163 : H1143.2.2.1 74 0 (n) = H927.2.2.1 74 0 (n) := by subst hH1143; rfl
        clear hH1143
        refine J.run 5 rfl (show 0 ≤ n ∧ n < 16 from ⟨by omega, by omega⟩) ?_
        try dsimp only
        refine J.gn fun H1164 hH1164 => ?_
        have hT1165 : gT H1164 := by rw [hH1164]; exact gT.upd hT1144 (show -1 ≤ (-1 : Int) ∧ (-1 : Int) ≤ 31 from ⟨by omega, by omega⟩) (fun z => absurd z (by decide))
        have hE1166 : jEx [19, 12, 48, 56, 57, 47] [60, 56, 59, 58, 55, 57, 61, 99, 100, 77, 78, 82, 80, 114, 115, 81, 105, 71, 70, 72, 75, 76, 68, 67, 65, 63, 64, 66, 112, 113, 108, 110, 101, 102, 103, 104, 83, 73, 74, 84, 111, 89, 88, 93, 94, 86, 91, 92, 85, 87, 90] H1164 H := by rw [hH1164]; exact jEx.row hE1145 (by decide)
        have k1167 : gP H1164 := by rw [hH1164]; exact k1146
        have k1168 : gX H1164 := by rw [hH1164]; exact k1147
        have k1169 : gL H1164 := by rw [hH1164]; exact k1148
        have k1170 : gZ H1164 := by rw [hH1164]; exact k1149
        have k1171 : gQ H1164 := by rw [hH1164]; exact k1150
        have k1172 : gB H1164 := by rw [hH1164]; exact k1151
        have k1173 : gK H1164 := by rw [hH1164]; exact k1152
        have k1174 : gN H1164 := by rw [hH1164]; exact k1153
        have k1175 : gW H1164 (H1164.1 11 19 0) := by rw [hH1164]; exact k1154
        have sI := (show H1164.2.2.1 114 0 = H1143.2.2.1 114 0 from by subst hH1164; rfl).trans sI
        have g1176 : H1164.2.2.1 76 0 (n) = (-1 : Int) := by subst hH1164; exact if_pos rfl
        have g1177 : H1164.1 11 12 0 = H1143.1 11 12 0 := by subst hH1164; rfl
        have g1178 : H1164.1 11 19 0 = H1143.1 11 19 0 := by subst hH1164; rfl
        have g1179 : H1164.2.2.1 75 0 (n) = H1143.2.2.1 75 0 (n) := by subst hH1164; rfl
        have g1180 : H1164.2.2.1 84 0 (n) = H1143.2.2.1 84 0 (n) := by subst hH1164; rfl
        have g1181 : H1164.2.2.1 80 0 (n) = H1143.2.2.1 80 0 (n) := by subst hH1164; rfl
        have g1182 : H1164.2.2.1 83 0 (n) = H1143.2.2.1 83 0 (n) := by subst hH1164; rfl
        have g1183 : H1164.2.2.1 79 0 (n) = H1143.2.2.1 79 0 (n) := by subst hH1164; rfl
        have g1184 : H1164.2.2.1 73 0 (n) = H1143.2.2.1 73 0 (n) := by subst hH1164; rfl
        have g1185 : H1164.2.2.1 74 0 (n) = H1143.2.2.1 74 0 (n) := by subst hH1164; rfl
        clear hH1164
        have f1186 : 1 ≤ H1164.1 11 12 0 ∧ H1164.1 11 12 0 ≤ 300 := hT1165.2.1 12
        refine J.run 5 rfl (show 0 ≤ n ∧ n < 16 from ⟨by omega, by omega⟩) ?_
        try dsimp only
        refine J.gn fun H1187 hH1187 => ?_
        have hT1188 : gT H1187 := by rw [hH1187]; exact gT.upd hT1165 (show -1 ≤ (-1 : Int) ∧ (-1 : Int) ≤ 299 from ⟨by omega, by omega⟩) (fun _ => show (-1 : Int) < H1164.1 11 12 0 by omega)
        have hE1189 : jEx [19, 12, 48, 56, 57, 47] [60, 56, 59, 58, 55, 57, 61, 99, 100, 77, 78, 82, 80, 114, 115, 81, 105, 71, 70, 72, 75, 76, 68, 67, 65, 63, 64, 66, 112, 113, 108, 110, 101, 102, 103, 104, 83, 73, 74, 84, 111, 89, 88, 93, 94, 86, 91, 92, 85, 87, 90] H1187 H := by rw [hH1187]; exact jEx.row hE1166 (by decide)
        have k1190 : gP H1187 := by rw [hH1187]; exact k1167
        have k1191 : gX H1187 := by rw [hH1187]; exact k1168
        have k1192 : gL H1187 := by rw [hH1187]; exact k1169
        have k1193 : gZ H1187 := by rw [hH1187]; exact k1170
        have k1194 : gQ H1187 := by rw [hH1187]; exact k1171
        have k1195 : gB H1187 := by rw [hH1187]; exact k1172
        have k1196 : gK H1187 := by rw [hH1187]; exact k1173
        have k1197 : gN H1187 := by rw [hH1187]; exact k1174
        have k1198 : gW H1187 (H1187.1 11 19 0) := by rw [hH1187]; exact k1175
        have sI := (show H1187.2.2.1 114 0 = H1164.2.2.1 114 0 from by subst hH1187; rfl).trans sI
        have g1199 : H1187.2.2.1 77 0 (n) = (-1 : Int) := by subst hH1187; exact if_pos rfl
        have g1200 : H1187.1 11 12 0 = H1164.1 11 12 0 := by subst hH1187; rfl
        have g1201 : H1187.1 11 19 0 = H1164.1 11 19 0 := by subst hH1187; rfl
        have g1202 : H1187.2.2.1 76 0 (n) = H1164.2.2.1 76 0 (n) := by subst hH1187; rfl
        have g1203 : H1187.2.2.1 75 0 (n) = H1164.2.2.1 75 0 (n) := by subst hH1187; rfl
        have g1204 : H1187.2.2.1 84 0 (n) = H1164.2.2.1 84 0 (n) := by subst hH1187; rfl
        have g1205 : H1187.2.2.1 80 0 (n) = H1164.2.2.1 80 0 (n) := by subst hH1187; rfl
        have g1206 : H1187.2.2.1 83 0 (n) = H1164.2.2.1 83 0 (n) := by subst hH1187; rfl
        have g1207 : H1187.2.2.1 79 0 (n) = H1164.2.2.1 79 0 (n) := by subst hH1187; rfl
        have g1208 : H1187.2.2.1 73 0 (n) = H1164.2.2.1 73 0 (n) := by subst hH1187; rfl
        have g1209 : H1187.2.2.1 74 0 (n) = H1164.2.2.1 74 0 (n) := by subst hH1187; rfl
        clear hH1187
        refine J.run 5 rfl (show 0 ≤ n ∧ n < 16 from ⟨by omega, by omega⟩) ?_
        try dsimp only
        refine J.gn fun H1210 hH1210 => ?_
        have hT1211 : gT H1210 := by rw [hH1210]; exact gT.upd hT1188 (show -1 ≤ (-1 : Int) ∧ (-1 : Int) ≤ 31 from ⟨by omega, by omega⟩) (fun z => absurd z (by decide))
        have hE1212 : jEx [19, 12, 48, 56, 57, 47] [60, 56, 59, 58, 55, 57, 61, 99, 100, 77, 78, 82, 80, 114, 115, 81, 105, 71, 70, 72, 75, 76, 68, 67, 65, 63, 64, 66, 112, 113, 108, 110, 101, 102, 103, 104, 83, 73, 74, 84, 111, 89, 88, 93, 94, 86, 91, 92, 85, 87, 90] H1210 H := by rw [hH1210]; exact jEx.row hE1189 (by decide)
        have k1213 : gP H1210 := by rw [hH1210]; exact k1190
        have k1214 : gX H1210 := by rw [hH1210]; exact k1191
        have k1215 : gL H1210 := by rw [hH1210]; exact k1192
        have k1216 : gZ H1210 := by rw [hH1210]; exact k1193
        have k1217 : gQ H1210 := by rw [hH1210]; exact k1194
        have k1218 : gB H1210 := by rw [hH1210]; exact k1195
        have k1219 : gK H1210 := by rw [hH1210]; exact k1196
        have k1220 : gN H1210 := by rw [hH1210]; exact k1197
        have k1221 : gW H1210 (H1210.1 11 19 0) := by rw [hH1210]; exact k1198
        have sI := (show H1210.2.2.1 114 0 = H1187.2.2.1 114 0 from by subst hH1210; rfl).trans sI
        have g1222 : H1210.2.2.1 78 0 (n) = (-1 : Int) := by subst hH1210; exact if_pos rfl
        have g1223 : H1210.1 11 12 0 = H1187.1 11 12 0 := by subst hH1210; rfl
        have g1224 : H1210.1 11 19 0 = H1187.1 11 19 0 := by subst hH1210; rfl
        have g1225 : H1210.2.2.1 77 0 (n) = H1187.2.2.1 77 0 (n) := by subst hH1210; rfl
        have g1226 : H1210.2.2.1 76 0 (n) = H1187.2.2.1 76 0 (n) := by subst hH1210; rfl
        have g1227 : H1210.2.2.1 75 0 (n) = H1187.2.2.1 75 0 (n) := by subst hH1210; rfl
        have g1228 : H1210.2.2.1 84 0 (n) = H1187.2.2.1 84 0 (n) := by subst hH1210; rfl
        have g1229 : H1210.2.2.1 80 0 (n) = H1187.2.2.1 80 0 (n) := by subst hH1210; rfl
        have g1230 : H1210.2.2.1 83 0 (n) = H1187.2.2.1 83 0 (n) := by subst hH1210; rfl
        have g1231 : H1210.2.2.1 79 0 (n) = H1187.2.2.1 79 0 (n) := by subst hH1210; rfl
        have g1232 : H1210.2.2.1 73 0 (n) = H1187.2.2.1 73 0 (n) := by subst hH1210; rfl
        have g1233 : H1210.2.2.1 74 0 (n) = H1187.2.2.1 74 0 (n) := by subst hH1210; rfl
        clear hH1210
        refine J.run0 3 rfl ?_
        try dsimp only
        refine J.inv rfl rfl rfl rfl rfl rfl jDr rfl rfl rfl rfl rfl (g_begins (n := n) (q := (0 : Int)) (u := 16) hT1211 k1213 k1214 k1215 k1216 k1217 k1218 k1219 k1220 k1221 gU.triv (show 0 ≤ (n) ∧ (n) < 16 from ⟨by omega, by omega⟩) (show 0 ≤ ((0 : Int)) ∧ ((0 : Int)) < 32 from ⟨by omega, by omega⟩) (show H1210.2.2.1 83 0 ((n)) ≤ 3 * ((0 : Int)) from by omega) (show H1210.2.2.1 80 0 ((n)) = 0 from by omega) (show (n) < (16) from by omega)) ?_
        rintro v w H1236 ⟨rfl, hT1237, ehE1238, k1239, k1240, k1241, k1242, k1243, k1244, k1245, k1246, k1247, k1248, p1249, p1250, rfl⟩
        have hE1238 := jEx.trans ehE1238 hE1212 (by decide) (by decide)
        have p1249' : 192 * H1210.2.2.1 56 0 (H1210.2.2.1 72 0 ((n))) + 6 * ((0 : Int)) ≤ 192 * H1236.2.2.1 56 0 (H1236.2.2.1 72 0 ((n))) + 6 * H1236.2.2.1 73 0 ((n)) + 2 * H1236.2.2.1 74 0 ((n)) + H1236.2.2.1 115 0 ((n)) := p1249
        have p1250' : H1210.1 11 19 0 ≤ H1236.1 11 19 0 := p1250
        have pL_begins_0 := p1249'
        have pL_begins_1 := p1250'
        have g1251 : H1236.2.2.1 78 0 (n) = H1210.2.2.1 78 0 (n) := congrFun (ehE1238.r 78 (by decide)) _
        have g1252 : H1236.2.2.1 77 0 (n) = H1210.2.2.1 77 0 (n) := congrFun (ehE1238.r 77 (by decide)) _
        have g1253 : H1236.2.2.1 76 0 (n) = H1210.2.2.1 76 0 (n) := congrFun (ehE1238.r 76 (by decide)) _
        have g1254 : H1236.2.2.1 75 0 (n) = H1210.2.2.1 75 0 (n) := congrFun (ehE1238.r 75 (by decide)) _
        have g1255 : H1236.2.2.1 79 0 (n) = H1210.2.2.1 79 0 (n) := congrFun (ehE1238.r 79 (by decide)) _
        have eL_begins := ehE1238
        try dsimp only [Option.toList, List.append, List.cons_append, List.nil_append]
        refine J.run0 3 rfl ?_
        try dsimp only
        refine J.inv rfl rfl rfl rfl rfl rfl jDr rfl rfl rfl rfl rfl (g_act (n := n) (u := 16) hT1237 k1239 k1240 k1241 k1242 k1243 k1244 k1245 k1246 k1247 gU.triv (show 0 ≤ (n) ∧ (n) < 16 from ⟨by omega, by omega⟩) (show (n) < (16) from by omega)) ?_
        rintro v w H1258 ⟨rfl, hT1259, ehE1260, k1261, k1262, k1263, k1264, k1265, k1266, k1267, k1268, k1269, k1270, p1271, rfl⟩
        have hE1260 := jEx.trans ehE1260 hE1238 (by decide) (by decide)
        have p1271' : H1236.1 11 19 0 ≤ H1258.1 11 19 0 := p1271
        have pL_act_0 := p1271'
        have g1272 : H1258.2.2.1 79 0 (n) = H1236.2.2.1 79 0 (n) := congrFun (ehE1260.r 79 (by decide)) _
        have eL_act := ehE1260
        try dsimp only [Option.toList, List.append, List.cons_append, List.nil_append]
        refine J.run0 1 rfl ?_
        try dsimp only
        exact J.reti rfl rfl rfl ⟨_, rfl, rfl, hT1259, hE1260, k1261, k1262, k1263, k1264, k1265, k1266, k1267, k1268, k1269, _, rfl, (show 0 ≤ (H884.2.2.1 83 0 (n)) ∧ (H884.2.2.1 83 0 (n)) ≤ 96 from ⟨by omega, by omega⟩)⟩
    · have c1273 : ¬ (H884.1 11 47 0 ≤ (0 : Int)) := hc
      clear hc
      refine J.run0 1 rfl ?_
      try dsimp only
      exact J.reti rfl rfl rfl ⟨_, rfl, rfl, hT885, hE886, k887, k888, k889, k890, k891, k892, k893, k894, k895, _, rfl, (show 0 ≤ ((0 : Int)) ∧ ((0 : Int)) ≤ 96 from ⟨by omega, by omega⟩)⟩
end
