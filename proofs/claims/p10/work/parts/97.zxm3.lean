-- M: X11_isMoved#3
section
variable {d : Nat} {w : jW} 
set_option maxRecDepth 20000 in
set_option maxHeartbeats 8000000 in
theorem g_isMoved_l3 {n u : Int} {H0 : jH} (hp0 : 0 ≤ n ∧ n < 16) (hp1 : H0.2.2.1 79 0 (n) = 0) (hp2 : H0.2.2.1 80 0 (n) = 0) (hp3 : n < u) : ∀ (m : Nat), (∀ (r b f : Int) (H : jH) (lv : jL), 0 < (m : Int) → (r = H0.2.2.1 73 0 (n)) → (0 ≤ b ∧ b < 300) → (b < H.1 11 12 0) → (0 ≤ f ∧ f ≤ 1) → (H0.2.2.1 74 0 (n) = 0) → (H.2.2.1 73 0 (n) = H0.2.2.1 73 0 (n)) → (H.2.2.1 74 0 (n) = H0.2.2.1 74 0 (n)) → (H.2.2.1 115 0 (n) = H0.2.2.1 115 0 (n)) → (H.2.2.1 72 0 (n) = H0.2.2.1 72 0 (n)) → (H.2.2.1 79 0 (n) = 0) → (H.2.2.1 80 0 (n) = 0) → (H.2.2.1 56 0 (H0.2.2.1 72 0 (n)) = H0.2.2.1 56 0 (H0.2.2.1 72 0 (n))) → (H.2.2.1 83 0 (n) ≤ 3 * H0.2.2.1 73 0 (n) + H0.2.2.1 74 0 (n) + 1) → (H0.1 11 19 0 ≤ H.1 11 19 0) → (0 ≤ H0.2.2.1 73 0 (n) ∧ H0.2.2.1 73 0 (n) ≤ 31) → (0 ≤ H0.2.2.1 74 0 (n) ∧ H0.2.2.1 74 0 (n) ≤ 2) → (0 ≤ H0.2.2.1 115 0 (n) ∧ H0.2.2.1 115 0 (n) ≤ 1) → (0 ≤ H0.2.2.1 72 0 (n) ∧ H0.2.2.1 72 0 (n) ≤ 299) → gT H → jEx [19, 12, 48, 56, 57] [60, 56, 59, 58, 55, 57, 61, 99, 100, 77, 78, 82, 80, 114, 115, 81, 105, 71, 70, 72, 75, 76, 68, 67, 65, 63, 64, 66, 112, 113, 108, 110, 101, 102, 103, 104, 83, 73, 74, 84, 111, 89, 88, 93, 94, 86, 91, 92, 85, 87, 90] H H0 → gP H → gX H → gL H → gZ H → gQ H → gB H → gK H → gN H → gW H (H.1 11 19 0) → gU H u → ((∃ j7 j6 j4 j2 : Int, lv = [(8, .inl f), (7, .inl j7), (6, .inl j6), (5, .inl b), (4, .inl j4), (3, .inl r), (2, .inl j2), (0, jT), (1, .inl n)])) → J true (d + 304) 143 w (353, lv, [], H) (jN fun v w' H' => w' = w ∧ gT H' ∧ jEx [19, 12, 48, 56, 57] [60, 56, 59, 58, 55, 57, 61, 99, 100, 77, 78, 82, 80, 114, 115, 81, 105, 71, 70, 72, 75, 76, 68, 67, 65, 63, 64, 66, 112, 113, 108, 110, 101, 102, 103, 104, 83, 73, 74, 84, 111, 89, 88, 93, 94, 86, 91, 92, 85, 87, 90] H' H0 ∧ gP H' ∧ gX H' ∧ gL H' ∧ gZ H' ∧ gQ H' ∧ gB H' ∧ gK H' ∧ gN H' ∧ gW H' (H'.1 11 19 0) ∧ gU H' u ∧ ∃ x, v = some (.inl x) ∧ (x = 0 ∨ x = 1) ∧ (x = 1 → 192 * H0.2.2.1 56 0 (H0.2.2.1 72 0 (n)) + 6 * H0.2.2.1 73 0 (n) + 2 * H0.2.2.1 74 0 (n) + H0.2.2.1 115 0 (n) + 1 ≤ 192 * H'.2.2.1 56 0 (H'.2.2.1 72 0 (n)) + 6 * H'.2.2.1 73 0 (n) + 2 * H'.2.2.1 74 0 (n) + H'.2.2.1 115 0 (n)) ∧ H0.1 11 19 0 ≤ H'.1 11 19 0)) := by
  intro m
  induction m with
  | zero =>
    skip
    · intro r b f H lv hm hi0 hi1 hi2 hi3 hi4 hi5 hi6 hi7 hi8 hi9 hi10 hi11 hi12 hi13 hi14 hi15 hi16 hi17 hT hE k0gP k0gX k0gL k0gZ k0gQ k0gB k0gK k0gN k0gW k0gU hlv
      exfalso
      omega
  | succ m ih =>
    skip
    · intro r b f H lv hm hi0 hi1 hi2 hi3 hi4 hi5 hi6 hi7 hi8 hi9 hi10 hi11 hi12 hi13 hi14 hi15 hi16 hi17 hT hE k0gP k0gX k0gL k0gZ k0gQ k0gB k0gK k0gN k0gW k0gU hlv
      rcases hlv with ⟨j7, j6, j4, j2, rfl⟩
      refine J.run 5 rfl (show 0 ≤ n ∧ n < 16 from ⟨by omega, by omega⟩) ?_
      try dsimp only
      refine J.gn fun H1015 hH1015 => ?_
      have hT1016 : gT H1015 := by rw [hH1015]; exact gT.upd hT (show 0 ≤ (1 : Int) ∧ (1 : Int) ≤ 2 from ⟨by omega, by omega⟩) (fun z => absurd z (by decide))
      have hE1017 : jEx [19, 12, 48, 56, 57] [60, 56, 59, 58, 55, 57, 61, 99, 100, 77, 78, 82, 80, 114, 115, 81, 105, 71, 70, 72, 75, 76, 68, 67, 65, 63, 64, 66, 112, 113, 108, 110, 101, 102, 103, 104, 83, 73, 74, 84, 111, 89, 88, 93, 94, 86, 91, 92, 85, 87, 90] H1015 H0 := by rw [hH1015]; exact jEx.row hE (by decide)
      have k1018 : gP H1015 := by rw [hH1015]; exact k0gP
      have k1019 : gX H1015 := by rw [hH1015]; exact k0gX
      have k1020 : gL H1015 := by rw [hH1015]; exact k0gL
      have k1021 : gZ H1015 := by rw [hH1015]; exact k0gZ
      have k1022 : gQ H1015 := by rw [hH1015]; exact k0gQ
      have k1023 : gB H1015 := by rw [hH1015]; exact k0gB
      have k1024 : gK H1015 := by rw [hH1015]; exact k0gK
      have k1025 : gN H1015 := by rw [hH1015]; exact k0gN
      have k1026 : gW H1015 (H1015.1 11 19 0) := by rw [hH1015]; exact gWm.step k0gW (by omega)
      have k1027 : gU H1015 u := by rw [hH1015]; exact k0gU
      have g1028 : H1015.2.2.1 74 0 (n) = (1 : Int) := by subst hH1015; exact if_pos rfl
      have g1029 : H1015.1 11 12 0 = H.1 11 12 0 := by subst hH1015; rfl
      have g1030 : H1015.1 11 19 0 = H.1 11 19 0 := by subst hH1015; rfl
      have g1031 : H1015.2.2.1 73 0 (n) = H.2.2.1 73 0 (n) := by subst hH1015; rfl
      have g1033 : H1015.2.2.1 115 0 (n) = H.2.2.1 115 0 (n) := by subst hH1015; rfl
      have g1034 : H1015.2.2.1 72 0 (n) = H.2.2.1 72 0 (n) := by subst hH1015; rfl
      have g1035 : H1015.2.2.1 79 0 (n) = H.2.2.1 79 0 (n) := by subst hH1015; rfl
      have g1036 : H1015.2.2.1 80 0 (n) = H.2.2.1 80 0 (n) := by subst hH1015; rfl
      have g1037 : H1015.2.2.1 56 0 (H0.2.2.1 72 0 (n)) = H.2.2.1 56 0 (H0.2.2.1 72 0 (n)) := by subst hH1015; rfl
      have g1038 : H1015.2.2.1 83 0 (n) = H.2.2.1 83 0 (n) := by subst hH1015; rfl
      clear hH1015
      refine J.run0 5 rfl ?_
      try dsimp only
      refine J.ifc rfl rfl rfl (show -2147483648 ≤ f ∧ f ≤ 2147483647 from ⟨by omega, by omega⟩) (fun hc => ?_) (fun hc => ?_)
      · have c1039 : f = (0 : Int) := hc
        clear hc
        refine J.run0 2 rfl ?_
        try dsimp only
        have f1040 : 1 ≤ H1015.1 11 12 0 ∧ H1015.1 11 12 0 ≤ 300 := hT1016.2.1 12
        refine J.inv rfl rfl rfl rfl rfl rfl jDr rfl rfl rfl rfl rfl (g_sent (n := n) (kind := (1 : Int)) (r := r) (block := (-1 : Int)) (before := (-1 : Int)) (u := u) hT1016 k1023 k1024 k1025 k1027 (show 0 ≤ (n) ∧ (n) < 16 from ⟨by omega, by omega⟩) (show 0 ≤ ((1 : Int)) ∧ ((1 : Int)) ≤ 2 from ⟨by omega, by omega⟩) (show 0 ≤ (r) ∧ (r) < 32 from ⟨by omega, by omega⟩) (show -1 ≤ ((-1 : Int)) ∧ ((-1 : Int)) < 300 from ⟨by omega, by omega⟩) (show ((-1 : Int)) < H1015.1 11 12 0 from by omega) (show -1 ≤ ((-1 : Int)) ∧ ((-1 : Int)) < 32 from ⟨by omega, by omega⟩) k1026 (show H1015.2.2.1 79 0 ((n)) = 0 → (r) = H1015.2.2.1 73 0 ((n)) from by omega) (show H1015.2.2.1 79 0 ((n)) = 0 → H1015.2.2.1 83 0 ((n)) ≤ 3 * H1015.2.2.1 73 0 ((n)) + H1015.2.2.1 74 0 ((n)) from by omega) (show H1015.2.2.1 80 0 ((n)) = 0 from by omega) (show (n) < (u) from by omega)) ?_
        rintro v w H1043 ⟨rfl, hT1044, ehE1045, k1046, k1047, k1048, k1049, p1050, p1051, x1041, rfl, r1042⟩
        have hE1045 := jEx.trans ehE1045 hE1017 (by decide) (by decide)
        have p1050' : gW H1043 (H1043.1 11 19 0) := p1050
        have p1051' : H1015.1 11 19 0 ≤ H1043.1 11 19 0 := p1051
        have r1042' : (-1) ≤ x1041 ∧ x1041 ≤ 5999 := r1042
        have pL_sent_0 := p1050'
        have pL_sent_1 := p1051'
        have k1052 : gP H1043 := gP.ex k1018 ehE1045 (by decide)
        have k1053 : gX H1043 := gX.ex k1019 ehE1045 (by decide)
        have k1054 : gL H1043 := gL.ex k1020 ehE1045 (by decide)
        have k1055 : gZ H1043 := gZ.ex k1021 ehE1045 (by decide)
        have k1056 : gQ H1043 := gQ.ex k1022 ehE1045 (by decide)
        have g1057 : H1043.1 11 12 0 = H1015.1 11 12 0 := ehE1045.v 12 (by decide)
        have g1058 : H1043.2.2.1 74 0 (n) = H1015.2.2.1 74 0 (n) := congrFun (ehE1045.r 74 (by decide)) _
        have g1059 : H1043.2.2.1 73 0 (n) = H1015.2.2.1 73 0 (n) := congrFun (ehE1045.r 73 (by decide)) _
        have g1060 : H1043.2.2.1 115 0 (n) = H1015.2.2.1 115 0 (n) := congrFun (ehE1045.r 115 (by decide)) _
        have g1061 : H1043.2.2.1 72 0 (n) = H1015.2.2.1 72 0 (n) := congrFun (ehE1045.r 72 (by decide)) _
        have g1062 : H1043.2.2.1 79 0 (n) = H1015.2.2.1 79 0 (n) := congrFun (ehE1045.r 79 (by decide)) _
        have g1063 : H1043.2.2.1 56 0 (H0.2.2.1 72 0 (n)) = H1015.2.2.1 56 0 (H0.2.2.1 72 0 (n)) := congrFun (ehE1045.r 56 (by decide)) _
        have rL_sent := r1042'
        have eL_sent := ehE1045
        try dsimp only [Option.toList, List.append, List.cons_append, List.nil_append]
        refine J.run0 2 rfl ?_
        try dsimp only
        exact J.retb rfl rfl rfl (show (1 : Int) = 0 ∨ (1 : Int) = 1 by omega) ⟨_, rfl, rfl, hT1044, hE1045, k1052, k1053, k1054, k1055, k1056, k1046, k1047, k1048, p1050, k1049, _, rfl, (show (((1 : Int)) = 0 ∨ ((1 : Int)) = 1) ∧ (((1 : Int)) = 1 → 192 * H0.2.2.1 56 0 (H0.2.2.1 72 0 (n)) + 6 * H0.2.2.1 73 0 (n) + 2 * H0.2.2.1 74 0 (n) + H0.2.2.1 115 0 (n) + 1 ≤ 192 * H1043.2.2.1 56 0 (H1043.2.2.1 72 0 (n)) + 6 * H1043.2.2.1 73 0 (n) + 2 * H1043.2.2.1 74 0 (n) + H1043.2.2.1 115 0 (n)) ∧ H0.1 11 19 0 ≤ H1043.1 11 19 0 from (by refine ⟨by omega, fun hv => ?_, by omega⟩; first | omega | (have y1 : 0 ≤ H1043.2.2.1 74 0 (n) ∧ H1043.2.2.1 74 0 (n) ≤ 2 := hT1044.1 74 n; have y2 : 0 ≤ H1043.2.2.1 115 0 (n) ∧ H1043.2.2.1 115 0 (n) ≤ 1 := hT1044.1 115 n; have y3 : 0 ≤ H1043.2.2.1 73 0 (n) ∧ H1043.2.2.1 73 0 (n) ≤ 31 := hT1044.1 73 n; rw [show H1043.2.2.1 72 0 (n) = H0.2.2.1 72 0 (n) by omega]; omega)))⟩
      · have c1064 : ¬ (f = (0 : Int)) := hc
        clear hc
        refine J.run0 3 rfl ?_
        try dsimp only
        have f1065 : 1 ≤ H1015.1 11 12 0 ∧ H1015.1 11 12 0 ≤ 300 := hT1016.2.1 12
        refine J.inv rfl rfl rfl rfl rfl rfl jDr rfl rfl rfl rfl rfl (g_sent (n := n) (kind := (1 : Int)) (r := r) (block := b) (before := (-1 : Int)) (u := u) hT1016 k1023 k1024 k1025 k1027 (show 0 ≤ (n) ∧ (n) < 16 from ⟨by omega, by omega⟩) (show 0 ≤ ((1 : Int)) ∧ ((1 : Int)) ≤ 2 from ⟨by omega, by omega⟩) (show 0 ≤ (r) ∧ (r) < 32 from ⟨by omega, by omega⟩) (show -1 ≤ (b) ∧ (b) < 300 from ⟨by omega, by omega⟩) (show (b) < H1015.1 11 12 0 from by omega) (show -1 ≤ ((-1 : Int)) ∧ ((-1 : Int)) < 32 from ⟨by omega, by omega⟩) k1026 (show H1015.2.2.1 79 0 ((n)) = 0 → (r) = H1015.2.2.1 73 0 ((n)) from by omega) (show H1015.2.2.1 79 0 ((n)) = 0 → H1015.2.2.1 83 0 ((n)) ≤ 3 * H1015.2.2.1 73 0 ((n)) + H1015.2.2.1 74 0 ((n)) from by omega) (show H1015.2.2.1 80 0 ((n)) = 0 from by omega) (show (n) < (u) from by omega)) ?_
        rintro v w H1068 ⟨rfl, hT1069, ehE1070, k1071, k1072, k1073, k1074, p1075, p1076, x1066, rfl, r1067⟩
        have hE1070 := jEx.trans ehE1070 hE1017 (by decide) (by decide)
        have p1075' : gW H1068 (H1068.1 11 19 0) := p1075
        have p1076' : H1015.1 11 19 0 ≤ H1068.1 11 19 0 := p1076
        have r1067' : (-1) ≤ x1066 ∧ x1066 ≤ 5999 := r1067
        have pL_sent_0 := p1075'
        have pL_sent_1 := p1076'
        have k1077 : gP H1068 := gP.ex k1018 ehE1070 (by decide)
        have k1078 : gX H1068 := gX.ex k1019 ehE1070 (by decide)
        have k1079 : gL H1068 := gL.ex k1020 ehE1070 (by decide)
        have k1080 : gZ H1068 := gZ.ex k1021 ehE1070 (by decide)
        have k1081 : gQ H1068 := gQ.ex k1022 ehE1070 (by decide)
        have g1082 : H1068.1 11 12 0 = H1015.1 11 12 0 := ehE1070.v 12 (by decide)
        have g1083 : H1068.2.2.1 74 0 (n) = H1015.2.2.1 74 0 (n) := congrFun (ehE1070.r 74 (by decide)) _
        have g1084 : H1068.2.2.1 73 0 (n) = H1015.2.2.1 73 0 (n) := congrFun (ehE1070.r 73 (by decide)) _
        have g1085 : H1068.2.2.1 115 0 (n) = H1015.2.2.1 115 0 (n) := congrFun (ehE1070.r 115 (by decide)) _
        have g1086 : H1068.2.2.1 72 0 (n) = H1015.2.2.1 72 0 (n) := congrFun (ehE1070.r 72 (by decide)) _
        have g1087 : H1068.2.2.1 79 0 (n) = H1015.2.2.1 79 0 (n) := congrFun (ehE1070.r 79 (by decide)) _
        have g1088 : H1068.2.2.1 56 0 (H0.2.2.1 72 0 (n)) = H1015.2.2.1 56 0 (H0.2.2.1 72 0 (n)) := congrFun (ehE1070.r 56 (by decide)) _
        have rL_sent := r1067'
        have eL_sent := ehE1070
        try dsimp only [Option.toList, List.append, List.cons_append, List.nil_append]
        refine J.run0 2 rfl ?_
        try dsimp only
        exact J.retb rfl rfl rfl (show (1 : Int) = 0 ∨ (1 : Int) = 1 by omega) ⟨_, rfl, rfl, hT1069, hE1070, k1077, k1078, k1079, k1080, k1081, k1071, k1072, k1073, p1075, k1074, _, rfl, (show (((1 : Int)) = 0 ∨ ((1 : Int)) = 1) ∧ (((1 : Int)) = 1 → 192 * H0.2.2.1 56 0 (H0.2.2.1 72 0 (n)) + 6 * H0.2.2.1 73 0 (n) + 2 * H0.2.2.1 74 0 (n) + H0.2.2.1 115 0 (n) + 1 ≤ 192 * H1068.2.2.1 56 0 (H1068.2.2.1 72 0 (n)) + 6 * H1068.2.2.1 73 0 (n) + 2 * H1068.2.2.1 74 0 (n) + H1068.2.2.1 115 0 (n)) ∧ H0.1 11 19 0 ≤ H1068.1 11 19 0 from (by refine ⟨by omega, fun hv => ?_, by omega⟩; first | omega | (have y1 : 0 ≤ H1068.2.2.1 74 0 (n) ∧ H1068.2.2.1 74 0 (n) ≤ 2 := hT1069.1 74 n; have y2 : 0 ≤ H1068.2.2.1 115 0 (n) ∧ H1068.2.2.1 115 0 (n) ≤ 1 := hT1069.1 115 n; have y3 : 0 ≤ H1068.2.2.1 73 0 (n) ∧ H1068.2.2.1 73 0 (n) ≤ 31 := hT1069.1 73 n; rw [show H1068.2.2.1 72 0 (n) = H0.2.2.1 72 0 (n) by omega]; omega)))⟩
end
