-- M: X11_decided
section
variable {d : Nat} {w : jW} 
-- 
theorem g_decided {n b u : Int} {H : jH} (hT : gT H) (k0gP : gP H) (k0gX : gX H) (k0gL : gL H) (k0gZ : gZ H) (k0gQ : gQ H) (k0gB : gB H) (k0gK : gK H) (k0gN : gN H) (k0gW : gW H (H.1 11 19 0)) (k0gU : gU H u) (hp0 : 0 ≤ n ∧ n < 16) (hp1 : 0 ≤ b ∧ b < 300) (hp2 : b < H.1 11 12 0) (hp3 : H.2.2.1 80 0 (n) = 0) (hp4 : n < u) : J true (d + 6) 142 w (0, jargs 0 [jT, .inl n, .inl b], [], H) (jN fun v w' H' => w' = w ∧ gT H' ∧ jEx [19, 12, 48, 56, 57] [60, 56, 59, 58, 55, 57, 99, 100, 77, 78, 82, 80, 114, 115, 105, 71, 70, 72, 75, 76, 68, 67, 65, 63, 64, 66, 112, 113, 108, 110, 101, 102, 103, 104, 83, 73, 74, 84, 111, 89, 88, 93, 94, 86, 91, 92, 85, 87, 90] H' H ∧ gP H' ∧ gX H' ∧ gL H' ∧ gZ H' ∧ gQ H' ∧ gB H' ∧ gK H' ∧ gN H' ∧ gW H' (H'.1 11 19 0) ∧ gU H' u ∧ (192 * H.2.2.1 56 0 (b) ≤ 192 * H'.2.2.1 56 0 (H'.2.2.1 72 0 (n)) + 6 * H'.2.2.1 73 0 (n) + 2 * H'.2.2.1 74 0 (n) + H'.2.2.1 115 0 (n)) ∧ (H.1 11 19 0 ≤ H'.1 11 19 0) ∧ v = none) := by
  have hE : jEx [19, 12, 48, 56, 57] [60, 56, 59, 58, 55, 57, 99, 100, 77, 78, 82, 80, 114, 115, 105, 71, 70, 72, 75, 76, 68, 67, 65, 63, 64, 66, 112, 113, 108, 110, 101, 102, 103, 104, 83, 73, 74, 84, 111, 89, 88, 93, 94, 86, 91, 92, 85, 87, 90] H H := jEx.refl _ _ _
  refine J.run 5 rfl (show 0 ≤ n ∧ n < 16 from ⟨by omega, by omega⟩) ?_
  try dsimp only
  refine J.gn fun H1 hH1 => ?_
  have hT2 : gT H1 := by rw [hH1]; exact gT.upd hT (show 0 ≤ b ∧ b ≤ 299 from ⟨by omega, by omega⟩) (fun _ => show b < H.1 11 12 0 by omega)
  have hE3 : jEx [19, 12, 48, 56, 57] [60, 56, 59, 58, 55, 57, 99, 100, 77, 78, 82, 80, 114, 115, 105, 71, 70, 72, 75, 76, 68, 67, 65, 63, 64, 66, 112, 113, 108, 110, 101, 102, 103, 104, 83, 73, 74, 84, 111, 89, 88, 93, 94, 86, 91, 92, 85, 87, 90] H1 H := by rw [hH1]; exact jEx.row hE (by decide)
  have k4 : gP H1 := by rw [hH1]; exact k0gP
  have k5 : gX H1 := by rw [hH1]; exact k0gX
  have k6 : gL H1 := by rw [hH1]; exact k0gL
  have k7 : gZ H1 := by rw [hH1]; exact k0gZ
  have k8 : gQ H1 := by rw [hH1]; exact k0gQ
  have k9 : gB H1 := by rw [hH1]; exact k0gB
  have k10 : gK H1 := by rw [hH1]; exact k0gK
  have k11 : gN H1 := by rw [hH1]; exact k0gN
  have k12 : gW H1 (H1.1 11 19 0) := by rw [hH1]; exact k0gW
  have k13 : gU H1 u := by rw [hH1]; exact k0gU
  have g14 : H1.2.2.1 72 0 (n) = b := by subst hH1; exact if_pos rfl
  have g15 : H1.1 11 12 0 = H.1 11 12 0 := by subst hH1; rfl
  have g16 : H1.1 11 19 0 = H.1 11 19 0 := by subst hH1; rfl
  have g17 : H1.2.2.1 56 0 (b) = H.2.2.1 56 0 (b) := by subst hH1; rfl
  have g18 : H1.2.2.1 80 0 (n) = H.2.2.1 80 0 (n) := by subst hH1; rfl
  clear hH1
  refine J.run0 2 rfl ?_
  try dsimp only
  refine J.inv rfl rfl rfl rfl rfl rfl jDr rfl rfl rfl rfl rfl (g_set (n := n) hT2 k4 k5 k6 (show 0 ≤ (n) ∧ (n) < 16 from ⟨by omega, by omega⟩) k8 k10) ?_
  rintro v w H21 ⟨rfl, hT22, ehE23, k24, k25, k26, p27, p28, rfl⟩
  have hE23 := jEx.trans ehE23 hE3 (by decide) (by decide)
  have p27' : gQ H21 := p27
  have p28' : gK H21 := p28
  have pL_set_0 := p27'
  have pL_set_1 := p28'
  have k29 : gZ H21 := gZ.ex k7 ehE23 (by decide)
  have k30 : gB H21 := gB.ex k9 ehE23 (by decide)
  have k31 : gN H21 := gN.ex k11 ehE23 (by decide)
  have k32 : gW H21 (H21.1 11 19 0) := gWm.ex k12 ehE23 (by decide)
  have k33 : gU H21 u := gU.ex k13 ehE23 (by decide)
  have g34 : H21.1 11 12 0 = H1.1 11 12 0 := ehE23.v 12 (by decide)
  have g35 : H21.1 11 19 0 = H1.1 11 19 0 := ehE23.v 19 (by decide)
  have g36 : H21.2.2.1 72 0 (n) = H1.2.2.1 72 0 (n) := congrFun (ehE23.r 72 (by decide)) _
  have g37 : H21.2.2.1 56 0 (b) = H1.2.2.1 56 0 (b) := congrFun (ehE23.r 56 (by decide)) _
  have g38 : H21.2.2.1 80 0 (n) = H1.2.2.1 80 0 (n) := congrFun (ehE23.r 80 (by decide)) _
  have eL_set := ehE23
  try dsimp only [Option.toList, List.append, List.cons_append, List.nil_append]
  refine J.run 5 rfl (show 0 ≤ n ∧ n < 16 from ⟨by omega, by omega⟩) ?_
  try dsimp only
  refine J.gn fun H39 hH39 => ?_
  have hT40 : gT H39 := by rw [hH39]; exact gT.upd hT22 (show -1 ≤ (-1 : Int) ∧ (-1 : Int) ≤ 299 from ⟨by omega, by omega⟩) (fun z => absurd z (by decide))
  have hE41 : jEx [19, 12, 48, 56, 57] [60, 56, 59, 58, 55, 57, 99, 100, 77, 78, 82, 80, 114, 115, 105, 71, 70, 72, 75, 76, 68, 67, 65, 63, 64, 66, 112, 113, 108, 110, 101, 102, 103, 104, 83, 73, 74, 84, 111, 89, 88, 93, 94, 86, 91, 92, 85, 87, 90] H39 H := by rw [hH39]; exact jEx.row hE23 (by decide)
  have k42 : gP H39 := by rw [hH39]; exact k24
  have k43 : gX H39 := by rw [hH39]; exact k25
  have k44 : gL H39 := by rw [hH39]; exact k26
  have k45 : gZ H39 := by rw [hH39]; exact k29
  have k46 : gQ H39 := by rw [hH39]; exact p27
  have k47 : gB H39 := by rw [hH39]; exact k30
  have k48 : gK H39 := by rw [hH39]; exact p28
  have k49 : gN H39 := by rw [hH39]; exact k31
  have k50 : gW H39 (H39.1 11 19 0) := by rw [hH39]; exact k32
  have k51 : gU H39 u := by rw [hH39]; exact k33
  have g52 : H39.2.2.1 75 0 (n) = (-1 : Int) := by subst hH39; exact if_pos rfl
  have g53 : H39.1 11 12 0 = H21.1 11 12 0 := by subst hH39; rfl
  have g54 : H39.1 11 19 0 = H21.1 11 19 0 := by subst hH39; rfl
  have g55 : H39.2.2.1 72 0 (n) = H21.2.2.1 72 0 (n) := by subst hH39; rfl
  have g56 : H39.2.2.1 56 0 (b) = H21.2.2.1 56 0 (b) := by subst hH39; rfl
  have g57 : H39.2.2.1 80 0 (n) = H21.2.2.1 80 0 (n) := by subst hH39; rfl
  clear hH39
  refine J.run 5 rfl (show 0 ≤ n ∧ n < 16 from ⟨by omega, by omega⟩) ?_
  try dsimp only
  refine J.gn fun H58 hH58 => ?_
  have hT59 : gT H58 := by rw [hH58]; exact gT.upd hT40 (show -1 ≤ (-1 : Int) ∧ (-1 : Int) ≤ 31 from ⟨by omega, by omega⟩) (fun z => absurd z (by decide))
  have hE60 : jEx [19, 12, 48, 56, 57] [60, 56, 59, 58, 55, 57, 99, 100, 77, 78, 82, 80, 114, 115, 105, 71, 70, 72, 75, 76, 68, 67, 65, 63, 64, 66, 112, 113, 108, 110, 101, 102, 103, 104, 83, 73, 74, 84, 111, 89, 88, 93, 94, 86, 91, 92, 85, 87, 90] H58 H := by rw [hH58]; exact jEx.row hE41 (by decide)
  have k61 : gP H58 := by rw [hH58]; exact k42
  have k62 : gX H58 := by rw [hH58]; exact k43
  have k63 : gL H58 := by rw [hH58]; exact k44
  have k64 : gZ H58 := by rw [hH58]; exact k45
  have k65 : gQ H58 := by rw [hH58]; exact k46
  have k66 : gB H58 := by rw [hH58]; exact k47
  have k67 : gK H58 := by rw [hH58]; exact k48
  have k68 : gN H58 := by rw [hH58]; exact k49
  have k69 : gW H58 (H58.1 11 19 0) := by rw [hH58]; exact k50
  have k70 : gU H58 u := by rw [hH58]; exact k51
  have g71 : H58.2.2.1 76 0 (n) = (-1 : Int) := by subst hH58; exact if_pos rfl
  have g72 : H58.1 11 12 0 = H39.1 11 12 0 := by subst hH58; rfl
  have g73 : H58.1 11 19 0 = H39.1 11 19 0 := by subst hH58; rfl
  have g74 : H58.2.2.1 75 0 (n) = H39.2.2.1 75 0 (n) := by subst hH58; rfl
  have g75 : H58.2.2.1 72 0 (n) = H39.2.2.1 72 0 (n) := by subst hH58; rfl
  have g76 : H58.2.2.1 56 0 (b) = H39.2.2.1 56 0 (b) := by subst hH58; rfl
  have g77 : H58.2.2.1 80 0 (n) = H39.2.2.1 80 0 (n) := by subst hH58; rfl
  clear hH58
  have f78 : 1 ≤ H58.1 11 12 0 ∧ H58.1 11 12 0 ≤ 300 := hT59.2.1 12
  refine J.run 5 rfl (show 0 ≤ n ∧ n < 16 from ⟨by omega, by omega⟩) ?_
  try dsimp only
  refine J.gn fun H79 hH79 => ?_
  have hT80 : gT H79 := by rw [hH79]; exact gT.upd hT59 (show -1 ≤ (-1 : Int) ∧ (-1 : Int) ≤ 299 from ⟨by omega, by omega⟩) (fun _ => show (-1 : Int) < H58.1 11 12 0 by omega)
  have hE81 : jEx [19, 12, 48, 56, 57] [60, 56, 59, 58, 55, 57, 99, 100, 77, 78, 82, 80, 114, 115, 105, 71, 70, 72, 75, 76, 68, 67, 65, 63, 64, 66, 112, 113, 108, 110, 101, 102, 103, 104, 83, 73, 74, 84, 111, 89, 88, 93, 94, 86, 91, 92, 85, 87, 90] H79 H := by rw [hH79]; exact jEx.row hE60 (by decide)
  have k82 : gP H79 := by rw [hH79]; exact k61
  have k83 : gX H79 := by rw [hH79]; exact k62
  have k84 : gL H79 := by rw [hH79]; exact k63
  have k85 : gZ H79 := by rw [hH79]; exact k64
  have k86 : gQ H79 := by rw [hH79]; exact k65
  have k87 : gB H79 := by rw [hH79]; exact k66
  have k88 : gK H79 := by rw [hH79]; exact k67
  have k89 : gN H79 := by rw [hH79]; exact k68
  have k90 : gW H79 (H79.1 11 19 0) := by rw [hH79]; exact k69
  have k91 : gU H79 u := by rw [hH79]; exact k70
  have g92 : H79.2.2.1 77 0 (n) = (-1 : Int) := by subst hH79; exact if_pos rfl
  have g93 : H79.1 11 12 0 = H58.1 11 12 0 := by subst hH79; rfl
  have g94 : H79.1 11 19 0 = H58.1 11 19 0 := by subst hH79; rfl
  have g95 : H79.2.2.1 76 0 (n) = H58.2.2.1 76 0 (n) := by subst hH79; rfl
  have g96 : H79.2.2.1 75 0 (n) = H58.2.2.1 75 0 (n) := by subst hH79; rfl
  have g97 : H79.2.2.1 72 0 (n) = H58.2.2.1 72 0 (n) := by subst hH79; rfl
  have g98 : H79.2.2.1 56 0 (b) = H58.2.2.1 56 0 (b) := by subst hH79; rfl
  have g99 : H79.2.2.1 80 0 (n) = H58.2.2.1 80 0 (n) := by subst hH79; rfl
  clear hH79
  refine J.run 5 rfl (show 0 ≤ n ∧ n < 16 from ⟨by omega, by omega⟩) ?_
  try dsimp only
  refine J.gn fun H100 hH100 => ?_
  have hT101 : gT H100 := by rw [hH100]; exact gT.upd hT80 (show -1 ≤ (-1 : Int) ∧ (-1 : Int) ≤ 31 from ⟨by omega, by omega⟩) (fun z => absurd z (by decide))
  have hE102 : jEx [19, 12, 48, 56, 57] [60, 56, 59, 58, 55, 57, 99, 100, 77, 78, 82, 80, 114, 115, 105, 71, 70, 72, 75, 76, 68, 67, 65, 63, 64, 66, 112, 113, 108, 110, 101, 102, 103, 104, 83, 73, 74, 84, 111, 89, 88, 93, 94, 86, 91, 92, 85, 87, 90] H100 H := by rw [hH100]; exact jEx.row hE81 (by decide)
  have k103 : gP H100 := by rw [hH100]; exact k82
  have k104 : gX H100 := by rw [hH100]; exact k83
  have k105 : gL H100 := by rw [hH100]; exact k84
  have k106 : gZ H100 := by rw [hH100]; exact k85
  have k107 : gQ H100 := by rw [hH100]; exact k86
  have k108 : gB H100 := by rw [hH100]; exact k87
  have k109 : gK H100 := by rw [hH100]; exact k88
  have k110 : gN H100 := by rw [hH100]; exact k89
  have k111 : gW H100 (H100.1 11 19 0) := by rw [hH100]; exact k90
  have k112 : gU H100 u := by rw [hH100]; exact k91
  have g113 : H100.2.2.1 78 0 (n) = (-1 : Int) := by subst hH100; exact if_pos rfl
  have g114 : H100.1 11 12 0 = H79.1 11 12 0 := by subst hH100; rfl
  have g115 : H100.1 11 19 0 = H79.1 11 19 0 := by subst hH100; rfl
  have g116 : H100.2.2.1 77 0 (n) = H79.2.2.1 77 0 (n) := by subst hH100; rfl
  have g117 : H100.2.2.1 76 0 (n) = H79.2.2.1 76 0 (n) := by subst hH100; rfl
  have g118 : H100.2.2.1 75 0 (n) = H79.2.2.1 75 0 (n) := by subst hH100; rfl
  have g119 : H100.2.2.1 72 0 (n) = H79.2.2.1 72 0 (n) := by subst hH100; rfl
  have g120 : H100.2.2.1 56 0 (b) = H79.2.2.1 56 0 (b) := by subst hH100; rfl
  have g121 : H100.2.2.1 80 0 (n) = H79.2.2.1 80 0 (n) := by subst hH100; rfl
  clear hH100
  refine J.run 5 rfl (show 0 ≤ n ∧ n < 16 from ⟨by omega, by omega⟩) ?_
  try dsimp only
  refine J.gn fun H122 hH122 => ?_
  have hT123 : gT H122 := by rw [hH122]; exact gT.upd hT101 (show 0 ≤ (0 : Int) ∧ (0 : Int) ≤ 96 from ⟨by omega, by omega⟩) (fun z => absurd z (by decide))
  have hE124 : jEx [19, 12, 48, 56, 57] [60, 56, 59, 58, 55, 57, 99, 100, 77, 78, 82, 80, 114, 115, 105, 71, 70, 72, 75, 76, 68, 67, 65, 63, 64, 66, 112, 113, 108, 110, 101, 102, 103, 104, 83, 73, 74, 84, 111, 89, 88, 93, 94, 86, 91, 92, 85, 87, 90] H122 H := by rw [hH122]; exact jEx.row hE102 (by decide)
  have k125 : gP H122 := by rw [hH122]; exact k103
  have k126 : gX H122 := by rw [hH122]; exact k104
  have k127 : gL H122 := by rw [hH122]; exact k105
  have k128 : gZ H122 := by rw [hH122]; exact k106
  have k129 : gQ H122 := by rw [hH122]; exact k107
  have k130 : gB H122 := by rw [hH122]; exact k108
  have k131 : gK H122 := by rw [hH122]; exact k109
  have k132 : gN H122 := by rw [hH122]; exact k110
  have k133 : gW H122 (H122.1 11 19 0) := by rw [hH122]; exact gWm.zero k111 hT101
  have k134 : gU H122 u := by rw [hH122]; exact gU.wr k112 (by omega)
  have g135 : H122.2.2.1 83 0 (n) = (0 : Int) := by subst hH122; exact if_pos rfl
  have g136 : H122.1 11 12 0 = H100.1 11 12 0 := by subst hH122; rfl
  have g137 : H122.1 11 19 0 = H100.1 11 19 0 := by subst hH122; rfl
  have g138 : H122.2.2.1 78 0 (n) = H100.2.2.1 78 0 (n) := by subst hH122; rfl
  have g139 : H122.2.2.1 77 0 (n) = H100.2.2.1 77 0 (n) := by subst hH122; rfl
  have g140 : H122.2.2.1 76 0 (n) = H100.2.2.1 76 0 (n) := by subst hH122; rfl
  have g141 : H122.2.2.1 75 0 (n) = H100.2.2.1 75 0 (n) := by subst hH122; rfl
  have g142 : H122.2.2.1 72 0 (n) = H100.2.2.1 72 0 (n) := by subst hH122; rfl
  have g143 : H122.2.2.1 56 0 (b) = H100.2.2.1 56 0 (b) := by subst hH122; rfl
  have g144 : H122.2.2.1 80 0 (n) = H100.2.2.1 80 0 (n) := by subst hH122; rfl
  clear hH122
  refine J.run0 3 rfl ?_
  try dsimp only
  have zb : H122.2.2.1 56 0 (H122.2.2.1 72 0 (n)) = H122.2.2.1 56 0 (b) := by rw [show H122.2.2.1 72 0 (n) = b by omega]
  refine J.inv rfl rfl rfl rfl rfl rfl jDr rfl rfl rfl rfl rfl (g_begins (n := n) (q := (0 : Int)) (u := u) hT123 k125 k126 k127 k128 k129 k130 k131 k132 k133 k134 (show 0 ≤ (n) ∧ (n) < 16 from ⟨by omega, by omega⟩) (show 0 ≤ ((0 : Int)) ∧ ((0 : Int)) < 32 from ⟨by omega, by omega⟩) (show H122.2.2.1 83 0 ((n)) ≤ 3 * ((0 : Int)) from by omega) (show H122.2.2.1 80 0 ((n)) = 0 from by omega) (show (n) < (u) from by omega)) ?_
  rintro v w H147 ⟨rfl, hT148, ehE149, k150, k151, k152, k153, k154, k155, k156, k157, k158, k159, p160, p161, rfl⟩
  have hE149 := jEx.trans ehE149 hE124 (by decide) (by decide)
  have p160' : 192 * H122.2.2.1 56 0 (H122.2.2.1 72 0 ((n))) + 6 * ((0 : Int)) ≤ 192 * H147.2.2.1 56 0 (H147.2.2.1 72 0 ((n))) + 6 * H147.2.2.1 73 0 ((n)) + 2 * H147.2.2.1 74 0 ((n)) + H147.2.2.1 115 0 ((n)) := p160
  have p161' : H122.1 11 19 0 ≤ H147.1 11 19 0 := p161
  have pL_begins_0 := p160'
  have pL_begins_1 := p161'
  have g162 : H147.2.2.1 78 0 (n) = H122.2.2.1 78 0 (n) := congrFun (ehE149.r 78 (by decide)) _
  have g163 : H147.2.2.1 77 0 (n) = H122.2.2.1 77 0 (n) := congrFun (ehE149.r 77 (by decide)) _
  have g164 : H147.2.2.1 76 0 (n) = H122.2.2.1 76 0 (n) := congrFun (ehE149.r 76 (by decide)) _
  have g165 : H147.2.2.1 75 0 (n) = H122.2.2.1 75 0 (n) := congrFun (ehE149.r 75 (by decide)) _
  have g166 : H147.2.2.1 72 0 (n) = H122.2.2.1 72 0 (n) := congrFun (ehE149.r 72 (by decide)) _
  have eL_begins := ehE149
  try dsimp only [Option.toList, List.append, List.cons_append, List.nil_append]
  exact J.retv rfl rfl rfl ⟨_, rfl, rfl, hT148, hE149, k150, k151, k152, k153, k154, k155, k156, k157, k158, k159, (show 192 * H.2.2.1 56 0 (b) ≤ 192 * H147.2.2.1 56 0 (H147.2.2.1 72 0 (n)) + 6 * H147.2.2.1 73 0 (n) + 2 * H147.2.2.1 74 0 (n) + H147.2.2.1 115 0 (n) by omega), (show H.1 11 19 0 ≤ H147.1 11 19 0 by omega), rfl⟩
end
