-- M: X11_forge
section
variable {d : Nat} {w : jW} 
-- 
theorem g_forge {n kind height round block before : Int} {H : jH} (hT : gT H) (k0gP : gP H) (k0gX : gX H) (k0gL : gL H) (k0gZ : gZ H) (k0gQ : gQ H) (k0gB : gB H) (k0gK : gK H) (k0gN : gN H) (k0gW : gW H (H.1 11 19 0)) (hp0 : -2147483648 ≤ n ∧ n ≤ 2147483647) (hp1 : -2147483648 ≤ kind ∧ kind ≤ 2147483647) (hp2 : -2147483648 ≤ height ∧ height ≤ 2147483647) (hp3 : -2147483648 ≤ round ∧ round ≤ 2147483647) (hp4 : -2147483648 ≤ block ∧ block ≤ 2147483647) (hp5 : -2147483648 ≤ before ∧ before ≤ 2147483647) : J true (d + 4) 152 w (0, jargs 0 [jT, .inl n, .inl kind, .inl height, .inl round, .inl block, .inl before], [], H) (jN fun v w' H' => w' = w ∧ gT H' ∧ jEx [19, 47] [82, 83, 84, 80, 114, 71, 113, 85, 86, 87, 88, 89, 90, 91, 92, 93, 94, 63, 64, 65, 66, 67, 68, 70, 112] H' H ∧ gP H' ∧ gX H' ∧ gL H' ∧ gZ H' ∧ gQ H' ∧ gB H' ∧ gK H' ∧ gN H' ∧ gW H' (H'.1 11 19 0) ∧ ∃ x, v = some (.inl x) ∧ (-1) ≤ x ∧ x ≤ 5999) := by
  have hE : jEx [19, 47] [82, 83, 84, 80, 114, 71, 113, 85, 86, 87, 88, 89, 90, 91, 92, 93, 94, 63, 64, 65, 66, 67, 68, 70, 112] H H := jEx.refl _ _ _
  refine J.run0 3 rfl ?_
  try dsimp only
  refine J.ins rfl rfl rfl rfl rfl rfl rfl rfl rfl (g_in (u := kind) (a := (0 : Int)) (b := (2 : Int)) hT  (show -2147483648 ≤ (kind) ∧ (kind) ≤ 2147483647 from ⟨by omega, by omega⟩) (show -2147483648 ≤ ((0 : Int)) ∧ ((0 : Int)) ≤ 2147483647 from ⟨by omega, by omega⟩) (show -2147483648 ≤ ((2 : Int)) ∧ ((2 : Int)) ≤ 2147483647 from ⟨by omega, by omega⟩)) ?_
  rintro v w H ⟨rfl, rfl, x1, rfl, r2⟩
  have r2' : (x1 = 0 ∨ x1 = 1) ∧ (x1 = 1 → (kind) ≥ ((0 : Int)) ∧ (kind) ≤ ((2 : Int))) ∧ (x1 = 0 → (kind) < ((0 : Int)) ∨ ((2 : Int)) < (kind)) := r2
  try dsimp only [Option.toList, List.append, List.cons_append, List.nil_append]
  refine J.ifc rfl rfl rfl (show -2147483648 ≤ x1 ∧ x1 ≤ 2147483647 from ⟨by omega, by omega⟩) (fun hc => ?_) (fun hc => ?_)
  · have c3 : x1 = (0 : Int) := hc
    clear hc
    refine J.run0 5 rfl ?_
    try dsimp only
    refine J.ifc rfl rfl rfl (show -2147483648 ≤ (1 : Int) ∧ (1 : Int) ≤ 2147483647 from ⟨by omega, by omega⟩) (fun hc => ?_) (fun hc => ?_)
    · have c4 : (1 : Int) = (0 : Int) := hc
      clear hc
      exfalso
      omega
    · have c5 : ¬ ((1 : Int) = (0 : Int)) := hc
      clear hc
      refine J.run0 3 rfl ?_
      try dsimp only
      refine J.gn fun H6 hH6 => ?_
      have hT7 : gT H6 := by rw [hH6]; exact gT.num (f := 47) hT (show 0 ≤ (1 : Int) ∧ (1 : Int) ≤ 3 from ⟨by omega, by omega⟩) (by decide) (fun z => absurd z (by decide))
      have hE8 : jEx [19, 47] [82, 83, 84, 80, 114, 71, 113, 85, 86, 87, 88, 89, 90, 91, 92, 93, 94, 63, 64, 65, 66, 67, 68, 70, 112] H6 H := by rw [hH6]; exact jEx.num hE (by decide)
      have k9 : gP H6 := by rw [hH6]; exact k0gP
      have k10 : gX H6 := by rw [hH6]; exact k0gX
      have k11 : gL H6 := by rw [hH6]; exact k0gL
      have k12 : gZ H6 := by rw [hH6]; exact k0gZ
      have k13 : gQ H6 := by rw [hH6]; exact k0gQ
      have k14 : gB H6 := by rw [hH6]; exact k0gB
      have k15 : gK H6 := by rw [hH6]; exact k0gK
      have k16 : gN H6 := by rw [hH6]; exact k0gN
      have k17 : gW H6 (H6.1 11 19 0) := by rw [hH6]; exact k0gW
      have g18 : H6.1 11 47 0 = (1 : Int) := by subst hH6; rfl
      have g19 : H6.1 11 12 0 = H.1 11 12 0 := by subst hH6; rfl
      have g20 : H6.1 11 19 0 = H.1 11 19 0 := by subst hH6; rfl
      have g21 : H6.2.2.1 79 0 (n) = H.2.2.1 79 0 (n) := by subst hH6; rfl
      have g22 : H6.2.2.1 80 0 (n) = H.2.2.1 80 0 (n) := by subst hH6; rfl
      clear hH6
      have f23 : 0 ≤ H6.1 11 47 0 ∧ H6.1 11 47 0 ≤ 3 := hT7.2.1 47
      refine J.run0 2 rfl ?_
      try dsimp only
      refine J.ifc rfl rfl rfl (show -2147483648 ≤ H6.1 11 47 0 ∧ H6.1 11 47 0 ≤ 2147483647 from ⟨by omega, by omega⟩) (fun hc => ?_) (fun hc => ?_)
      · have c24 : H6.1 11 47 0 ≤ (0 : Int) := hc
        clear hc
        have qd : H6.2.2.1 80 0 (n) = 1 → H6.2.2.1 79 0 (n) = 0 := fun z => (k14 n (by omega) (by omega) z).2
        have qe : 0 ≤ H6.2.2.1 80 0 (n) ∧ H6.2.2.1 80 0 (n) ≤ 1 := hT7.1 80 n
        refine J.run0 7 rfl ?_
        try dsimp only
        have f25 : 1 ≤ H6.1 11 12 0 ∧ H6.1 11 12 0 ≤ 300 := hT7.2.1 12
        refine J.inv rfl rfl rfl rfl rfl rfl jDr rfl rfl rfl rfl rfl (g_sent_ (n := n) (kind := kind) (h := height) (r := round) (block := block) (before := before) (u := 16) hT7 k14 k15 k16 gU.triv (show 0 ≤ (n) ∧ (n) < 16 from ⟨by omega, by omega⟩) (show 0 ≤ (kind) ∧ (kind) ≤ 2 from ⟨by omega, by omega⟩) (show 0 ≤ (round) ∧ (round) < 32 from ⟨by omega, by omega⟩) (show -1 ≤ (block) ∧ (block) < 300 from ⟨by omega, by omega⟩) (show (block) < H6.1 11 12 0 from by omega) (show -1 ≤ (before) ∧ (before) < 32 from ⟨by omega, by omega⟩) k17 (show H6.2.2.1 79 0 ((n)) = 0 → (round) = H6.2.2.1 73 0 ((n)) from by omega) (show H6.2.2.1 79 0 ((n)) = 0 → H6.2.2.1 83 0 ((n)) ≤ 3 * H6.2.2.1 73 0 ((n)) + H6.2.2.1 74 0 ((n)) from by omega) (show H6.2.2.1 80 0 ((n)) = 0 from by omega) (show 0 ≤ (height) ∧ (height) ≤ 301 from ⟨by omega, by omega⟩) (show (n) < (16) from by omega)) ?_
        rintro v w H28 ⟨rfl, hT29, ehE30, k31, k32, k33, k34, p35, p36, x26, rfl, r27⟩
        have hE30 := jEx.trans ehE30 hE8 (by decide) (by decide)
        have p35' : gW H28 (H28.1 11 19 0) := p35
        have p36' : H6.1 11 19 0 ≤ H28.1 11 19 0 := p36
        have r27' : (-1) ≤ x26 ∧ x26 ≤ 5999 := r27
        have k37 : gP H28 := gP.ex k9 ehE30 (by decide)
        have k38 : gX H28 := gX.ex k10 ehE30 (by decide)
        have k39 : gL H28 := gL.ex k11 ehE30 (by decide)
        have k40 : gZ H28 := gZ.ex k12 ehE30 (by decide)
        have k41 : gQ H28 := gQ.ex k13 ehE30 (by decide)
        have g42 : H28.1 11 12 0 = H6.1 11 12 0 := ehE30.v 12 (by decide)
        have g43 : H28.2.2.1 79 0 (n) = H6.2.2.1 79 0 (n) := congrFun (ehE30.r 79 (by decide)) _
        try dsimp only [Option.toList, List.append, List.cons_append, List.nil_append]
        exact J.reti rfl rfl rfl ⟨_, rfl, rfl, hT29, hE30, k37, k38, k39, k40, k41, k31, k32, k33, p35, _, rfl, (show (-1) ≤ (x26) ∧ (x26) ≤ 5999 from ⟨by omega, by omega⟩)⟩
      · have c44 : ¬ (H6.1 11 47 0 ≤ (0 : Int)) := hc
        clear hc
        refine J.run0 2 rfl ?_
        try dsimp only
        exact J.reti rfl rfl rfl ⟨_, rfl, rfl, hT7, hE8, k9, k10, k11, k12, k13, k14, k15, k16, k17, _, rfl, (show (-1) ≤ ((0 : Int)) ∧ ((0 : Int)) ≤ 5999 from ⟨by omega, by omega⟩)⟩
  · have c45 : ¬ (x1 = (0 : Int)) := hc
    clear hc
    refine J.run0 3 rfl ?_
    try dsimp only
    refine J.ins rfl rfl rfl rfl rfl rfl rfl rfl rfl (g_in (u := height) (a := (1 : Int)) (b := (120 : Int)) hT  (show -2147483648 ≤ (height) ∧ (height) ≤ 2147483647 from ⟨by omega, by omega⟩) (show -2147483648 ≤ ((1 : Int)) ∧ ((1 : Int)) ≤ 2147483647 from ⟨by omega, by omega⟩) (show -2147483648 ≤ ((120 : Int)) ∧ ((120 : Int)) ≤ 2147483647 from ⟨by omega, by omega⟩)) ?_
    rintro v w H ⟨rfl, rfl, x46, rfl, r47⟩
    have r47' : (x46 = 0 ∨ x46 = 1) ∧ (x46 = 1 → (height) ≥ ((1 : Int)) ∧ (height) ≤ ((120 : Int))) ∧ (x46 = 0 → (height) < ((1 : Int)) ∨ ((120 : Int)) < (height)) := r47
    try dsimp only [Option.toList, List.append, List.cons_append, List.nil_append]
    refine J.ifc rfl rfl rfl (show -2147483648 ≤ x46 ∧ x46 ≤ 2147483647 from ⟨by omega, by omega⟩) (fun hc => ?_) (fun hc => ?_)
    · have c48 : x46 = (0 : Int) := hc
      clear hc
      refine J.run0 5 rfl ?_
      try dsimp only
      refine J.ifc rfl rfl rfl (show -2147483648 ≤ (1 : Int) ∧ (1 : Int) ≤ 2147483647 from ⟨by omega, by omega⟩) (fun hc => ?_) (fun hc => ?_)
      · have c49 : (1 : Int) = (0 : Int) := hc
        clear hc
        exfalso
        omega
      · have c50 : ¬ ((1 : Int) = (0 : Int)) := hc
        clear hc
        refine J.run0 3 rfl ?_
        try dsimp only
        refine J.gn fun H51 hH51 => ?_
        have hT52 : gT H51 := by rw [hH51]; exact gT.num (f := 47) hT (show 0 ≤ (1 : Int) ∧ (1 : Int) ≤ 3 from ⟨by omega, by omega⟩) (by decide) (fun z => absurd z (by decide))
        have hE53 : jEx [19, 47] [82, 83, 84, 80, 114, 71, 113, 85, 86, 87, 88, 89, 90, 91, 92, 93, 94, 63, 64, 65, 66, 67, 68, 70, 112] H51 H := by rw [hH51]; exact jEx.num hE (by decide)
        have k54 : gP H51 := by rw [hH51]; exact k0gP
        have k55 : gX H51 := by rw [hH51]; exact k0gX
        have k56 : gL H51 := by rw [hH51]; exact k0gL
        have k57 : gZ H51 := by rw [hH51]; exact k0gZ
        have k58 : gQ H51 := by rw [hH51]; exact k0gQ
        have k59 : gB H51 := by rw [hH51]; exact k0gB
        have k60 : gK H51 := by rw [hH51]; exact k0gK
        have k61 : gN H51 := by rw [hH51]; exact k0gN
        have k62 : gW H51 (H51.1 11 19 0) := by rw [hH51]; exact k0gW
        have g63 : H51.1 11 47 0 = (1 : Int) := by subst hH51; rfl
        have g64 : H51.1 11 12 0 = H.1 11 12 0 := by subst hH51; rfl
        have g65 : H51.1 11 19 0 = H.1 11 19 0 := by subst hH51; rfl
        have g66 : H51.2.2.1 79 0 (n) = H.2.2.1 79 0 (n) := by subst hH51; rfl
        have g67 : H51.2.2.1 80 0 (n) = H.2.2.1 80 0 (n) := by subst hH51; rfl
        clear hH51
        have f68 : 0 ≤ H51.1 11 47 0 ∧ H51.1 11 47 0 ≤ 3 := hT52.2.1 47
        refine J.run0 2 rfl ?_
        try dsimp only
        refine J.ifc rfl rfl rfl (show -2147483648 ≤ H51.1 11 47 0 ∧ H51.1 11 47 0 ≤ 2147483647 from ⟨by omega, by omega⟩) (fun hc => ?_) (fun hc => ?_)
        · have c69 : H51.1 11 47 0 ≤ (0 : Int) := hc
          clear hc
          have qd : H51.2.2.1 80 0 (n) = 1 → H51.2.2.1 79 0 (n) = 0 := fun z => (k59 n (by omega) (by omega) z).2
          have qe : 0 ≤ H51.2.2.1 80 0 (n) ∧ H51.2.2.1 80 0 (n) ≤ 1 := hT52.1 80 n
          refine J.run0 7 rfl ?_
          try dsimp only
          have f70 : 1 ≤ H51.1 11 12 0 ∧ H51.1 11 12 0 ≤ 300 := hT52.2.1 12
          refine J.inv rfl rfl rfl rfl rfl rfl jDr rfl rfl rfl rfl rfl (g_sent_ (n := n) (kind := kind) (h := height) (r := round) (block := block) (before := before) (u := 16) hT52 k59 k60 k61 gU.triv (show 0 ≤ (n) ∧ (n) < 16 from ⟨by omega, by omega⟩) (show 0 ≤ (kind) ∧ (kind) ≤ 2 from ⟨by omega, by omega⟩) (show 0 ≤ (round) ∧ (round) < 32 from ⟨by omega, by omega⟩) (show -1 ≤ (block) ∧ (block) < 300 from ⟨by omega, by omega⟩) (show (block) < H51.1 11 12 0 from by omega) (show -1 ≤ (before) ∧ (before) < 32 from ⟨by omega, by omega⟩) k62 (show H51.2.2.1 79 0 ((n)) = 0 → (round) = H51.2.2.1 73 0 ((n)) from by omega) (show H51.2.2.1 79 0 ((n)) = 0 → H51.2.2.1 83 0 ((n)) ≤ 3 * H51.2.2.1 73 0 ((n)) + H51.2.2.1 74 0 ((n)) from by omega) (show H51.2.2.1 80 0 ((n)) = 0 from by omega) (show 0 ≤ (height) ∧ (height) ≤ 301 from ⟨by omega, by omega⟩) (show (n) < (16) from by omega)) ?_
          rintro v w H73 ⟨rfl, hT74, ehE75, k76, k77, k78, k79, p80, p81, x71, rfl, r72⟩
          have hE75 := jEx.trans ehE75 hE53 (by decide) (by decide)
          have p80' : gW H73 (H73.1 11 19 0) := p80
          have p81' : H51.1 11 19 0 ≤ H73.1 11 19 0 := p81
          have r72' : (-1) ≤ x71 ∧ x71 ≤ 5999 := r72
          have k82 : gP H73 := gP.ex k54 ehE75 (by decide)
          have k83 : gX H73 := gX.ex k55 ehE75 (by decide)
          have k84 : gL H73 := gL.ex k56 ehE75 (by decide)
          have k85 : gZ H73 := gZ.ex k57 ehE75 (by decide)
          have k86 : gQ H73 := gQ.ex k58 ehE75 (by decide)
          have g87 : H73.1 11 12 0 = H51.1 11 12 0 := ehE75.v 12 (by decide)
          have g88 : H73.2.2.1 79 0 (n) = H51.2.2.1 79 0 (n) := congrFun (ehE75.r 79 (by decide)) _
          try dsimp only [Option.toList, List.append, List.cons_append, List.nil_append]
          exact J.reti rfl rfl rfl ⟨_, rfl, rfl, hT74, hE75, k82, k83, k84, k85, k86, k76, k77, k78, p80, _, rfl, (show (-1) ≤ (x71) ∧ (x71) ≤ 5999 from ⟨by omega, by omega⟩)⟩
        · have c89 : ¬ (H51.1 11 47 0 ≤ (0 : Int)) := hc
          clear hc
          refine J.run0 2 rfl ?_
          try dsimp only
          exact J.reti rfl rfl rfl ⟨_, rfl, rfl, hT52, hE53, k54, k55, k56, k57, k58, k59, k60, k61, k62, _, rfl, (show (-1) ≤ ((0 : Int)) ∧ ((0 : Int)) ≤ 5999 from ⟨by omega, by omega⟩)⟩
    · have c90 : ¬ (x46 = (0 : Int)) := hc
      clear hc
      refine J.run0 3 rfl ?_
      try dsimp only
      refine J.ins rfl rfl rfl rfl rfl rfl rfl rfl rfl (g_in (u := round) (a := (0 : Int)) (b := (31 : Int)) hT  (show -2147483648 ≤ (round) ∧ (round) ≤ 2147483647 from ⟨by omega, by omega⟩) (show -2147483648 ≤ ((0 : Int)) ∧ ((0 : Int)) ≤ 2147483647 from ⟨by omega, by omega⟩) (show -2147483648 ≤ ((31 : Int)) ∧ ((31 : Int)) ≤ 2147483647 from ⟨by omega, by omega⟩)) ?_
      rintro v w H ⟨rfl, rfl, x91, rfl, r92⟩
      have r92' : (x91 = 0 ∨ x91 = 1) ∧ (x91 = 1 → (round) ≥ ((0 : Int)) ∧ (round) ≤ ((31 : Int))) ∧ (x91 = 0 → (round) < ((0 : Int)) ∨ ((31 : Int)) < (round)) := r92
      try dsimp only [Option.toList, List.append, List.cons_append, List.nil_append]
      refine J.ifc rfl rfl rfl (show -2147483648 ≤ x91 ∧ x91 ≤ 2147483647 from ⟨by omega, by omega⟩) (fun hc => ?_) (fun hc => ?_)
      · have c93 : x91 = (0 : Int) := hc
        clear hc
        refine J.run0 5 rfl ?_
        try dsimp only
        refine J.ifc rfl rfl rfl (show -2147483648 ≤ (1 : Int) ∧ (1 : Int) ≤ 2147483647 from ⟨by omega, by omega⟩) (fun hc => ?_) (fun hc => ?_)
        · have c94 : (1 : Int) = (0 : Int) := hc
          clear hc
          exfalso
          omega
        · have c95 : ¬ ((1 : Int) = (0 : Int)) := hc
          clear hc
          refine J.run0 3 rfl ?_
          try dsimp only
          refine J.gn fun H96 hH96 => ?_
          have hT97 : gT H96 := by rw [hH96]; exact gT.num (f := 47) hT (show 0 ≤ (1 : Int) ∧ (1 : Int) ≤ 3 from ⟨by omega, by omega⟩) (by decide) (fun z => absurd z (by decide))
          have hE98 : jEx [19, 47] [82, 83, 84, 80, 114, 71, 113, 85, 86, 87, 88, 89, 90, 91, 92, 93, 94, 63, 64, 65, 66, 67, 68, 70, 112] H96 H := by rw [hH96]; exact jEx.num hE (by decide)
          have k99 : gP H96 := by rw [hH96]; exact k0gP
          have k100 : gX H96 := by rw [hH96]; exact k0gX
          have k101 : gL H96 := by rw [hH96]; exact k0gL
          have k102 : gZ H96 := by rw [hH96]; exact k0gZ
          have k103 : gQ H96 := by rw [hH96]; exact k0gQ
          have k104 : gB H96 := by rw [hH96]; exact k0gB
          have k105 : gK H96 := by rw [hH96]; exact k0gK
          have k106 : gN H96 := by rw [hH96]; exact k0gN
          have k107 : gW H96 (H96.1 11 19 0) := by rw [hH96]; exact k0gW
          have g108 : H96.1 11 47 0 = (1 : Int) := by subst hH96; rfl
          have g109 : H96.1 11 12 0 = H.1 11 12 0 := by subst hH96; rfl
          have g110 : H96.1 11 19 0 = H.1 11 19 0 := by subst hH96; rfl
          have g111 : H96.2.2.1 79 0 (n) = H.2.2.1 79 0 (n) := by subst hH96; rfl
          have g112 : H96.2.2.1 80 0 (n) = H.2.2.1 80 0 (n) := by subst hH96; rfl
          clear hH96
          have f113 : 0 ≤ H96.1 11 47 0 ∧ H96.1 11 47 0 ≤ 3 := hT97.2.1 47
          refine J.run0 2 rfl ?_
          try dsimp only
          refine J.ifc rfl rfl rfl (show -2147483648 ≤ H96.1 11 47 0 ∧ H96.1 11 47 0 ≤ 2147483647 from ⟨by omega, by omega⟩) (fun hc => ?_) (fun hc => ?_)
          · have c114 : H96.1 11 47 0 ≤ (0 : Int) := hc
            clear hc
            have qd : H96.2.2.1 80 0 (n) = 1 → H96.2.2.1 79 0 (n) = 0 := fun z => (k104 n (by omega) (by omega) z).2
            have qe : 0 ≤ H96.2.2.1 80 0 (n) ∧ H96.2.2.1 80 0 (n) ≤ 1 := hT97.1 80 n
            refine J.run0 7 rfl ?_
            try dsimp only
            have f115 : 1 ≤ H96.1 11 12 0 ∧ H96.1 11 12 0 ≤ 300 := hT97.2.1 12
            refine J.inv rfl rfl rfl rfl rfl rfl jDr rfl rfl rfl rfl rfl (g_sent_ (n := n) (kind := kind) (h := height) (r := round) (block := block) (before := before) (u := 16) hT97 k104 k105 k106 gU.triv (show 0 ≤ (n) ∧ (n) < 16 from ⟨by omega, by omega⟩) (show 0 ≤ (kind) ∧ (kind) ≤ 2 from ⟨by omega, by omega⟩) (show 0 ≤ (round) ∧ (round) < 32 from ⟨by omega, by omega⟩) (show -1 ≤ (block) ∧ (block) < 300 from ⟨by omega, by omega⟩) (show (block) < H96.1 11 12 0 from by omega) (show -1 ≤ (before) ∧ (before) < 32 from ⟨by omega, by omega⟩) k107 (show H96.2.2.1 79 0 ((n)) = 0 → (round) = H96.2.2.1 73 0 ((n)) from by omega) (show H96.2.2.1 79 0 ((n)) = 0 → H96.2.2.1 83 0 ((n)) ≤ 3 * H96.2.2.1 73 0 ((n)) + H96.2.2.1 74 0 ((n)) from by omega) (show H96.2.2.1 80 0 ((n)) = 0 from by omega) (show 0 ≤ (height) ∧ (height) ≤ 301 from ⟨by omega, by omega⟩) (show (n) < (16) from by omega)) ?_
            rintro v w H118 ⟨rfl, hT119, ehE120, k121, k122, k123, k124, p125, p126, x116, rfl, r117⟩
            have hE120 := jEx.trans ehE120 hE98 (by decide) (by decide)
            have p125' : gW H118 (H118.1 11 19 0) := p125
            have p126' : H96.1 11 19 0 ≤ H118.1 11 19 0 := p126
            have r117' : (-1) ≤ x116 ∧ x116 ≤ 5999 := r117
            have k127 : gP H118 := gP.ex k99 ehE120 (by decide)
            have k128 : gX H118 := gX.ex k100 ehE120 (by decide)
            have k129 : gL H118 := gL.ex k101 ehE120 (by decide)
            have k130 : gZ H118 := gZ.ex k102 ehE120 (by decide)
            have k131 : gQ H118 := gQ.ex k103 ehE120 (by decide)
            have g132 : H118.1 11 12 0 = H96.1 11 12 0 := ehE120.v 12 (by decide)
            have g133 : H118.2.2.1 79 0 (n) = H96.2.2.1 79 0 (n) := congrFun (ehE120.r 79 (by decide)) _
            try dsimp only [Option.toList, List.append, List.cons_append, List.nil_append]
            exact J.reti rfl rfl rfl ⟨_, rfl, rfl, hT119, hE120, k127, k128, k129, k130, k131, k121, k122, k123, p125, _, rfl, (show (-1) ≤ (x116) ∧ (x116) ≤ 5999 from ⟨by omega, by omega⟩)⟩
          · have c134 : ¬ (H96.1 11 47 0 ≤ (0 : Int)) := hc
            clear hc
            refine J.run0 2 rfl ?_
            try dsimp only
            exact J.reti rfl rfl rfl ⟨_, rfl, rfl, hT97, hE98, k99, k100, k101, k102, k103, k104, k105, k106, k107, _, rfl, (show (-1) ≤ ((0 : Int)) ∧ ((0 : Int)) ≤ 5999 from ⟨by omega, by omega⟩)⟩
      · have c135 : ¬ (x91 = (0 : Int)) := hc
        clear hc
        have f136 : 1 ≤ H.1 11 12 0 ∧ H.1 11 12 0 ≤ 300 := hT.2.1 12
        refine J.run0 6 rfl ?_
        try dsimp only
        refine J.ins rfl rfl rfl rfl rfl rfl rfl rfl rfl (g_in (u := block) (a := (-1 : Int)) (b := (H.1 11 12 0) - (1 : Int)) hT  (show -2147483648 ≤ (block) ∧ (block) ≤ 2147483647 from ⟨by omega, by omega⟩) (show -2147483648 ≤ ((-1 : Int)) ∧ ((-1 : Int)) ≤ 2147483647 from ⟨by omega, by omega⟩) (show -2147483648 ≤ ((H.1 11 12 0) - (1 : Int)) ∧ ((H.1 11 12 0) - (1 : Int)) ≤ 2147483647 from ⟨by omega, by omega⟩)) ?_
        rintro v w H ⟨rfl, rfl, x137, rfl, r138⟩
        have r138' : (x137 = 0 ∨ x137 = 1) ∧ (x137 = 1 → (block) ≥ ((-1 : Int)) ∧ (block) ≤ ((H.1 11 12 0) - (1 : Int))) ∧ (x137 = 0 → (block) < ((-1 : Int)) ∨ ((H.1 11 12 0) - (1 : Int)) < (block)) := r138
        try dsimp only [Option.toList, List.append, List.cons_append, List.nil_append]
        refine J.ifc rfl rfl rfl (show -2147483648 ≤ x137 ∧ x137 ≤ 2147483647 from ⟨by omega, by omega⟩) (fun hc => ?_) (fun hc => ?_)
        · have c139 : x137 = (0 : Int) := hc
          clear hc
          refine J.run0 5 rfl ?_
          try dsimp only
          refine J.ifc rfl rfl rfl (show -2147483648 ≤ (1 : Int) ∧ (1 : Int) ≤ 2147483647 from ⟨by omega, by omega⟩) (fun hc => ?_) (fun hc => ?_)
          · have c140 : (1 : Int) = (0 : Int) := hc
            clear hc
            exfalso
            omega
          · have c141 : ¬ ((1 : Int) = (0 : Int)) := hc
            clear hc
            refine J.run0 3 rfl ?_
            try dsimp only
            refine J.gn fun H142 hH142 => ?_
            have hT143 : gT H142 := by rw [hH142]; exact gT.num (f := 47) hT (show 0 ≤ (1 : Int) ∧ (1 : Int) ≤ 3 from ⟨by omega, by omega⟩) (by decide) (fun z => absurd z (by decide))
            have hE144 : jEx [19, 47] [82, 83, 84, 80, 114, 71, 113, 85, 86, 87, 88, 89, 90, 91, 92, 93, 94, 63, 64, 65, 66, 67, 68, 70, 112] H142 H := by rw [hH142]; exact jEx.num hE (by decide)
            have k145 : gP H142 := by rw [hH142]; exact k0gP
            have k146 : gX H142 := by rw [hH142]; exact k0gX
            have k147 : gL H142 := by rw [hH142]; exact k0gL
            have k148 : gZ H142 := by rw [hH142]; exact k0gZ
            have k149 : gQ H142 := by rw [hH142]; exact k0gQ
            have k150 : gB H142 := by rw [hH142]; exact k0gB
            have k151 : gK H142 := by rw [hH142]; exact k0gK
            have k152 : gN H142 := by rw [hH142]; exact k0gN
            have k153 : gW H142 (H142.1 11 19 0) := by rw [hH142]; exact k0gW
            have g154 : H142.1 11 47 0 = (1 : Int) := by subst hH142; rfl
            have g155 : H142.1 11 12 0 = H.1 11 12 0 := by subst hH142; rfl
            have g156 : H142.1 11 19 0 = H.1 11 19 0 := by subst hH142; rfl
            have g157 : H142.2.2.1 79 0 (n) = H.2.2.1 79 0 (n) := by subst hH142; rfl
            have g158 : H142.2.2.1 80 0 (n) = H.2.2.1 80 0 (n) := by subst hH142; rfl
            clear hH142
            have f159 : 0 ≤ H142.1 11 47 0 ∧ H142.1 11 47 0 ≤ 3 := hT143.2.1 47
            refine J.run0 2 rfl ?_
            try dsimp only
            refine J.ifc rfl rfl rfl (show -2147483648 ≤ H142.1 11 47 0 ∧ H142.1 11 47 0 ≤ 2147483647 from ⟨by omega, by omega⟩) (fun hc => ?_) (fun hc => ?_)
            · have c160 : H142.1 11 47 0 ≤ (0 : Int) := hc
              clear hc
              have qd : H142.2.2.1 80 0 (n) = 1 → H142.2.2.1 79 0 (n) = 0 := fun z => (k150 n (by omega) (by omega) z).2
              have qe : 0 ≤ H142.2.2.1 80 0 (n) ∧ H142.2.2.1 80 0 (n) ≤ 1 := hT143.1 80 n
              refine J.run0 7 rfl ?_
              try dsimp only
              have f161 : 1 ≤ H142.1 11 12 0 ∧ H142.1 11 12 0 ≤ 300 := hT143.2.1 12
              refine J.inv rfl rfl rfl rfl rfl rfl jDr rfl rfl rfl rfl rfl (g_sent_ (n := n) (kind := kind) (h := height) (r := round) (block := block) (before := before) (u := 16) hT143 k150 k151 k152 gU.triv (show 0 ≤ (n) ∧ (n) < 16 from ⟨by omega, by omega⟩) (show 0 ≤ (kind) ∧ (kind) ≤ 2 from ⟨by omega, by omega⟩) (show 0 ≤ (round) ∧ (round) < 32 from ⟨by omega, by omega⟩) (show -1 ≤ (block) ∧ (block) < 300 from ⟨by omega, by omega⟩) (show (block) < H142.1 11 12 0 from by omega) (show -1 ≤ (before) ∧ (before) < 32 from ⟨by omega, by omega⟩) k153 (show H142.2.2.1 79 0 ((n)) = 0 → (round) = H142.2.2.1 73 0 ((n)) from by omega) (show H142.2.2.1 79 0 ((n)) = 0 → H142.2.2.1 83 0 ((n)) ≤ 3 * H142.2.2.1 73 0 ((n)) + H142.2.2.1 74 0 ((n)) from by omega) (show H142.2.2.1 80 0 ((n)) = 0 from by omega) (show 0 ≤ (height) ∧ (height) ≤ 301 from ⟨by omega, by omega⟩) (show (n) < (16) from by omega)) ?_
              rintro v w H164 ⟨rfl, hT165, ehE166, k167, k168, k169, k170, p171, p172, x162, rfl, r163⟩
              have hE166 := jEx.trans ehE166 hE144 (by decide) (by decide)
              have p171' : gW H164 (H164.1 11 19 0) := p171
              have p172' : H142.1 11 19 0 ≤ H164.1 11 19 0 := p172
              have r163' : (-1) ≤ x162 ∧ x162 ≤ 5999 := r163
              have k173 : gP H164 := gP.ex k145 ehE166 (by decide)
              have k174 : gX H164 := gX.ex k146 ehE166 (by decide)
              have k175 : gL H164 := gL.ex k147 ehE166 (by decide)
              have k176 : gZ H164 := gZ.ex k148 ehE166 (by decide)
              have k177 : gQ H164 := gQ.ex k149 ehE166 (by decide)
              have g178 : H164.1 11 12 0 = H142.1 11 12 0 := ehE166.v 12 (by decide)
              have g179 : H164.2.2.1 79 0 (n) = H142.2.2.1 79 0 (n) := congrFun (ehE166.r 79 (by decide)) _
              try dsimp only [Option.toList, List.append, List.cons_append, List.nil_append]
              exact J.reti rfl rfl rfl ⟨_, rfl, rfl, hT165, hE166, k173, k174, k175, k176, k177, k167, k168, k169, p171, _, rfl, (show (-1) ≤ (x162) ∧ (x162) ≤ 5999 from ⟨by omega, by omega⟩)⟩
            · have c180 : ¬ (H142.1 11 47 0 ≤ (0 : Int)) := hc
              clear hc
              refine J.run0 2 rfl ?_
              try dsimp only
              exact J.reti rfl rfl rfl ⟨_, rfl, rfl, hT143, hE144, k145, k146, k147, k148, k149, k150, k151, k152, k153, _, rfl, (show (-1) ≤ ((0 : Int)) ∧ ((0 : Int)) ≤ 5999 from ⟨by omega, by omega⟩)⟩
        · have c181 : ¬ (x137 = (0 : Int)) := hc
          clear hc
          refine J.run0 3 rfl ?_
          try dsimp only
          refine J.ifc rfl rfl rfl (show -2147483648 ≤ kind ∧ kind ≤ 2147483647 from ⟨by omega, by omega⟩) (fun hc => ?_) (fun hc => ?_)
          · have c182 : ¬ (kind = (0 : Int)) := hc
            clear hc
            refine J.run0 1 rfl ?_
            try dsimp only
            refine J.ins rfl rfl rfl rfl rfl rfl rfl rfl rfl (g_in (u := before) (a := (-1 : Int)) (b := (-1 : Int)) hT  (show -2147483648 ≤ (before) ∧ (before) ≤ 2147483647 from ⟨by omega, by omega⟩) (show -2147483648 ≤ ((-1 : Int)) ∧ ((-1 : Int)) ≤ 2147483647 from ⟨by omega, by omega⟩) (show -2147483648 ≤ ((-1 : Int)) ∧ ((-1 : Int)) ≤ 2147483647 from ⟨by omega, by omega⟩)) ?_
            rintro v w H ⟨rfl, rfl, x183, rfl, r184⟩
            have r184' : (x183 = 0 ∨ x183 = 1) ∧ (x183 = 1 → (before) ≥ ((-1 : Int)) ∧ (before) ≤ ((-1 : Int))) ∧ (x183 = 0 → (before) < ((-1 : Int)) ∨ ((-1 : Int)) < (before)) := r184
            try dsimp only [Option.toList, List.append, List.cons_append, List.nil_append]
            refine J.ifc rfl rfl rfl (show -2147483648 ≤ x183 ∧ x183 ≤ 2147483647 from ⟨by omega, by omega⟩) (fun hc => ?_) (fun hc => ?_)
            · have c185 : ¬ (x183 = (0 : Int)) := hc
              clear hc
              refine J.run0 4 rfl ?_
              try dsimp only
              refine J.ifc rfl rfl rfl (show -2147483648 ≤ (0 : Int) ∧ (0 : Int) ≤ 2147483647 from ⟨by omega, by omega⟩) (fun hc => ?_) (fun hc => ?_)
              · have c186 : (0 : Int) = (0 : Int) := hc
                clear hc
                refine J.run0 3 rfl ?_
                try dsimp only
                refine J.ins rfl rfl rfl rfl rfl rfl rfl rfl rfl (g_in (u := n) (a := (0 : Int)) (b := (15 : Int)) hT  (show -2147483648 ≤ (n) ∧ (n) ≤ 2147483647 from ⟨by omega, by omega⟩) (show -2147483648 ≤ ((0 : Int)) ∧ ((0 : Int)) ≤ 2147483647 from ⟨by omega, by omega⟩) (show -2147483648 ≤ ((15 : Int)) ∧ ((15 : Int)) ≤ 2147483647 from ⟨by omega, by omega⟩)) ?_
                rintro v w H ⟨rfl, rfl, x187, rfl, r188⟩
                have r188' : (x187 = 0 ∨ x187 = 1) ∧ (x187 = 1 → (n) ≥ ((0 : Int)) ∧ (n) ≤ ((15 : Int))) ∧ (x187 = 0 → (n) < ((0 : Int)) ∨ ((15 : Int)) < (n)) := r188
                try dsimp only [Option.toList, List.append, List.cons_append, List.nil_append]
                refine J.ifc rfl rfl rfl (show -2147483648 ≤ x187 ∧ x187 ≤ 2147483647 from ⟨by omega, by omega⟩) (fun hc => ?_) (fun hc => ?_)
                · have c189 : x187 = (0 : Int) := hc
                  clear hc
                  refine J.run0 3 rfl ?_
                  try dsimp only
                  refine J.gn fun H190 hH190 => ?_
                  have hT191 : gT H190 := by rw [hH190]; exact gT.num (f := 47) hT (show 0 ≤ (2 : Int) ∧ (2 : Int) ≤ 3 from ⟨by omega, by omega⟩) (by decide) (fun z => absurd z (by decide))
                  have hE192 : jEx [19, 47] [82, 83, 84, 80, 114, 71, 113, 85, 86, 87, 88, 89, 90, 91, 92, 93, 94, 63, 64, 65, 66, 67, 68, 70, 112] H190 H := by rw [hH190]; exact jEx.num hE (by decide)
                  have k193 : gP H190 := by rw [hH190]; exact k0gP
                  have k194 : gX H190 := by rw [hH190]; exact k0gX
                  have k195 : gL H190 := by rw [hH190]; exact k0gL
                  have k196 : gZ H190 := by rw [hH190]; exact k0gZ
                  have k197 : gQ H190 := by rw [hH190]; exact k0gQ
                  have k198 : gB H190 := by rw [hH190]; exact k0gB
                  have k199 : gK H190 := by rw [hH190]; exact k0gK
                  have k200 : gN H190 := by rw [hH190]; exact k0gN
                  have k201 : gW H190 (H190.1 11 19 0) := by rw [hH190]; exact k0gW
                  have g202 : H190.1 11 47 0 = (2 : Int) := by subst hH190; rfl
                  have g203 : H190.1 11 12 0 = H.1 11 12 0 := by subst hH190; rfl
                  have g204 : H190.1 11 19 0 = H.1 11 19 0 := by subst hH190; rfl
                  have g205 : H190.2.2.1 79 0 (n) = H.2.2.1 79 0 (n) := by subst hH190; rfl
                  have g206 : H190.2.2.1 80 0 (n) = H.2.2.1 80 0 (n) := by subst hH190; rfl
                  clear hH190
                  have f207 : 0 ≤ H190.1 11 47 0 ∧ H190.1 11 47 0 ≤ 3 := hT191.2.1 47
                  refine J.run0 2 rfl ?_
                  try dsimp only
                  refine J.ifc rfl rfl rfl (show -2147483648 ≤ H190.1 11 47 0 ∧ H190.1 11 47 0 ≤ 2147483647 from ⟨by omega, by omega⟩) (fun hc => ?_) (fun hc => ?_)
                  · have c208 : H190.1 11 47 0 ≤ (0 : Int) := hc
                    clear hc
                    have qd : H190.2.2.1 80 0 (n) = 1 → H190.2.2.1 79 0 (n) = 0 := fun z => (k198 n (by omega) (by omega) z).2
                    have qe : 0 ≤ H190.2.2.1 80 0 (n) ∧ H190.2.2.1 80 0 (n) ≤ 1 := hT191.1 80 n
                    refine J.run0 7 rfl ?_
                    try dsimp only
                    have f209 : 1 ≤ H190.1 11 12 0 ∧ H190.1 11 12 0 ≤ 300 := hT191.2.1 12
                    refine J.inv rfl rfl rfl rfl rfl rfl jDr rfl rfl rfl rfl rfl (g_sent_ (n := n) (kind := kind) (h := height) (r := round) (block := block) (before := before) (u := 16) hT191 k198 k199 k200 gU.triv (show 0 ≤ (n) ∧ (n) < 16 from ⟨by omega, by omega⟩) (show 0 ≤ (kind) ∧ (kind) ≤ 2 from ⟨by omega, by omega⟩) (show 0 ≤ (round) ∧ (round) < 32 from ⟨by omega, by omega⟩) (show -1 ≤ (block) ∧ (block) < 300 from ⟨by omega, by omega⟩) (show (block) < H190.1 11 12 0 from by omega) (show -1 ≤ (before) ∧ (before) < 32 from ⟨by omega, by omega⟩) k201 (show H190.2.2.1 79 0 ((n)) = 0 → (round) = H190.2.2.1 73 0 ((n)) from by omega) (show H190.2.2.1 79 0 ((n)) = 0 → H190.2.2.1 83 0 ((n)) ≤ 3 * H190.2.2.1 73 0 ((n)) + H190.2.2.1 74 0 ((n)) from by omega) (show H190.2.2.1 80 0 ((n)) = 0 from by omega) (show 0 ≤ (height) ∧ (height) ≤ 301 from ⟨by omega, by omega⟩) (show (n) < (16) from by omega)) ?_
                    rintro v w H212 ⟨rfl, hT213, ehE214, k215, k216, k217, k218, p219, p220, x210, rfl, r211⟩
                    have hE214 := jEx.trans ehE214 hE192 (by decide) (by decide)
                    have p219' : gW H212 (H212.1 11 19 0) := p219
                    have p220' : H190.1 11 19 0 ≤ H212.1 11 19 0 := p220
                    have r211' : (-1) ≤ x210 ∧ x210 ≤ 5999 := r211
                    have k221 : gP H212 := gP.ex k193 ehE214 (by decide)
                    have k222 : gX H212 := gX.ex k194 ehE214 (by decide)
                    have k223 : gL H212 := gL.ex k195 ehE214 (by decide)
                    have k224 : gZ H212 := gZ.ex k196 ehE214 (by decide)
                    have k225 : gQ H212 := gQ.ex k197 ehE214 (by decide)
                    have g226 : H212.1 11 12 0 = H190.1 11 12 0 := ehE214.v 12 (by decide)
                    have g227 : H212.2.2.1 79 0 (n) = H190.2.2.1 79 0 (n) := congrFun (ehE214.r 79 (by decide)) _
                    try dsimp only [Option.toList, List.append, List.cons_append, List.nil_append]
                    exact J.reti rfl rfl rfl ⟨_, rfl, rfl, hT213, hE214, k221, k222, k223, k224, k225, k215, k216, k217, p219, _, rfl, (show (-1) ≤ (x210) ∧ (x210) ≤ 5999 from ⟨by omega, by omega⟩)⟩
                  · have c228 : ¬ (H190.1 11 47 0 ≤ (0 : Int)) := hc
                    clear hc
                    refine J.run0 2 rfl ?_
                    try dsimp only
                    exact J.reti rfl rfl rfl ⟨_, rfl, rfl, hT191, hE192, k193, k194, k195, k196, k197, k198, k199, k200, k201, _, rfl, (show (-1) ≤ ((0 : Int)) ∧ ((0 : Int)) ≤ 5999 from ⟨by omega, by omega⟩)⟩
                · have c229 : ¬ (x187 = (0 : Int)) := hc
                  clear hc
                  have f230 : 0 ≤ H.2.2.1 79 0 (n) ∧ H.2.2.1 79 0 (n) ≤ 1 := hT.1 79 (n)
                  refine J.run 4 rfl (show 0 ≤ n ∧ n < 16 from ⟨by omega, by omega⟩) ?_
                  try dsimp only
                  refine J.ifc rfl rfl rfl (show -2147483648 ≤ H.2.2.1 79 0 (n) ∧ H.2.2.1 79 0 (n) ≤ 2147483647 from ⟨by omega, by omega⟩) (fun hc => ?_) (fun hc => ?_)
                  · have c231 : H.2.2.1 79 0 (n) = (0 : Int) := hc
                    clear hc
                    refine J.run0 3 rfl ?_
                    try dsimp only
                    refine J.gn fun H232 hH232 => ?_
                    have hT233 : gT H232 := by rw [hH232]; exact gT.num (f := 47) hT (show 0 ≤ (2 : Int) ∧ (2 : Int) ≤ 3 from ⟨by omega, by omega⟩) (by decide) (fun z => absurd z (by decide))
                    have hE234 : jEx [19, 47] [82, 83, 84, 80, 114, 71, 113, 85, 86, 87, 88, 89, 90, 91, 92, 93, 94, 63, 64, 65, 66, 67, 68, 70, 112] H232 H := by rw [hH232]; exact jEx.num hE (by decide)
                    have k235 : gP H232 := by rw [hH232]; exact k0gP
                    have k236 : gX H232 := by rw [hH232]; exact k0gX
                    have k237 : gL H232 := by rw [hH232]; exact k0gL
                    have k238 : gZ H232 := by rw [hH232]; exact k0gZ
                    have k239 : gQ H232 := by rw [hH232]; exact k0gQ
                    have k240 : gB H232 := by rw [hH232]; exact k0gB
                    have k241 : gK H232 := by rw [hH232]; exact k0gK
                    have k242 : gN H232 := by rw [hH232]; exact k0gN
                    have k243 : gW H232 (H232.1 11 19 0) := by rw [hH232]; exact k0gW
                    have g244 : H232.1 11 47 0 = (2 : Int) := by subst hH232; rfl
                    have g245 : H232.1 11 12 0 = H.1 11 12 0 := by subst hH232; rfl
                    have g246 : H232.1 11 19 0 = H.1 11 19 0 := by subst hH232; rfl
                    have g247 : H232.2.2.1 79 0 (n) = H.2.2.1 79 0 (n) := by subst hH232; rfl
                    have g248 : H232.2.2.1 80 0 (n) = H.2.2.1 80 0 (n) := by subst hH232; rfl
                    clear hH232
                    have f249 : 0 ≤ H232.1 11 47 0 ∧ H232.1 11 47 0 ≤ 3 := hT233.2.1 47
                    refine J.run0 2 rfl ?_
                    try dsimp only
                    refine J.ifc rfl rfl rfl (show -2147483648 ≤ H232.1 11 47 0 ∧ H232.1 11 47 0 ≤ 2147483647 from ⟨by omega, by omega⟩) (fun hc => ?_) (fun hc => ?_)
                    · have c250 : H232.1 11 47 0 ≤ (0 : Int) := hc
                      clear hc
                      have qd : H232.2.2.1 80 0 (n) = 1 → H232.2.2.1 79 0 (n) = 0 := fun z => (k240 n (by omega) (by omega) z).2
                      have qe : 0 ≤ H232.2.2.1 80 0 (n) ∧ H232.2.2.1 80 0 (n) ≤ 1 := hT233.1 80 n
                      refine J.run0 7 rfl ?_
                      try dsimp only
                      have f251 : 1 ≤ H232.1 11 12 0 ∧ H232.1 11 12 0 ≤ 300 := hT233.2.1 12
                      refine J.inv rfl rfl rfl rfl rfl rfl jDr rfl rfl rfl rfl rfl (g_sent_ (n := n) (kind := kind) (h := height) (r := round) (block := block) (before := before) (u := 16) hT233 k240 k241 k242 gU.triv (show 0 ≤ (n) ∧ (n) < 16 from ⟨by omega, by omega⟩) (show 0 ≤ (kind) ∧ (kind) ≤ 2 from ⟨by omega, by omega⟩) (show 0 ≤ (round) ∧ (round) < 32 from ⟨by omega, by omega⟩) (show -1 ≤ (block) ∧ (block) < 300 from ⟨by omega, by omega⟩) (show (block) < H232.1 11 12 0 from by omega) (show -1 ≤ (before) ∧ (before) < 32 from ⟨by omega, by omega⟩) k243 (show H232.2.2.1 79 0 ((n)) = 0 → (round) = H232.2.2.1 73 0 ((n)) from by omega) (show H232.2.2.1 79 0 ((n)) = 0 → H232.2.2.1 83 0 ((n)) ≤ 3 * H232.2.2.1 73 0 ((n)) + H232.2.2.1 74 0 ((n)) from by omega) (show H232.2.2.1 80 0 ((n)) = 0 from by omega) (show 0 ≤ (height) ∧ (height) ≤ 301 from ⟨by omega, by omega⟩) (show (n) < (16) from by omega)) ?_
                      rintro v w H254 ⟨rfl, hT255, ehE256, k257, k258, k259, k260, p261, p262, x252, rfl, r253⟩
                      have hE256 := jEx.trans ehE256 hE234 (by decide) (by decide)
                      have p261' : gW H254 (H254.1 11 19 0) := p261
                      have p262' : H232.1 11 19 0 ≤ H254.1 11 19 0 := p262
                      have r253' : (-1) ≤ x252 ∧ x252 ≤ 5999 := r253
                      have k263 : gP H254 := gP.ex k235 ehE256 (by decide)
                      have k264 : gX H254 := gX.ex k236 ehE256 (by decide)
                      have k265 : gL H254 := gL.ex k237 ehE256 (by decide)
                      have k266 : gZ H254 := gZ.ex k238 ehE256 (by decide)
                      have k267 : gQ H254 := gQ.ex k239 ehE256 (by decide)
                      have g268 : H254.1 11 12 0 = H232.1 11 12 0 := ehE256.v 12 (by decide)
                      have g269 : H254.2.2.1 79 0 (n) = H232.2.2.1 79 0 (n) := congrFun (ehE256.r 79 (by decide)) _
                      try dsimp only [Option.toList, List.append, List.cons_append, List.nil_append]
                      exact J.reti rfl rfl rfl ⟨_, rfl, rfl, hT255, hE256, k263, k264, k265, k266, k267, k257, k258, k259, p261, _, rfl, (show (-1) ≤ (x252) ∧ (x252) ≤ 5999 from ⟨by omega, by omega⟩)⟩
                    · have c270 : ¬ (H232.1 11 47 0 ≤ (0 : Int)) := hc
                      clear hc
                      refine J.run0 2 rfl ?_
                      try dsimp only
                      exact J.reti rfl rfl rfl ⟨_, rfl, rfl, hT233, hE234, k235, k236, k237, k238, k239, k240, k241, k242, k243, _, rfl, (show (-1) ≤ ((0 : Int)) ∧ ((0 : Int)) ≤ 5999 from ⟨by omega, by omega⟩)⟩
                  · have c271 : ¬ (H.2.2.1 79 0 (n) = (0 : Int)) := hc
                    clear hc
                    have f272 : 0 ≤ H.1 11 19 0 ∧ H.1 11 19 0 ≤ 6000 := hT.2.1 19
                    refine J.run0 3 rfl ?_
                    try dsimp only
                    refine J.icmp rfl rfl rfl ⟨(show -2147483648 ≤ H.1 11 19 0 ∧ H.1 11 19 0 ≤ 2147483647 from ⟨by omega, by omega⟩), (show -2147483648 ≤ (6000 : Int) ∧ (6000 : Int) ≤ 2147483647 from ⟨by omega, by omega⟩)⟩ (fun hc => ?_) (fun hc => ?_)
                    · have c273 : ¬ (H.1 11 19 0 = (6000 : Int)) := hc
                      clear hc
                      refine J.run0 2 rfl ?_
                      try dsimp only
                      refine J.gn fun H274 hH274 => ?_
                      have hT275 : gT H274 := by rw [hH274]; exact gT.num (f := 47) hT (show 0 ≤ (0 : Int) ∧ (0 : Int) ≤ 3 from ⟨by omega, by omega⟩) (by decide) (fun z => absurd z (by decide))
                      have hE276 : jEx [19, 47] [82, 83, 84, 80, 114, 71, 113, 85, 86, 87, 88, 89, 90, 91, 92, 93, 94, 63, 64, 65, 66, 67, 68, 70, 112] H274 H := by rw [hH274]; exact jEx.num hE (by decide)
                      have k277 : gP H274 := by rw [hH274]; exact k0gP
                      have k278 : gX H274 := by rw [hH274]; exact k0gX
                      have k279 : gL H274 := by rw [hH274]; exact k0gL
                      have k280 : gZ H274 := by rw [hH274]; exact k0gZ
                      have k281 : gQ H274 := by rw [hH274]; exact k0gQ
                      have k282 : gB H274 := by rw [hH274]; exact k0gB
                      have k283 : gK H274 := by rw [hH274]; exact k0gK
                      have k284 : gN H274 := by rw [hH274]; exact k0gN
                      have k285 : gW H274 (H274.1 11 19 0) := by rw [hH274]; exact k0gW
                      have g286 : H274.1 11 47 0 = (0 : Int) := by subst hH274; rfl
                      have g287 : H274.1 11 12 0 = H.1 11 12 0 := by subst hH274; rfl
                      have g288 : H274.1 11 19 0 = H.1 11 19 0 := by subst hH274; rfl
                      have g289 : H274.2.2.1 79 0 (n) = H.2.2.1 79 0 (n) := by subst hH274; rfl
                      have g290 : H274.2.2.1 80 0 (n) = H.2.2.1 80 0 (n) := by subst hH274; rfl
                      clear hH274
                      have f291 : 0 ≤ H274.1 11 47 0 ∧ H274.1 11 47 0 ≤ 3 := hT275.2.1 47
                      refine J.run0 2 rfl ?_
                      try dsimp only
                      refine J.ifc rfl rfl rfl (show -2147483648 ≤ H274.1 11 47 0 ∧ H274.1 11 47 0 ≤ 2147483647 from ⟨by omega, by omega⟩) (fun hc => ?_) (fun hc => ?_)
                      · have c292 : H274.1 11 47 0 ≤ (0 : Int) := hc
                        clear hc
                        have qd : H274.2.2.1 80 0 (n) = 1 → H274.2.2.1 79 0 (n) = 0 := fun z => (k282 n (by omega) (by omega) z).2
                        have qe : 0 ≤ H274.2.2.1 80 0 (n) ∧ H274.2.2.1 80 0 (n) ≤ 1 := hT275.1 80 n
                        refine J.run0 7 rfl ?_
                        try dsimp only
                        have f293 : 1 ≤ H274.1 11 12 0 ∧ H274.1 11 12 0 ≤ 300 := hT275.2.1 12
                        refine J.inv rfl rfl rfl rfl rfl rfl jDr rfl rfl rfl rfl rfl (g_sent_ (n := n) (kind := kind) (h := height) (r := round) (block := block) (before := before) (u := 16) hT275 k282 k283 k284 gU.triv (show 0 ≤ (n) ∧ (n) < 16 from ⟨by omega, by omega⟩) (show 0 ≤ (kind) ∧ (kind) ≤ 2 from ⟨by omega, by omega⟩) (show 0 ≤ (round) ∧ (round) < 32 from ⟨by omega, by omega⟩) (show -1 ≤ (block) ∧ (block) < 300 from ⟨by omega, by omega⟩) (show (block) < H274.1 11 12 0 from by omega) (show -1 ≤ (before) ∧ (before) < 32 from ⟨by omega, by omega⟩) k285 (show H274.2.2.1 79 0 ((n)) = 0 → (round) = H274.2.2.1 73 0 ((n)) from by omega) (show H274.2.2.1 79 0 ((n)) = 0 → H274.2.2.1 83 0 ((n)) ≤ 3 * H274.2.2.1 73 0 ((n)) + H274.2.2.1 74 0 ((n)) from by omega) (show H274.2.2.1 80 0 ((n)) = 0 from by omega) (show 0 ≤ (height) ∧ (height) ≤ 301 from ⟨by omega, by omega⟩) (show (n) < (16) from by omega)) ?_
                        rintro v w H296 ⟨rfl, hT297, ehE298, k299, k300, k301, k302, p303, p304, x294, rfl, r295⟩
                        have hE298 := jEx.trans ehE298 hE276 (by decide) (by decide)
                        have p303' : gW H296 (H296.1 11 19 0) := p303
                        have p304' : H274.1 11 19 0 ≤ H296.1 11 19 0 := p304
                        have r295' : (-1) ≤ x294 ∧ x294 ≤ 5999 := r295
                        have k305 : gP H296 := gP.ex k277 ehE298 (by decide)
                        have k306 : gX H296 := gX.ex k278 ehE298 (by decide)
                        have k307 : gL H296 := gL.ex k279 ehE298 (by decide)
                        have k308 : gZ H296 := gZ.ex k280 ehE298 (by decide)
                        have k309 : gQ H296 := gQ.ex k281 ehE298 (by decide)
                        have g310 : H296.1 11 12 0 = H274.1 11 12 0 := ehE298.v 12 (by decide)
                        have g311 : H296.2.2.1 79 0 (n) = H274.2.2.1 79 0 (n) := congrFun (ehE298.r 79 (by decide)) _
                        try dsimp only [Option.toList, List.append, List.cons_append, List.nil_append]
                        exact J.reti rfl rfl rfl ⟨_, rfl, rfl, hT297, hE298, k305, k306, k307, k308, k309, k299, k300, k301, p303, _, rfl, (show (-1) ≤ (x294) ∧ (x294) ≤ 5999 from ⟨by omega, by omega⟩)⟩
                      · have c312 : ¬ (H274.1 11 47 0 ≤ (0 : Int)) := hc
                        clear hc
                        refine J.run0 2 rfl ?_
                        try dsimp only
                        exact J.reti rfl rfl rfl ⟨_, rfl, rfl, hT275, hE276, k277, k278, k279, k280, k281, k282, k283, k284, k285, _, rfl, (show (-1) ≤ ((0 : Int)) ∧ ((0 : Int)) ≤ 5999 from ⟨by omega, by omega⟩)⟩
                    · have c313 : ¬ (¬ (H.1 11 19 0 = (6000 : Int))) := hc
                      clear hc
                      refine J.run0 3 rfl ?_
                      try dsimp only
                      refine J.gn fun H314 hH314 => ?_
                      have hT315 : gT H314 := by rw [hH314]; exact gT.num (f := 47) hT (show 0 ≤ (2 : Int) ∧ (2 : Int) ≤ 3 from ⟨by omega, by omega⟩) (by decide) (fun z => absurd z (by decide))
                      have hE316 : jEx [19, 47] [82, 83, 84, 80, 114, 71, 113, 85, 86, 87, 88, 89, 90, 91, 92, 93, 94, 63, 64, 65, 66, 67, 68, 70, 112] H314 H := by rw [hH314]; exact jEx.num hE (by decide)
                      have k317 : gP H314 := by rw [hH314]; exact k0gP
                      have k318 : gX H314 := by rw [hH314]; exact k0gX
                      have k319 : gL H314 := by rw [hH314]; exact k0gL
                      have k320 : gZ H314 := by rw [hH314]; exact k0gZ
                      have k321 : gQ H314 := by rw [hH314]; exact k0gQ
                      have k322 : gB H314 := by rw [hH314]; exact k0gB
                      have k323 : gK H314 := by rw [hH314]; exact k0gK
                      have k324 : gN H314 := by rw [hH314]; exact k0gN
                      have k325 : gW H314 (H314.1 11 19 0) := by rw [hH314]; exact k0gW
                      have g326 : H314.1 11 47 0 = (2 : Int) := by subst hH314; rfl
                      have g327 : H314.1 11 12 0 = H.1 11 12 0 := by subst hH314; rfl
                      have g328 : H314.1 11 19 0 = H.1 11 19 0 := by subst hH314; rfl
                      have g329 : H314.2.2.1 79 0 (n) = H.2.2.1 79 0 (n) := by subst hH314; rfl
                      have g330 : H314.2.2.1 80 0 (n) = H.2.2.1 80 0 (n) := by subst hH314; rfl
                      clear hH314
                      have f331 : 0 ≤ H314.1 11 47 0 ∧ H314.1 11 47 0 ≤ 3 := hT315.2.1 47
                      refine J.run0 2 rfl ?_
                      try dsimp only
                      refine J.ifc rfl rfl rfl (show -2147483648 ≤ H314.1 11 47 0 ∧ H314.1 11 47 0 ≤ 2147483647 from ⟨by omega, by omega⟩) (fun hc => ?_) (fun hc => ?_)
                      · have c332 : H314.1 11 47 0 ≤ (0 : Int) := hc
                        clear hc
                        have qd : H314.2.2.1 80 0 (n) = 1 → H314.2.2.1 79 0 (n) = 0 := fun z => (k322 n (by omega) (by omega) z).2
                        have qe : 0 ≤ H314.2.2.1 80 0 (n) ∧ H314.2.2.1 80 0 (n) ≤ 1 := hT315.1 80 n
                        refine J.run0 7 rfl ?_
                        try dsimp only
                        have f333 : 1 ≤ H314.1 11 12 0 ∧ H314.1 11 12 0 ≤ 300 := hT315.2.1 12
                        refine J.inv rfl rfl rfl rfl rfl rfl jDr rfl rfl rfl rfl rfl (g_sent_ (n := n) (kind := kind) (h := height) (r := round) (block := block) (before := before) (u := 16) hT315 k322 k323 k324 gU.triv (show 0 ≤ (n) ∧ (n) < 16 from ⟨by omega, by omega⟩) (show 0 ≤ (kind) ∧ (kind) ≤ 2 from ⟨by omega, by omega⟩) (show 0 ≤ (round) ∧ (round) < 32 from ⟨by omega, by omega⟩) (show -1 ≤ (block) ∧ (block) < 300 from ⟨by omega, by omega⟩) (show (block) < H314.1 11 12 0 from by omega) (show -1 ≤ (before) ∧ (before) < 32 from ⟨by omega, by omega⟩) k325 (show H314.2.2.1 79 0 ((n)) = 0 → (round) = H314.2.2.1 73 0 ((n)) from by omega) (show H314.2.2.1 79 0 ((n)) = 0 → H314.2.2.1 83 0 ((n)) ≤ 3 * H314.2.2.1 73 0 ((n)) + H314.2.2.1 74 0 ((n)) from by omega) (show H314.2.2.1 80 0 ((n)) = 0 from by omega) (show 0 ≤ (height) ∧ (height) ≤ 301 from ⟨by omega, by omega⟩) (show (n) < (16) from by omega)) ?_
                        rintro v w H336 ⟨rfl, hT337, ehE338, k339, k340, k341, k342, p343, p344, x334, rfl, r335⟩
                        have hE338 := jEx.trans ehE338 hE316 (by decide) (by decide)
                        have p343' : gW H336 (H336.1 11 19 0) := p343
                        have p344' : H314.1 11 19 0 ≤ H336.1 11 19 0 := p344
                        have r335' : (-1) ≤ x334 ∧ x334 ≤ 5999 := r335
                        have k345 : gP H336 := gP.ex k317 ehE338 (by decide)
                        have k346 : gX H336 := gX.ex k318 ehE338 (by decide)
                        have k347 : gL H336 := gL.ex k319 ehE338 (by decide)
                        have k348 : gZ H336 := gZ.ex k320 ehE338 (by decide)
                        have k349 : gQ H336 := gQ.ex k321 ehE338 (by decide)
                        have g350 : H336.1 11 12 0 = H314.1 11 12 0 := ehE338.v 12 (by decide)
                        have g351 : H336.2.2.1 79 0 (n) = H314.2.2.1 79 0 (n) := congrFun (ehE338.r 79 (by decide)) _
                        try dsimp only [Option.toList, List.append, List.cons_append, List.nil_append]
                        exact J.reti rfl rfl rfl ⟨_, rfl, rfl, hT337, hE338, k345, k346, k347, k348, k349, k339, k340, k341, p343, _, rfl, (show (-1) ≤ (x334) ∧ (x334) ≤ 5999 from ⟨by omega, by omega⟩)⟩
                      · have c352 : ¬ (H314.1 11 47 0 ≤ (0 : Int)) := hc
                        clear hc
                        refine J.run0 2 rfl ?_
                        try dsimp only
                        exact J.reti rfl rfl rfl ⟨_, rfl, rfl, hT315, hE316, k317, k318, k319, k320, k321, k322, k323, k324, k325, _, rfl, (show (-1) ≤ ((0 : Int)) ∧ ((0 : Int)) ≤ 5999 from ⟨by omega, by omega⟩)⟩
              · have c353 : ¬ ((0 : Int) = (0 : Int)) := hc
                clear hc
                exfalso
                omega
            · have c354 : ¬ (¬ (x183 = (0 : Int))) := hc
              clear hc
              refine J.run0 5 rfl ?_
              try dsimp only
              refine J.ifc rfl rfl rfl (show -2147483648 ≤ (1 : Int) ∧ (1 : Int) ≤ 2147483647 from ⟨by omega, by omega⟩) (fun hc => ?_) (fun hc => ?_)
              · have c355 : (1 : Int) = (0 : Int) := hc
                clear hc
                exfalso
                omega
              · have c356 : ¬ ((1 : Int) = (0 : Int)) := hc
                clear hc
                refine J.run0 3 rfl ?_
                try dsimp only
                refine J.gn fun H357 hH357 => ?_
                have hT358 : gT H357 := by rw [hH357]; exact gT.num (f := 47) hT (show 0 ≤ (1 : Int) ∧ (1 : Int) ≤ 3 from ⟨by omega, by omega⟩) (by decide) (fun z => absurd z (by decide))
                have hE359 : jEx [19, 47] [82, 83, 84, 80, 114, 71, 113, 85, 86, 87, 88, 89, 90, 91, 92, 93, 94, 63, 64, 65, 66, 67, 68, 70, 112] H357 H := by rw [hH357]; exact jEx.num hE (by decide)
                have k360 : gP H357 := by rw [hH357]; exact k0gP
                have k361 : gX H357 := by rw [hH357]; exact k0gX
                have k362 : gL H357 := by rw [hH357]; exact k0gL
                have k363 : gZ H357 := by rw [hH357]; exact k0gZ
                have k364 : gQ H357 := by rw [hH357]; exact k0gQ
                have k365 : gB H357 := by rw [hH357]; exact k0gB
                have k366 : gK H357 := by rw [hH357]; exact k0gK
                have k367 : gN H357 := by rw [hH357]; exact k0gN
                have k368 : gW H357 (H357.1 11 19 0) := by rw [hH357]; exact k0gW
                have g369 : H357.1 11 47 0 = (1 : Int) := by subst hH357; rfl
                have g370 : H357.1 11 12 0 = H.1 11 12 0 := by subst hH357; rfl
                have g371 : H357.1 11 19 0 = H.1 11 19 0 := by subst hH357; rfl
                have g372 : H357.2.2.1 79 0 (n) = H.2.2.1 79 0 (n) := by subst hH357; rfl
                have g373 : H357.2.2.1 80 0 (n) = H.2.2.1 80 0 (n) := by subst hH357; rfl
                clear hH357
                have f374 : 0 ≤ H357.1 11 47 0 ∧ H357.1 11 47 0 ≤ 3 := hT358.2.1 47
                refine J.run0 2 rfl ?_
                try dsimp only
                refine J.ifc rfl rfl rfl (show -2147483648 ≤ H357.1 11 47 0 ∧ H357.1 11 47 0 ≤ 2147483647 from ⟨by omega, by omega⟩) (fun hc => ?_) (fun hc => ?_)
                · have c375 : H357.1 11 47 0 ≤ (0 : Int) := hc
                  clear hc
                  have qd : H357.2.2.1 80 0 (n) = 1 → H357.2.2.1 79 0 (n) = 0 := fun z => (k365 n (by omega) (by omega) z).2
                  have qe : 0 ≤ H357.2.2.1 80 0 (n) ∧ H357.2.2.1 80 0 (n) ≤ 1 := hT358.1 80 n
                  refine J.run0 7 rfl ?_
                  try dsimp only
                  have f376 : 1 ≤ H357.1 11 12 0 ∧ H357.1 11 12 0 ≤ 300 := hT358.2.1 12
                  refine J.inv rfl rfl rfl rfl rfl rfl jDr rfl rfl rfl rfl rfl (g_sent_ (n := n) (kind := kind) (h := height) (r := round) (block := block) (before := before) (u := 16) hT358 k365 k366 k367 gU.triv (show 0 ≤ (n) ∧ (n) < 16 from ⟨by omega, by omega⟩) (show 0 ≤ (kind) ∧ (kind) ≤ 2 from ⟨by omega, by omega⟩) (show 0 ≤ (round) ∧ (round) < 32 from ⟨by omega, by omega⟩) (show -1 ≤ (block) ∧ (block) < 300 from ⟨by omega, by omega⟩) (show (block) < H357.1 11 12 0 from by omega) (show -1 ≤ (before) ∧ (before) < 32 from ⟨by omega, by omega⟩) k368 (show H357.2.2.1 79 0 ((n)) = 0 → (round) = H357.2.2.1 73 0 ((n)) from by omega) (show H357.2.2.1 79 0 ((n)) = 0 → H357.2.2.1 83 0 ((n)) ≤ 3 * H357.2.2.1 73 0 ((n)) + H357.2.2.1 74 0 ((n)) from by omega) (show H357.2.2.1 80 0 ((n)) = 0 from by omega) (show 0 ≤ (height) ∧ (height) ≤ 301 from ⟨by omega, by omega⟩) (show (n) < (16) from by omega)) ?_
                  rintro v w H379 ⟨rfl, hT380, ehE381, k382, k383, k384, k385, p386, p387, x377, rfl, r378⟩
                  have hE381 := jEx.trans ehE381 hE359 (by decide) (by decide)
                  have p386' : gW H379 (H379.1 11 19 0) := p386
                  have p387' : H357.1 11 19 0 ≤ H379.1 11 19 0 := p387
                  have r378' : (-1) ≤ x377 ∧ x377 ≤ 5999 := r378
                  have k388 : gP H379 := gP.ex k360 ehE381 (by decide)
                  have k389 : gX H379 := gX.ex k361 ehE381 (by decide)
                  have k390 : gL H379 := gL.ex k362 ehE381 (by decide)
                  have k391 : gZ H379 := gZ.ex k363 ehE381 (by decide)
                  have k392 : gQ H379 := gQ.ex k364 ehE381 (by decide)
                  have g393 : H379.1 11 12 0 = H357.1 11 12 0 := ehE381.v 12 (by decide)
                  have g394 : H379.2.2.1 79 0 (n) = H357.2.2.1 79 0 (n) := congrFun (ehE381.r 79 (by decide)) _
                  try dsimp only [Option.toList, List.append, List.cons_append, List.nil_append]
                  exact J.reti rfl rfl rfl ⟨_, rfl, rfl, hT380, hE381, k388, k389, k390, k391, k392, k382, k383, k384, p386, _, rfl, (show (-1) ≤ (x377) ∧ (x377) ≤ 5999 from ⟨by omega, by omega⟩)⟩
                · have c395 : ¬ (H357.1 11 47 0 ≤ (0 : Int)) := hc
                  clear hc
                  refine J.run0 2 rfl ?_
                  try dsimp only
                  exact J.reti rfl rfl rfl ⟨_, rfl, rfl, hT358, hE359, k360, k361, k362, k363, k364, k365, k366, k367, k368, _, rfl, (show (-1) ≤ ((0 : Int)) ∧ ((0 : Int)) ≤ 5999 from ⟨by omega, by omega⟩)⟩
          · have c396 : ¬ (¬ (kind = (0 : Int))) := hc
            clear hc
            refine J.run0 2 rfl ?_
            try dsimp only
            refine J.ins rfl rfl rfl rfl rfl rfl rfl rfl rfl (g_in (u := before) (a := (-1 : Int)) (b := (31 : Int)) hT  (show -2147483648 ≤ (before) ∧ (before) ≤ 2147483647 from ⟨by omega, by omega⟩) (show -2147483648 ≤ ((-1 : Int)) ∧ ((-1 : Int)) ≤ 2147483647 from ⟨by omega, by omega⟩) (show -2147483648 ≤ ((31 : Int)) ∧ ((31 : Int)) ≤ 2147483647 from ⟨by omega, by omega⟩)) ?_
            rintro v w H ⟨rfl, rfl, x397, rfl, r398⟩
            have r398' : (x397 = 0 ∨ x397 = 1) ∧ (x397 = 1 → (before) ≥ ((-1 : Int)) ∧ (before) ≤ ((31 : Int))) ∧ (x397 = 0 → (before) < ((-1 : Int)) ∨ ((31 : Int)) < (before)) := r398
            try dsimp only [Option.toList, List.append, List.cons_append, List.nil_append]
            refine J.ifc rfl rfl rfl (show -2147483648 ≤ x397 ∧ x397 ≤ 2147483647 from ⟨by omega, by omega⟩) (fun hc => ?_) (fun hc => ?_)
            · have c399 : ¬ (x397 = (0 : Int)) := hc
              clear hc
              refine J.run0 4 rfl ?_
              try dsimp only
              refine J.ifc rfl rfl rfl (show -2147483648 ≤ (0 : Int) ∧ (0 : Int) ≤ 2147483647 from ⟨by omega, by omega⟩) (fun hc => ?_) (fun hc => ?_)
              · have c400 : (0 : Int) = (0 : Int) := hc
                clear hc
                refine J.run0 3 rfl ?_
                try dsimp only
                refine J.ins rfl rfl rfl rfl rfl rfl rfl rfl rfl (g_in (u := n) (a := (0 : Int)) (b := (15 : Int)) hT  (show -2147483648 ≤ (n) ∧ (n) ≤ 2147483647 from ⟨by omega, by omega⟩) (show -2147483648 ≤ ((0 : Int)) ∧ ((0 : Int)) ≤ 2147483647 from ⟨by omega, by omega⟩) (show -2147483648 ≤ ((15 : Int)) ∧ ((15 : Int)) ≤ 2147483647 from ⟨by omega, by omega⟩)) ?_
                rintro v w H ⟨rfl, rfl, x401, rfl, r402⟩
                have r402' : (x401 = 0 ∨ x401 = 1) ∧ (x401 = 1 → (n) ≥ ((0 : Int)) ∧ (n) ≤ ((15 : Int))) ∧ (x401 = 0 → (n) < ((0 : Int)) ∨ ((15 : Int)) < (n)) := r402
                try dsimp only [Option.toList, List.append, List.cons_append, List.nil_append]
                refine J.ifc rfl rfl rfl (show -2147483648 ≤ x401 ∧ x401 ≤ 2147483647 from ⟨by omega, by omega⟩) (fun hc => ?_) (fun hc => ?_)
                · have c403 : x401 = (0 : Int) := hc
                  clear hc
                  refine J.run0 3 rfl ?_
                  try dsimp only
                  refine J.gn fun H404 hH404 => ?_
                  have hT405 : gT H404 := by rw [hH404]; exact gT.num (f := 47) hT (show 0 ≤ (2 : Int) ∧ (2 : Int) ≤ 3 from ⟨by omega, by omega⟩) (by decide) (fun z => absurd z (by decide))
                  have hE406 : jEx [19, 47] [82, 83, 84, 80, 114, 71, 113, 85, 86, 87, 88, 89, 90, 91, 92, 93, 94, 63, 64, 65, 66, 67, 68, 70, 112] H404 H := by rw [hH404]; exact jEx.num hE (by decide)
                  have k407 : gP H404 := by rw [hH404]; exact k0gP
                  have k408 : gX H404 := by rw [hH404]; exact k0gX
                  have k409 : gL H404 := by rw [hH404]; exact k0gL
                  have k410 : gZ H404 := by rw [hH404]; exact k0gZ
                  have k411 : gQ H404 := by rw [hH404]; exact k0gQ
                  have k412 : gB H404 := by rw [hH404]; exact k0gB
                  have k413 : gK H404 := by rw [hH404]; exact k0gK
                  have k414 : gN H404 := by rw [hH404]; exact k0gN
                  have k415 : gW H404 (H404.1 11 19 0) := by rw [hH404]; exact k0gW
                  have g416 : H404.1 11 47 0 = (2 : Int) := by subst hH404; rfl
                  have g417 : H404.1 11 12 0 = H.1 11 12 0 := by subst hH404; rfl
                  have g418 : H404.1 11 19 0 = H.1 11 19 0 := by subst hH404; rfl
                  have g419 : H404.2.2.1 79 0 (n) = H.2.2.1 79 0 (n) := by subst hH404; rfl
                  have g420 : H404.2.2.1 80 0 (n) = H.2.2.1 80 0 (n) := by subst hH404; rfl
                  clear hH404
                  have f421 : 0 ≤ H404.1 11 47 0 ∧ H404.1 11 47 0 ≤ 3 := hT405.2.1 47
                  refine J.run0 2 rfl ?_
                  try dsimp only
                  refine J.ifc rfl rfl rfl (show -2147483648 ≤ H404.1 11 47 0 ∧ H404.1 11 47 0 ≤ 2147483647 from ⟨by omega, by omega⟩) (fun hc => ?_) (fun hc => ?_)
                  · have c422 : H404.1 11 47 0 ≤ (0 : Int) := hc
                    clear hc
                    have qd : H404.2.2.1 80 0 (n) = 1 → H404.2.2.1 79 0 (n) = 0 := fun z => (k412 n (by omega) (by omega) z).2
                    have qe : 0 ≤ H404.2.2.1 80 0 (n) ∧ H404.2.2.1 80 0 (n) ≤ 1 := hT405.1 80 n
                    refine J.run0 7 rfl ?_
                    try dsimp only
                    have f423 : 1 ≤ H404.1 11 12 0 ∧ H404.1 11 12 0 ≤ 300 := hT405.2.1 12
                    refine J.inv rfl rfl rfl rfl rfl rfl jDr rfl rfl rfl rfl rfl (g_sent_ (n := n) (kind := kind) (h := height) (r := round) (block := block) (before := before) (u := 16) hT405 k412 k413 k414 gU.triv (show 0 ≤ (n) ∧ (n) < 16 from ⟨by omega, by omega⟩) (show 0 ≤ (kind) ∧ (kind) ≤ 2 from ⟨by omega, by omega⟩) (show 0 ≤ (round) ∧ (round) < 32 from ⟨by omega, by omega⟩) (show -1 ≤ (block) ∧ (block) < 300 from ⟨by omega, by omega⟩) (show (block) < H404.1 11 12 0 from by omega) (show -1 ≤ (before) ∧ (before) < 32 from ⟨by omega, by omega⟩) k415 (show H404.2.2.1 79 0 ((n)) = 0 → (round) = H404.2.2.1 73 0 ((n)) from by omega) (show H404.2.2.1 79 0 ((n)) = 0 → H404.2.2.1 83 0 ((n)) ≤ 3 * H404.2.2.1 73 0 ((n)) + H404.2.2.1 74 0 ((n)) from by omega) (show H404.2.2.1 80 0 ((n)) = 0 from by omega) (show 0 ≤ (height) ∧ (height) ≤ 301 from ⟨by omega, by omega⟩) (show (n) < (16) from by omega)) ?_
                    rintro v w H426 ⟨rfl, hT427, ehE428, k429, k430, k431, k432, p433, p434, x424, rfl, r425⟩
                    have hE428 := jEx.trans ehE428 hE406 (by decide) (by decide)
                    have p433' : gW H426 (H426.1 11 19 0) := p433
                    have p434' : H404.1 11 19 0 ≤ H426.1 11 19 0 := p434
                    have r425' : (-1) ≤ x424 ∧ x424 ≤ 5999 := r425
                    have k435 : gP H426 := gP.ex k407 ehE428 (by decide)
                    have k436 : gX H426 := gX.ex k408 ehE428 (by decide)
                    have k437 : gL H426 := gL.ex k409 ehE428 (by decide)
                    have k438 : gZ H426 := gZ.ex k410 ehE428 (by decide)
                    have k439 : gQ H426 := gQ.ex k411 ehE428 (by decide)
                    have g440 : H426.1 11 12 0 = H404.1 11 12 0 := ehE428.v 12 (by decide)
                    have g441 : H426.2.2.1 79 0 (n) = H404.2.2.1 79 0 (n) := congrFun (ehE428.r 79 (by decide)) _
                    try dsimp only [Option.toList, List.append, List.cons_append, List.nil_append]
                    exact J.reti rfl rfl rfl ⟨_, rfl, rfl, hT427, hE428, k435, k436, k437, k438, k439, k429, k430, k431, p433, _, rfl, (show (-1) ≤ (x424) ∧ (x424) ≤ 5999 from ⟨by omega, by omega⟩)⟩
                  · have c442 : ¬ (H404.1 11 47 0 ≤ (0 : Int)) := hc
                    clear hc
                    refine J.run0 2 rfl ?_
                    try dsimp only
                    exact J.reti rfl rfl rfl ⟨_, rfl, rfl, hT405, hE406, k407, k408, k409, k410, k411, k412, k413, k414, k415, _, rfl, (show (-1) ≤ ((0 : Int)) ∧ ((0 : Int)) ≤ 5999 from ⟨by omega, by omega⟩)⟩
                · have c443 : ¬ (x401 = (0 : Int)) := hc
                  clear hc
                  have f444 : 0 ≤ H.2.2.1 79 0 (n) ∧ H.2.2.1 79 0 (n) ≤ 1 := hT.1 79 (n)
                  refine J.run 4 rfl (show 0 ≤ n ∧ n < 16 from ⟨by omega, by omega⟩) ?_
                  try dsimp only
                  refine J.ifc rfl rfl rfl (show -2147483648 ≤ H.2.2.1 79 0 (n) ∧ H.2.2.1 79 0 (n) ≤ 2147483647 from ⟨by omega, by omega⟩) (fun hc => ?_) (fun hc => ?_)
                  · have c445 : H.2.2.1 79 0 (n) = (0 : Int) := hc
                    clear hc
                    refine J.run0 3 rfl ?_
                    try dsimp only
                    refine J.gn fun H446 hH446 => ?_
                    have hT447 : gT H446 := by rw [hH446]; exact gT.num (f := 47) hT (show 0 ≤ (2 : Int) ∧ (2 : Int) ≤ 3 from ⟨by omega, by omega⟩) (by decide) (fun z => absurd z (by decide))
                    have hE448 : jEx [19, 47] [82, 83, 84, 80, 114, 71, 113, 85, 86, 87, 88, 89, 90, 91, 92, 93, 94, 63, 64, 65, 66, 67, 68, 70, 112] H446 H := by rw [hH446]; exact jEx.num hE (by decide)
                    have k449 : gP H446 := by rw [hH446]; exact k0gP
                    have k450 : gX H446 := by rw [hH446]; exact k0gX
                    have k451 : gL H446 := by rw [hH446]; exact k0gL
                    have k452 : gZ H446 := by rw [hH446]; exact k0gZ
                    have k453 : gQ H446 := by rw [hH446]; exact k0gQ
                    have k454 : gB H446 := by rw [hH446]; exact k0gB
                    have k455 : gK H446 := by rw [hH446]; exact k0gK
                    have k456 : gN H446 := by rw [hH446]; exact k0gN
                    have k457 : gW H446 (H446.1 11 19 0) := by rw [hH446]; exact k0gW
                    have g458 : H446.1 11 47 0 = (2 : Int) := by subst hH446; rfl
                    have g459 : H446.1 11 12 0 = H.1 11 12 0 := by subst hH446; rfl
                    have g460 : H446.1 11 19 0 = H.1 11 19 0 := by subst hH446; rfl
                    have g461 : H446.2.2.1 79 0 (n) = H.2.2.1 79 0 (n) := by subst hH446; rfl
                    have g462 : H446.2.2.1 80 0 (n) = H.2.2.1 80 0 (n) := by subst hH446; rfl
                    clear hH446
                    have f463 : 0 ≤ H446.1 11 47 0 ∧ H446.1 11 47 0 ≤ 3 := hT447.2.1 47
                    refine J.run0 2 rfl ?_
                    try dsimp only
                    refine J.ifc rfl rfl rfl (show -2147483648 ≤ H446.1 11 47 0 ∧ H446.1 11 47 0 ≤ 2147483647 from ⟨by omega, by omega⟩) (fun hc => ?_) (fun hc => ?_)
                    · have c464 : H446.1 11 47 0 ≤ (0 : Int) := hc
                      clear hc
                      have qd : H446.2.2.1 80 0 (n) = 1 → H446.2.2.1 79 0 (n) = 0 := fun z => (k454 n (by omega) (by omega) z).2
                      have qe : 0 ≤ H446.2.2.1 80 0 (n) ∧ H446.2.2.1 80 0 (n) ≤ 1 := hT447.1 80 n
                      refine J.run0 7 rfl ?_
                      try dsimp only
                      have f465 : 1 ≤ H446.1 11 12 0 ∧ H446.1 11 12 0 ≤ 300 := hT447.2.1 12
                      refine J.inv rfl rfl rfl rfl rfl rfl jDr rfl rfl rfl rfl rfl (g_sent_ (n := n) (kind := kind) (h := height) (r := round) (block := block) (before := before) (u := 16) hT447 k454 k455 k456 gU.triv (show 0 ≤ (n) ∧ (n) < 16 from ⟨by omega, by omega⟩) (show 0 ≤ (kind) ∧ (kind) ≤ 2 from ⟨by omega, by omega⟩) (show 0 ≤ (round) ∧ (round) < 32 from ⟨by omega, by omega⟩) (show -1 ≤ (block) ∧ (block) < 300 from ⟨by omega, by omega⟩) (show (block) < H446.1 11 12 0 from by omega) (show -1 ≤ (before) ∧ (before) < 32 from ⟨by omega, by omega⟩) k457 (show H446.2.2.1 79 0 ((n)) = 0 → (round) = H446.2.2.1 73 0 ((n)) from by omega) (show H446.2.2.1 79 0 ((n)) = 0 → H446.2.2.1 83 0 ((n)) ≤ 3 * H446.2.2.1 73 0 ((n)) + H446.2.2.1 74 0 ((n)) from by omega) (show H446.2.2.1 80 0 ((n)) = 0 from by omega) (show 0 ≤ (height) ∧ (height) ≤ 301 from ⟨by omega, by omega⟩) (show (n) < (16) from by omega)) ?_
                      rintro v w H468 ⟨rfl, hT469, ehE470, k471, k472, k473, k474, p475, p476, x466, rfl, r467⟩
                      have hE470 := jEx.trans ehE470 hE448 (by decide) (by decide)
                      have p475' : gW H468 (H468.1 11 19 0) := p475
                      have p476' : H446.1 11 19 0 ≤ H468.1 11 19 0 := p476
                      have r467' : (-1) ≤ x466 ∧ x466 ≤ 5999 := r467
                      have k477 : gP H468 := gP.ex k449 ehE470 (by decide)
                      have k478 : gX H468 := gX.ex k450 ehE470 (by decide)
                      have k479 : gL H468 := gL.ex k451 ehE470 (by decide)
                      have k480 : gZ H468 := gZ.ex k452 ehE470 (by decide)
                      have k481 : gQ H468 := gQ.ex k453 ehE470 (by decide)
                      have g482 : H468.1 11 12 0 = H446.1 11 12 0 := ehE470.v 12 (by decide)
                      have g483 : H468.2.2.1 79 0 (n) = H446.2.2.1 79 0 (n) := congrFun (ehE470.r 79 (by decide)) _
                      try dsimp only [Option.toList, List.append, List.cons_append, List.nil_append]
                      exact J.reti rfl rfl rfl ⟨_, rfl, rfl, hT469, hE470, k477, k478, k479, k480, k481, k471, k472, k473, p475, _, rfl, (show (-1) ≤ (x466) ∧ (x466) ≤ 5999 from ⟨by omega, by omega⟩)⟩
                    · have c484 : ¬ (H446.1 11 47 0 ≤ (0 : Int)) := hc
                      clear hc
                      refine J.run0 2 rfl ?_
                      try dsimp only
                      exact J.reti rfl rfl rfl ⟨_, rfl, rfl, hT447, hE448, k449, k450, k451, k452, k453, k454, k455, k456, k457, _, rfl, (show (-1) ≤ ((0 : Int)) ∧ ((0 : Int)) ≤ 5999 from ⟨by omega, by omega⟩)⟩
                  · have c485 : ¬ (H.2.2.1 79 0 (n) = (0 : Int)) := hc
                    clear hc
                    have f486 : 0 ≤ H.1 11 19 0 ∧ H.1 11 19 0 ≤ 6000 := hT.2.1 19
                    refine J.run0 3 rfl ?_
                    try dsimp only
                    refine J.icmp rfl rfl rfl ⟨(show -2147483648 ≤ H.1 11 19 0 ∧ H.1 11 19 0 ≤ 2147483647 from ⟨by omega, by omega⟩), (show -2147483648 ≤ (6000 : Int) ∧ (6000 : Int) ≤ 2147483647 from ⟨by omega, by omega⟩)⟩ (fun hc => ?_) (fun hc => ?_)
                    · have c487 : ¬ (H.1 11 19 0 = (6000 : Int)) := hc
                      clear hc
                      refine J.run0 2 rfl ?_
                      try dsimp only
                      refine J.gn fun H488 hH488 => ?_
                      have hT489 : gT H488 := by rw [hH488]; exact gT.num (f := 47) hT (show 0 ≤ (0 : Int) ∧ (0 : Int) ≤ 3 from ⟨by omega, by omega⟩) (by decide) (fun z => absurd z (by decide))
                      have hE490 : jEx [19, 47] [82, 83, 84, 80, 114, 71, 113, 85, 86, 87, 88, 89, 90, 91, 92, 93, 94, 63, 64, 65, 66, 67, 68, 70, 112] H488 H := by rw [hH488]; exact jEx.num hE (by decide)
                      have k491 : gP H488 := by rw [hH488]; exact k0gP
                      have k492 : gX H488 := by rw [hH488]; exact k0gX
                      have k493 : gL H488 := by rw [hH488]; exact k0gL
                      have k494 : gZ H488 := by rw [hH488]; exact k0gZ
                      have k495 : gQ H488 := by rw [hH488]; exact k0gQ
                      have k496 : gB H488 := by rw [hH488]; exact k0gB
                      have k497 : gK H488 := by rw [hH488]; exact k0gK
                      have k498 : gN H488 := by rw [hH488]; exact k0gN
                      have k499 : gW H488 (H488.1 11 19 0) := by rw [hH488]; exact k0gW
                      have g500 : H488.1 11 47 0 = (0 : Int) := by subst hH488; rfl
                      have g501 : H488.1 11 12 0 = H.1 11 12 0 := by subst hH488; rfl
                      have g502 : H488.1 11 19 0 = H.1 11 19 0 := by subst hH488; rfl
                      have g503 : H488.2.2.1 79 0 (n) = H.2.2.1 79 0 (n) := by subst hH488; rfl
                      have g504 : H488.2.2.1 80 0 (n) = H.2.2.1 80 0 (n) := by subst hH488; rfl
                      clear hH488
                      have f505 : 0 ≤ H488.1 11 47 0 ∧ H488.1 11 47 0 ≤ 3 := hT489.2.1 47
                      refine J.run0 2 rfl ?_
                      try dsimp only
                      refine J.ifc rfl rfl rfl (show -2147483648 ≤ H488.1 11 47 0 ∧ H488.1 11 47 0 ≤ 2147483647 from ⟨by omega, by omega⟩) (fun hc => ?_) (fun hc => ?_)
                      · have c506 : H488.1 11 47 0 ≤ (0 : Int) := hc
                        clear hc
                        have qd : H488.2.2.1 80 0 (n) = 1 → H488.2.2.1 79 0 (n) = 0 := fun z => (k496 n (by omega) (by omega) z).2
                        have qe : 0 ≤ H488.2.2.1 80 0 (n) ∧ H488.2.2.1 80 0 (n) ≤ 1 := hT489.1 80 n
                        refine J.run0 7 rfl ?_
                        try dsimp only
                        have f507 : 1 ≤ H488.1 11 12 0 ∧ H488.1 11 12 0 ≤ 300 := hT489.2.1 12
                        refine J.inv rfl rfl rfl rfl rfl rfl jDr rfl rfl rfl rfl rfl (g_sent_ (n := n) (kind := kind) (h := height) (r := round) (block := block) (before := before) (u := 16) hT489 k496 k497 k498 gU.triv (show 0 ≤ (n) ∧ (n) < 16 from ⟨by omega, by omega⟩) (show 0 ≤ (kind) ∧ (kind) ≤ 2 from ⟨by omega, by omega⟩) (show 0 ≤ (round) ∧ (round) < 32 from ⟨by omega, by omega⟩) (show -1 ≤ (block) ∧ (block) < 300 from ⟨by omega, by omega⟩) (show (block) < H488.1 11 12 0 from by omega) (show -1 ≤ (before) ∧ (before) < 32 from ⟨by omega, by omega⟩) k499 (show H488.2.2.1 79 0 ((n)) = 0 → (round) = H488.2.2.1 73 0 ((n)) from by omega) (show H488.2.2.1 79 0 ((n)) = 0 → H488.2.2.1 83 0 ((n)) ≤ 3 * H488.2.2.1 73 0 ((n)) + H488.2.2.1 74 0 ((n)) from by omega) (show H488.2.2.1 80 0 ((n)) = 0 from by omega) (show 0 ≤ (height) ∧ (height) ≤ 301 from ⟨by omega, by omega⟩) (show (n) < (16) from by omega)) ?_
                        rintro v w H510 ⟨rfl, hT511, ehE512, k513, k514, k515, k516, p517, p518, x508, rfl, r509⟩
                        have hE512 := jEx.trans ehE512 hE490 (by decide) (by decide)
                        have p517' : gW H510 (H510.1 11 19 0) := p517
                        have p518' : H488.1 11 19 0 ≤ H510.1 11 19 0 := p518
                        have r509' : (-1) ≤ x508 ∧ x508 ≤ 5999 := r509
                        have k519 : gP H510 := gP.ex k491 ehE512 (by decide)
                        have k520 : gX H510 := gX.ex k492 ehE512 (by decide)
                        have k521 : gL H510 := gL.ex k493 ehE512 (by decide)
                        have k522 : gZ H510 := gZ.ex k494 ehE512 (by decide)
                        have k523 : gQ H510 := gQ.ex k495 ehE512 (by decide)
                        have g524 : H510.1 11 12 0 = H488.1 11 12 0 := ehE512.v 12 (by decide)
                        have g525 : H510.2.2.1 79 0 (n) = H488.2.2.1 79 0 (n) := congrFun (ehE512.r 79 (by decide)) _
                        try dsimp only [Option.toList, List.append, List.cons_append, List.nil_append]
                        exact J.reti rfl rfl rfl ⟨_, rfl, rfl, hT511, hE512, k519, k520, k521, k522, k523, k513, k514, k515, p517, _, rfl, (show (-1) ≤ (x508) ∧ (x508) ≤ 5999 from ⟨by omega, by omega⟩)⟩
                      · have c526 : ¬ (H488.1 11 47 0 ≤ (0 : Int)) := hc
                        clear hc
                        refine J.run0 2 rfl ?_
                        try dsimp only
                        exact J.reti rfl rfl rfl ⟨_, rfl, rfl, hT489, hE490, k491, k492, k493, k494, k495, k496, k497, k498, k499, _, rfl, (show (-1) ≤ ((0 : Int)) ∧ ((0 : Int)) ≤ 5999 from ⟨by omega, by omega⟩)⟩
                    · have c527 : ¬ (¬ (H.1 11 19 0 = (6000 : Int))) := hc
                      clear hc
                      refine J.run0 3 rfl ?_
                      try dsimp only
                      refine J.gn fun H528 hH528 => ?_
                      have hT529 : gT H528 := by rw [hH528]; exact gT.num (f := 47) hT (show 0 ≤ (2 : Int) ∧ (2 : Int) ≤ 3 from ⟨by omega, by omega⟩) (by decide) (fun z => absurd z (by decide))
                      have hE530 : jEx [19, 47] [82, 83, 84, 80, 114, 71, 113, 85, 86, 87, 88, 89, 90, 91, 92, 93, 94, 63, 64, 65, 66, 67, 68, 70, 112] H528 H := by rw [hH528]; exact jEx.num hE (by decide)
                      have k531 : gP H528 := by rw [hH528]; exact k0gP
                      have k532 : gX H528 := by rw [hH528]; exact k0gX
                      have k533 : gL H528 := by rw [hH528]; exact k0gL
                      have k534 : gZ H528 := by rw [hH528]; exact k0gZ
                      have k535 : gQ H528 := by rw [hH528]; exact k0gQ
                      have k536 : gB H528 := by rw [hH528]; exact k0gB
                      have k537 : gK H528 := by rw [hH528]; exact k0gK
                      have k538 : gN H528 := by rw [hH528]; exact k0gN
                      have k539 : gW H528 (H528.1 11 19 0) := by rw [hH528]; exact k0gW
                      have g540 : H528.1 11 47 0 = (2 : Int) := by subst hH528; rfl
                      have g541 : H528.1 11 12 0 = H.1 11 12 0 := by subst hH528; rfl
                      have g542 : H528.1 11 19 0 = H.1 11 19 0 := by subst hH528; rfl
                      have g543 : H528.2.2.1 79 0 (n) = H.2.2.1 79 0 (n) := by subst hH528; rfl
                      have g544 : H528.2.2.1 80 0 (n) = H.2.2.1 80 0 (n) := by subst hH528; rfl
                      clear hH528
                      have f545 : 0 ≤ H528.1 11 47 0 ∧ H528.1 11 47 0 ≤ 3 := hT529.2.1 47
                      refine J.run0 2 rfl ?_
                      try dsimp only
                      refine J.ifc rfl rfl rfl (show -2147483648 ≤ H528.1 11 47 0 ∧ H528.1 11 47 0 ≤ 2147483647 from ⟨by omega, by omega⟩) (fun hc => ?_) (fun hc => ?_)
                      · have c546 : H528.1 11 47 0 ≤ (0 : Int) := hc
                        clear hc
                        have qd : H528.2.2.1 80 0 (n) = 1 → H528.2.2.1 79 0 (n) = 0 := fun z => (k536 n (by omega) (by omega) z).2
                        have qe : 0 ≤ H528.2.2.1 80 0 (n) ∧ H528.2.2.1 80 0 (n) ≤ 1 := hT529.1 80 n
                        refine J.run0 7 rfl ?_
                        try dsimp only
                        have f547 : 1 ≤ H528.1 11 12 0 ∧ H528.1 11 12 0 ≤ 300 := hT529.2.1 12
                        refine J.inv rfl rfl rfl rfl rfl rfl jDr rfl rfl rfl rfl rfl (g_sent_ (n := n) (kind := kind) (h := height) (r := round) (block := block) (before := before) (u := 16) hT529 k536 k537 k538 gU.triv (show 0 ≤ (n) ∧ (n) < 16 from ⟨by omega, by omega⟩) (show 0 ≤ (kind) ∧ (kind) ≤ 2 from ⟨by omega, by omega⟩) (show 0 ≤ (round) ∧ (round) < 32 from ⟨by omega, by omega⟩) (show -1 ≤ (block) ∧ (block) < 300 from ⟨by omega, by omega⟩) (show (block) < H528.1 11 12 0 from by omega) (show -1 ≤ (before) ∧ (before) < 32 from ⟨by omega, by omega⟩) k539 (show H528.2.2.1 79 0 ((n)) = 0 → (round) = H528.2.2.1 73 0 ((n)) from by omega) (show H528.2.2.1 79 0 ((n)) = 0 → H528.2.2.1 83 0 ((n)) ≤ 3 * H528.2.2.1 73 0 ((n)) + H528.2.2.1 74 0 ((n)) from by omega) (show H528.2.2.1 80 0 ((n)) = 0 from by omega) (show 0 ≤ (height) ∧ (height) ≤ 301 from ⟨by omega, by omega⟩) (show (n) < (16) from by omega)) ?_
                        rintro v w H550 ⟨rfl, hT551, ehE552, k553, k554, k555, k556, p557, p558, x548, rfl, r549⟩
                        have hE552 := jEx.trans ehE552 hE530 (by decide) (by decide)
                        have p557' : gW H550 (H550.1 11 19 0) := p557
                        have p558' : H528.1 11 19 0 ≤ H550.1 11 19 0 := p558
                        have r549' : (-1) ≤ x548 ∧ x548 ≤ 5999 := r549
                        have k559 : gP H550 := gP.ex k531 ehE552 (by decide)
                        have k560 : gX H550 := gX.ex k532 ehE552 (by decide)
                        have k561 : gL H550 := gL.ex k533 ehE552 (by decide)
                        have k562 : gZ H550 := gZ.ex k534 ehE552 (by decide)
                        have k563 : gQ H550 := gQ.ex k535 ehE552 (by decide)
                        have g564 : H550.1 11 12 0 = H528.1 11 12 0 := ehE552.v 12 (by decide)
                        have g565 : H550.2.2.1 79 0 (n) = H528.2.2.1 79 0 (n) := congrFun (ehE552.r 79 (by decide)) _
                        try dsimp only [Option.toList, List.append, List.cons_append, List.nil_append]
                        exact J.reti rfl rfl rfl ⟨_, rfl, rfl, hT551, hE552, k559, k560, k561, k562, k563, k553, k554, k555, p557, _, rfl, (show (-1) ≤ (x548) ∧ (x548) ≤ 5999 from ⟨by omega, by omega⟩)⟩
                      · have c566 : ¬ (H528.1 11 47 0 ≤ (0 : Int)) := hc
                        clear hc
                        refine J.run0 2 rfl ?_
                        try dsimp only
                        exact J.reti rfl rfl rfl ⟨_, rfl, rfl, hT529, hE530, k531, k532, k533, k534, k535, k536, k537, k538, k539, _, rfl, (show (-1) ≤ ((0 : Int)) ∧ ((0 : Int)) ≤ 5999 from ⟨by omega, by omega⟩)⟩
              · have c567 : ¬ ((0 : Int) = (0 : Int)) := hc
                clear hc
                exfalso
                omega
            · have c568 : ¬ (¬ (x397 = (0 : Int))) := hc
              clear hc
              refine J.run0 5 rfl ?_
              try dsimp only
              refine J.ifc rfl rfl rfl (show -2147483648 ≤ (1 : Int) ∧ (1 : Int) ≤ 2147483647 from ⟨by omega, by omega⟩) (fun hc => ?_) (fun hc => ?_)
              · have c569 : (1 : Int) = (0 : Int) := hc
                clear hc
                exfalso
                omega
              · have c570 : ¬ ((1 : Int) = (0 : Int)) := hc
                clear hc
                refine J.run0 3 rfl ?_
                try dsimp only
                refine J.gn fun H571 hH571 => ?_
                have hT572 : gT H571 := by rw [hH571]; exact gT.num (f := 47) hT (show 0 ≤ (1 : Int) ∧ (1 : Int) ≤ 3 from ⟨by omega, by omega⟩) (by decide) (fun z => absurd z (by decide))
                have hE573 : jEx [19, 47] [82, 83, 84, 80, 114, 71, 113, 85, 86, 87, 88, 89, 90, 91, 92, 93, 94, 63, 64, 65, 66, 67, 68, 70, 112] H571 H := by rw [hH571]; exact jEx.num hE (by decide)
                have k574 : gP H571 := by rw [hH571]; exact k0gP
                have k575 : gX H571 := by rw [hH571]; exact k0gX
                have k576 : gL H571 := by rw [hH571]; exact k0gL
                have k577 : gZ H571 := by rw [hH571]; exact k0gZ
                have k578 : gQ H571 := by rw [hH571]; exact k0gQ
                have k579 : gB H571 := by rw [hH571]; exact k0gB
                have k580 : gK H571 := by rw [hH571]; exact k0gK
                have k581 : gN H571 := by rw [hH571]; exact k0gN
                have k582 : gW H571 (H571.1 11 19 0) := by rw [hH571]; exact k0gW
                have g583 : H571.1 11 47 0 = (1 : Int) := by subst hH571; rfl
                have g584 : H571.1 11 12 0 = H.1 11 12 0 := by subst hH571; rfl
                have g585 : H571.1 11 19 0 = H.1 11 19 0 := by subst hH571; rfl
                have g586 : H571.2.2.1 79 0 (n) = H.2.2.1 79 0 (n) := by subst hH571; rfl
                have g587 : H571.2.2.1 80 0 (n) = H.2.2.1 80 0 (n) := by subst hH571; rfl
                clear hH571
                have f588 : 0 ≤ H571.1 11 47 0 ∧ H571.1 11 47 0 ≤ 3 := hT572.2.1 47
                refine J.run0 2 rfl ?_
                try dsimp only
                refine J.ifc rfl rfl rfl (show -2147483648 ≤ H571.1 11 47 0 ∧ H571.1 11 47 0 ≤ 2147483647 from ⟨by omega, by omega⟩) (fun hc => ?_) (fun hc => ?_)
                · have c589 : H571.1 11 47 0 ≤ (0 : Int) := hc
                  clear hc
                  have qd : H571.2.2.1 80 0 (n) = 1 → H571.2.2.1 79 0 (n) = 0 := fun z => (k579 n (by omega) (by omega) z).2
                  have qe : 0 ≤ H571.2.2.1 80 0 (n) ∧ H571.2.2.1 80 0 (n) ≤ 1 := hT572.1 80 n
                  refine J.run0 7 rfl ?_
                  try dsimp only
                  have f590 : 1 ≤ H571.1 11 12 0 ∧ H571.1 11 12 0 ≤ 300 := hT572.2.1 12
                  refine J.inv rfl rfl rfl rfl rfl rfl jDr rfl rfl rfl rfl rfl (g_sent_ (n := n) (kind := kind) (h := height) (r := round) (block := block) (before := before) (u := 16) hT572 k579 k580 k581 gU.triv (show 0 ≤ (n) ∧ (n) < 16 from ⟨by omega, by omega⟩) (show 0 ≤ (kind) ∧ (kind) ≤ 2 from ⟨by omega, by omega⟩) (show 0 ≤ (round) ∧ (round) < 32 from ⟨by omega, by omega⟩) (show -1 ≤ (block) ∧ (block) < 300 from ⟨by omega, by omega⟩) (show (block) < H571.1 11 12 0 from by omega) (show -1 ≤ (before) ∧ (before) < 32 from ⟨by omega, by omega⟩) k582 (show H571.2.2.1 79 0 ((n)) = 0 → (round) = H571.2.2.1 73 0 ((n)) from by omega) (show H571.2.2.1 79 0 ((n)) = 0 → H571.2.2.1 83 0 ((n)) ≤ 3 * H571.2.2.1 73 0 ((n)) + H571.2.2.1 74 0 ((n)) from by omega) (show H571.2.2.1 80 0 ((n)) = 0 from by omega) (show 0 ≤ (height) ∧ (height) ≤ 301 from ⟨by omega, by omega⟩) (show (n) < (16) from by omega)) ?_
                  rintro v w H593 ⟨rfl, hT594, ehE595, k596, k597, k598, k599, p600, p601, x591, rfl, r592⟩
                  have hE595 := jEx.trans ehE595 hE573 (by decide) (by decide)
                  have p600' : gW H593 (H593.1 11 19 0) := p600
                  have p601' : H571.1 11 19 0 ≤ H593.1 11 19 0 := p601
                  have r592' : (-1) ≤ x591 ∧ x591 ≤ 5999 := r592
                  have k602 : gP H593 := gP.ex k574 ehE595 (by decide)
                  have k603 : gX H593 := gX.ex k575 ehE595 (by decide)
                  have k604 : gL H593 := gL.ex k576 ehE595 (by decide)
                  have k605 : gZ H593 := gZ.ex k577 ehE595 (by decide)
                  have k606 : gQ H593 := gQ.ex k578 ehE595 (by decide)
                  have g607 : H593.1 11 12 0 = H571.1 11 12 0 := ehE595.v 12 (by decide)
                  have g608 : H593.2.2.1 79 0 (n) = H571.2.2.1 79 0 (n) := congrFun (ehE595.r 79 (by decide)) _
                  try dsimp only [Option.toList, List.append, List.cons_append, List.nil_append]
                  exact J.reti rfl rfl rfl ⟨_, rfl, rfl, hT594, hE595, k602, k603, k604, k605, k606, k596, k597, k598, p600, _, rfl, (show (-1) ≤ (x591) ∧ (x591) ≤ 5999 from ⟨by omega, by omega⟩)⟩
                · have c609 : ¬ (H571.1 11 47 0 ≤ (0 : Int)) := hc
                  clear hc
                  refine J.run0 2 rfl ?_
                  try dsimp only
                  exact J.reti rfl rfl rfl ⟨_, rfl, rfl, hT572, hE573, k574, k575, k576, k577, k578, k579, k580, k581, k582, _, rfl, (show (-1) ≤ ((0 : Int)) ∧ ((0 : Int)) ≤ 5999 from ⟨by omega, by omega⟩)⟩
end
