-- M: X11_isGood
section
variable {d : Nat} {w : jW} 
-- 
theorem g_isGood {n b : Int} {H : jH} (hT : gT H) (k0gP : gP H) (k0gX : gX H) (k0gL : gL H) (k0gZ : gZ H) (hp0 : 0 ≤ n ∧ n < 16) (hp1 : 0 ≤ b ∧ b < 300) (hp2 : b < H.1 11 12 0) : J true (d + 303) 135 w (0, jargs 0 [jT, .inl n, .inl b], [], H) (jN fun v w' H' => w' = w ∧ gT H' ∧ jEx [48, 56, 57] [108, 99, 100, 101, 105, 102, 103, 104, 61] H' H ∧ gP H' ∧ gX H' ∧ gL H' ∧ gZ H' ∧ ∃ x, v = some (.inl x) ∧ 0 ≤ x ∧ x ≤ 1 ∧ (x = 1 → H'.2.2.1 55 0 (b) = H'.2.2.1 72 0 (n))) := by
  have hE : jEx [48, 56, 57] [108, 99, 100, 101, 105, 102, 103, 104, 61] H H := jEx.refl _ _ _
  have f1 : -1 ≤ H.2.2.1 55 0 (b) ∧ H.2.2.1 55 0 (b) ≤ 299 := hT.1 55 (b)
  have f2 : 1 ≤ H.1 11 12 0 ∧ H.1 11 12 0 ≤ 300 := hT.2.1 12
  have f1b : H.2.2.1 55 0 (b) < H.1 11 12 0 := hT.2.2.1 55 (b) rfl
  have f1gP : (b = 0 → H.2.2.1 55 0 (b) = -1) ∧ (1 ≤ b → b < 300 → 0 ≤ H.2.2.1 55 0 (b) ∧ H.2.2.1 55 0 (b) < b) := ⟨fun z => by rw [z]; exact k0gP.1, fun z z' => k0gP.2.1 _ z z'⟩
  have f3 : 0 ≤ H.2.2.1 72 0 (n) ∧ H.2.2.1 72 0 (n) ≤ 299 := hT.1 72 (n)
  have f3b : H.2.2.1 72 0 (n) < H.1 11 12 0 := hT.2.2.1 72 (n) rfl
  refine J.run 8 rfl ⟨(show 0 ≤ b ∧ b < 300 from ⟨by omega, by omega⟩), (show 0 ≤ n ∧ n < 16 from ⟨by omega, by omega⟩)⟩ ?_
  try dsimp only
  refine J.icmp rfl rfl rfl ⟨(show -2147483648 ≤ H.2.2.1 55 0 (b) ∧ H.2.2.1 55 0 (b) ≤ 2147483647 from ⟨by omega, by omega⟩), (show -2147483648 ≤ H.2.2.1 72 0 (n) ∧ H.2.2.1 72 0 (n) ≤ 2147483647 from ⟨by omega, by omega⟩)⟩ (fun hc => ?_) (fun hc => ?_)
  · have c4 : ¬ (H.2.2.1 55 0 (b) = H.2.2.1 72 0 (n)) := hc
    clear hc
    refine J.run0 1 rfl ?_
    try dsimp only
    exact J.retb rfl rfl rfl (show (0 : Int) = 0 ∨ (0 : Int) = 1 by omega) ⟨_, rfl, rfl, hT, hE, k0gP, k0gX, k0gL, k0gZ, _, rfl, (show 0 ≤ ((0 : Int)) ∧ ((0 : Int)) ≤ 1 ∧ (((0 : Int)) = 1 → H.2.2.1 55 0 (b) = H.2.2.1 72 0 (n)) from ⟨by omega, by omega, by omega⟩)⟩
  · have c5 : ¬ (¬ (H.2.2.1 55 0 (b) = H.2.2.1 72 0 (n))) := hc
    clear hc
    refine J.run0 2 rfl ?_
    try dsimp only
    refine J.inv rfl rfl rfl rfl rfl rfl jDr rfl rfl rfl rfl rfl (g_isSound (b := b) hT k0gP k0gX k0gL k0gZ (show 0 ≤ (b) ∧ (b) < 300 from ⟨by omega, by omega⟩) (show (b) < H.1 11 12 0 from by omega)) ?_
    rintro v w H8 ⟨rfl, hT9, ehE10, k11, k12, k13, k14, x6, rfl, r7⟩
    have hE10 := jEx.trans ehE10 hE (by decide) (by decide)
    have r7' : 0 ≤ x6 ∧ x6 ≤ 1 := r7
    have g15 : H8.1 11 12 0 = H.1 11 12 0 := ehE10.v 12 (by decide)
    have g16 : H8.2.2.1 55 0 (b) = H.2.2.1 55 0 (b) := congrFun (ehE10.r 55 (by decide)) _
    have g17 : H8.2.2.1 72 0 (n) = H.2.2.1 72 0 (n) := congrFun (ehE10.r 72 (by decide)) _
    try dsimp only [Option.toList, List.append, List.cons_append, List.nil_append]
    refine J.ifc rfl rfl rfl (show -2147483648 ≤ x6 ∧ x6 ≤ 2147483647 from ⟨by omega, by omega⟩) (fun hc => ?_) (fun hc => ?_)
    · have c18 : x6 = (0 : Int) := hc
      clear hc
      refine J.run0 1 rfl ?_
      try dsimp only
      exact J.retb rfl rfl rfl (show (0 : Int) = 0 ∨ (0 : Int) = 1 by omega) ⟨_, rfl, rfl, hT9, hE10, k11, k12, k13, k14, _, rfl, (show 0 ≤ ((0 : Int)) ∧ ((0 : Int)) ≤ 1 ∧ (((0 : Int)) = 1 → H8.2.2.1 55 0 (b) = H8.2.2.1 72 0 (n)) from ⟨by omega, by omega, by omega⟩)⟩
    · have c19 : ¬ (x6 = (0 : Int)) := hc
      clear hc
      refine J.run0 2 rfl ?_
      try dsimp only
      exact J.retb rfl rfl rfl (show (1 : Int) = 0 ∨ (1 : Int) = 1 by omega) ⟨_, rfl, rfl, hT9, hE10, k11, k12, k13, k14, _, rfl, (show 0 ≤ ((1 : Int)) ∧ ((1 : Int)) ≤ 1 ∧ (((1 : Int)) = 1 → H8.2.2.1 55 0 (b) = H8.2.2.1 72 0 (n)) from ⟨by omega, by omega, by omega⟩)⟩
end
-- M: X11_sent_
section
variable {d : Nat} {w : jW} 
-- 
theorem g_sent_ {n kind h r block before u : Int} {H : jH} (hT : gT H) (k0gB : gB H) (k0gK : gK H) (k0gN : gN H) (k0gU : gU H u) (hp0 : 0 ≤ n ∧ n < 16) (hp1 : 0 ≤ kind ∧ kind ≤ 2) (hp2 : 0 ≤ r ∧ r < 32) (hp3 : -1 ≤ block ∧ block < 300) (hp4 : block < H.1 11 12 0) (hp5 : -1 ≤ before ∧ before < 32) (hp6 : gW H (H.1 11 19 0)) (hp7 : H.2.2.1 79 0 (n) = 0 → r = H.2.2.1 73 0 (n)) (hp8 : H.2.2.1 79 0 (n) = 0 → H.2.2.1 83 0 (n) ≤ 3 * H.2.2.1 73 0 (n) + H.2.2.1 74 0 (n)) (hp9 : H.2.2.1 80 0 (n) = 0) (hp10 : 0 ≤ h ∧ h ≤ 301) (hp11 : n < u) : J true (d + 3) 137 w (0, jargs 0 [jT, .inl n, .inl kind, .inl h, .inl r, .inl block, .inl before], [], H) (jN fun v w' H' => w' = w ∧ gT H' ∧ jEx [19] [82, 83, 84, 80, 114, 71, 113, 85, 86, 87, 88, 89, 90, 91, 92, 93, 94, 63, 64, 65, 66, 67, 68, 70, 112] H' H ∧ gB H' ∧ gK H' ∧ gN H' ∧ gU H' u ∧ (gW H' (H'.1 11 19 0)) ∧ (H.1 11 19 0 ≤ H'.1 11 19 0) ∧ ∃ x, v = some (.inl x) ∧ (-1) ≤ x ∧ x ≤ 5999) := by
  have qm : 0 ≤ H.1 11 19 0 ∧ H.1 11 19 0 ≤ 6000 := hT.2.1 19
  have qf : 0 ≤ H.2.2.1 79 0 (n) ∧ H.2.2.1 79 0 (n) ≤ 1 := hT.1 79 n
  have hE : jEx [19] [82, 83, 84, 80, 114, 71, 113, 85, 86, 87, 88, 89, 90, 91, 92, 93, 94, 63, 64, 65, 66, 67, 68, 70, 112] H H := jEx.refl _ _ _
  have f1 : 0 ≤ H.1 11 19 0 ∧ H.1 11 19 0 ≤ 6000 := hT.2.1 19
  refine J.run0 3 rfl ?_
  try dsimp only
  refine J.icmp rfl rfl rfl ⟨(show -2147483648 ≤ H.1 11 19 0 ∧ H.1 11 19 0 ≤ 2147483647 from ⟨by omega, by omega⟩), (show -2147483648 ≤ (6000 : Int) ∧ (6000 : Int) ≤ 2147483647 from ⟨by omega, by omega⟩)⟩ (fun hc => ?_) (fun hc => ?_)
  · have c2 : ¬ (H.1 11 19 0 = (6000 : Int)) := hc
    clear hc
    have f3 : 0 ≤ H.2.2.1 79 0 (n) ∧ H.2.2.1 79 0 (n) ≤ 1 := hT.1 79 (n)
    refine J.run 4 rfl (show 0 ≤ n ∧ n < 16 from ⟨by omega, by omega⟩) ?_
    try dsimp only
    refine J.ifc rfl rfl rfl (show -2147483648 ≤ H.2.2.1 79 0 (n) ∧ H.2.2.1 79 0 (n) ≤ 2147483647 from ⟨by omega, by omega⟩) (fun hc => ?_) (fun hc => ?_)
    · have c4 : ¬ (H.2.2.1 79 0 (n) = (0 : Int)) := hc
      clear hc
      refine J.run0 7 rfl ?_
      try dsimp only
      have f5 : 1 ≤ H.1 11 12 0 ∧ H.1 11 12 0 ≤ 300 := hT.2.1 12
      refine J.inv rfl rfl rfl rfl rfl rfl jDr rfl rfl rfl rfl rfl (g_spoken (n := n) (kind := kind) (h := h) (r := r) (block := block) (before := before) hT k0gB k0gK k0gN (show 0 ≤ (n) ∧ (n) < 16 from ⟨by omega, by omega⟩) (show 0 ≤ (kind) ∧ (kind) ≤ 2 from ⟨by omega, by omega⟩) (show 0 ≤ (h) ∧ (h) ≤ 301 from ⟨by omega, by omega⟩) (show 0 ≤ (r) ∧ (r) < 32 from ⟨by omega, by omega⟩) (show -1 ≤ (block) ∧ (block) < 300 from ⟨by omega, by omega⟩) (show (block) < H.1 11 12 0 from by omega) (show -1 ≤ (before) ∧ (before) < 32 from ⟨by omega, by omega⟩) (show H.1 11 19 0 < 6000 from by omega) (show H.2.2.1 80 0 ((n)) = 0 from by omega)) ?_
      rintro v w H8 ⟨rfl, hT9, ehE10, k11, k12, k13, p14, x6, rfl, r7⟩
      have hE10 := jEx.trans ehE10 hE (by decide) (by decide)
      have p14' : ∀ z, z ≠ 6000 * (n) + H.1 11 19 0 → H8.2.2.1 114 0 z = H.2.2.1 114 0 z := p14
      have r7' : x6 = H.1 11 19 0 ∧ 0 ≤ x6 ∧ x6 ≤ 5999 ∧ H8.1 11 19 0 = H.1 11 19 0 + 1 := r7
      have pL_spoken_0 := p14'
      have k15 : gU H8 u := gU.ex k0gU ehE10 (by decide)
      have g16 : H8.1 11 12 0 = H.1 11 12 0 := ehE10.v 12 (by decide)
      have g17 : H8.2.2.1 79 0 (n) = H.2.2.1 79 0 (n) := congrFun (ehE10.r 79 (by decide)) _
      have g18 : H8.2.2.1 73 0 (n) = H.2.2.1 73 0 (n) := congrFun (ehE10.r 73 (by decide)) _
      have g19 : H8.2.2.1 83 0 (n) = H.2.2.1 83 0 (n) := congrFun (ehE10.r 83 (by decide)) _
      have g20 : H8.2.2.1 74 0 (n) = H.2.2.1 74 0 (n) := congrFun (ehE10.r 74 (by decide)) _
      have g21 : H8.2.2.1 80 0 (n) = H.2.2.1 80 0 (n) := congrFun (ehE10.r 80 (by decide)) _
      have rL_spoken := r7'
      have eL_spoken := ehE10
      try dsimp only [Option.toList, List.append, List.cons_append, List.nil_append]
      exact J.reti rfl rfl rfl ⟨_, rfl, rfl, hT9, hE10, k11, k12, k13, k15, (show gW H8 (H8.1 11 19 0) by first | exact hp6 | (have g1 := gW.ex (rL_isRecorded.2.1 (by omega)) eL_spoken (by decide); rw [show H8.1 11 19 0 = H.1 11 19 0 + 1 by omega]; exact g1) | (have g1 := gW.mono (gW.ex hp6 eL_spoken (by decide)) (show H.1 11 19 0 ≤ H8.1 11 19 0 by omega); exact g1) | (rw [show H8.1 11 19 0 = H.1 11 19 0 by omega]; exact rL_isRecorded.2.2.1 (by omega))), (show H.1 11 19 0 ≤ H8.1 11 19 0 by omega), _, rfl, (show (-1) ≤ (x6) ∧ (x6) ≤ 5999 from ⟨by omega, by omega⟩)⟩
    · have c22 : ¬ (¬ (H.2.2.1 79 0 (n) = (0 : Int))) := hc
      clear hc
      refine J.run0 6 rfl ?_
      try dsimp only
      have f23 : 1 ≤ H.1 11 12 0 ∧ H.1 11 12 0 ≤ 300 := hT.2.1 12
      refine J.inv rfl rfl rfl rfl rfl rfl jDr rfl rfl rfl rfl rfl (g_isRecorded (n := n) (kind := kind) (r := r) (block := block) (before := before) (u := u) hT k0gK k0gN k0gU (show 0 ≤ (n) ∧ (n) < 16 from ⟨by omega, by omega⟩) (show 0 ≤ (kind) ∧ (kind) ≤ 2 from ⟨by omega, by omega⟩) (show (r) = H.2.2.1 73 0 ((n)) from by omega) (show -1 ≤ (block) ∧ (block) < 300 from ⟨by omega, by omega⟩) (show (block) < H.1 11 12 0 from by omega) (show -1 ≤ (before) ∧ (before) < 32 from ⟨by omega, by omega⟩) (show H.1 11 19 0 < 6000 from by omega) (show H.2.2.1 83 0 ((n)) ≤ 3 * H.2.2.1 73 0 ((n)) + H.2.2.1 74 0 ((n)) from by omega) (show gW H (H.1 11 19 0) from by omega) k0gB (show H.2.2.1 79 0 ((n)) = 0 from by omega) (show (n) < (u) from by omega)) ?_
      rintro v w H26 ⟨rfl, hT27, ehE28, k29, k30, k31, p32, x24, rfl, r25⟩
      have hE28 := jEx.trans ehE28 hE (by decide) (by decide)
      have p32' : gB H26 := p32
      have r25' : (x24 = 0 ∨ x24 = 1) ∧ (x24 = 1 → gW H26 (H.1 11 19 0 + 1)) ∧ (x24 = 0 → gW H26 (H.1 11 19 0)) ∧ (x24 = 1 → H26.2.2.1 80 0 ((n)) = H.2.2.1 80 0 ((n))) := r25
      have pL_isRecorded_0 := p32'
      have g33 : H26.1 11 12 0 = H.1 11 12 0 := ehE28.v 12 (by decide)
      have g34 : H26.1 11 19 0 = H.1 11 19 0 := ehE28.v 19 (by decide)
      have g35 : H26.2.2.1 79 0 (n) = H.2.2.1 79 0 (n) := congrFun (ehE28.r 79 (by decide)) _
      have g36 : H26.2.2.1 73 0 (n) = H.2.2.1 73 0 (n) := congrFun (ehE28.r 73 (by decide)) _
      have g37 : H26.2.2.1 74 0 (n) = H.2.2.1 74 0 (n) := congrFun (ehE28.r 74 (by decide)) _
      have rL_isRecorded := r25'
      have eL_isRecorded := ehE28
      try dsimp only [Option.toList, List.append, List.cons_append, List.nil_append]
      refine J.ifc rfl rfl rfl (show -2147483648 ≤ x24 ∧ x24 ≤ 2147483647 from ⟨by omega, by omega⟩) (fun hc => ?_) (fun hc => ?_)
      · have c38 : ¬ (x24 = (0 : Int)) := hc
        clear hc
        refine J.run0 7 rfl ?_
        try dsimp only
        have f39 : 1 ≤ H26.1 11 12 0 ∧ H26.1 11 12 0 ≤ 300 := hT27.2.1 12
        refine J.inv rfl rfl rfl rfl rfl rfl jDr rfl rfl rfl rfl rfl (g_spoken (n := n) (kind := kind) (h := h) (r := r) (block := block) (before := before) hT27 p32 k29 k30 (show 0 ≤ (n) ∧ (n) < 16 from ⟨by omega, by omega⟩) (show 0 ≤ (kind) ∧ (kind) ≤ 2 from ⟨by omega, by omega⟩) (show 0 ≤ (h) ∧ (h) ≤ 301 from ⟨by omega, by omega⟩) (show 0 ≤ (r) ∧ (r) < 32 from ⟨by omega, by omega⟩) (show -1 ≤ (block) ∧ (block) < 300 from ⟨by omega, by omega⟩) (show (block) < H26.1 11 12 0 from by omega) (show -1 ≤ (before) ∧ (before) < 32 from ⟨by omega, by omega⟩) (show H26.1 11 19 0 < 6000 from by omega) (show H26.2.2.1 80 0 ((n)) = 0 from by omega)) ?_
        rintro v w H42 ⟨rfl, hT43, ehE44, k45, k46, k47, p48, x40, rfl, r41⟩
        have hE44 := jEx.trans ehE44 hE28 (by decide) (by decide)
        have p48' : ∀ z, z ≠ 6000 * (n) + H26.1 11 19 0 → H42.2.2.1 114 0 z = H26.2.2.1 114 0 z := p48
        have r41' : x40 = H26.1 11 19 0 ∧ 0 ≤ x40 ∧ x40 ≤ 5999 ∧ H42.1 11 19 0 = H26.1 11 19 0 + 1 := r41
        have pL_spoken_0 := p48'
        have k49 : gU H42 u := gU.ex k31 ehE44 (by decide)
        have g50 : H42.1 11 12 0 = H26.1 11 12 0 := ehE44.v 12 (by decide)
        have g51 : H42.2.2.1 79 0 (n) = H26.2.2.1 79 0 (n) := congrFun (ehE44.r 79 (by decide)) _
        have g52 : H42.2.2.1 73 0 (n) = H26.2.2.1 73 0 (n) := congrFun (ehE44.r 73 (by decide)) _
        have g53 : H42.2.2.1 74 0 (n) = H26.2.2.1 74 0 (n) := congrFun (ehE44.r 74 (by decide)) _
        have g54 : H42.2.2.1 80 0 (n) = H26.2.2.1 80 0 (n) := congrFun (ehE44.r 80 (by decide)) _
        have rL_spoken := r41'
        have eL_spoken := ehE44
        try dsimp only [Option.toList, List.append, List.cons_append, List.nil_append]
        exact J.reti rfl rfl rfl ⟨_, rfl, rfl, hT43, hE44, k45, k46, k47, k49, (show gW H42 (H42.1 11 19 0) by first | exact hp6 | (have g1 := gW.ex (rL_isRecorded.2.1 (by omega)) eL_spoken (by decide); rw [show H42.1 11 19 0 = H.1 11 19 0 + 1 by omega]; exact g1) | (have g1 := gW.mono (gW.ex hp6 eL_spoken (by decide)) (show H.1 11 19 0 ≤ H42.1 11 19 0 by omega); exact g1) | (rw [show H42.1 11 19 0 = H.1 11 19 0 by omega]; exact rL_isRecorded.2.2.1 (by omega))), (show H.1 11 19 0 ≤ H42.1 11 19 0 by omega), _, rfl, (show (-1) ≤ (x40) ∧ (x40) ≤ 5999 from ⟨by omega, by omega⟩)⟩
      · have c55 : ¬ (¬ (x24 = (0 : Int))) := hc
        clear hc
        refine J.run0 1 rfl ?_
        try dsimp only
        exact J.reti rfl rfl rfl ⟨_, rfl, rfl, hT27, hE28, p32, k29, k30, k31, (show gW H26 (H26.1 11 19 0) by first | exact hp6 | (have g1 := gW.ex (rL_isRecorded.2.1 (by omega)) eL_spoken (by decide); rw [show H26.1 11 19 0 = H.1 11 19 0 + 1 by omega]; exact g1) | (have g1 := gW.mono (gW.ex hp6 eL_spoken (by decide)) (show H.1 11 19 0 ≤ H26.1 11 19 0 by omega); exact g1) | (rw [show H26.1 11 19 0 = H.1 11 19 0 by omega]; exact rL_isRecorded.2.2.1 (by omega))), (show H.1 11 19 0 ≤ H26.1 11 19 0 by omega), _, rfl, (show (-1) ≤ ((-1 : Int)) ∧ ((-1 : Int)) ≤ 5999 from ⟨by omega, by omega⟩)⟩
  · have c56 : ¬ (¬ (H.1 11 19 0 = (6000 : Int))) := hc
    clear hc
    refine J.run0 1 rfl ?_
    try dsimp only
    exact J.reti rfl rfl rfl ⟨_, rfl, rfl, hT, hE, k0gB, k0gK, k0gN, k0gU, (show gW H (H.1 11 19 0) by first | exact hp6 | (have g1 := gW.ex (rL_isRecorded.2.1 (by omega)) eL_spoken (by decide); rw [show H.1 11 19 0 = H.1 11 19 0 + 1 by omega]; exact g1) | (have g1 := gW.mono (gW.ex hp6 eL_spoken (by decide)) (show H.1 11 19 0 ≤ H.1 11 19 0 by omega); exact g1) | (rw [show H.1 11 19 0 = H.1 11 19 0 by omega]; exact rL_isRecorded.2.2.1 (by omega))), (show H.1 11 19 0 ≤ H.1 11 19 0 by omega), _, rfl, (show (-1) ≤ ((-1 : Int)) ∧ ((-1 : Int)) ≤ 5999 from ⟨by omega, by omega⟩)⟩
end
-- M: X11_height
section
variable {d : Nat} {w : jW} {H : jH}
-- 
theorem g_heightE {n : Int} (hT : gT H)  (hp0 : 0 ≤ n ∧ n < 16) : J true d 126 w (0, jargs 0 [jT, .inl n], [], H) (jN fun v w' H' => w' = w ∧ H' = H ∧ ∃ x, v = some (.inl x) ∧ x = H.2.2.1 56 0 (H.2.2.1 72 0 (n)) + 1 ∧ 1 ≤ x ∧ x ≤ 301) := by
  have f1 : 0 ≤ H.2.2.1 72 0 (n) ∧ H.2.2.1 72 0 (n) ≤ 299 := hT.1 72 (n)
  have f2 : 1 ≤ H.1 11 12 0 ∧ H.1 11 12 0 ≤ 300 := hT.2.1 12
  have f1b : H.2.2.1 72 0 (n) < H.1 11 12 0 := hT.2.2.1 72 (n) rfl
  have f3 : 0 ≤ H.2.2.1 56 0 (H.2.2.1 72 0 (n)) ∧ H.2.2.1 56 0 (H.2.2.1 72 0 (n)) ≤ 300 := hT.1 56 (H.2.2.1 72 0 (n))
  refine J.run 9 rfl ⟨(show 0 ≤ n ∧ n < 16 from ⟨by omega, by omega⟩), (show 0 ≤ H.2.2.1 72 0 (n) ∧ H.2.2.1 72 0 (n) < 300 from ⟨by omega, by omega⟩)⟩ ?_
  try dsimp only
  exact J.reti rfl rfl rfl ⟨_, rfl, rfl, rfl, _, rfl, (show ((H.2.2.1 56 0 (H.2.2.1 72 0 (n))) + (1 : Int)) = H.2.2.1 56 0 (H.2.2.1 72 0 (n)) + 1 ∧ 1 ≤ ((H.2.2.1 56 0 (H.2.2.1 72 0 (n))) + (1 : Int)) ∧ ((H.2.2.1 56 0 (H.2.2.1 72 0 (n))) + (1 : Int)) ≤ 301 from ⟨by omega, by omega, by omega⟩)⟩
end
-- M: X11_sent
section
variable {d : Nat} {w : jW} 
-- 
theorem g_sent {n kind r block before u : Int} {H : jH} (hT : gT H) (k0gB : gB H) (k0gK : gK H) (k0gN : gN H) (k0gU : gU H u) (hp0 : 0 ≤ n ∧ n < 16) (hp1 : 0 ≤ kind ∧ kind ≤ 2) (hp2 : 0 ≤ r ∧ r < 32) (hp3 : -1 ≤ block ∧ block < 300) (hp4 : block < H.1 11 12 0) (hp5 : -1 ≤ before ∧ before < 32) (hp6 : gW H (H.1 11 19 0)) (hp7 : H.2.2.1 79 0 (n) = 0 → r = H.2.2.1 73 0 (n)) (hp8 : H.2.2.1 79 0 (n) = 0 → H.2.2.1 83 0 (n) ≤ 3 * H.2.2.1 73 0 (n) + H.2.2.1 74 0 (n)) (hp9 : H.2.2.1 80 0 (n) = 0) (hp10 : n < u) : J true (d + 4) 136 w (0, jargs 0 [jT, .inl n, .inl kind, .inl r, .inl block, .inl before], [], H) (jN fun v w' H' => w' = w ∧ gT H' ∧ jEx [19] [82, 83, 84, 80, 114, 71, 113, 85, 86, 87, 88, 89, 90, 91, 92, 93, 94, 63, 64, 65, 66, 67, 68, 70, 112] H' H ∧ gB H' ∧ gK H' ∧ gN H' ∧ gU H' u ∧ (gW H' (H'.1 11 19 0)) ∧ (H.1 11 19 0 ≤ H'.1 11 19 0) ∧ ∃ x, v = some (.inl x) ∧ (-1) ≤ x ∧ x ≤ 5999) := by
  have hE : jEx [19] [82, 83, 84, 80, 114, 71, 113, 85, 86, 87, 88, 89, 90, 91, 92, 93, 94, 63, 64, 65, 66, 67, 68, 70, 112] H H := jEx.refl _ _ _
  refine J.run0 5 rfl ?_
  try dsimp only
  refine J.inv rfl rfl rfl rfl rfl rfl jDr rfl rfl rfl rfl rfl (g_heightE (n := n) hT  (show 0 ≤ (n) ∧ (n) < 16 from ⟨by omega, by omega⟩)) ?_
  rintro v w H ⟨rfl, rfl, x1, rfl, r2⟩
  have r2' : x1 = H.2.2.1 56 0 (H.2.2.1 72 0 ((n))) + 1 ∧ 1 ≤ x1 ∧ x1 ≤ 301 := r2
  have rL_heightE := r2'
  try dsimp only [Option.toList, List.append, List.cons_append, List.nil_append]
  refine J.run0 3 rfl ?_
  try dsimp only
  have f3 : 1 ≤ H.1 11 12 0 ∧ H.1 11 12 0 ≤ 300 := hT.2.1 12
  refine J.inv rfl rfl rfl rfl rfl rfl jDr rfl rfl rfl rfl rfl (g_sent_ (n := n) (kind := kind) (h := x1) (r := r) (block := block) (before := before) (u := u) hT k0gB k0gK k0gN k0gU (show 0 ≤ (n) ∧ (n) < 16 from ⟨by omega, by omega⟩) (show 0 ≤ (kind) ∧ (kind) ≤ 2 from ⟨by omega, by omega⟩) (show 0 ≤ (r) ∧ (r) < 32 from ⟨by omega, by omega⟩) (show -1 ≤ (block) ∧ (block) < 300 from ⟨by omega, by omega⟩) (show (block) < H.1 11 12 0 from by omega) (show -1 ≤ (before) ∧ (before) < 32 from ⟨by omega, by omega⟩) (show gW H (H.1 11 19 0) from by omega) (show H.2.2.1 79 0 ((n)) = 0 → (r) = H.2.2.1 73 0 ((n)) from by omega) (show H.2.2.1 79 0 ((n)) = 0 → H.2.2.1 83 0 ((n)) ≤ 3 * H.2.2.1 73 0 ((n)) + H.2.2.1 74 0 ((n)) from by omega) (show H.2.2.1 80 0 ((n)) = 0 from by omega) (show 0 ≤ (x1) ∧ (x1) ≤ 301 from ⟨by omega, by omega⟩) (show (n) < (u) from by omega)) ?_
  rintro v w H6 ⟨rfl, hT7, ehE8, k9, k10, k11, k12, p13, p14, x4, rfl, r5⟩
  have hE8 := jEx.trans ehE8 hE (by decide) (by decide)
  have p13' : gW H6 (H6.1 11 19 0) := p13
  have p14' : H.1 11 19 0 ≤ H6.1 11 19 0 := p14
  have r5' : (-1) ≤ x4 ∧ x4 ≤ 5999 := r5
  have pL_sent__0 := p13'
  have pL_sent__1 := p14'
  have g15 : H6.1 11 12 0 = H.1 11 12 0 := ehE8.v 12 (by decide)
  have rL_sent_ := r5'
  have eL_sent_ := ehE8
  try dsimp only [Option.toList, List.append, List.cons_append, List.nil_append]
  exact J.reti rfl rfl rfl ⟨_, rfl, rfl, hT7, hE8, k9, k10, k11, k12, (show gW H6 (H6.1 11 19 0) by assumption), (show H.1 11 19 0 ≤ H6.1 11 19 0 by omega), _, rfl, (show (-1) ≤ (x4) ∧ (x4) ≤ 5999 from ⟨by omega, by omega⟩)⟩
end
