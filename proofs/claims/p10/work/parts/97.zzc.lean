-- M: X11_first
section
variable {d : Nat} {w : jW} 
-- 
theorem g_firstI_l0 {H0 : jH}  : ∀ (m : Nat), (∀ (i : Int) (H : jH) (lv : jL), 10000 - i < (m : Int) → (0 ≤ i ∧ i ≤ 200) → (∀ j, 0 ≤ j → j < i → H.2.2.1 99 0 j = 1000) → gT H → jEx [56, 57] [99, 100, 101, 105] H H0 → (lv = [(1, .inl i), (0, jT)]) → J true d 115 w (2, lv, [], H) (jN fun v w' H' => w' = w ∧ gT H' ∧ jEx [56, 57] [99, 100, 101, 105] H' H0 ∧ (gL H') ∧ v = none)) ∧ (∀ (i : Int) (H : jH) (lv : jL), 5000 - i < (m : Int) → (0 ≤ i ∧ i ≤ 3200) → (∀ j, 0 ≤ j → j < 200 → H.2.2.1 99 0 j = 1000) → (∀ j, 0 ≤ j → j < i → H.2.2.1 100 0 j = 0) → gT H → jEx [56, 57] [99, 100, 101, 105] H H0 → (lv = [(1, .inl i), (0, jT)]) → J true d 115 w (26, lv, [], H) (jN fun v w' H' => w' = w ∧ gT H' ∧ jEx [56, 57] [99, 100, 101, 105] H' H0 ∧ (gL H') ∧ v = none)) ∧ (∀ (i : Int) (H : jH) (lv : jL), 16 - i < (m : Int) → (0 ≤ i ∧ i ≤ 16) → (∀ j, 0 ≤ j → j < 200 → H.2.2.1 99 0 j = 1000) → (∀ j, 0 ≤ j → j < 3200 → H.2.2.1 100 0 j = gdg i j) → gT H → jEx [56, 57] [99, 100, 101, 105] H H0 → (lv = [(1, .inl i), (0, jT)]) → J true d 115 w (48, lv, [], H) (jN fun v w' H' => w' = w ∧ gT H' ∧ jEx [56, 57] [99, 100, 101, 105] H' H0 ∧ (gL H') ∧ v = none)) := by
  intro m
  induction m with
  | zero =>
    refine ⟨?_, ?_, ?_⟩
    · intro i H lv hm hi0 hi1 hT hE hlv
      exfalso
      omega
    · intro i H lv hm hi0 hi1 hi2 hT hE hlv
      exfalso
      omega
    · intro i H lv hm hi0 hi1 hi2 hT hE hlv
      exfalso
      omega
  | succ m ih =>
    refine ⟨?_, ?_, ?_⟩
    · intro i H lv hm hi0 hi1 hT hE hlv
      rcases hlv with rfl
      refine J.run0 2 rfl ?_
      try dsimp only
      refine J.icmp rfl rfl rfl ⟨(show -2147483648 ≤ i ∧ i ≤ 2147483647 from ⟨by omega, by omega⟩), (show -2147483648 ≤ (200 : Int) ∧ (200 : Int) ≤ 2147483647 from ⟨by omega, by omega⟩)⟩ (fun hc => ?_) (fun hc => ?_)
      · have c1 : (200 : Int) ≤ i := hc
        clear hc
        refine J.run0 2 rfl ?_
        try dsimp only
        exact ih.2.1 ((0 : Int)) H _ (show 5000 - ((0 : Int)) < _ by omega) (show 0 ≤ ((0 : Int)) ∧ ((0 : Int)) ≤ 3200 from ⟨by omega, by omega⟩) (show ∀ j, 0 ≤ j → j < 200 → H.2.2.1 99 0 j = 1000 from (by first | (rw [rC]; exact hi1) | exact (fun j h1 h2 => hi1 j h1 (by omega)))) (show ∀ j, 0 ≤ j → j < ((0 : Int)) → H.2.2.1 100 0 j = 0 from (by first | exact (fun j h1 h2 => absurd h2 (by omega)) | (rw [rO]; exact gfill hi2))) hT hE  rfl
      · have c2 : ¬ ((200 : Int) ≤ i) := hc
        clear hc
        refine J.run 5 rfl (show 0 ≤ i ∧ i < 200 from ⟨by omega, by omega⟩) ?_
        try dsimp only
        refine J.gn fun H3 hH3 => ?_
        have hT4 : gT H3 := by rw [hH3]; exact gT.upd hT (show 0 ≤ (1000 : Int) ∧ (1000 : Int) ≤ 201600 from ⟨by omega, by omega⟩) (fun z => absurd z (by decide))
        have hE5 : jEx [56, 57] [99, 100, 101, 105] H3 H0 := by rw [hH3]; exact jEx.row hE (by decide)
        have rB : H3.2.2.1 99 0 = jup (H.2.2.1 99 0) (i) ((1000 : Int)) := by subst hH3; first | rfl | (dsimp only; exact jsetR_eq)
        have g6 : H3.2.2.1 99 0 (i) = (1000 : Int) := by subst hH3; exact if_pos rfl
        have g7 : H3.1 11 12 0 = H.1 11 12 0 := by subst hH3; rfl
        clear hH3
        refine J.run0 2 rfl ?_
        try dsimp only
        exact ih.1 (i + 1) H3 _ (show 10000 - (i + 1) < _ by omega) (show 0 ≤ (i + 1) ∧ (i + 1) ≤ 200 from ⟨by omega, by omega⟩) (show ∀ j, 0 ≤ j → j < (i + 1) → H3.2.2.1 99 0 j = 1000 from (by first | exact (fun j h1 h2 => absurd h2 (by omega)) | (rw [rB]; exact gfill hi1))) hT4 hE5  rfl
    · intro i H lv hm hi0 hi1 hi2 hT hE hlv
      rcases hlv with rfl
      refine J.run0 2 rfl ?_
      try dsimp only
      refine J.icmp rfl rfl rfl ⟨(show -2147483648 ≤ i ∧ i ≤ 2147483647 from ⟨by omega, by omega⟩), (show -2147483648 ≤ (3200 : Int) ∧ (3200 : Int) ≤ 2147483647 from ⟨by omega, by omega⟩)⟩ (fun hc => ?_) (fun hc => ?_)
      · have c8 : (3200 : Int) ≤ i := hc
        clear hc
        refine J.run0 2 rfl ?_
        try dsimp only
        exact ih.2.2 ((0 : Int)) H _ (show 16 - ((0 : Int)) < _ by omega) (show 0 ≤ ((0 : Int)) ∧ ((0 : Int)) ≤ 16 from ⟨by omega, by omega⟩) (show ∀ j, 0 ≤ j → j < 200 → H.2.2.1 99 0 j = 1000 from (by first | (rw [rJ.1, rP.1, rC]; exact hi1) | exact hi1)) (show ∀ j, 0 ≤ j → j < 3200 → H.2.2.1 100 0 j = gdg ((0 : Int)) j from (by first | (rw [rJ.2, rP.2, rO]; exact gdiag ⟨by omega, by omega⟩ hi2) | exact (fun j h1 h2 => (hi2 j h1 (by omega)).trans (by unfold gdg; rw [if_neg (by omega)])))) hT hE  rfl
      · have c9 : ¬ ((3200 : Int) ≤ i) := hc
        clear hc
        refine J.run 5 rfl (show 0 ≤ i ∧ i < 3200 from ⟨by omega, by omega⟩) ?_
        try dsimp only
        refine J.gn fun H10 hH10 => ?_
        have hT11 : gT H10 := by rw [hH10]; exact gT.upd hT (show 0 ≤ (0 : Int) ∧ (0 : Int) ≤ 201600 from ⟨by omega, by omega⟩) (fun z => absurd z (by decide))
        have hE12 : jEx [56, 57] [99, 100, 101, 105] H10 H0 := by rw [hH10]; exact jEx.row hE (by decide)
        have rO : H10.2.2.1 100 0 = jup (H.2.2.1 100 0) (i) ((0 : Int)) := by subst hH10; first | rfl | (dsimp only; exact jsetR_eq)
        have rC : H10.2.2.1 99 0 = H.2.2.1 99 0 := by subst hH10; rfl
        have g13 : H10.2.2.1 100 0 (i) = (0 : Int) := by subst hH10; exact if_pos rfl
        have g14 : H10.1 11 12 0 = H.1 11 12 0 := by subst hH10; rfl
        clear hH10
        refine J.run0 2 rfl ?_
        try dsimp only
        exact ih.2.1 (i + 1) H10 _ (show 5000 - (i + 1) < _ by omega) (show 0 ≤ (i + 1) ∧ (i + 1) ≤ 3200 from ⟨by omega, by omega⟩) (show ∀ j, 0 ≤ j → j < 200 → H10.2.2.1 99 0 j = 1000 from (by first | (rw [rC]; exact hi1) | exact (fun j h1 h2 => hi1 j h1 (by omega)))) (show ∀ j, 0 ≤ j → j < (i + 1) → H10.2.2.1 100 0 j = 0 from (by first | exact (fun j h1 h2 => absurd h2 (by omega)) | (rw [rO]; exact gfill hi2))) hT11 hE12  rfl
    · intro i H lv hm hi0 hi1 hi2 hT hE hlv
      rcases hlv with rfl
      refine J.run0 2 rfl ?_
      try dsimp only
      refine J.icmp rfl rfl rfl ⟨(show -2147483648 ≤ i ∧ i ≤ 2147483647 from ⟨by omega, by omega⟩), (show -2147483648 ≤ (16 : Int) ∧ (16 : Int) ≤ 2147483647 from ⟨by omega, by omega⟩)⟩ (fun hc => ?_) (fun hc => ?_)
      · have c15 : (16 : Int) ≤ i := hc
        clear hc
        refine J.run0 3 rfl ?_
        try dsimp only
        refine J.gn fun H16 hH16 => ?_
        have hT17 : gT H16 := by rw [hH16]; exact gT.num (f := 56) hT (show 0 ≤ (0 : Int) ∧ (0 : Int) ≤ 32 from ⟨by omega, by omega⟩) (by decide) (fun z => absurd z (by decide))
        have hE18 : jEx [56, 57] [99, 100, 101, 105] H16 H0 := by rw [hH16]; exact jEx.num hE (by decide)
        have rR : H16.2.2.1 99 0 = H.2.2.1 99 0 ∧ H16.2.2.1 100 0 = H.2.2.1 100 0 := by subst hH16; exact ⟨rfl, rfl⟩
        have g19 : H16.1 11 56 0 = (0 : Int) := by subst hH16; rfl
        have g20 : H16.1 11 12 0 = H.1 11 12 0 := by subst hH16; rfl
        clear hH16
        refine J.run0 3 rfl ?_
        try dsimp only
        refine J.gn fun H21 hH21 => ?_
        have hT22 : gT H21 := by rw [hH21]; exact gT.num (f := 57) hT17 (show 0 ≤ (0 : Int) ∧ (0 : Int) ≤ 201600 from ⟨by omega, by omega⟩) (by decide) (fun z => absurd z (by decide))
        have hE23 : jEx [56, 57] [99, 100, 101, 105] H21 H0 := by rw [hH21]; exact jEx.num hE18 (by decide)
        have qL : gL H21 := by subst hH21; exact gFirst (by rw [rR.1]; exact hi1) (by rw [rR.2]; exact (fun j h1 h2 => (hi2 j h1 h2).trans (by rw [show i = 16 by omega]))) (by omega)
        have g24 : H21.1 11 57 0 = (0 : Int) := by subst hH21; rfl
        have g25 : H21.1 11 12 0 = H16.1 11 12 0 := by subst hH21; rfl
        clear hH21
        exact J.retv rfl rfl rfl ⟨_, rfl, rfl, hT22, hE23, (show gL H21 by exact qL), rfl⟩
      · have c26 : ¬ ((16 : Int) ≤ i) := hc
        clear hc
        refine J.run 9 rfl (show 0 ≤ ((16 : Int) * i) + i ∧ ((16 : Int) * i) + i < 3200 from ⟨by omega, by omega⟩) ?_
        try dsimp only
        refine J.gn fun H27 hH27 => ?_
        have hT28 : gT H27 := by rw [hH27]; exact gT.upd hT (show 0 ≤ (100 : Int) ∧ (100 : Int) ≤ 201600 from ⟨by omega, by omega⟩) (fun z => absurd z (by decide))
        have hE29 : jEx [56, 57] [99, 100, 101, 105] H27 H0 := by rw [hH27]; exact jEx.row hE (by decide)
        have rO : H27.2.2.1 100 0 = jup (H.2.2.1 100 0) (((16 : Int) * i) + i) ((100 : Int)) := by subst hH27; first | rfl | (dsimp only; exact jsetR_eq)
        have rC : H27.2.2.1 99 0 = H.2.2.1 99 0 := by subst hH27; rfl
        have g30 : H27.2.2.1 100 0 (((16 : Int) * i) + i) = (100 : Int) := by subst hH27; exact if_pos rfl
        have g31 : H27.1 11 12 0 = H.1 11 12 0 := by subst hH27; rfl
        clear hH27
        refine J.run 5 rfl (show 0 ≤ i ∧ i < 16 from ⟨by omega, by omega⟩) ?_
        try dsimp only
        refine J.gn fun H32 hH32 => ?_
        have hT33 : gT H32 := by rw [hH32]; exact gT.upd hT28 (show 0 ≤ (0 : Int) ∧ (0 : Int) ≤ 301 from ⟨by omega, by omega⟩) (fun z => absurd z (by decide))
        have hE34 : jEx [56, 57] [99, 100, 101, 105] H32 H0 := by rw [hH32]; exact jEx.row hE29 (by decide)
        have rP : H32.2.2.1 99 0 = H27.2.2.1 99 0 ∧ H32.2.2.1 100 0 = H27.2.2.1 100 0 := by subst hH32; exact ⟨rfl, rfl⟩
        have g35 : H32.2.2.1 101 0 (i) = (0 : Int) := by subst hH32; exact if_pos rfl
        have g36 : H32.1 11 12 0 = H27.1 11 12 0 := by subst hH32; rfl
        have g37 : H32.2.2.1 100 0 (((16 : Int) * i) + i) = H27.2.2.1 100 0 (((16 : Int) * i) + i) := by subst hH32; rfl
        clear hH32
        refine J.run 5 rfl (show ((0 : Int) = 0 ∨ (0 : Int) = 1) ∧ 0 ≤ i ∧ i < 16 from ⟨by omega, by omega, by omega⟩) ?_
        try dsimp only
        refine J.gn fun H38 hH38 => ?_
        have hT39 : gT H38 := by rw [hH38]; exact gT.upd hT33 (show 0 ≤ (0 : Int) ∧ (0 : Int) ≤ 1 from ⟨by omega, by omega⟩) (fun z => absurd z (by decide))
        have hE40 : jEx [56, 57] [99, 100, 101, 105] H38 H0 := by rw [hH38]; exact jEx.row hE34 (by decide)
        have rJ : H38.2.2.1 99 0 = H32.2.2.1 99 0 ∧ H38.2.2.1 100 0 = H32.2.2.1 100 0 := by subst hH38; exact ⟨rfl, rfl⟩
        have g41 : H38.2.2.1 105 0 (i) = (0 : Int) := by subst hH38; exact if_pos rfl
        have g42 : H38.1 11 12 0 = H32.1 11 12 0 := by subst hH38; rfl
        have g43 : H38.2.2.1 101 0 (i) = H32.2.2.1 101 0 (i) := by subst hH38; rfl
        have g44 : H38.2.2.1 100 0 (((16 : Int) * i) + i) = H32.2.2.1 100 0 (((16 : Int) * i) + i) := by subst hH38; rfl
        clear hH38
        refine J.run0 2 rfl ?_
        try dsimp only
        exact ih.2.2 (i + 1) H38 _ (show 16 - (i + 1) < _ by omega) (show 0 ≤ (i + 1) ∧ (i + 1) ≤ 16 from ⟨by omega, by omega⟩) (show ∀ j, 0 ≤ j → j < 200 → H38.2.2.1 99 0 j = 1000 from (by first | (rw [rJ.1, rP.1, rC]; exact hi1) | exact hi1)) (show ∀ j, 0 ≤ j → j < 3200 → H38.2.2.1 100 0 j = gdg (i + 1) j from (by first | (rw [rJ.2, rP.2, rO]; exact gdiag ⟨by omega, by omega⟩ hi2) | exact (fun j h1 h2 => (hi2 j h1 (by omega)).trans (by unfold gdg; rw [if_neg (by omega)])))) hT39 hE40  rfl
-- 
theorem g_firstI {H : jH} (hT : gT H)   : J true d 115 w (0, jargs 0 [jT], [], H) (jN fun v w' H' => w' = w ∧ gT H' ∧ jEx [56, 57] [99, 100, 101, 105] H' H ∧ (gL H') ∧ v = none) := by
  have hE : jEx [56, 57] [99, 100, 101, 105] H H := jEx.refl _ _ _
  refine J.run0 2 rfl ?_
  try dsimp only
  exact (g_firstI_l0 (H0 := H)    ((10000 - ((0 : Int)) : Int).toNat + 1)).1 ((0 : Int)) H _ (show 10000 - ((0 : Int)) < _ by omega) (show 0 ≤ ((0 : Int)) ∧ ((0 : Int)) ≤ 200 from ⟨by omega, by omega⟩) (show ∀ j, 0 ≤ j → j < ((0 : Int)) → H.2.2.1 99 0 j = 1000 from (by first | exact (fun j h1 h2 => absurd h2 (by omega)) | (rw [rB]; exact gfill hi1))) hT hE  rfl
end
-- M: X11_state
section
variable {d : Nat} {w : jW} 
-- 
theorem g_stateI {b : Int} {H : jH} (hT : gT H) (k0gP : gP H) (k0gX : gX H) (hp0 : b = 0) (hp1 : H.1 11 48 0 = -1) : J true (d + 2) 116 w (0, jargs 0 [jT, .inl b], [], H) (jN fun v w' H' => w' = w ∧ gT H' ∧ jEx [48, 56, 57] [108, 99, 100, 101, 105, 102, 103, 104] H' H ∧ gP H' ∧ gX H' ∧ (gL H') ∧ v = none) := by
  have hE : jEx [48, 56, 57] [108, 99, 100, 101, 105, 102, 103, 104] H H := jEx.refl _ _ _
  have f1 : -1 ≤ H.1 11 48 0 ∧ H.1 11 48 0 ≤ 299 := hT.2.1 48
  have f2 : 1 ≤ H.1 11 12 0 ∧ H.1 11 12 0 ≤ 300 := hT.2.1 12
  have f1b : H.1 11 48 0 < H.1 11 12 0 := hT.2.2.2 48 rfl
  refine J.run0 3 rfl ?_
  try dsimp only
  refine J.icmp rfl rfl rfl ⟨(show -2147483648 ≤ H.1 11 48 0 ∧ H.1 11 48 0 ≤ 2147483647 from ⟨by omega, by omega⟩), (show -2147483648 ≤ b ∧ b ≤ 2147483647 from ⟨by omega, by omega⟩)⟩ (fun hc => ?_) (fun hc => ?_)
  · have c3 : ¬ (H.1 11 48 0 = b) := hc
    clear hc
    refine J.run0 5 rfl ?_
    try dsimp only
    refine J.ifc rfl rfl rfl (show -2147483648 ≤ b ∧ b ≤ 2147483647 from ⟨by omega, by omega⟩) (fun hc => ?_) (fun hc => ?_)
    · have c4 : b ≤ (0 : Int) := hc
      clear hc
      refine J.run0 1 rfl ?_
      try dsimp only
      refine J.inv rfl rfl rfl rfl rfl rfl jDr rfl rfl rfl rfl rfl (g_firstI  hT  ) ?_
      rintro v w H7 ⟨rfl, hT8, ehE9, p10, rfl⟩
      have hE9 := jEx.trans ehE9 hE (by decide) (by decide)
      have p10' : gL H7 := p10
      have k11 : gP H7 := gP.ex k0gP ehE9 (by decide)
      have k12 : gX H7 := gX.ex k0gX ehE9 (by decide)
      have g13 : H7.1 11 12 0 = H.1 11 12 0 := ehE9.v 12 (by decide)
      have g14 : H7.1 11 48 0 = H.1 11 48 0 := ehE9.v 48 (by decide)
      try dsimp only [Option.toList, List.append, List.cons_append, List.nil_append]
      refine J.run0 5 rfl ?_
      try dsimp only
      refine J.ifc rfl rfl rfl (show -2147483648 ≤ (0 : Int) - (1 : Int) ∧ (0 : Int) - (1 : Int) ≤ 2147483647 from ⟨by omega, by omega⟩) (fun hc => ?_) (fun hc => ?_)
      · have c15 : (0 : Int) - (1 : Int) < (0 : Int) := hc
        clear hc
        refine J.run0 3 rfl ?_
        try dsimp only
        refine J.gn fun H16 hH16 => ?_
        have hT17 : gT H16 := by rw [hH16]; exact gT.num (f := 48) hT8 (show -1 ≤ b ∧ b ≤ 299 from ⟨by omega, by omega⟩) (by decide) (fun _ => show b < H7.1 11 12 0 by omega)
        have hE18 : jEx [48, 56, 57] [108, 99, 100, 101, 105, 102, 103, 104] H16 H := by rw [hH16]; exact jEx.num hE9 (by decide)
        have k19 : gP H16 := by rw [hH16]; exact k11
        have k20 : gX H16 := by rw [hH16]; exact k12
        have k21 : gL H16 := by rw [hH16]; exact p10
        have g22 : H16.1 11 48 0 = b := by subst hH16; rfl
        have g23 : H16.1 11 12 0 = H7.1 11 12 0 := by subst hH16; rfl
        clear hH16
        exact J.retv rfl rfl rfl ⟨_, rfl, rfl, hT17, hE18, k19, k20, (show gL H16 by exact k21), rfl⟩
      · have c24 : ¬ ((0 : Int) - (1 : Int) < (0 : Int)) := hc
        clear hc
        exfalso; omega
    · have c25 : ¬ (b ≤ (0 : Int)) := hc
      clear hc
      exfalso; omega
  · have c26 : ¬ (¬ (H.1 11 48 0 = b)) := hc
    clear hc
    exfalso; omega
end
-- M: X11_init
section
variable {d : Nat} {w : jW} 
set_option maxRecDepth 20000 in
set_option maxHeartbeats 8000000 in
theorem g_init3_l0 {j1 : Int} {H0 : jH} (hp0 : gU H0 0) : ∀ (m : Nat), (∀ (k : Int) (H : jH) (lv : jL), 16 - k < (m : Int) → (0 ≤ k ∧ k ≤ 16) → (gU H k) → gT H → jEx [19, 12, 48, 56, 57] [60, 56, 59, 58, 55, 57, 61, 99, 100, 77, 78, 82, 80, 114, 115, 81, 105, 71, 70, 72, 75, 76, 68, 67, 65, 63, 64, 66, 112, 113, 108, 110, 101, 102, 103, 104, 83, 73, 74, 84, 111, 89, 88, 93, 94, 86, 91, 92, 85, 87, 90] H H0 → gP H → gX H → gL H → gZ H → gQ H → gB H → gK H → gN H → gW H (H.1 11 19 0) → (lv = [(1, .inl k), (0, jT)]) → J true (d + 306) 113 w (610, lv, [], H) (jN fun v w' H' => w' = w ∧ gT H' ∧ jEx [19, 12, 48, 56, 57] [60, 56, 59, 58, 55, 57, 61, 99, 100, 77, 78, 82, 80, 114, 115, 81, 105, 71, 70, 72, 75, 76, 68, 67, 65, 63, 64, 66, 112, 113, 108, 110, 101, 102, 103, 104, 83, 73, 74, 84, 111, 89, 88, 93, 94, 86, 91, 92, 85, 87, 90] H' H0 ∧ gP H' ∧ gX H' ∧ gL H' ∧ gZ H' ∧ gQ H' ∧ gB H' ∧ gK H' ∧ gN H' ∧ gW H' (H'.1 11 19 0) ∧ v = none)) := by
  intro m
  induction m with
  | zero =>
    skip
    · intro k H lv hm hi0 hi1 hT hE k0gP k0gX k0gL k0gZ k0gQ k0gB k0gK k0gN k0gW hlv
      exfalso
      omega
  | succ m ih =>
    skip
    · intro k H lv hm hi0 hi1 hT hE k0gP k0gX k0gL k0gZ k0gQ k0gB k0gK k0gN k0gW hlv
      rcases hlv with rfl
      refine J.run0 2 rfl ?_
      try dsimp only
      refine J.icmp rfl rfl rfl ⟨(show -2147483648 ≤ k ∧ k ≤ 2147483647 from ⟨by omega, by omega⟩), (show -2147483648 ≤ (16 : Int) ∧ (16 : Int) ≤ 2147483647 from ⟨by omega, by omega⟩)⟩ (fun hc => ?_) (fun hc => ?_)
      · have c1 : (16 : Int) ≤ k := hc
        clear hc
        exact J.retv rfl rfl rfl ⟨_, rfl, rfl, hT, hE, k0gP, k0gX, k0gL, k0gZ, k0gQ, k0gB, k0gK, k0gN, k0gW, rfl⟩
      · have c2 : ¬ ((16 : Int) ≤ k) := hc
        clear hc
        have k3 : gU H (k + 1) := gU.up hi1
        have qu := hi1 k (by omega) (by omega) (by omega)
        refine J.run0 3 rfl ?_
        try dsimp only
        refine J.inv rfl rfl rfl rfl rfl rfl jDr rfl rfl rfl rfl rfl (g_begins (n := k) (q := (0 : Int)) (u := k + 1) hT k0gP k0gX k0gL k0gZ k0gQ k0gB k0gK k0gN k0gW k3 (show 0 ≤ (k) ∧ (k) < 16 from ⟨by omega, by omega⟩) (show 0 ≤ ((0 : Int)) ∧ ((0 : Int)) < 32 from ⟨by omega, by omega⟩) (show H.2.2.1 83 0 ((k)) ≤ 3 * ((0 : Int)) from by omega) (show H.2.2.1 80 0 ((k)) = 0 from by omega) (show (k) < (k + 1) from by omega)) ?_
        rintro v w H6 ⟨rfl, hT7, ehE8, k9, k10, k11, k12, k13, k14, k15, k16, k17, k18, p19, p20, rfl⟩
        have hE8 := jEx.trans ehE8 hE (by decide) (by decide)
        have p19' : 192 * H.2.2.1 56 0 (H.2.2.1 72 0 ((k))) + 6 * ((0 : Int)) ≤ 192 * H6.2.2.1 56 0 (H6.2.2.1 72 0 ((k))) + 6 * H6.2.2.1 73 0 ((k)) + 2 * H6.2.2.1 74 0 ((k)) + H6.2.2.1 115 0 ((k)) := p19
        have p20' : H.1 11 19 0 ≤ H6.1 11 19 0 := p20
        try dsimp only [Option.toList, List.append, List.cons_append, List.nil_append]
        refine J.run0 2 rfl ?_
        try dsimp only
        refine J.inv rfl rfl rfl rfl rfl rfl jDr rfl rfl rfl rfl rfl (g_act (n := k) (u := k + 1) hT7 k9 k10 k11 k12 k13 k14 k15 k16 k17 k18 (show 0 ≤ (k) ∧ (k) < 16 from ⟨by omega, by omega⟩) (show (k) < (k + 1) from by omega)) ?_
        rintro v w H23 ⟨rfl, hT24, ehE25, k26, k27, k28, k29, k30, k31, k32, k33, k34, k35, p36, rfl⟩
        have hE25 := jEx.trans ehE25 hE8 (by decide) (by decide)
        have p36' : H6.1 11 19 0 ≤ H23.1 11 19 0 := p36
        try dsimp only [Option.toList, List.append, List.cons_append, List.nil_append]
        refine J.run0 2 rfl ?_
        try dsimp only
        exact ih (k + 1) H23 _ (show 16 - (k + 1) < _ by omega) (show 0 ≤ (k + 1) ∧ (k + 1) ≤ 16 from ⟨by omega, by omega⟩) (show gU H23 (k + 1) from (by first | exact hp0 | assumption)) hT24 hE25 k26 k27 k28 k29 k30 k31 k32 k33 k34 rfl
set_option maxRecDepth 20000 in
set_option maxHeartbeats 8000000 in
theorem g_init3 {j1 : Int} {H : jH} (hT : gT H) (k0gP : gP H) (k0gX : gX H) (k0gL : gL H) (k0gZ : gZ H) (k0gQ : gQ H) (k0gB : gB H) (k0gK : gK H) (k0gN : gN H) (k0gW : gW H (H.1 11 19 0)) (hp0 : gU H 0) : J true (d + 306) 113 w (608, [(1, .inl j1), (0, jT)], [], H) (jN fun v w' H' => w' = w ∧ gT H' ∧ jEx [19, 12, 48, 56, 57] [60, 56, 59, 58, 55, 57, 61, 99, 100, 77, 78, 82, 80, 114, 115, 81, 105, 71, 70, 72, 75, 76, 68, 67, 65, 63, 64, 66, 112, 113, 108, 110, 101, 102, 103, 104, 83, 73, 74, 84, 111, 89, 88, 93, 94, 86, 91, 92, 85, 87, 90] H' H ∧ gP H' ∧ gX H' ∧ gL H' ∧ gZ H' ∧ gQ H' ∧ gB H' ∧ gK H' ∧ gN H' ∧ gW H' (H'.1 11 19 0) ∧ v = none) := by
  have hE : jEx [19, 12, 48, 56, 57] [60, 56, 59, 58, 55, 57, 61, 99, 100, 77, 78, 82, 80, 114, 115, 81, 105, 71, 70, 72, 75, 76, 68, 67, 65, 63, 64, 66, 112, 113, 108, 110, 101, 102, 103, 104, 83, 73, 74, 84, 111, 89, 88, 93, 94, 86, 91, 92, 85, 87, 90] H H := jEx.refl _ _ _
  refine J.run0 2 rfl ?_
  try dsimp only
  exact (g_init3_l0 (H0 := H) (j1 := j1)  hp0 ((16 - ((0 : Int)) : Int).toNat + 1)) ((0 : Int)) H _ (show 16 - ((0 : Int)) < _ by omega) (show 0 ≤ ((0 : Int)) ∧ ((0 : Int)) ≤ 16 from ⟨by omega, by omega⟩) (show gU H ((0 : Int)) from (by first | exact hp0 | assumption)) hT hE k0gP k0gX k0gL k0gZ k0gQ k0gB k0gK k0gN k0gW rfl
end
-- M: X11_init
section
variable {d : Nat} {w : jW} 
set_option maxRecDepth 20000 in
set_option maxHeartbeats 8000000 in
theorem g_init1_l0 {H0 : jH} (hp0 : H0.1 11 48 0 = -1) : ∀ (m : Nat), (∀ (k : Int) (H : jH) (lv : jL), 16 - k < (m : Int) → (0 ≤ k ∧ k ≤ 16) → gT H → jEx [19, 12, 48, 56, 57] [60, 56, 59, 58, 55, 57, 61, 99, 100, 77, 78, 82, 80, 114, 115, 81, 105, 71, 70, 72, 75, 76, 68, 67, 65, 63, 64, 66, 112, 113, 108, 110, 101, 102, 103, 104, 83, 73, 74, 84, 111, 89, 88, 93, 94, 86, 91, 92, 85, 87, 90, 82, 60] H H0 → gP H → gX H → gL H → gZ H → gQ H → gB H → gK H → gN H → gW H (H.1 11 19 0) → gU H 0 → (lv = [(1, .inl k), (0, jT)]) → J true (d + 306) 113 w (555, lv, [], H) (jN fun v w' H' => w' = w ∧ gT H' ∧ jEx [19, 12, 48, 56, 57] [60, 56, 59, 58, 55, 57, 61, 99, 100, 77, 78, 82, 80, 114, 115, 81, 105, 71, 70, 72, 75, 76, 68, 67, 65, 63, 64, 66, 112, 113, 108, 110, 101, 102, 103, 104, 83, 73, 74, 84, 111, 89, 88, 93, 94, 86, 91, 92, 85, 87, 90, 82, 60] H' H0 ∧ gP H' ∧ gX H' ∧ gL H' ∧ gZ H' ∧ gQ H' ∧ gB H' ∧ gK H' ∧ gN H' ∧ gW H' (H'.1 11 19 0) ∧ v = none)) := by
  intro m
  induction m with
  | zero =>
    skip
    · intro k H lv hm hi0 hT hE k0gP k0gX k0gL k0gZ k0gQ k0gB k0gK k0gN k0gW k0gU0 hlv
      exfalso
      omega
  | succ m ih =>
    skip
    · intro k H lv hm hi0 hT hE k0gP k0gX k0gL k0gZ k0gQ k0gB k0gK k0gN k0gW k0gU0 hlv
      rcases hlv with rfl
      refine J.run0 2 rfl ?_
      try dsimp only
      refine J.icmp rfl rfl rfl ⟨(show -2147483648 ≤ k ∧ k ≤ 2147483647 from ⟨by omega, by omega⟩), (show -2147483648 ≤ (16 : Int) ∧ (16 : Int) ≤ 2147483647 from ⟨by omega, by omega⟩)⟩ (fun hc => ?_) (fun hc => ?_)
      · have c1 : (16 : Int) ≤ k := hc
        clear hc
        exact J.post (g_init3 hT k0gP k0gX k0gL k0gZ k0gQ k0gB k0gK k0gN k0gW k0gU0) (by rintro o w' H' ⟨v, rfl, rfl, a1, a2, a3⟩; exact ⟨_, rfl, rfl, a1, jEx.trans a2 hE (by decide) (by decide), a3⟩)
      · have c2 : ¬ ((16 : Int) ≤ k) := hc
        clear hc
        refine J.run 5 rfl (show 0 ≤ k ∧ k < 16 from ⟨by omega, by omega⟩) ?_
        try dsimp only
        refine J.gn fun H3 hH3 => ?_
        have hT4 : gT H3 := by rw [hH3]; exact gT.upd hT (show -1 ≤ (-1 : Int) ∧ (-1 : Int) ≤ 299 from ⟨by omega, by omega⟩) (fun z => absurd z (by decide))
        have hE5 : jEx [19, 12, 48, 56, 57] [60, 56, 59, 58, 55, 57, 61, 99, 100, 77, 78, 82, 80, 114, 115, 81, 105, 71, 70, 72, 75, 76, 68, 67, 65, 63, 64, 66, 112, 113, 108, 110, 101, 102, 103, 104, 83, 73, 74, 84, 111, 89, 88, 93, 94, 86, 91, 92, 85, 87, 90, 82, 60] H3 H0 := by rw [hH3]; exact jEx.row hE (by decide)
        have k6 : gP H3 := by rw [hH3]; exact k0gP
        have k7 : gX H3 := by rw [hH3]; exact k0gX
        have k8 : gL H3 := by rw [hH3]; exact k0gL
        have k9 : gZ H3 := by rw [hH3]; exact k0gZ
        have k10 : gQ H3 := by rw [hH3]; exact k0gQ
        have k11 : gB H3 := by rw [hH3]; exact k0gB
        have k12 : gK H3 := by rw [hH3]; exact k0gK
        have k13 : gN H3 := by rw [hH3]; exact k0gN
        have k14 : gW H3 (H3.1 11 19 0) := by rw [hH3]; exact k0gW
        have k15 : gU H3 0 := by rw [hH3]; exact k0gU0
        have g16 : H3.2.2.1 75 0 (k) = (-1 : Int) := by subst hH3; exact if_pos rfl
        have g17 : H3.1 11 12 0 = H.1 11 12 0 := by subst hH3; rfl
        have g18 : H3.1 11 19 0 = H.1 11 19 0 := by subst hH3; rfl
        have g19 : H3.1 11 48 0 = H.1 11 48 0 := by subst hH3; rfl
        clear hH3
        refine J.run 5 rfl (show 0 ≤ k ∧ k < 16 from ⟨by omega, by omega⟩) ?_
        try dsimp only
        refine J.gn fun H20 hH20 => ?_
        have hT21 : gT H20 := by rw [hH20]; exact gT.upd hT4 (show -1 ≤ (-1 : Int) ∧ (-1 : Int) ≤ 31 from ⟨by omega, by omega⟩) (fun z => absurd z (by decide))
        have hE22 : jEx [19, 12, 48, 56, 57] [60, 56, 59, 58, 55, 57, 61, 99, 100, 77, 78, 82, 80, 114, 115, 81, 105, 71, 70, 72, 75, 76, 68, 67, 65, 63, 64, 66, 112, 113, 108, 110, 101, 102, 103, 104, 83, 73, 74, 84, 111, 89, 88, 93, 94, 86, 91, 92, 85, 87, 90, 82, 60] H20 H0 := by rw [hH20]; exact jEx.row hE5 (by decide)
        have k23 : gP H20 := by rw [hH20]; exact k6
        have k24 : gX H20 := by rw [hH20]; exact k7
        have k25 : gL H20 := by rw [hH20]; exact k8
        have k26 : gZ H20 := by rw [hH20]; exact k9
        have k27 : gQ H20 := by rw [hH20]; exact k10
        have k28 : gB H20 := by rw [hH20]; exact k11
        have k29 : gK H20 := by rw [hH20]; exact k12
        have k30 : gN H20 := by rw [hH20]; exact k13
        have k31 : gW H20 (H20.1 11 19 0) := by rw [hH20]; exact k14
        have k32 : gU H20 0 := by rw [hH20]; exact k15
        have g33 : H20.2.2.1 76 0 (k) = (-1 : Int) := by subst hH20; exact if_pos rfl
        have g34 : H20.1 11 12 0 = H3.1 11 12 0 := by subst hH20; rfl
        have g35 : H20.1 11 19 0 = H3.1 11 19 0 := by subst hH20; rfl
        have g36 : H20.1 11 48 0 = H3.1 11 48 0 := by subst hH20; rfl
        have g37 : H20.2.2.1 75 0 (k) = H3.2.2.1 75 0 (k) := by subst hH20; rfl
        clear hH20
        have f38 : 1 ≤ H20.1 11 12 0 ∧ H20.1 11 12 0 ≤ 300 := hT21.2.1 12
        refine J.run 5 rfl (show 0 ≤ k ∧ k < 16 from ⟨by omega, by omega⟩) ?_
        try dsimp only
        refine J.gn fun H39 hH39 => ?_
        have hT40 : gT H39 := by rw [hH39]; exact gT.upd hT21 (show -1 ≤ (-1 : Int) ∧ (-1 : Int) ≤ 299 from ⟨by omega, by omega⟩) (fun _ => show (-1 : Int) < H20.1 11 12 0 by omega)
        have hE41 : jEx [19, 12, 48, 56, 57] [60, 56, 59, 58, 55, 57, 61, 99, 100, 77, 78, 82, 80, 114, 115, 81, 105, 71, 70, 72, 75, 76, 68, 67, 65, 63, 64, 66, 112, 113, 108, 110, 101, 102, 103, 104, 83, 73, 74, 84, 111, 89, 88, 93, 94, 86, 91, 92, 85, 87, 90, 82, 60] H39 H0 := by rw [hH39]; exact jEx.row hE22 (by decide)
        have k42 : gP H39 := by rw [hH39]; exact k23
        have k43 : gX H39 := by rw [hH39]; exact k24
        have k44 : gL H39 := by rw [hH39]; exact k25
        have k45 : gZ H39 := by rw [hH39]; exact k26
        have k46 : gQ H39 := by rw [hH39]; exact k27
        have k47 : gB H39 := by rw [hH39]; exact k28
        have k48 : gK H39 := by rw [hH39]; exact k29
        have k49 : gN H39 := by rw [hH39]; exact k30
        have k50 : gW H39 (H39.1 11 19 0) := by rw [hH39]; exact k31
        have k51 : gU H39 0 := by rw [hH39]; exact k32
        have g52 : H39.2.2.1 77 0 (k) = (-1 : Int) := by subst hH39; exact if_pos rfl
        have g53 : H39.1 11 12 0 = H20.1 11 12 0 := by subst hH39; rfl
        have g54 : H39.1 11 19 0 = H20.1 11 19 0 := by subst hH39; rfl
        have g55 : H39.1 11 48 0 = H20.1 11 48 0 := by subst hH39; rfl
        have g56 : H39.2.2.1 76 0 (k) = H20.2.2.1 76 0 (k) := by subst hH39; rfl
        have g57 : H39.2.2.1 75 0 (k) = H20.2.2.1 75 0 (k) := by subst hH39; rfl
        clear hH39
        refine J.run 5 rfl (show 0 ≤ k ∧ k < 16 from ⟨by omega, by omega⟩) ?_
        try dsimp only
        refine J.gn fun H58 hH58 => ?_
        have hT59 : gT H58 := by rw [hH58]; exact gT.upd hT40 (show -1 ≤ (-1 : Int) ∧ (-1 : Int) ≤ 31 from ⟨by omega, by omega⟩) (fun z => absurd z (by decide))
        have hE60 : jEx [19, 12, 48, 56, 57] [60, 56, 59, 58, 55, 57, 61, 99, 100, 77, 78, 82, 80, 114, 115, 81, 105, 71, 70, 72, 75, 76, 68, 67, 65, 63, 64, 66, 112, 113, 108, 110, 101, 102, 103, 104, 83, 73, 74, 84, 111, 89, 88, 93, 94, 86, 91, 92, 85, 87, 90, 82, 60] H58 H0 := by rw [hH58]; exact jEx.row hE41 (by decide)
        have k61 : gP H58 := by rw [hH58]; exact k42
        have k62 : gX H58 := by rw [hH58]; exact k43
        have k63 : gL H58 := by rw [hH58]; exact k44
        have k64 : gZ H58 := by rw [hH58]; exact k45
        have k65 : gQ H58 := by rw [hH58]; exact k46
        have k66 : gB H58 := by rw [hH58]; exact k47
        have k67 : gK H58 := by rw [hH58]; exact k48
        have k68 : gN H58 := by rw [hH58]; exact k49
        have k69 : gW H58 (H58.1 11 19 0) := by rw [hH58]; exact k50
        have k70 : gU H58 0 := by rw [hH58]; exact k51
        have g71 : H58.2.2.1 78 0 (k) = (-1 : Int) := by subst hH58; exact if_pos rfl
        have g72 : H58.1 11 12 0 = H39.1 11 12 0 := by subst hH58; rfl
        have g73 : H58.1 11 19 0 = H39.1 11 19 0 := by subst hH58; rfl
        have g74 : H58.1 11 48 0 = H39.1 11 48 0 := by subst hH58; rfl
        have g75 : H58.2.2.1 77 0 (k) = H39.2.2.1 77 0 (k) := by subst hH58; rfl
        have g76 : H58.2.2.1 76 0 (k) = H39.2.2.1 76 0 (k) := by subst hH58; rfl
        have g77 : H58.2.2.1 75 0 (k) = H39.2.2.1 75 0 (k) := by subst hH58; rfl
        clear hH58
        refine J.run 5 rfl (show 0 ≤ k ∧ k < 16 from ⟨by omega, by omega⟩) ?_
        try dsimp only
        refine J.gn fun H78 hH78 => ?_
        have hT79 : gT H78 := by rw [hH78]; exact gT.upd hT59 (show 0 ≤ (13 : Int) ∧ (13 : Int) ≤ 13 from ⟨by omega, by omega⟩) (fun z => absurd z (by decide))
        have hE80 : jEx [19, 12, 48, 56, 57] [60, 56, 59, 58, 55, 57, 61, 99, 100, 77, 78, 82, 80, 114, 115, 81, 105, 71, 70, 72, 75, 76, 68, 67, 65, 63, 64, 66, 112, 113, 108, 110, 101, 102, 103, 104, 83, 73, 74, 84, 111, 89, 88, 93, 94, 86, 91, 92, 85, 87, 90, 82, 60] H78 H0 := by rw [hH78]; exact jEx.row hE60 (by decide)
        have k81 : gP H78 := by rw [hH78]; exact k61
        have k82 : gX H78 := by rw [hH78]; exact k62
        have k83 : gL H78 := by rw [hH78]; exact k63
        have k84 : gZ H78 := by rw [hH78]; exact k64
        have k85 : gQ H78 := by rw [hH78]; exact k65
        have k86 : gB H78 := by rw [hH78]; exact k66
        have k87 : gK H78 := by rw [hH78]; exact k67
        have k88 : gN H78 := by rw [hH78]; exact k68
        have k89 : gW H78 (H78.1 11 19 0) := by rw [hH78]; exact k69
        have k90 : gU H78 0 := by rw [hH78]; exact k70
        have g91 : H78.2.2.1 82 0 (k) = (13 : Int) := by subst hH78; exact if_pos rfl
        have g92 : H78.1 11 12 0 = H58.1 11 12 0 := by subst hH78; rfl
        have g93 : H78.1 11 19 0 = H58.1 11 19 0 := by subst hH78; rfl
        have g94 : H78.1 11 48 0 = H58.1 11 48 0 := by subst hH78; rfl
        have g95 : H78.2.2.1 78 0 (k) = H58.2.2.1 78 0 (k) := by subst hH78; rfl
        have g96 : H78.2.2.1 77 0 (k) = H58.2.2.1 77 0 (k) := by subst hH78; rfl
        have g97 : H78.2.2.1 76 0 (k) = H58.2.2.1 76 0 (k) := by subst hH78; rfl
        have g98 : H78.2.2.1 75 0 (k) = H58.2.2.1 75 0 (k) := by subst hH78; rfl
        clear hH78
        refine J.run0 2 rfl ?_
        try dsimp only
        refine J.inv rfl rfl rfl rfl rfl rfl jDr rfl rfl rfl rfl rfl (g_set (n := k) hT79 k81 k82 k83 (show 0 ≤ (k) ∧ (k) < 16 from ⟨by omega, by omega⟩) k85 k87) ?_
        rintro v w H101 ⟨rfl, hT102, ehE103, k104, k105, k106, p107, p108, rfl⟩
        have hE103 := jEx.trans ehE103 hE80 (by decide) (by decide)
        have p107' : gQ H101 := p107
        have p108' : gK H101 := p108
        have k109 : gZ H101 := gZ.ex k84 ehE103 (by decide)
        have k110 : gB H101 := gB.ex k86 ehE103 (by decide)
        have k111 : gN H101 := gN.ex k88 ehE103 (by decide)
        have k112 : gW H101 (H101.1 11 19 0) := gWm.ex k89 ehE103 (by decide)
        have k113 : gU H101 0 := gU.ex k90 ehE103 (by decide)
        have g114 : H101.1 11 12 0 = H78.1 11 12 0 := ehE103.v 12 (by decide)
        have g115 : H101.1 11 19 0 = H78.1 11 19 0 := ehE103.v 19 (by decide)
        have g116 : H101.2.2.1 82 0 (k) = H78.2.2.1 82 0 (k) := congrFun (ehE103.r 82 (by decide)) _
        have g117 : H101.2.2.1 78 0 (k) = H78.2.2.1 78 0 (k) := congrFun (ehE103.r 78 (by decide)) _
        have g118 : H101.2.2.1 77 0 (k) = H78.2.2.1 77 0 (k) := congrFun (ehE103.r 77 (by decide)) _
        have g119 : H101.2.2.1 76 0 (k) = H78.2.2.1 76 0 (k) := congrFun (ehE103.r 76 (by decide)) _
        have g120 : H101.2.2.1 75 0 (k) = H78.2.2.1 75 0 (k) := congrFun (ehE103.r 75 (by decide)) _
        try dsimp only [Option.toList, List.append, List.cons_append, List.nil_append]
        refine J.run0 2 rfl ?_
        try dsimp only
        exact ih (k + 1) H101 _ (show 16 - (k + 1) < _ by omega) (show 0 ≤ (k + 1) ∧ (k + 1) ≤ 16 from ⟨by omega, by omega⟩) hT102 hE103 k104 k105 k106 k109 p107 k110 p108 k111 k112 k113 rfl
set_option maxRecDepth 20000 in
set_option maxHeartbeats 8000000 in
theorem g_init1_l1 {H0 : jH} (hp0 : H0.1 11 48 0 = -1) : ∀ (m : Nat), (∀ (k : Int) (H : jH) (lv : jL), 16 - k < (m : Int) → (0 ≤ k ∧ k ≤ 16) → gT H → jEx [19, 12, 48, 56, 57] [60, 56, 59, 58, 55, 57, 61, 99, 100, 77, 78, 82, 80, 114, 115, 81, 105, 71, 70, 72, 75, 76, 68, 67, 65, 63, 64, 66, 112, 113, 108, 110, 101, 102, 103, 104, 83, 73, 74, 84, 111, 89, 88, 93, 94, 86, 91, 92, 85, 87, 90, 82, 60] H H0 → gP H → gX H → gL H → gZ H → gQ H → gB H → gK H → gN H → gW H (H.1 11 19 0) → gU H 0 → (lv = [(1, .inl k), (0, jT)]) → J true (d + 306) 113 w (530, lv, [], H) (jN fun v w' H' => w' = w ∧ gT H' ∧ jEx [19, 12, 48, 56, 57] [60, 56, 59, 58, 55, 57, 61, 99, 100, 77, 78, 82, 80, 114, 115, 81, 105, 71, 70, 72, 75, 76, 68, 67, 65, 63, 64, 66, 112, 113, 108, 110, 101, 102, 103, 104, 83, 73, 74, 84, 111, 89, 88, 93, 94, 86, 91, 92, 85, 87, 90, 82, 60] H' H0 ∧ gP H' ∧ gX H' ∧ gL H' ∧ gZ H' ∧ gQ H' ∧ gB H' ∧ gK H' ∧ gN H' ∧ gW H' (H'.1 11 19 0) ∧ v = none)) := by
  intro m
  induction m with
  | zero =>
    skip
    · intro k H lv hm hi0 hT hE k0gP k0gX k0gL k0gZ k0gQ k0gB k0gK k0gN k0gW k0gU0 hlv
      exfalso
      omega
  | succ m ih =>
    skip
    · intro k H lv hm hi0 hT hE k0gP k0gX k0gL k0gZ k0gQ k0gB k0gK k0gN k0gW k0gU0 hlv
      rcases hlv with rfl
      refine J.run0 2 rfl ?_
      try dsimp only
      refine J.icmp rfl rfl rfl ⟨(show -2147483648 ≤ k ∧ k ≤ 2147483647 from ⟨by omega, by omega⟩), (show -2147483648 ≤ (16 : Int) ∧ (16 : Int) ≤ 2147483647 from ⟨by omega, by omega⟩)⟩ (fun hc => ?_) (fun hc => ?_)
      · have c121 : (16 : Int) ≤ k := hc
        clear hc
        refine J.run0 2 rfl ?_
        try dsimp only
        exact (g_init1_l0 (H0 := H0)   hp0 ((16 - ((0 : Int)) : Int).toNat + 1)) ((0 : Int)) H _ (show 16 - ((0 : Int)) < _ by omega) (show 0 ≤ ((0 : Int)) ∧ ((0 : Int)) ≤ 16 from ⟨by omega, by omega⟩) hT hE k0gP k0gX k0gL k0gZ k0gQ k0gB k0gK k0gN k0gW k0gU0 rfl
      · have c122 : ¬ ((16 : Int) ≤ k) := hc
        clear hc
        refine J.run0 5 rfl ?_
        try dsimp only
        refine J.inv rfl rfl rfl rfl rfl rfl jDr rfl rfl rfl rfl rfl (g_powerOf (n := k) hT  (show 0 ≤ (k) ∧ (k) < 16 from ⟨by omega, by omega⟩)) ?_
        rintro v w H ⟨rfl, rfl, x123, rfl, r124⟩
        have r124' : x123 = gpow H ((k)) ∧ 0 ≤ x123 ∧ x123 ≤ 40320000 := r124
        try dsimp only [Option.toList, List.append, List.cons_append, List.nil_append]
        refine J.run 1 rfl (show 0 ≤ k ∧ k < 4800 from ⟨by omega, by omega⟩) ?_
        try dsimp only
        refine J.gn fun H125 hH125 => ?_
        have hT126 : gT H125 := by rw [hH125]; exact gT.upd hT (show 0 ≤ x123 ∧ x123 ≤ 40320000 from ⟨by omega, by omega⟩) (fun z => absurd z (by decide))
        have hE127 : jEx [19, 12, 48, 56, 57] [60, 56, 59, 58, 55, 57, 61, 99, 100, 77, 78, 82, 80, 114, 115, 81, 105, 71, 70, 72, 75, 76, 68, 67, 65, 63, 64, 66, 112, 113, 108, 110, 101, 102, 103, 104, 83, 73, 74, 84, 111, 89, 88, 93, 94, 86, 91, 92, 85, 87, 90, 82, 60] H125 H0 := by rw [hH125]; exact jEx.row hE (by decide)
        have k128 : gP H125 := by rw [hH125]; exact k0gP
        have k129 : gX H125 := by rw [hH125]; exact k0gX
        have k130 : gL H125 := by rw [hH125]; exact k0gL
        have k131 : gZ H125 := by rw [hH125]; exact k0gZ
        have k132 : gQ H125 := by rw [hH125]; exact k0gQ
        have k133 : gB H125 := by rw [hH125]; exact k0gB
        have k134 : gK H125 := by rw [hH125]; exact k0gK
        have k135 : gN H125 := by rw [hH125]; exact k0gN
        have k136 : gW H125 (H125.1 11 19 0) := by rw [hH125]; exact k0gW
        have k137 : gU H125 0 := by rw [hH125]; exact k0gU0
        have g138 : H125.2.2.1 60 0 (k) = x123 := by subst hH125; exact if_pos rfl
        have g139 : H125.1 11 12 0 = H.1 11 12 0 := by subst hH125; rfl
        have g140 : H125.1 11 19 0 = H.1 11 19 0 := by subst hH125; rfl
        have g141 : H125.1 11 48 0 = H.1 11 48 0 := by subst hH125; rfl
        clear hH125
        refine J.run0 2 rfl ?_
        try dsimp only
        exact ih (k + 1) H125 _ (show 16 - (k + 1) < _ by omega) (show 0 ≤ (k + 1) ∧ (k + 1) ≤ 16 from ⟨by omega, by omega⟩) hT126 hE127 k128 k129 k130 k131 k132 k133 k134 k135 k136 k137 rfl
set_option maxRecDepth 20000 in
set_option maxHeartbeats 8000000 in
theorem g_init1 {H : jH} (hT : gT H) (k0gP : gP H) (k0gX : gX H) (k0gZ : gZ H) (k0gQ : gQ H) (k0gB : gB H) (k0gK : gK H) (k0gN : gN H) (k0gW : gW H (H.1 11 19 0)) (k0gU0 : gU H 0) (hp0 : H.1 11 48 0 = -1) : J true (d + 306) 113 w (523, [(0, jT)], [], H) (jN fun v w' H' => w' = w ∧ gT H' ∧ jEx [19, 12, 48, 56, 57] [60, 56, 59, 58, 55, 57, 61, 99, 100, 77, 78, 82, 80, 114, 115, 81, 105, 71, 70, 72, 75, 76, 68, 67, 65, 63, 64, 66, 112, 113, 108, 110, 101, 102, 103, 104, 83, 73, 74, 84, 111, 89, 88, 93, 94, 86, 91, 92, 85, 87, 90, 82, 60] H' H ∧ gP H' ∧ gX H' ∧ gL H' ∧ gZ H' ∧ gQ H' ∧ gB H' ∧ gK H' ∧ gN H' ∧ gW H' (H'.1 11 19 0) ∧ v = none) := by
  have hE : jEx [19, 12, 48, 56, 57] [60, 56, 59, 58, 55, 57, 61, 99, 100, 77, 78, 82, 80, 114, 115, 81, 105, 71, 70, 72, 75, 76, 68, 67, 65, 63, 64, 66, 112, 113, 108, 110, 101, 102, 103, 104, 83, 73, 74, 84, 111, 89, 88, 93, 94, 86, 91, 92, 85, 87, 90, 82, 60] H H := jEx.refl _ _ _
  refine J.run0 2 rfl ?_
  try dsimp only
  refine J.inv rfl rfl rfl rfl rfl rfl jDr rfl rfl rfl rfl rfl (g_stateI (b := (0 : Int)) hT k0gP k0gX (show ((0 : Int)) = 0 from by omega) (show H.1 11 48 0 = -1 from by omega)) ?_
  rintro v w H144 ⟨rfl, hT145, ehE146, k147, k148, p149, rfl⟩
  have hE146 := jEx.trans ehE146 hE (by decide) (by decide)
  have p149' : gL H144 := p149
  have k150 : gZ H144 := gZ.ex k0gZ ehE146 (by decide)
  have k151 : gQ H144 := gQ.ex k0gQ ehE146 (by decide)
  have k152 : gB H144 := gB.ex k0gB ehE146 (by decide)
  have k153 : gK H144 := gK.ex k0gK ehE146 (by decide)
  have k154 : gN H144 := gN.ex k0gN ehE146 (by decide)
  have k155 : gW H144 (H144.1 11 19 0) := gWm.ex k0gW ehE146 (by decide)
  have k156 : gU H144 0 := gU.ex k0gU0 ehE146 (by decide)
  have g157 : H144.1 11 12 0 = H.1 11 12 0 := ehE146.v 12 (by decide)
  have g158 : H144.1 11 19 0 = H.1 11 19 0 := ehE146.v 19 (by decide)
  try dsimp only [Option.toList, List.append, List.cons_append, List.nil_append]
  refine J.run0 2 rfl ?_
  try dsimp only
  exact (g_init1_l1 (H0 := H)   hp0 ((16 - ((0 : Int)) : Int).toNat + 1)) ((0 : Int)) H144 _ (show 16 - ((0 : Int)) < _ by omega) (show 0 ≤ ((0 : Int)) ∧ ((0 : Int)) ≤ 16 from ⟨by omega, by omega⟩) hT145 hE146 k147 k148 p149 k150 k151 k152 k153 k154 k155 k156 rfl
end
