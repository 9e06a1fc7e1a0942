-- M: X11_submit
section
variable {d : Nat} {w : jW} 
-- 
theorem g_submit_l0 {kind a b v : Int} {H0 : jH} (hp0 : -2147483648 ≤ kind ∧ kind ≤ 2147483647) (hp1 : -2147483648 ≤ a ∧ a ≤ 2147483647) (hp2 : -2147483648 ≤ b ∧ b ≤ 2147483647) (hp3 : -2147483648 ≤ v ∧ v ≤ 2147483647) : ∀ (m : Nat), (∀ (H : jH) (lv : jL), 0 < (m : Int) → (gX H) → gT H → jEx [4, 47] [50, 51, 52, 53] H H0 → gP H → gL H → gZ H → gQ H → gB H → gK H → gN H → gW H (H.1 11 19 0) → (lv = [(0, jT), (1, .inl kind), (2, .inl a), (3, .inl b), (4, .inl v)]) → J true (d + 1) 145 w (105, lv, [], H) (jN fun v w' H' => w' = w ∧ gT H' ∧ jEx [4, 47] [50, 51, 52, 53] H' H0 ∧ gP H' ∧ gL H' ∧ gZ H' ∧ gQ H' ∧ gB H' ∧ gK H' ∧ gN H' ∧ gW H' (H'.1 11 19 0) ∧ gX H' ∧ ∃ x, v = some (.inl x) ∧ 0 ≤ x ∧ x ≤ 1499)) := by
  intro m
  induction m with
  | zero =>
    skip
    · intro H lv hm hi0 hT hE k0gP k0gL k0gZ k0gQ k0gB k0gK k0gN k0gW hlv
      exfalso
      omega
  | succ m ih =>
    skip
    · intro H lv hm hi0 hT hE k0gP k0gL k0gZ k0gQ k0gB k0gK k0gN k0gW hlv
      rcases hlv with rfl
      have k0gX := hi0
      refine J.run0 5 rfl ?_
      try dsimp only
      refine J.ifc rfl rfl rfl (show -2147483648 ≤ (1 : Int) ∧ (1 : Int) ≤ 2147483647 from ⟨by omega, by omega⟩) (fun hc => ?_) (fun hc => ?_)
      · have c1 : (1 : Int) = (0 : Int) := hc
        clear hc
        exfalso
        omega
      · have c2 : ¬ ((1 : Int) = (0 : Int)) := hc
        clear hc
        refine J.run0 3 rfl ?_
        try dsimp only
        refine J.gn fun H3 hH3 => ?_
        have hT4 : gT H3 := by rw [hH3]; exact gT.num (f := 47) hT (show 0 ≤ (1 : Int) ∧ (1 : Int) ≤ 3 from ⟨by omega, by omega⟩) (by decide) (fun z => absurd z (by decide))
        have hE5 : jEx [4, 47] [50, 51, 52, 53] H3 H0 := by rw [hH3]; exact jEx.num hE (by decide)
        have k6 : gP H3 := by rw [hH3]; exact k0gP
        have k7 : gL H3 := by rw [hH3]; exact k0gL
        have k8 : gZ H3 := by rw [hH3]; exact k0gZ
        have k9 : gQ H3 := by rw [hH3]; exact k0gQ
        have k10 : gB H3 := by rw [hH3]; exact k0gB
        have k11 : gK H3 := by rw [hH3]; exact k0gK
        have k12 : gN H3 := by rw [hH3]; exact k0gN
        have k13 : gW H3 (H3.1 11 19 0) := by rw [hH3]; exact k0gW
        have hE1' : jEx [47] [] H3 H := by rw [hH3]; exact jEx.num (jEx.refl _ _ _) (by decide)
        have rK : H3.2.2.1 50 0 = H.2.2.1 50 0 ∧ H3.2.2.1 52 0 = H.2.2.1 52 0 ∧ H3.2.2.1 53 0 = H.2.2.1 53 0 := by subst hH3; exact ⟨rfl, rfl, rfl⟩
        have g14 : H3.1 11 47 0 = (1 : Int) := by subst hH3; rfl
        have g15 : H3.1 11 12 0 = H.1 11 12 0 := by subst hH3; rfl
        have g16 : H3.1 11 4 0 = H.1 11 4 0 := by subst hH3; rfl
        clear hH3
        have f17 : 0 ≤ H3.1 11 47 0 ∧ H3.1 11 47 0 ≤ 3 := hT4.2.1 47
        refine J.run0 2 rfl ?_
        try dsimp only
        refine J.ifc rfl rfl rfl (show -2147483648 ≤ H3.1 11 47 0 ∧ H3.1 11 47 0 ≤ 2147483647 from ⟨by omega, by omega⟩) (fun hc => ?_) (fun hc => ?_)
        · have c18 : H3.1 11 47 0 ≤ (0 : Int) := hc
          clear hc
          have f19 : 0 ≤ H3.1 11 4 0 ∧ H3.1 11 4 0 ≤ 1500 := hT4.2.1 4
          refine J.run 6 rfl (show 0 ≤ H3.1 11 4 0 ∧ H3.1 11 4 0 < 1500 from ⟨by omega, by omega⟩) ?_
          try dsimp only
          refine J.gn fun H20 hH20 => ?_
          have hT21 : gT H20 := by rw [hH20]; exact gT.upd hT4 (show 0 ≤ kind ∧ kind ≤ 4 from ⟨by omega, by omega⟩) (fun z => absurd z (by decide))
          have hE22 : jEx [4, 47] [50, 51, 52, 53] H20 H0 := by rw [hH20]; exact jEx.row hE5 (by decide)
          have k23 : gP H20 := by rw [hH20]; exact k6
          have k24 : gL H20 := by rw [hH20]; exact k7
          have k25 : gZ H20 := by rw [hH20]; exact k8
          have k26 : gQ H20 := by rw [hH20]; exact k9
          have k27 : gB H20 := by rw [hH20]; exact k10
          have k28 : gK H20 := by rw [hH20]; exact k11
          have k29 : gN H20 := by rw [hH20]; exact k12
          have k30 : gW H20 (H20.1 11 19 0) := by rw [hH20]; exact k13
          have rK : H20.2.2.1 50 0 = jup (H.2.2.1 50 0) (H3.1 11 4 0) (kind) ∧ H20.2.2.1 52 0 = H.2.2.1 52 0 ∧ H20.2.2.1 53 0 = H.2.2.1 53 0 := by subst hH20; exact ⟨(show jup (H3.2.2.1 50 0) (H3.1 11 4 0) (kind) = _ by rw [rK.1]), rK.2⟩
          have g31 : H20.2.2.1 50 0 (H3.1 11 4 0) = kind := by subst hH20; exact if_pos rfl
          have g32 : H20.1 11 12 0 = H3.1 11 12 0 := by subst hH20; rfl
          have g33 : H20.1 11 4 0 = H3.1 11 4 0 := by subst hH20; rfl
          clear hH20
          have f34 : 0 ≤ H20.1 11 4 0 ∧ H20.1 11 4 0 ≤ 1500 := hT21.2.1 4
          refine J.run 6 rfl (show 0 ≤ H20.1 11 4 0 ∧ H20.1 11 4 0 < 1500 from ⟨by omega, by omega⟩) ?_
          try dsimp only
          refine J.gn fun H35 hH35 => ?_
          have hT36 : gT H35 := by rw [hH35]; exact gT.upd hT21 (show 0 ≤ a ∧ a ≤ 199 from ⟨by omega, by omega⟩) (fun z => absurd z (by decide))
          have hE37 : jEx [4, 47] [50, 51, 52, 53] H35 H0 := by rw [hH35]; exact jEx.row hE22 (by decide)
          have k38 : gP H35 := by rw [hH35]; exact k23
          have k39 : gL H35 := by rw [hH35]; exact k24
          have k40 : gZ H35 := by rw [hH35]; exact k25
          have k41 : gQ H35 := by rw [hH35]; exact k26
          have k42 : gB H35 := by rw [hH35]; exact k27
          have k43 : gK H35 := by rw [hH35]; exact k28
          have k44 : gN H35 := by rw [hH35]; exact k29
          have k45 : gW H35 (H35.1 11 19 0) := by rw [hH35]; exact k30
          have rK := And.intro ((show H35.2.2.1 50 0 = H20.2.2.1 50 0 by subst hH35; rfl).trans rK.1) (And.intro ((show H35.2.2.1 52 0 = H20.2.2.1 52 0 by subst hH35; rfl).trans rK.2.1) ((show H35.2.2.1 53 0 = H20.2.2.1 53 0 by subst hH35; rfl).trans rK.2.2))
          have g46 : H35.2.2.1 51 0 (H20.1 11 4 0) = a := by subst hH35; exact if_pos rfl
          have g47 : H35.1 11 12 0 = H20.1 11 12 0 := by subst hH35; rfl
          have g48 : H35.1 11 4 0 = H20.1 11 4 0 := by subst hH35; rfl
          have g49 : H35.2.2.1 50 0 (H3.1 11 4 0) = H20.2.2.1 50 0 (H3.1 11 4 0) := by subst hH35; rfl
          clear hH35
          have f50 : 0 ≤ H35.1 11 4 0 ∧ H35.1 11 4 0 ≤ 1500 := hT36.2.1 4
          refine J.run 6 rfl (show 0 ≤ H35.1 11 4 0 ∧ H35.1 11 4 0 < 1500 from ⟨by omega, by omega⟩) ?_
          try dsimp only
          refine J.gn fun H51 hH51 => ?_
          have hT52 : gT H51 := by rw [hH51]; exact gT.upd hT36 (show 0 ≤ b ∧ b ≤ 5999 from ⟨by omega, by omega⟩) (fun z => absurd z (by decide))
          have hE53 : jEx [4, 47] [50, 51, 52, 53] H51 H0 := by rw [hH51]; exact jEx.row hE37 (by decide)
          have k54 : gP H51 := by rw [hH51]; exact k38
          have k55 : gL H51 := by rw [hH51]; exact k39
          have k56 : gZ H51 := by rw [hH51]; exact k40
          have k57 : gQ H51 := by rw [hH51]; exact k41
          have k58 : gB H51 := by rw [hH51]; exact k42
          have k59 : gK H51 := by rw [hH51]; exact k43
          have k60 : gN H51 := by rw [hH51]; exact k44
          have k61 : gW H51 (H51.1 11 19 0) := by rw [hH51]; exact k45
          have rB : H51.2.2.1 52 0 = jup (H.2.2.1 52 0) (H35.1 11 4 0) (b) := by subst hH51; exact (show jup (H35.2.2.1 52 0) (H35.1 11 4 0) (b) = _ by rw [rK.2.1])
          have rK := And.intro ((show H51.2.2.1 50 0 = H35.2.2.1 50 0 by subst hH51; rfl).trans rK.1) (And.intro rB ((show H51.2.2.1 53 0 = H35.2.2.1 53 0 by subst hH51; rfl).trans rK.2.2))
          have g62 : H51.2.2.1 52 0 (H35.1 11 4 0) = b := by subst hH51; exact if_pos rfl
          have g63 : H51.1 11 12 0 = H35.1 11 12 0 := by subst hH51; rfl
          have g64 : H51.1 11 4 0 = H35.1 11 4 0 := by subst hH51; rfl
          have g65 : H51.2.2.1 51 0 (H20.1 11 4 0) = H35.2.2.1 51 0 (H20.1 11 4 0) := by subst hH51; rfl
          have g66 : H51.2.2.1 50 0 (H3.1 11 4 0) = H35.2.2.1 50 0 (H3.1 11 4 0) := by subst hH51; rfl
          clear hH51
          have f67 : 0 ≤ H51.1 11 4 0 ∧ H51.1 11 4 0 ≤ 1500 := hT52.2.1 4
          refine J.run 6 rfl (show 0 ≤ H51.1 11 4 0 ∧ H51.1 11 4 0 < 1500 from ⟨by omega, by omega⟩) ?_
          try dsimp only
          refine J.gn fun H68 hH68 => ?_
          have hT69 : gT H68 := by rw [hH68]; exact gT.upd hT52 (show -2147483648 ≤ v ∧ v ≤ 2147483647 from ⟨by omega, by omega⟩) (fun z => absurd z (by decide))
          have hE70 : jEx [4, 47] [50, 51, 52, 53] H68 H0 := by rw [hH68]; exact jEx.row hE53 (by decide)
          have k71 : gP H68 := by rw [hH68]; exact k54
          have k72 : gL H68 := by rw [hH68]; exact k55
          have k73 : gZ H68 := by rw [hH68]; exact k56
          have k74 : gQ H68 := by rw [hH68]; exact k57
          have k75 : gB H68 := by rw [hH68]; exact k58
          have k76 : gK H68 := by rw [hH68]; exact k59
          have k77 : gN H68 := by rw [hH68]; exact k60
          have k78 : gW H68 (H68.1 11 19 0) := by rw [hH68]; exact k61
          have rB : H68.2.2.1 53 0 = jup (H.2.2.1 53 0) (H51.1 11 4 0) (v) := by subst hH68; exact (show jup (H51.2.2.1 53 0) (H51.1 11 4 0) (v) = _ by rw [rK.2.2])
          have rK := And.intro ((show H68.2.2.1 50 0 = H51.2.2.1 50 0 by subst hH68; rfl).trans rK.1) (And.intro ((show H68.2.2.1 52 0 = H51.2.2.1 52 0 by subst hH68; rfl).trans rK.2.1) rB)
          have g79 : H68.2.2.1 53 0 (H51.1 11 4 0) = v := by subst hH68; exact if_pos rfl
          have g80 : H68.1 11 12 0 = H51.1 11 12 0 := by subst hH68; rfl
          have g81 : H68.1 11 4 0 = H51.1 11 4 0 := by subst hH68; rfl
          have g82 : H68.2.2.1 52 0 (H35.1 11 4 0) = H51.2.2.1 52 0 (H35.1 11 4 0) := by subst hH68; rfl
          have g83 : H68.2.2.1 51 0 (H20.1 11 4 0) = H51.2.2.1 51 0 (H20.1 11 4 0) := by subst hH68; rfl
          have g84 : H68.2.2.1 50 0 (H3.1 11 4 0) = H51.2.2.1 50 0 (H3.1 11 4 0) := by subst hH68; rfl
          clear hH68
          have f85 : 0 ≤ H68.1 11 4 0 ∧ H68.1 11 4 0 ≤ 1500 := hT69.2.1 4
          refine J.run0 6 rfl ?_
          try dsimp only
          refine J.gn fun H86 hH86 => ?_
          have hT87 : gT H86 := by rw [hH86]; exact gT.num (f := 4) hT69 (show 0 ≤ (H68.1 11 4 0) + (1 : Int) ∧ (H68.1 11 4 0) + (1 : Int) ≤ 1500 from ⟨by omega, by omega⟩) (by decide) (fun z => absurd z (by decide))
          have hE88 : jEx [4, 47] [50, 51, 52, 53] H86 H0 := by rw [hH86]; exact jEx.num hE70 (by decide)
          have k89 : gP H86 := by rw [hH86]; exact k71
          have k90 : gL H86 := by rw [hH86]; exact k72
          have k91 : gZ H86 := by rw [hH86]; exact k73
          have k92 : gQ H86 := by rw [hH86]; exact k74
          have k93 : gB H86 := by rw [hH86]; exact k75
          have k94 : gK H86 := by rw [hH86]; exact k76
          have k95 : gN H86 := by rw [hH86]; exact k77
          have k96 : gW H86 (H86.1 11 19 0) := by rw [hH86]; exact k78
          have rK := And.intro ((show H86.2.2.1 50 0 = H68.2.2.1 50 0 by subst hH86; rfl).trans rK.1) (And.intro ((show H86.2.2.1 52 0 = H68.2.2.1 52 0 by subst hH86; rfl).trans rK.2.1) ((show H86.2.2.1 53 0 = H68.2.2.1 53 0 by subst hH86; rfl).trans rK.2.2))
          have g97 : H86.1 11 4 0 = (H68.1 11 4 0) + (1 : Int) := by subst hH86; rfl
          have g98 : H86.1 11 12 0 = H68.1 11 12 0 := by subst hH86; rfl
          have g99 : H86.2.2.1 53 0 (H51.1 11 4 0) = H68.2.2.1 53 0 (H51.1 11 4 0) := by subst hH86; rfl
          have g100 : H86.2.2.1 52 0 (H35.1 11 4 0) = H68.2.2.1 52 0 (H35.1 11 4 0) := by subst hH86; rfl
          have g101 : H86.2.2.1 51 0 (H20.1 11 4 0) = H68.2.2.1 51 0 (H20.1 11 4 0) := by subst hH86; rfl
          have g102 : H86.2.2.1 50 0 (H3.1 11 4 0) = H68.2.2.1 50 0 (H3.1 11 4 0) := by subst hH86; rfl
          clear hH86
          have f103 : 0 ≤ H86.1 11 4 0 ∧ H86.1 11 4 0 ≤ 1500 := hT87.2.1 4
          refine J.run0 4 rfl ?_
          try dsimp only
          exact J.reti rfl rfl rfl ⟨_, rfl, rfl, hT87, hE88, k89, k90, k91, k92, k93, k94, k95, k96, (show gX H86 by first | exact gX.ex k0gX hE1' (by decide) | exact gX.submit k0gX rK.1 rK.2.1 rK.2.2 (by omega) (by omega) (fun _ => by omega) (fun _ _ => by omega) (fun _ => ⟨by omega, by omega⟩) (fun _ => by omega)), _, rfl, (show 0 ≤ ((H86.1 11 4 0) - (1 : Int)) ∧ ((H86.1 11 4 0) - (1 : Int)) ≤ 1499 from ⟨by omega, by omega⟩)⟩
        · have c104 : ¬ (H3.1 11 47 0 ≤ (0 : Int)) := hc
          clear hc
          refine J.run0 1 rfl ?_
          try dsimp only
          exact J.reti rfl rfl rfl ⟨_, rfl, rfl, hT4, hE5, k6, k7, k8, k9, k10, k11, k12, k13, (show gX H3 by first | exact gX.ex k0gX hE1' (by decide) | exact gX.submit k0gX rK.1 rK.2.1 rK.2.2 (by omega) (by omega) (fun _ => by omega) (fun _ _ => by omega) (fun _ => ⟨by omega, by omega⟩) (fun _ => by omega)), _, rfl, (show 0 ≤ ((0 : Int)) ∧ ((0 : Int)) ≤ 1499 from ⟨by omega, by omega⟩)⟩
-- 
theorem g_submit_l1 {kind a b v : Int} {H0 : jH} (hp0 : -2147483648 ≤ kind ∧ kind ≤ 2147483647) (hp1 : -2147483648 ≤ a ∧ a ≤ 2147483647) (hp2 : -2147483648 ≤ b ∧ b ≤ 2147483647) (hp3 : -2147483648 ≤ v ∧ v ≤ 2147483647) : ∀ (m : Nat), (∀ (H : jH) (lv : jL), 0 < (m : Int) → (0 ≤ kind ∧ kind ≤ 4) → (0 ≤ a ∧ a ≤ 199) → (kind = 0 → 0 ≤ b) → (kind = 0 → b ≤ 199) → (1 ≤ kind → kind ≤ 3 → 0 ≤ b) → (1 ≤ kind → kind ≤ 3 → b ≤ 15) → (kind ≤ 2 → 1 ≤ v) → (kind ≤ 2 → v ≤ 1000000) → (kind = 4 → 0 ≤ b) → (kind = 4 → b ≤ 5999) → (kind = 4 → 0 ≤ v) → (kind = 4 → v ≤ 5999) → (gX H) → gT H → jEx [4, 47] [50, 51, 52, 53] H H0 → gP H → gL H → gZ H → gQ H → gB H → gK H → gN H → gW H (H.1 11 19 0) → (lv = [(0, jT), (1, .inl kind), (2, .inl a), (3, .inl b), (4, .inl v)]) → J true (d + 1) 145 w (109, lv, [], H) (jN fun v w' H' => w' = w ∧ gT H' ∧ jEx [4, 47] [50, 51, 52, 53] H' H0 ∧ gP H' ∧ gL H' ∧ gZ H' ∧ gQ H' ∧ gB H' ∧ gK H' ∧ gN H' ∧ gW H' (H'.1 11 19 0) ∧ gX H' ∧ ∃ x, v = some (.inl x) ∧ 0 ≤ x ∧ x ≤ 1499)) := by
  intro m
  induction m with
  | zero =>
    skip
    · intro H lv hm hi0 hi1 hi2 hi3 hi4 hi5 hi6 hi7 hi8 hi9 hi10 hi11 hi12 hT hE k0gP k0gL k0gZ k0gQ k0gB k0gK k0gN k0gW hlv
      exfalso
      omega
  | succ m ih =>
    skip
    · intro H lv hm hi0 hi1 hi2 hi3 hi4 hi5 hi6 hi7 hi8 hi9 hi10 hi11 hi12 hT hE k0gP k0gL k0gZ k0gQ k0gB k0gK k0gN k0gW hlv
      rcases hlv with rfl
      have k0gX := hi12
      refine J.run0 4 rfl ?_
      try dsimp only
      refine J.ifc rfl rfl rfl (show -2147483648 ≤ (0 : Int) ∧ (0 : Int) ≤ 2147483647 from ⟨by omega, by omega⟩) (fun hc => ?_) (fun hc => ?_)
      · have c105 : (0 : Int) = (0 : Int) := hc
        clear hc
        have f106 : 0 ≤ H.1 11 4 0 ∧ H.1 11 4 0 ≤ 1500 := hT.2.1 4
        refine J.run0 3 rfl ?_
        try dsimp only
        refine J.icmp rfl rfl rfl ⟨(show -2147483648 ≤ H.1 11 4 0 ∧ H.1 11 4 0 ≤ 2147483647 from ⟨by omega, by omega⟩), (show -2147483648 ≤ (1500 : Int) ∧ (1500 : Int) ≤ 2147483647 from ⟨by omega, by omega⟩)⟩ (fun hc => ?_) (fun hc => ?_)
        · have c107 : ¬ (H.1 11 4 0 = (1500 : Int)) := hc
          clear hc
          refine J.run0 2 rfl ?_
          try dsimp only
          refine J.gn fun H108 hH108 => ?_
          have hT109 : gT H108 := by rw [hH108]; exact gT.num (f := 47) hT (show 0 ≤ (0 : Int) ∧ (0 : Int) ≤ 3 from ⟨by omega, by omega⟩) (by decide) (fun z => absurd z (by decide))
          have hE110 : jEx [4, 47] [50, 51, 52, 53] H108 H0 := by rw [hH108]; exact jEx.num hE (by decide)
          have k111 : gP H108 := by rw [hH108]; exact k0gP
          have k112 : gL H108 := by rw [hH108]; exact k0gL
          have k113 : gZ H108 := by rw [hH108]; exact k0gZ
          have k114 : gQ H108 := by rw [hH108]; exact k0gQ
          have k115 : gB H108 := by rw [hH108]; exact k0gB
          have k116 : gK H108 := by rw [hH108]; exact k0gK
          have k117 : gN H108 := by rw [hH108]; exact k0gN
          have k118 : gW H108 (H108.1 11 19 0) := by rw [hH108]; exact k0gW
          have hE1' : jEx [47] [] H108 H := by rw [hH108]; exact jEx.num (jEx.refl _ _ _) (by decide)
          have rK : H108.2.2.1 50 0 = H.2.2.1 50 0 ∧ H108.2.2.1 52 0 = H.2.2.1 52 0 ∧ H108.2.2.1 53 0 = H.2.2.1 53 0 := by subst hH108; exact ⟨rfl, rfl, rfl⟩
          have g119 : H108.1 11 47 0 = (0 : Int) := by subst hH108; rfl
          have g120 : H108.1 11 12 0 = H.1 11 12 0 := by subst hH108; rfl
          have g121 : H108.1 11 4 0 = H.1 11 4 0 := by subst hH108; rfl
          clear hH108
          have f122 : 0 ≤ H108.1 11 47 0 ∧ H108.1 11 47 0 ≤ 3 := hT109.2.1 47
          refine J.run0 2 rfl ?_
          try dsimp only
          refine J.ifc rfl rfl rfl (show -2147483648 ≤ H108.1 11 47 0 ∧ H108.1 11 47 0 ≤ 2147483647 from ⟨by omega, by omega⟩) (fun hc => ?_) (fun hc => ?_)
          · have c123 : H108.1 11 47 0 ≤ (0 : Int) := hc
            clear hc
            have f124 : 0 ≤ H108.1 11 4 0 ∧ H108.1 11 4 0 ≤ 1500 := hT109.2.1 4
            refine J.run 6 rfl (show 0 ≤ H108.1 11 4 0 ∧ H108.1 11 4 0 < 1500 from ⟨by omega, by omega⟩) ?_
            try dsimp only
            refine J.gn fun H125 hH125 => ?_
            have hT126 : gT H125 := by rw [hH125]; exact gT.upd hT109 (show 0 ≤ kind ∧ kind ≤ 4 from ⟨by omega, by omega⟩) (fun z => absurd z (by decide))
            have hE127 : jEx [4, 47] [50, 51, 52, 53] H125 H0 := by rw [hH125]; exact jEx.row hE110 (by decide)
            have k128 : gP H125 := by rw [hH125]; exact k111
            have k129 : gL H125 := by rw [hH125]; exact k112
            have k130 : gZ H125 := by rw [hH125]; exact k113
            have k131 : gQ H125 := by rw [hH125]; exact k114
            have k132 : gB H125 := by rw [hH125]; exact k115
            have k133 : gK H125 := by rw [hH125]; exact k116
            have k134 : gN H125 := by rw [hH125]; exact k117
            have k135 : gW H125 (H125.1 11 19 0) := by rw [hH125]; exact k118
            have rK : H125.2.2.1 50 0 = jup (H.2.2.1 50 0) (H108.1 11 4 0) (kind) ∧ H125.2.2.1 52 0 = H.2.2.1 52 0 ∧ H125.2.2.1 53 0 = H.2.2.1 53 0 := by subst hH125; exact ⟨(show jup (H108.2.2.1 50 0) (H108.1 11 4 0) (kind) = _ by rw [rK.1]), rK.2⟩
            have g136 : H125.2.2.1 50 0 (H108.1 11 4 0) = kind := by subst hH125; exact if_pos rfl
            have g137 : H125.1 11 12 0 = H108.1 11 12 0 := by subst hH125; rfl
            have g138 : H125.1 11 4 0 = H108.1 11 4 0 := by subst hH125; rfl
            clear hH125
            have f139 : 0 ≤ H125.1 11 4 0 ∧ H125.1 11 4 0 ≤ 1500 := hT126.2.1 4
            refine J.run 6 rfl (show 0 ≤ H125.1 11 4 0 ∧ H125.1 11 4 0 < 1500 from ⟨by omega, by omega⟩) ?_
            try dsimp only
            refine J.gn fun H140 hH140 => ?_
            have hT141 : gT H140 := by rw [hH140]; exact gT.upd hT126 (show 0 ≤ a ∧ a ≤ 199 from ⟨by omega, by omega⟩) (fun z => absurd z (by decide))
            have hE142 : jEx [4, 47] [50, 51, 52, 53] H140 H0 := by rw [hH140]; exact jEx.row hE127 (by decide)
            have k143 : gP H140 := by rw [hH140]; exact k128
            have k144 : gL H140 := by rw [hH140]; exact k129
            have k145 : gZ H140 := by rw [hH140]; exact k130
            have k146 : gQ H140 := by rw [hH140]; exact k131
            have k147 : gB H140 := by rw [hH140]; exact k132
            have k148 : gK H140 := by rw [hH140]; exact k133
            have k149 : gN H140 := by rw [hH140]; exact k134
            have k150 : gW H140 (H140.1 11 19 0) := by rw [hH140]; exact k135
            have rK := And.intro ((show H140.2.2.1 50 0 = H125.2.2.1 50 0 by subst hH140; rfl).trans rK.1) (And.intro ((show H140.2.2.1 52 0 = H125.2.2.1 52 0 by subst hH140; rfl).trans rK.2.1) ((show H140.2.2.1 53 0 = H125.2.2.1 53 0 by subst hH140; rfl).trans rK.2.2))
            have g151 : H140.2.2.1 51 0 (H125.1 11 4 0) = a := by subst hH140; exact if_pos rfl
            have g152 : H140.1 11 12 0 = H125.1 11 12 0 := by subst hH140; rfl
            have g153 : H140.1 11 4 0 = H125.1 11 4 0 := by subst hH140; rfl
            have g154 : H140.2.2.1 50 0 (H108.1 11 4 0) = H125.2.2.1 50 0 (H108.1 11 4 0) := by subst hH140; rfl
            clear hH140
            have f155 : 0 ≤ H140.1 11 4 0 ∧ H140.1 11 4 0 ≤ 1500 := hT141.2.1 4
            refine J.run 6 rfl (show 0 ≤ H140.1 11 4 0 ∧ H140.1 11 4 0 < 1500 from ⟨by omega, by omega⟩) ?_
            try dsimp only
            refine J.gn fun H156 hH156 => ?_
            have hT157 : gT H156 := by rw [hH156]; exact gT.upd hT141 (show 0 ≤ b ∧ b ≤ 5999 from ⟨by omega, by omega⟩) (fun z => absurd z (by decide))
            have hE158 : jEx [4, 47] [50, 51, 52, 53] H156 H0 := by rw [hH156]; exact jEx.row hE142 (by decide)
            have k159 : gP H156 := by rw [hH156]; exact k143
            have k160 : gL H156 := by rw [hH156]; exact k144
            have k161 : gZ H156 := by rw [hH156]; exact k145
            have k162 : gQ H156 := by rw [hH156]; exact k146
            have k163 : gB H156 := by rw [hH156]; exact k147
            have k164 : gK H156 := by rw [hH156]; exact k148
            have k165 : gN H156 := by rw [hH156]; exact k149
            have k166 : gW H156 (H156.1 11 19 0) := by rw [hH156]; exact k150
            have rB : H156.2.2.1 52 0 = jup (H.2.2.1 52 0) (H140.1 11 4 0) (b) := by subst hH156; exact (show jup (H140.2.2.1 52 0) (H140.1 11 4 0) (b) = _ by rw [rK.2.1])
            have rK := And.intro ((show H156.2.2.1 50 0 = H140.2.2.1 50 0 by subst hH156; rfl).trans rK.1) (And.intro rB ((show H156.2.2.1 53 0 = H140.2.2.1 53 0 by subst hH156; rfl).trans rK.2.2))
            have g167 : H156.2.2.1 52 0 (H140.1 11 4 0) = b := by subst hH156; exact if_pos rfl
            have g168 : H156.1 11 12 0 = H140.1 11 12 0 := by subst hH156; rfl
            have g169 : H156.1 11 4 0 = H140.1 11 4 0 := by subst hH156; rfl
            have g170 : H156.2.2.1 51 0 (H125.1 11 4 0) = H140.2.2.1 51 0 (H125.1 11 4 0) := by subst hH156; rfl
            have g171 : H156.2.2.1 50 0 (H108.1 11 4 0) = H140.2.2.1 50 0 (H108.1 11 4 0) := by subst hH156; rfl
            clear hH156
            have f172 : 0 ≤ H156.1 11 4 0 ∧ H156.1 11 4 0 ≤ 1500 := hT157.2.1 4
            refine J.run 6 rfl (show 0 ≤ H156.1 11 4 0 ∧ H156.1 11 4 0 < 1500 from ⟨by omega, by omega⟩) ?_
            try dsimp only
            refine J.gn fun H173 hH173 => ?_
            have hT174 : gT H173 := by rw [hH173]; exact gT.upd hT157 (show -2147483648 ≤ v ∧ v ≤ 2147483647 from ⟨by omega, by omega⟩) (fun z => absurd z (by decide))
            have hE175 : jEx [4, 47] [50, 51, 52, 53] H173 H0 := by rw [hH173]; exact jEx.row hE158 (by decide)
            have k176 : gP H173 := by rw [hH173]; exact k159
            have k177 : gL H173 := by rw [hH173]; exact k160
            have k178 : gZ H173 := by rw [hH173]; exact k161
            have k179 : gQ H173 := by rw [hH173]; exact k162
            have k180 : gB H173 := by rw [hH173]; exact k163
            have k181 : gK H173 := by rw [hH173]; exact k164
            have k182 : gN H173 := by rw [hH173]; exact k165
            have k183 : gW H173 (H173.1 11 19 0) := by rw [hH173]; exact k166
            have rB : H173.2.2.1 53 0 = jup (H.2.2.1 53 0) (H156.1 11 4 0) (v) := by subst hH173; exact (show jup (H156.2.2.1 53 0) (H156.1 11 4 0) (v) = _ by rw [rK.2.2])
            have rK := And.intro ((show H173.2.2.1 50 0 = H156.2.2.1 50 0 by subst hH173; rfl).trans rK.1) (And.intro ((show H173.2.2.1 52 0 = H156.2.2.1 52 0 by subst hH173; rfl).trans rK.2.1) rB)
            have g184 : H173.2.2.1 53 0 (H156.1 11 4 0) = v := by subst hH173; exact if_pos rfl
            have g185 : H173.1 11 12 0 = H156.1 11 12 0 := by subst hH173; rfl
            have g186 : H173.1 11 4 0 = H156.1 11 4 0 := by subst hH173; rfl
            have g187 : H173.2.2.1 52 0 (H140.1 11 4 0) = H156.2.2.1 52 0 (H140.1 11 4 0) := by subst hH173; rfl
            have g188 : H173.2.2.1 51 0 (H125.1 11 4 0) = H156.2.2.1 51 0 (H125.1 11 4 0) := by subst hH173; rfl
            have g189 : H173.2.2.1 50 0 (H108.1 11 4 0) = H156.2.2.1 50 0 (H108.1 11 4 0) := by subst hH173; rfl
            clear hH173
            have f190 : 0 ≤ H173.1 11 4 0 ∧ H173.1 11 4 0 ≤ 1500 := hT174.2.1 4
            refine J.run0 6 rfl ?_
            try dsimp only
            refine J.gn fun H191 hH191 => ?_
            have hT192 : gT H191 := by rw [hH191]; exact gT.num (f := 4) hT174 (show 0 ≤ (H173.1 11 4 0) + (1 : Int) ∧ (H173.1 11 4 0) + (1 : Int) ≤ 1500 from ⟨by omega, by omega⟩) (by decide) (fun z => absurd z (by decide))
            have hE193 : jEx [4, 47] [50, 51, 52, 53] H191 H0 := by rw [hH191]; exact jEx.num hE175 (by decide)
            have k194 : gP H191 := by rw [hH191]; exact k176
            have k195 : gL H191 := by rw [hH191]; exact k177
            have k196 : gZ H191 := by rw [hH191]; exact k178
            have k197 : gQ H191 := by rw [hH191]; exact k179
            have k198 : gB H191 := by rw [hH191]; exact k180
            have k199 : gK H191 := by rw [hH191]; exact k181
            have k200 : gN H191 := by rw [hH191]; exact k182
            have k201 : gW H191 (H191.1 11 19 0) := by rw [hH191]; exact k183
            have rK := And.intro ((show H191.2.2.1 50 0 = H173.2.2.1 50 0 by subst hH191; rfl).trans rK.1) (And.intro ((show H191.2.2.1 52 0 = H173.2.2.1 52 0 by subst hH191; rfl).trans rK.2.1) ((show H191.2.2.1 53 0 = H173.2.2.1 53 0 by subst hH191; rfl).trans rK.2.2))
            have g202 : H191.1 11 4 0 = (H173.1 11 4 0) + (1 : Int) := by subst hH191; rfl
            have g203 : H191.1 11 12 0 = H173.1 11 12 0 := by subst hH191; rfl
            have g204 : H191.2.2.1 53 0 (H156.1 11 4 0) = H173.2.2.1 53 0 (H156.1 11 4 0) := by subst hH191; rfl
            have g205 : H191.2.2.1 52 0 (H140.1 11 4 0) = H173.2.2.1 52 0 (H140.1 11 4 0) := by subst hH191; rfl
            have g206 : H191.2.2.1 51 0 (H125.1 11 4 0) = H173.2.2.1 51 0 (H125.1 11 4 0) := by subst hH191; rfl
            have g207 : H191.2.2.1 50 0 (H108.1 11 4 0) = H173.2.2.1 50 0 (H108.1 11 4 0) := by subst hH191; rfl
            clear hH191
            have f208 : 0 ≤ H191.1 11 4 0 ∧ H191.1 11 4 0 ≤ 1500 := hT192.2.1 4
            refine J.run0 4 rfl ?_
            try dsimp only
            exact J.reti rfl rfl rfl ⟨_, rfl, rfl, hT192, hE193, k194, k195, k196, k197, k198, k199, k200, k201, (show gX H191 by first | exact gX.ex k0gX hE1' (by decide) | exact gX.submit k0gX rK.1 rK.2.1 rK.2.2 (by omega) (by omega) (fun _ => by omega) (fun _ _ => by omega) (fun _ => ⟨by omega, by omega⟩) (fun _ => by omega)), _, rfl, (show 0 ≤ ((H191.1 11 4 0) - (1 : Int)) ∧ ((H191.1 11 4 0) - (1 : Int)) ≤ 1499 from ⟨by omega, by omega⟩)⟩
          · have c209 : ¬ (H108.1 11 47 0 ≤ (0 : Int)) := hc
            clear hc
            refine J.run0 1 rfl ?_
            try dsimp only
            exact J.reti rfl rfl rfl ⟨_, rfl, rfl, hT109, hE110, k111, k112, k113, k114, k115, k116, k117, k118, (show gX H108 by first | exact gX.ex k0gX hE1' (by decide) | exact gX.submit k0gX rK.1 rK.2.1 rK.2.2 (by omega) (by omega) (fun _ => by omega) (fun _ _ => by omega) (fun _ => ⟨by omega, by omega⟩) (fun _ => by omega)), _, rfl, (show 0 ≤ ((0 : Int)) ∧ ((0 : Int)) ≤ 1499 from ⟨by omega, by omega⟩)⟩
        · have c210 : ¬ (¬ (H.1 11 4 0 = (1500 : Int))) := hc
          clear hc
          refine J.run0 3 rfl ?_
          try dsimp only
          refine J.gn fun H211 hH211 => ?_
          have hT212 : gT H211 := by rw [hH211]; exact gT.num (f := 47) hT (show 0 ≤ (2 : Int) ∧ (2 : Int) ≤ 3 from ⟨by omega, by omega⟩) (by decide) (fun z => absurd z (by decide))
          have hE213 : jEx [4, 47] [50, 51, 52, 53] H211 H0 := by rw [hH211]; exact jEx.num hE (by decide)
          have k214 : gP H211 := by rw [hH211]; exact k0gP
          have k215 : gL H211 := by rw [hH211]; exact k0gL
          have k216 : gZ H211 := by rw [hH211]; exact k0gZ
          have k217 : gQ H211 := by rw [hH211]; exact k0gQ
          have k218 : gB H211 := by rw [hH211]; exact k0gB
          have k219 : gK H211 := by rw [hH211]; exact k0gK
          have k220 : gN H211 := by rw [hH211]; exact k0gN
          have k221 : gW H211 (H211.1 11 19 0) := by rw [hH211]; exact k0gW
          have hE1' : jEx [47] [] H211 H := by rw [hH211]; exact jEx.num (jEx.refl _ _ _) (by decide)
          have rK : H211.2.2.1 50 0 = H.2.2.1 50 0 ∧ H211.2.2.1 52 0 = H.2.2.1 52 0 ∧ H211.2.2.1 53 0 = H.2.2.1 53 0 := by subst hH211; exact ⟨rfl, rfl, rfl⟩
          have g222 : H211.1 11 47 0 = (2 : Int) := by subst hH211; rfl
          have g223 : H211.1 11 12 0 = H.1 11 12 0 := by subst hH211; rfl
          have g224 : H211.1 11 4 0 = H.1 11 4 0 := by subst hH211; rfl
          clear hH211
          have f225 : 0 ≤ H211.1 11 47 0 ∧ H211.1 11 47 0 ≤ 3 := hT212.2.1 47
          refine J.run0 2 rfl ?_
          try dsimp only
          refine J.ifc rfl rfl rfl (show -2147483648 ≤ H211.1 11 47 0 ∧ H211.1 11 47 0 ≤ 2147483647 from ⟨by omega, by omega⟩) (fun hc => ?_) (fun hc => ?_)
          · have c226 : H211.1 11 47 0 ≤ (0 : Int) := hc
            clear hc
            have f227 : 0 ≤ H211.1 11 4 0 ∧ H211.1 11 4 0 ≤ 1500 := hT212.2.1 4
            refine J.run 6 rfl (show 0 ≤ H211.1 11 4 0 ∧ H211.1 11 4 0 < 1500 from ⟨by omega, by omega⟩) ?_
            try dsimp only
            refine J.gn fun H228 hH228 => ?_
            have hT229 : gT H228 := by rw [hH228]; exact gT.upd hT212 (show 0 ≤ kind ∧ kind ≤ 4 from ⟨by omega, by omega⟩) (fun z => absurd z (by decide))
            have hE230 : jEx [4, 47] [50, 51, 52, 53] H228 H0 := by rw [hH228]; exact jEx.row hE213 (by decide)
            have k231 : gP H228 := by rw [hH228]; exact k214
            have k232 : gL H228 := by rw [hH228]; exact k215
            have k233 : gZ H228 := by rw [hH228]; exact k216
            have k234 : gQ H228 := by rw [hH228]; exact k217
            have k235 : gB H228 := by rw [hH228]; exact k218
            have k236 : gK H228 := by rw [hH228]; exact k219
            have k237 : gN H228 := by rw [hH228]; exact k220
            have k238 : gW H228 (H228.1 11 19 0) := by rw [hH228]; exact k221
            have rK : H228.2.2.1 50 0 = jup (H.2.2.1 50 0) (H211.1 11 4 0) (kind) ∧ H228.2.2.1 52 0 = H.2.2.1 52 0 ∧ H228.2.2.1 53 0 = H.2.2.1 53 0 := by subst hH228; exact ⟨(show jup (H211.2.2.1 50 0) (H211.1 11 4 0) (kind) = _ by rw [rK.1]), rK.2⟩
            have g239 : H228.2.2.1 50 0 (H211.1 11 4 0) = kind := by subst hH228; exact if_pos rfl
            have g240 : H228.1 11 12 0 = H211.1 11 12 0 := by subst hH228; rfl
            have g241 : H228.1 11 4 0 = H211.1 11 4 0 := by subst hH228; rfl
            clear hH228
            have f242 : 0 ≤ H228.1 11 4 0 ∧ H228.1 11 4 0 ≤ 1500 := hT229.2.1 4
            refine J.run 6 rfl (show 0 ≤ H228.1 11 4 0 ∧ H228.1 11 4 0 < 1500 from ⟨by omega, by omega⟩) ?_
            try dsimp only
            refine J.gn fun H243 hH243 => ?_
            have hT244 : gT H243 := by rw [hH243]; exact gT.upd hT229 (show 0 ≤ a ∧ a ≤ 199 from ⟨by omega, by omega⟩) (fun z => absurd z (by decide))
            have hE245 : jEx [4, 47] [50, 51, 52, 53] H243 H0 := by rw [hH243]; exact jEx.row hE230 (by decide)
            have k246 : gP H243 := by rw [hH243]; exact k231
            have k247 : gL H243 := by rw [hH243]; exact k232
            have k248 : gZ H243 := by rw [hH243]; exact k233
            have k249 : gQ H243 := by rw [hH243]; exact k234
            have k250 : gB H243 := by rw [hH243]; exact k235
            have k251 : gK H243 := by rw [hH243]; exact k236
            have k252 : gN H243 := by rw [hH243]; exact k237
            have k253 : gW H243 (H243.1 11 19 0) := by rw [hH243]; exact k238
            have rK := And.intro ((show H243.2.2.1 50 0 = H228.2.2.1 50 0 by subst hH243; rfl).trans rK.1) (And.intro ((show H243.2.2.1 52 0 = H228.2.2.1 52 0 by subst hH243; rfl).trans rK.2.1) ((show H243.2.2.1 53 0 = H228.2.2.1 53 0 by subst hH243; rfl).trans rK.2.2))
            have g254 : H243.2.2.1 51 0 (H228.1 11 4 0) = a := by subst hH243; exact if_pos rfl
            have g255 : H243.1 11 12 0 = H228.1 11 12 0 := by subst hH243; rfl
            have g256 : H243.1 11 4 0 = H228.1 11 4 0 := by subst hH243; rfl
            have g257 : H243.2.2.1 50 0 (H211.1 11 4 0) = H228.2.2.1 50 0 (H211.1 11 4 0) := by subst hH243; rfl
            clear hH243
            have f258 : 0 ≤ H243.1 11 4 0 ∧ H243.1 11 4 0 ≤ 1500 := hT244.2.1 4
            refine J.run 6 rfl (show 0 ≤ H243.1 11 4 0 ∧ H243.1 11 4 0 < 1500 from ⟨by omega, by omega⟩) ?_
            try dsimp only
            refine J.gn fun H259 hH259 => ?_
            have hT260 : gT H259 := by rw [hH259]; exact gT.upd hT244 (show 0 ≤ b ∧ b ≤ 5999 from ⟨by omega, by omega⟩) (fun z => absurd z (by decide))
            have hE261 : jEx [4, 47] [50, 51, 52, 53] H259 H0 := by rw [hH259]; exact jEx.row hE245 (by decide)
            have k262 : gP H259 := by rw [hH259]; exact k246
            have k263 : gL H259 := by rw [hH259]; exact k247
            have k264 : gZ H259 := by rw [hH259]; exact k248
            have k265 : gQ H259 := by rw [hH259]; exact k249
            have k266 : gB H259 := by rw [hH259]; exact k250
            have k267 : gK H259 := by rw [hH259]; exact k251
            have k268 : gN H259 := by rw [hH259]; exact k252
            have k269 : gW H259 (H259.1 11 19 0) := by rw [hH259]; exact k253
            have rB : H259.2.2.1 52 0 = jup (H.2.2.1 52 0) (H243.1 11 4 0) (b) := by subst hH259; exact (show jup (H243.2.2.1 52 0) (H243.1 11 4 0) (b) = _ by rw [rK.2.1])
            have rK := And.intro ((show H259.2.2.1 50 0 = H243.2.2.1 50 0 by subst hH259; rfl).trans rK.1) (And.intro rB ((show H259.2.2.1 53 0 = H243.2.2.1 53 0 by subst hH259; rfl).trans rK.2.2))
            have g270 : H259.2.2.1 52 0 (H243.1 11 4 0) = b := by subst hH259; exact if_pos rfl
            have g271 : H259.1 11 12 0 = H243.1 11 12 0 := by subst hH259; rfl
            have g272 : H259.1 11 4 0 = H243.1 11 4 0 := by subst hH259; rfl
            have g273 : H259.2.2.1 51 0 (H228.1 11 4 0) = H243.2.2.1 51 0 (H228.1 11 4 0) := by subst hH259; rfl
            have g274 : H259.2.2.1 50 0 (H211.1 11 4 0) = H243.2.2.1 50 0 (H211.1 11 4 0) := by subst hH259; rfl
            clear hH259
            have f275 : 0 ≤ H259.1 11 4 0 ∧ H259.1 11 4 0 ≤ 1500 := hT260.2.1 4
            refine J.run 6 rfl (show 0 ≤ H259.1 11 4 0 ∧ H259.1 11 4 0 < 1500 from ⟨by omega, by omega⟩) ?_
            try dsimp only
            refine J.gn fun H276 hH276 => ?_
            have hT277 : gT H276 := by rw [hH276]; exact gT.upd hT260 (show -2147483648 ≤ v ∧ v ≤ 2147483647 from ⟨by omega, by omega⟩) (fun z => absurd z (by decide))
            have hE278 : jEx [4, 47] [50, 51, 52, 53] H276 H0 := by rw [hH276]; exact jEx.row hE261 (by decide)
            have k279 : gP H276 := by rw [hH276]; exact k262
            have k280 : gL H276 := by rw [hH276]; exact k263
            have k281 : gZ H276 := by rw [hH276]; exact k264
            have k282 : gQ H276 := by rw [hH276]; exact k265
            have k283 : gB H276 := by rw [hH276]; exact k266
            have k284 : gK H276 := by rw [hH276]; exact k267
            have k285 : gN H276 := by rw [hH276]; exact k268
            have k286 : gW H276 (H276.1 11 19 0) := by rw [hH276]; exact k269
            have rB : H276.2.2.1 53 0 = jup (H.2.2.1 53 0) (H259.1 11 4 0) (v) := by subst hH276; exact (show jup (H259.2.2.1 53 0) (H259.1 11 4 0) (v) = _ by rw [rK.2.2])
            have rK := And.intro ((show H276.2.2.1 50 0 = H259.2.2.1 50 0 by subst hH276; rfl).trans rK.1) (And.intro ((show H276.2.2.1 52 0 = H259.2.2.1 52 0 by subst hH276; rfl).trans rK.2.1) rB)
            have g287 : H276.2.2.1 53 0 (H259.1 11 4 0) = v := by subst hH276; exact if_pos rfl
            have g288 : H276.1 11 12 0 = H259.1 11 12 0 := by subst hH276; rfl
            have g289 : H276.1 11 4 0 = H259.1 11 4 0 := by subst hH276; rfl
            have g290 : H276.2.2.1 52 0 (H243.1 11 4 0) = H259.2.2.1 52 0 (H243.1 11 4 0) := by subst hH276; rfl
            have g291 : H276.2.2.1 51 0 (H228.1 11 4 0) = H259.2.2.1 51 0 (H228.1 11 4 0) := by subst hH276; rfl
            have g292 : H276.2.2.1 50 0 (H211.1 11 4 0) = H259.2.2.1 50 0 (H211.1 11 4 0) := by subst hH276; rfl
            clear hH276
            have f293 : 0 ≤ H276.1 11 4 0 ∧ H276.1 11 4 0 ≤ 1500 := hT277.2.1 4
            refine J.run0 6 rfl ?_
            try dsimp only
            refine J.gn fun H294 hH294 => ?_
            have hT295 : gT H294 := by rw [hH294]; exact gT.num (f := 4) hT277 (show 0 ≤ (H276.1 11 4 0) + (1 : Int) ∧ (H276.1 11 4 0) + (1 : Int) ≤ 1500 from ⟨by omega, by omega⟩) (by decide) (fun z => absurd z (by decide))
            have hE296 : jEx [4, 47] [50, 51, 52, 53] H294 H0 := by rw [hH294]; exact jEx.num hE278 (by decide)
            have k297 : gP H294 := by rw [hH294]; exact k279
            have k298 : gL H294 := by rw [hH294]; exact k280
            have k299 : gZ H294 := by rw [hH294]; exact k281
            have k300 : gQ H294 := by rw [hH294]; exact k282
            have k301 : gB H294 := by rw [hH294]; exact k283
            have k302 : gK H294 := by rw [hH294]; exact k284
            have k303 : gN H294 := by rw [hH294]; exact k285
            have k304 : gW H294 (H294.1 11 19 0) := by rw [hH294]; exact k286
            have rK := And.intro ((show H294.2.2.1 50 0 = H276.2.2.1 50 0 by subst hH294; rfl).trans rK.1) (And.intro ((show H294.2.2.1 52 0 = H276.2.2.1 52 0 by subst hH294; rfl).trans rK.2.1) ((show H294.2.2.1 53 0 = H276.2.2.1 53 0 by subst hH294; rfl).trans rK.2.2))
            have g305 : H294.1 11 4 0 = (H276.1 11 4 0) + (1 : Int) := by subst hH294; rfl
            have g306 : H294.1 11 12 0 = H276.1 11 12 0 := by subst hH294; rfl
            have g307 : H294.2.2.1 53 0 (H259.1 11 4 0) = H276.2.2.1 53 0 (H259.1 11 4 0) := by subst hH294; rfl
            have g308 : H294.2.2.1 52 0 (H243.1 11 4 0) = H276.2.2.1 52 0 (H243.1 11 4 0) := by subst hH294; rfl
            have g309 : H294.2.2.1 51 0 (H228.1 11 4 0) = H276.2.2.1 51 0 (H228.1 11 4 0) := by subst hH294; rfl
            have g310 : H294.2.2.1 50 0 (H211.1 11 4 0) = H276.2.2.1 50 0 (H211.1 11 4 0) := by subst hH294; rfl
            clear hH294
            have f311 : 0 ≤ H294.1 11 4 0 ∧ H294.1 11 4 0 ≤ 1500 := hT295.2.1 4
            refine J.run0 4 rfl ?_
            try dsimp only
            exact J.reti rfl rfl rfl ⟨_, rfl, rfl, hT295, hE296, k297, k298, k299, k300, k301, k302, k303, k304, (show gX H294 by first | exact gX.ex k0gX hE1' (by decide) | exact gX.submit k0gX rK.1 rK.2.1 rK.2.2 (by omega) (by omega) (fun _ => by omega) (fun _ _ => by omega) (fun _ => ⟨by omega, by omega⟩) (fun _ => by omega)), _, rfl, (show 0 ≤ ((H294.1 11 4 0) - (1 : Int)) ∧ ((H294.1 11 4 0) - (1 : Int)) ≤ 1499 from ⟨by omega, by omega⟩)⟩
          · have c312 : ¬ (H211.1 11 47 0 ≤ (0 : Int)) := hc
            clear hc
            refine J.run0 1 rfl ?_
            try dsimp only
            exact J.reti rfl rfl rfl ⟨_, rfl, rfl, hT212, hE213, k214, k215, k216, k217, k218, k219, k220, k221, (show gX H211 by first | exact gX.ex k0gX hE1' (by decide) | exact gX.submit k0gX rK.1 rK.2.1 rK.2.2 (by omega) (by omega) (fun _ => by omega) (fun _ _ => by omega) (fun _ => ⟨by omega, by omega⟩) (fun _ => by omega)), _, rfl, (show 0 ≤ ((0 : Int)) ∧ ((0 : Int)) ≤ 1499 from ⟨by omega, by omega⟩)⟩
      · have c313 : ¬ ((0 : Int) = (0 : Int)) := hc
        clear hc
        exfalso
        omega
-- 
theorem g_submit_l2 {kind a b v : Int} {H0 : jH} (hp0 : -2147483648 ≤ kind ∧ kind ≤ 2147483647) (hp1 : -2147483648 ≤ a ∧ a ≤ 2147483647) (hp2 : -2147483648 ≤ b ∧ b ≤ 2147483647) (hp3 : -2147483648 ≤ v ∧ v ≤ 2147483647) : ∀ (m : Nat), (∀ (H : jH) (lv : jL), 0 < (m : Int) → (0 ≤ kind ∧ kind ≤ 4) → (0 ≤ a ∧ a ≤ 199) → (kind = 0 → 0 ≤ b) → (kind = 0 → b ≤ 199) → (1 ≤ kind → kind ≤ 3 → 0 ≤ b) → (1 ≤ kind → kind ≤ 3 → b ≤ 15) → (kind ≤ 2 → 1 ≤ v) → (kind ≤ 2 → v ≤ 1000000) → (gX H) → gT H → jEx [4, 47] [50, 51, 52, 53] H H0 → gP H → gL H → gZ H → gQ H → gB H → gK H → gN H → gW H (H.1 11 19 0) → (lv = [(0, jT), (1, .inl kind), (2, .inl a), (3, .inl b), (4, .inl v)]) → J true (d + 1) 145 w (71, lv, [], H) (jN fun v w' H' => w' = w ∧ gT H' ∧ jEx [4, 47] [50, 51, 52, 53] H' H0 ∧ gP H' ∧ gL H' ∧ gZ H' ∧ gQ H' ∧ gB H' ∧ gK H' ∧ gN H' ∧ gW H' (H'.1 11 19 0) ∧ gX H' ∧ ∃ x, v = some (.inl x) ∧ 0 ≤ x ∧ x ≤ 1499)) := by
  intro m
  induction m with
  | zero =>
    skip
    · intro H lv hm hi0 hi1 hi2 hi3 hi4 hi5 hi6 hi7 hi8 hT hE k0gP k0gL k0gZ k0gQ k0gB k0gK k0gN k0gW hlv
      exfalso
      omega
  | succ m ih =>
    skip
    · intro H lv hm hi0 hi1 hi2 hi3 hi4 hi5 hi6 hi7 hi8 hT hE k0gP k0gL k0gZ k0gQ k0gB k0gK k0gN k0gW hlv
      rcases hlv with rfl
      have k0gX := hi8
      refine J.run0 2 rfl ?_
      try dsimp only
      refine J.icmp rfl rfl rfl ⟨(show -2147483648 ≤ kind ∧ kind ≤ 2147483647 from ⟨by omega, by omega⟩), (show -2147483648 ≤ (4 : Int) ∧ (4 : Int) ≤ 2147483647 from ⟨by omega, by omega⟩)⟩ (fun hc => ?_) (fun hc => ?_)
      · have c314 : ¬ (kind = (4 : Int)) := hc
        clear hc
        exact (g_submit_l1 (H0 := H0) (kind := kind) (a := a) (b := b) (v := v)  hp0 hp1 hp2 hp3 ((0 : Int).toNat + 1))  H _ (show 0 < _ by omega) (show 0 ≤ kind ∧ kind ≤ 4 from ⟨by omega, by omega⟩) (show 0 ≤ a ∧ a ≤ 199 from ⟨by omega, by omega⟩) (show kind = 0 → 0 ≤ b from by omega) (show kind = 0 → b ≤ 199 from by omega) (show 1 ≤ kind → kind ≤ 3 → 0 ≤ b from by omega) (show 1 ≤ kind → kind ≤ 3 → b ≤ 15 from by omega) (show kind ≤ 2 → 1 ≤ v from by omega) (show kind ≤ 2 → v ≤ 1000000 from by omega) (show kind = 4 → 0 ≤ b from by omega) (show kind = 4 → b ≤ 5999 from by omega) (show kind = 4 → 0 ≤ v from by omega) (show kind = 4 → v ≤ 5999 from by omega) (show gX H from (by assumption)) hT hE k0gP k0gL k0gZ k0gQ k0gB k0gK k0gN k0gW rfl
      · have c315 : ¬ (¬ (kind = (4 : Int))) := hc
        clear hc
        have f316 : 0 ≤ H.1 11 19 0 ∧ H.1 11 19 0 ≤ 6000 := hT.2.1 19
        refine J.run0 6 rfl ?_
        try dsimp only
        refine J.ins rfl rfl rfl rfl rfl rfl rfl rfl rfl (g_in (u := b) (a := (0 : Int)) (b := (H.1 11 19 0) - (1 : Int)) hT  (show -2147483648 ≤ (b) ∧ (b) ≤ 2147483647 from ⟨by omega, by omega⟩) (show -2147483648 ≤ ((0 : Int)) ∧ ((0 : Int)) ≤ 2147483647 from ⟨by omega, by omega⟩) (show -2147483648 ≤ ((H.1 11 19 0) - (1 : Int)) ∧ ((H.1 11 19 0) - (1 : Int)) ≤ 2147483647 from ⟨by omega, by omega⟩)) ?_
        rintro v w H ⟨rfl, rfl, x317, rfl, r318⟩
        have r318' : (x317 = 0 ∨ x317 = 1) ∧ (x317 = 1 → (b) ≥ ((0 : Int)) ∧ (b) ≤ ((H.1 11 19 0) - (1 : Int))) ∧ (x317 = 0 → (b) < ((0 : Int)) ∨ ((H.1 11 19 0) - (1 : Int)) < (b)) := r318
        try dsimp only [Option.toList, List.append, List.cons_append, List.nil_append]
        refine J.ifc rfl rfl rfl (show -2147483648 ≤ x317 ∧ x317 ≤ 2147483647 from ⟨by omega, by omega⟩) (fun hc => ?_) (fun hc => ?_)
        · have c319 : x317 = (0 : Int) := hc
          clear hc
          exact (g_submit_l0 (H0 := H0) (kind := kind) (a := a) (b := b) (v := v)  hp0 hp1 hp2 hp3 ((0 : Int).toNat + 1))  H _ (show 0 < _ by omega) (show gX H from (by assumption)) hT hE k0gP k0gL k0gZ k0gQ k0gB k0gK k0gN k0gW rfl
        · have c320 : ¬ (x317 = (0 : Int)) := hc
          clear hc
          refine J.run0 6 rfl ?_
          try dsimp only
          refine J.ins rfl rfl rfl rfl rfl rfl rfl rfl rfl (g_in (u := v) (a := (0 : Int)) (b := (H.1 11 19 0) - (1 : Int)) hT  (show -2147483648 ≤ (v) ∧ (v) ≤ 2147483647 from ⟨by omega, by omega⟩) (show -2147483648 ≤ ((0 : Int)) ∧ ((0 : Int)) ≤ 2147483647 from ⟨by omega, by omega⟩) (show -2147483648 ≤ ((H.1 11 19 0) - (1 : Int)) ∧ ((H.1 11 19 0) - (1 : Int)) ≤ 2147483647 from ⟨by omega, by omega⟩)) ?_
          rintro v w H ⟨rfl, rfl, x321, rfl, r322⟩
          have r322' : (x321 = 0 ∨ x321 = 1) ∧ (x321 = 1 → (v) ≥ ((0 : Int)) ∧ (v) ≤ ((H.1 11 19 0) - (1 : Int))) ∧ (x321 = 0 → (v) < ((0 : Int)) ∨ ((H.1 11 19 0) - (1 : Int)) < (v)) := r322
          try dsimp only [Option.toList, List.append, List.cons_append, List.nil_append]
          refine J.ifc rfl rfl rfl (show -2147483648 ≤ x321 ∧ x321 ≤ 2147483647 from ⟨by omega, by omega⟩) (fun hc => ?_) (fun hc => ?_)
          · have c323 : ¬ (x321 = (0 : Int)) := hc
            clear hc
            exact (g_submit_l1 (H0 := H0) (kind := kind) (a := a) (b := b) (v := v)  hp0 hp1 hp2 hp3 ((0 : Int).toNat + 1))  H _ (show 0 < _ by omega) (show 0 ≤ kind ∧ kind ≤ 4 from ⟨by omega, by omega⟩) (show 0 ≤ a ∧ a ≤ 199 from ⟨by omega, by omega⟩) (show kind = 0 → 0 ≤ b from by omega) (show kind = 0 → b ≤ 199 from by omega) (show 1 ≤ kind → kind ≤ 3 → 0 ≤ b from by omega) (show 1 ≤ kind → kind ≤ 3 → b ≤ 15 from by omega) (show kind ≤ 2 → 1 ≤ v from by omega) (show kind ≤ 2 → v ≤ 1000000 from by omega) (show kind = 4 → 0 ≤ b from by omega) (show kind = 4 → b ≤ 5999 from by omega) (show kind = 4 → 0 ≤ v from by omega) (show kind = 4 → v ≤ 5999 from by omega) (show gX H from (by assumption)) hT hE k0gP k0gL k0gZ k0gQ k0gB k0gK k0gN k0gW rfl
          · have c324 : ¬ (¬ (x321 = (0 : Int))) := hc
            clear hc
            exact (g_submit_l0 (H0 := H0) (kind := kind) (a := a) (b := b) (v := v)  hp0 hp1 hp2 hp3 ((0 : Int).toNat + 1))  H _ (show 0 < _ by omega) (show gX H from (by assumption)) hT hE k0gP k0gL k0gZ k0gQ k0gB k0gK k0gN k0gW rfl
-- 
theorem g_submit_l3 {kind a b v : Int} {H0 : jH} (hp0 : -2147483648 ≤ kind ∧ kind ≤ 2147483647) (hp1 : -2147483648 ≤ a ∧ a ≤ 2147483647) (hp2 : -2147483648 ≤ b ∧ b ≤ 2147483647) (hp3 : -2147483648 ≤ v ∧ v ≤ 2147483647) : ∀ (m : Nat), (∀ (H : jH) (lv : jL), 0 < (m : Int) → (0 ≤ kind ∧ kind ≤ 4) → (0 ≤ a ∧ a ≤ 199) → (kind = 0 → 0 ≤ b) → (kind = 0 → b ≤ 199) → (1 ≤ kind → kind ≤ 3 → 0 ≤ b) → (1 ≤ kind → kind ≤ 3 → b ≤ 15) → (gX H) → gT H → jEx [4, 47] [50, 51, 52, 53] H H0 → gP H → gL H → gZ H → gQ H → gB H → gK H → gN H → gW H (H.1 11 19 0) → (lv = [(0, jT), (1, .inl kind), (2, .inl a), (3, .inl b), (4, .inl v)]) → J true (d + 1) 145 w (54, lv, [], H) (jN fun v w' H' => w' = w ∧ gT H' ∧ jEx [4, 47] [50, 51, 52, 53] H' H0 ∧ gP H' ∧ gL H' ∧ gZ H' ∧ gQ H' ∧ gB H' ∧ gK H' ∧ gN H' ∧ gW H' (H'.1 11 19 0) ∧ gX H' ∧ ∃ x, v = some (.inl x) ∧ 0 ≤ x ∧ x ≤ 1499)) := by
  intro m
  induction m with
  | zero =>
    skip
    · intro H lv hm hi0 hi1 hi2 hi3 hi4 hi5 hi6 hT hE k0gP k0gL k0gZ k0gQ k0gB k0gK k0gN k0gW hlv
      exfalso
      omega
  | succ m ih =>
    skip
    · intro H lv hm hi0 hi1 hi2 hi3 hi4 hi5 hi6 hT hE k0gP k0gL k0gZ k0gQ k0gB k0gK k0gN k0gW hlv
      rcases hlv with rfl
      have k0gX := hi6
      refine J.run0 2 rfl ?_
      try dsimp only
      refine J.icmp rfl rfl rfl ⟨(show -2147483648 ≤ kind ∧ kind ≤ 2147483647 from ⟨by omega, by omega⟩), (show -2147483648 ≤ (3 : Int) ∧ (3 : Int) ≤ 2147483647 from ⟨by omega, by omega⟩)⟩ (fun hc => ?_) (fun hc => ?_)
      · have c325 : (3 : Int) ≤ kind := hc
        clear hc
        exact (g_submit_l2 (H0 := H0) (kind := kind) (a := a) (b := b) (v := v)  hp0 hp1 hp2 hp3 ((0 : Int).toNat + 1))  H _ (show 0 < _ by omega) (show 0 ≤ kind ∧ kind ≤ 4 from ⟨by omega, by omega⟩) (show 0 ≤ a ∧ a ≤ 199 from ⟨by omega, by omega⟩) (show kind = 0 → 0 ≤ b from by omega) (show kind = 0 → b ≤ 199 from by omega) (show 1 ≤ kind → kind ≤ 3 → 0 ≤ b from by omega) (show 1 ≤ kind → kind ≤ 3 → b ≤ 15 from by omega) (show kind ≤ 2 → 1 ≤ v from by omega) (show kind ≤ 2 → v ≤ 1000000 from by omega) (show gX H from (by assumption)) hT hE k0gP k0gL k0gZ k0gQ k0gB k0gK k0gN k0gW rfl
      · have c326 : ¬ ((3 : Int) ≤ kind) := hc
        clear hc
        refine J.run0 3 rfl ?_
        try dsimp only
        refine J.ins rfl rfl rfl rfl rfl rfl rfl rfl rfl (g_in (u := v) (a := (1 : Int)) (b := (1000000 : Int)) hT  (show -2147483648 ≤ (v) ∧ (v) ≤ 2147483647 from ⟨by omega, by omega⟩) (show -2147483648 ≤ ((1 : Int)) ∧ ((1 : Int)) ≤ 2147483647 from ⟨by omega, by omega⟩) (show -2147483648 ≤ ((1000000 : Int)) ∧ ((1000000 : Int)) ≤ 2147483647 from ⟨by omega, by omega⟩)) ?_
        rintro v w H ⟨rfl, rfl, x327, rfl, r328⟩
        have r328' : (x327 = 0 ∨ x327 = 1) ∧ (x327 = 1 → (v) ≥ ((1 : Int)) ∧ (v) ≤ ((1000000 : Int))) ∧ (x327 = 0 → (v) < ((1 : Int)) ∨ ((1000000 : Int)) < (v)) := r328
        try dsimp only [Option.toList, List.append, List.cons_append, List.nil_append]
        refine J.ifc rfl rfl rfl (show -2147483648 ≤ x327 ∧ x327 ≤ 2147483647 from ⟨by omega, by omega⟩) (fun hc => ?_) (fun hc => ?_)
        · have c329 : x327 = (0 : Int) := hc
          clear hc
          exact (g_submit_l0 (H0 := H0) (kind := kind) (a := a) (b := b) (v := v)  hp0 hp1 hp2 hp3 ((0 : Int).toNat + 1))  H _ (show 0 < _ by omega) (show gX H from (by assumption)) hT hE k0gP k0gL k0gZ k0gQ k0gB k0gK k0gN k0gW rfl
        · have c330 : ¬ (x327 = (0 : Int)) := hc
          clear hc
          exact (g_submit_l2 (H0 := H0) (kind := kind) (a := a) (b := b) (v := v)  hp0 hp1 hp2 hp3 ((0 : Int).toNat + 1))  H _ (show 0 < _ by omega) (show 0 ≤ kind ∧ kind ≤ 4 from ⟨by omega, by omega⟩) (show 0 ≤ a ∧ a ≤ 199 from ⟨by omega, by omega⟩) (show kind = 0 → 0 ≤ b from by omega) (show kind = 0 → b ≤ 199 from by omega) (show 1 ≤ kind → kind ≤ 3 → 0 ≤ b from by omega) (show 1 ≤ kind → kind ≤ 3 → b ≤ 15 from by omega) (show kind ≤ 2 → 1 ≤ v from by omega) (show kind ≤ 2 → v ≤ 1000000 from by omega) (show gX H from (by assumption)) hT hE k0gP k0gL k0gZ k0gQ k0gB k0gK k0gN k0gW rfl
-- 
theorem g_submit_l4 {kind a b v : Int} {H0 : jH} (hp0 : -2147483648 ≤ kind ∧ kind ≤ 2147483647) (hp1 : -2147483648 ≤ a ∧ a ≤ 2147483647) (hp2 : -2147483648 ≤ b ∧ b ≤ 2147483647) (hp3 : -2147483648 ≤ v ∧ v ≤ 2147483647) : ∀ (m : Nat), (∀ (H : jH) (lv : jL), 0 < (m : Int) → (0 ≤ kind ∧ kind ≤ 4) → (0 ≤ a ∧ a ≤ 199) → (kind = 0 → 0 ≤ b) → (kind = 0 → b ≤ 199) → (gX H) → gT H → jEx [4, 47] [50, 51, 52, 53] H H0 → gP H → gL H → gZ H → gQ H → gB H → gK H → gN H → gW H (H.1 11 19 0) → (lv = [(0, jT), (1, .inl kind), (2, .inl a), (3, .inl b), (4, .inl v)]) → J true (d + 1) 145 w (35, lv, [], H) (jN fun v w' H' => w' = w ∧ gT H' ∧ jEx [4, 47] [50, 51, 52, 53] H' H0 ∧ gP H' ∧ gL H' ∧ gZ H' ∧ gQ H' ∧ gB H' ∧ gK H' ∧ gN H' ∧ gW H' (H'.1 11 19 0) ∧ gX H' ∧ ∃ x, v = some (.inl x) ∧ 0 ≤ x ∧ x ≤ 1499)) := by
  intro m
  induction m with
  | zero =>
    skip
    · intro H lv hm hi0 hi1 hi2 hi3 hi4 hT hE k0gP k0gL k0gZ k0gQ k0gB k0gK k0gN k0gW hlv
      exfalso
      omega
  | succ m ih =>
    skip
    · intro H lv hm hi0 hi1 hi2 hi3 hi4 hT hE k0gP k0gL k0gZ k0gQ k0gB k0gK k0gN k0gW hlv
      rcases hlv with rfl
      have k0gX := hi4
      refine J.run0 1 rfl ?_
      try dsimp only
      refine J.ifc rfl rfl rfl (show -2147483648 ≤ kind ∧ kind ≤ 2147483647 from ⟨by omega, by omega⟩) (fun hc => ?_) (fun hc => ?_)
      · have c331 : kind ≤ (0 : Int) := hc
        clear hc
        exact (g_submit_l3 (H0 := H0) (kind := kind) (a := a) (b := b) (v := v)  hp0 hp1 hp2 hp3 ((0 : Int).toNat + 1))  H _ (show 0 < _ by omega) (show 0 ≤ kind ∧ kind ≤ 4 from ⟨by omega, by omega⟩) (show 0 ≤ a ∧ a ≤ 199 from ⟨by omega, by omega⟩) (show kind = 0 → 0 ≤ b from by omega) (show kind = 0 → b ≤ 199 from by omega) (show 1 ≤ kind → kind ≤ 3 → 0 ≤ b from by omega) (show 1 ≤ kind → kind ≤ 3 → b ≤ 15 from by omega) (show gX H from (by assumption)) hT hE k0gP k0gL k0gZ k0gQ k0gB k0gK k0gN k0gW rfl
      · have c332 : ¬ (kind ≤ (0 : Int)) := hc
        clear hc
        refine J.run0 2 rfl ?_
        try dsimp only
        refine J.icmp rfl rfl rfl ⟨(show -2147483648 ≤ kind ∧ kind ≤ 2147483647 from ⟨by omega, by omega⟩), (show -2147483648 ≤ (4 : Int) ∧ (4 : Int) ≤ 2147483647 from ⟨by omega, by omega⟩)⟩ (fun hc => ?_) (fun hc => ?_)
        · have c333 : (4 : Int) ≤ kind := hc
          clear hc
          exact (g_submit_l3 (H0 := H0) (kind := kind) (a := a) (b := b) (v := v)  hp0 hp1 hp2 hp3 ((0 : Int).toNat + 1))  H _ (show 0 < _ by omega) (show 0 ≤ kind ∧ kind ≤ 4 from ⟨by omega, by omega⟩) (show 0 ≤ a ∧ a ≤ 199 from ⟨by omega, by omega⟩) (show kind = 0 → 0 ≤ b from by omega) (show kind = 0 → b ≤ 199 from by omega) (show 1 ≤ kind → kind ≤ 3 → 0 ≤ b from by omega) (show 1 ≤ kind → kind ≤ 3 → b ≤ 15 from by omega) (show gX H from (by assumption)) hT hE k0gP k0gL k0gZ k0gQ k0gB k0gK k0gN k0gW rfl
        · have c334 : ¬ ((4 : Int) ≤ kind) := hc
          clear hc
          refine J.run0 3 rfl ?_
          try dsimp only
          refine J.ins rfl rfl rfl rfl rfl rfl rfl rfl rfl (g_in (u := b) (a := (0 : Int)) (b := (15 : Int)) hT  (show -2147483648 ≤ (b) ∧ (b) ≤ 2147483647 from ⟨by omega, by omega⟩) (show -2147483648 ≤ ((0 : Int)) ∧ ((0 : Int)) ≤ 2147483647 from ⟨by omega, by omega⟩) (show -2147483648 ≤ ((15 : Int)) ∧ ((15 : Int)) ≤ 2147483647 from ⟨by omega, by omega⟩)) ?_
          rintro v w H ⟨rfl, rfl, x335, rfl, r336⟩
          have r336' : (x335 = 0 ∨ x335 = 1) ∧ (x335 = 1 → (b) ≥ ((0 : Int)) ∧ (b) ≤ ((15 : Int))) ∧ (x335 = 0 → (b) < ((0 : Int)) ∨ ((15 : Int)) < (b)) := r336
          try dsimp only [Option.toList, List.append, List.cons_append, List.nil_append]
          refine J.ifc rfl rfl rfl (show -2147483648 ≤ x335 ∧ x335 ≤ 2147483647 from ⟨by omega, by omega⟩) (fun hc => ?_) (fun hc => ?_)
          · have c337 : x335 = (0 : Int) := hc
            clear hc
            exact (g_submit_l0 (H0 := H0) (kind := kind) (a := a) (b := b) (v := v)  hp0 hp1 hp2 hp3 ((0 : Int).toNat + 1))  H _ (show 0 < _ by omega) (show gX H from (by assumption)) hT hE k0gP k0gL k0gZ k0gQ k0gB k0gK k0gN k0gW rfl
          · have c338 : ¬ (x335 = (0 : Int)) := hc
            clear hc
            exact (g_submit_l3 (H0 := H0) (kind := kind) (a := a) (b := b) (v := v)  hp0 hp1 hp2 hp3 ((0 : Int).toNat + 1))  H _ (show 0 < _ by omega) (show 0 ≤ kind ∧ kind ≤ 4 from ⟨by omega, by omega⟩) (show 0 ≤ a ∧ a ≤ 199 from ⟨by omega, by omega⟩) (show kind = 0 → 0 ≤ b from by omega) (show kind = 0 → b ≤ 199 from by omega) (show 1 ≤ kind → kind ≤ 3 → 0 ≤ b from by omega) (show 1 ≤ kind → kind ≤ 3 → b ≤ 15 from by omega) (show gX H from (by assumption)) hT hE k0gP k0gL k0gZ k0gQ k0gB k0gK k0gN k0gW rfl
-- 
theorem g_submit {kind a b v : Int} {H : jH} (hT : gT H) (k0gP : gP H) (k0gL : gL H) (k0gZ : gZ H) (k0gQ : gQ H) (k0gB : gB H) (k0gK : gK H) (k0gN : gN H) (k0gW : gW H (H.1 11 19 0)) (k0gX : gX H) (hp0 : -2147483648 ≤ kind ∧ kind ≤ 2147483647) (hp1 : -2147483648 ≤ a ∧ a ≤ 2147483647) (hp2 : -2147483648 ≤ b ∧ b ≤ 2147483647) (hp3 : -2147483648 ≤ v ∧ v ≤ 2147483647) : J true (d + 1) 145 w (0, jargs 0 [jT, .inl kind, .inl a, .inl b, .inl v], [], H) (jN fun v w' H' => w' = w ∧ gT H' ∧ jEx [4, 47] [50, 51, 52, 53] H' H ∧ gP H' ∧ gL H' ∧ gZ H' ∧ gQ H' ∧ gB H' ∧ gK H' ∧ gN H' ∧ gW H' (H'.1 11 19 0) ∧ gX H' ∧ ∃ x, v = some (.inl x) ∧ 0 ≤ x ∧ x ≤ 1499) := by
  have hE : jEx [4, 47] [50, 51, 52, 53] H H := jEx.refl _ _ _
  refine J.run0 3 rfl ?_
  try dsimp only
  refine J.ins rfl rfl rfl rfl rfl rfl rfl rfl rfl (g_in (u := kind) (a := (0 : Int)) (b := (4 : Int)) hT  (show -2147483648 ≤ (kind) ∧ (kind) ≤ 2147483647 from ⟨by omega, by omega⟩) (show -2147483648 ≤ ((0 : Int)) ∧ ((0 : Int)) ≤ 2147483647 from ⟨by omega, by omega⟩) (show -2147483648 ≤ ((4 : Int)) ∧ ((4 : Int)) ≤ 2147483647 from ⟨by omega, by omega⟩)) ?_
  rintro v w H ⟨rfl, rfl, x339, rfl, r340⟩
  have r340' : (x339 = 0 ∨ x339 = 1) ∧ (x339 = 1 → (kind) ≥ ((0 : Int)) ∧ (kind) ≤ ((4 : Int))) ∧ (x339 = 0 → (kind) < ((0 : Int)) ∨ ((4 : Int)) < (kind)) := r340
  try dsimp only [Option.toList, List.append, List.cons_append, List.nil_append]
  refine J.ifc rfl rfl rfl (show -2147483648 ≤ x339 ∧ x339 ≤ 2147483647 from ⟨by omega, by omega⟩) (fun hc => ?_) (fun hc => ?_)
  · have c341 : x339 = (0 : Int) := hc
    clear hc
    exact (g_submit_l0 (H0 := H) (kind := kind) (a := a) (b := b) (v := v)  hp0 hp1 hp2 hp3 ((0 : Int).toNat + 1))  H _ (show 0 < _ by omega) (show gX H from (by assumption)) hT hE k0gP k0gL k0gZ k0gQ k0gB k0gK k0gN k0gW rfl
  · have c342 : ¬ (x339 = (0 : Int)) := hc
    clear hc
    refine J.run0 3 rfl ?_
    try dsimp only
    refine J.ins rfl rfl rfl rfl rfl rfl rfl rfl rfl (g_in (u := a) (a := (0 : Int)) (b := (199 : Int)) hT  (show -2147483648 ≤ (a) ∧ (a) ≤ 2147483647 from ⟨by omega, by omega⟩) (show -2147483648 ≤ ((0 : Int)) ∧ ((0 : Int)) ≤ 2147483647 from ⟨by omega, by omega⟩) (show -2147483648 ≤ ((199 : Int)) ∧ ((199 : Int)) ≤ 2147483647 from ⟨by omega, by omega⟩)) ?_
    rintro v w H ⟨rfl, rfl, x343, rfl, r344⟩
    have r344' : (x343 = 0 ∨ x343 = 1) ∧ (x343 = 1 → (a) ≥ ((0 : Int)) ∧ (a) ≤ ((199 : Int))) ∧ (x343 = 0 → (a) < ((0 : Int)) ∨ ((199 : Int)) < (a)) := r344
    try dsimp only [Option.toList, List.append, List.cons_append, List.nil_append]
    refine J.ifc rfl rfl rfl (show -2147483648 ≤ x343 ∧ x343 ≤ 2147483647 from ⟨by omega, by omega⟩) (fun hc => ?_) (fun hc => ?_)
    · have c345 : x343 = (0 : Int) := hc
      clear hc
      exact (g_submit_l0 (H0 := H) (kind := kind) (a := a) (b := b) (v := v)  hp0 hp1 hp2 hp3 ((0 : Int).toNat + 1))  H _ (show 0 < _ by omega) (show gX H from (by assumption)) hT hE k0gP k0gL k0gZ k0gQ k0gB k0gK k0gN k0gW rfl
    · have c346 : ¬ (x343 = (0 : Int)) := hc
      clear hc
      refine J.run0 1 rfl ?_
      try dsimp only
      refine J.ifc rfl rfl rfl (show -2147483648 ≤ kind ∧ kind ≤ 2147483647 from ⟨by omega, by omega⟩) (fun hc => ?_) (fun hc => ?_)
      · have c347 : ¬ (kind = (0 : Int)) := hc
        clear hc
        exact (g_submit_l4 (H0 := H) (kind := kind) (a := a) (b := b) (v := v)  hp0 hp1 hp2 hp3 ((0 : Int).toNat + 1))  H _ (show 0 < _ by omega) (show 0 ≤ kind ∧ kind ≤ 4 from ⟨by omega, by omega⟩) (show 0 ≤ a ∧ a ≤ 199 from ⟨by omega, by omega⟩) (show kind = 0 → 0 ≤ b from by omega) (show kind = 0 → b ≤ 199 from by omega) (show gX H from (by assumption)) hT hE k0gP k0gL k0gZ k0gQ k0gB k0gK k0gN k0gW rfl
      · have c348 : ¬ (¬ (kind = (0 : Int))) := hc
        clear hc
        refine J.run0 3 rfl ?_
        try dsimp only
        refine J.ins rfl rfl rfl rfl rfl rfl rfl rfl rfl (g_in (u := b) (a := (0 : Int)) (b := (199 : Int)) hT  (show -2147483648 ≤ (b) ∧ (b) ≤ 2147483647 from ⟨by omega, by omega⟩) (show -2147483648 ≤ ((0 : Int)) ∧ ((0 : Int)) ≤ 2147483647 from ⟨by omega, by omega⟩) (show -2147483648 ≤ ((199 : Int)) ∧ ((199 : Int)) ≤ 2147483647 from ⟨by omega, by omega⟩)) ?_
        rintro v w H ⟨rfl, rfl, x349, rfl, r350⟩
        have r350' : (x349 = 0 ∨ x349 = 1) ∧ (x349 = 1 → (b) ≥ ((0 : Int)) ∧ (b) ≤ ((199 : Int))) ∧ (x349 = 0 → (b) < ((0 : Int)) ∨ ((199 : Int)) < (b)) := r350
        try dsimp only [Option.toList, List.append, List.cons_append, List.nil_append]
        refine J.ifc rfl rfl rfl (show -2147483648 ≤ x349 ∧ x349 ≤ 2147483647 from ⟨by omega, by omega⟩) (fun hc => ?_) (fun hc => ?_)
        · have c351 : x349 = (0 : Int) := hc
          clear hc
          exact (g_submit_l0 (H0 := H) (kind := kind) (a := a) (b := b) (v := v)  hp0 hp1 hp2 hp3 ((0 : Int).toNat + 1))  H _ (show 0 < _ by omega) (show gX H from (by assumption)) hT hE k0gP k0gL k0gZ k0gQ k0gB k0gK k0gN k0gW rfl
        · have c352 : ¬ (x349 = (0 : Int)) := hc
          clear hc
          exact (g_submit_l4 (H0 := H) (kind := kind) (a := a) (b := b) (v := v)  hp0 hp1 hp2 hp3 ((0 : Int).toNat + 1))  H _ (show 0 < _ by omega) (show 0 ≤ kind ∧ kind ≤ 4 from ⟨by omega, by omega⟩) (show 0 ≤ a ∧ a ≤ 199 from ⟨by omega, by omega⟩) (show kind = 0 → 0 ≤ b from by omega) (show kind = 0 → b ≤ 199 from by omega) (show gX H from (by assumption)) hT hE k0gP k0gL k0gZ k0gQ k0gB k0gK k0gN k0gW rfl
end
