-- M: X11_isDone
section
variable {d : Nat} {w : jW} 
set_option maxRecDepth 20000 in
set_option maxHeartbeats 8000000 in
theorem g_isDone_l0 {t p h : Int} {H0 : jH} (hp0 : 0 ≤ t ∧ t < 1500) (hp1 : 0 ≤ p ∧ p < 16) (hp2 : 0 ≤ h ∧ h ≤ 300) : ∀ (m : Nat), (∀ (x n a b v rest : Int) (H : jH) (lv : jL), 200 - x < (m : Int) → (0 ≤ x ∧ x ≤ 200) → (0 ≤ n ∧ n < 16) → (gS H (H0.1 11 56 0) = 201600) → (H.1 11 56 0 = H0.1 11 56 0) → gT H → jEx [56, 57] [99, 100, 101, 105, 102, 103, 104] H H0 → gX H → (lv = [(9, .inl x), (8, .inl n), (7, .inl rest), (6, .inl v), (5, .inl b), (4, .inl a), (0, jT), (1, .inl t), (2, .inl p), (3, .inl h)] ∨ (∃ j10 : Int, lv = [(9, .inl x), (10, .inl j10), (8, .inl n), (7, .inl rest), (6, .inl v), (5, .inl b), (4, .inl a), (0, jT), (1, .inl t), (2, .inl p), (3, .inl h)])) → J true (d + 1) 119 w (446, lv, [], H) (jN fun v w' H' => w' = w ∧ gT H' ∧ jEx [56, 57] [99, 100, 101, 105, 102, 103, 104] H' H0 ∧ gX H' ∧ gL H' ∧ ∃ x, v = some (.inl x) ∧ 0 ≤ x ∧ x ≤ 1)) := by
  intro m
  induction m with
  | zero =>
    skip
    · intro x n a b v rest H lv hm hi0 hi1 hi2 hi3 hT hE k0gX hlv
      exfalso
      omega
  | succ m ih =>
    skip
    · intro x n a b v rest H lv hm hi0 hi1 hi2 hi3 hT hE k0gX hlv
      rcases hlv with rfl | ⟨j10, rfl⟩
      · skip
        refine J.run0 2 rfl ?_
        try dsimp only
        refine J.icmp rfl rfl rfl ⟨(show -2147483648 ≤ x ∧ x ≤ 2147483647 from ⟨by omega, by omega⟩), (show -2147483648 ≤ (200 : Int) ∧ (200 : Int) ≤ 2147483647 from ⟨by omega, by omega⟩)⟩ (fun hc => ?_) (fun hc => ?_)
        · have c1 : (200 : Int) ≤ x := hc
          clear hc
          refine J.run 5 rfl (show ((1 : Int) = 0 ∨ (1 : Int) = 1) ∧ 0 ≤ n ∧ n < 16 from ⟨by omega, by omega, by omega⟩) ?_
          try dsimp only
          refine J.gn fun H2 hH2 => ?_
          have hT3 : gT H2 := by rw [hH2]; exact gT.upd hT (show 0 ≤ (1 : Int) ∧ (1 : Int) ≤ 1 from ⟨by omega, by omega⟩) (fun z => absurd z (by decide))
          have hE4 : jEx [56, 57] [99, 100, 101, 105, 102, 103, 104] H2 H0 := by rw [hH2]; exact jEx.row hE (by decide)
          have k5 : gX H2 := by rw [hH2]; exact k0gX
          have g6 : H2.2.2.1 105 0 (n) = (1 : Int) := by subst hH2; exact if_pos rfl
          have g7 : H2.1 11 12 0 = H.1 11 12 0 := by subst hH2; rfl
          have g8 : H2.1 11 56 0 = H.1 11 56 0 := by subst hH2; rfl
          have q9 : gS H2 (H0.1 11 56 0) = gS H (H0.1 11 56 0) := by subst hH2; rfl
          clear hH2
          refine J.run0 1 rfl ?_
          try dsimp only
          exact J.retb rfl rfl rfl (show (1 : Int) = 0 ∨ (1 : Int) = 1 by omega) ⟨_, rfl, rfl, hT3, hE4, k5, (show gL H2 by unfold gL; first | (rw [show H2.1 11 56 0 = H0.1 11 56 0 by omega]; omega) | (rw [show H2.1 11 56 0 = H0.1 11 56 0 + 1 by omega, gS.more (by omega)]; omega)), _, rfl, (show 0 ≤ ((1 : Int)) ∧ ((1 : Int)) ≤ 1 from ⟨by omega, by omega⟩)⟩
        · have c10 : ¬ ((200 : Int) ≤ x) := hc
          clear hc
          have q11 : H.2.2.1 100 0 (((16 : Int) * x) + n) ≤ gS H (H0.1 11 56 0) := gS.bnd hT _ (by omega) (by omega)
          have f12 : 0 ≤ H.2.2.1 100 0 (((16 : Int) * x) + n) ∧ H.2.2.1 100 0 (((16 : Int) * x) + n) ≤ 201600 := hT.1 100 (((16 : Int) * x) + n)
          refine J.run 23 rfl ⟨(show 0 ≤ ((16 : Int) * x) + n ∧ ((16 : Int) * x) + n < 3200 from ⟨by omega, by omega⟩), (show 0 ≤ H.2.2.1 100 0 (((16 : Int) * x) + n) ∧ H.2.2.1 100 0 (((16 : Int) * x) + n) ≤ 2147483647 ∧ 0 < (4 : Int) ∧ (4 : Int) ≤ 2147483647 from ⟨by omega, by omega, by omega, by omega⟩), (show 0 ≤ ((16 : Int) * x) + n ∧ ((16 : Int) * x) + n < 3200 from ⟨by omega, by omega⟩), (show 0 ≤ ((16 : Int) * x) + n ∧ ((16 : Int) * x) + n < 3200 from ⟨by omega, by omega⟩)⟩ ?_
          try dsimp only
          refine J.gn fun H13 hH13 => ?_
          have hT14 : gT H13 := by rw [hH13]; exact gT.upd hT (show 0 ≤ (H.2.2.1 100 0 (((16 : Int) * x) + n)) - ((H.2.2.1 100 0 (((16 : Int) * x) + n)) / ((4 : Int))) ∧ (H.2.2.1 100 0 (((16 : Int) * x) + n)) - ((H.2.2.1 100 0 (((16 : Int) * x) + n)) / ((4 : Int))) ≤ 201600 from ⟨by omega, by omega⟩) (fun z => absurd z (by decide))
          have hE15 : jEx [56, 57] [99, 100, 101, 105, 102, 103, 104] H13 H0 := by rw [hH13]; exact jEx.row hE (by decide)
          have k16 : gX H13 := by rw [hH13]; exact k0gX
          have g17 : H13.2.2.1 100 0 (((16 : Int) * x) + n) = (H.2.2.1 100 0 (((16 : Int) * x) + n)) - ((H.2.2.1 100 0 (((16 : Int) * x) + n)) / ((4 : Int))) := by subst hH13; exact if_pos rfl
          have g18 : H13.1 11 12 0 = H.1 11 12 0 := by subst hH13; rfl
          have g19 : H13.1 11 56 0 = H.1 11 56 0 := by subst hH13; rfl
          have q20 : gS H13 (H0.1 11 56 0) = gS H (H0.1 11 56 0) + ((H.2.2.1 100 0 (((16 : Int) * x) + n)) - ((H.2.2.1 100 0 (((16 : Int) * x) + n)) / ((4 : Int)))) - H.2.2.1 100 0 (((16 : Int) * x) + n) := by subst hH13; exact gS.w_bond (by omega) (by omega)
          clear hH13
          have q22 : H13.1 11 57 0 ≤ gS H13 (H0.1 11 56 0) := gS.brn hT14 _
          have f23 : 0 ≤ H13.1 11 57 0 ∧ H13.1 11 57 0 ≤ 201600 := hT14.2.1 57
          refine J.run0 6 rfl ?_
          try dsimp only
          refine J.gn fun H24 hH24 => ?_
          have hT25 : gT H24 := by rw [hH24]; exact gT.num (f := 57) hT14 (show 0 ≤ (H13.1 11 57 0) + ((H.2.2.1 100 0 (((16 : Int) * x) + n)) / ((4 : Int))) ∧ (H13.1 11 57 0) + ((H.2.2.1 100 0 (((16 : Int) * x) + n)) / ((4 : Int))) ≤ 201600 from ⟨by omega, by omega⟩) (by decide) (fun z => absurd z (by decide))
          have hE26 : jEx [56, 57] [99, 100, 101, 105, 102, 103, 104] H24 H0 := by rw [hH24]; exact jEx.num hE15 (by decide)
          have k27 : gX H24 := by rw [hH24]; exact k16
          have g28 : H24.1 11 57 0 = (H13.1 11 57 0) + ((H.2.2.1 100 0 (((16 : Int) * x) + n)) / ((4 : Int))) := by subst hH24; rfl
          have g29 : H24.1 11 12 0 = H13.1 11 12 0 := by subst hH24; rfl
          have g30 : H24.1 11 56 0 = H13.1 11 56 0 := by subst hH24; rfl
          have q31 : gS H24 (H0.1 11 56 0) = gS H13 (H0.1 11 56 0) + ((H13.1 11 57 0) + ((H.2.2.1 100 0 (((16 : Int) * x) + n)) / ((4 : Int)))) - H13.1 11 57 0 := by subst hH24; exact gS.w_burnt
          have g32 : H24.2.2.1 100 0 (((16 : Int) * x) + n) = H13.2.2.1 100 0 (((16 : Int) * x) + n) := by subst hH24; rfl
          clear hH24
          refine J.run0 2 rfl ?_
          try dsimp only
          exact ih (x + 1) (n) (a) (b) (v) (rest) H24 _ (show 200 - (x + 1) < _ by omega) (show 0 ≤ (x + 1) ∧ (x + 1) ≤ 200 from ⟨by omega, by omega⟩) (show 0 ≤ (n) ∧ (n) < 16 from ⟨by omega, by omega⟩) (show gS H24 (H0.1 11 56 0) = 201600 from by omega) (show H24.1 11 56 0 = H0.1 11 56 0 from by omega) hT25 hE26 k27 (Or.inr (⟨_, rfl⟩))
      · skip
        refine J.run0 2 rfl ?_
        try dsimp only
        refine J.icmp rfl rfl rfl ⟨(show -2147483648 ≤ x ∧ x ≤ 2147483647 from ⟨by omega, by omega⟩), (show -2147483648 ≤ (200 : Int) ∧ (200 : Int) ≤ 2147483647 from ⟨by omega, by omega⟩)⟩ (fun hc => ?_) (fun hc => ?_)
        · have c33 : (200 : Int) ≤ x := hc
          clear hc
          refine J.run 5 rfl (show ((1 : Int) = 0 ∨ (1 : Int) = 1) ∧ 0 ≤ n ∧ n < 16 from ⟨by omega, by omega, by omega⟩) ?_
          try dsimp only
          refine J.gn fun H34 hH34 => ?_
          have hT35 : gT H34 := by rw [hH34]; exact gT.upd hT (show 0 ≤ (1 : Int) ∧ (1 : Int) ≤ 1 from ⟨by omega, by omega⟩) (fun z => absurd z (by decide))
          have hE36 : jEx [56, 57] [99, 100, 101, 105, 102, 103, 104] H34 H0 := by rw [hH34]; exact jEx.row hE (by decide)
          have k37 : gX H34 := by rw [hH34]; exact k0gX
          have g38 : H34.2.2.1 105 0 (n) = (1 : Int) := by subst hH34; exact if_pos rfl
          have g39 : H34.1 11 12 0 = H.1 11 12 0 := by subst hH34; rfl
          have g40 : H34.1 11 56 0 = H.1 11 56 0 := by subst hH34; rfl
          have q41 : gS H34 (H0.1 11 56 0) = gS H (H0.1 11 56 0) := by subst hH34; rfl
          clear hH34
          refine J.run0 1 rfl ?_
          try dsimp only
          exact J.retb rfl rfl rfl (show (1 : Int) = 0 ∨ (1 : Int) = 1 by omega) ⟨_, rfl, rfl, hT35, hE36, k37, (show gL H34 by unfold gL; first | (rw [show H34.1 11 56 0 = H0.1 11 56 0 by omega]; omega) | (rw [show H34.1 11 56 0 = H0.1 11 56 0 + 1 by omega, gS.more (by omega)]; omega)), _, rfl, (show 0 ≤ ((1 : Int)) ∧ ((1 : Int)) ≤ 1 from ⟨by omega, by omega⟩)⟩
        · have c42 : ¬ ((200 : Int) ≤ x) := hc
          clear hc
          have q43 : H.2.2.1 100 0 (((16 : Int) * x) + n) ≤ gS H (H0.1 11 56 0) := gS.bnd hT _ (by omega) (by omega)
          have f44 : 0 ≤ H.2.2.1 100 0 (((16 : Int) * x) + n) ∧ H.2.2.1 100 0 (((16 : Int) * x) + n) ≤ 201600 := hT.1 100 (((16 : Int) * x) + n)
          refine J.run 23 rfl ⟨(show 0 ≤ ((16 : Int) * x) + n ∧ ((16 : Int) * x) + n < 3200 from ⟨by omega, by omega⟩), (show 0 ≤ H.2.2.1 100 0 (((16 : Int) * x) + n) ∧ H.2.2.1 100 0 (((16 : Int) * x) + n) ≤ 2147483647 ∧ 0 < (4 : Int) ∧ (4 : Int) ≤ 2147483647 from ⟨by omega, by omega, by omega, by omega⟩), (show 0 ≤ ((16 : Int) * x) + n ∧ ((16 : Int) * x) + n < 3200 from ⟨by omega, by omega⟩), (show 0 ≤ ((16 : Int) * x) + n ∧ ((16 : Int) * x) + n < 3200 from ⟨by omega, by omega⟩)⟩ ?_
          try dsimp only
          refine J.gn fun H45 hH45 => ?_
          have hT46 : gT H45 := by rw [hH45]; exact gT.upd hT (show 0 ≤ (H.2.2.1 100 0 (((16 : Int) * x) + n)) - ((H.2.2.1 100 0 (((16 : Int) * x) + n)) / ((4 : Int))) ∧ (H.2.2.1 100 0 (((16 : Int) * x) + n)) - ((H.2.2.1 100 0 (((16 : Int) * x) + n)) / ((4 : Int))) ≤ 201600 from ⟨by omega, by omega⟩) (fun z => absurd z (by decide))
          have hE47 : jEx [56, 57] [99, 100, 101, 105, 102, 103, 104] H45 H0 := by rw [hH45]; exact jEx.row hE (by decide)
          have k48 : gX H45 := by rw [hH45]; exact k0gX
          have g49 : H45.2.2.1 100 0 (((16 : Int) * x) + n) = (H.2.2.1 100 0 (((16 : Int) * x) + n)) - ((H.2.2.1 100 0 (((16 : Int) * x) + n)) / ((4 : Int))) := by subst hH45; exact if_pos rfl
          have g50 : H45.1 11 12 0 = H.1 11 12 0 := by subst hH45; rfl
          have g51 : H45.1 11 56 0 = H.1 11 56 0 := by subst hH45; rfl
          have q52 : gS H45 (H0.1 11 56 0) = gS H (H0.1 11 56 0) + ((H.2.2.1 100 0 (((16 : Int) * x) + n)) - ((H.2.2.1 100 0 (((16 : Int) * x) + n)) / ((4 : Int)))) - H.2.2.1 100 0 (((16 : Int) * x) + n) := by subst hH45; exact gS.w_bond (by omega) (by omega)
          clear hH45
          have q54 : H45.1 11 57 0 ≤ gS H45 (H0.1 11 56 0) := gS.brn hT46 _
          have f55 : 0 ≤ H45.1 11 57 0 ∧ H45.1 11 57 0 ≤ 201600 := hT46.2.1 57
          refine J.run0 6 rfl ?_
          try dsimp only
          refine J.gn fun H56 hH56 => ?_
          have hT57 : gT H56 := by rw [hH56]; exact gT.num (f := 57) hT46 (show 0 ≤ (H45.1 11 57 0) + ((H.2.2.1 100 0 (((16 : Int) * x) + n)) / ((4 : Int))) ∧ (H45.1 11 57 0) + ((H.2.2.1 100 0 (((16 : Int) * x) + n)) / ((4 : Int))) ≤ 201600 from ⟨by omega, by omega⟩) (by decide) (fun z => absurd z (by decide))
          have hE58 : jEx [56, 57] [99, 100, 101, 105, 102, 103, 104] H56 H0 := by rw [hH56]; exact jEx.num hE47 (by decide)
          have k59 : gX H56 := by rw [hH56]; exact k48
          have g60 : H56.1 11 57 0 = (H45.1 11 57 0) + ((H.2.2.1 100 0 (((16 : Int) * x) + n)) / ((4 : Int))) := by subst hH56; rfl
          have g61 : H56.1 11 12 0 = H45.1 11 12 0 := by subst hH56; rfl
          have g62 : H56.1 11 56 0 = H45.1 11 56 0 := by subst hH56; rfl
          have q63 : gS H56 (H0.1 11 56 0) = gS H45 (H0.1 11 56 0) + ((H45.1 11 57 0) + ((H.2.2.1 100 0 (((16 : Int) * x) + n)) / ((4 : Int)))) - H45.1 11 57 0 := by subst hH56; exact gS.w_burnt
          have g64 : H56.2.2.1 100 0 (((16 : Int) * x) + n) = H45.2.2.1 100 0 (((16 : Int) * x) + n) := by subst hH56; rfl
          clear hH56
          refine J.run0 2 rfl ?_
          try dsimp only
          exact ih (x + 1) (n) (a) (b) (v) (rest) H56 _ (show 200 - (x + 1) < _ by omega) (show 0 ≤ (x + 1) ∧ (x + 1) ≤ 200 from ⟨by omega, by omega⟩) (show 0 ≤ (n) ∧ (n) < 16 from ⟨by omega, by omega⟩) (show gS H56 (H0.1 11 56 0) = 201600 from by omega) (show H56.1 11 56 0 = H0.1 11 56 0 from by omega) hT57 hE58 k59 (Or.inr (⟨_, rfl⟩))
set_option maxRecDepth 20000 in
set_option maxHeartbeats 8000000 in
theorem g_isDone_l1 {t p h : Int} {H0 : jH} (hp0 : 0 ≤ t ∧ t < 1500) (hp1 : 0 ≤ p ∧ p < 16) (hp2 : 0 ≤ h ∧ h ≤ 300) : ∀ (m : Nat), (∀ (a b v rest : Int) (H : jH) (lv : jL), 500 < (m : Int) → (0 ≤ a ∧ a ≤ 199) → (0 ≤ b) → (1 ≤ H.2.2.1 99 0 (a)) → (a = p → rest = H.2.2.1 99 0 (a)) → (¬ a = p → rest = H.2.2.1 99 0 (a) - 1) → (H.2.2.1 50 0 (t) = 0 → b ≤ 199) → (H.2.2.1 50 0 (t) = 0 → v ≤ rest) → (1 ≤ H.2.2.1 50 0 (t) → H.2.2.1 50 0 (t) ≤ 3 → b ≤ 15) → (H.2.2.1 50 0 (t) = 1 → v ≤ rest) → (H.2.2.1 50 0 (t) = 2 → v ≤ H.2.2.1 100 0 (16 * a + b)) → (H.2.2.1 50 0 (t) = 2 → ¬ H.1 11 56 0 = 32) → (b ≤ 5999) → (¬ H.2.2.1 50 0 (t) = 3 → 0 ≤ v) → (gS H (H0.1 11 56 0) = 201600) → (H.1 11 56 0 = H0.1 11 56 0) → gT H → jEx [56, 57] [99, 100, 101, 105, 102, 103, 104] H H0 → gX H → (lv = [(7, .inl rest), (6, .inl v), (5, .inl b), (4, .inl a), (0, jT), (1, .inl t), (2, .inl p), (3, .inl h)]) → J true (d + 1) 119 w (226, lv, [], H) (jN fun v w' H' => w' = w ∧ gT H' ∧ jEx [56, 57] [99, 100, 101, 105, 102, 103, 104] H' H0 ∧ gX H' ∧ gL H' ∧ ∃ x, v = some (.inl x) ∧ 0 ≤ x ∧ x ≤ 1)) := by
  intro m
  induction m with
  | zero =>
    skip
    · intro a b v rest H lv hm hi0 hi1 hi2 hi3 hi4 hi5 hi6 hi7 hi8 hi9 hi10 hi11 hi12 hi13 hi14 hT hE k0gX hlv
      exfalso
      omega
  | succ m ih =>
    skip
    · intro a b v rest H lv hm hi0 hi1 hi2 hi3 hi4 hi5 hi6 hi7 hi8 hi9 hi10 hi11 hi12 hi13 hi14 hT hE k0gX hlv
      rcases hlv with rfl
      have q65 : H.2.2.1 99 0 (a) ≤ gS H (H0.1 11 56 0) := gS.bal hT _ (by omega) (by omega)
      have f66 : 0 ≤ H.2.2.1 99 0 (a) ∧ H.2.2.1 99 0 (a) ≤ 201600 := hT.1 99 (a)
      refine J.run 8 rfl ⟨(show 0 ≤ a ∧ a < 200 from ⟨by omega, by omega⟩), (show 0 ≤ a ∧ a < 200 from ⟨by omega, by omega⟩)⟩ ?_
      try dsimp only
      refine J.gn fun H67 hH67 => ?_
      have hT68 : gT H67 := by rw [hH67]; exact gT.upd hT (show 0 ≤ (H.2.2.1 99 0 (a)) - (1 : Int) ∧ (H.2.2.1 99 0 (a)) - (1 : Int) ≤ 201600 from ⟨by omega, by omega⟩) (fun z => absurd z (by decide))
      have hE69 : jEx [56, 57] [99, 100, 101, 105, 102, 103, 104] H67 H0 := by rw [hH67]; exact jEx.row hE (by decide)
      have k70 : gX H67 := by rw [hH67]; exact k0gX
      have g71 : H67.2.2.1 99 0 (a) = (H.2.2.1 99 0 (a)) - (1 : Int) := by subst hH67; exact if_pos rfl
      have g72 : H67.1 11 12 0 = H.1 11 12 0 := by subst hH67; rfl
      have g73 : H67.1 11 56 0 = H.1 11 56 0 := by subst hH67; rfl
      have q74 : gS H67 (H0.1 11 56 0) = gS H (H0.1 11 56 0) + ((H.2.2.1 99 0 (a)) - (1 : Int)) - H.2.2.1 99 0 (a) := by subst hH67; exact gS.w_balance (by omega) (by omega)
      have g76 : H67.2.2.1 50 0 (t) = H.2.2.1 50 0 (t) := by subst hH67; rfl
      have g77 : H67.2.2.1 100 0 (16 * a + b) = H.2.2.1 100 0 (16 * a + b) := by subst hH67; rfl
      clear hH67
      have g78 : p = a → H67.2.2.1 99 0 (p) = H67.2.2.1 99 0 (a) := fun z => by rw [z]
      have q79 : H67.2.2.1 99 0 (p) ≤ gS H67 (H0.1 11 56 0) := gS.bal hT68 _ (by omega) (by omega)
      have f80 : 0 ≤ H67.2.2.1 99 0 (p) ∧ H67.2.2.1 99 0 (p) ≤ 201600 := hT68.1 99 (p)
      refine J.run 8 rfl ⟨(show 0 ≤ p ∧ p < 200 from ⟨by omega, by omega⟩), (show 0 ≤ p ∧ p < 200 from ⟨by omega, by omega⟩)⟩ ?_
      try dsimp only
      refine J.gn fun H81 hH81 => ?_
      have hT82 : gT H81 := by rw [hH81]; exact gT.upd hT68 (show 0 ≤ (H67.2.2.1 99 0 (p)) + (1 : Int) ∧ (H67.2.2.1 99 0 (p)) + (1 : Int) ≤ 201600 from ⟨by omega, by omega⟩) (fun z => absurd z (by decide))
      have hE83 : jEx [56, 57] [99, 100, 101, 105, 102, 103, 104] H81 H0 := by rw [hH81]; exact jEx.row hE69 (by decide)
      have k84 : gX H81 := by rw [hH81]; exact k70
      have g85 : H81.2.2.1 99 0 (p) = (H67.2.2.1 99 0 (p)) + (1 : Int) := by subst hH81; exact if_pos rfl
      have g86 : H81.1 11 12 0 = H67.1 11 12 0 := by subst hH81; rfl
      have g87 : H81.1 11 56 0 = H67.1 11 56 0 := by subst hH81; rfl
      have q88 : gS H81 (H0.1 11 56 0) = gS H67 (H0.1 11 56 0) + ((H67.2.2.1 99 0 (p)) + (1 : Int)) - H67.2.2.1 99 0 (p) := by subst hH81; exact gS.w_balance (by omega) (by omega)
      have g89 : (a = p → H81.2.2.1 99 0 (a) = (H67.2.2.1 99 0 (p)) + (1 : Int)) ∧ (¬ a = p → H81.2.2.1 99 0 (a) = H67.2.2.1 99 0 (a)) := by subst hH81; exact ⟨fun z => if_pos z, fun z => if_neg z⟩
      have g90 : H81.2.2.1 50 0 (t) = H67.2.2.1 50 0 (t) := by subst hH81; rfl
      have g91 : H81.2.2.1 100 0 (16 * a + b) = H67.2.2.1 100 0 (16 * a + b) := by subst hH81; rfl
      clear hH81
      have f93 : 0 ≤ H81.2.2.1 50 0 (t) ∧ H81.2.2.1 50 0 (t) ≤ 4 := hT82.1 50 (t)
      refine J.run 4 rfl (show 0 ≤ t ∧ t < 1500 from ⟨by omega, by omega⟩) ?_
      try dsimp only
      by_cases c94 : H81.2.2.1 50 0 (t) = 0
      · refine J.tsw rfl rfl rfl ⟨by omega, by omega⟩ (t := 284) (by rw [c94]; rfl) ?_
        have q95 : H81.2.2.1 99 0 (a) ≤ gS H81 (H0.1 11 56 0) := gS.bal hT82 _ (by omega) (by omega)
        refine J.run 8 rfl ⟨(show 0 ≤ a ∧ a < 200 from ⟨by omega, by omega⟩), (show 0 ≤ a ∧ a < 200 from ⟨by omega, by omega⟩)⟩ ?_
        try dsimp only
        refine J.gn fun H96 hH96 => ?_
        have hT97 : gT H96 := by rw [hH96]; exact gT.upd hT82 (show 0 ≤ (H81.2.2.1 99 0 (a)) - v ∧ (H81.2.2.1 99 0 (a)) - v ≤ 201600 from ⟨by omega, by omega⟩) (fun z => absurd z (by decide))
        have hE98 : jEx [56, 57] [99, 100, 101, 105, 102, 103, 104] H96 H0 := by rw [hH96]; exact jEx.row hE83 (by decide)
        have k99 : gX H96 := by rw [hH96]; exact k84
        have g100 : H96.2.2.1 99 0 (a) = (H81.2.2.1 99 0 (a)) - v := by subst hH96; exact if_pos rfl
        have g101 : H96.1 11 12 0 = H81.1 11 12 0 := by subst hH96; rfl
        have g102 : H96.1 11 56 0 = H81.1 11 56 0 := by subst hH96; rfl
        have q103 : gS H96 (H0.1 11 56 0) = gS H81 (H0.1 11 56 0) + ((H81.2.2.1 99 0 (a)) - v) - H81.2.2.1 99 0 (a) := by subst hH96; exact gS.w_balance (by omega) (by omega)
        have g104 : (p = a → H96.2.2.1 99 0 (p) = (H81.2.2.1 99 0 (a)) - v) ∧ (¬ p = a → H96.2.2.1 99 0 (p) = H81.2.2.1 99 0 (p)) := by subst hH96; exact ⟨fun z => if_pos z, fun z => if_neg z⟩
        have g106 : H96.2.2.1 50 0 (t) = H81.2.2.1 50 0 (t) := by subst hH96; rfl
        have c107 : H96.2.2.1 50 0 (t) = 0 := g106.trans c94
        have g108 : H96.2.2.1 100 0 (16 * a + b) = H81.2.2.1 100 0 (16 * a + b) := by subst hH96; rfl
        clear hH96
        have g109 : b = a → H96.2.2.1 99 0 (b) = H96.2.2.1 99 0 (a) := fun z => by rw [z]
        have g110 : b = p → H96.2.2.1 99 0 (b) = H96.2.2.1 99 0 (p) := fun z => by rw [z]
        have q111 : H96.2.2.1 99 0 (b) ≤ gS H96 (H0.1 11 56 0) := gS.bal hT97 _ (by omega) (by omega)
        have f112 : 0 ≤ H96.2.2.1 99 0 (b) ∧ H96.2.2.1 99 0 (b) ≤ 201600 := hT97.1 99 (b)
        refine J.run 8 rfl ⟨(show 0 ≤ b ∧ b < 200 from ⟨by omega, by omega⟩), (show 0 ≤ b ∧ b < 200 from ⟨by omega, by omega⟩)⟩ ?_
        try dsimp only
        refine J.gn fun H113 hH113 => ?_
        have hT114 : gT H113 := by rw [hH113]; exact gT.upd hT97 (show 0 ≤ (H96.2.2.1 99 0 (b)) + v ∧ (H96.2.2.1 99 0 (b)) + v ≤ 201600 from ⟨by omega, by omega⟩) (fun z => absurd z (by decide))
        have hE115 : jEx [56, 57] [99, 100, 101, 105, 102, 103, 104] H113 H0 := by rw [hH113]; exact jEx.row hE98 (by decide)
        have k116 : gX H113 := by rw [hH113]; exact k99
        have g117 : H113.2.2.1 99 0 (b) = (H96.2.2.1 99 0 (b)) + v := by subst hH113; exact if_pos rfl
        have g118 : H113.1 11 12 0 = H96.1 11 12 0 := by subst hH113; rfl
        have g119 : H113.1 11 56 0 = H96.1 11 56 0 := by subst hH113; rfl
        have q120 : gS H113 (H0.1 11 56 0) = gS H96 (H0.1 11 56 0) + ((H96.2.2.1 99 0 (b)) + v) - H96.2.2.1 99 0 (b) := by subst hH113; exact gS.w_balance (by omega) (by omega)
        have g121 : (a = b → H113.2.2.1 99 0 (a) = (H96.2.2.1 99 0 (b)) + v) ∧ (¬ a = b → H113.2.2.1 99 0 (a) = H96.2.2.1 99 0 (a)) := by subst hH113; exact ⟨fun z => if_pos z, fun z => if_neg z⟩
        have g122 : (p = b → H113.2.2.1 99 0 (p) = (H96.2.2.1 99 0 (b)) + v) ∧ (¬ p = b → H113.2.2.1 99 0 (p) = H96.2.2.1 99 0 (p)) := by subst hH113; exact ⟨fun z => if_pos z, fun z => if_neg z⟩
        have g123 : H113.2.2.1 50 0 (t) = H96.2.2.1 50 0 (t) := by subst hH113; rfl
        have c124 : H113.2.2.1 50 0 (t) = 0 := g123.trans c107
        have g125 : H113.2.2.1 100 0 (16 * a + b) = H96.2.2.1 100 0 (16 * a + b) := by subst hH113; rfl
        clear hH113
        refine J.run0 2 rfl ?_
        try dsimp only
        exact J.retb rfl rfl rfl (show (1 : Int) = 0 ∨ (1 : Int) = 1 by omega) ⟨_, rfl, rfl, hT114, hE115, k116, (show gL H113 by unfold gL; first | (rw [show H113.1 11 56 0 = H0.1 11 56 0 by omega]; omega) | (rw [show H113.1 11 56 0 = H0.1 11 56 0 + 1 by omega, gS.more (by omega)]; omega)), _, rfl, (show 0 ≤ ((1 : Int)) ∧ ((1 : Int)) ≤ 1 from ⟨by omega, by omega⟩)⟩
      by_cases c127 : H81.2.2.1 50 0 (t) = 1
      · refine J.tsw rfl rfl rfl ⟨by omega, by omega⟩ (t := 311) (by rw [c127]; rfl) ?_
        have q128 : H81.2.2.1 99 0 (a) ≤ gS H81 (H0.1 11 56 0) := gS.bal hT82 _ (by omega) (by omega)
        refine J.run 8 rfl ⟨(show 0 ≤ a ∧ a < 200 from ⟨by omega, by omega⟩), (show 0 ≤ a ∧ a < 200 from ⟨by omega, by omega⟩)⟩ ?_
        try dsimp only
        refine J.gn fun H129 hH129 => ?_
        have hT130 : gT H129 := by rw [hH129]; exact gT.upd hT82 (show 0 ≤ (H81.2.2.1 99 0 (a)) - v ∧ (H81.2.2.1 99 0 (a)) - v ≤ 201600 from ⟨by omega, by omega⟩) (fun z => absurd z (by decide))
        have hE131 : jEx [56, 57] [99, 100, 101, 105, 102, 103, 104] H129 H0 := by rw [hH129]; exact jEx.row hE83 (by decide)
        have k132 : gX H129 := by rw [hH129]; exact k84
        have g133 : H129.2.2.1 99 0 (a) = (H81.2.2.1 99 0 (a)) - v := by subst hH129; exact if_pos rfl
        have g134 : H129.1 11 12 0 = H81.1 11 12 0 := by subst hH129; rfl
        have g135 : H129.1 11 56 0 = H81.1 11 56 0 := by subst hH129; rfl
        have q136 : gS H129 (H0.1 11 56 0) = gS H81 (H0.1 11 56 0) + ((H81.2.2.1 99 0 (a)) - v) - H81.2.2.1 99 0 (a) := by subst hH129; exact gS.w_balance (by omega) (by omega)
        have g137 : (p = a → H129.2.2.1 99 0 (p) = (H81.2.2.1 99 0 (a)) - v) ∧ (¬ p = a → H129.2.2.1 99 0 (p) = H81.2.2.1 99 0 (p)) := by subst hH129; exact ⟨fun z => if_pos z, fun z => if_neg z⟩
        have g139 : H129.2.2.1 50 0 (t) = H81.2.2.1 50 0 (t) := by subst hH129; rfl
        have c140 : H129.2.2.1 50 0 (t) = 1 := g139.trans c127
        have g141 : H129.2.2.1 100 0 (16 * a + b) = H81.2.2.1 100 0 (16 * a + b) := by subst hH129; rfl
        clear hH129
        have g142 : ((16 : Int) * a) + b = 16 * a + b → H129.2.2.1 100 0 (((16 : Int) * a) + b) = H129.2.2.1 100 0 (16 * a + b) := fun z => by rw [z]
        have q143 : H129.2.2.1 100 0 (((16 : Int) * a) + b) ≤ gS H129 (H0.1 11 56 0) := gS.bnd hT130 _ (by omega) (by omega)
        have f144 : 0 ≤ H129.2.2.1 100 0 (((16 : Int) * a) + b) ∧ H129.2.2.1 100 0 (((16 : Int) * a) + b) ≤ 201600 := hT130.1 100 (((16 : Int) * a) + b)
        refine J.run 12 rfl ⟨(show 0 ≤ ((16 : Int) * a) + b ∧ ((16 : Int) * a) + b < 3200 from ⟨by omega, by omega⟩), (show 0 ≤ ((16 : Int) * a) + b ∧ ((16 : Int) * a) + b < 3200 from ⟨by omega, by omega⟩)⟩ ?_
        try dsimp only
        refine J.gn fun H145 hH145 => ?_
        have hT146 : gT H145 := by rw [hH145]; exact gT.upd hT130 (show 0 ≤ (H129.2.2.1 100 0 (((16 : Int) * a) + b)) + v ∧ (H129.2.2.1 100 0 (((16 : Int) * a) + b)) + v ≤ 201600 from ⟨by omega, by omega⟩) (fun z => absurd z (by decide))
        have hE147 : jEx [56, 57] [99, 100, 101, 105, 102, 103, 104] H145 H0 := by rw [hH145]; exact jEx.row hE131 (by decide)
        have k148 : gX H145 := by rw [hH145]; exact k132
        have g149 : H145.2.2.1 100 0 (((16 : Int) * a) + b) = (H129.2.2.1 100 0 (((16 : Int) * a) + b)) + v := by subst hH145; exact if_pos rfl
        have g150 : H145.1 11 12 0 = H129.1 11 12 0 := by subst hH145; rfl
        have g151 : H145.1 11 56 0 = H129.1 11 56 0 := by subst hH145; rfl
        have q152 : gS H145 (H0.1 11 56 0) = gS H129 (H0.1 11 56 0) + ((H129.2.2.1 100 0 (((16 : Int) * a) + b)) + v) - H129.2.2.1 100 0 (((16 : Int) * a) + b) := by subst hH145; exact gS.w_bond (by omega) (by omega)
        have g153 : H145.2.2.1 99 0 (a) = H129.2.2.1 99 0 (a) := by subst hH145; rfl
        have g154 : H145.2.2.1 99 0 (p) = H129.2.2.1 99 0 (p) := by subst hH145; rfl
        have g155 : H145.2.2.1 50 0 (t) = H129.2.2.1 50 0 (t) := by subst hH145; rfl
        have c156 : H145.2.2.1 50 0 (t) = 1 := g155.trans c140
        have g157 : (16 * a + b = ((16 : Int) * a) + b → H145.2.2.1 100 0 (16 * a + b) = (H129.2.2.1 100 0 (((16 : Int) * a) + b)) + v) ∧ (¬ 16 * a + b = ((16 : Int) * a) + b → H145.2.2.1 100 0 (16 * a + b) = H129.2.2.1 100 0 (16 * a + b)) := by subst hH145; exact ⟨fun z => if_pos z, fun z => if_neg z⟩
        clear hH145
        refine J.run0 2 rfl ?_
        try dsimp only
        exact J.retb rfl rfl rfl (show (1 : Int) = 0 ∨ (1 : Int) = 1 by omega) ⟨_, rfl, rfl, hT146, hE147, k148, (show gL H145 by unfold gL; first | (rw [show H145.1 11 56 0 = H0.1 11 56 0 by omega]; omega) | (rw [show H145.1 11 56 0 = H0.1 11 56 0 + 1 by omega, gS.more (by omega)]; omega)), _, rfl, (show 0 ≤ ((1 : Int)) ∧ ((1 : Int)) ≤ 1 from ⟨by omega, by omega⟩)⟩
      by_cases c159 : H81.2.2.1 50 0 (t) = 2
      · refine J.tsw rfl rfl rfl ⟨by omega, by omega⟩ (t := 344) (by rw [c159]; rfl) ?_
        have g160 : ((16 : Int) * a) + b = 16 * a + b → H81.2.2.1 100 0 (((16 : Int) * a) + b) = H81.2.2.1 100 0 (16 * a + b) := fun z => by rw [z]
        have q161 : H81.2.2.1 100 0 (((16 : Int) * a) + b) ≤ gS H81 (H0.1 11 56 0) := gS.bnd hT82 _ (by omega) (by omega)
        have f162 : 0 ≤ H81.2.2.1 100 0 (((16 : Int) * a) + b) ∧ H81.2.2.1 100 0 (((16 : Int) * a) + b) ≤ 201600 := hT82.1 100 (((16 : Int) * a) + b)
        refine J.run 12 rfl ⟨(show 0 ≤ ((16 : Int) * a) + b ∧ ((16 : Int) * a) + b < 3200 from ⟨by omega, by omega⟩), (show 0 ≤ ((16 : Int) * a) + b ∧ ((16 : Int) * a) + b < 3200 from ⟨by omega, by omega⟩)⟩ ?_
        try dsimp only
        refine J.gn fun H163 hH163 => ?_
        have hT164 : gT H163 := by rw [hH163]; exact gT.upd hT82 (show 0 ≤ (H81.2.2.1 100 0 (((16 : Int) * a) + b)) - v ∧ (H81.2.2.1 100 0 (((16 : Int) * a) + b)) - v ≤ 201600 from ⟨by omega, by omega⟩) (fun z => absurd z (by decide))
        have hE165 : jEx [56, 57] [99, 100, 101, 105, 102, 103, 104] H163 H0 := by rw [hH163]; exact jEx.row hE83 (by decide)
        have k166 : gX H163 := by rw [hH163]; exact k84
        have g167 : H163.2.2.1 100 0 (((16 : Int) * a) + b) = (H81.2.2.1 100 0 (((16 : Int) * a) + b)) - v := by subst hH163; exact if_pos rfl
        have g168 : H163.1 11 12 0 = H81.1 11 12 0 := by subst hH163; rfl
        have g169 : H163.1 11 56 0 = H81.1 11 56 0 := by subst hH163; rfl
        have q170 : gS H163 (H0.1 11 56 0) = gS H81 (H0.1 11 56 0) + ((H81.2.2.1 100 0 (((16 : Int) * a) + b)) - v) - H81.2.2.1 100 0 (((16 : Int) * a) + b) := by subst hH163; exact gS.w_bond (by omega) (by omega)
        have g171 : H163.2.2.1 99 0 (p) = H81.2.2.1 99 0 (p) := by subst hH163; rfl
        have g172 : H163.2.2.1 99 0 (a) = H81.2.2.1 99 0 (a) := by subst hH163; rfl
        have g173 : H163.2.2.1 50 0 (t) = H81.2.2.1 50 0 (t) := by subst hH163; rfl
        have c174 : H163.2.2.1 50 0 (t) = 2 := g173.trans c159
        have g175 : (16 * a + b = ((16 : Int) * a) + b → H163.2.2.1 100 0 (16 * a + b) = (H81.2.2.1 100 0 (((16 : Int) * a) + b)) - v) ∧ (¬ 16 * a + b = ((16 : Int) * a) + b → H163.2.2.1 100 0 (16 * a + b) = H81.2.2.1 100 0 (16 * a + b)) := by subst hH163; exact ⟨fun z => if_pos z, fun z => if_neg z⟩
        clear hH163
        have f177 : 0 ≤ H163.1 11 56 0 ∧ H163.1 11 56 0 ≤ 32 := hT164.2.1 56
        refine J.run 6 rfl (show 0 ≤ H163.1 11 56 0 ∧ H163.1 11 56 0 < 33 from ⟨by omega, by omega⟩) ?_
        try dsimp only
        refine J.gn fun H178 hH178 => ?_
        have hT179 : gT H178 := by rw [hH178]; exact gT.upd hT164 (show 0 ≤ a ∧ a ≤ 199 from ⟨by omega, by omega⟩) (fun z => absurd z (by decide))
        have hE180 : jEx [56, 57] [99, 100, 101, 105, 102, 103, 104] H178 H0 := by rw [hH178]; exact jEx.row hE165 (by decide)
        have k181 : gX H178 := by rw [hH178]; exact k166
        have g182 : H178.2.2.1 102 0 (H163.1 11 56 0) = a := by subst hH178; exact if_pos rfl
        have g183 : H178.1 11 12 0 = H163.1 11 12 0 := by subst hH178; rfl
        have g184 : H178.1 11 56 0 = H163.1 11 56 0 := by subst hH178; rfl
        have q185 : gS H178 (H0.1 11 56 0) = gS H163 (H0.1 11 56 0) := by subst hH178; rfl
        have g186 : H178.2.2.1 100 0 (((16 : Int) * a) + b) = H163.2.2.1 100 0 (((16 : Int) * a) + b) := by subst hH178; rfl
        have g187 : H178.2.2.1 99 0 (p) = H163.2.2.1 99 0 (p) := by subst hH178; rfl
        have g188 : H178.2.2.1 99 0 (a) = H163.2.2.1 99 0 (a) := by subst hH178; rfl
        have g189 : H178.2.2.1 50 0 (t) = H163.2.2.1 50 0 (t) := by subst hH178; rfl
        have c190 : H178.2.2.1 50 0 (t) = 2 := g189.trans c174
        have g191 : H178.2.2.1 100 0 (16 * a + b) = H163.2.2.1 100 0 (16 * a + b) := by subst hH178; rfl
        clear hH178
        have f192 : 0 ≤ H178.1 11 56 0 ∧ H178.1 11 56 0 ≤ 32 := hT179.2.1 56
        refine J.run 6 rfl (show 0 ≤ H178.1 11 56 0 ∧ H178.1 11 56 0 < 33 from ⟨by omega, by omega⟩) ?_
        try dsimp only
        refine J.gn fun H193 hH193 => ?_
        have hT194 : gT H193 := by rw [hH193]; exact gT.upd hT179 (show 0 ≤ v ∧ v ≤ 201600 from ⟨by omega, by omega⟩) (fun z => absurd z (by decide))
        have hE195 : jEx [56, 57] [99, 100, 101, 105, 102, 103, 104] H193 H0 := by rw [hH193]; exact jEx.row hE180 (by decide)
        have k196 : gX H193 := by rw [hH193]; exact k181
        have g197 : H193.2.2.1 103 0 (H178.1 11 56 0) = v := by subst hH193; exact if_pos rfl
        have g198 : H193.1 11 12 0 = H178.1 11 12 0 := by subst hH193; rfl
        have g199 : H193.1 11 56 0 = H178.1 11 56 0 := by subst hH193; rfl
        have q200 : gS H193 (H0.1 11 56 0) = gS H178 (H0.1 11 56 0) := by subst hH193; exact gS.w_rAmount ⟨by omega, by omega⟩
        have q201 : H193.2.2.1 103 0 (H0.1 11 56 0) = v := by subst hH193; exact if_pos (by omega)
        have g202 : H193.2.2.1 102 0 (H163.1 11 56 0) = H178.2.2.1 102 0 (H163.1 11 56 0) := by subst hH193; rfl
        have g203 : H193.2.2.1 100 0 (((16 : Int) * a) + b) = H178.2.2.1 100 0 (((16 : Int) * a) + b) := by subst hH193; rfl
        have g204 : H193.2.2.1 99 0 (p) = H178.2.2.1 99 0 (p) := by subst hH193; rfl
        have g205 : H193.2.2.1 99 0 (a) = H178.2.2.1 99 0 (a) := by subst hH193; rfl
        have g206 : H193.2.2.1 50 0 (t) = H178.2.2.1 50 0 (t) := by subst hH193; rfl
        have c207 : H193.2.2.1 50 0 (t) = 2 := g206.trans c190
        have g208 : H193.2.2.1 100 0 (16 * a + b) = H178.2.2.1 100 0 (16 * a + b) := by subst hH193; rfl
        clear hH193
        have f209 : 0 ≤ H193.1 11 56 0 ∧ H193.1 11 56 0 ≤ 32 := hT194.2.1 56
        refine J.run 8 rfl (show 0 ≤ H193.1 11 56 0 ∧ H193.1 11 56 0 < 33 from ⟨by omega, by omega⟩) ?_
        try dsimp only
        refine J.gn fun H210 hH210 => ?_
        have hT211 : gT H210 := by rw [hH210]; exact gT.upd hT194 (show 0 ≤ h + (4 : Int) ∧ h + (4 : Int) ≤ 304 from ⟨by omega, by omega⟩) (fun z => absurd z (by decide))
        have hE212 : jEx [56, 57] [99, 100, 101, 105, 102, 103, 104] H210 H0 := by rw [hH210]; exact jEx.row hE195 (by decide)
        have k213 : gX H210 := by rw [hH210]; exact k196
        have g214 : H210.2.2.1 104 0 (H193.1 11 56 0) = h + (4 : Int) := by subst hH210; exact if_pos rfl
        have g215 : H210.1 11 12 0 = H193.1 11 12 0 := by subst hH210; rfl
        have g216 : H210.1 11 56 0 = H193.1 11 56 0 := by subst hH210; rfl
        have q217 : gS H210 (H0.1 11 56 0) = gS H193 (H0.1 11 56 0) := by subst hH210; rfl
        have g218 : H210.2.2.1 103 0 (H0.1 11 56 0) = H193.2.2.1 103 0 (H0.1 11 56 0) := by subst hH210; rfl
        have g219 : H210.2.2.1 103 0 (H178.1 11 56 0) = H193.2.2.1 103 0 (H178.1 11 56 0) := by subst hH210; rfl
        have g220 : H210.2.2.1 102 0 (H163.1 11 56 0) = H193.2.2.1 102 0 (H163.1 11 56 0) := by subst hH210; rfl
        have g221 : H210.2.2.1 100 0 (((16 : Int) * a) + b) = H193.2.2.1 100 0 (((16 : Int) * a) + b) := by subst hH210; rfl
        have g222 : H210.2.2.1 99 0 (p) = H193.2.2.1 99 0 (p) := by subst hH210; rfl
        have g223 : H210.2.2.1 99 0 (a) = H193.2.2.1 99 0 (a) := by subst hH210; rfl
        have g224 : H210.2.2.1 50 0 (t) = H193.2.2.1 50 0 (t) := by subst hH210; rfl
        have c225 : H210.2.2.1 50 0 (t) = 2 := g224.trans c207
        have g226 : H210.2.2.1 100 0 (16 * a + b) = H193.2.2.1 100 0 (16 * a + b) := by subst hH210; rfl
        clear hH210
        have f227 : 0 ≤ H210.1 11 56 0 ∧ H210.1 11 56 0 ≤ 32 := hT211.2.1 56
        refine J.run0 6 rfl ?_
        try dsimp only
        refine J.gn fun H228 hH228 => ?_
        have hT229 : gT H228 := by rw [hH228]; exact gT.num (f := 56) hT211 (show 0 ≤ (H210.1 11 56 0) + (1 : Int) ∧ (H210.1 11 56 0) + (1 : Int) ≤ 32 from ⟨by omega, by omega⟩) (by decide) (fun z => absurd z (by decide))
        have hE230 : jEx [56, 57] [99, 100, 101, 105, 102, 103, 104] H228 H0 := by rw [hH228]; exact jEx.num hE212 (by decide)
        have k231 : gX H228 := by rw [hH228]; exact k213
        have g232 : H228.1 11 56 0 = (H210.1 11 56 0) + (1 : Int) := by subst hH228; rfl
        have g233 : H228.1 11 12 0 = H210.1 11 12 0 := by subst hH228; rfl
        have q234 : gS H228 (H0.1 11 56 0) = gS H210 (H0.1 11 56 0) := by subst hH228; rfl
        have g235 : H228.2.2.1 104 0 (H193.1 11 56 0) = H210.2.2.1 104 0 (H193.1 11 56 0) := by subst hH228; rfl
        have g236 : H228.2.2.1 103 0 (H0.1 11 56 0) = H210.2.2.1 103 0 (H0.1 11 56 0) := by subst hH228; rfl
        have g237 : H228.2.2.1 103 0 (H178.1 11 56 0) = H210.2.2.1 103 0 (H178.1 11 56 0) := by subst hH228; rfl
        have g238 : H228.2.2.1 102 0 (H163.1 11 56 0) = H210.2.2.1 102 0 (H163.1 11 56 0) := by subst hH228; rfl
        have g239 : H228.2.2.1 100 0 (((16 : Int) * a) + b) = H210.2.2.1 100 0 (((16 : Int) * a) + b) := by subst hH228; rfl
        have g240 : H228.2.2.1 99 0 (p) = H210.2.2.1 99 0 (p) := by subst hH228; rfl
        have g241 : H228.2.2.1 99 0 (a) = H210.2.2.1 99 0 (a) := by subst hH228; rfl
        have g242 : H228.2.2.1 50 0 (t) = H210.2.2.1 50 0 (t) := by subst hH228; rfl
        have c243 : H228.2.2.1 50 0 (t) = 2 := g242.trans c225
        have g244 : H228.2.2.1 100 0 (16 * a + b) = H210.2.2.1 100 0 (16 * a + b) := by subst hH228; rfl
        clear hH228
        refine J.run0 2 rfl ?_
        try dsimp only
        exact J.retb rfl rfl rfl (show (1 : Int) = 0 ∨ (1 : Int) = 1 by omega) ⟨_, rfl, rfl, hT229, hE230, k231, (show gL H228 by unfold gL; first | (rw [show H228.1 11 56 0 = H0.1 11 56 0 by omega]; omega) | (rw [show H228.1 11 56 0 = H0.1 11 56 0 + 1 by omega, gS.more (by omega)]; omega)), _, rfl, (show 0 ≤ ((1 : Int)) ∧ ((1 : Int)) ≤ 1 from ⟨by omega, by omega⟩)⟩
      by_cases c245 : H81.2.2.1 50 0 (t) = 3
      · refine J.tsw rfl rfl rfl ⟨by omega, by omega⟩ (t := 409) (by rw [c245]; rfl) ?_
        refine J.run 5 rfl (show ((0 : Int) = 0 ∨ (0 : Int) = 1) ∧ 0 ≤ b ∧ b < 16 from ⟨by omega, by omega, by omega⟩) ?_
        try dsimp only
        refine J.gn fun H246 hH246 => ?_
        have hT247 : gT H246 := by rw [hH246]; exact gT.upd hT82 (show 0 ≤ (0 : Int) ∧ (0 : Int) ≤ 1 from ⟨by omega, by omega⟩) (fun z => absurd z (by decide))
        have hE248 : jEx [56, 57] [99, 100, 101, 105, 102, 103, 104] H246 H0 := by rw [hH246]; exact jEx.row hE83 (by decide)
        have k249 : gX H246 := by rw [hH246]; exact k84
        have g250 : H246.2.2.1 105 0 (b) = (0 : Int) := by subst hH246; exact if_pos rfl
        have g251 : H246.1 11 12 0 = H81.1 11 12 0 := by subst hH246; rfl
        have g252 : H246.1 11 56 0 = H81.1 11 56 0 := by subst hH246; rfl
        have q253 : gS H246 (H0.1 11 56 0) = gS H81 (H0.1 11 56 0) := by subst hH246; rfl
        have g254 : H246.2.2.1 99 0 (p) = H81.2.2.1 99 0 (p) := by subst hH246; rfl
        have g255 : H246.2.2.1 99 0 (a) = H81.2.2.1 99 0 (a) := by subst hH246; rfl
        have g256 : H246.2.2.1 50 0 (t) = H81.2.2.1 50 0 (t) := by subst hH246; rfl
        have c257 : H246.2.2.1 50 0 (t) = 3 := g256.trans c245
        have g258 : H246.2.2.1 100 0 (16 * a + b) = H81.2.2.1 100 0 (16 * a + b) := by subst hH246; rfl
        clear hH246
        refine J.run0 2 rfl ?_
        try dsimp only
        exact J.retb rfl rfl rfl (show (1 : Int) = 0 ∨ (1 : Int) = 1 by omega) ⟨_, rfl, rfl, hT247, hE248, k249, (show gL H246 by unfold gL; first | (rw [show H246.1 11 56 0 = H0.1 11 56 0 by omega]; omega) | (rw [show H246.1 11 56 0 = H0.1 11 56 0 + 1 by omega, gS.more (by omega)]; omega)), _, rfl, (show 0 ≤ ((1 : Int)) ∧ ((1 : Int)) ≤ 1 from ⟨by omega, by omega⟩)⟩
      have c259 : H81.2.2.1 50 0 (t) < 0 ∨ 3 < H81.2.2.1 50 0 (t) := by omega
      refine J.tsw rfl rfl rfl ⟨by omega, by omega⟩ (t := 420) (by rw [if_pos c259]; rfl) ?_
      have f260 : 0 ≤ H81.2.2.1 64 0 (b) ∧ H81.2.2.1 64 0 (b) ≤ 15 := hT82.1 64 (b)
      have f261 : 0 ≤ H81.2.2.1 65 0 (b) ∧ H81.2.2.1 65 0 (b) ≤ 301 := hT82.1 65 (b)
      refine J.run 13 rfl ⟨(show 0 ≤ b ∧ b < 6000 from ⟨by omega, by omega⟩), (show 0 ≤ b ∧ b < 6000 from ⟨by omega, by omega⟩), (show 0 ≤ H81.2.2.1 64 0 (b) ∧ H81.2.2.1 64 0 (b) < 16 from ⟨by omega, by omega⟩)⟩ ?_
      try dsimp only
      refine J.gn fun H262 hH262 => ?_
      have hT263 : gT H262 := by rw [hH262]; exact gT.upd hT82 (show 0 ≤ H81.2.2.1 65 0 (b) ∧ H81.2.2.1 65 0 (b) ≤ 301 from ⟨by omega, by omega⟩) (fun z => absurd z (by decide))
      have hE264 : jEx [56, 57] [99, 100, 101, 105, 102, 103, 104] H262 H0 := by rw [hH262]; exact jEx.row hE83 (by decide)
      have k265 : gX H262 := by rw [hH262]; exact k84
      have g266 : H262.2.2.1 101 0 (H81.2.2.1 64 0 (b)) = H81.2.2.1 65 0 (b) := by subst hH262; exact if_pos rfl
      have g267 : H262.1 11 12 0 = H81.1 11 12 0 := by subst hH262; rfl
      have g268 : H262.1 11 56 0 = H81.1 11 56 0 := by subst hH262; rfl
      have q269 : gS H262 (H0.1 11 56 0) = gS H81 (H0.1 11 56 0) := by subst hH262; rfl
      have g270 : H262.2.2.1 99 0 (p) = H81.2.2.1 99 0 (p) := by subst hH262; rfl
      have g271 : H262.2.2.1 99 0 (a) = H81.2.2.1 99 0 (a) := by subst hH262; rfl
      have g272 : H262.2.2.1 50 0 (t) = H81.2.2.1 50 0 (t) := by subst hH262; rfl
      have c273 : H262.2.2.1 50 0 (t) < 0 ∨ 3 < H262.2.2.1 50 0 (t) := by omega
      have g274 : H262.2.2.1 100 0 (16 * a + b) = H81.2.2.1 100 0 (16 * a + b) := by subst hH262; rfl
      have g275 : H262.2.2.1 64 0 (b) = H81.2.2.1 64 0 (b) := by subst hH262; rfl
      have g276 : H262.2.2.1 65 0 (b) = H81.2.2.1 65 0 (b) := by subst hH262; rfl
      clear hH262
      refine J.run0 2 rfl ?_
      try dsimp only
      exact (g_isDone_l0 (H0 := H0) (t := t) (p := p) (h := h)  hp0 hp1 hp2 ((200 - ((0 : Int)) : Int).toNat + 1)) ((0 : Int)) (H81.2.2.1 64 0 (b)) (a) (b) (v) (rest) H262 _ (show 200 - ((0 : Int)) < _ by omega) (show 0 ≤ ((0 : Int)) ∧ ((0 : Int)) ≤ 200 from ⟨by omega, by omega⟩) (show 0 ≤ (H81.2.2.1 64 0 (b)) ∧ (H81.2.2.1 64 0 (b)) < 16 from ⟨by omega, by omega⟩) (show gS H262 (H0.1 11 56 0) = 201600 from by omega) (show H262.1 11 56 0 = H0.1 11 56 0 from by omega) hT263 hE264 k265 (Or.inl rfl)
set_option maxRecDepth 20000 in
set_option maxHeartbeats 8000000 in
theorem g_isDone {t p h : Int} {H : jH} (hT : gT H) (k0gX : gX H) (k0gL : gL H) (hp0 : 0 ≤ t ∧ t < 1500) (hp1 : 0 ≤ p ∧ p < 16) (hp2 : 0 ≤ h ∧ h ≤ 300) : J true (d + 1) 119 w (0, jargs 0 [jT, .inl t, .inl p, .inl h], [], H) (jN fun v w' H' => w' = w ∧ gT H' ∧ jEx [56, 57] [99, 100, 101, 105, 102, 103, 104] H' H ∧ gX H' ∧ gL H' ∧ ∃ x, v = some (.inl x) ∧ 0 ≤ x ∧ x ≤ 1) := by
  have q0 : gS H (H.1 11 56 0) = 201600 := k0gL
  have q1 : 0 ≤ H.1 11 56 0 ∧ H.1 11 56 0 ≤ 32 := hT.2.1 56
  have hE : jEx [56, 57] [99, 100, 101, 105, 102, 103, 104] H H := jEx.refl _ _ _
  have f277 : 0 ≤ H.2.2.1 51 0 (t) ∧ H.2.2.1 51 0 (t) ≤ 199 := hT.1 51 (t)
  have f278 : 0 ≤ H.2.2.1 52 0 (t) ∧ H.2.2.1 52 0 (t) ≤ 5999 := hT.1 52 (t)
  have f278gX : (H.2.2.1 50 0 (t) = 0 → H.2.2.1 52 0 (t) ≤ 199) ∧ (1 ≤ H.2.2.1 50 0 (t) → H.2.2.1 50 0 (t) ≤ 3 → H.2.2.1 52 0 (t) ≤ 15) := ⟨(k0gX (t)).1, (k0gX (t)).2.1⟩
  have f279 : -2147483648 ≤ H.2.2.1 53 0 (t) ∧ H.2.2.1 53 0 (t) ≤ 2147483647 := hT.1 53 (t)
  have f279gX : (¬ H.2.2.1 50 0 (t) = 3 → 0 ≤ H.2.2.1 53 0 (t) ∧ H.2.2.1 53 0 (t) ≤ 1000000) ∧ (H.2.2.1 50 0 (t) = 4 → H.2.2.1 53 0 (t) ≤ 5999) := ⟨(k0gX (t)).2.2.1, (k0gX (t)).2.2.2⟩
  have q280 : H.2.2.1 99 0 (H.2.2.1 51 0 (t)) ≤ gS H (H.1 11 56 0) := gS.bal hT _ (by omega) (by omega)
  have f281 : 0 ≤ H.2.2.1 99 0 (H.2.2.1 51 0 (t)) ∧ H.2.2.1 99 0 (H.2.2.1 51 0 (t)) ≤ 201600 := hT.1 99 (H.2.2.1 51 0 (t))
  refine J.run 20 rfl ⟨(show 0 ≤ t ∧ t < 1500 from ⟨by omega, by omega⟩), (show 0 ≤ t ∧ t < 1500 from ⟨by omega, by omega⟩), (show 0 ≤ t ∧ t < 1500 from ⟨by omega, by omega⟩), (show 0 ≤ H.2.2.1 51 0 (t) ∧ H.2.2.1 51 0 (t) < 200 from ⟨by omega, by omega⟩)⟩ ?_
  try dsimp only
  refine J.icmp rfl rfl rfl ⟨(show -2147483648 ≤ H.2.2.1 99 0 (H.2.2.1 51 0 (t)) ∧ H.2.2.1 99 0 (H.2.2.1 51 0 (t)) ≤ 2147483647 from ⟨by omega, by omega⟩), (show -2147483648 ≤ (1 : Int) ∧ (1 : Int) ≤ 2147483647 from ⟨by omega, by omega⟩)⟩ (fun hc => ?_) (fun hc => ?_)
  · have c282 : (1 : Int) ≤ H.2.2.1 99 0 (H.2.2.1 51 0 (t)) := hc
    clear hc
    refine J.run 8 rfl (show 0 ≤ H.2.2.1 51 0 (t) ∧ H.2.2.1 51 0 (t) < 200 from ⟨by omega, by omega⟩) ?_
    try dsimp only
    refine J.icmp rfl rfl rfl ⟨(show -2147483648 ≤ H.2.2.1 51 0 (t) ∧ H.2.2.1 51 0 (t) ≤ 2147483647 from ⟨by omega, by omega⟩), (show -2147483648 ≤ p ∧ p ≤ 2147483647 from ⟨by omega, by omega⟩)⟩ (fun hc => ?_) (fun hc => ?_)
    · have c283 : ¬ (H.2.2.1 51 0 (t) = p) := hc
      clear hc
      have f284 : 0 ≤ H.2.2.1 50 0 (t) ∧ H.2.2.1 50 0 (t) ≤ 4 := hT.1 50 (t)
      refine J.run 7 rfl (show 0 ≤ t ∧ t < 1500 from ⟨by omega, by omega⟩) ?_
      try dsimp only
      by_cases c285 : H.2.2.1 50 0 (t) = 0
      · refine J.tsw rfl rfl rfl ⟨by omega, by omega⟩ (t := 96) (by rw [c285]; rfl) ?_
        refine J.run0 2 rfl ?_
        try dsimp only
        refine J.icmp rfl rfl rfl ⟨(show -2147483648 ≤ ((H.2.2.1 99 0 (H.2.2.1 51 0 (t))) - (1 : Int)) + (0 : Int) ∧ ((H.2.2.1 99 0 (H.2.2.1 51 0 (t))) - (1 : Int)) + (0 : Int) ≤ 2147483647 from ⟨by omega, by omega⟩), (show -2147483648 ≤ H.2.2.1 53 0 (t) ∧ H.2.2.1 53 0 (t) ≤ 2147483647 from ⟨by omega, by omega⟩)⟩ (fun hc => ?_) (fun hc => ?_)
        · have c286 : H.2.2.1 53 0 (t) ≤ ((H.2.2.1 99 0 (H.2.2.1 51 0 (t))) - (1 : Int)) + (0 : Int) := hc
          clear hc
          exact (g_isDone_l1 (H0 := H) (t := t) (p := p) (h := h)  hp0 hp1 hp2 ((500 : Int).toNat + 1)) (H.2.2.1 51 0 (t)) (H.2.2.1 52 0 (t)) (H.2.2.1 53 0 (t)) (((H.2.2.1 99 0 (H.2.2.1 51 0 (t))) - (1 : Int)) + (0 : Int)) H _ (show 500 < _ by omega) (show 0 ≤ (H.2.2.1 51 0 (t)) ∧ (H.2.2.1 51 0 (t)) ≤ 199 from ⟨by omega, by omega⟩) (show 0 ≤ (H.2.2.1 52 0 (t)) from by omega) (show 1 ≤ H.2.2.1 99 0 ((H.2.2.1 51 0 (t))) from by omega) (show (H.2.2.1 51 0 (t)) = p → (((H.2.2.1 99 0 (H.2.2.1 51 0 (t))) - (1 : Int)) + (0 : Int)) = H.2.2.1 99 0 ((H.2.2.1 51 0 (t))) from by omega) (show ¬ (H.2.2.1 51 0 (t)) = p → (((H.2.2.1 99 0 (H.2.2.1 51 0 (t))) - (1 : Int)) + (0 : Int)) = H.2.2.1 99 0 ((H.2.2.1 51 0 (t))) - 1 from by omega) (show H.2.2.1 50 0 (t) = 0 → (H.2.2.1 52 0 (t)) ≤ 199 from by omega) (show H.2.2.1 50 0 (t) = 0 → (H.2.2.1 53 0 (t)) ≤ (((H.2.2.1 99 0 (H.2.2.1 51 0 (t))) - (1 : Int)) + (0 : Int)) from by omega) (show 1 ≤ H.2.2.1 50 0 (t) → H.2.2.1 50 0 (t) ≤ 3 → (H.2.2.1 52 0 (t)) ≤ 15 from by omega) (show H.2.2.1 50 0 (t) = 1 → (H.2.2.1 53 0 (t)) ≤ (((H.2.2.1 99 0 (H.2.2.1 51 0 (t))) - (1 : Int)) + (0 : Int)) from by omega) (show H.2.2.1 50 0 (t) = 2 → (H.2.2.1 53 0 (t)) ≤ H.2.2.1 100 0 (16 * (H.2.2.1 51 0 (t)) + (H.2.2.1 52 0 (t))) from by omega) (show H.2.2.1 50 0 (t) = 2 → ¬ H.1 11 56 0 = 32 from by omega) (show (H.2.2.1 52 0 (t)) ≤ 5999 from by omega) (show ¬ H.2.2.1 50 0 (t) = 3 → 0 ≤ (H.2.2.1 53 0 (t)) from by omega) (show gS H (H.1 11 56 0) = 201600 from by omega) (show H.1 11 56 0 = H.1 11 56 0 from by omega) hT hE k0gX rfl
        · have c287 : ¬ (H.2.2.1 53 0 (t) ≤ ((H.2.2.1 99 0 (H.2.2.1 51 0 (t))) - (1 : Int)) + (0 : Int)) := hc
          clear hc
          refine J.run0 1 rfl ?_
          try dsimp only
          exact J.retb rfl rfl rfl (show (0 : Int) = 0 ∨ (0 : Int) = 1 by omega) ⟨_, rfl, rfl, hT, hE, k0gX, (show gL H by unfold gL; first | (rw [show H.1 11 56 0 = H.1 11 56 0 by omega]; omega) | (rw [show H.1 11 56 0 = H.1 11 56 0 + 1 by omega, gS.more (by omega)]; omega)), _, rfl, (show 0 ≤ ((0 : Int)) ∧ ((0 : Int)) ≤ 1 from ⟨by omega, by omega⟩)⟩
      by_cases c288 : H.2.2.1 50 0 (t) = 1
      · refine J.tsw rfl rfl rfl ⟨by omega, by omega⟩ (t := 105) (by rw [c288]; rfl) ?_
        refine J.run0 2 rfl ?_
        try dsimp only
        refine J.icmp rfl rfl rfl ⟨(show -2147483648 ≤ ((H.2.2.1 99 0 (H.2.2.1 51 0 (t))) - (1 : Int)) + (0 : Int) ∧ ((H.2.2.1 99 0 (H.2.2.1 51 0 (t))) - (1 : Int)) + (0 : Int) ≤ 2147483647 from ⟨by omega, by omega⟩), (show -2147483648 ≤ H.2.2.1 53 0 (t) ∧ H.2.2.1 53 0 (t) ≤ 2147483647 from ⟨by omega, by omega⟩)⟩ (fun hc => ?_) (fun hc => ?_)
        · have c289 : ((H.2.2.1 99 0 (H.2.2.1 51 0 (t))) - (1 : Int)) + (0 : Int) < H.2.2.1 53 0 (t) := hc
          clear hc
          refine J.run0 1 rfl ?_
          try dsimp only
          exact J.retb rfl rfl rfl (show (0 : Int) = 0 ∨ (0 : Int) = 1 by omega) ⟨_, rfl, rfl, hT, hE, k0gX, (show gL H by unfold gL; first | (rw [show H.1 11 56 0 = H.1 11 56 0 by omega]; omega) | (rw [show H.1 11 56 0 = H.1 11 56 0 + 1 by omega, gS.more (by omega)]; omega)), _, rfl, (show 0 ≤ ((0 : Int)) ∧ ((0 : Int)) ≤ 1 from ⟨by omega, by omega⟩)⟩
        · have c290 : ¬ (((H.2.2.1 99 0 (H.2.2.1 51 0 (t))) - (1 : Int)) + (0 : Int) < H.2.2.1 53 0 (t)) := hc
          clear hc
          have q291 : H.2.2.1 100 0 (((16 : Int) * (H.2.2.1 51 0 (t))) + (H.2.2.1 52 0 (t))) ≤ gS H (H.1 11 56 0) := gS.bnd hT _ (by omega) (by omega)
          have f292 : 0 ≤ H.2.2.1 100 0 (((16 : Int) * (H.2.2.1 51 0 (t))) + (H.2.2.1 52 0 (t))) ∧ H.2.2.1 100 0 (((16 : Int) * (H.2.2.1 51 0 (t))) + (H.2.2.1 52 0 (t))) ≤ 201600 := hT.1 100 (((16 : Int) * (H.2.2.1 51 0 (t))) + (H.2.2.1 52 0 (t)))
          refine J.run 8 rfl (show 0 ≤ ((16 : Int) * (H.2.2.1 51 0 (t))) + (H.2.2.1 52 0 (t)) ∧ ((16 : Int) * (H.2.2.1 51 0 (t))) + (H.2.2.1 52 0 (t)) < 3200 from ⟨by omega, by omega⟩) ?_
          try dsimp only
          refine J.ifc rfl rfl rfl (show -2147483648 ≤ H.2.2.1 100 0 (((16 : Int) * (H.2.2.1 51 0 (t))) + (H.2.2.1 52 0 (t))) ∧ H.2.2.1 100 0 (((16 : Int) * (H.2.2.1 51 0 (t))) + (H.2.2.1 52 0 (t))) ≤ 2147483647 from ⟨by omega, by omega⟩) (fun hc => ?_) (fun hc => ?_)
          · have c293 : ¬ (H.2.2.1 100 0 (((16 : Int) * (H.2.2.1 51 0 (t))) + (H.2.2.1 52 0 (t))) = (0 : Int)) := hc
            clear hc
            exact (g_isDone_l1 (H0 := H) (t := t) (p := p) (h := h)  hp0 hp1 hp2 ((500 : Int).toNat + 1)) (H.2.2.1 51 0 (t)) (H.2.2.1 52 0 (t)) (H.2.2.1 53 0 (t)) (((H.2.2.1 99 0 (H.2.2.1 51 0 (t))) - (1 : Int)) + (0 : Int)) H _ (show 500 < _ by omega) (show 0 ≤ (H.2.2.1 51 0 (t)) ∧ (H.2.2.1 51 0 (t)) ≤ 199 from ⟨by omega, by omega⟩) (show 0 ≤ (H.2.2.1 52 0 (t)) from by omega) (show 1 ≤ H.2.2.1 99 0 ((H.2.2.1 51 0 (t))) from by omega) (show (H.2.2.1 51 0 (t)) = p → (((H.2.2.1 99 0 (H.2.2.1 51 0 (t))) - (1 : Int)) + (0 : Int)) = H.2.2.1 99 0 ((H.2.2.1 51 0 (t))) from by omega) (show ¬ (H.2.2.1 51 0 (t)) = p → (((H.2.2.1 99 0 (H.2.2.1 51 0 (t))) - (1 : Int)) + (0 : Int)) = H.2.2.1 99 0 ((H.2.2.1 51 0 (t))) - 1 from by omega) (show H.2.2.1 50 0 (t) = 0 → (H.2.2.1 52 0 (t)) ≤ 199 from by omega) (show H.2.2.1 50 0 (t) = 0 → (H.2.2.1 53 0 (t)) ≤ (((H.2.2.1 99 0 (H.2.2.1 51 0 (t))) - (1 : Int)) + (0 : Int)) from by omega) (show 1 ≤ H.2.2.1 50 0 (t) → H.2.2.1 50 0 (t) ≤ 3 → (H.2.2.1 52 0 (t)) ≤ 15 from by omega) (show H.2.2.1 50 0 (t) = 1 → (H.2.2.1 53 0 (t)) ≤ (((H.2.2.1 99 0 (H.2.2.1 51 0 (t))) - (1 : Int)) + (0 : Int)) from by omega) (show H.2.2.1 50 0 (t) = 2 → (H.2.2.1 53 0 (t)) ≤ H.2.2.1 100 0 (16 * (H.2.2.1 51 0 (t)) + (H.2.2.1 52 0 (t))) from by omega) (show H.2.2.1 50 0 (t) = 2 → ¬ H.1 11 56 0 = 32 from by omega) (show (H.2.2.1 52 0 (t)) ≤ 5999 from by omega) (show ¬ H.2.2.1 50 0 (t) = 3 → 0 ≤ (H.2.2.1 53 0 (t)) from by omega) (show gS H (H.1 11 56 0) = 201600 from by omega) (show H.1 11 56 0 = H.1 11 56 0 from by omega) hT hE k0gX rfl
          · have c294 : ¬ (¬ (H.2.2.1 100 0 (((16 : Int) * (H.2.2.1 51 0 (t))) + (H.2.2.1 52 0 (t))) = (0 : Int))) := hc
            clear hc
            refine J.run0 1 rfl ?_
            try dsimp only
            refine J.inv rfl rfl rfl rfl rfl rfl jDr rfl rfl rfl rfl rfl (g_bonds  hT  ) ?_
            rintro v w H ⟨rfl, rfl, x295, rfl, r296⟩
            have r296' : 0 ≤ x295 ∧ x295 ≤ 3200 := r296
            try dsimp only [Option.toList, List.append, List.cons_append, List.nil_append]
            refine J.run0 1 rfl ?_
            try dsimp only
            refine J.icmp rfl rfl rfl ⟨(show -2147483648 ≤ x295 ∧ x295 ≤ 2147483647 from ⟨by omega, by omega⟩), (show -2147483648 ≤ (96 : Int) ∧ (96 : Int) ≤ 2147483647 from ⟨by omega, by omega⟩)⟩ (fun hc => ?_) (fun hc => ?_)
            · have c297 : ¬ (x295 = (96 : Int)) := hc
              clear hc
              exact (g_isDone_l1 (H0 := H) (t := t) (p := p) (h := h)  hp0 hp1 hp2 ((500 : Int).toNat + 1)) (H.2.2.1 51 0 (t)) (H.2.2.1 52 0 (t)) (H.2.2.1 53 0 (t)) (((H.2.2.1 99 0 (H.2.2.1 51 0 (t))) - (1 : Int)) + (0 : Int)) H _ (show 500 < _ by omega) (show 0 ≤ (H.2.2.1 51 0 (t)) ∧ (H.2.2.1 51 0 (t)) ≤ 199 from ⟨by omega, by omega⟩) (show 0 ≤ (H.2.2.1 52 0 (t)) from by omega) (show 1 ≤ H.2.2.1 99 0 ((H.2.2.1 51 0 (t))) from by omega) (show (H.2.2.1 51 0 (t)) = p → (((H.2.2.1 99 0 (H.2.2.1 51 0 (t))) - (1 : Int)) + (0 : Int)) = H.2.2.1 99 0 ((H.2.2.1 51 0 (t))) from by omega) (show ¬ (H.2.2.1 51 0 (t)) = p → (((H.2.2.1 99 0 (H.2.2.1 51 0 (t))) - (1 : Int)) + (0 : Int)) = H.2.2.1 99 0 ((H.2.2.1 51 0 (t))) - 1 from by omega) (show H.2.2.1 50 0 (t) = 0 → (H.2.2.1 52 0 (t)) ≤ 199 from by omega) (show H.2.2.1 50 0 (t) = 0 → (H.2.2.1 53 0 (t)) ≤ (((H.2.2.1 99 0 (H.2.2.1 51 0 (t))) - (1 : Int)) + (0 : Int)) from by omega) (show 1 ≤ H.2.2.1 50 0 (t) → H.2.2.1 50 0 (t) ≤ 3 → (H.2.2.1 52 0 (t)) ≤ 15 from by omega) (show H.2.2.1 50 0 (t) = 1 → (H.2.2.1 53 0 (t)) ≤ (((H.2.2.1 99 0 (H.2.2.1 51 0 (t))) - (1 : Int)) + (0 : Int)) from by omega) (show H.2.2.1 50 0 (t) = 2 → (H.2.2.1 53 0 (t)) ≤ H.2.2.1 100 0 (16 * (H.2.2.1 51 0 (t)) + (H.2.2.1 52 0 (t))) from by omega) (show H.2.2.1 50 0 (t) = 2 → ¬ H.1 11 56 0 = 32 from by omega) (show (H.2.2.1 52 0 (t)) ≤ 5999 from by omega) (show ¬ H.2.2.1 50 0 (t) = 3 → 0 ≤ (H.2.2.1 53 0 (t)) from by omega) (show gS H (H.1 11 56 0) = 201600 from by omega) (show H.1 11 56 0 = H.1 11 56 0 from by omega) hT hE k0gX rfl
            · have c298 : ¬ (¬ (x295 = (96 : Int))) := hc
              clear hc
              refine J.run0 1 rfl ?_
              try dsimp only
              exact J.retb rfl rfl rfl (show (0 : Int) = 0 ∨ (0 : Int) = 1 by omega) ⟨_, rfl, rfl, hT, hE, k0gX, (show gL H by unfold gL; first | (rw [show H.1 11 56 0 = H.1 11 56 0 by omega]; omega) | (rw [show H.1 11 56 0 = H.1 11 56 0 + 1 by omega, gS.more (by omega)]; omega)), _, rfl, (show 0 ≤ ((0 : Int)) ∧ ((0 : Int)) ≤ 1 from ⟨by omega, by omega⟩)⟩
      by_cases c299 : H.2.2.1 50 0 (t) = 2
      · refine J.tsw rfl rfl rfl ⟨by omega, by omega⟩ (t := 139) (by rw [c299]; rfl) ?_
        have q300 : H.2.2.1 100 0 (((16 : Int) * (H.2.2.1 51 0 (t))) + (H.2.2.1 52 0 (t))) ≤ gS H (H.1 11 56 0) := gS.bnd hT _ (by omega) (by omega)
        have f301 : 0 ≤ H.2.2.1 100 0 (((16 : Int) * (H.2.2.1 51 0 (t))) + (H.2.2.1 52 0 (t))) ∧ H.2.2.1 100 0 (((16 : Int) * (H.2.2.1 51 0 (t))) + (H.2.2.1 52 0 (t))) ≤ 201600 := hT.1 100 (((16 : Int) * (H.2.2.1 51 0 (t))) + (H.2.2.1 52 0 (t)))
        refine J.run 9 rfl (show 0 ≤ ((16 : Int) * (H.2.2.1 51 0 (t))) + (H.2.2.1 52 0 (t)) ∧ ((16 : Int) * (H.2.2.1 51 0 (t))) + (H.2.2.1 52 0 (t)) < 3200 from ⟨by omega, by omega⟩) ?_
        try dsimp only
        refine J.icmp rfl rfl rfl ⟨(show -2147483648 ≤ H.2.2.1 100 0 (((16 : Int) * (H.2.2.1 51 0 (t))) + (H.2.2.1 52 0 (t))) ∧ H.2.2.1 100 0 (((16 : Int) * (H.2.2.1 51 0 (t))) + (H.2.2.1 52 0 (t))) ≤ 2147483647 from ⟨by omega, by omega⟩), (show -2147483648 ≤ H.2.2.1 53 0 (t) ∧ H.2.2.1 53 0 (t) ≤ 2147483647 from ⟨by omega, by omega⟩)⟩ (fun hc => ?_) (fun hc => ?_)
        · have c302 : H.2.2.1 100 0 (((16 : Int) * (H.2.2.1 51 0 (t))) + (H.2.2.1 52 0 (t))) < H.2.2.1 53 0 (t) := hc
          clear hc
          refine J.run0 1 rfl ?_
          try dsimp only
          exact J.retb rfl rfl rfl (show (0 : Int) = 0 ∨ (0 : Int) = 1 by omega) ⟨_, rfl, rfl, hT, hE, k0gX, (show gL H by unfold gL; first | (rw [show H.1 11 56 0 = H.1 11 56 0 by omega]; omega) | (rw [show H.1 11 56 0 = H.1 11 56 0 + 1 by omega, gS.more (by omega)]; omega)), _, rfl, (show 0 ≤ ((0 : Int)) ∧ ((0 : Int)) ≤ 1 from ⟨by omega, by omega⟩)⟩
        · have c303 : ¬ (H.2.2.1 100 0 (((16 : Int) * (H.2.2.1 51 0 (t))) + (H.2.2.1 52 0 (t))) < H.2.2.1 53 0 (t)) := hc
          clear hc
          have f304 : 0 ≤ H.1 11 56 0 ∧ H.1 11 56 0 ≤ 32 := hT.2.1 56
          refine J.run0 3 rfl ?_
          try dsimp only
          refine J.icmp rfl rfl rfl ⟨(show -2147483648 ≤ H.1 11 56 0 ∧ H.1 11 56 0 ≤ 2147483647 from ⟨by omega, by omega⟩), (show -2147483648 ≤ (32 : Int) ∧ (32 : Int) ≤ 2147483647 from ⟨by omega, by omega⟩)⟩ (fun hc => ?_) (fun hc => ?_)
          · have c305 : ¬ (H.1 11 56 0 = (32 : Int)) := hc
            clear hc
            exact (g_isDone_l1 (H0 := H) (t := t) (p := p) (h := h)  hp0 hp1 hp2 ((500 : Int).toNat + 1)) (H.2.2.1 51 0 (t)) (H.2.2.1 52 0 (t)) (H.2.2.1 53 0 (t)) (((H.2.2.1 99 0 (H.2.2.1 51 0 (t))) - (1 : Int)) + (0 : Int)) H _ (show 500 < _ by omega) (show 0 ≤ (H.2.2.1 51 0 (t)) ∧ (H.2.2.1 51 0 (t)) ≤ 199 from ⟨by omega, by omega⟩) (show 0 ≤ (H.2.2.1 52 0 (t)) from by omega) (show 1 ≤ H.2.2.1 99 0 ((H.2.2.1 51 0 (t))) from by omega) (show (H.2.2.1 51 0 (t)) = p → (((H.2.2.1 99 0 (H.2.2.1 51 0 (t))) - (1 : Int)) + (0 : Int)) = H.2.2.1 99 0 ((H.2.2.1 51 0 (t))) from by omega) (show ¬ (H.2.2.1 51 0 (t)) = p → (((H.2.2.1 99 0 (H.2.2.1 51 0 (t))) - (1 : Int)) + (0 : Int)) = H.2.2.1 99 0 ((H.2.2.1 51 0 (t))) - 1 from by omega) (show H.2.2.1 50 0 (t) = 0 → (H.2.2.1 52 0 (t)) ≤ 199 from by omega) (show H.2.2.1 50 0 (t) = 0 → (H.2.2.1 53 0 (t)) ≤ (((H.2.2.1 99 0 (H.2.2.1 51 0 (t))) - (1 : Int)) + (0 : Int)) from by omega) (show 1 ≤ H.2.2.1 50 0 (t) → H.2.2.1 50 0 (t) ≤ 3 → (H.2.2.1 52 0 (t)) ≤ 15 from by omega) (show H.2.2.1 50 0 (t) = 1 → (H.2.2.1 53 0 (t)) ≤ (((H.2.2.1 99 0 (H.2.2.1 51 0 (t))) - (1 : Int)) + (0 : Int)) from by omega) (show H.2.2.1 50 0 (t) = 2 → (H.2.2.1 53 0 (t)) ≤ H.2.2.1 100 0 (16 * (H.2.2.1 51 0 (t)) + (H.2.2.1 52 0 (t))) from by omega) (show H.2.2.1 50 0 (t) = 2 → ¬ H.1 11 56 0 = 32 from by omega) (show (H.2.2.1 52 0 (t)) ≤ 5999 from by omega) (show ¬ H.2.2.1 50 0 (t) = 3 → 0 ≤ (H.2.2.1 53 0 (t)) from by omega) (show gS H (H.1 11 56 0) = 201600 from by omega) (show H.1 11 56 0 = H.1 11 56 0 from by omega) hT hE k0gX rfl
          · have c306 : ¬ (¬ (H.1 11 56 0 = (32 : Int))) := hc
            clear hc
            refine J.run0 1 rfl ?_
            try dsimp only
            exact J.retb rfl rfl rfl (show (0 : Int) = 0 ∨ (0 : Int) = 1 by omega) ⟨_, rfl, rfl, hT, hE, k0gX, (show gL H by unfold gL; first | (rw [show H.1 11 56 0 = H.1 11 56 0 by omega]; omega) | (rw [show H.1 11 56 0 = H.1 11 56 0 + 1 by omega, gS.more (by omega)]; omega)), _, rfl, (show 0 ≤ ((0 : Int)) ∧ ((0 : Int)) ≤ 1 from ⟨by omega, by omega⟩)⟩
      by_cases c307 : H.2.2.1 50 0 (t) = 3
      · refine J.tsw rfl rfl rfl ⟨by omega, by omega⟩ (t := 168) (by rw [c307]; rfl) ?_
        have f308 : 0 ≤ H.2.2.1 105 0 (H.2.2.1 52 0 (t)) ∧ H.2.2.1 105 0 (H.2.2.1 52 0 (t)) ≤ 1 := hT.1 105 (H.2.2.1 52 0 (t))
        refine J.run 4 rfl (show 0 ≤ H.2.2.1 52 0 (t) ∧ H.2.2.1 52 0 (t) < 16 from ⟨by omega, by omega⟩) ?_
        try dsimp only
        refine J.ifc rfl rfl rfl (show -2147483648 ≤ H.2.2.1 105 0 (H.2.2.1 52 0 (t)) ∧ H.2.2.1 105 0 (H.2.2.1 52 0 (t)) ≤ 2147483647 from ⟨by omega, by omega⟩) (fun hc => ?_) (fun hc => ?_)
        · have c309 : ¬ (H.2.2.1 105 0 (H.2.2.1 52 0 (t)) = (0 : Int)) := hc
          clear hc
          exact (g_isDone_l1 (H0 := H) (t := t) (p := p) (h := h)  hp0 hp1 hp2 ((500 : Int).toNat + 1)) (H.2.2.1 51 0 (t)) (H.2.2.1 52 0 (t)) (H.2.2.1 53 0 (t)) (((H.2.2.1 99 0 (H.2.2.1 51 0 (t))) - (1 : Int)) + (0 : Int)) H _ (show 500 < _ by omega) (show 0 ≤ (H.2.2.1 51 0 (t)) ∧ (H.2.2.1 51 0 (t)) ≤ 199 from ⟨by omega, by omega⟩) (show 0 ≤ (H.2.2.1 52 0 (t)) from by omega) (show 1 ≤ H.2.2.1 99 0 ((H.2.2.1 51 0 (t))) from by omega) (show (H.2.2.1 51 0 (t)) = p → (((H.2.2.1 99 0 (H.2.2.1 51 0 (t))) - (1 : Int)) + (0 : Int)) = H.2.2.1 99 0 ((H.2.2.1 51 0 (t))) from by omega) (show ¬ (H.2.2.1 51 0 (t)) = p → (((H.2.2.1 99 0 (H.2.2.1 51 0 (t))) - (1 : Int)) + (0 : Int)) = H.2.2.1 99 0 ((H.2.2.1 51 0 (t))) - 1 from by omega) (show H.2.2.1 50 0 (t) = 0 → (H.2.2.1 52 0 (t)) ≤ 199 from by omega) (show H.2.2.1 50 0 (t) = 0 → (H.2.2.1 53 0 (t)) ≤ (((H.2.2.1 99 0 (H.2.2.1 51 0 (t))) - (1 : Int)) + (0 : Int)) from by omega) (show 1 ≤ H.2.2.1 50 0 (t) → H.2.2.1 50 0 (t) ≤ 3 → (H.2.2.1 52 0 (t)) ≤ 15 from by omega) (show H.2.2.1 50 0 (t) = 1 → (H.2.2.1 53 0 (t)) ≤ (((H.2.2.1 99 0 (H.2.2.1 51 0 (t))) - (1 : Int)) + (0 : Int)) from by omega) (show H.2.2.1 50 0 (t) = 2 → (H.2.2.1 53 0 (t)) ≤ H.2.2.1 100 0 (16 * (H.2.2.1 51 0 (t)) + (H.2.2.1 52 0 (t))) from by omega) (show H.2.2.1 50 0 (t) = 2 → ¬ H.1 11 56 0 = 32 from by omega) (show (H.2.2.1 52 0 (t)) ≤ 5999 from by omega) (show ¬ H.2.2.1 50 0 (t) = 3 → 0 ≤ (H.2.2.1 53 0 (t)) from by omega) (show gS H (H.1 11 56 0) = 201600 from by omega) (show H.1 11 56 0 = H.1 11 56 0 from by omega) hT hE k0gX rfl
        · have c310 : ¬ (¬ (H.2.2.1 105 0 (H.2.2.1 52 0 (t)) = (0 : Int))) := hc
          clear hc
          refine J.run0 1 rfl ?_
          try dsimp only
          exact J.retb rfl rfl rfl (show (0 : Int) = 0 ∨ (0 : Int) = 1 by omega) ⟨_, rfl, rfl, hT, hE, k0gX, (show gL H by unfold gL; first | (rw [show H.1 11 56 0 = H.1 11 56 0 by omega]; omega) | (rw [show H.1 11 56 0 = H.1 11 56 0 + 1 by omega, gS.more (by omega)]; omega)), _, rfl, (show 0 ≤ ((0 : Int)) ∧ ((0 : Int)) ≤ 1 from ⟨by omega, by omega⟩)⟩
      have c311 : H.2.2.1 50 0 (t) < 0 ∨ 3 < H.2.2.1 50 0 (t) := by omega
      refine J.tsw rfl rfl rfl ⟨by omega, by omega⟩ (t := 180) (by rw [if_pos c311]; rfl) ?_
      refine J.run0 3 rfl ?_
      try dsimp only
      refine J.inv rfl rfl rfl rfl rfl rfl jDr rfl rfl rfl rfl rfl (g_isDouble (m := H.2.2.1 52 0 (t)) (o := H.2.2.1 53 0 (t)) hT  (show 0 ≤ (H.2.2.1 52 0 (t)) ∧ (H.2.2.1 52 0 (t)) < 6000 from ⟨by omega, by omega⟩) (show 0 ≤ (H.2.2.1 53 0 (t)) ∧ (H.2.2.1 53 0 (t)) < 6000 from ⟨by omega, by omega⟩)) ?_
      rintro v w H ⟨rfl, rfl, x312, rfl, r313⟩
      have r313' : 0 ≤ x312 ∧ x312 ≤ 1 := r313
      try dsimp only [Option.toList, List.append, List.cons_append, List.nil_append]
      refine J.ifc rfl rfl rfl (show -2147483648 ≤ x312 ∧ x312 ≤ 2147483647 from ⟨by omega, by omega⟩) (fun hc => ?_) (fun hc => ?_)
      · have c314 : x312 = (0 : Int) := hc
        clear hc
        refine J.run0 1 rfl ?_
        try dsimp only
        exact J.retb rfl rfl rfl (show (0 : Int) = 0 ∨ (0 : Int) = 1 by omega) ⟨_, rfl, rfl, hT, hE, k0gX, (show gL H by unfold gL; first | (rw [show H.1 11 56 0 = H.1 11 56 0 by omega]; omega) | (rw [show H.1 11 56 0 = H.1 11 56 0 + 1 by omega, gS.more (by omega)]; omega)), _, rfl, (show 0 ≤ ((0 : Int)) ∧ ((0 : Int)) ≤ 1 from ⟨by omega, by omega⟩)⟩
      · have c315 : ¬ (x312 = (0 : Int)) := hc
        clear hc
        have f316 : 0 ≤ H.2.2.1 65 0 (H.2.2.1 52 0 (t)) ∧ H.2.2.1 65 0 (H.2.2.1 52 0 (t)) ≤ 301 := hT.1 65 (H.2.2.1 52 0 (t))
        refine J.run 5 rfl (show 0 ≤ H.2.2.1 52 0 (t) ∧ H.2.2.1 52 0 (t) < 6000 from ⟨by omega, by omega⟩) ?_
        try dsimp only
        refine J.icmp rfl rfl rfl ⟨(show -2147483648 ≤ H.2.2.1 65 0 (H.2.2.1 52 0 (t)) ∧ H.2.2.1 65 0 (H.2.2.1 52 0 (t)) ≤ 2147483647 from ⟨by omega, by omega⟩), (show -2147483648 ≤ h ∧ h ≤ 2147483647 from ⟨by omega, by omega⟩)⟩ (fun hc => ?_) (fun hc => ?_)
        · have c317 : h < H.2.2.1 65 0 (H.2.2.1 52 0 (t)) := hc
          clear hc
          refine J.run0 1 rfl ?_
          try dsimp only
          exact J.retb rfl rfl rfl (show (0 : Int) = 0 ∨ (0 : Int) = 1 by omega) ⟨_, rfl, rfl, hT, hE, k0gX, (show gL H by unfold gL; first | (rw [show H.1 11 56 0 = H.1 11 56 0 by omega]; omega) | (rw [show H.1 11 56 0 = H.1 11 56 0 + 1 by omega, gS.more (by omega)]; omega)), _, rfl, (show 0 ≤ ((0 : Int)) ∧ ((0 : Int)) ≤ 1 from ⟨by omega, by omega⟩)⟩
        · have c318 : ¬ (h < H.2.2.1 65 0 (H.2.2.1 52 0 (t))) := hc
          clear hc
          have f319 : 0 ≤ H.2.2.1 64 0 (H.2.2.1 52 0 (t)) ∧ H.2.2.1 64 0 (H.2.2.1 52 0 (t)) ≤ 15 := hT.1 64 (H.2.2.1 52 0 (t))
          have f320 : 0 ≤ H.2.2.1 101 0 (H.2.2.1 64 0 (H.2.2.1 52 0 (t))) ∧ H.2.2.1 101 0 (H.2.2.1 64 0 (H.2.2.1 52 0 (t))) ≤ 301 := hT.1 101 (H.2.2.1 64 0 (H.2.2.1 52 0 (t)))
          refine J.run 11 rfl ⟨(show 0 ≤ H.2.2.1 52 0 (t) ∧ H.2.2.1 52 0 (t) < 6000 from ⟨by omega, by omega⟩), (show 0 ≤ H.2.2.1 52 0 (t) ∧ H.2.2.1 52 0 (t) < 6000 from ⟨by omega, by omega⟩), (show 0 ≤ H.2.2.1 64 0 (H.2.2.1 52 0 (t)) ∧ H.2.2.1 64 0 (H.2.2.1 52 0 (t)) < 16 from ⟨by omega, by omega⟩)⟩ ?_
          try dsimp only
          refine J.icmp rfl rfl rfl ⟨(show -2147483648 ≤ H.2.2.1 65 0 (H.2.2.1 52 0 (t)) ∧ H.2.2.1 65 0 (H.2.2.1 52 0 (t)) ≤ 2147483647 from ⟨by omega, by omega⟩), (show -2147483648 ≤ H.2.2.1 101 0 (H.2.2.1 64 0 (H.2.2.1 52 0 (t))) ∧ H.2.2.1 101 0 (H.2.2.1 64 0 (H.2.2.1 52 0 (t))) ≤ 2147483647 from ⟨by omega, by omega⟩)⟩ (fun hc => ?_) (fun hc => ?_)
          · have c321 : H.2.2.1 101 0 (H.2.2.1 64 0 (H.2.2.1 52 0 (t))) < H.2.2.1 65 0 (H.2.2.1 52 0 (t)) := hc
            clear hc
            exact (g_isDone_l1 (H0 := H) (t := t) (p := p) (h := h)  hp0 hp1 hp2 ((500 : Int).toNat + 1)) (H.2.2.1 51 0 (t)) (H.2.2.1 52 0 (t)) (H.2.2.1 53 0 (t)) (((H.2.2.1 99 0 (H.2.2.1 51 0 (t))) - (1 : Int)) + (0 : Int)) H _ (show 500 < _ by omega) (show 0 ≤ (H.2.2.1 51 0 (t)) ∧ (H.2.2.1 51 0 (t)) ≤ 199 from ⟨by omega, by omega⟩) (show 0 ≤ (H.2.2.1 52 0 (t)) from by omega) (show 1 ≤ H.2.2.1 99 0 ((H.2.2.1 51 0 (t))) from by omega) (show (H.2.2.1 51 0 (t)) = p → (((H.2.2.1 99 0 (H.2.2.1 51 0 (t))) - (1 : Int)) + (0 : Int)) = H.2.2.1 99 0 ((H.2.2.1 51 0 (t))) from by omega) (show ¬ (H.2.2.1 51 0 (t)) = p → (((H.2.2.1 99 0 (H.2.2.1 51 0 (t))) - (1 : Int)) + (0 : Int)) = H.2.2.1 99 0 ((H.2.2.1 51 0 (t))) - 1 from by omega) (show H.2.2.1 50 0 (t) = 0 → (H.2.2.1 52 0 (t)) ≤ 199 from by omega) (show H.2.2.1 50 0 (t) = 0 → (H.2.2.1 53 0 (t)) ≤ (((H.2.2.1 99 0 (H.2.2.1 51 0 (t))) - (1 : Int)) + (0 : Int)) from by omega) (show 1 ≤ H.2.2.1 50 0 (t) → H.2.2.1 50 0 (t) ≤ 3 → (H.2.2.1 52 0 (t)) ≤ 15 from by omega) (show H.2.2.1 50 0 (t) = 1 → (H.2.2.1 53 0 (t)) ≤ (((H.2.2.1 99 0 (H.2.2.1 51 0 (t))) - (1 : Int)) + (0 : Int)) from by omega) (show H.2.2.1 50 0 (t) = 2 → (H.2.2.1 53 0 (t)) ≤ H.2.2.1 100 0 (16 * (H.2.2.1 51 0 (t)) + (H.2.2.1 52 0 (t))) from by omega) (show H.2.2.1 50 0 (t) = 2 → ¬ H.1 11 56 0 = 32 from by omega) (show (H.2.2.1 52 0 (t)) ≤ 5999 from by omega) (show ¬ H.2.2.1 50 0 (t) = 3 → 0 ≤ (H.2.2.1 53 0 (t)) from by omega) (show gS H (H.1 11 56 0) = 201600 from by omega) (show H.1 11 56 0 = H.1 11 56 0 from by omega) hT hE k0gX rfl
          · have c322 : ¬ (H.2.2.1 101 0 (H.2.2.1 64 0 (H.2.2.1 52 0 (t))) < H.2.2.1 65 0 (H.2.2.1 52 0 (t))) := hc
            clear hc
            refine J.run0 1 rfl ?_
            try dsimp only
            exact J.retb rfl rfl rfl (show (0 : Int) = 0 ∨ (0 : Int) = 1 by omega) ⟨_, rfl, rfl, hT, hE, k0gX, (show gL H by unfold gL; first | (rw [show H.1 11 56 0 = H.1 11 56 0 by omega]; omega) | (rw [show H.1 11 56 0 = H.1 11 56 0 + 1 by omega, gS.more (by omega)]; omega)), _, rfl, (show 0 ≤ ((0 : Int)) ∧ ((0 : Int)) ≤ 1 from ⟨by omega, by omega⟩)⟩
    · have c323 : ¬ (¬ (H.2.2.1 51 0 (t) = p)) := hc
      clear hc
      have f324 : 0 ≤ H.2.2.1 50 0 (t) ∧ H.2.2.1 50 0 (t) ≤ 4 := hT.1 50 (t)
      refine J.run 8 rfl (show 0 ≤ t ∧ t < 1500 from ⟨by omega, by omega⟩) ?_
      try dsimp only
      by_cases c325 : H.2.2.1 50 0 (t) = 0
      · refine J.tsw rfl rfl rfl ⟨by omega, by omega⟩ (t := 96) (by rw [c325]; rfl) ?_
        refine J.run0 2 rfl ?_
        try dsimp only
        refine J.icmp rfl rfl rfl ⟨(show -2147483648 ≤ ((H.2.2.1 99 0 (H.2.2.1 51 0 (t))) - (1 : Int)) + (1 : Int) ∧ ((H.2.2.1 99 0 (H.2.2.1 51 0 (t))) - (1 : Int)) + (1 : Int) ≤ 2147483647 from ⟨by omega, by omega⟩), (show -2147483648 ≤ H.2.2.1 53 0 (t) ∧ H.2.2.1 53 0 (t) ≤ 2147483647 from ⟨by omega, by omega⟩)⟩ (fun hc => ?_) (fun hc => ?_)
        · have c326 : H.2.2.1 53 0 (t) ≤ ((H.2.2.1 99 0 (H.2.2.1 51 0 (t))) - (1 : Int)) + (1 : Int) := hc
          clear hc
          exact (g_isDone_l1 (H0 := H) (t := t) (p := p) (h := h)  hp0 hp1 hp2 ((500 : Int).toNat + 1)) (H.2.2.1 51 0 (t)) (H.2.2.1 52 0 (t)) (H.2.2.1 53 0 (t)) (((H.2.2.1 99 0 (H.2.2.1 51 0 (t))) - (1 : Int)) + (1 : Int)) H _ (show 500 < _ by omega) (show 0 ≤ (H.2.2.1 51 0 (t)) ∧ (H.2.2.1 51 0 (t)) ≤ 199 from ⟨by omega, by omega⟩) (show 0 ≤ (H.2.2.1 52 0 (t)) from by omega) (show 1 ≤ H.2.2.1 99 0 ((H.2.2.1 51 0 (t))) from by omega) (show (H.2.2.1 51 0 (t)) = p → (((H.2.2.1 99 0 (H.2.2.1 51 0 (t))) - (1 : Int)) + (1 : Int)) = H.2.2.1 99 0 ((H.2.2.1 51 0 (t))) from by omega) (show ¬ (H.2.2.1 51 0 (t)) = p → (((H.2.2.1 99 0 (H.2.2.1 51 0 (t))) - (1 : Int)) + (1 : Int)) = H.2.2.1 99 0 ((H.2.2.1 51 0 (t))) - 1 from by omega) (show H.2.2.1 50 0 (t) = 0 → (H.2.2.1 52 0 (t)) ≤ 199 from by omega) (show H.2.2.1 50 0 (t) = 0 → (H.2.2.1 53 0 (t)) ≤ (((H.2.2.1 99 0 (H.2.2.1 51 0 (t))) - (1 : Int)) + (1 : Int)) from by omega) (show 1 ≤ H.2.2.1 50 0 (t) → H.2.2.1 50 0 (t) ≤ 3 → (H.2.2.1 52 0 (t)) ≤ 15 from by omega) (show H.2.2.1 50 0 (t) = 1 → (H.2.2.1 53 0 (t)) ≤ (((H.2.2.1 99 0 (H.2.2.1 51 0 (t))) - (1 : Int)) + (1 : Int)) from by omega) (show H.2.2.1 50 0 (t) = 2 → (H.2.2.1 53 0 (t)) ≤ H.2.2.1 100 0 (16 * (H.2.2.1 51 0 (t)) + (H.2.2.1 52 0 (t))) from by omega) (show H.2.2.1 50 0 (t) = 2 → ¬ H.1 11 56 0 = 32 from by omega) (show (H.2.2.1 52 0 (t)) ≤ 5999 from by omega) (show ¬ H.2.2.1 50 0 (t) = 3 → 0 ≤ (H.2.2.1 53 0 (t)) from by omega) (show gS H (H.1 11 56 0) = 201600 from by omega) (show H.1 11 56 0 = H.1 11 56 0 from by omega) hT hE k0gX rfl
        · have c327 : ¬ (H.2.2.1 53 0 (t) ≤ ((H.2.2.1 99 0 (H.2.2.1 51 0 (t))) - (1 : Int)) + (1 : Int)) := hc
          clear hc
          refine J.run0 1 rfl ?_
          try dsimp only
          exact J.retb rfl rfl rfl (show (0 : Int) = 0 ∨ (0 : Int) = 1 by omega) ⟨_, rfl, rfl, hT, hE, k0gX, (show gL H by unfold gL; first | (rw [show H.1 11 56 0 = H.1 11 56 0 by omega]; omega) | (rw [show H.1 11 56 0 = H.1 11 56 0 + 1 by omega, gS.more (by omega)]; omega)), _, rfl, (show 0 ≤ ((0 : Int)) ∧ ((0 : Int)) ≤ 1 from ⟨by omega, by omega⟩)⟩
      by_cases c328 : H.2.2.1 50 0 (t) = 1
      · refine J.tsw rfl rfl rfl ⟨by omega, by omega⟩ (t := 105) (by rw [c328]; rfl) ?_
        refine J.run0 2 rfl ?_
        try dsimp only
        refine J.icmp rfl rfl rfl ⟨(show -2147483648 ≤ ((H.2.2.1 99 0 (H.2.2.1 51 0 (t))) - (1 : Int)) + (1 : Int) ∧ ((H.2.2.1 99 0 (H.2.2.1 51 0 (t))) - (1 : Int)) + (1 : Int) ≤ 2147483647 from ⟨by omega, by omega⟩), (show -2147483648 ≤ H.2.2.1 53 0 (t) ∧ H.2.2.1 53 0 (t) ≤ 2147483647 from ⟨by omega, by omega⟩)⟩ (fun hc => ?_) (fun hc => ?_)
        · have c329 : ((H.2.2.1 99 0 (H.2.2.1 51 0 (t))) - (1 : Int)) + (1 : Int) < H.2.2.1 53 0 (t) := hc
          clear hc
          refine J.run0 1 rfl ?_
          try dsimp only
          exact J.retb rfl rfl rfl (show (0 : Int) = 0 ∨ (0 : Int) = 1 by omega) ⟨_, rfl, rfl, hT, hE, k0gX, (show gL H by unfold gL; first | (rw [show H.1 11 56 0 = H.1 11 56 0 by omega]; omega) | (rw [show H.1 11 56 0 = H.1 11 56 0 + 1 by omega, gS.more (by omega)]; omega)), _, rfl, (show 0 ≤ ((0 : Int)) ∧ ((0 : Int)) ≤ 1 from ⟨by omega, by omega⟩)⟩
        · have c330 : ¬ (((H.2.2.1 99 0 (H.2.2.1 51 0 (t))) - (1 : Int)) + (1 : Int) < H.2.2.1 53 0 (t)) := hc
          clear hc
          have q331 : H.2.2.1 100 0 (((16 : Int) * (H.2.2.1 51 0 (t))) + (H.2.2.1 52 0 (t))) ≤ gS H (H.1 11 56 0) := gS.bnd hT _ (by omega) (by omega)
          have f332 : 0 ≤ H.2.2.1 100 0 (((16 : Int) * (H.2.2.1 51 0 (t))) + (H.2.2.1 52 0 (t))) ∧ H.2.2.1 100 0 (((16 : Int) * (H.2.2.1 51 0 (t))) + (H.2.2.1 52 0 (t))) ≤ 201600 := hT.1 100 (((16 : Int) * (H.2.2.1 51 0 (t))) + (H.2.2.1 52 0 (t)))
          refine J.run 8 rfl (show 0 ≤ ((16 : Int) * (H.2.2.1 51 0 (t))) + (H.2.2.1 52 0 (t)) ∧ ((16 : Int) * (H.2.2.1 51 0 (t))) + (H.2.2.1 52 0 (t)) < 3200 from ⟨by omega, by omega⟩) ?_
          try dsimp only
          refine J.ifc rfl rfl rfl (show -2147483648 ≤ H.2.2.1 100 0 (((16 : Int) * (H.2.2.1 51 0 (t))) + (H.2.2.1 52 0 (t))) ∧ H.2.2.1 100 0 (((16 : Int) * (H.2.2.1 51 0 (t))) + (H.2.2.1 52 0 (t))) ≤ 2147483647 from ⟨by omega, by omega⟩) (fun hc => ?_) (fun hc => ?_)
          · have c333 : ¬ (H.2.2.1 100 0 (((16 : Int) * (H.2.2.1 51 0 (t))) + (H.2.2.1 52 0 (t))) = (0 : Int)) := hc
            clear hc
            exact (g_isDone_l1 (H0 := H) (t := t) (p := p) (h := h)  hp0 hp1 hp2 ((500 : Int).toNat + 1)) (H.2.2.1 51 0 (t)) (H.2.2.1 52 0 (t)) (H.2.2.1 53 0 (t)) (((H.2.2.1 99 0 (H.2.2.1 51 0 (t))) - (1 : Int)) + (1 : Int)) H _ (show 500 < _ by omega) (show 0 ≤ (H.2.2.1 51 0 (t)) ∧ (H.2.2.1 51 0 (t)) ≤ 199 from ⟨by omega, by omega⟩) (show 0 ≤ (H.2.2.1 52 0 (t)) from by omega) (show 1 ≤ H.2.2.1 99 0 ((H.2.2.1 51 0 (t))) from by omega) (show (H.2.2.1 51 0 (t)) = p → (((H.2.2.1 99 0 (H.2.2.1 51 0 (t))) - (1 : Int)) + (1 : Int)) = H.2.2.1 99 0 ((H.2.2.1 51 0 (t))) from by omega) (show ¬ (H.2.2.1 51 0 (t)) = p → (((H.2.2.1 99 0 (H.2.2.1 51 0 (t))) - (1 : Int)) + (1 : Int)) = H.2.2.1 99 0 ((H.2.2.1 51 0 (t))) - 1 from by omega) (show H.2.2.1 50 0 (t) = 0 → (H.2.2.1 52 0 (t)) ≤ 199 from by omega) (show H.2.2.1 50 0 (t) = 0 → (H.2.2.1 53 0 (t)) ≤ (((H.2.2.1 99 0 (H.2.2.1 51 0 (t))) - (1 : Int)) + (1 : Int)) from by omega) (show 1 ≤ H.2.2.1 50 0 (t) → H.2.2.1 50 0 (t) ≤ 3 → (H.2.2.1 52 0 (t)) ≤ 15 from by omega) (show H.2.2.1 50 0 (t) = 1 → (H.2.2.1 53 0 (t)) ≤ (((H.2.2.1 99 0 (H.2.2.1 51 0 (t))) - (1 : Int)) + (1 : Int)) from by omega) (show H.2.2.1 50 0 (t) = 2 → (H.2.2.1 53 0 (t)) ≤ H.2.2.1 100 0 (16 * (H.2.2.1 51 0 (t)) + (H.2.2.1 52 0 (t))) from by omega) (show H.2.2.1 50 0 (t) = 2 → ¬ H.1 11 56 0 = 32 from by omega) (show (H.2.2.1 52 0 (t)) ≤ 5999 from by omega) (show ¬ H.2.2.1 50 0 (t) = 3 → 0 ≤ (H.2.2.1 53 0 (t)) from by omega) (show gS H (H.1 11 56 0) = 201600 from by omega) (show H.1 11 56 0 = H.1 11 56 0 from by omega) hT hE k0gX rfl
          · have c334 : ¬ (¬ (H.2.2.1 100 0 (((16 : Int) * (H.2.2.1 51 0 (t))) + (H.2.2.1 52 0 (t))) = (0 : Int))) := hc
            clear hc
            refine J.run0 1 rfl ?_
            try dsimp only
            refine J.inv rfl rfl rfl rfl rfl rfl jDr rfl rfl rfl rfl rfl (g_bonds  hT  ) ?_
            rintro v w H ⟨rfl, rfl, x335, rfl, r336⟩
            have r336' : 0 ≤ x335 ∧ x335 ≤ 3200 := r336
            try dsimp only [Option.toList, List.append, List.cons_append, List.nil_append]
            refine J.run0 1 rfl ?_
            try dsimp only
            refine J.icmp rfl rfl rfl ⟨(show -2147483648 ≤ x335 ∧ x335 ≤ 2147483647 from ⟨by omega, by omega⟩), (show -2147483648 ≤ (96 : Int) ∧ (96 : Int) ≤ 2147483647 from ⟨by omega, by omega⟩)⟩ (fun hc => ?_) (fun hc => ?_)
            · have c337 : ¬ (x335 = (96 : Int)) := hc
              clear hc
              exact (g_isDone_l1 (H0 := H) (t := t) (p := p) (h := h)  hp0 hp1 hp2 ((500 : Int).toNat + 1)) (H.2.2.1 51 0 (t)) (H.2.2.1 52 0 (t)) (H.2.2.1 53 0 (t)) (((H.2.2.1 99 0 (H.2.2.1 51 0 (t))) - (1 : Int)) + (1 : Int)) H _ (show 500 < _ by omega) (show 0 ≤ (H.2.2.1 51 0 (t)) ∧ (H.2.2.1 51 0 (t)) ≤ 199 from ⟨by omega, by omega⟩) (show 0 ≤ (H.2.2.1 52 0 (t)) from by omega) (show 1 ≤ H.2.2.1 99 0 ((H.2.2.1 51 0 (t))) from by omega) (show (H.2.2.1 51 0 (t)) = p → (((H.2.2.1 99 0 (H.2.2.1 51 0 (t))) - (1 : Int)) + (1 : Int)) = H.2.2.1 99 0 ((H.2.2.1 51 0 (t))) from by omega) (show ¬ (H.2.2.1 51 0 (t)) = p → (((H.2.2.1 99 0 (H.2.2.1 51 0 (t))) - (1 : Int)) + (1 : Int)) = H.2.2.1 99 0 ((H.2.2.1 51 0 (t))) - 1 from by omega) (show H.2.2.1 50 0 (t) = 0 → (H.2.2.1 52 0 (t)) ≤ 199 from by omega) (show H.2.2.1 50 0 (t) = 0 → (H.2.2.1 53 0 (t)) ≤ (((H.2.2.1 99 0 (H.2.2.1 51 0 (t))) - (1 : Int)) + (1 : Int)) from by omega) (show 1 ≤ H.2.2.1 50 0 (t) → H.2.2.1 50 0 (t) ≤ 3 → (H.2.2.1 52 0 (t)) ≤ 15 from by omega) (show H.2.2.1 50 0 (t) = 1 → (H.2.2.1 53 0 (t)) ≤ (((H.2.2.1 99 0 (H.2.2.1 51 0 (t))) - (1 : Int)) + (1 : Int)) from by omega) (show H.2.2.1 50 0 (t) = 2 → (H.2.2.1 53 0 (t)) ≤ H.2.2.1 100 0 (16 * (H.2.2.1 51 0 (t)) + (H.2.2.1 52 0 (t))) from by omega) (show H.2.2.1 50 0 (t) = 2 → ¬ H.1 11 56 0 = 32 from by omega) (show (H.2.2.1 52 0 (t)) ≤ 5999 from by omega) (show ¬ H.2.2.1 50 0 (t) = 3 → 0 ≤ (H.2.2.1 53 0 (t)) from by omega) (show gS H (H.1 11 56 0) = 201600 from by omega) (show H.1 11 56 0 = H.1 11 56 0 from by omega) hT hE k0gX rfl
            · have c338 : ¬ (¬ (x335 = (96 : Int))) := hc
              clear hc
              refine J.run0 1 rfl ?_
              try dsimp only
              exact J.retb rfl rfl rfl (show (0 : Int) = 0 ∨ (0 : Int) = 1 by omega) ⟨_, rfl, rfl, hT, hE, k0gX, (show gL H by unfold gL; first | (rw [show H.1 11 56 0 = H.1 11 56 0 by omega]; omega) | (rw [show H.1 11 56 0 = H.1 11 56 0 + 1 by omega, gS.more (by omega)]; omega)), _, rfl, (show 0 ≤ ((0 : Int)) ∧ ((0 : Int)) ≤ 1 from ⟨by omega, by omega⟩)⟩
      by_cases c339 : H.2.2.1 50 0 (t) = 2
      · refine J.tsw rfl rfl rfl ⟨by omega, by omega⟩ (t := 139) (by rw [c339]; rfl) ?_
        have q340 : H.2.2.1 100 0 (((16 : Int) * (H.2.2.1 51 0 (t))) + (H.2.2.1 52 0 (t))) ≤ gS H (H.1 11 56 0) := gS.bnd hT _ (by omega) (by omega)
        have f341 : 0 ≤ H.2.2.1 100 0 (((16 : Int) * (H.2.2.1 51 0 (t))) + (H.2.2.1 52 0 (t))) ∧ H.2.2.1 100 0 (((16 : Int) * (H.2.2.1 51 0 (t))) + (H.2.2.1 52 0 (t))) ≤ 201600 := hT.1 100 (((16 : Int) * (H.2.2.1 51 0 (t))) + (H.2.2.1 52 0 (t)))
        refine J.run 9 rfl (show 0 ≤ ((16 : Int) * (H.2.2.1 51 0 (t))) + (H.2.2.1 52 0 (t)) ∧ ((16 : Int) * (H.2.2.1 51 0 (t))) + (H.2.2.1 52 0 (t)) < 3200 from ⟨by omega, by omega⟩) ?_
        try dsimp only
        refine J.icmp rfl rfl rfl ⟨(show -2147483648 ≤ H.2.2.1 100 0 (((16 : Int) * (H.2.2.1 51 0 (t))) + (H.2.2.1 52 0 (t))) ∧ H.2.2.1 100 0 (((16 : Int) * (H.2.2.1 51 0 (t))) + (H.2.2.1 52 0 (t))) ≤ 2147483647 from ⟨by omega, by omega⟩), (show -2147483648 ≤ H.2.2.1 53 0 (t) ∧ H.2.2.1 53 0 (t) ≤ 2147483647 from ⟨by omega, by omega⟩)⟩ (fun hc => ?_) (fun hc => ?_)
        · have c342 : H.2.2.1 100 0 (((16 : Int) * (H.2.2.1 51 0 (t))) + (H.2.2.1 52 0 (t))) < H.2.2.1 53 0 (t) := hc
          clear hc
          refine J.run0 1 rfl ?_
          try dsimp only
          exact J.retb rfl rfl rfl (show (0 : Int) = 0 ∨ (0 : Int) = 1 by omega) ⟨_, rfl, rfl, hT, hE, k0gX, (show gL H by unfold gL; first | (rw [show H.1 11 56 0 = H.1 11 56 0 by omega]; omega) | (rw [show H.1 11 56 0 = H.1 11 56 0 + 1 by omega, gS.more (by omega)]; omega)), _, rfl, (show 0 ≤ ((0 : Int)) ∧ ((0 : Int)) ≤ 1 from ⟨by omega, by omega⟩)⟩
        · have c343 : ¬ (H.2.2.1 100 0 (((16 : Int) * (H.2.2.1 51 0 (t))) + (H.2.2.1 52 0 (t))) < H.2.2.1 53 0 (t)) := hc
          clear hc
          have f344 : 0 ≤ H.1 11 56 0 ∧ H.1 11 56 0 ≤ 32 := hT.2.1 56
          refine J.run0 3 rfl ?_
          try dsimp only
          refine J.icmp rfl rfl rfl ⟨(show -2147483648 ≤ H.1 11 56 0 ∧ H.1 11 56 0 ≤ 2147483647 from ⟨by omega, by omega⟩), (show -2147483648 ≤ (32 : Int) ∧ (32 : Int) ≤ 2147483647 from ⟨by omega, by omega⟩)⟩ (fun hc => ?_) (fun hc => ?_)
          · have c345 : ¬ (H.1 11 56 0 = (32 : Int)) := hc
            clear hc
            exact (g_isDone_l1 (H0 := H) (t := t) (p := p) (h := h)  hp0 hp1 hp2 ((500 : Int).toNat + 1)) (H.2.2.1 51 0 (t)) (H.2.2.1 52 0 (t)) (H.2.2.1 53 0 (t)) (((H.2.2.1 99 0 (H.2.2.1 51 0 (t))) - (1 : Int)) + (1 : Int)) H _ (show 500 < _ by omega) (show 0 ≤ (H.2.2.1 51 0 (t)) ∧ (H.2.2.1 51 0 (t)) ≤ 199 from ⟨by omega, by omega⟩) (show 0 ≤ (H.2.2.1 52 0 (t)) from by omega) (show 1 ≤ H.2.2.1 99 0 ((H.2.2.1 51 0 (t))) from by omega) (show (H.2.2.1 51 0 (t)) = p → (((H.2.2.1 99 0 (H.2.2.1 51 0 (t))) - (1 : Int)) + (1 : Int)) = H.2.2.1 99 0 ((H.2.2.1 51 0 (t))) from by omega) (show ¬ (H.2.2.1 51 0 (t)) = p → (((H.2.2.1 99 0 (H.2.2.1 51 0 (t))) - (1 : Int)) + (1 : Int)) = H.2.2.1 99 0 ((H.2.2.1 51 0 (t))) - 1 from by omega) (show H.2.2.1 50 0 (t) = 0 → (H.2.2.1 52 0 (t)) ≤ 199 from by omega) (show H.2.2.1 50 0 (t) = 0 → (H.2.2.1 53 0 (t)) ≤ (((H.2.2.1 99 0 (H.2.2.1 51 0 (t))) - (1 : Int)) + (1 : Int)) from by omega) (show 1 ≤ H.2.2.1 50 0 (t) → H.2.2.1 50 0 (t) ≤ 3 → (H.2.2.1 52 0 (t)) ≤ 15 from by omega) (show H.2.2.1 50 0 (t) = 1 → (H.2.2.1 53 0 (t)) ≤ (((H.2.2.1 99 0 (H.2.2.1 51 0 (t))) - (1 : Int)) + (1 : Int)) from by omega) (show H.2.2.1 50 0 (t) = 2 → (H.2.2.1 53 0 (t)) ≤ H.2.2.1 100 0 (16 * (H.2.2.1 51 0 (t)) + (H.2.2.1 52 0 (t))) from by omega) (show H.2.2.1 50 0 (t) = 2 → ¬ H.1 11 56 0 = 32 from by omega) (show (H.2.2.1 52 0 (t)) ≤ 5999 from by omega) (show ¬ H.2.2.1 50 0 (t) = 3 → 0 ≤ (H.2.2.1 53 0 (t)) from by omega) (show gS H (H.1 11 56 0) = 201600 from by omega) (show H.1 11 56 0 = H.1 11 56 0 from by omega) hT hE k0gX rfl
          · have c346 : ¬ (¬ (H.1 11 56 0 = (32 : Int))) := hc
            clear hc
            refine J.run0 1 rfl ?_
            try dsimp only
            exact J.retb rfl rfl rfl (show (0 : Int) = 0 ∨ (0 : Int) = 1 by omega) ⟨_, rfl, rfl, hT, hE, k0gX, (show gL H by unfold gL; first | (rw [show H.1 11 56 0 = H.1 11 56 0 by omega]; omega) | (rw [show H.1 11 56 0 = H.1 11 56 0 + 1 by omega, gS.more (by omega)]; omega)), _, rfl, (show 0 ≤ ((0 : Int)) ∧ ((0 : Int)) ≤ 1 from ⟨by omega, by omega⟩)⟩
      by_cases c347 : H.2.2.1 50 0 (t) = 3
      · refine J.tsw rfl rfl rfl ⟨by omega, by omega⟩ (t := 168) (by rw [c347]; rfl) ?_
        have f348 : 0 ≤ H.2.2.1 105 0 (H.2.2.1 52 0 (t)) ∧ H.2.2.1 105 0 (H.2.2.1 52 0 (t)) ≤ 1 := hT.1 105 (H.2.2.1 52 0 (t))
        refine J.run 4 rfl (show 0 ≤ H.2.2.1 52 0 (t) ∧ H.2.2.1 52 0 (t) < 16 from ⟨by omega, by omega⟩) ?_
        try dsimp only
        refine J.ifc rfl rfl rfl (show -2147483648 ≤ H.2.2.1 105 0 (H.2.2.1 52 0 (t)) ∧ H.2.2.1 105 0 (H.2.2.1 52 0 (t)) ≤ 2147483647 from ⟨by omega, by omega⟩) (fun hc => ?_) (fun hc => ?_)
        · have c349 : ¬ (H.2.2.1 105 0 (H.2.2.1 52 0 (t)) = (0 : Int)) := hc
          clear hc
          exact (g_isDone_l1 (H0 := H) (t := t) (p := p) (h := h)  hp0 hp1 hp2 ((500 : Int).toNat + 1)) (H.2.2.1 51 0 (t)) (H.2.2.1 52 0 (t)) (H.2.2.1 53 0 (t)) (((H.2.2.1 99 0 (H.2.2.1 51 0 (t))) - (1 : Int)) + (1 : Int)) H _ (show 500 < _ by omega) (show 0 ≤ (H.2.2.1 51 0 (t)) ∧ (H.2.2.1 51 0 (t)) ≤ 199 from ⟨by omega, by omega⟩) (show 0 ≤ (H.2.2.1 52 0 (t)) from by omega) (show 1 ≤ H.2.2.1 99 0 ((H.2.2.1 51 0 (t))) from by omega) (show (H.2.2.1 51 0 (t)) = p → (((H.2.2.1 99 0 (H.2.2.1 51 0 (t))) - (1 : Int)) + (1 : Int)) = H.2.2.1 99 0 ((H.2.2.1 51 0 (t))) from by omega) (show ¬ (H.2.2.1 51 0 (t)) = p → (((H.2.2.1 99 0 (H.2.2.1 51 0 (t))) - (1 : Int)) + (1 : Int)) = H.2.2.1 99 0 ((H.2.2.1 51 0 (t))) - 1 from by omega) (show H.2.2.1 50 0 (t) = 0 → (H.2.2.1 52 0 (t)) ≤ 199 from by omega) (show H.2.2.1 50 0 (t) = 0 → (H.2.2.1 53 0 (t)) ≤ (((H.2.2.1 99 0 (H.2.2.1 51 0 (t))) - (1 : Int)) + (1 : Int)) from by omega) (show 1 ≤ H.2.2.1 50 0 (t) → H.2.2.1 50 0 (t) ≤ 3 → (H.2.2.1 52 0 (t)) ≤ 15 from by omega) (show H.2.2.1 50 0 (t) = 1 → (H.2.2.1 53 0 (t)) ≤ (((H.2.2.1 99 0 (H.2.2.1 51 0 (t))) - (1 : Int)) + (1 : Int)) from by omega) (show H.2.2.1 50 0 (t) = 2 → (H.2.2.1 53 0 (t)) ≤ H.2.2.1 100 0 (16 * (H.2.2.1 51 0 (t)) + (H.2.2.1 52 0 (t))) from by omega) (show H.2.2.1 50 0 (t) = 2 → ¬ H.1 11 56 0 = 32 from by omega) (show (H.2.2.1 52 0 (t)) ≤ 5999 from by omega) (show ¬ H.2.2.1 50 0 (t) = 3 → 0 ≤ (H.2.2.1 53 0 (t)) from by omega) (show gS H (H.1 11 56 0) = 201600 from by omega) (show H.1 11 56 0 = H.1 11 56 0 from by omega) hT hE k0gX rfl
        · have c350 : ¬ (¬ (H.2.2.1 105 0 (H.2.2.1 52 0 (t)) = (0 : Int))) := hc
          clear hc
          refine J.run0 1 rfl ?_
          try dsimp only
          exact J.retb rfl rfl rfl (show (0 : Int) = 0 ∨ (0 : Int) = 1 by omega) ⟨_, rfl, rfl, hT, hE, k0gX, (show gL H by unfold gL; first | (rw [show H.1 11 56 0 = H.1 11 56 0 by omega]; omega) | (rw [show H.1 11 56 0 = H.1 11 56 0 + 1 by omega, gS.more (by omega)]; omega)), _, rfl, (show 0 ≤ ((0 : Int)) ∧ ((0 : Int)) ≤ 1 from ⟨by omega, by omega⟩)⟩
      have c351 : H.2.2.1 50 0 (t) < 0 ∨ 3 < H.2.2.1 50 0 (t) := by omega
      refine J.tsw rfl rfl rfl ⟨by omega, by omega⟩ (t := 180) (by rw [if_pos c351]; rfl) ?_
      refine J.run0 3 rfl ?_
      try dsimp only
      refine J.inv rfl rfl rfl rfl rfl rfl jDr rfl rfl rfl rfl rfl (g_isDouble (m := H.2.2.1 52 0 (t)) (o := H.2.2.1 53 0 (t)) hT  (show 0 ≤ (H.2.2.1 52 0 (t)) ∧ (H.2.2.1 52 0 (t)) < 6000 from ⟨by omega, by omega⟩) (show 0 ≤ (H.2.2.1 53 0 (t)) ∧ (H.2.2.1 53 0 (t)) < 6000 from ⟨by omega, by omega⟩)) ?_
      rintro v w H ⟨rfl, rfl, x352, rfl, r353⟩
      have r353' : 0 ≤ x352 ∧ x352 ≤ 1 := r353
      try dsimp only [Option.toList, List.append, List.cons_append, List.nil_append]
      refine J.ifc rfl rfl rfl (show -2147483648 ≤ x352 ∧ x352 ≤ 2147483647 from ⟨by omega, by omega⟩) (fun hc => ?_) (fun hc => ?_)
      · have c354 : x352 = (0 : Int) := hc
        clear hc
        refine J.run0 1 rfl ?_
        try dsimp only
        exact J.retb rfl rfl rfl (show (0 : Int) = 0 ∨ (0 : Int) = 1 by omega) ⟨_, rfl, rfl, hT, hE, k0gX, (show gL H by unfold gL; first | (rw [show H.1 11 56 0 = H.1 11 56 0 by omega]; omega) | (rw [show H.1 11 56 0 = H.1 11 56 0 + 1 by omega, gS.more (by omega)]; omega)), _, rfl, (show 0 ≤ ((0 : Int)) ∧ ((0 : Int)) ≤ 1 from ⟨by omega, by omega⟩)⟩
      · have c355 : ¬ (x352 = (0 : Int)) := hc
        clear hc
        have f356 : 0 ≤ H.2.2.1 65 0 (H.2.2.1 52 0 (t)) ∧ H.2.2.1 65 0 (H.2.2.1 52 0 (t)) ≤ 301 := hT.1 65 (H.2.2.1 52 0 (t))
        refine J.run 5 rfl (show 0 ≤ H.2.2.1 52 0 (t) ∧ H.2.2.1 52 0 (t) < 6000 from ⟨by omega, by omega⟩) ?_
        try dsimp only
        refine J.icmp rfl rfl rfl ⟨(show -2147483648 ≤ H.2.2.1 65 0 (H.2.2.1 52 0 (t)) ∧ H.2.2.1 65 0 (H.2.2.1 52 0 (t)) ≤ 2147483647 from ⟨by omega, by omega⟩), (show -2147483648 ≤ h ∧ h ≤ 2147483647 from ⟨by omega, by omega⟩)⟩ (fun hc => ?_) (fun hc => ?_)
        · have c357 : h < H.2.2.1 65 0 (H.2.2.1 52 0 (t)) := hc
          clear hc
          refine J.run0 1 rfl ?_
          try dsimp only
          exact J.retb rfl rfl rfl (show (0 : Int) = 0 ∨ (0 : Int) = 1 by omega) ⟨_, rfl, rfl, hT, hE, k0gX, (show gL H by unfold gL; first | (rw [show H.1 11 56 0 = H.1 11 56 0 by omega]; omega) | (rw [show H.1 11 56 0 = H.1 11 56 0 + 1 by omega, gS.more (by omega)]; omega)), _, rfl, (show 0 ≤ ((0 : Int)) ∧ ((0 : Int)) ≤ 1 from ⟨by omega, by omega⟩)⟩
        · have c358 : ¬ (h < H.2.2.1 65 0 (H.2.2.1 52 0 (t))) := hc
          clear hc
          have f359 : 0 ≤ H.2.2.1 64 0 (H.2.2.1 52 0 (t)) ∧ H.2.2.1 64 0 (H.2.2.1 52 0 (t)) ≤ 15 := hT.1 64 (H.2.2.1 52 0 (t))
          have f360 : 0 ≤ H.2.2.1 101 0 (H.2.2.1 64 0 (H.2.2.1 52 0 (t))) ∧ H.2.2.1 101 0 (H.2.2.1 64 0 (H.2.2.1 52 0 (t))) ≤ 301 := hT.1 101 (H.2.2.1 64 0 (H.2.2.1 52 0 (t)))
          refine J.run 11 rfl ⟨(show 0 ≤ H.2.2.1 52 0 (t) ∧ H.2.2.1 52 0 (t) < 6000 from ⟨by omega, by omega⟩), (show 0 ≤ H.2.2.1 52 0 (t) ∧ H.2.2.1 52 0 (t) < 6000 from ⟨by omega, by omega⟩), (show 0 ≤ H.2.2.1 64 0 (H.2.2.1 52 0 (t)) ∧ H.2.2.1 64 0 (H.2.2.1 52 0 (t)) < 16 from ⟨by omega, by omega⟩)⟩ ?_
          try dsimp only
          refine J.icmp rfl rfl rfl ⟨(show -2147483648 ≤ H.2.2.1 65 0 (H.2.2.1 52 0 (t)) ∧ H.2.2.1 65 0 (H.2.2.1 52 0 (t)) ≤ 2147483647 from ⟨by omega, by omega⟩), (show -2147483648 ≤ H.2.2.1 101 0 (H.2.2.1 64 0 (H.2.2.1 52 0 (t))) ∧ H.2.2.1 101 0 (H.2.2.1 64 0 (H.2.2.1 52 0 (t))) ≤ 2147483647 from ⟨by omega, by omega⟩)⟩ (fun hc => ?_) (fun hc => ?_)
          · have c361 : H.2.2.1 101 0 (H.2.2.1 64 0 (H.2.2.1 52 0 (t))) < H.2.2.1 65 0 (H.2.2.1 52 0 (t)) := hc
            clear hc
            exact (g_isDone_l1 (H0 := H) (t := t) (p := p) (h := h)  hp0 hp1 hp2 ((500 : Int).toNat + 1)) (H.2.2.1 51 0 (t)) (H.2.2.1 52 0 (t)) (H.2.2.1 53 0 (t)) (((H.2.2.1 99 0 (H.2.2.1 51 0 (t))) - (1 : Int)) + (1 : Int)) H _ (show 500 < _ by omega) (show 0 ≤ (H.2.2.1 51 0 (t)) ∧ (H.2.2.1 51 0 (t)) ≤ 199 from ⟨by omega, by omega⟩) (show 0 ≤ (H.2.2.1 52 0 (t)) from by omega) (show 1 ≤ H.2.2.1 99 0 ((H.2.2.1 51 0 (t))) from by omega) (show (H.2.2.1 51 0 (t)) = p → (((H.2.2.1 99 0 (H.2.2.1 51 0 (t))) - (1 : Int)) + (1 : Int)) = H.2.2.1 99 0 ((H.2.2.1 51 0 (t))) from by omega) (show ¬ (H.2.2.1 51 0 (t)) = p → (((H.2.2.1 99 0 (H.2.2.1 51 0 (t))) - (1 : Int)) + (1 : Int)) = H.2.2.1 99 0 ((H.2.2.1 51 0 (t))) - 1 from by omega) (show H.2.2.1 50 0 (t) = 0 → (H.2.2.1 52 0 (t)) ≤ 199 from by omega) (show H.2.2.1 50 0 (t) = 0 → (H.2.2.1 53 0 (t)) ≤ (((H.2.2.1 99 0 (H.2.2.1 51 0 (t))) - (1 : Int)) + (1 : Int)) from by omega) (show 1 ≤ H.2.2.1 50 0 (t) → H.2.2.1 50 0 (t) ≤ 3 → (H.2.2.1 52 0 (t)) ≤ 15 from by omega) (show H.2.2.1 50 0 (t) = 1 → (H.2.2.1 53 0 (t)) ≤ (((H.2.2.1 99 0 (H.2.2.1 51 0 (t))) - (1 : Int)) + (1 : Int)) from by omega) (show H.2.2.1 50 0 (t) = 2 → (H.2.2.1 53 0 (t)) ≤ H.2.2.1 100 0 (16 * (H.2.2.1 51 0 (t)) + (H.2.2.1 52 0 (t))) from by omega) (show H.2.2.1 50 0 (t) = 2 → ¬ H.1 11 56 0 = 32 from by omega) (show (H.2.2.1 52 0 (t)) ≤ 5999 from by omega) (show ¬ H.2.2.1 50 0 (t) = 3 → 0 ≤ (H.2.2.1 53 0 (t)) from by omega) (show gS H (H.1 11 56 0) = 201600 from by omega) (show H.1 11 56 0 = H.1 11 56 0 from by omega) hT hE k0gX rfl
          · have c362 : ¬ (H.2.2.1 101 0 (H.2.2.1 64 0 (H.2.2.1 52 0 (t))) < H.2.2.1 65 0 (H.2.2.1 52 0 (t))) := hc
            clear hc
            refine J.run0 1 rfl ?_
            try dsimp only
            exact J.retb rfl rfl rfl (show (0 : Int) = 0 ∨ (0 : Int) = 1 by omega) ⟨_, rfl, rfl, hT, hE, k0gX, (show gL H by unfold gL; first | (rw [show H.1 11 56 0 = H.1 11 56 0 by omega]; omega) | (rw [show H.1 11 56 0 = H.1 11 56 0 + 1 by omega, gS.more (by omega)]; omega)), _, rfl, (show 0 ≤ ((0 : Int)) ∧ ((0 : Int)) ≤ 1 from ⟨by omega, by omega⟩)⟩
  · have c363 : ¬ ((1 : Int) ≤ H.2.2.1 99 0 (H.2.2.1 51 0 (t))) := hc
    clear hc
    refine J.run0 1 rfl ?_
    try dsimp only
    exact J.retb rfl rfl rfl (show (0 : Int) = 0 ∨ (0 : Int) = 1 by omega) ⟨_, rfl, rfl, hT, hE, k0gX, (show gL H by unfold gL; first | (rw [show H.1 11 56 0 = H.1 11 56 0 by omega]; omega) | (rw [show H.1 11 56 0 = H.1 11 56 0 + 1 by omega, gS.more (by omega)]; omega)), _, rfl, (show 0 ≤ ((0 : Int)) ∧ ((0 : Int)) ≤ 1 from ⟨by omega, by omega⟩)⟩
end
