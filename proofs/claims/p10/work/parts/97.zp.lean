-- M: X11_set
section
variable {d : Nat} {w : jW} 
-- 
theorem g_set_l0 {n : Int} {H0 : jH} (hp0 : 0 ≤ n ∧ n < 16) (hp1 : gQ H0) (hp2 : gK H0) : ∀ (m : Nat), (∀ (k : Int) (H : jH) (lv : jL), 6000 - k < (m : Int) → (0 ≤ k ∧ k ≤ H.2.2.1 71 0 (n)) → (0 ≤ H.2.2.1 113 0 (n) ∧ H.2.2.1 113 0 (n) ≤ k) → (H.2.2.1 71 0 (n) ≤ 6000) → (∀ i, i < 16 * n ∨ 16 * n + 16 ≤ i → H.2.2.1 110 0 i = H0.2.2.1 110 0 i) → (∀ i, i ≠ n → H.2.2.1 111 0 i = H0.2.2.1 111 0 i) → (∀ i, i ≠ n → H.2.2.1 113 0 i = H0.2.2.1 113 0 i) → (H.2.2.1 111 0 n = jcnt (fun z => H.2.2.1 110 0 (16 * n + z)) 16) → gT H → jEx [48, 56, 57] [108, 99, 100, 101, 105, 102, 103, 104, 111, 110, 113, 112] H H0 → gP H → gX H → gL H → (lv = [(2, .inl k), (0, jT), (1, .inl n)]) → J true (d + 3) 127 w (70, lv, [], H) (jN fun v w' H' => w' = w ∧ gT H' ∧ jEx [48, 56, 57] [108, 99, 100, 101, 105, 102, 103, 104, 111, 110, 113, 112] H' H0 ∧ gP H' ∧ gX H' ∧ gL H' ∧ (gQ H') ∧ (gK H') ∧ v = none)) := by
  intro m
  induction m with
  | zero =>
    skip
    · intro k H lv hm hi0 hi1 hi2 hi3 hi4 hi5 hi6 hT hE k0gP k0gX k0gL hlv
      exfalso
      omega
  | succ m ih =>
    skip
    · intro k H lv hm hi0 hi1 hi2 hi3 hi4 hi5 hi6 hT hE k0gP k0gX k0gL hlv
      rcases hlv with rfl
      have tP : H.2.2.1 110 0 = H.2.2.1 110 0 := rfl
      have tT : H.2.2.1 111 0 = H.2.2.1 111 0 := rfl
      have tM : H.2.2.1 113 0 = H.2.2.1 113 0 := rfl
      have f1 : 0 ≤ H.2.2.1 71 0 (n) ∧ H.2.2.1 71 0 (n) ≤ 6000 := hT.1 71 (n)
      refine J.run 5 rfl (show 0 ≤ n ∧ n < 16 from ⟨by omega, by omega⟩) ?_
      try dsimp only
      refine J.icmp rfl rfl rfl ⟨(show -2147483648 ≤ k ∧ k ≤ 2147483647 from ⟨by omega, by omega⟩), (show -2147483648 ≤ H.2.2.1 71 0 (n) ∧ H.2.2.1 71 0 (n) ≤ 2147483647 from ⟨by omega, by omega⟩)⟩ (fun hc => ?_) (fun hc => ?_)
      · have c2 : H.2.2.1 71 0 (n) ≤ k := hc
        clear hc
        exact J.retv rfl rfl rfl ⟨_, rfl, rfl, hT, hE, k0gP, k0gX, k0gL, (show gQ H by exact gQ.set hp1 hi6 hi3 hi4), (show gK H by exact gK.set hp2 (hE.r 71 (by decide)) (hE.r 114 (by decide)) (hE.r 70 (by decide)) (by have e := congrFun (hE.r 71 (by decide)) n; omega) hi5), rfl⟩
      · have c3 : ¬ (H.2.2.1 71 0 (n) ≤ k) := hc
        clear hc
        have f4 : 0 ≤ H.2.2.1 70 0 (((6000 : Int) * n) + k) ∧ H.2.2.1 70 0 (((6000 : Int) * n) + k) ≤ 5999 := hT.1 70 (((6000 : Int) * n) + k)
        have f5 : 0 ≤ H.2.2.1 65 0 (H.2.2.1 70 0 (((6000 : Int) * n) + k)) ∧ H.2.2.1 65 0 (H.2.2.1 70 0 (((6000 : Int) * n) + k)) ≤ 301 := hT.1 65 (H.2.2.1 70 0 (((6000 : Int) * n) + k))
        refine J.run 13 rfl ⟨(show 0 ≤ ((6000 : Int) * n) + k ∧ ((6000 : Int) * n) + k < 96000 from ⟨by omega, by omega⟩), (show 0 ≤ H.2.2.1 70 0 (((6000 : Int) * n) + k) ∧ H.2.2.1 70 0 (((6000 : Int) * n) + k) < 6000 from ⟨by omega, by omega⟩)⟩ ?_
        try dsimp only
        refine J.inv rfl rfl rfl rfl rfl rfl jDr rfl rfl rfl rfl rfl (g_height (n := n) hT  (show 0 ≤ (n) ∧ (n) < 16 from ⟨by omega, by omega⟩)) ?_
        rintro v w H ⟨rfl, rfl, x6, rfl, r7⟩
        have r7' : 1 ≤ x6 ∧ x6 ≤ 301 := r7
        try dsimp only [Option.toList, List.append, List.cons_append, List.nil_append]
        refine J.icmp rfl rfl rfl ⟨(show -2147483648 ≤ H.2.2.1 65 0 (H.2.2.1 70 0 (((6000 : Int) * n) + k)) ∧ H.2.2.1 65 0 (H.2.2.1 70 0 (((6000 : Int) * n) + k)) ≤ 2147483647 from ⟨by omega, by omega⟩), (show -2147483648 ≤ x6 ∧ x6 ≤ 2147483647 from ⟨by omega, by omega⟩)⟩ (fun hc => ?_) (fun hc => ?_)
        · have c8 : ¬ (H.2.2.1 65 0 (H.2.2.1 70 0 (((6000 : Int) * n) + k)) = x6) := hc
          clear hc
          refine J.run0 2 rfl ?_
          try dsimp only
          exact ih (k + 1) H _ (show 6000 - (k + 1) < _ by omega) (show 0 ≤ (k + 1) ∧ (k + 1) ≤ H.2.2.1 71 0 (n) from ⟨by omega, by omega⟩) (show 0 ≤ H.2.2.1 113 0 (n) ∧ H.2.2.1 113 0 (n) ≤ (k + 1) from ⟨by omega, by omega⟩) (show H.2.2.1 71 0 (n) ≤ 6000 from by omega) (show ∀ i, i < 16 * n ∨ 16 * n + 16 ≤ i → H.2.2.1 110 0 i = H0.2.2.1 110 0 i from (by first | (rw [tP]; exact fun _ _ => rfl) | (rw [tP]; exact hi3) | exact gq2 ⟨by omega, by omega⟩ hi3 tP)) (show ∀ i, i ≠ n → H.2.2.1 111 0 i = H0.2.2.1 111 0 i from (by first | exact gq3 (fun _ _ => rfl) tT | (rw [tT]; exact hi4) | exact gq3 hi4 tT)) (show ∀ i, i ≠ n → H.2.2.1 113 0 i = H0.2.2.1 113 0 i from (by first | exact gq3 hi5 tM | (rw [tM]; exact hi5))) (show H.2.2.1 111 0 n = jcnt (fun z => H.2.2.1 110 0 (16 * n + z)) 16 from (by first | (rw [tT, tP]; exact hi6) | (rw [tT, tP]; exact hi2.trans (by rw [show k = 16 by omega]; rfl)))) hT hE k0gP k0gX k0gL rfl
        · have c9 : ¬ (¬ (H.2.2.1 65 0 (H.2.2.1 70 0 (((6000 : Int) * n) + k)) = x6)) := hc
          clear hc
          have f10 : 0 ≤ H.2.2.1 113 0 (n) ∧ H.2.2.1 113 0 (n) ≤ 6000 := hT.1 113 (n)
          refine J.run 14 rfl ⟨(show 0 ≤ n ∧ n < 16 from ⟨by omega, by omega⟩), (show 0 ≤ n ∧ n < 16 from ⟨by omega, by omega⟩)⟩ ?_
          try dsimp only
          refine J.gn fun H11 hH11 => ?_
          have hT12 : gT H11 := by rw [hH11]; exact gT.upd hT (show 0 ≤ (H.2.2.1 113 0 (n)) + (1 : Int) ∧ (H.2.2.1 113 0 (n)) + (1 : Int) ≤ 6000 from ⟨by omega, by omega⟩) (fun z => absurd z (by decide))
          have hE13 : jEx [48, 56, 57] [108, 99, 100, 101, 105, 102, 103, 104, 111, 110, 113, 112] H11 H0 := by rw [hH11]; exact jEx.row hE (by decide)
          have k14 : gP H11 := by rw [hH11]; exact k0gP
          have k15 : gX H11 := by rw [hH11]; exact k0gX
          have k16 : gL H11 := by rw [hH11]; exact k0gL
          have tP := (show H11.2.2.1 110 0 = H.2.2.1 110 0 from by subst hH11; rfl).trans tP
          have tT := (show H11.2.2.1 111 0 = H.2.2.1 111 0 from by subst hH11; rfl).trans tT
          have qk : 0 ≤ H.2.2.1 71 0 (n) ∧ H.2.2.1 71 0 (n) ≤ 6000 := hT.1 71 n
          have qe : H11.2.2.1 71 0 (n) = H.2.2.1 71 0 (n) := by subst hH11; rfl
          have tM : H11.2.2.1 113 0 = jup (_) (n) ((H.2.2.1 113 0 (n)) + (1 : Int)) := (show H11.2.2.1 113 0 = jup (H.2.2.1 113 0) (n) ((H.2.2.1 113 0 (n)) + (1 : Int)) from by subst hH11; rfl).trans (by rw [tM])
          have g17 : H11.2.2.1 113 0 (n) = (H.2.2.1 113 0 (n)) + (1 : Int) := by subst hH11; exact if_pos rfl
          have g18 : H11.1 11 12 0 = H.1 11 12 0 := by subst hH11; rfl
          have g19 : H11.2.2.1 71 0 (n) = H.2.2.1 71 0 (n) := by subst hH11; rfl
          have g21 : H11.2.2.1 70 0 (((6000 : Int) * n) + k) = H.2.2.1 70 0 (((6000 : Int) * n) + k) := by subst hH11; rfl
          have g22 : H11.2.2.1 65 0 (H.2.2.1 70 0 (((6000 : Int) * n) + k)) = H.2.2.1 65 0 (H.2.2.1 70 0 (((6000 : Int) * n) + k)) := by subst hH11; rfl
          clear hH11
          refine J.run 10 rfl ⟨(show 0 ≤ ((6000 : Int) * n) + k ∧ ((6000 : Int) * n) + k < 96000 from ⟨by omega, by omega⟩), (show 0 ≤ ((6000 : Int) * n) + (H.2.2.1 113 0 (n)) ∧ ((6000 : Int) * n) + (H.2.2.1 113 0 (n)) < 96000 from ⟨by omega, by omega⟩)⟩ ?_
          try dsimp only
          refine J.gn fun H23 hH23 => ?_
          have hT24 : gT H23 := by rw [hH23]; exact gT.upd hT12 (show 0 ≤ H11.2.2.1 70 0 (((6000 : Int) * n) + k) ∧ H11.2.2.1 70 0 (((6000 : Int) * n) + k) ≤ 5999 from ⟨by omega, by omega⟩) (fun z => absurd z (by decide))
          have hE25 : jEx [48, 56, 57] [108, 99, 100, 101, 105, 102, 103, 104, 111, 110, 113, 112] H23 H0 := by rw [hH23]; exact jEx.row hE13 (by decide)
          have k26 : gP H23 := by rw [hH23]; exact k14
          have k27 : gX H23 := by rw [hH23]; exact k15
          have k28 : gL H23 := by rw [hH23]; exact k16
          have tP := (show H23.2.2.1 110 0 = H11.2.2.1 110 0 from by subst hH23; rfl).trans tP
          have tT := (show H23.2.2.1 111 0 = H11.2.2.1 111 0 from by subst hH23; rfl).trans tT
          have tM := (show H23.2.2.1 113 0 = H11.2.2.1 113 0 from by subst hH23; rfl).trans tM
          have g29 : H23.2.2.1 112 0 (((6000 : Int) * n) + (H.2.2.1 113 0 (n))) = H11.2.2.1 70 0 (((6000 : Int) * n) + k) := by subst hH23; exact if_pos rfl
          have g30 : H23.1 11 12 0 = H11.1 11 12 0 := by subst hH23; rfl
          have g31 : H23.2.2.1 113 0 (n) = H11.2.2.1 113 0 (n) := by subst hH23; rfl
          have g32 : H23.2.2.1 71 0 (n) = H11.2.2.1 71 0 (n) := by subst hH23; rfl
          have g33 : H23.2.2.1 70 0 (((6000 : Int) * n) + k) = H11.2.2.1 70 0 (((6000 : Int) * n) + k) := by subst hH23; rfl
          have g34 : H23.2.2.1 65 0 (H.2.2.1 70 0 (((6000 : Int) * n) + k)) = H11.2.2.1 65 0 (H.2.2.1 70 0 (((6000 : Int) * n) + k)) := by subst hH23; rfl
          clear hH23
          refine J.run0 2 rfl ?_
          try dsimp only
          exact ih (k + 1) H23 _ (show 6000 - (k + 1) < _ by omega) (show 0 ≤ (k + 1) ∧ (k + 1) ≤ H23.2.2.1 71 0 (n) from ⟨by omega, by omega⟩) (show 0 ≤ H23.2.2.1 113 0 (n) ∧ H23.2.2.1 113 0 (n) ≤ (k + 1) from ⟨by omega, by omega⟩) (show H23.2.2.1 71 0 (n) ≤ 6000 from by omega) (show ∀ i, i < 16 * n ∨ 16 * n + 16 ≤ i → H23.2.2.1 110 0 i = H0.2.2.1 110 0 i from (by first | (rw [tP]; exact fun _ _ => rfl) | (rw [tP]; exact hi3) | exact gq2 ⟨by omega, by omega⟩ hi3 tP)) (show ∀ i, i ≠ n → H23.2.2.1 111 0 i = H0.2.2.1 111 0 i from (by first | exact gq3 (fun _ _ => rfl) tT | (rw [tT]; exact hi4) | exact gq3 hi4 tT)) (show ∀ i, i ≠ n → H23.2.2.1 113 0 i = H0.2.2.1 113 0 i from (by first | exact gq3 hi5 tM | (rw [tM]; exact hi5))) (show H23.2.2.1 111 0 n = jcnt (fun z => H23.2.2.1 110 0 (16 * n + z)) 16 from (by first | (rw [tT, tP]; exact hi6) | (rw [tT, tP]; exact hi2.trans (by rw [show k = 16 by omega]; rfl)))) hT24 hE25 k26 k27 k28 rfl
-- 
theorem g_set_l1 {n : Int} {H0 : jH} (hp0 : 0 ≤ n ∧ n < 16) (hp1 : gQ H0) (hp2 : gK H0) : ∀ (m : Nat), (∀ (k : Int) (H : jH) (lv : jL), 16 - k < (m : Int) → (0 ≤ k ∧ k ≤ 16) → (0 ≤ H.2.2.1 111 0 (n) ∧ H.2.2.1 111 0 (n) ≤ 40320000 * k) → (H.2.2.1 111 0 n = jcnt (fun z => H.2.2.1 110 0 (16 * n + z)) k.toNat) → (∀ i, i < 16 * n ∨ 16 * n + 16 ≤ i → H.2.2.1 110 0 i = H0.2.2.1 110 0 i) → (∀ i, i ≠ n → H.2.2.1 111 0 i = H0.2.2.1 111 0 i) → (∀ i, i ≠ n → H.2.2.1 113 0 i = H0.2.2.1 113 0 i) → gT H → jEx [48, 56, 57] [108, 99, 100, 101, 105, 102, 103, 104, 111, 110, 113, 112] H H0 → gP H → gX H → gL H → (lv = [(2, .inl k), (0, jT), (1, .inl n)]) → J true (d + 3) 127 w (19, lv, [], H) (jN fun v w' H' => w' = w ∧ gT H' ∧ jEx [48, 56, 57] [108, 99, 100, 101, 105, 102, 103, 104, 111, 110, 113, 112] H' H0 ∧ gP H' ∧ gX H' ∧ gL H' ∧ (gQ H') ∧ (gK H') ∧ v = none)) := by
  intro m
  induction m with
  | zero =>
    skip
    · intro k H lv hm hi0 hi1 hi2 hi3 hi4 hi5 hT hE k0gP k0gX k0gL hlv
      exfalso
      omega
  | succ m ih =>
    skip
    · intro k H lv hm hi0 hi1 hi2 hi3 hi4 hi5 hT hE k0gP k0gX k0gL hlv
      rcases hlv with rfl
      have tP : H.2.2.1 110 0 = H.2.2.1 110 0 := rfl
      have tT : H.2.2.1 111 0 = H.2.2.1 111 0 := rfl
      have tM : H.2.2.1 113 0 = H.2.2.1 113 0 := rfl
      refine J.run0 2 rfl ?_
      try dsimp only
      refine J.icmp rfl rfl rfl ⟨(show -2147483648 ≤ k ∧ k ≤ 2147483647 from ⟨by omega, by omega⟩), (show -2147483648 ≤ (16 : Int) ∧ (16 : Int) ≤ 2147483647 from ⟨by omega, by omega⟩)⟩ (fun hc => ?_) (fun hc => ?_)
      · have c35 : (16 : Int) ≤ k := hc
        clear hc
        refine J.run 5 rfl (show 0 ≤ n ∧ n < 16 from ⟨by omega, by omega⟩) ?_
        try dsimp only
        refine J.gn fun H36 hH36 => ?_
        have hT37 : gT H36 := by rw [hH36]; exact gT.upd hT (show 0 ≤ (0 : Int) ∧ (0 : Int) ≤ 6000 from ⟨by omega, by omega⟩) (fun z => absurd z (by decide))
        have hE38 : jEx [48, 56, 57] [108, 99, 100, 101, 105, 102, 103, 104, 111, 110, 113, 112] H36 H0 := by rw [hH36]; exact jEx.row hE (by decide)
        have k39 : gP H36 := by rw [hH36]; exact k0gP
        have k40 : gX H36 := by rw [hH36]; exact k0gX
        have k41 : gL H36 := by rw [hH36]; exact k0gL
        have tP := (show H36.2.2.1 110 0 = H.2.2.1 110 0 from by subst hH36; rfl).trans tP
        have tT := (show H36.2.2.1 111 0 = H.2.2.1 111 0 from by subst hH36; rfl).trans tT
        have qk : 0 ≤ H.2.2.1 71 0 (n) ∧ H.2.2.1 71 0 (n) ≤ 6000 := hT.1 71 n
        have qe : H36.2.2.1 71 0 (n) = H.2.2.1 71 0 (n) := by subst hH36; rfl
        have tM : H36.2.2.1 113 0 = jup (_) (n) ((0 : Int)) := (show H36.2.2.1 113 0 = jup (H.2.2.1 113 0) (n) ((0 : Int)) from by subst hH36; rfl).trans (by rw [tM])
        have g42 : H36.2.2.1 113 0 (n) = (0 : Int) := by subst hH36; exact if_pos rfl
        have g43 : H36.1 11 12 0 = H.1 11 12 0 := by subst hH36; rfl
        have g44 : H36.2.2.1 111 0 (n) = H.2.2.1 111 0 (n) := by subst hH36; rfl
        clear hH36
        refine J.run0 2 rfl ?_
        try dsimp only
        exact (g_set_l0 (H0 := H0) (n := n)  hp0 hp1 hp2 ((6000 - ((0 : Int)) : Int).toNat + 1)) ((0 : Int)) H36 _ (show 6000 - ((0 : Int)) < _ by omega) (show 0 ≤ ((0 : Int)) ∧ ((0 : Int)) ≤ H36.2.2.1 71 0 (n) from ⟨by omega, by omega⟩) (show 0 ≤ H36.2.2.1 113 0 (n) ∧ H36.2.2.1 113 0 (n) ≤ ((0 : Int)) from ⟨by omega, by omega⟩) (show H36.2.2.1 71 0 (n) ≤ 6000 from by omega) (show ∀ i, i < 16 * n ∨ 16 * n + 16 ≤ i → H36.2.2.1 110 0 i = H0.2.2.1 110 0 i from (by first | (rw [tP]; exact fun _ _ => rfl) | (rw [tP]; exact hi3) | exact gq2 ⟨by omega, by omega⟩ hi3 tP)) (show ∀ i, i ≠ n → H36.2.2.1 111 0 i = H0.2.2.1 111 0 i from (by first | exact gq3 (fun _ _ => rfl) tT | (rw [tT]; exact hi4) | exact gq3 hi4 tT)) (show ∀ i, i ≠ n → H36.2.2.1 113 0 i = H0.2.2.1 113 0 i from (by first | exact gq3 hi5 tM | (rw [tM]; exact hi5))) (show H36.2.2.1 111 0 n = jcnt (fun z => H36.2.2.1 110 0 (16 * n + z)) 16 from (by first | (rw [tT, tP]; exact hi6) | (rw [tT, tP]; exact hi2.trans (by rw [show k = 16 by omega]; rfl)))) hT37 hE38 k39 k40 k41 rfl
      · have c45 : ¬ ((16 : Int) ≤ k) := hc
        clear hc
        refine J.run0 9 rfl ?_
        try dsimp only
        refine J.inv rfl rfl rfl rfl rfl rfl jDr rfl rfl rfl rfl rfl (g_powerOf (n := k) hT  (show 0 ≤ (k) ∧ (k) < 16 from ⟨by omega, by omega⟩)) ?_
        rintro v w H ⟨rfl, rfl, x46, rfl, r47⟩
        have r47' : x46 = gpow H ((k)) ∧ 0 ≤ x46 ∧ x46 ≤ 40320000 := r47
        try dsimp only [Option.toList, List.append, List.cons_append, List.nil_append]
        refine J.run 1 rfl (show 0 ≤ ((16 : Int) * n) + k ∧ ((16 : Int) * n) + k < 256 from ⟨by omega, by omega⟩) ?_
        try dsimp only
        refine J.gn fun H48 hH48 => ?_
        have hT49 : gT H48 := by rw [hH48]; exact gT.upd hT (show 0 ≤ x46 ∧ x46 ≤ 40320000 from ⟨by omega, by omega⟩) (fun z => absurd z (by decide))
        have hE50 : jEx [48, 56, 57] [108, 99, 100, 101, 105, 102, 103, 104, 111, 110, 113, 112] H48 H0 := by rw [hH48]; exact jEx.row hE (by decide)
        have k51 : gP H48 := by rw [hH48]; exact k0gP
        have k52 : gX H48 := by rw [hH48]; exact k0gX
        have k53 : gL H48 := by rw [hH48]; exact k0gL
        have tP : H48.2.2.1 110 0 = jup (H.2.2.1 110 0) (((16 : Int) * n) + k) (x46) := by subst hH48; rfl
        have tT := (show H48.2.2.1 111 0 = H.2.2.1 111 0 from by subst hH48; rfl).trans tT
        have tM := (show H48.2.2.1 113 0 = H.2.2.1 113 0 from by subst hH48; rfl).trans tM
        have gp1 : gpow H48 (k) = gpow H (k) := by subst hH48; rfl
        have g54 : H48.2.2.1 110 0 (((16 : Int) * n) + k) = x46 := by subst hH48; exact if_pos rfl
        have g55 : H48.1 11 12 0 = H.1 11 12 0 := by subst hH48; rfl
        have g56 : H48.2.2.1 111 0 (n) = H.2.2.1 111 0 (n) := by subst hH48; rfl
        clear hH48
        have f57 : 0 ≤ H48.2.2.1 111 0 (n) ∧ H48.2.2.1 111 0 (n) ≤ 645120000 := hT49.1 111 (n)
        refine J.run 7 rfl (show 0 ≤ n ∧ n < 16 from ⟨by omega, by omega⟩) ?_
        try dsimp only
        refine J.inv rfl rfl rfl rfl rfl rfl jDr rfl rfl rfl rfl rfl (g_powerOf (n := k) hT49  (show 0 ≤ (k) ∧ (k) < 16 from ⟨by omega, by omega⟩)) ?_
        rintro v w H48 ⟨rfl, rfl, x58, rfl, r59⟩
        have r59' : x58 = gpow H48 ((k)) ∧ 0 ≤ x58 ∧ x58 ≤ 40320000 := r59
        try dsimp only [Option.toList, List.append, List.cons_append, List.nil_append]
        refine J.run 2 rfl (show 0 ≤ n ∧ n < 16 from ⟨by omega, by omega⟩) ?_
        try dsimp only
        refine J.gn fun H60 hH60 => ?_
        have hT61 : gT H60 := by rw [hH60]; exact gT.upd hT49 (show 0 ≤ (H48.2.2.1 111 0 (n)) + x58 ∧ (H48.2.2.1 111 0 (n)) + x58 ≤ 645120000 from ⟨by omega, by omega⟩) (fun z => absurd z (by decide))
        have hE62 : jEx [48, 56, 57] [108, 99, 100, 101, 105, 102, 103, 104, 111, 110, 113, 112] H60 H0 := by rw [hH60]; exact jEx.row hE50 (by decide)
        have k63 : gP H60 := by rw [hH60]; exact k51
        have k64 : gX H60 := by rw [hH60]; exact k52
        have k65 : gL H60 := by rw [hH60]; exact k53
        have tP := (show H60.2.2.1 110 0 = H48.2.2.1 110 0 from by subst hH60; rfl).trans tP
        have tT : H60.2.2.1 111 0 = jup (_) (n) ((H48.2.2.1 111 0 (n)) + x58) := (show H60.2.2.1 111 0 = jup (H48.2.2.1 111 0) (n) ((H48.2.2.1 111 0 (n)) + x58) from by subst hH60; rfl).trans (by rw [tT])
        have tM := (show H60.2.2.1 113 0 = H48.2.2.1 113 0 from by subst hH60; rfl).trans tM
        have g66 : H60.2.2.1 111 0 (n) = (H48.2.2.1 111 0 (n)) + x58 := by subst hH60; exact if_pos rfl
        have g67 : H60.1 11 12 0 = H48.1 11 12 0 := by subst hH60; rfl
        have g68 : H60.2.2.1 110 0 (((16 : Int) * n) + k) = H48.2.2.1 110 0 (((16 : Int) * n) + k) := by subst hH60; rfl
        clear hH60
        refine J.run0 2 rfl ?_
        try dsimp only
        exact ih (k + 1) H60 _ (show 16 - (k + 1) < _ by omega) (show 0 ≤ (k + 1) ∧ (k + 1) ≤ 16 from ⟨by omega, by omega⟩) (show 0 ≤ H60.2.2.1 111 0 (n) ∧ H60.2.2.1 111 0 (n) ≤ 40320000 * (k + 1) from ⟨by omega, by omega⟩) (show H60.2.2.1 111 0 n = jcnt (fun z => H60.2.2.1 110 0 (16 * n + z)) (k + 1).toNat from (by first | (rw [tT]; exact if_pos rfl) | (have e := gq1 (by omega) hi2 tP; omega))) (show ∀ i, i < 16 * n ∨ 16 * n + 16 ≤ i → H60.2.2.1 110 0 i = H0.2.2.1 110 0 i from (by first | (rw [tP]; exact fun _ _ => rfl) | (rw [tP]; exact hi3) | exact gq2 ⟨by omega, by omega⟩ hi3 tP)) (show ∀ i, i ≠ n → H60.2.2.1 111 0 i = H0.2.2.1 111 0 i from (by first | exact gq3 (fun _ _ => rfl) tT | (rw [tT]; exact hi4) | exact gq3 hi4 tT)) (show ∀ i, i ≠ n → H60.2.2.1 113 0 i = H0.2.2.1 113 0 i from (by first | (rw [tM]; exact fun _ _ => rfl) | (rw [tM]; exact hi5) | exact gq3 hi5 tM)) hT61 hE62 k63 k64 k65 rfl
-- 
theorem g_set {n : Int} {H : jH} (hT : gT H) (k0gP : gP H) (k0gX : gX H) (k0gL : gL H) (hp0 : 0 ≤ n ∧ n < 16) (hp1 : gQ H) (hp2 : gK H) : J true (d + 3) 127 w (0, jargs 0 [jT, .inl n], [], H) (jN fun v w' H' => w' = w ∧ gT H' ∧ jEx [48, 56, 57] [108, 99, 100, 101, 105, 102, 103, 104, 111, 110, 113, 112] H' H ∧ gP H' ∧ gX H' ∧ gL H' ∧ (gQ H') ∧ (gK H') ∧ v = none) := by
  have tP : H.2.2.1 110 0 = H.2.2.1 110 0 := rfl
  have tT : H.2.2.1 111 0 = H.2.2.1 111 0 := rfl
  have tM : H.2.2.1 113 0 = H.2.2.1 113 0 := rfl
  have hE : jEx [48, 56, 57] [108, 99, 100, 101, 105, 102, 103, 104, 111, 110, 113, 112] H H := jEx.refl _ _ _
  have f70 : 0 ≤ H.2.2.1 72 0 (n) ∧ H.2.2.1 72 0 (n) ≤ 299 := hT.1 72 (n)
  have f71 : 1 ≤ H.1 11 12 0 ∧ H.1 11 12 0 ≤ 300 := hT.2.1 12
  have f70b : H.2.2.1 72 0 (n) < H.1 11 12 0 := hT.2.2.1 72 (n) rfl
  refine J.run 5 rfl (show 0 ≤ n ∧ n < 16 from ⟨by omega, by omega⟩) ?_
  try dsimp only
  refine J.inv rfl rfl rfl rfl rfl rfl jDr rfl rfl rfl rfl rfl (g_state (b := H.2.2.1 72 0 (n)) hT k0gP k0gX k0gL (show 0 ≤ (H.2.2.1 72 0 (n)) ∧ (H.2.2.1 72 0 (n)) < 300 from ⟨by omega, by omega⟩) (show (H.2.2.1 72 0 (n)) < H.1 11 12 0 from by omega)) ?_
  rintro v w H74 ⟨rfl, hT75, ehE76, k77, k78, k79, rfl⟩
  have hE76 := jEx.trans ehE76 hE (by decide) (by decide)
  have g80 : H74.1 11 12 0 = H.1 11 12 0 := ehE76.v 12 (by decide)
  have tP := (ehE76.r 110 (by decide)).trans tP
  have tT := (ehE76.r 111 (by decide)).trans tT
  have tM := (ehE76.r 113 (by decide)).trans tM
  have g81 : H74.2.2.1 71 0 (n) = H.2.2.1 71 0 (n) := congrFun (ehE76.r 71 (by decide)) _
  have g82 : H74.2.2.1 72 0 (n) = H.2.2.1 72 0 (n) := congrFun (ehE76.r 72 (by decide)) _
  try dsimp only [Option.toList, List.append, List.cons_append, List.nil_append]
  refine J.run 5 rfl (show 0 ≤ n ∧ n < 16 from ⟨by omega, by omega⟩) ?_
  try dsimp only
  refine J.gn fun H83 hH83 => ?_
  have hT84 : gT H83 := by rw [hH83]; exact gT.upd hT75 (show 0 ≤ (0 : Int) ∧ (0 : Int) ≤ 645120000 from ⟨by omega, by omega⟩) (fun z => absurd z (by decide))
  have hE85 : jEx [48, 56, 57] [108, 99, 100, 101, 105, 102, 103, 104, 111, 110, 113, 112] H83 H := by rw [hH83]; exact jEx.row hE76 (by decide)
  have k86 : gP H83 := by rw [hH83]; exact k77
  have k87 : gX H83 := by rw [hH83]; exact k78
  have k88 : gL H83 := by rw [hH83]; exact k79
  have tP := (show H83.2.2.1 110 0 = H74.2.2.1 110 0 from by subst hH83; rfl).trans tP
  have tT : H83.2.2.1 111 0 = jup (_) (n) ((0 : Int)) := (show H83.2.2.1 111 0 = jup (H74.2.2.1 111 0) (n) ((0 : Int)) from by subst hH83; rfl).trans (by rw [tT])
  have tM := (show H83.2.2.1 113 0 = H74.2.2.1 113 0 from by subst hH83; rfl).trans tM
  have g89 : H83.2.2.1 111 0 (n) = (0 : Int) := by subst hH83; exact if_pos rfl
  have g90 : H83.1 11 12 0 = H74.1 11 12 0 := by subst hH83; rfl
  have g91 : H83.2.2.1 71 0 (n) = H74.2.2.1 71 0 (n) := by subst hH83; rfl
  have g92 : H83.2.2.1 72 0 (n) = H74.2.2.1 72 0 (n) := by subst hH83; rfl
  clear hH83
  refine J.run0 2 rfl ?_
  try dsimp only
  exact (g_set_l1 (H0 := H) (n := n)  hp0 hp1 hp2 ((16 - ((0 : Int)) : Int).toNat + 1)) ((0 : Int)) H83 _ (show 16 - ((0 : Int)) < _ by omega) (show 0 ≤ ((0 : Int)) ∧ ((0 : Int)) ≤ 16 from ⟨by omega, by omega⟩) (show 0 ≤ H83.2.2.1 111 0 (n) ∧ H83.2.2.1 111 0 (n) ≤ 40320000 * ((0 : Int)) from ⟨by omega, by omega⟩) (show H83.2.2.1 111 0 n = jcnt (fun z => H83.2.2.1 110 0 (16 * n + z)) ((0 : Int)).toNat from (by first | (rw [tT]; exact if_pos rfl) | (have e := gq1 (by omega) hi2 tP; omega))) (show ∀ i, i < 16 * n ∨ 16 * n + 16 ≤ i → H83.2.2.1 110 0 i = H.2.2.1 110 0 i from (by first | (rw [tP]; exact fun _ _ => rfl) | (rw [tP]; exact hi3) | exact gq2 ⟨by omega, by omega⟩ hi3 tP)) (show ∀ i, i ≠ n → H83.2.2.1 111 0 i = H.2.2.1 111 0 i from (by first | exact gq3 (fun _ _ => rfl) tT | (rw [tT]; exact hi4) | exact gq3 hi4 tT)) (show ∀ i, i ≠ n → H83.2.2.1 113 0 i = H.2.2.1 113 0 i from (by first | (rw [tM]; exact fun _ _ => rfl) | (rw [tM]; exact hi5) | exact gq3 hi5 tM)) hT84 hE85 k86 k87 k88 rfl
end
