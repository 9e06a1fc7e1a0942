-- M: X11_forget
section
variable {d : Nat} {w : jW} 
-- 
theorem g_forget_l0 {n : Int} {H0 : jH} (hp0 : 0 ≤ n ∧ n < 16) (hp1 : gK H0) (hp2 : gN H0) : ∀ (m : Nat), (∀ (k : Int) (H : jH) (lv : jL), 6000 - k < (m : Int) → (0 ≤ k ∧ k ≤ 6000) → (H.2.2.1 71 0 = H0.2.2.1 71 0) → (H.2.2.1 113 0 = H0.2.2.1 113 0) → (∀ z, 0 ≤ z → z < 6000 → H.2.2.1 114 0 (6000 * n + z) = 1 → ∃ j, k ≤ j ∧ j < H0.2.2.1 71 0 n ∧ H0.2.2.1 70 0 (6000 * n + j) = z) → (∀ i, i < 6000 * n ∨ 6000 * n + 6000 ≤ i → H.2.2.1 114 0 i = H0.2.2.1 114 0 i) → (∀ i, H0.2.2.1 114 0 i = 0 → H.2.2.1 114 0 i = 0) → gT H → jEx [] [114, 71, 113] H H0 → (lv = [(2, .inl k), (0, jT), (1, .inl n)]) → J true d 128 w (2, lv, [], H) (jN fun v w' H' => w' = w ∧ gT H' ∧ jEx [] [114, 71, 113] H' H0 ∧ (gK H') ∧ (gN H') ∧ (H'.2.2.1 71 0 (n) = 0) ∧ (H'.2.2.1 71 0 = jup (H0.2.2.1 71 0) (n) 0) ∧ v = none)) := by
  intro m
  induction m with
  | zero =>
    skip
    · intro k H lv hm hi0 hi1 hi2 hi3 hi4 hi5 hT hE hlv
      exfalso
      omega
  | succ m ih =>
    skip
    · intro k H lv hm hi0 hi1 hi2 hi3 hi4 hi5 hT hE hlv
      rcases hlv with rfl
      have f1 : 0 ≤ H.2.2.1 71 0 (n) ∧ H.2.2.1 71 0 (n) ≤ 6000 := hT.1 71 (n)
      refine J.run 5 rfl (show 0 ≤ n ∧ n < 16 from ⟨by omega, by omega⟩) ?_
      try dsimp only
      refine J.icmp rfl rfl rfl ⟨(show -2147483648 ≤ k ∧ k ≤ 2147483647 from ⟨by omega, by omega⟩), (show -2147483648 ≤ H.2.2.1 71 0 (n) ∧ H.2.2.1 71 0 (n) ≤ 2147483647 from ⟨by omega, by omega⟩)⟩ (fun hc => ?_) (fun hc => ?_)
      · have c2 : H.2.2.1 71 0 (n) ≤ k := hc
        clear hc
        refine J.run 5 rfl (show 0 ≤ n ∧ n < 16 from ⟨by omega, by omega⟩) ?_
        try dsimp only
        refine J.gn fun H3 hH3 => ?_
        have hT4 : gT H3 := by rw [hH3]; exact gT.upd hT (show 0 ≤ (0 : Int) ∧ (0 : Int) ≤ 6000 from ⟨by omega, by omega⟩) (fun z => absurd z (by decide))
        have hE5 : jEx [] [114, 71, 113] H3 H0 := by rw [hH3]; exact jEx.row hE (by decide)
        have rN : H3.2.2.1 71 0 = jup (H.2.2.1 71 0) (n) ((0 : Int)) ∧ H3.2.2.1 114 0 = H.2.2.1 114 0 ∧ H3.2.2.1 113 0 = H.2.2.1 113 0 := by subst hH3; exact ⟨rfl, rfl, rfl⟩
        have g6 : H3.2.2.1 71 0 (n) = (0 : Int) := by subst hH3; exact if_pos rfl
        have g7 : H3.1 11 12 0 = H.1 11 12 0 := by subst hH3; rfl
        have g8 : H3.1 11 19 0 = H.1 11 19 0 := by subst hH3; rfl
        clear hH3
        refine J.run 5 rfl (show 0 ≤ n ∧ n < 16 from ⟨by omega, by omega⟩) ?_
        try dsimp only
        refine J.gn fun H10 hH10 => ?_
        have hT11 : gT H10 := by rw [hH10]; exact gT.upd hT4 (show 0 ≤ (0 : Int) ∧ (0 : Int) ≤ 6000 from ⟨by omega, by omega⟩) (fun z => absurd z (by decide))
        have hE12 : jEx [] [114, 71, 113] H10 H0 := by rw [hH10]; exact jEx.row hE5 (by decide)
        have rM : H10.2.2.1 71 0 = H3.2.2.1 71 0 ∧ H10.2.2.1 114 0 = H3.2.2.1 114 0 ∧ H10.2.2.1 113 0 = jup (H3.2.2.1 113 0) (n) ((0 : Int)) := by subst hH10; exact ⟨rfl, rfl, rfl⟩
        have g13 : H10.2.2.1 113 0 (n) = (0 : Int) := by subst hH10; exact if_pos rfl
        have g14 : H10.1 11 12 0 = H3.1 11 12 0 := by subst hH10; rfl
        have g15 : H10.1 11 19 0 = H3.1 11 19 0 := by subst hH10; rfl
        have g16 : H10.2.2.1 71 0 (n) = H3.2.2.1 71 0 (n) := by subst hH10; rfl
        clear hH10
        exact J.retv rfl rfl rfl ⟨_, rfl, rfl, hT11, hE12, (show gK H10 by exact gK.forget hp1 hT11 hp0 (hE12.r 70 (by decide)) (by rw [rM.1, rN.1, hi1]) (by rw [rM.2.2, rN.2.2, hi2]) (fun z a b c => by rw [rM.2.1, rN.2.1] at c; obtain ⟨j, u, v, _⟩ := hi3 z a b c; have e := congrFun hi1 n; omega) (by rw [rM.2.1, rN.2.1]; exact hi4)), (show gN H10 by exact gN.forget hp2 (by rw [rM.2.1, rN.2.1]; exact hi5) (hE12.v 19 (by decide))), (show H10.2.2.1 71 0 (n) = 0 by rw [rM.1, rN.1]; exact if_pos rfl), (show H10.2.2.1 71 0 = jup (H0.2.2.1 71 0) (n) 0 by rw [rM.1, rN.1, hi1]), rfl⟩
      · have c17 : ¬ (H.2.2.1 71 0 (n) ≤ k) := hc
        clear hc
        have f18 : 0 ≤ H.2.2.1 70 0 (((6000 : Int) * n) + k) ∧ H.2.2.1 70 0 (((6000 : Int) * n) + k) ≤ 5999 := hT.1 70 (((6000 : Int) * n) + k)
        refine J.run 16 rfl ⟨(show 0 ≤ ((6000 : Int) * n) + k ∧ ((6000 : Int) * n) + k < 96000 from ⟨by omega, by omega⟩), (show ((0 : Int) = 0 ∨ (0 : Int) = 1) ∧ 0 ≤ ((6000 : Int) * n) + (H.2.2.1 70 0 (((6000 : Int) * n) + k)) ∧ ((6000 : Int) * n) + (H.2.2.1 70 0 (((6000 : Int) * n) + k)) < 96000 from ⟨by omega, by omega, by omega⟩)⟩ ?_
        try dsimp only
        refine J.gn fun H19 hH19 => ?_
        have hT20 : gT H19 := by rw [hH19]; exact gT.upd hT (show 0 ≤ (0 : Int) ∧ (0 : Int) ≤ 1 from ⟨by omega, by omega⟩) (fun z => absurd z (by decide))
        have hE21 : jEx [] [114, 71, 113] H19 H0 := by rw [hH19]; exact jEx.row hE (by decide)
        have rI : H19.2.2.1 71 0 = H.2.2.1 71 0 ∧ H19.2.2.1 114 0 = jup (H.2.2.1 114 0) (((6000 : Int) * n) + (H.2.2.1 70 0 (((6000 : Int) * n) + k))) ((0 : Int)) ∧ H19.2.2.1 113 0 = H.2.2.1 113 0 := by subst hH19; exact ⟨rfl, rfl, rfl⟩
        have g22 : H19.2.2.1 114 0 (((6000 : Int) * n) + (H.2.2.1 70 0 (((6000 : Int) * n) + k))) = (0 : Int) := by subst hH19; exact if_pos rfl
        have g23 : H19.1 11 12 0 = H.1 11 12 0 := by subst hH19; rfl
        have g24 : H19.1 11 19 0 = H.1 11 19 0 := by subst hH19; rfl
        have g25 : H19.2.2.1 71 0 (n) = H.2.2.1 71 0 (n) := by subst hH19; rfl
        have g26 : H19.2.2.1 70 0 (((6000 : Int) * n) + k) = H.2.2.1 70 0 (((6000 : Int) * n) + k) := by subst hH19; rfl
        clear hH19
        refine J.run0 2 rfl ?_
        try dsimp only
        exact ih (k + 1) H19 _ (show 6000 - (k + 1) < _ by omega) (show 0 ≤ (k + 1) ∧ (k + 1) ≤ 6000 from ⟨by omega, by omega⟩) (show H19.2.2.1 71 0 = H0.2.2.1 71 0 from (by first | exact rfl | (rw [rI.1]; exact hi1))) (show H19.2.2.1 113 0 = H0.2.2.1 113 0 from (by first | exact rfl | (rw [rI.2.2]; exact hi2))) (show ∀ z, 0 ≤ z → z < 6000 → H19.2.2.1 114 0 (6000 * n + z) = 1 → ∃ j, (k + 1) ≤ j ∧ j < H0.2.2.1 71 0 n ∧ H0.2.2.1 70 0 (6000 * n + j) = z from (by first | exact (hp1 n hp0.1 hp0.2).2.2 | exact gfg1 (kn := H0.2.2.1 70 0) hi3 (by rw [hE.r 70 (by decide)]) rI.2.1)) (show ∀ i, i < 6000 * n ∨ 6000 * n + 6000 ≤ i → H19.2.2.1 114 0 i = H0.2.2.1 114 0 i from (by first | exact (fun _ _ => rfl) | exact gfg2 hi4 ⟨by omega, by omega⟩ rI.2.1)) (show ∀ i, H0.2.2.1 114 0 i = 0 → H19.2.2.1 114 0 i = 0 from (by first | exact (fun _ z => z) | exact gfg3 hi5 rI.2.1)) hT20 hE21  rfl
-- 
theorem g_forget {n : Int} {H : jH} (hT : gT H)  (hp0 : 0 ≤ n ∧ n < 16) (hp1 : gK H) (hp2 : gN H) : J true d 128 w (0, jargs 0 [jT, .inl n], [], H) (jN fun v w' H' => w' = w ∧ gT H' ∧ jEx [] [114, 71, 113] H' H ∧ (gK H') ∧ (gN H') ∧ (H'.2.2.1 71 0 (n) = 0) ∧ (H'.2.2.1 71 0 = jup (H.2.2.1 71 0) (n) 0) ∧ v = none) := by
  have hE : jEx [] [114, 71, 113] H H := jEx.refl _ _ _
  refine J.run0 2 rfl ?_
  try dsimp only
  exact (g_forget_l0 (H0 := H) (n := n)  hp0 hp1 hp2 ((6000 - ((0 : Int)) : Int).toNat + 1)) ((0 : Int)) H _ (show 6000 - ((0 : Int)) < _ by omega) (show 0 ≤ ((0 : Int)) ∧ ((0 : Int)) ≤ 6000 from ⟨by omega, by omega⟩) (show H.2.2.1 71 0 = H.2.2.1 71 0 from (by first | exact rfl | (rw [rI.1]; exact hi1))) (show H.2.2.1 113 0 = H.2.2.1 113 0 from (by first | exact rfl | (rw [rI.2.2]; exact hi2))) (show ∀ z, 0 ≤ z → z < 6000 → H.2.2.1 114 0 (6000 * n + z) = 1 → ∃ j, ((0 : Int)) ≤ j ∧ j < H.2.2.1 71 0 n ∧ H.2.2.1 70 0 (6000 * n + j) = z from (by first | exact (hp1 n hp0.1 hp0.2).2.2 | exact gfg1 (kn := H0.2.2.1 70 0) hi3 (by rw [hE.r 70 (by decide)]) rI.2.1)) (show ∀ i, i < 6000 * n ∨ 6000 * n + 6000 ≤ i → H.2.2.1 114 0 i = H.2.2.1 114 0 i from (by first | exact (fun _ _ => rfl) | exact gfg2 hi4 ⟨by omega, by omega⟩ rI.2.1)) (show ∀ i, H.2.2.1 114 0 i = 0 → H.2.2.1 114 0 i = 0 from (by first | exact (fun _ z => z) | exact gfg3 hi5 rI.2.1)) hT hE  rfl
end
