-- M: X11_know
section
variable {d : Nat} {w : jW} 
-- 
theorem g_know {n m : Int} {H : jH} (hT : gT H) (k0gB : gB H) (k0gK : gK H) (k0gN : gN H) (hp0 : 0 ≤ n ∧ n < 16) (hp1 : 0 ≤ m ∧ m < 6000) (hp2 : m < H.1 11 19 0) (hp3 : H.2.2.1 114 0 (6000 * n + m) = 0) (hp4 : H.2.2.1 80 0 (n) = 0) : J true (d + 1) 130 w (0, jargs 0 [jT, .inl n, .inl m], [], H) (jN fun v w' H' => w' = w ∧ gT H' ∧ jEx [] [70, 71, 114, 113, 112] H' H ∧ gB H' ∧ gK H' ∧ gN H' ∧ (∀ z, z ≠ 6000 * n + m → H'.2.2.1 114 0 z = H.2.2.1 114 0 z) ∧ v = none) := by
  have q1 := gK.room k0gK hT hp0 hp1 hp3
  have q2 := (k0gK n hp0.1 hp0.2).1
  have hE : jEx [] [70, 71, 114, 113, 112] H H := jEx.refl _ _ _
  have f1 : 0 ≤ H.2.2.1 71 0 (n) ∧ H.2.2.1 71 0 (n) ≤ 6000 := hT.1 71 (n)
  refine J.run 12 rfl ⟨(show 0 ≤ n ∧ n < 16 from ⟨by omega, by omega⟩), (show 0 ≤ ((6000 : Int) * n) + (H.2.2.1 71 0 (n)) ∧ ((6000 : Int) * n) + (H.2.2.1 71 0 (n)) < 96000 from ⟨by omega, by omega⟩)⟩ ?_
  try dsimp only
  refine J.gn fun H2 hH2 => ?_
  have hT3 : gT H2 := by rw [hH2]; exact gT.upd hT (show 0 ≤ m ∧ m ≤ 5999 from ⟨by omega, by omega⟩) (fun z => absurd z (by decide))
  have hE4 : jEx [] [70, 71, 114, 113, 112] H2 H := by rw [hH2]; exact jEx.row hE (by decide)
  have k5 : gB H2 := by rw [hH2]; exact k0gB
  have rK : H2.2.2.1 70 0 = jup (H.2.2.1 70 0) (((6000 : Int) * n) + (H.2.2.1 71 0 (n))) (m) ∧ H2.2.2.1 71 0 = H.2.2.1 71 0 ∧ H2.2.2.1 114 0 = H.2.2.1 114 0 ∧ H2.2.2.1 113 0 = H.2.2.1 113 0 := by subst hH2; exact ⟨rfl, rfl, rfl, rfl⟩
  have g6 : H2.2.2.1 70 0 (((6000 : Int) * n) + (H.2.2.1 71 0 (n))) = m := by subst hH2; exact if_pos rfl
  have g7 : H2.1 11 12 0 = H.1 11 12 0 := by subst hH2; rfl
  have g8 : H2.1 11 19 0 = H.1 11 19 0 := by subst hH2; rfl
  have g9 : H2.2.2.1 113 0 (n) = H.2.2.1 113 0 (n) := by subst hH2; rfl
  have g10 : H2.2.2.1 80 0 (n) = H.2.2.1 80 0 (n) := by subst hH2; rfl
  have g11 : H2.2.2.1 71 0 (n) = H.2.2.1 71 0 (n) := by subst hH2; rfl
  clear hH2
  refine J.run 8 rfl ⟨(show 0 ≤ n ∧ n < 16 from ⟨by omega, by omega⟩), (show 0 ≤ n ∧ n < 16 from ⟨by omega, by omega⟩)⟩ ?_
  try dsimp only
  refine J.gn fun H12 hH12 => ?_
  have hT13 : gT H12 := by rw [hH12]; exact gT.upd hT3 (show 0 ≤ (H2.2.2.1 71 0 (n)) + (1 : Int) ∧ (H2.2.2.1 71 0 (n)) + (1 : Int) ≤ 6000 from ⟨by omega, by omega⟩) (fun z => absurd z (by decide))
  have hE14 : jEx [] [70, 71, 114, 113, 112] H12 H := by rw [hH12]; exact jEx.row hE4 (by decide)
  have k15 : gB H12 := by rw [hH12]; exact gB.wk k5 (by omega)
  have rN : H12.2.2.1 70 0 = H2.2.2.1 70 0 ∧ H12.2.2.1 71 0 = jup (H2.2.2.1 71 0) (n) ((H2.2.2.1 71 0 (n)) + (1 : Int)) ∧ H12.2.2.1 114 0 = H2.2.2.1 114 0 ∧ H12.2.2.1 113 0 = H2.2.2.1 113 0 := by subst hH12; exact ⟨rfl, rfl, rfl, rfl⟩
  have g16 : H12.2.2.1 71 0 (n) = (H2.2.2.1 71 0 (n)) + (1 : Int) := by subst hH12; exact if_pos rfl
  have g17 : H12.1 11 12 0 = H2.1 11 12 0 := by subst hH12; rfl
  have g18 : H12.1 11 19 0 = H2.1 11 19 0 := by subst hH12; rfl
  have g19 : H12.2.2.1 70 0 (((6000 : Int) * n) + (H.2.2.1 71 0 (n))) = H2.2.2.1 70 0 (((6000 : Int) * n) + (H.2.2.1 71 0 (n))) := by subst hH12; rfl
  have g20 : H12.2.2.1 113 0 (n) = H2.2.2.1 113 0 (n) := by subst hH12; rfl
  have g21 : H12.2.2.1 80 0 (n) = H2.2.2.1 80 0 (n) := by subst hH12; rfl
  clear hH12
  refine J.run 9 rfl (show ((1 : Int) = 0 ∨ (1 : Int) = 1) ∧ 0 ≤ ((6000 : Int) * n) + m ∧ ((6000 : Int) * n) + m < 96000 from ⟨by omega, by omega, by omega⟩) ?_
  try dsimp only
  refine J.gn fun H23 hH23 => ?_
  have hT24 : gT H23 := by rw [hH23]; exact gT.upd hT13 (show 0 ≤ (1 : Int) ∧ (1 : Int) ≤ 1 from ⟨by omega, by omega⟩) (fun z => absurd z (by decide))
  have hE25 : jEx [] [70, 71, 114, 113, 112] H23 H := by rw [hH23]; exact jEx.row hE14 (by decide)
  have k26 : gB H23 := by rw [hH23]; exact k15
  have rI : H23.2.2.1 70 0 = H12.2.2.1 70 0 ∧ H23.2.2.1 71 0 = H12.2.2.1 71 0 ∧ H23.2.2.1 114 0 = jup (H12.2.2.1 114 0) (((6000 : Int) * n) + m) ((1 : Int)) ∧ H23.2.2.1 113 0 = H12.2.2.1 113 0 := by subst hH23; exact ⟨rfl, rfl, rfl, rfl⟩
  have g27 : H23.2.2.1 114 0 (((6000 : Int) * n) + m) = (1 : Int) := by subst hH23; exact if_pos rfl
  have g28 : H23.1 11 12 0 = H12.1 11 12 0 := by subst hH23; rfl
  have g29 : H23.1 11 19 0 = H12.1 11 19 0 := by subst hH23; rfl
  have g30 : H23.2.2.1 71 0 (n) = H12.2.2.1 71 0 (n) := by subst hH23; rfl
  have g31 : H23.2.2.1 70 0 (((6000 : Int) * n) + (H.2.2.1 71 0 (n))) = H12.2.2.1 70 0 (((6000 : Int) * n) + (H.2.2.1 71 0 (n))) := by subst hH23; rfl
  have g32 : H23.2.2.1 113 0 (n) = H12.2.2.1 113 0 (n) := by subst hH23; rfl
  have g33 : H23.2.2.1 80 0 (n) = H12.2.2.1 80 0 (n) := by subst hH23; rfl
  clear hH23
  have f34 : 0 ≤ H23.2.2.1 65 0 (m) ∧ H23.2.2.1 65 0 (m) ≤ 301 := hT24.1 65 (m)
  refine J.run 6 rfl (show 0 ≤ m ∧ m < 6000 from ⟨by omega, by omega⟩) ?_
  try dsimp only
  refine J.inv rfl rfl rfl rfl rfl rfl jDr rfl rfl rfl rfl rfl (g_height (n := n) hT24  (show 0 ≤ (n) ∧ (n) < 16 from ⟨by omega, by omega⟩)) ?_
  rintro v w H23 ⟨rfl, rfl, x35, rfl, r36⟩
  have r36' : 1 ≤ x35 ∧ x35 ≤ 301 := r36
  try dsimp only [Option.toList, List.append, List.cons_append, List.nil_append]
  refine J.icmp rfl rfl rfl ⟨(show -2147483648 ≤ H23.2.2.1 65 0 (m) ∧ H23.2.2.1 65 0 (m) ≤ 2147483647 from ⟨by omega, by omega⟩), (show -2147483648 ≤ x35 ∧ x35 ≤ 2147483647 from ⟨by omega, by omega⟩)⟩ (fun hc => ?_) (fun hc => ?_)
  · have c37 : ¬ (H23.2.2.1 65 0 (m) = x35) := hc
    clear hc
    exact J.retv rfl rfl rfl ⟨_, rfl, rfl, hT24, hE25, k26, (show gK H23 by first | exact gK.know k0gK hT hp0 hp1 hp3 (by rw [rW.1, rM.1, rI.1, rN.1, rK.1]) (by rw [rW.2.1, rM.2.1, rI.2.1, rN.2.1, rK.2.1]) (by rw [rW.2.2.1, rM.2.2.1, rI.2.2.1, rN.2.2.1, rK.2.2.1]) (Or.inr (by rw [rW.2.2.2, rM.2.2.2, rI.2.2.2, rN.2.2.2, rK.2.2.2])) | exact gK.know k0gK hT hp0 hp1 hp3 (by rw [rI.1, rN.1, rK.1]) (by rw [rI.2.1, rN.2.1, rK.2.1]) (by rw [rI.2.2.1, rN.2.2.1, rK.2.2.1]) (Or.inl (by rw [rI.2.2.2, rN.2.2.2, rK.2.2.2]))), (show gN H23 by first | exact gN.know k0gN hp0 ⟨hp1.1, hp2⟩ hp1.2 (by rw [rW.2.2.1, rM.2.2.1, rI.2.2.1, rN.2.2.1, rK.2.2.1]) (by omega) | exact gN.know k0gN hp0 ⟨hp1.1, hp2⟩ hp1.2 (by rw [rI.2.2.1, rN.2.2.1, rK.2.2.1]) (by omega)), (show ∀ z, z ≠ 6000 * n + m → H23.2.2.1 114 0 z = H.2.2.1 114 0 z by first | (intro z hz; rw [rW.2.2.1, rM.2.2.1, rI.2.2.1, rN.2.2.1, rK.2.2.1]; exact if_neg hz) | (intro z hz; rw [rI.2.2.1, rN.2.2.1, rK.2.2.1]; exact if_neg hz)), rfl⟩
  · have c38 : ¬ (¬ (H23.2.2.1 65 0 (m) = x35)) := hc
    clear hc
    have f39 : 0 ≤ H23.2.2.1 113 0 (n) ∧ H23.2.2.1 113 0 (n) ≤ 6000 := hT24.1 113 (n)
    refine J.run 14 rfl ⟨(show 0 ≤ n ∧ n < 16 from ⟨by omega, by omega⟩), (show 0 ≤ n ∧ n < 16 from ⟨by omega, by omega⟩)⟩ ?_
    try dsimp only
    refine J.gn fun H40 hH40 => ?_
    have hT41 : gT H40 := by rw [hH40]; exact gT.upd hT24 (show 0 ≤ (H23.2.2.1 113 0 (n)) + (1 : Int) ∧ (H23.2.2.1 113 0 (n)) + (1 : Int) ≤ 6000 from ⟨by omega, by omega⟩) (fun z => absurd z (by decide))
    have hE42 : jEx [] [70, 71, 114, 113, 112] H40 H := by rw [hH40]; exact jEx.row hE25 (by decide)
    have k43 : gB H40 := by rw [hH40]; exact k26
    have rM : H40.2.2.1 70 0 = H23.2.2.1 70 0 ∧ H40.2.2.1 71 0 = H23.2.2.1 71 0 ∧ H40.2.2.1 114 0 = H23.2.2.1 114 0 ∧ H40.2.2.1 113 0 = jup (H23.2.2.1 113 0) (n) ((H23.2.2.1 113 0 (n)) + (1 : Int)) := by subst hH40; exact ⟨rfl, rfl, rfl, rfl⟩
    have g44 : H40.2.2.1 113 0 (n) = (H23.2.2.1 113 0 (n)) + (1 : Int) := by subst hH40; exact if_pos rfl
    have g45 : H40.1 11 12 0 = H23.1 11 12 0 := by subst hH40; rfl
    have g46 : H40.1 11 19 0 = H23.1 11 19 0 := by subst hH40; rfl
    have g47 : H40.2.2.1 114 0 (((6000 : Int) * n) + m) = H23.2.2.1 114 0 (((6000 : Int) * n) + m) := by subst hH40; rfl
    have g48 : H40.2.2.1 71 0 (n) = H23.2.2.1 71 0 (n) := by subst hH40; rfl
    have g49 : H40.2.2.1 70 0 (((6000 : Int) * n) + (H.2.2.1 71 0 (n))) = H23.2.2.1 70 0 (((6000 : Int) * n) + (H.2.2.1 71 0 (n))) := by subst hH40; rfl
    have g51 : H40.2.2.1 80 0 (n) = H23.2.2.1 80 0 (n) := by subst hH40; rfl
    have g52 : H40.2.2.1 65 0 (m) = H23.2.2.1 65 0 (m) := by subst hH40; rfl
    clear hH40
    refine J.run 3 rfl (show 0 ≤ ((6000 : Int) * n) + (H23.2.2.1 113 0 (n)) ∧ ((6000 : Int) * n) + (H23.2.2.1 113 0 (n)) < 96000 from ⟨by omega, by omega⟩) ?_
    try dsimp only
    refine J.gn fun H53 hH53 => ?_
    have hT54 : gT H53 := by rw [hH53]; exact gT.upd hT41 (show 0 ≤ m ∧ m ≤ 5999 from ⟨by omega, by omega⟩) (fun z => absurd z (by decide))
    have hE55 : jEx [] [70, 71, 114, 113, 112] H53 H := by rw [hH53]; exact jEx.row hE42 (by decide)
    have k56 : gB H53 := by rw [hH53]; exact k43
    have rW : H53.2.2.1 70 0 = H40.2.2.1 70 0 ∧ H53.2.2.1 71 0 = H40.2.2.1 71 0 ∧ H53.2.2.1 114 0 = H40.2.2.1 114 0 ∧ H53.2.2.1 113 0 = H40.2.2.1 113 0 := by subst hH53; exact ⟨rfl, rfl, rfl, rfl⟩
    have g57 : H53.2.2.1 112 0 (((6000 : Int) * n) + (H23.2.2.1 113 0 (n))) = m := by subst hH53; exact if_pos rfl
    have g58 : H53.1 11 12 0 = H40.1 11 12 0 := by subst hH53; rfl
    have g59 : H53.1 11 19 0 = H40.1 11 19 0 := by subst hH53; rfl
    have g60 : H53.2.2.1 113 0 (n) = H40.2.2.1 113 0 (n) := by subst hH53; rfl
    have g61 : H53.2.2.1 114 0 (((6000 : Int) * n) + m) = H40.2.2.1 114 0 (((6000 : Int) * n) + m) := by subst hH53; rfl
    have g62 : H53.2.2.1 71 0 (n) = H40.2.2.1 71 0 (n) := by subst hH53; rfl
    have g63 : H53.2.2.1 70 0 (((6000 : Int) * n) + (H.2.2.1 71 0 (n))) = H40.2.2.1 70 0 (((6000 : Int) * n) + (H.2.2.1 71 0 (n))) := by subst hH53; rfl
    have g64 : H53.2.2.1 80 0 (n) = H40.2.2.1 80 0 (n) := by subst hH53; rfl
    have g65 : H53.2.2.1 65 0 (m) = H40.2.2.1 65 0 (m) := by subst hH53; rfl
    clear hH53
    exact J.retv rfl rfl rfl ⟨_, rfl, rfl, hT54, hE55, k56, (show gK H53 by first | exact gK.know k0gK hT hp0 hp1 hp3 (by rw [rW.1, rM.1, rI.1, rN.1, rK.1]) (by rw [rW.2.1, rM.2.1, rI.2.1, rN.2.1, rK.2.1]) (by rw [rW.2.2.1, rM.2.2.1, rI.2.2.1, rN.2.2.1, rK.2.2.1]) (Or.inr (by rw [rW.2.2.2, rM.2.2.2, rI.2.2.2, rN.2.2.2, rK.2.2.2])) | exact gK.know k0gK hT hp0 hp1 hp3 (by rw [rI.1, rN.1, rK.1]) (by rw [rI.2.1, rN.2.1, rK.2.1]) (by rw [rI.2.2.1, rN.2.2.1, rK.2.2.1]) (Or.inl (by rw [rI.2.2.2, rN.2.2.2, rK.2.2.2]))), (show gN H53 by first | exact gN.know k0gN hp0 ⟨hp1.1, hp2⟩ hp1.2 (by rw [rW.2.2.1, rM.2.2.1, rI.2.2.1, rN.2.2.1, rK.2.2.1]) (by omega) | exact gN.know k0gN hp0 ⟨hp1.1, hp2⟩ hp1.2 (by rw [rI.2.2.1, rN.2.2.1, rK.2.2.1]) (by omega)), (show ∀ z, z ≠ 6000 * n + m → H53.2.2.1 114 0 z = H.2.2.1 114 0 z by first | (intro z hz; rw [rW.2.2.1, rM.2.2.1, rI.2.2.1, rN.2.2.1, rK.2.2.1]; exact if_neg hz) | (intro z hz; rw [rI.2.2.1, rN.2.2.1, rK.2.2.1]; exact if_neg hz)), rfl⟩
end
-- M: X11_spoken
section
variable {d : Nat} {w : jW} 
-- 
theorem g_spoken {n kind h r block before : Int} {H : jH} (hT : gT H) (k0gB : gB H) (k0gK : gK H) (k0gN : gN H) (hp0 : 0 ≤ n ∧ n < 16) (hp1 : 0 ≤ kind ∧ kind ≤ 2) (hp2 : 0 ≤ h ∧ h ≤ 301) (hp3 : 0 ≤ r ∧ r < 32) (hp4 : -1 ≤ block ∧ block < 300) (hp5 : block < H.1 11 12 0) (hp6 : -1 ≤ before ∧ before < 32) (hp7 : H.1 11 19 0 < 6000) (hp8 : H.2.2.1 80 0 (n) = 0) : J true (d + 2) 139 w (0, jargs 0 [jT, .inl n, .inl kind, .inl h, .inl r, .inl block, .inl before], [], H) (jN fun v w' H' => w' = w ∧ gT H' ∧ jEx [19] [63, 64, 65, 66, 67, 68, 70, 71, 114, 113, 112] H' H ∧ gB H' ∧ gK H' ∧ gN H' ∧ (∀ z, z ≠ 6000 * n + H.1 11 19 0 → H'.2.2.1 114 0 z = H.2.2.1 114 0 z) ∧ ∃ x, v = some (.inl x) ∧ x = H.1 11 19 0 ∧ 0 ≤ x ∧ x ≤ 5999 ∧ H'.1 11 19 0 = H.1 11 19 0 + 1) := by
  have sI : H.2.2.1 114 0 = H.2.2.1 114 0 := rfl
  have q0 : 0 ≤ H.1 11 19 0 ∧ H.1 11 19 0 ≤ 6000 := hT.2.1 19
  have q1 : H.2.2.1 114 0 (6000 * n + H.1 11 19 0) = 0 := k0gN n (H.1 11 19 0) hp0.1 hp0.2 (by omega) (by omega)
  have hE : jEx [19] [63, 64, 65, 66, 67, 68, 70, 71, 114, 113, 112] H H := jEx.refl _ _ _
  have f1 : 0 ≤ H.1 11 19 0 ∧ H.1 11 19 0 ≤ 6000 := hT.2.1 19
  refine J.run 8 rfl (show 0 ≤ H.1 11 19 0 ∧ H.1 11 19 0 < 6000 from ⟨by omega, by omega⟩) ?_
  try dsimp only
  refine J.gn fun H2 hH2 => ?_
  have hT3 : gT H2 := by rw [hH2]; exact gT.upd hT (show 0 ≤ kind ∧ kind ≤ 2 from ⟨by omega, by omega⟩) (fun z => absurd z (by decide))
  have hE4 : jEx [19] [63, 64, 65, 66, 67, 68, 70, 71, 114, 113, 112] H2 H := by rw [hH2]; exact jEx.row hE (by decide)
  have k5 : gB H2 := by rw [hH2]; exact k0gB
  have k6 : gK H2 := by rw [hH2]; exact k0gK
  have k7 : gN H2 := by rw [hH2]; exact k0gN
  have sI := (show H2.2.2.1 114 0 = H.2.2.1 114 0 from by subst hH2; rfl).trans sI
  have g8 : H2.2.2.1 63 0 (H.1 11 19 0) = kind := by subst hH2; exact if_pos rfl
  have g9 : H2.1 11 12 0 = H.1 11 12 0 := by subst hH2; rfl
  have g10 : H2.1 11 19 0 = H.1 11 19 0 := by subst hH2; rfl
  have g11 : H2.2.2.1 114 0 (6000 * n + H.1 11 19 0) = H.2.2.1 114 0 (6000 * n + H.1 11 19 0) := by subst hH2; rfl
  have g12 : H2.2.2.1 80 0 (n) = H.2.2.1 80 0 (n) := by subst hH2; rfl
  clear hH2
  refine J.run 5 rfl (show 0 ≤ H.1 11 19 0 ∧ H.1 11 19 0 < 6000 from ⟨by omega, by omega⟩) ?_
  try dsimp only
  refine J.gn fun H13 hH13 => ?_
  have hT14 : gT H13 := by rw [hH13]; exact gT.upd hT3 (show 0 ≤ n ∧ n ≤ 15 from ⟨by omega, by omega⟩) (fun z => absurd z (by decide))
  have hE15 : jEx [19] [63, 64, 65, 66, 67, 68, 70, 71, 114, 113, 112] H13 H := by rw [hH13]; exact jEx.row hE4 (by decide)
  have k16 : gB H13 := by rw [hH13]; exact k5
  have k17 : gK H13 := by rw [hH13]; exact k6
  have k18 : gN H13 := by rw [hH13]; exact k7
  have sI := (show H13.2.2.1 114 0 = H2.2.2.1 114 0 from by subst hH13; rfl).trans sI
  have g19 : H13.2.2.1 64 0 (H.1 11 19 0) = n := by subst hH13; exact if_pos rfl
  have g20 : H13.1 11 12 0 = H2.1 11 12 0 := by subst hH13; rfl
  have g21 : H13.1 11 19 0 = H2.1 11 19 0 := by subst hH13; rfl
  have g22 : H13.2.2.1 63 0 (H.1 11 19 0) = H2.2.2.1 63 0 (H.1 11 19 0) := by subst hH13; rfl
  have g23 : H13.2.2.1 114 0 (6000 * n + H.1 11 19 0) = H2.2.2.1 114 0 (6000 * n + H.1 11 19 0) := by subst hH13; rfl
  have g24 : H13.2.2.1 80 0 (n) = H2.2.2.1 80 0 (n) := by subst hH13; rfl
  clear hH13
  refine J.run 5 rfl (show 0 ≤ H.1 11 19 0 ∧ H.1 11 19 0 < 6000 from ⟨by omega, by omega⟩) ?_
  try dsimp only
  refine J.gn fun H25 hH25 => ?_
  have hT26 : gT H25 := by rw [hH25]; exact gT.upd hT14 (show 0 ≤ h ∧ h ≤ 301 from ⟨by omega, by omega⟩) (fun z => absurd z (by decide))
  have hE27 : jEx [19] [63, 64, 65, 66, 67, 68, 70, 71, 114, 113, 112] H25 H := by rw [hH25]; exact jEx.row hE15 (by decide)
  have k28 : gB H25 := by rw [hH25]; exact k16
  have k29 : gK H25 := by rw [hH25]; exact k17
  have k30 : gN H25 := by rw [hH25]; exact k18
  have sI := (show H25.2.2.1 114 0 = H13.2.2.1 114 0 from by subst hH25; rfl).trans sI
  have g31 : H25.2.2.1 65 0 (H.1 11 19 0) = h := by subst hH25; exact if_pos rfl
  have g32 : H25.1 11 12 0 = H13.1 11 12 0 := by subst hH25; rfl
  have g33 : H25.1 11 19 0 = H13.1 11 19 0 := by subst hH25; rfl
  have g34 : H25.2.2.1 64 0 (H.1 11 19 0) = H13.2.2.1 64 0 (H.1 11 19 0) := by subst hH25; rfl
  have g35 : H25.2.2.1 63 0 (H.1 11 19 0) = H13.2.2.1 63 0 (H.1 11 19 0) := by subst hH25; rfl
  have g36 : H25.2.2.1 114 0 (6000 * n + H.1 11 19 0) = H13.2.2.1 114 0 (6000 * n + H.1 11 19 0) := by subst hH25; rfl
  have g37 : H25.2.2.1 80 0 (n) = H13.2.2.1 80 0 (n) := by subst hH25; rfl
  clear hH25
  refine J.run 5 rfl (show 0 ≤ H.1 11 19 0 ∧ H.1 11 19 0 < 6000 from ⟨by omega, by omega⟩) ?_
  try dsimp only
  refine J.gn fun H38 hH38 => ?_
  have hT39 : gT H38 := by rw [hH38]; exact gT.upd hT26 (show 0 ≤ r ∧ r ≤ 31 from ⟨by omega, by omega⟩) (fun z => absurd z (by decide))
  have hE40 : jEx [19] [63, 64, 65, 66, 67, 68, 70, 71, 114, 113, 112] H38 H := by rw [hH38]; exact jEx.row hE27 (by decide)
  have k41 : gB H38 := by rw [hH38]; exact k28
  have k42 : gK H38 := by rw [hH38]; exact k29
  have k43 : gN H38 := by rw [hH38]; exact k30
  have sI := (show H38.2.2.1 114 0 = H25.2.2.1 114 0 from by subst hH38; rfl).trans sI
  have g44 : H38.2.2.1 66 0 (H.1 11 19 0) = r := by subst hH38; exact if_pos rfl
  have g45 : H38.1 11 12 0 = H25.1 11 12 0 := by subst hH38; rfl
  have g46 : H38.1 11 19 0 = H25.1 11 19 0 := by subst hH38; rfl
  have g47 : H38.2.2.1 65 0 (H.1 11 19 0) = H25.2.2.1 65 0 (H.1 11 19 0) := by subst hH38; rfl
  have g48 : H38.2.2.1 64 0 (H.1 11 19 0) = H25.2.2.1 64 0 (H.1 11 19 0) := by subst hH38; rfl
  have g49 : H38.2.2.1 63 0 (H.1 11 19 0) = H25.2.2.1 63 0 (H.1 11 19 0) := by subst hH38; rfl
  have g50 : H38.2.2.1 114 0 (6000 * n + H.1 11 19 0) = H25.2.2.1 114 0 (6000 * n + H.1 11 19 0) := by subst hH38; rfl
  have g51 : H38.2.2.1 80 0 (n) = H25.2.2.1 80 0 (n) := by subst hH38; rfl
  clear hH38
  refine J.run 5 rfl (show 0 ≤ H.1 11 19 0 ∧ H.1 11 19 0 < 6000 from ⟨by omega, by omega⟩) ?_
  try dsimp only
  refine J.gn fun H52 hH52 => ?_
  have hT53 : gT H52 := by rw [hH52]; exact gT.upd hT39 (show -1 ≤ block ∧ block ≤ 299 from ⟨by omega, by omega⟩) (fun _ => show block < H38.1 11 12 0 by omega)
  have hE54 : jEx [19] [63, 64, 65, 66, 67, 68, 70, 71, 114, 113, 112] H52 H := by rw [hH52]; exact jEx.row hE40 (by decide)
  have k55 : gB H52 := by rw [hH52]; exact k41
  have k56 : gK H52 := by rw [hH52]; exact k42
  have k57 : gN H52 := by rw [hH52]; exact k43
  have sI := (show H52.2.2.1 114 0 = H38.2.2.1 114 0 from by subst hH52; rfl).trans sI
  have g58 : H52.2.2.1 67 0 (H.1 11 19 0) = block := by subst hH52; exact if_pos rfl
  have g59 : H52.1 11 12 0 = H38.1 11 12 0 := by subst hH52; rfl
  have g60 : H52.1 11 19 0 = H38.1 11 19 0 := by subst hH52; rfl
  have g61 : H52.2.2.1 66 0 (H.1 11 19 0) = H38.2.2.1 66 0 (H.1 11 19 0) := by subst hH52; rfl
  have g62 : H52.2.2.1 65 0 (H.1 11 19 0) = H38.2.2.1 65 0 (H.1 11 19 0) := by subst hH52; rfl
  have g63 : H52.2.2.1 64 0 (H.1 11 19 0) = H38.2.2.1 64 0 (H.1 11 19 0) := by subst hH52; rfl
  have g64 : H52.2.2.1 63 0 (H.1 11 19 0) = H38.2.2.1 63 0 (H.1 11 19 0) := by subst hH52; rfl
  have g65 : H52.2.2.1 114 0 (6000 * n + H.1 11 19 0) = H38.2.2.1 114 0 (6000 * n + H.1 11 19 0) := by subst hH52; rfl
  have g66 : H52.2.2.1 80 0 (n) = H38.2.2.1 80 0 (n) := by subst hH52; rfl
  clear hH52
  refine J.run 5 rfl (show 0 ≤ H.1 11 19 0 ∧ H.1 11 19 0 < 6000 from ⟨by omega, by omega⟩) ?_
  try dsimp only
  refine J.gn fun H67 hH67 => ?_
  have hT68 : gT H67 := by rw [hH67]; exact gT.upd hT53 (show -1 ≤ before ∧ before ≤ 31 from ⟨by omega, by omega⟩) (fun z => absurd z (by decide))
  have hE69 : jEx [19] [63, 64, 65, 66, 67, 68, 70, 71, 114, 113, 112] H67 H := by rw [hH67]; exact jEx.row hE54 (by decide)
  have k70 : gB H67 := by rw [hH67]; exact k55
  have k71 : gK H67 := by rw [hH67]; exact k56
  have k72 : gN H67 := by rw [hH67]; exact k57
  have sI := (show H67.2.2.1 114 0 = H52.2.2.1 114 0 from by subst hH67; rfl).trans sI
  have g73 : H67.2.2.1 68 0 (H.1 11 19 0) = before := by subst hH67; exact if_pos rfl
  have g74 : H67.1 11 12 0 = H52.1 11 12 0 := by subst hH67; rfl
  have g75 : H67.1 11 19 0 = H52.1 11 19 0 := by subst hH67; rfl
  have g76 : H67.2.2.1 67 0 (H.1 11 19 0) = H52.2.2.1 67 0 (H.1 11 19 0) := by subst hH67; rfl
  have g77 : H67.2.2.1 66 0 (H.1 11 19 0) = H52.2.2.1 66 0 (H.1 11 19 0) := by subst hH67; rfl
  have g78 : H67.2.2.1 65 0 (H.1 11 19 0) = H52.2.2.1 65 0 (H.1 11 19 0) := by subst hH67; rfl
  have g79 : H67.2.2.1 64 0 (H.1 11 19 0) = H52.2.2.1 64 0 (H.1 11 19 0) := by subst hH67; rfl
  have g80 : H67.2.2.1 63 0 (H.1 11 19 0) = H52.2.2.1 63 0 (H.1 11 19 0) := by subst hH67; rfl
  have g81 : H67.2.2.1 114 0 (6000 * n + H.1 11 19 0) = H52.2.2.1 114 0 (6000 * n + H.1 11 19 0) := by subst hH67; rfl
  have g82 : H67.2.2.1 80 0 (n) = H52.2.2.1 80 0 (n) := by subst hH67; rfl
  clear hH67
  have f83 : 0 ≤ H67.1 11 19 0 ∧ H67.1 11 19 0 ≤ 6000 := hT68.2.1 19
  refine J.run0 6 rfl ?_
  try dsimp only
  refine J.gn fun H84 hH84 => ?_
  have hT85 : gT H84 := by rw [hH84]; exact gT.num (f := 19) hT68 (show 0 ≤ (H67.1 11 19 0) + (1 : Int) ∧ (H67.1 11 19 0) + (1 : Int) ≤ 6000 from ⟨by omega, by omega⟩) (by decide) (fun z => absurd z (by decide))
  have hE86 : jEx [19] [63, 64, 65, 66, 67, 68, 70, 71, 114, 113, 112] H84 H := by rw [hH84]; exact jEx.num hE69 (by decide)
  have k87 : gB H84 := by rw [hH84]; exact k70
  have k88 : gK H84 := by rw [hH84]; exact k71
  have k89 : gN H84 := by rw [hH84]; exact gN.up k72 (by omega)
  have sI := (show H84.2.2.1 114 0 = H67.2.2.1 114 0 from by subst hH84; rfl).trans sI
  have g90 : H84.1 11 19 0 = (H67.1 11 19 0) + (1 : Int) := by subst hH84; rfl
  have g91 : H84.1 11 12 0 = H67.1 11 12 0 := by subst hH84; rfl
  have g92 : H84.2.2.1 68 0 (H.1 11 19 0) = H67.2.2.1 68 0 (H.1 11 19 0) := by subst hH84; rfl
  have g93 : H84.2.2.1 67 0 (H.1 11 19 0) = H67.2.2.1 67 0 (H.1 11 19 0) := by subst hH84; rfl
  have g94 : H84.2.2.1 66 0 (H.1 11 19 0) = H67.2.2.1 66 0 (H.1 11 19 0) := by subst hH84; rfl
  have g95 : H84.2.2.1 65 0 (H.1 11 19 0) = H67.2.2.1 65 0 (H.1 11 19 0) := by subst hH84; rfl
  have g96 : H84.2.2.1 64 0 (H.1 11 19 0) = H67.2.2.1 64 0 (H.1 11 19 0) := by subst hH84; rfl
  have g97 : H84.2.2.1 63 0 (H.1 11 19 0) = H67.2.2.1 63 0 (H.1 11 19 0) := by subst hH84; rfl
  have g98 : H84.2.2.1 114 0 (6000 * n + H.1 11 19 0) = H67.2.2.1 114 0 (6000 * n + H.1 11 19 0) := by subst hH84; rfl
  have g99 : H84.2.2.1 80 0 (n) = H67.2.2.1 80 0 (n) := by subst hH84; rfl
  clear hH84
  refine J.run0 3 rfl ?_
  try dsimp only
  refine J.inv rfl rfl rfl rfl rfl rfl jDr rfl rfl rfl rfl rfl (g_know (n := n) (m := H.1 11 19 0) hT85 k87 k88 k89 (show 0 ≤ (n) ∧ (n) < 16 from ⟨by omega, by omega⟩) (show 0 ≤ (H.1 11 19 0) ∧ (H.1 11 19 0) < 6000 from ⟨by omega, by omega⟩) (show (H.1 11 19 0) < H84.1 11 19 0 from by omega) (show H84.2.2.1 114 0 (6000 * (n) + (H.1 11 19 0)) = 0 from by omega) (show H84.2.2.1 80 0 ((n)) = 0 from by omega)) ?_
  rintro v w H102 ⟨rfl, hT103, ehE104, k105, k106, k107, p108, rfl⟩
  have hE104 := jEx.trans ehE104 hE86 (by decide) (by decide)
  have p108' : ∀ z, z ≠ 6000 * (n) + (H.1 11 19 0) → H102.2.2.1 114 0 z = H84.2.2.1 114 0 z := p108
  have pL_know_0 := p108'
  have g109 : H102.1 11 12 0 = H84.1 11 12 0 := ehE104.v 12 (by decide)
  have g110 : H102.1 11 19 0 = H84.1 11 19 0 := ehE104.v 19 (by decide)
  have g111 : H102.2.2.1 68 0 (H.1 11 19 0) = H84.2.2.1 68 0 (H.1 11 19 0) := congrFun (ehE104.r 68 (by decide)) _
  have g112 : H102.2.2.1 67 0 (H.1 11 19 0) = H84.2.2.1 67 0 (H.1 11 19 0) := congrFun (ehE104.r 67 (by decide)) _
  have g113 : H102.2.2.1 66 0 (H.1 11 19 0) = H84.2.2.1 66 0 (H.1 11 19 0) := congrFun (ehE104.r 66 (by decide)) _
  have g114 : H102.2.2.1 65 0 (H.1 11 19 0) = H84.2.2.1 65 0 (H.1 11 19 0) := congrFun (ehE104.r 65 (by decide)) _
  have g115 : H102.2.2.1 64 0 (H.1 11 19 0) = H84.2.2.1 64 0 (H.1 11 19 0) := congrFun (ehE104.r 64 (by decide)) _
  have g116 : H102.2.2.1 63 0 (H.1 11 19 0) = H84.2.2.1 63 0 (H.1 11 19 0) := congrFun (ehE104.r 63 (by decide)) _
  have g117 : H102.2.2.1 80 0 (n) = H84.2.2.1 80 0 (n) := congrFun (ehE104.r 80 (by decide)) _
  have eL_know := ehE104
  try dsimp only [Option.toList, List.append, List.cons_append, List.nil_append]
  refine J.run0 1 rfl ?_
  try dsimp only
  exact J.reti rfl rfl rfl ⟨_, rfl, rfl, hT103, hE104, k105, k106, k107, (show ∀ z, z ≠ 6000 * n + H.1 11 19 0 → H102.2.2.1 114 0 z = H.2.2.1 114 0 z by exact fun z hz => (pL_know_0 z (by omega)).trans (congrFun sI z)), _, rfl, (show (H.1 11 19 0) = H.1 11 19 0 ∧ 0 ≤ (H.1 11 19 0) ∧ (H.1 11 19 0) ≤ 5999 ∧ H102.1 11 19 0 = H.1 11 19 0 + 1 from ⟨by omega, by omega, by omega, by omega⟩)⟩
end
