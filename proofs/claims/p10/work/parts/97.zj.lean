-- M: X11_made
section
variable {d : Nat} {w : jW} 
-- 
theorem g_made {p q : Int} {H : jH} (hT : gT H) (k0gP : gP H) (hp0 : 0 ≤ p ∧ p < 300) (hp1 : p < H.1 11 12 0) (hp2 : 0 ≤ q ∧ q < 16) (hp3 : H.1 11 12 0 < 300) : J true d 124 w (0, jargs 0 [jT, .inl p, .inl q], [], H) (jN fun v w' H' => w' = w ∧ gT H' ∧ jEx [12] [55, 56, 57, 58] H' H ∧ gP H' ∧ ∃ x, v = some (.inl x) ∧ x = H.1 11 12 0 ∧ H'.1 11 12 0 = H.1 11 12 0 + 1 ∧ H'.2.2.1 58 0 (x) = 0 ∧ H'.2.2.1 56 0 (x) = H.2.2.1 56 0 (p) + 1 ∧ H'.2.2.1 55 0 (x) = p ∧ H'.2.2.1 56 0 (p) = H.2.2.1 56 0 (p)) := by
  have q0 : 1 ≤ H.1 11 12 0 ∧ H.1 11 12 0 ≤ 300 := hT.2.1 12
  have q1 := k0gP.2.2.2.2.1 p hp0.1 hp0.2
  have hE : jEx [12] [55, 56, 57, 58] H H := jEx.refl _ _ _
  have f1 : 1 ≤ H.1 11 12 0 ∧ H.1 11 12 0 ≤ 300 := hT.2.1 12
  refine J.run 8 rfl (show 0 ≤ H.1 11 12 0 ∧ H.1 11 12 0 < 300 from ⟨by omega, by omega⟩) ?_
  try dsimp only
  refine J.gn fun H2 hH2 => ?_
  have hT3 : gT H2 := by rw [hH2]; exact gT.upd hT (show -1 ≤ p ∧ p ≤ 299 from ⟨by omega, by omega⟩) (fun _ => show p < H.1 11 12 0 by omega)
  have hE4 : jEx [12] [55, 56, 57, 58] H2 H := by rw [hH2]; exact jEx.row hE (by decide)
  have rP : H2.2.2.1 55 0 = jup (H.2.2.1 55 0) (H.1 11 12 0) (p) ∧ H2.2.2.1 56 0 = H.2.2.1 56 0 ∧ H2.2.2.1 57 0 = H.2.2.1 57 0 := by subst hH2; exact ⟨rfl, rfl, rfl⟩
  have g5 : H2.2.2.1 55 0 (H.1 11 12 0) = p := by subst hH2; exact if_pos rfl
  have g6 : H2.1 11 12 0 = H.1 11 12 0 := by subst hH2; rfl
  have g7 : H2.2.2.1 56 0 (p) = H.2.2.1 56 0 (p) := by subst hH2; rfl
  clear hH2
  have f8 : 0 ≤ H2.2.2.1 56 0 (p) ∧ H2.2.2.1 56 0 (p) ≤ 300 := hT3.1 56 (p)
  refine J.run 10 rfl ⟨(show 0 ≤ p ∧ p < 300 from ⟨by omega, by omega⟩), (show 0 ≤ H.1 11 12 0 ∧ H.1 11 12 0 < 300 from ⟨by omega, by omega⟩)⟩ ?_
  try dsimp only
  refine J.gn fun H9 hH9 => ?_
  have hT10 : gT H9 := by rw [hH9]; exact gT.upd hT3 (show 0 ≤ (H2.2.2.1 56 0 (p)) + (1 : Int) ∧ (H2.2.2.1 56 0 (p)) + (1 : Int) ≤ 300 from ⟨by omega, by omega⟩) (fun z => absurd z (by decide))
  have hE11 : jEx [12] [55, 56, 57, 58] H9 H := by rw [hH9]; exact jEx.row hE4 (by decide)
  have rH : H9.2.2.1 55 0 = H2.2.2.1 55 0 ∧ H9.2.2.1 56 0 = jup (H2.2.2.1 56 0) (H.1 11 12 0) ((H2.2.2.1 56 0 (p)) + (1 : Int)) ∧ H9.2.2.1 57 0 = H2.2.2.1 57 0 := by subst hH9; exact ⟨rfl, rfl, rfl⟩
  have g12 : H9.2.2.1 56 0 (H.1 11 12 0) = (H2.2.2.1 56 0 (p)) + (1 : Int) := by subst hH9; exact if_pos rfl
  have g13 : H9.1 11 12 0 = H2.1 11 12 0 := by subst hH9; rfl
  have g14 : H9.2.2.1 55 0 (H.1 11 12 0) = H2.2.2.1 55 0 (H.1 11 12 0) := by subst hH9; rfl
  have g15 : (p = H.1 11 12 0 → H9.2.2.1 56 0 (p) = (H2.2.2.1 56 0 (p)) + (1 : Int)) ∧ (¬ p = H.1 11 12 0 → H9.2.2.1 56 0 (p) = H2.2.2.1 56 0 (p)) := by subst hH9; exact ⟨fun z => if_pos z, fun z => if_neg z⟩
  clear hH9
  refine J.run 5 rfl (show 0 ≤ H.1 11 12 0 ∧ H.1 11 12 0 < 300 from ⟨by omega, by omega⟩) ?_
  try dsimp only
  refine J.gn fun H16 hH16 => ?_
  have hT17 : gT H16 := by rw [hH16]; exact gT.upd hT10 (show -1 ≤ q ∧ q ≤ 15 from ⟨by omega, by omega⟩) (fun z => absurd z (by decide))
  have hE18 : jEx [12] [55, 56, 57, 58] H16 H := by rw [hH16]; exact jEx.row hE11 (by decide)
  have rQ : H16.2.2.1 55 0 = H9.2.2.1 55 0 ∧ H16.2.2.1 56 0 = H9.2.2.1 56 0 ∧ H16.2.2.1 57 0 = jup (H9.2.2.1 57 0) (H.1 11 12 0) (q) := by subst hH16; exact ⟨rfl, rfl, rfl⟩
  have g19 : H16.2.2.1 57 0 (H.1 11 12 0) = q := by subst hH16; exact if_pos rfl
  have g20 : H16.1 11 12 0 = H9.1 11 12 0 := by subst hH16; rfl
  have g21 : H16.2.2.1 56 0 (H.1 11 12 0) = H9.2.2.1 56 0 (H.1 11 12 0) := by subst hH16; rfl
  have g22 : H16.2.2.1 55 0 (H.1 11 12 0) = H9.2.2.1 55 0 (H.1 11 12 0) := by subst hH16; rfl
  have g23 : H16.2.2.1 56 0 (p) = H9.2.2.1 56 0 (p) := by subst hH16; rfl
  clear hH16
  refine J.run 5 rfl (show 0 ≤ H.1 11 12 0 ∧ H.1 11 12 0 < 300 from ⟨by omega, by omega⟩) ?_
  try dsimp only
  refine J.gn fun H24 hH24 => ?_
  have hT25 : gT H24 := by rw [hH24]; exact gT.upd hT17 (show 0 ≤ (0 : Int) ∧ (0 : Int) ≤ 12 from ⟨by omega, by omega⟩) (fun z => absurd z (by decide))
  have hE26 : jEx [12] [55, 56, 57, 58] H24 H := by rw [hH24]; exact jEx.row hE18 (by decide)
  have rMn : H24.2.2.1 55 0 = H16.2.2.1 55 0 ∧ H24.2.2.1 56 0 = H16.2.2.1 56 0 ∧ H24.2.2.1 57 0 = H16.2.2.1 57 0 := by subst hH24; exact ⟨rfl, rfl, rfl⟩
  have g27 : H24.2.2.1 58 0 (H.1 11 12 0) = (0 : Int) := by subst hH24; exact if_pos rfl
  have g28 : H24.1 11 12 0 = H16.1 11 12 0 := by subst hH24; rfl
  have g29 : H24.2.2.1 57 0 (H.1 11 12 0) = H16.2.2.1 57 0 (H.1 11 12 0) := by subst hH24; rfl
  have g30 : H24.2.2.1 56 0 (H.1 11 12 0) = H16.2.2.1 56 0 (H.1 11 12 0) := by subst hH24; rfl
  have g31 : H24.2.2.1 55 0 (H.1 11 12 0) = H16.2.2.1 55 0 (H.1 11 12 0) := by subst hH24; rfl
  have g32 : H24.2.2.1 56 0 (p) = H16.2.2.1 56 0 (p) := by subst hH24; rfl
  clear hH24
  have f33 : 1 ≤ H24.1 11 12 0 ∧ H24.1 11 12 0 ≤ 300 := hT25.2.1 12
  refine J.run0 6 rfl ?_
  try dsimp only
  refine J.gn fun H34 hH34 => ?_
  have hT35 : gT H34 := by rw [hH34]; exact gT.blk hT25 (show H24.1 11 12 0 ≤ (H24.1 11 12 0) + (1 : Int) by omega) (show (H24.1 11 12 0) + (1 : Int) ≤ 300 by omega)
  have hE36 : jEx [12] [55, 56, 57, 58] H34 H := by rw [hH34]; exact jEx.num hE26 (by decide)
  have rV : H34.2.2.1 55 0 = H24.2.2.1 55 0 ∧ H34.2.2.1 56 0 = H24.2.2.1 56 0 ∧ H34.2.2.1 57 0 = H24.2.2.1 57 0 := by subst hH34; exact ⟨rfl, rfl, rfl⟩
  have g37 : H34.1 11 12 0 = (H24.1 11 12 0) + (1 : Int) := by subst hH34; rfl
  have g38 : H34.2.2.1 58 0 (H.1 11 12 0) = H24.2.2.1 58 0 (H.1 11 12 0) := by subst hH34; rfl
  have g39 : H34.2.2.1 57 0 (H.1 11 12 0) = H24.2.2.1 57 0 (H.1 11 12 0) := by subst hH34; rfl
  have g40 : H34.2.2.1 56 0 (H.1 11 12 0) = H24.2.2.1 56 0 (H.1 11 12 0) := by subst hH34; rfl
  have g41 : H34.2.2.1 55 0 (H.1 11 12 0) = H24.2.2.1 55 0 (H.1 11 12 0) := by subst hH34; rfl
  have g42 : H34.2.2.1 56 0 (p) = H24.2.2.1 56 0 (p) := by subst hH34; rfl
  clear hH34
  refine J.run0 1 rfl ?_
  try dsimp only
  exact J.reti rfl rfl rfl ⟨_, rfl, rfl, hT35, hE36, (show gP H34 by exact gP.made k0gP ⟨q0.1, hp3⟩ ⟨hp0.1, hp1⟩ hp2.1 (by rw [rV.1, rMn.1, rQ.1, rH.1, rP.1]) (by rw [rV.2.1, rMn.2.1, rQ.2.1, rH.2.1, rP.2.1]) (by rw [rV.2.2, rMn.2.2, rQ.2.2, rH.2.2, rP.2.2]) (by omega)), _, rfl, (show (H.1 11 12 0) = H.1 11 12 0 ∧ H34.1 11 12 0 = H.1 11 12 0 + 1 ∧ H34.2.2.1 58 0 ((H.1 11 12 0)) = 0 ∧ H34.2.2.1 56 0 ((H.1 11 12 0)) = H.2.2.1 56 0 (p) + 1 ∧ H34.2.2.1 55 0 ((H.1 11 12 0)) = p ∧ H34.2.2.1 56 0 (p) = H.2.2.1 56 0 (p) from ⟨by omega, by omega, by omega, by omega, by omega, by omega⟩)⟩
end
