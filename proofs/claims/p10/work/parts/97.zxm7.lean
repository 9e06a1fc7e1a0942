-- M: X11_isMoved#7
section
variable {d : Nat} {w : jW} 
set_option maxRecDepth 20000 in
set_option maxHeartbeats 8000000 in
theorem g_isMoved {n u : Int} {H : jH} (hT : gT H) (k0gP : gP H) (k0gX : gX H) (k0gL : gL H) (k0gZ : gZ H) (k0gQ : gQ H) (k0gB : gB H) (k0gK : gK H) (k0gN : gN H) (k0gW : gW H (H.1 11 19 0)) (k0gU : gU H u) (hp0 : 0 ≤ n ∧ n < 16) (hp1 : H.2.2.1 79 0 (n) = 0) (hp2 : H.2.2.1 80 0 (n) = 0) (hp3 : n < u) : J true (d + 304) 143 w (0, jargs 0 [jT, .inl n], [], H) (jN fun v w' H' => w' = w ∧ gT H' ∧ jEx [19, 12, 48, 56, 57] [60, 56, 59, 58, 55, 57, 61, 99, 100, 77, 78, 82, 80, 114, 115, 81, 105, 71, 70, 72, 75, 76, 68, 67, 65, 63, 64, 66, 112, 113, 108, 110, 101, 102, 103, 104, 83, 73, 74, 84, 111, 89, 88, 93, 94, 86, 91, 92, 85, 87, 90] H' H ∧ gP H' ∧ gX H' ∧ gL H' ∧ gZ H' ∧ gQ H' ∧ gB H' ∧ gK H' ∧ gN H' ∧ gW H' (H'.1 11 19 0) ∧ gU H' u ∧ ∃ x, v = some (.inl x) ∧ (x = 0 ∨ x = 1) ∧ (x = 1 → 192 * H.2.2.1 56 0 (H.2.2.1 72 0 (n)) + 6 * H.2.2.1 73 0 (n) + 2 * H.2.2.1 74 0 (n) + H.2.2.1 115 0 (n) + 1 ≤ 192 * H'.2.2.1 56 0 (H'.2.2.1 72 0 (n)) + 6 * H'.2.2.1 73 0 (n) + 2 * H'.2.2.1 74 0 (n) + H'.2.2.1 115 0 (n)) ∧ H.1 11 19 0 ≤ H'.1 11 19 0) := by
  have qw : H.2.2.1 83 0 (n) ≤ 3 * H.2.2.1 73 0 (n) + H.2.2.1 74 0 (n) + 1 := (k0gW n hp0.1 hp0.2).1
  have qr73 : 0 ≤ H.2.2.1 73 0 (n) ∧ H.2.2.1 73 0 (n) ≤ 31 := hT.1 73 n
  have qr74 : 0 ≤ H.2.2.1 74 0 (n) ∧ H.2.2.1 74 0 (n) ≤ 2 := hT.1 74 n
  have qr115 : 0 ≤ H.2.2.1 115 0 (n) ∧ H.2.2.1 115 0 (n) ≤ 1 := hT.1 115 n
  have qr72 : 0 ≤ H.2.2.1 72 0 (n) ∧ H.2.2.1 72 0 (n) ≤ 299 := hT.1 72 n
  have hE : jEx [19, 12, 48, 56, 57] [60, 56, 59, 58, 55, 57, 61, 99, 100, 77, 78, 82, 80, 114, 115, 81, 105, 71, 70, 72, 75, 76, 68, 67, 65, 63, 64, 66, 112, 113, 108, 110, 101, 102, 103, 104, 83, 73, 74, 84, 111, 89, 88, 93, 94, 86, 91, 92, 85, 87, 90] H H := jEx.refl _ _ _
  refine J.run0 4 rfl ?_
  try dsimp only
  exact (g_isMoved_l6 (H0 := H) (n := n) (u := u)  hp0 hp1 hp2 hp3 ((6000 - ((0 : Int)) : Int).toNat + 1)) ((0 : Int)) ((0 : Int)) H _ (show 6000 - ((0 : Int)) < _ by omega) (show 0 ≤ ((0 : Int)) ∧ ((0 : Int)) ≤ 6000 from ⟨by omega, by omega⟩) (show 0 ≤ ((0 : Int)) ∧ ((0 : Int)) ≤ 31 from ⟨by omega, by omega⟩) (show H.2.2.1 73 0 (n) = H.2.2.1 73 0 (n) from by omega) (show H.2.2.1 74 0 (n) = H.2.2.1 74 0 (n) from by omega) (show H.2.2.1 115 0 (n) = H.2.2.1 115 0 (n) from by omega) (show H.2.2.1 72 0 (n) = H.2.2.1 72 0 (n) from by omega) (show H.2.2.1 79 0 (n) = 0 from by omega) (show H.2.2.1 80 0 (n) = 0 from by omega) (show H.2.2.1 56 0 (H.2.2.1 72 0 (n)) = H.2.2.1 56 0 (H.2.2.1 72 0 (n)) from by omega) (show H.2.2.1 83 0 (n) ≤ 3 * H.2.2.1 73 0 (n) + H.2.2.1 74 0 (n) + 1 from by omega) (show H.1 11 19 0 ≤ H.1 11 19 0 from by omega) (show 0 ≤ H.2.2.1 73 0 (n) ∧ H.2.2.1 73 0 (n) ≤ 31 from ⟨by omega, by omega⟩) (show 0 ≤ H.2.2.1 74 0 (n) ∧ H.2.2.1 74 0 (n) ≤ 2 from ⟨by omega, by omega⟩) (show 0 ≤ H.2.2.1 115 0 (n) ∧ H.2.2.1 115 0 (n) ≤ 1 from ⟨by omega, by omega⟩) (show 0 ≤ H.2.2.1 72 0 (n) ∧ H.2.2.1 72 0 (n) ≤ 299 from ⟨by omega, by omega⟩) hT hE k0gP k0gX k0gL k0gZ k0gQ k0gB k0gK k0gN k0gW k0gU rfl
end
