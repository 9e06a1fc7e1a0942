-- M: X11_isRecorded
section
variable {d : Nat} {w : jW} 
-- 
theorem g_isRecorded {n kind r block before u : Int} {H : jH} (hT : gT H) (k0gK : gK H) (k0gN : gN H) (k0gU : gU H u) (hp0 : 0 ≤ n ∧ n < 16) (hp1 : 0 ≤ kind ∧ kind ≤ 2) (hp2 : r = H.2.2.1 73 0 (n)) (hp3 : -1 ≤ block ∧ block < 300) (hp4 : block < H.1 11 12 0) (hp5 : -1 ≤ before ∧ before < 32) (hp6 : H.1 11 19 0 < 6000) (hp7 : H.2.2.1 83 0 (n) ≤ 3 * H.2.2.1 73 0 (n) + H.2.2.1 74 0 (n)) (hp8 : gW H (H.1 11 19 0)) (hp9 : gB H) (hp10 : H.2.2.1 79 0 (n) = 0) (hp11 : n < u) : J true (d + 1) 138 w (0, jargs 0 [jT, .inl n, .inl kind, .inl r, .inl block, .inl before], [], H) (jN fun v w' H' => w' = w ∧ gT H' ∧ jEx [] [82, 83, 84, 80, 114, 71, 113, 85, 86, 87, 88, 89, 90, 91, 92, 93, 94] H' H ∧ gK H' ∧ gN H' ∧ gU H' u ∧ (gB H') ∧ ∃ x, v = some (.inl x) ∧ (x = 0 ∨ x = 1) ∧ (x = 1 → gW H' (H.1 11 19 0 + 1)) ∧ (x = 0 → gW H' (H.1 11 19 0)) ∧ (x = 1 → H'.2.2.1 80 0 (n) = H.2.2.1 80 0 (n))) := by
  have q0 : 0 ≤ H.1 11 19 0 ∧ H.1 11 19 0 ≤ 6000 := hT.2.1 19
  have q3 : 0 ≤ H.2.2.1 73 0 n ∧ H.2.2.1 73 0 n ≤ 31 := hT.1 73 n
  have q4 : 0 ≤ H.2.2.1 74 0 n ∧ H.2.2.1 74 0 n ≤ 2 := hT.1 74 n
  have q5 : 0 ≤ H.2.2.1 83 0 n ∧ H.2.2.1 83 0 n ≤ 96 := hT.1 83 n
  have cR : H.2.2.1 83 0 = H.2.2.1 83 0 := rfl
  have cO : H.2.2.1 73 0 = H.2.2.1 73 0 := rfl
  have cS : H.2.2.1 74 0 = H.2.2.1 74 0 := rfl
  have cW : H.2.2.1 87 0 = H.2.2.1 87 0 := rfl
  have cT : H.2.2.1 90 0 = H.2.2.1 90 0 := rfl
  have cD : H.2.2.1 80 0 = H.2.2.1 80 0 := rfl
  have cF : H.2.2.1 79 0 = H.2.2.1 79 0 := rfl
  have cN : H.2.2.1 71 0 = H.2.2.1 71 0 := rfl
  have cM : ∀ z, z ≠ 128 * n + H.2.2.1 83 0 n → H.2.2.1 85 0 z = H.2.2.1 85 0 z := fun _ _ => rfl
  have hE : jEx [] [82, 83, 84, 80, 114, 71, 113, 85, 86, 87, 88, 89, 90, 91, 92, 93, 94] H H := jEx.refl _ _ _
  have f1 : 0 ≤ H.2.2.1 82 0 (n) ∧ H.2.2.1 82 0 (n) ≤ 13 := hT.1 82 (n)
  have f2 : 0 ≤ H.2.2.1 83 0 (n) ∧ H.2.2.1 83 0 (n) ≤ 96 := hT.1 83 (n)
  refine J.run 19 rfl ⟨(show 0 ≤ n ∧ n < 16 from ⟨by omega, by omega⟩), (show 0 ≤ n ∧ n < 16 from ⟨by omega, by omega⟩), (show 0 ≤ n ∧ n < 16 from ⟨by omega, by omega⟩)⟩ ?_
  try dsimp only
  refine J.gn fun H3 hH3 => ?_
  have hT4 : gT H3 := by rw [hH3]; exact gT.upd hT (show 0 ≤ (13 : Int) ∧ (13 : Int) ≤ 13 from ⟨by omega, by omega⟩) (fun z => absurd z (by decide))
  have hE5 : jEx [] [82, 83, 84, 80, 114, 71, 113, 85, 86, 87, 88, 89, 90, 91, 92, 93, 94] H3 H := by rw [hH3]; exact jEx.row hE (by decide)
  have k6 : gK H3 := by rw [hH3]; exact k0gK
  have k7 : gN H3 := by rw [hH3]; exact k0gN
  have k8 : gU H3 u := by rw [hH3]; exact k0gU
  have cR := (show H3.2.2.1 83 0 = H.2.2.1 83 0 from by subst hH3; rfl).trans cR
  have cO := (show H3.2.2.1 73 0 = H.2.2.1 73 0 from by subst hH3; rfl).trans cO
  have cS := (show H3.2.2.1 74 0 = H.2.2.1 74 0 from by subst hH3; rfl).trans cS
  have cW := (show H3.2.2.1 87 0 = H.2.2.1 87 0 from by subst hH3; rfl).trans cW
  have cT := (show H3.2.2.1 90 0 = H.2.2.1 90 0 from by subst hH3; rfl).trans cT
  have cD := (show H3.2.2.1 80 0 = H.2.2.1 80 0 from by subst hH3; rfl).trans cD
  have cF := (show H3.2.2.1 79 0 = H.2.2.1 79 0 from by subst hH3; rfl).trans cF
  have cN := (show H3.2.2.1 71 0 = H.2.2.1 71 0 from by subst hH3; rfl).trans cN
  have cM : ∀ z, z ≠ 128 * n + H.2.2.1 83 0 n → H3.2.2.1 85 0 z = H.2.2.1 85 0 z := fun z hz => (show H3.2.2.1 85 0 z = H.2.2.1 85 0 z from by subst hH3; rfl).trans (cM z hz)
  have g9 : H3.2.2.1 82 0 (n) = (13 : Int) := by subst hH3; exact if_pos rfl
  have g10 : H3.1 11 12 0 = H.1 11 12 0 := by subst hH3; rfl
  have g11 : H3.1 11 19 0 = H.1 11 19 0 := by subst hH3; rfl
  have g12 : H3.2.2.1 83 0 (n) = H.2.2.1 83 0 (n) := by subst hH3; rfl
  have g13 : H3.2.2.1 73 0 (n) = H.2.2.1 73 0 (n) := by subst hH3; rfl
  have g14 : H3.2.2.1 74 0 (n) = H.2.2.1 74 0 (n) := by subst hH3; rfl
  clear hH3
  refine J.run 5 rfl (show 0 ≤ ((128 : Int) * n) + (H.2.2.1 83 0 (n)) ∧ ((128 : Int) * n) + (H.2.2.1 83 0 (n)) < 2048 from ⟨by omega, by omega⟩) ?_
  try dsimp only
  refine J.gn fun H16 hH16 => ?_
  have hT17 : gT H16 := by rw [hH16]; exact gT.upd hT4 (show -1 ≤ (-1 : Int) ∧ (-1 : Int) ≤ 5999 from ⟨by omega, by omega⟩) (fun z => absurd z (by decide))
  have hE18 : jEx [] [82, 83, 84, 80, 114, 71, 113, 85, 86, 87, 88, 89, 90, 91, 92, 93, 94] H16 H := by rw [hH16]; exact jEx.row hE5 (by decide)
  have k19 : gK H16 := by rw [hH16]; exact k6
  have k20 : gN H16 := by rw [hH16]; exact k7
  have k21 : gU H16 u := by rw [hH16]; exact k8
  have cR := (show H16.2.2.1 83 0 = H3.2.2.1 83 0 from by subst hH16; rfl).trans cR
  have cO := (show H16.2.2.1 73 0 = H3.2.2.1 73 0 from by subst hH16; rfl).trans cO
  have cS := (show H16.2.2.1 74 0 = H3.2.2.1 74 0 from by subst hH16; rfl).trans cS
  have cW := (show H16.2.2.1 87 0 = H3.2.2.1 87 0 from by subst hH16; rfl).trans cW
  have cT := (show H16.2.2.1 90 0 = H3.2.2.1 90 0 from by subst hH16; rfl).trans cT
  have cD := (show H16.2.2.1 80 0 = H3.2.2.1 80 0 from by subst hH16; rfl).trans cD
  have cF := (show H16.2.2.1 79 0 = H3.2.2.1 79 0 from by subst hH16; rfl).trans cF
  have cN := (show H16.2.2.1 71 0 = H3.2.2.1 71 0 from by subst hH16; rfl).trans cN
  have cM : ∀ z, z ≠ 128 * n + H.2.2.1 83 0 n → H16.2.2.1 85 0 z = H.2.2.1 85 0 z := fun z hz => (show H16.2.2.1 85 0 z = H3.2.2.1 85 0 z from by subst hH16; exact if_neg hz).trans (cM z hz)
  have g22 : H16.2.2.1 85 0 (((128 : Int) * n) + (H.2.2.1 83 0 (n))) = (-1 : Int) := by subst hH16; exact if_pos rfl
  have g23 : H16.1 11 12 0 = H3.1 11 12 0 := by subst hH16; rfl
  have g24 : H16.1 11 19 0 = H3.1 11 19 0 := by subst hH16; rfl
  have g25 : H16.2.2.1 82 0 (n) = H3.2.2.1 82 0 (n) := by subst hH16; rfl
  have g26 : H16.2.2.1 83 0 (n) = H3.2.2.1 83 0 (n) := by subst hH16; rfl
  have g27 : H16.2.2.1 73 0 (n) = H3.2.2.1 73 0 (n) := by subst hH16; rfl
  have g28 : H16.2.2.1 74 0 (n) = H3.2.2.1 74 0 (n) := by subst hH16; rfl
  clear hH16
  refine J.run 5 rfl (show 0 ≤ ((128 : Int) * n) + (H.2.2.1 83 0 (n)) ∧ ((128 : Int) * n) + (H.2.2.1 83 0 (n)) < 2048 from ⟨by omega, by omega⟩) ?_
  try dsimp only
  refine J.gn fun H29 hH29 => ?_
  have hT30 : gT H29 := by rw [hH29]; exact gT.upd hT17 (show 0 ≤ kind ∧ kind ≤ 2 from ⟨by omega, by omega⟩) (fun z => absurd z (by decide))
  have hE31 : jEx [] [82, 83, 84, 80, 114, 71, 113, 85, 86, 87, 88, 89, 90, 91, 92, 93, 94] H29 H := by rw [hH29]; exact jEx.row hE18 (by decide)
  have k32 : gK H29 := by rw [hH29]; exact k19
  have k33 : gN H29 := by rw [hH29]; exact k20
  have k34 : gU H29 u := by rw [hH29]; exact k21
  have cR := (show H29.2.2.1 83 0 = H16.2.2.1 83 0 from by subst hH29; rfl).trans cR
  have cO := (show H29.2.2.1 73 0 = H16.2.2.1 73 0 from by subst hH29; rfl).trans cO
  have cS := (show H29.2.2.1 74 0 = H16.2.2.1 74 0 from by subst hH29; rfl).trans cS
  have cW := (show H29.2.2.1 87 0 = H16.2.2.1 87 0 from by subst hH29; rfl).trans cW
  have cT := (show H29.2.2.1 90 0 = H16.2.2.1 90 0 from by subst hH29; rfl).trans cT
  have cD := (show H29.2.2.1 80 0 = H16.2.2.1 80 0 from by subst hH29; rfl).trans cD
  have cF := (show H29.2.2.1 79 0 = H16.2.2.1 79 0 from by subst hH29; rfl).trans cF
  have cN := (show H29.2.2.1 71 0 = H16.2.2.1 71 0 from by subst hH29; rfl).trans cN
  have cM : ∀ z, z ≠ 128 * n + H.2.2.1 83 0 n → H29.2.2.1 85 0 z = H.2.2.1 85 0 z := fun z hz => (show H29.2.2.1 85 0 z = H16.2.2.1 85 0 z from by subst hH29; rfl).trans (cM z hz)
  have g35 : H29.2.2.1 86 0 (((128 : Int) * n) + (H.2.2.1 83 0 (n))) = kind := by subst hH29; exact if_pos rfl
  have g36 : H29.1 11 12 0 = H16.1 11 12 0 := by subst hH29; rfl
  have g37 : H29.1 11 19 0 = H16.1 11 19 0 := by subst hH29; rfl
  have g38 : H29.2.2.1 85 0 (((128 : Int) * n) + (H.2.2.1 83 0 (n))) = H16.2.2.1 85 0 (((128 : Int) * n) + (H.2.2.1 83 0 (n))) := by subst hH29; rfl
  have g39 : H29.2.2.1 82 0 (n) = H16.2.2.1 82 0 (n) := by subst hH29; rfl
  have g40 : H29.2.2.1 83 0 (n) = H16.2.2.1 83 0 (n) := by subst hH29; rfl
  have g41 : H29.2.2.1 73 0 (n) = H16.2.2.1 73 0 (n) := by subst hH29; rfl
  have g42 : H29.2.2.1 74 0 (n) = H16.2.2.1 74 0 (n) := by subst hH29; rfl
  clear hH29
  refine J.run 5 rfl (show 0 ≤ ((128 : Int) * n) + (H.2.2.1 83 0 (n)) ∧ ((128 : Int) * n) + (H.2.2.1 83 0 (n)) < 2048 from ⟨by omega, by omega⟩) ?_
  try dsimp only
  refine J.gn fun H43 hH43 => ?_
  have hT44 : gT H43 := by rw [hH43]; exact gT.upd hT30 (show 0 ≤ r ∧ r ≤ 31 from ⟨by omega, by omega⟩) (fun z => absurd z (by decide))
  have hE45 : jEx [] [82, 83, 84, 80, 114, 71, 113, 85, 86, 87, 88, 89, 90, 91, 92, 93, 94] H43 H := by rw [hH43]; exact jEx.row hE31 (by decide)
  have k46 : gK H43 := by rw [hH43]; exact k32
  have k47 : gN H43 := by rw [hH43]; exact k33
  have k48 : gU H43 u := by rw [hH43]; exact k34
  have cR := (show H43.2.2.1 83 0 = H29.2.2.1 83 0 from by subst hH43; rfl).trans cR
  have cO := (show H43.2.2.1 73 0 = H29.2.2.1 73 0 from by subst hH43; rfl).trans cO
  have cS := (show H43.2.2.1 74 0 = H29.2.2.1 74 0 from by subst hH43; rfl).trans cS
  have cW : H43.2.2.1 87 0 = jup (H.2.2.1 87 0) (((128 : Int) * n) + (H.2.2.1 83 0 (n))) (r) := (show H43.2.2.1 87 0 = jup (H29.2.2.1 87 0) (((128 : Int) * n) + (H.2.2.1 83 0 (n))) (r) from by subst hH43; rfl).trans (by rw [cW])
  have cT := (show H43.2.2.1 90 0 = H29.2.2.1 90 0 from by subst hH43; rfl).trans cT
  have cD := (show H43.2.2.1 80 0 = H29.2.2.1 80 0 from by subst hH43; rfl).trans cD
  have cF := (show H43.2.2.1 79 0 = H29.2.2.1 79 0 from by subst hH43; rfl).trans cF
  have cN := (show H43.2.2.1 71 0 = H29.2.2.1 71 0 from by subst hH43; rfl).trans cN
  have cM : ∀ z, z ≠ 128 * n + H.2.2.1 83 0 n → H43.2.2.1 85 0 z = H.2.2.1 85 0 z := fun z hz => (show H43.2.2.1 85 0 z = H29.2.2.1 85 0 z from by subst hH43; rfl).trans (cM z hz)
  have g49 : H43.2.2.1 87 0 (((128 : Int) * n) + (H.2.2.1 83 0 (n))) = r := by subst hH43; exact if_pos rfl
  have g50 : H43.1 11 12 0 = H29.1 11 12 0 := by subst hH43; rfl
  have g51 : H43.1 11 19 0 = H29.1 11 19 0 := by subst hH43; rfl
  have g52 : H43.2.2.1 86 0 (((128 : Int) * n) + (H.2.2.1 83 0 (n))) = H29.2.2.1 86 0 (((128 : Int) * n) + (H.2.2.1 83 0 (n))) := by subst hH43; rfl
  have g53 : H43.2.2.1 85 0 (((128 : Int) * n) + (H.2.2.1 83 0 (n))) = H29.2.2.1 85 0 (((128 : Int) * n) + (H.2.2.1 83 0 (n))) := by subst hH43; rfl
  have g54 : H43.2.2.1 82 0 (n) = H29.2.2.1 82 0 (n) := by subst hH43; rfl
  have g55 : H43.2.2.1 83 0 (n) = H29.2.2.1 83 0 (n) := by subst hH43; rfl
  have g56 : H43.2.2.1 73 0 (n) = H29.2.2.1 73 0 (n) := by subst hH43; rfl
  have g57 : H43.2.2.1 74 0 (n) = H29.2.2.1 74 0 (n) := by subst hH43; rfl
  clear hH43
  refine J.run 5 rfl (show 0 ≤ ((128 : Int) * n) + (H.2.2.1 83 0 (n)) ∧ ((128 : Int) * n) + (H.2.2.1 83 0 (n)) < 2048 from ⟨by omega, by omega⟩) ?_
  try dsimp only
  refine J.gn fun H58 hH58 => ?_
  have hT59 : gT H58 := by rw [hH58]; exact gT.upd hT44 (show -1 ≤ block ∧ block ≤ 299 from ⟨by omega, by omega⟩) (fun _ => show block < H43.1 11 12 0 by omega)
  have hE60 : jEx [] [82, 83, 84, 80, 114, 71, 113, 85, 86, 87, 88, 89, 90, 91, 92, 93, 94] H58 H := by rw [hH58]; exact jEx.row hE45 (by decide)
  have k61 : gK H58 := by rw [hH58]; exact k46
  have k62 : gN H58 := by rw [hH58]; exact k47
  have k63 : gU H58 u := by rw [hH58]; exact k48
  have cR := (show H58.2.2.1 83 0 = H43.2.2.1 83 0 from by subst hH58; rfl).trans cR
  have cO := (show H58.2.2.1 73 0 = H43.2.2.1 73 0 from by subst hH58; rfl).trans cO
  have cS := (show H58.2.2.1 74 0 = H43.2.2.1 74 0 from by subst hH58; rfl).trans cS
  have cW := (show H58.2.2.1 87 0 = H43.2.2.1 87 0 from by subst hH58; rfl).trans cW
  have cT := (show H58.2.2.1 90 0 = H43.2.2.1 90 0 from by subst hH58; rfl).trans cT
  have cD := (show H58.2.2.1 80 0 = H43.2.2.1 80 0 from by subst hH58; rfl).trans cD
  have cF := (show H58.2.2.1 79 0 = H43.2.2.1 79 0 from by subst hH58; rfl).trans cF
  have cN := (show H58.2.2.1 71 0 = H43.2.2.1 71 0 from by subst hH58; rfl).trans cN
  have cM : ∀ z, z ≠ 128 * n + H.2.2.1 83 0 n → H58.2.2.1 85 0 z = H.2.2.1 85 0 z := fun z hz => (show H58.2.2.1 85 0 z = H43.2.2.1 85 0 z from by subst hH58; rfl).trans (cM z hz)
  have g64 : H58.2.2.1 88 0 (((128 : Int) * n) + (H.2.2.1 83 0 (n))) = block := by subst hH58; exact if_pos rfl
  have g65 : H58.1 11 12 0 = H43.1 11 12 0 := by subst hH58; rfl
  have g66 : H58.1 11 19 0 = H43.1 11 19 0 := by subst hH58; rfl
  have g67 : H58.2.2.1 87 0 (((128 : Int) * n) + (H.2.2.1 83 0 (n))) = H43.2.2.1 87 0 (((128 : Int) * n) + (H.2.2.1 83 0 (n))) := by subst hH58; rfl
  have g68 : H58.2.2.1 86 0 (((128 : Int) * n) + (H.2.2.1 83 0 (n))) = H43.2.2.1 86 0 (((128 : Int) * n) + (H.2.2.1 83 0 (n))) := by subst hH58; rfl
  have g69 : H58.2.2.1 85 0 (((128 : Int) * n) + (H.2.2.1 83 0 (n))) = H43.2.2.1 85 0 (((128 : Int) * n) + (H.2.2.1 83 0 (n))) := by subst hH58; rfl
  have g70 : H58.2.2.1 82 0 (n) = H43.2.2.1 82 0 (n) := by subst hH58; rfl
  have g71 : H58.2.2.1 83 0 (n) = H43.2.2.1 83 0 (n) := by subst hH58; rfl
  have g72 : H58.2.2.1 73 0 (n) = H43.2.2.1 73 0 (n) := by subst hH58; rfl
  have g73 : H58.2.2.1 74 0 (n) = H43.2.2.1 74 0 (n) := by subst hH58; rfl
  clear hH58
  refine J.run 5 rfl (show 0 ≤ ((128 : Int) * n) + (H.2.2.1 83 0 (n)) ∧ ((128 : Int) * n) + (H.2.2.1 83 0 (n)) < 2048 from ⟨by omega, by omega⟩) ?_
  try dsimp only
  refine J.gn fun H74 hH74 => ?_
  have hT75 : gT H74 := by rw [hH74]; exact gT.upd hT59 (show -1 ≤ before ∧ before ≤ 31 from ⟨by omega, by omega⟩) (fun z => absurd z (by decide))
  have hE76 : jEx [] [82, 83, 84, 80, 114, 71, 113, 85, 86, 87, 88, 89, 90, 91, 92, 93, 94] H74 H := by rw [hH74]; exact jEx.row hE60 (by decide)
  have k77 : gK H74 := by rw [hH74]; exact k61
  have k78 : gN H74 := by rw [hH74]; exact k62
  have k79 : gU H74 u := by rw [hH74]; exact k63
  have cR := (show H74.2.2.1 83 0 = H58.2.2.1 83 0 from by subst hH74; rfl).trans cR
  have cO := (show H74.2.2.1 73 0 = H58.2.2.1 73 0 from by subst hH74; rfl).trans cO
  have cS := (show H74.2.2.1 74 0 = H58.2.2.1 74 0 from by subst hH74; rfl).trans cS
  have cW := (show H74.2.2.1 87 0 = H58.2.2.1 87 0 from by subst hH74; rfl).trans cW
  have cT := (show H74.2.2.1 90 0 = H58.2.2.1 90 0 from by subst hH74; rfl).trans cT
  have cD := (show H74.2.2.1 80 0 = H58.2.2.1 80 0 from by subst hH74; rfl).trans cD
  have cF := (show H74.2.2.1 79 0 = H58.2.2.1 79 0 from by subst hH74; rfl).trans cF
  have cN := (show H74.2.2.1 71 0 = H58.2.2.1 71 0 from by subst hH74; rfl).trans cN
  have cM : ∀ z, z ≠ 128 * n + H.2.2.1 83 0 n → H74.2.2.1 85 0 z = H.2.2.1 85 0 z := fun z hz => (show H74.2.2.1 85 0 z = H58.2.2.1 85 0 z from by subst hH74; rfl).trans (cM z hz)
  have g80 : H74.2.2.1 89 0 (((128 : Int) * n) + (H.2.2.1 83 0 (n))) = before := by subst hH74; exact if_pos rfl
  have g81 : H74.1 11 12 0 = H58.1 11 12 0 := by subst hH74; rfl
  have g82 : H74.1 11 19 0 = H58.1 11 19 0 := by subst hH74; rfl
  have g83 : H74.2.2.1 88 0 (((128 : Int) * n) + (H.2.2.1 83 0 (n))) = H58.2.2.1 88 0 (((128 : Int) * n) + (H.2.2.1 83 0 (n))) := by subst hH74; rfl
  have g84 : H74.2.2.1 87 0 (((128 : Int) * n) + (H.2.2.1 83 0 (n))) = H58.2.2.1 87 0 (((128 : Int) * n) + (H.2.2.1 83 0 (n))) := by subst hH74; rfl
  have g85 : H74.2.2.1 86 0 (((128 : Int) * n) + (H.2.2.1 83 0 (n))) = H58.2.2.1 86 0 (((128 : Int) * n) + (H.2.2.1 83 0 (n))) := by subst hH74; rfl
  have g86 : H74.2.2.1 85 0 (((128 : Int) * n) + (H.2.2.1 83 0 (n))) = H58.2.2.1 85 0 (((128 : Int) * n) + (H.2.2.1 83 0 (n))) := by subst hH74; rfl
  have g87 : H74.2.2.1 82 0 (n) = H58.2.2.1 82 0 (n) := by subst hH74; rfl
  have g88 : H74.2.2.1 83 0 (n) = H58.2.2.1 83 0 (n) := by subst hH74; rfl
  have g89 : H74.2.2.1 73 0 (n) = H58.2.2.1 73 0 (n) := by subst hH74; rfl
  have g90 : H74.2.2.1 74 0 (n) = H58.2.2.1 74 0 (n) := by subst hH74; rfl
  clear hH74
  have f91 : 0 ≤ H74.2.2.1 74 0 (n) ∧ H74.2.2.1 74 0 (n) ≤ 2 := hT75.1 74 (n)
  refine J.run 8 rfl ⟨(show 0 ≤ n ∧ n < 16 from ⟨by omega, by omega⟩), (show 0 ≤ ((128 : Int) * n) + (H.2.2.1 83 0 (n)) ∧ ((128 : Int) * n) + (H.2.2.1 83 0 (n)) < 2048 from ⟨by omega, by omega⟩)⟩ ?_
  try dsimp only
  refine J.gn fun H92 hH92 => ?_
  have hT93 : gT H92 := by rw [hH92]; exact gT.upd hT75 (show 0 ≤ H74.2.2.1 74 0 (n) ∧ H74.2.2.1 74 0 (n) ≤ 2 from ⟨by omega, by omega⟩) (fun z => absurd z (by decide))
  have hE94 : jEx [] [82, 83, 84, 80, 114, 71, 113, 85, 86, 87, 88, 89, 90, 91, 92, 93, 94] H92 H := by rw [hH92]; exact jEx.row hE76 (by decide)
  have k95 : gK H92 := by rw [hH92]; exact k77
  have k96 : gN H92 := by rw [hH92]; exact k78
  have k97 : gU H92 u := by rw [hH92]; exact k79
  have cR := (show H92.2.2.1 83 0 = H74.2.2.1 83 0 from by subst hH92; rfl).trans cR
  have cO := (show H92.2.2.1 73 0 = H74.2.2.1 73 0 from by subst hH92; rfl).trans cO
  have cS := (show H92.2.2.1 74 0 = H74.2.2.1 74 0 from by subst hH92; rfl).trans cS
  have cW := (show H92.2.2.1 87 0 = H74.2.2.1 87 0 from by subst hH92; rfl).trans cW
  have cT : H92.2.2.1 90 0 = jup (H.2.2.1 90 0) (((128 : Int) * n) + (H.2.2.1 83 0 (n))) (H74.2.2.1 74 0 (n)) := (show H92.2.2.1 90 0 = jup (H74.2.2.1 90 0) (((128 : Int) * n) + (H.2.2.1 83 0 (n))) (H74.2.2.1 74 0 (n)) from by subst hH92; rfl).trans (by rw [cT])
  have cD := (show H92.2.2.1 80 0 = H74.2.2.1 80 0 from by subst hH92; rfl).trans cD
  have cF := (show H92.2.2.1 79 0 = H74.2.2.1 79 0 from by subst hH92; rfl).trans cF
  have cN := (show H92.2.2.1 71 0 = H74.2.2.1 71 0 from by subst hH92; rfl).trans cN
  have cM : ∀ z, z ≠ 128 * n + H.2.2.1 83 0 n → H92.2.2.1 85 0 z = H.2.2.1 85 0 z := fun z hz => (show H92.2.2.1 85 0 z = H74.2.2.1 85 0 z from by subst hH92; rfl).trans (cM z hz)
  have g98 : H92.2.2.1 90 0 (((128 : Int) * n) + (H.2.2.1 83 0 (n))) = H74.2.2.1 74 0 (n) := by subst hH92; exact if_pos rfl
  have g99 : H92.1 11 12 0 = H74.1 11 12 0 := by subst hH92; rfl
  have g100 : H92.1 11 19 0 = H74.1 11 19 0 := by subst hH92; rfl
  have g101 : H92.2.2.1 89 0 (((128 : Int) * n) + (H.2.2.1 83 0 (n))) = H74.2.2.1 89 0 (((128 : Int) * n) + (H.2.2.1 83 0 (n))) := by subst hH92; rfl
  have g102 : H92.2.2.1 88 0 (((128 : Int) * n) + (H.2.2.1 83 0 (n))) = H74.2.2.1 88 0 (((128 : Int) * n) + (H.2.2.1 83 0 (n))) := by subst hH92; rfl
  have g103 : H92.2.2.1 87 0 (((128 : Int) * n) + (H.2.2.1 83 0 (n))) = H74.2.2.1 87 0 (((128 : Int) * n) + (H.2.2.1 83 0 (n))) := by subst hH92; rfl
  have g104 : H92.2.2.1 86 0 (((128 : Int) * n) + (H.2.2.1 83 0 (n))) = H74.2.2.1 86 0 (((128 : Int) * n) + (H.2.2.1 83 0 (n))) := by subst hH92; rfl
  have g105 : H92.2.2.1 85 0 (((128 : Int) * n) + (H.2.2.1 83 0 (n))) = H74.2.2.1 85 0 (((128 : Int) * n) + (H.2.2.1 83 0 (n))) := by subst hH92; rfl
  have g106 : H92.2.2.1 82 0 (n) = H74.2.2.1 82 0 (n) := by subst hH92; rfl
  have g107 : H92.2.2.1 83 0 (n) = H74.2.2.1 83 0 (n) := by subst hH92; rfl
  have g108 : H92.2.2.1 73 0 (n) = H74.2.2.1 73 0 (n) := by subst hH92; rfl
  have g109 : H92.2.2.1 74 0 (n) = H74.2.2.1 74 0 (n) := by subst hH92; rfl
  clear hH92
  have f110 : -1 ≤ H92.2.2.1 75 0 (n) ∧ H92.2.2.1 75 0 (n) ≤ 299 := hT93.1 75 (n)
  refine J.run 8 rfl ⟨(show 0 ≤ n ∧ n < 16 from ⟨by omega, by omega⟩), (show 0 ≤ ((128 : Int) * n) + (H.2.2.1 83 0 (n)) ∧ ((128 : Int) * n) + (H.2.2.1 83 0 (n)) < 2048 from ⟨by omega, by omega⟩)⟩ ?_
  try dsimp only
  refine J.gn fun H111 hH111 => ?_
  have hT112 : gT H111 := by rw [hH111]; exact gT.upd hT93 (show -1 ≤ H92.2.2.1 75 0 (n) ∧ H92.2.2.1 75 0 (n) ≤ 299 from ⟨by omega, by omega⟩) (fun z => absurd z (by decide))
  have hE113 : jEx [] [82, 83, 84, 80, 114, 71, 113, 85, 86, 87, 88, 89, 90, 91, 92, 93, 94] H111 H := by rw [hH111]; exact jEx.row hE94 (by decide)
  have k114 : gK H111 := by rw [hH111]; exact k95
  have k115 : gN H111 := by rw [hH111]; exact k96
  have k116 : gU H111 u := by rw [hH111]; exact k97
  have cR := (show H111.2.2.1 83 0 = H92.2.2.1 83 0 from by subst hH111; rfl).trans cR
  have cO := (show H111.2.2.1 73 0 = H92.2.2.1 73 0 from by subst hH111; rfl).trans cO
  have cS := (show H111.2.2.1 74 0 = H92.2.2.1 74 0 from by subst hH111; rfl).trans cS
  have cW := (show H111.2.2.1 87 0 = H92.2.2.1 87 0 from by subst hH111; rfl).trans cW
  have cT := (show H111.2.2.1 90 0 = H92.2.2.1 90 0 from by subst hH111; rfl).trans cT
  have cD := (show H111.2.2.1 80 0 = H92.2.2.1 80 0 from by subst hH111; rfl).trans cD
  have cF := (show H111.2.2.1 79 0 = H92.2.2.1 79 0 from by subst hH111; rfl).trans cF
  have cN := (show H111.2.2.1 71 0 = H92.2.2.1 71 0 from by subst hH111; rfl).trans cN
  have cM : ∀ z, z ≠ 128 * n + H.2.2.1 83 0 n → H111.2.2.1 85 0 z = H.2.2.1 85 0 z := fun z hz => (show H111.2.2.1 85 0 z = H92.2.2.1 85 0 z from by subst hH111; rfl).trans (cM z hz)
  have g117 : H111.2.2.1 91 0 (((128 : Int) * n) + (H.2.2.1 83 0 (n))) = H92.2.2.1 75 0 (n) := by subst hH111; exact if_pos rfl
  have g118 : H111.1 11 12 0 = H92.1 11 12 0 := by subst hH111; rfl
  have g119 : H111.1 11 19 0 = H92.1 11 19 0 := by subst hH111; rfl
  have g120 : H111.2.2.1 90 0 (((128 : Int) * n) + (H.2.2.1 83 0 (n))) = H92.2.2.1 90 0 (((128 : Int) * n) + (H.2.2.1 83 0 (n))) := by subst hH111; rfl
  have g121 : H111.2.2.1 89 0 (((128 : Int) * n) + (H.2.2.1 83 0 (n))) = H92.2.2.1 89 0 (((128 : Int) * n) + (H.2.2.1 83 0 (n))) := by subst hH111; rfl
  have g122 : H111.2.2.1 88 0 (((128 : Int) * n) + (H.2.2.1 83 0 (n))) = H92.2.2.1 88 0 (((128 : Int) * n) + (H.2.2.1 83 0 (n))) := by subst hH111; rfl
  have g123 : H111.2.2.1 87 0 (((128 : Int) * n) + (H.2.2.1 83 0 (n))) = H92.2.2.1 87 0 (((128 : Int) * n) + (H.2.2.1 83 0 (n))) := by subst hH111; rfl
  have g124 : H111.2.2.1 86 0 (((128 : Int) * n) + (H.2.2.1 83 0 (n))) = H92.2.2.1 86 0 (((128 : Int) * n) + (H.2.2.1 83 0 (n))) := by subst hH111; rfl
  have g125 : H111.2.2.1 85 0 (((128 : Int) * n) + (H.2.2.1 83 0 (n))) = H92.2.2.1 85 0 (((128 : Int) * n) + (H.2.2.1 83 0 (n))) := by subst hH111; rfl
  have g126 : H111.2.2.1 82 0 (n) = H92.2.2.1 82 0 (n) := by subst hH111; rfl
  have g127 : H111.2.2.1 83 0 (n) = H92.2.2.1 83 0 (n) := by subst hH111; rfl
  have g128 : H111.2.2.1 73 0 (n) = H92.2.2.1 73 0 (n) := by subst hH111; rfl
  have g129 : H111.2.2.1 74 0 (n) = H92.2.2.1 74 0 (n) := by subst hH111; rfl
  have g130 : H111.2.2.1 75 0 (n) = H92.2.2.1 75 0 (n) := by subst hH111; rfl
  clear hH111
  have f131 : -1 ≤ H111.2.2.1 76 0 (n) ∧ H111.2.2.1 76 0 (n) ≤ 31 := hT112.1 76 (n)
  refine J.run 8 rfl ⟨(show 0 ≤ n ∧ n < 16 from ⟨by omega, by omega⟩), (show 0 ≤ ((128 : Int) * n) + (H.2.2.1 83 0 (n)) ∧ ((128 : Int) * n) + (H.2.2.1 83 0 (n)) < 2048 from ⟨by omega, by omega⟩)⟩ ?_
  try dsimp only
  refine J.gn fun H132 hH132 => ?_
  have hT133 : gT H132 := by rw [hH132]; exact gT.upd hT112 (show -1 ≤ H111.2.2.1 76 0 (n) ∧ H111.2.2.1 76 0 (n) ≤ 31 from ⟨by omega, by omega⟩) (fun z => absurd z (by decide))
  have hE134 : jEx [] [82, 83, 84, 80, 114, 71, 113, 85, 86, 87, 88, 89, 90, 91, 92, 93, 94] H132 H := by rw [hH132]; exact jEx.row hE113 (by decide)
  have k135 : gK H132 := by rw [hH132]; exact k114
  have k136 : gN H132 := by rw [hH132]; exact k115
  have k137 : gU H132 u := by rw [hH132]; exact k116
  have cR := (show H132.2.2.1 83 0 = H111.2.2.1 83 0 from by subst hH132; rfl).trans cR
  have cO := (show H132.2.2.1 73 0 = H111.2.2.1 73 0 from by subst hH132; rfl).trans cO
  have cS := (show H132.2.2.1 74 0 = H111.2.2.1 74 0 from by subst hH132; rfl).trans cS
  have cW := (show H132.2.2.1 87 0 = H111.2.2.1 87 0 from by subst hH132; rfl).trans cW
  have cT := (show H132.2.2.1 90 0 = H111.2.2.1 90 0 from by subst hH132; rfl).trans cT
  have cD := (show H132.2.2.1 80 0 = H111.2.2.1 80 0 from by subst hH132; rfl).trans cD
  have cF := (show H132.2.2.1 79 0 = H111.2.2.1 79 0 from by subst hH132; rfl).trans cF
  have cN := (show H132.2.2.1 71 0 = H111.2.2.1 71 0 from by subst hH132; rfl).trans cN
  have cM : ∀ z, z ≠ 128 * n + H.2.2.1 83 0 n → H132.2.2.1 85 0 z = H.2.2.1 85 0 z := fun z hz => (show H132.2.2.1 85 0 z = H111.2.2.1 85 0 z from by subst hH132; rfl).trans (cM z hz)
  have g138 : H132.2.2.1 92 0 (((128 : Int) * n) + (H.2.2.1 83 0 (n))) = H111.2.2.1 76 0 (n) := by subst hH132; exact if_pos rfl
  have g139 : H132.1 11 12 0 = H111.1 11 12 0 := by subst hH132; rfl
  have g140 : H132.1 11 19 0 = H111.1 11 19 0 := by subst hH132; rfl
  have g141 : H132.2.2.1 91 0 (((128 : Int) * n) + (H.2.2.1 83 0 (n))) = H111.2.2.1 91 0 (((128 : Int) * n) + (H.2.2.1 83 0 (n))) := by subst hH132; rfl
  have g142 : H132.2.2.1 90 0 (((128 : Int) * n) + (H.2.2.1 83 0 (n))) = H111.2.2.1 90 0 (((128 : Int) * n) + (H.2.2.1 83 0 (n))) := by subst hH132; rfl
  have g143 : H132.2.2.1 89 0 (((128 : Int) * n) + (H.2.2.1 83 0 (n))) = H111.2.2.1 89 0 (((128 : Int) * n) + (H.2.2.1 83 0 (n))) := by subst hH132; rfl
  have g144 : H132.2.2.1 88 0 (((128 : Int) * n) + (H.2.2.1 83 0 (n))) = H111.2.2.1 88 0 (((128 : Int) * n) + (H.2.2.1 83 0 (n))) := by subst hH132; rfl
  have g145 : H132.2.2.1 87 0 (((128 : Int) * n) + (H.2.2.1 83 0 (n))) = H111.2.2.1 87 0 (((128 : Int) * n) + (H.2.2.1 83 0 (n))) := by subst hH132; rfl
  have g146 : H132.2.2.1 86 0 (((128 : Int) * n) + (H.2.2.1 83 0 (n))) = H111.2.2.1 86 0 (((128 : Int) * n) + (H.2.2.1 83 0 (n))) := by subst hH132; rfl
  have g147 : H132.2.2.1 85 0 (((128 : Int) * n) + (H.2.2.1 83 0 (n))) = H111.2.2.1 85 0 (((128 : Int) * n) + (H.2.2.1 83 0 (n))) := by subst hH132; rfl
  have g148 : H132.2.2.1 82 0 (n) = H111.2.2.1 82 0 (n) := by subst hH132; rfl
  have g149 : H132.2.2.1 83 0 (n) = H111.2.2.1 83 0 (n) := by subst hH132; rfl
  have g150 : H132.2.2.1 73 0 (n) = H111.2.2.1 73 0 (n) := by subst hH132; rfl
  have g151 : H132.2.2.1 74 0 (n) = H111.2.2.1 74 0 (n) := by subst hH132; rfl
  have g152 : H132.2.2.1 75 0 (n) = H111.2.2.1 75 0 (n) := by subst hH132; rfl
  have g153 : H132.2.2.1 76 0 (n) = H111.2.2.1 76 0 (n) := by subst hH132; rfl
  clear hH132
  have f154 : -1 ≤ H132.2.2.1 77 0 (n) ∧ H132.2.2.1 77 0 (n) ≤ 299 := hT133.1 77 (n)
  have f155 : 1 ≤ H132.1 11 12 0 ∧ H132.1 11 12 0 ≤ 300 := hT133.2.1 12
  have f154b : H132.2.2.1 77 0 (n) < H132.1 11 12 0 := hT133.2.2.1 77 (n) rfl
  refine J.run 8 rfl ⟨(show 0 ≤ n ∧ n < 16 from ⟨by omega, by omega⟩), (show 0 ≤ ((128 : Int) * n) + (H.2.2.1 83 0 (n)) ∧ ((128 : Int) * n) + (H.2.2.1 83 0 (n)) < 2048 from ⟨by omega, by omega⟩)⟩ ?_
  try dsimp only
  refine J.gn fun H156 hH156 => ?_
  have hT157 : gT H156 := by rw [hH156]; exact gT.upd hT133 (show -1 ≤ H132.2.2.1 77 0 (n) ∧ H132.2.2.1 77 0 (n) ≤ 299 from ⟨by omega, by omega⟩) (fun _ => show H132.2.2.1 77 0 (n) < H132.1 11 12 0 by omega)
  have hE158 : jEx [] [82, 83, 84, 80, 114, 71, 113, 85, 86, 87, 88, 89, 90, 91, 92, 93, 94] H156 H := by rw [hH156]; exact jEx.row hE134 (by decide)
  have k159 : gK H156 := by rw [hH156]; exact k135
  have k160 : gN H156 := by rw [hH156]; exact k136
  have k161 : gU H156 u := by rw [hH156]; exact k137
  have cR := (show H156.2.2.1 83 0 = H132.2.2.1 83 0 from by subst hH156; rfl).trans cR
  have cO := (show H156.2.2.1 73 0 = H132.2.2.1 73 0 from by subst hH156; rfl).trans cO
  have cS := (show H156.2.2.1 74 0 = H132.2.2.1 74 0 from by subst hH156; rfl).trans cS
  have cW := (show H156.2.2.1 87 0 = H132.2.2.1 87 0 from by subst hH156; rfl).trans cW
  have cT := (show H156.2.2.1 90 0 = H132.2.2.1 90 0 from by subst hH156; rfl).trans cT
  have cD := (show H156.2.2.1 80 0 = H132.2.2.1 80 0 from by subst hH156; rfl).trans cD
  have cF := (show H156.2.2.1 79 0 = H132.2.2.1 79 0 from by subst hH156; rfl).trans cF
  have cN := (show H156.2.2.1 71 0 = H132.2.2.1 71 0 from by subst hH156; rfl).trans cN
  have cM : ∀ z, z ≠ 128 * n + H.2.2.1 83 0 n → H156.2.2.1 85 0 z = H.2.2.1 85 0 z := fun z hz => (show H156.2.2.1 85 0 z = H132.2.2.1 85 0 z from by subst hH156; rfl).trans (cM z hz)
  have g162 : H156.2.2.1 93 0 (((128 : Int) * n) + (H.2.2.1 83 0 (n))) = H132.2.2.1 77 0 (n) := by subst hH156; exact if_pos rfl
  have g163 : H156.1 11 12 0 = H132.1 11 12 0 := by subst hH156; rfl
  have g164 : H156.1 11 19 0 = H132.1 11 19 0 := by subst hH156; rfl
  have g165 : H156.2.2.1 92 0 (((128 : Int) * n) + (H.2.2.1 83 0 (n))) = H132.2.2.1 92 0 (((128 : Int) * n) + (H.2.2.1 83 0 (n))) := by subst hH156; rfl
  have g166 : H156.2.2.1 91 0 (((128 : Int) * n) + (H.2.2.1 83 0 (n))) = H132.2.2.1 91 0 (((128 : Int) * n) + (H.2.2.1 83 0 (n))) := by subst hH156; rfl
  have g167 : H156.2.2.1 90 0 (((128 : Int) * n) + (H.2.2.1 83 0 (n))) = H132.2.2.1 90 0 (((128 : Int) * n) + (H.2.2.1 83 0 (n))) := by subst hH156; rfl
  have g168 : H156.2.2.1 89 0 (((128 : Int) * n) + (H.2.2.1 83 0 (n))) = H132.2.2.1 89 0 (((128 : Int) * n) + (H.2.2.1 83 0 (n))) := by subst hH156; rfl
  have g169 : H156.2.2.1 88 0 (((128 : Int) * n) + (H.2.2.1 83 0 (n))) = H132.2.2.1 88 0 (((128 : Int) * n) + (H.2.2.1 83 0 (n))) := by subst hH156; rfl
  have g170 : H156.2.2.1 87 0 (((128 : Int) * n) + (H.2.2.1 83 0 (n))) = H132.2.2.1 87 0 (((128 : Int) * n) + (H.2.2.1 83 0 (n))) := by subst hH156; rfl
  have g171 : H156.2.2.1 86 0 (((128 : Int) * n) + (H.2.2.1 83 0 (n))) = H132.2.2.1 86 0 (((128 : Int) * n) + (H.2.2.1 83 0 (n))) := by subst hH156; rfl
  have g172 : H156.2.2.1 85 0 (((128 : Int) * n) + (H.2.2.1 83 0 (n))) = H132.2.2.1 85 0 (((128 : Int) * n) + (H.2.2.1 83 0 (n))) := by subst hH156; rfl
  have g173 : H156.2.2.1 82 0 (n) = H132.2.2.1 82 0 (n) := by subst hH156; rfl
  have g174 : H156.2.2.1 83 0 (n) = H132.2.2.1 83 0 (n) := by subst hH156; rfl
  have g175 : H156.2.2.1 73 0 (n) = H132.2.2.1 73 0 (n) := by subst hH156; rfl
  have g176 : H156.2.2.1 74 0 (n) = H132.2.2.1 74 0 (n) := by subst hH156; rfl
  have g177 : H156.2.2.1 75 0 (n) = H132.2.2.1 75 0 (n) := by subst hH156; rfl
  have g178 : H156.2.2.1 76 0 (n) = H132.2.2.1 76 0 (n) := by subst hH156; rfl
  have g179 : H156.2.2.1 77 0 (n) = H132.2.2.1 77 0 (n) := by subst hH156; rfl
  clear hH156
  have f180 : -1 ≤ H156.2.2.1 78 0 (n) ∧ H156.2.2.1 78 0 (n) ≤ 31 := hT157.1 78 (n)
  refine J.run 8 rfl ⟨(show 0 ≤ n ∧ n < 16 from ⟨by omega, by omega⟩), (show 0 ≤ ((128 : Int) * n) + (H.2.2.1 83 0 (n)) ∧ ((128 : Int) * n) + (H.2.2.1 83 0 (n)) < 2048 from ⟨by omega, by omega⟩)⟩ ?_
  try dsimp only
  refine J.gn fun H181 hH181 => ?_
  have hT182 : gT H181 := by rw [hH181]; exact gT.upd hT157 (show -1 ≤ H156.2.2.1 78 0 (n) ∧ H156.2.2.1 78 0 (n) ≤ 31 from ⟨by omega, by omega⟩) (fun z => absurd z (by decide))
  have hE183 : jEx [] [82, 83, 84, 80, 114, 71, 113, 85, 86, 87, 88, 89, 90, 91, 92, 93, 94] H181 H := by rw [hH181]; exact jEx.row hE158 (by decide)
  have k184 : gK H181 := by rw [hH181]; exact k159
  have k185 : gN H181 := by rw [hH181]; exact k160
  have k186 : gU H181 u := by rw [hH181]; exact k161
  have cR := (show H181.2.2.1 83 0 = H156.2.2.1 83 0 from by subst hH181; rfl).trans cR
  have cO := (show H181.2.2.1 73 0 = H156.2.2.1 73 0 from by subst hH181; rfl).trans cO
  have cS := (show H181.2.2.1 74 0 = H156.2.2.1 74 0 from by subst hH181; rfl).trans cS
  have cW := (show H181.2.2.1 87 0 = H156.2.2.1 87 0 from by subst hH181; rfl).trans cW
  have cT := (show H181.2.2.1 90 0 = H156.2.2.1 90 0 from by subst hH181; rfl).trans cT
  have cD := (show H181.2.2.1 80 0 = H156.2.2.1 80 0 from by subst hH181; rfl).trans cD
  have cF := (show H181.2.2.1 79 0 = H156.2.2.1 79 0 from by subst hH181; rfl).trans cF
  have cN := (show H181.2.2.1 71 0 = H156.2.2.1 71 0 from by subst hH181; rfl).trans cN
  have cM : ∀ z, z ≠ 128 * n + H.2.2.1 83 0 n → H181.2.2.1 85 0 z = H.2.2.1 85 0 z := fun z hz => (show H181.2.2.1 85 0 z = H156.2.2.1 85 0 z from by subst hH181; rfl).trans (cM z hz)
  have g187 : H181.2.2.1 94 0 (((128 : Int) * n) + (H.2.2.1 83 0 (n))) = H156.2.2.1 78 0 (n) := by subst hH181; exact if_pos rfl
  have g188 : H181.1 11 12 0 = H156.1 11 12 0 := by subst hH181; rfl
  have g189 : H181.1 11 19 0 = H156.1 11 19 0 := by subst hH181; rfl
  have g190 : H181.2.2.1 93 0 (((128 : Int) * n) + (H.2.2.1 83 0 (n))) = H156.2.2.1 93 0 (((128 : Int) * n) + (H.2.2.1 83 0 (n))) := by subst hH181; rfl
  have g191 : H181.2.2.1 92 0 (((128 : Int) * n) + (H.2.2.1 83 0 (n))) = H156.2.2.1 92 0 (((128 : Int) * n) + (H.2.2.1 83 0 (n))) := by subst hH181; rfl
  have g192 : H181.2.2.1 91 0 (((128 : Int) * n) + (H.2.2.1 83 0 (n))) = H156.2.2.1 91 0 (((128 : Int) * n) + (H.2.2.1 83 0 (n))) := by subst hH181; rfl
  have g193 : H181.2.2.1 90 0 (((128 : Int) * n) + (H.2.2.1 83 0 (n))) = H156.2.2.1 90 0 (((128 : Int) * n) + (H.2.2.1 83 0 (n))) := by subst hH181; rfl
  have g194 : H181.2.2.1 89 0 (((128 : Int) * n) + (H.2.2.1 83 0 (n))) = H156.2.2.1 89 0 (((128 : Int) * n) + (H.2.2.1 83 0 (n))) := by subst hH181; rfl
  have g195 : H181.2.2.1 88 0 (((128 : Int) * n) + (H.2.2.1 83 0 (n))) = H156.2.2.1 88 0 (((128 : Int) * n) + (H.2.2.1 83 0 (n))) := by subst hH181; rfl
  have g196 : H181.2.2.1 87 0 (((128 : Int) * n) + (H.2.2.1 83 0 (n))) = H156.2.2.1 87 0 (((128 : Int) * n) + (H.2.2.1 83 0 (n))) := by subst hH181; rfl
  have g197 : H181.2.2.1 86 0 (((128 : Int) * n) + (H.2.2.1 83 0 (n))) = H156.2.2.1 86 0 (((128 : Int) * n) + (H.2.2.1 83 0 (n))) := by subst hH181; rfl
  have g198 : H181.2.2.1 85 0 (((128 : Int) * n) + (H.2.2.1 83 0 (n))) = H156.2.2.1 85 0 (((128 : Int) * n) + (H.2.2.1 83 0 (n))) := by subst hH181; rfl
  have g199 : H181.2.2.1 82 0 (n) = H156.2.2.1 82 0 (n) := by subst hH181; rfl
  have g200 : H181.2.2.1 83 0 (n) = H156.2.2.1 83 0 (n) := by subst hH181; rfl
  have g201 : H181.2.2.1 73 0 (n) = H156.2.2.1 73 0 (n) := by subst hH181; rfl
  have g202 : H181.2.2.1 74 0 (n) = H156.2.2.1 74 0 (n) := by subst hH181; rfl
  have g203 : H181.2.2.1 75 0 (n) = H156.2.2.1 75 0 (n) := by subst hH181; rfl
  have g204 : H181.2.2.1 76 0 (n) = H156.2.2.1 76 0 (n) := by subst hH181; rfl
  have g205 : H181.2.2.1 77 0 (n) = H156.2.2.1 77 0 (n) := by subst hH181; rfl
  have g206 : H181.2.2.1 78 0 (n) = H156.2.2.1 78 0 (n) := by subst hH181; rfl
  clear hH181
  refine J.run0 2 rfl ?_
  try dsimp only
  refine J.icmp rfl rfl rfl ⟨(show -2147483648 ≤ H.2.2.1 82 0 (n) ∧ H.2.2.1 82 0 (n) ≤ 2147483647 from ⟨by omega, by omega⟩), (show -2147483648 ≤ (12 : Int) ∧ (12 : Int) ≤ 2147483647 from ⟨by omega, by omega⟩)⟩ (fun hc => ?_) (fun hc => ?_)
  · have c207 : H.2.2.1 82 0 (n) < (12 : Int) := hc
    clear hc
    refine J.run0 2 rfl ?_
    try dsimp only
    refine J.icmp rfl rfl rfl ⟨(show -2147483648 ≤ H.2.2.1 82 0 (n) ∧ H.2.2.1 82 0 (n) ≤ 2147483647 from ⟨by omega, by omega⟩), (show -2147483648 ≤ (12 : Int) ∧ (12 : Int) ≤ 2147483647 from ⟨by omega, by omega⟩)⟩ (fun hc => ?_) (fun hc => ?_)
    · have c208 : H.2.2.1 82 0 (n) ≤ (12 : Int) := hc
      clear hc
      refine J.run0 5 rfl ?_
      try dsimp only
      refine J.icmp rfl rfl rfl ⟨(show -2147483648 ≤ H.2.2.1 82 0 (n) ∧ H.2.2.1 82 0 (n) ≤ 2147483647 from ⟨by omega, by omega⟩), (show -2147483648 ≤ (12 : Int) ∧ (12 : Int) ≤ 2147483647 from ⟨by omega, by omega⟩)⟩ (fun hc => ?_) (fun hc => ?_)
      · have c209 : (12 : Int) ≤ H.2.2.1 82 0 (n) := hc
        clear hc
        refine J.run 2 rfl (show 0 ≤ n ∧ n < 16 from ⟨by omega, by omega⟩) ?_
        try dsimp only
        refine J.gn fun H210 hH210 => ?_
        have hT211 : gT H210 := by rw [hH210]; exact gT.upd hT182 (show 0 ≤ (0 : Int) ∧ (0 : Int) ≤ 11 from ⟨by omega, by omega⟩) (fun z => absurd z (by decide))
        have hE212 : jEx [] [82, 83, 84, 80, 114, 71, 113, 85, 86, 87, 88, 89, 90, 91, 92, 93, 94] H210 H := by rw [hH210]; exact jEx.row hE183 (by decide)
        have k213 : gK H210 := by rw [hH210]; exact k184
        have k214 : gN H210 := by rw [hH210]; exact k185
        have k215 : gU H210 u := by rw [hH210]; exact k186
        have cR := (show H210.2.2.1 83 0 = H181.2.2.1 83 0 from by subst hH210; rfl).trans cR
        have cO := (show H210.2.2.1 73 0 = H181.2.2.1 73 0 from by subst hH210; rfl).trans cO
        have cS := (show H210.2.2.1 74 0 = H181.2.2.1 74 0 from by subst hH210; rfl).trans cS
        have cW := (show H210.2.2.1 87 0 = H181.2.2.1 87 0 from by subst hH210; rfl).trans cW
        have cT := (show H210.2.2.1 90 0 = H181.2.2.1 90 0 from by subst hH210; rfl).trans cT
        have cD := (show H210.2.2.1 80 0 = H181.2.2.1 80 0 from by subst hH210; rfl).trans cD
        have cF := (show H210.2.2.1 79 0 = H181.2.2.1 79 0 from by subst hH210; rfl).trans cF
        have cN := (show H210.2.2.1 71 0 = H181.2.2.1 71 0 from by subst hH210; rfl).trans cN
        have cM : ∀ z, z ≠ 128 * n + H.2.2.1 83 0 n → H210.2.2.1 85 0 z = H.2.2.1 85 0 z := fun z hz => (show H210.2.2.1 85 0 z = H181.2.2.1 85 0 z from by subst hH210; rfl).trans (cM z hz)
        have g216 : H210.2.2.1 84 0 (n) = (0 : Int) := by subst hH210; exact if_pos rfl
        have g217 : H210.1 11 12 0 = H181.1 11 12 0 := by subst hH210; rfl
        have g218 : H210.1 11 19 0 = H181.1 11 19 0 := by subst hH210; rfl
        have g219 : H210.2.2.1 94 0 (((128 : Int) * n) + (H.2.2.1 83 0 (n))) = H181.2.2.1 94 0 (((128 : Int) * n) + (H.2.2.1 83 0 (n))) := by subst hH210; rfl
        have g220 : H210.2.2.1 93 0 (((128 : Int) * n) + (H.2.2.1 83 0 (n))) = H181.2.2.1 93 0 (((128 : Int) * n) + (H.2.2.1 83 0 (n))) := by subst hH210; rfl
        have g221 : H210.2.2.1 92 0 (((128 : Int) * n) + (H.2.2.1 83 0 (n))) = H181.2.2.1 92 0 (((128 : Int) * n) + (H.2.2.1 83 0 (n))) := by subst hH210; rfl
        have g222 : H210.2.2.1 91 0 (((128 : Int) * n) + (H.2.2.1 83 0 (n))) = H181.2.2.1 91 0 (((128 : Int) * n) + (H.2.2.1 83 0 (n))) := by subst hH210; rfl
        have g223 : H210.2.2.1 90 0 (((128 : Int) * n) + (H.2.2.1 83 0 (n))) = H181.2.2.1 90 0 (((128 : Int) * n) + (H.2.2.1 83 0 (n))) := by subst hH210; rfl
        have g224 : H210.2.2.1 89 0 (((128 : Int) * n) + (H.2.2.1 83 0 (n))) = H181.2.2.1 89 0 (((128 : Int) * n) + (H.2.2.1 83 0 (n))) := by subst hH210; rfl
        have g225 : H210.2.2.1 88 0 (((128 : Int) * n) + (H.2.2.1 83 0 (n))) = H181.2.2.1 88 0 (((128 : Int) * n) + (H.2.2.1 83 0 (n))) := by subst hH210; rfl
        have g226 : H210.2.2.1 87 0 (((128 : Int) * n) + (H.2.2.1 83 0 (n))) = H181.2.2.1 87 0 (((128 : Int) * n) + (H.2.2.1 83 0 (n))) := by subst hH210; rfl
        have g227 : H210.2.2.1 86 0 (((128 : Int) * n) + (H.2.2.1 83 0 (n))) = H181.2.2.1 86 0 (((128 : Int) * n) + (H.2.2.1 83 0 (n))) := by subst hH210; rfl
        have g228 : H210.2.2.1 85 0 (((128 : Int) * n) + (H.2.2.1 83 0 (n))) = H181.2.2.1 85 0 (((128 : Int) * n) + (H.2.2.1 83 0 (n))) := by subst hH210; rfl
        have g229 : H210.2.2.1 82 0 (n) = H181.2.2.1 82 0 (n) := by subst hH210; rfl
        have g230 : H210.2.2.1 83 0 (n) = H181.2.2.1 83 0 (n) := by subst hH210; rfl
        have g231 : H210.2.2.1 73 0 (n) = H181.2.2.1 73 0 (n) := by subst hH210; rfl
        have g232 : H210.2.2.1 74 0 (n) = H181.2.2.1 74 0 (n) := by subst hH210; rfl
        have g233 : H210.2.2.1 75 0 (n) = H181.2.2.1 75 0 (n) := by subst hH210; rfl
        have g234 : H210.2.2.1 76 0 (n) = H181.2.2.1 76 0 (n) := by subst hH210; rfl
        have g235 : H210.2.2.1 77 0 (n) = H181.2.2.1 77 0 (n) := by subst hH210; rfl
        have g236 : H210.2.2.1 78 0 (n) = H181.2.2.1 78 0 (n) := by subst hH210; rfl
        clear hH210
        refine J.run 5 rfl (show ((1 : Int) = 0 ∨ (1 : Int) = 1) ∧ 0 ≤ n ∧ n < 16 from ⟨by omega, by omega, by omega⟩) ?_
        try dsimp only
        refine J.gn fun H237 hH237 => ?_
        have hT238 : gT H237 := by rw [hH237]; exact gT.upd hT211 (show 0 ≤ (1 : Int) ∧ (1 : Int) ≤ 1 from ⟨by omega, by omega⟩) (fun z => absurd z (by decide))
        have hE239 : jEx [] [82, 83, 84, 80, 114, 71, 113, 85, 86, 87, 88, 89, 90, 91, 92, 93, 94] H237 H := by rw [hH237]; exact jEx.row hE212 (by decide)
        have k240 : gK H237 := by rw [hH237]; exact k213
        have k241 : gN H237 := by rw [hH237]; exact k214
        have k242 : gU H237 u := by rw [hH237]; exact gU.wd k215 (by omega)
        have cR := (show H237.2.2.1 83 0 = H210.2.2.1 83 0 from by subst hH237; rfl).trans cR
        have cO := (show H237.2.2.1 73 0 = H210.2.2.1 73 0 from by subst hH237; rfl).trans cO
        have cS := (show H237.2.2.1 74 0 = H210.2.2.1 74 0 from by subst hH237; rfl).trans cS
        have cW := (show H237.2.2.1 87 0 = H210.2.2.1 87 0 from by subst hH237; rfl).trans cW
        have cT := (show H237.2.2.1 90 0 = H210.2.2.1 90 0 from by subst hH237; rfl).trans cT
        have cD : H237.2.2.1 80 0 = jup (H.2.2.1 80 0) (n) ((1 : Int)) := (show H237.2.2.1 80 0 = jup (H210.2.2.1 80 0) (n) ((1 : Int)) from by subst hH237; rfl).trans (by rw [cD])
        have cF := (show H237.2.2.1 79 0 = H210.2.2.1 79 0 from by subst hH237; rfl).trans cF
        have cN := (show H237.2.2.1 71 0 = H210.2.2.1 71 0 from by subst hH237; rfl).trans cN
        have cM : ∀ z, z ≠ 128 * n + H.2.2.1 83 0 n → H237.2.2.1 85 0 z = H.2.2.1 85 0 z := fun z hz => (show H237.2.2.1 85 0 z = H210.2.2.1 85 0 z from by subst hH237; rfl).trans (cM z hz)
        have g243 : H237.2.2.1 80 0 (n) = (1 : Int) := by subst hH237; exact if_pos rfl
        have g244 : H237.1 11 12 0 = H210.1 11 12 0 := by subst hH237; rfl
        have g245 : H237.1 11 19 0 = H210.1 11 19 0 := by subst hH237; rfl
        have g246 : H237.2.2.1 84 0 (n) = H210.2.2.1 84 0 (n) := by subst hH237; rfl
        have g247 : H237.2.2.1 94 0 (((128 : Int) * n) + (H.2.2.1 83 0 (n))) = H210.2.2.1 94 0 (((128 : Int) * n) + (H.2.2.1 83 0 (n))) := by subst hH237; rfl
        have g248 : H237.2.2.1 93 0 (((128 : Int) * n) + (H.2.2.1 83 0 (n))) = H210.2.2.1 93 0 (((128 : Int) * n) + (H.2.2.1 83 0 (n))) := by subst hH237; rfl
        have g249 : H237.2.2.1 92 0 (((128 : Int) * n) + (H.2.2.1 83 0 (n))) = H210.2.2.1 92 0 (((128 : Int) * n) + (H.2.2.1 83 0 (n))) := by subst hH237; rfl
        have g250 : H237.2.2.1 91 0 (((128 : Int) * n) + (H.2.2.1 83 0 (n))) = H210.2.2.1 91 0 (((128 : Int) * n) + (H.2.2.1 83 0 (n))) := by subst hH237; rfl
        have g251 : H237.2.2.1 90 0 (((128 : Int) * n) + (H.2.2.1 83 0 (n))) = H210.2.2.1 90 0 (((128 : Int) * n) + (H.2.2.1 83 0 (n))) := by subst hH237; rfl
        have g252 : H237.2.2.1 89 0 (((128 : Int) * n) + (H.2.2.1 83 0 (n))) = H210.2.2.1 89 0 (((128 : Int) * n) + (H.2.2.1 83 0 (n))) := by subst hH237; rfl
        have g253 : H237.2.2.1 88 0 (((128 : Int) * n) + (H.2.2.1 83 0 (n))) = H210.2.2.1 88 0 (((128 : Int) * n) + (H.2.2.1 83 0 (n))) := by subst hH237; rfl
        have g254 : H237.2.2.1 87 0 (((128 : Int) * n) + (H.2.2.1 83 0 (n))) = H210.2.2.1 87 0 (((128 : Int) * n) + (H.2.2.1 83 0 (n))) := by subst hH237; rfl
        have g255 : H237.2.2.1 86 0 (((128 : Int) * n) + (H.2.2.1 83 0 (n))) = H210.2.2.1 86 0 (((128 : Int) * n) + (H.2.2.1 83 0 (n))) := by subst hH237; rfl
        have g256 : H237.2.2.1 85 0 (((128 : Int) * n) + (H.2.2.1 83 0 (n))) = H210.2.2.1 85 0 (((128 : Int) * n) + (H.2.2.1 83 0 (n))) := by subst hH237; rfl
        have g257 : H237.2.2.1 82 0 (n) = H210.2.2.1 82 0 (n) := by subst hH237; rfl
        have g258 : H237.2.2.1 83 0 (n) = H210.2.2.1 83 0 (n) := by subst hH237; rfl
        have g259 : H237.2.2.1 73 0 (n) = H210.2.2.1 73 0 (n) := by subst hH237; rfl
        have g260 : H237.2.2.1 74 0 (n) = H210.2.2.1 74 0 (n) := by subst hH237; rfl
        have g261 : H237.2.2.1 75 0 (n) = H210.2.2.1 75 0 (n) := by subst hH237; rfl
        have g262 : H237.2.2.1 76 0 (n) = H210.2.2.1 76 0 (n) := by subst hH237; rfl
        have g263 : H237.2.2.1 77 0 (n) = H210.2.2.1 77 0 (n) := by subst hH237; rfl
        have g264 : H237.2.2.1 78 0 (n) = H210.2.2.1 78 0 (n) := by subst hH237; rfl
        clear hH237
        refine J.run0 2 rfl ?_
        try dsimp only
        refine J.inv rfl rfl rfl rfl rfl rfl jDr rfl rfl rfl rfl rfl (g_forget (n := n) hT238  (show 0 ≤ (n) ∧ (n) < 16 from ⟨by omega, by omega⟩) k240 k241) ?_
        rintro v w H267 ⟨rfl, hT268, ehE269, p270, p271, p272, p273, rfl⟩
        have hE269 := jEx.trans ehE269 hE239 (by decide) (by decide)
        have p270' : gK H267 := p270
        have p271' : gN H267 := p271
        have p272' : H267.2.2.1 71 0 ((n)) = 0 := p272
        have p273' : H267.2.2.1 71 0 = jup (H237.2.2.1 71 0) ((n)) 0 := p273
        have pL_forget_0 := p270'
        have pL_forget_1 := p271'
        have pL_forget_2 := p272'
        have pL_forget_3 := p273'
        have k274 : gU H267 u := gU.ex k242 ehE269 (by decide)
        have g275 : H267.1 11 12 0 = H237.1 11 12 0 := ehE269.v 12 (by decide)
        have g276 : H267.1 11 19 0 = H237.1 11 19 0 := ehE269.v 19 (by decide)
        have cR := (ehE269.r 83 (by decide)).trans cR
        have cO := (ehE269.r 73 (by decide)).trans cO
        have cS := (ehE269.r 74 (by decide)).trans cS
        have cW := (ehE269.r 87 (by decide)).trans cW
        have cT := (ehE269.r 90 (by decide)).trans cT
        have cD := (ehE269.r 80 (by decide)).trans cD
        have cF := (ehE269.r 79 (by decide)).trans cF
        have cN : H267.2.2.1 71 0 = jup (H.2.2.1 71 0) n 0 := pL_forget_3.trans (by rw [cN])
        have cM : ∀ z, z ≠ 128 * n + H.2.2.1 83 0 n → H267.2.2.1 85 0 z = H.2.2.1 85 0 z := fun z hz => (congrFun (ehE269.r 85 (by decide)) z).trans (cM z hz)
        have g277 : H267.2.2.1 80 0 (n) = H237.2.2.1 80 0 (n) := congrFun (ehE269.r 80 (by decide)) _
        have g278 : H267.2.2.1 84 0 (n) = H237.2.2.1 84 0 (n) := congrFun (ehE269.r 84 (by decide)) _
        have g279 : H267.2.2.1 94 0 (((128 : Int) * n) + (H.2.2.1 83 0 (n))) = H237.2.2.1 94 0 (((128 : Int) * n) + (H.2.2.1 83 0 (n))) := congrFun (ehE269.r 94 (by decide)) _
        have g280 : H267.2.2.1 93 0 (((128 : Int) * n) + (H.2.2.1 83 0 (n))) = H237.2.2.1 93 0 (((128 : Int) * n) + (H.2.2.1 83 0 (n))) := congrFun (ehE269.r 93 (by decide)) _
        have g281 : H267.2.2.1 92 0 (((128 : Int) * n) + (H.2.2.1 83 0 (n))) = H237.2.2.1 92 0 (((128 : Int) * n) + (H.2.2.1 83 0 (n))) := congrFun (ehE269.r 92 (by decide)) _
        have g282 : H267.2.2.1 91 0 (((128 : Int) * n) + (H.2.2.1 83 0 (n))) = H237.2.2.1 91 0 (((128 : Int) * n) + (H.2.2.1 83 0 (n))) := congrFun (ehE269.r 91 (by decide)) _
        have g283 : H267.2.2.1 90 0 (((128 : Int) * n) + (H.2.2.1 83 0 (n))) = H237.2.2.1 90 0 (((128 : Int) * n) + (H.2.2.1 83 0 (n))) := congrFun (ehE269.r 90 (by decide)) _
        have g284 : H267.2.2.1 89 0 (((128 : Int) * n) + (H.2.2.1 83 0 (n))) = H237.2.2.1 89 0 (((128 : Int) * n) + (H.2.2.1 83 0 (n))) := congrFun (ehE269.r 89 (by decide)) _
        have g285 : H267.2.2.1 88 0 (((128 : Int) * n) + (H.2.2.1 83 0 (n))) = H237.2.2.1 88 0 (((128 : Int) * n) + (H.2.2.1 83 0 (n))) := congrFun (ehE269.r 88 (by decide)) _
        have g286 : H267.2.2.1 87 0 (((128 : Int) * n) + (H.2.2.1 83 0 (n))) = H237.2.2.1 87 0 (((128 : Int) * n) + (H.2.2.1 83 0 (n))) := congrFun (ehE269.r 87 (by decide)) _
        have g287 : H267.2.2.1 86 0 (((128 : Int) * n) + (H.2.2.1 83 0 (n))) = H237.2.2.1 86 0 (((128 : Int) * n) + (H.2.2.1 83 0 (n))) := congrFun (ehE269.r 86 (by decide)) _
        have g288 : H267.2.2.1 85 0 (((128 : Int) * n) + (H.2.2.1 83 0 (n))) = H237.2.2.1 85 0 (((128 : Int) * n) + (H.2.2.1 83 0 (n))) := congrFun (ehE269.r 85 (by decide)) _
        have g289 : H267.2.2.1 82 0 (n) = H237.2.2.1 82 0 (n) := congrFun (ehE269.r 82 (by decide)) _
        have g290 : H267.2.2.1 83 0 (n) = H237.2.2.1 83 0 (n) := congrFun (ehE269.r 83 (by decide)) _
        have g291 : H267.2.2.1 73 0 (n) = H237.2.2.1 73 0 (n) := congrFun (ehE269.r 73 (by decide)) _
        have g292 : H267.2.2.1 74 0 (n) = H237.2.2.1 74 0 (n) := congrFun (ehE269.r 74 (by decide)) _
        have g293 : H267.2.2.1 75 0 (n) = H237.2.2.1 75 0 (n) := congrFun (ehE269.r 75 (by decide)) _
        have g294 : H267.2.2.1 76 0 (n) = H237.2.2.1 76 0 (n) := congrFun (ehE269.r 76 (by decide)) _
        have g295 : H267.2.2.1 77 0 (n) = H237.2.2.1 77 0 (n) := congrFun (ehE269.r 77 (by decide)) _
        have g296 : H267.2.2.1 78 0 (n) = H237.2.2.1 78 0 (n) := congrFun (ehE269.r 78 (by decide)) _
        have eL_forget := ehE269
        try dsimp only [Option.toList, List.append, List.cons_append, List.nil_append]
        refine J.run0 1 rfl ?_
        try dsimp only
        exact J.retb rfl rfl rfl (show (0 : Int) = 0 ∨ (0 : Int) = 1 by omega) ⟨_, rfl, rfl, hT268, hE269, p270, p271, k274, (show gB H267 by first | exact gB.rec hp9 hp10 cF (Or.inl ⟨cD, cN⟩) | exact gB.rec hp9 hp10 cF (Or.inr ⟨cD, cN⟩) | (exfalso; omega)), _, rfl, (show (((0 : Int)) = 0 ∨ ((0 : Int)) = 1) ∧ (((0 : Int)) = 1 → gW H267 (H.1 11 19 0 + 1)) ∧ (((0 : Int)) = 0 → gW H267 (H.1 11 19 0)) ∧ (((0 : Int)) = 1 → H267.2.2.1 80 0 (n) = H.2.2.1 80 0 (n)) from (by first | exact ⟨Or.inr rfl, fun _ => gW.rec (by omega) hp8 hT hp0 hp7 (by omega) cR cO cS cW cT cM (Or.inr ⟨by omega, by omega⟩) (by omega) (by omega), fun z => absurd z (by omega), fun _ => congrFun cD n⟩ | exact ⟨Or.inl rfl, fun z => absurd z (by omega), fun _ => gW.rec (by omega) hp8 hT hp0 hp7 (by omega) cR cO cS cW cT cM (Or.inl (by omega)) (by omega) (by omega), fun z => absurd z (by omega)⟩ | exact ⟨Or.inl rfl, fun z => absurd z (by omega), fun _ => gW.not hp8 hT hp0 cR cO cS cW cT cM, fun z => absurd z (by omega)⟩ | (exfalso; omega)))⟩
      · have c297 : ¬ ((12 : Int) ≤ H.2.2.1 82 0 (n)) := hc
        clear hc
        refine J.run 3 rfl (show 0 ≤ n ∧ n < 16 from ⟨by omega, by omega⟩) ?_
        try dsimp only
        refine J.gn fun H298 hH298 => ?_
        have hT299 : gT H298 := by rw [hH298]; exact gT.upd hT182 (show 0 ≤ H.2.2.1 82 0 (n) ∧ H.2.2.1 82 0 (n) ≤ 11 from ⟨by omega, by omega⟩) (fun z => absurd z (by decide))
        have hE300 : jEx [] [82, 83, 84, 80, 114, 71, 113, 85, 86, 87, 88, 89, 90, 91, 92, 93, 94] H298 H := by rw [hH298]; exact jEx.row hE183 (by decide)
        have k301 : gK H298 := by rw [hH298]; exact k184
        have k302 : gN H298 := by rw [hH298]; exact k185
        have k303 : gU H298 u := by rw [hH298]; exact k186
        have cR := (show H298.2.2.1 83 0 = H181.2.2.1 83 0 from by subst hH298; rfl).trans cR
        have cO := (show H298.2.2.1 73 0 = H181.2.2.1 73 0 from by subst hH298; rfl).trans cO
        have cS := (show H298.2.2.1 74 0 = H181.2.2.1 74 0 from by subst hH298; rfl).trans cS
        have cW := (show H298.2.2.1 87 0 = H181.2.2.1 87 0 from by subst hH298; rfl).trans cW
        have cT := (show H298.2.2.1 90 0 = H181.2.2.1 90 0 from by subst hH298; rfl).trans cT
        have cD := (show H298.2.2.1 80 0 = H181.2.2.1 80 0 from by subst hH298; rfl).trans cD
        have cF := (show H298.2.2.1 79 0 = H181.2.2.1 79 0 from by subst hH298; rfl).trans cF
        have cN := (show H298.2.2.1 71 0 = H181.2.2.1 71 0 from by subst hH298; rfl).trans cN
        have cM : ∀ z, z ≠ 128 * n + H.2.2.1 83 0 n → H298.2.2.1 85 0 z = H.2.2.1 85 0 z := fun z hz => (show H298.2.2.1 85 0 z = H181.2.2.1 85 0 z from by subst hH298; rfl).trans (cM z hz)
        have g304 : H298.2.2.1 84 0 (n) = H.2.2.1 82 0 (n) := by subst hH298; exact if_pos rfl
        have g305 : H298.1 11 12 0 = H181.1 11 12 0 := by subst hH298; rfl
        have g306 : H298.1 11 19 0 = H181.1 11 19 0 := by subst hH298; rfl
        have g307 : H298.2.2.1 94 0 (((128 : Int) * n) + (H.2.2.1 83 0 (n))) = H181.2.2.1 94 0 (((128 : Int) * n) + (H.2.2.1 83 0 (n))) := by subst hH298; rfl
        have g308 : H298.2.2.1 93 0 (((128 : Int) * n) + (H.2.2.1 83 0 (n))) = H181.2.2.1 93 0 (((128 : Int) * n) + (H.2.2.1 83 0 (n))) := by subst hH298; rfl
        have g309 : H298.2.2.1 92 0 (((128 : Int) * n) + (H.2.2.1 83 0 (n))) = H181.2.2.1 92 0 (((128 : Int) * n) + (H.2.2.1 83 0 (n))) := by subst hH298; rfl
        have g310 : H298.2.2.1 91 0 (((128 : Int) * n) + (H.2.2.1 83 0 (n))) = H181.2.2.1 91 0 (((128 : Int) * n) + (H.2.2.1 83 0 (n))) := by subst hH298; rfl
        have g311 : H298.2.2.1 90 0 (((128 : Int) * n) + (H.2.2.1 83 0 (n))) = H181.2.2.1 90 0 (((128 : Int) * n) + (H.2.2.1 83 0 (n))) := by subst hH298; rfl
        have g312 : H298.2.2.1 89 0 (((128 : Int) * n) + (H.2.2.1 83 0 (n))) = H181.2.2.1 89 0 (((128 : Int) * n) + (H.2.2.1 83 0 (n))) := by subst hH298; rfl
        have g313 : H298.2.2.1 88 0 (((128 : Int) * n) + (H.2.2.1 83 0 (n))) = H181.2.2.1 88 0 (((128 : Int) * n) + (H.2.2.1 83 0 (n))) := by subst hH298; rfl
        have g314 : H298.2.2.1 87 0 (((128 : Int) * n) + (H.2.2.1 83 0 (n))) = H181.2.2.1 87 0 (((128 : Int) * n) + (H.2.2.1 83 0 (n))) := by subst hH298; rfl
        have g315 : H298.2.2.1 86 0 (((128 : Int) * n) + (H.2.2.1 83 0 (n))) = H181.2.2.1 86 0 (((128 : Int) * n) + (H.2.2.1 83 0 (n))) := by subst hH298; rfl
        have g316 : H298.2.2.1 85 0 (((128 : Int) * n) + (H.2.2.1 83 0 (n))) = H181.2.2.1 85 0 (((128 : Int) * n) + (H.2.2.1 83 0 (n))) := by subst hH298; rfl
        have g317 : H298.2.2.1 82 0 (n) = H181.2.2.1 82 0 (n) := by subst hH298; rfl
        have g318 : H298.2.2.1 83 0 (n) = H181.2.2.1 83 0 (n) := by subst hH298; rfl
        have g319 : H298.2.2.1 73 0 (n) = H181.2.2.1 73 0 (n) := by subst hH298; rfl
        have g320 : H298.2.2.1 74 0 (n) = H181.2.2.1 74 0 (n) := by subst hH298; rfl
        have g321 : H298.2.2.1 75 0 (n) = H181.2.2.1 75 0 (n) := by subst hH298; rfl
        have g322 : H298.2.2.1 76 0 (n) = H181.2.2.1 76 0 (n) := by subst hH298; rfl
        have g323 : H298.2.2.1 77 0 (n) = H181.2.2.1 77 0 (n) := by subst hH298; rfl
        have g324 : H298.2.2.1 78 0 (n) = H181.2.2.1 78 0 (n) := by subst hH298; rfl
        clear hH298
        refine J.run 5 rfl (show ((1 : Int) = 0 ∨ (1 : Int) = 1) ∧ 0 ≤ n ∧ n < 16 from ⟨by omega, by omega, by omega⟩) ?_
        try dsimp only
        refine J.gn fun H325 hH325 => ?_
        have hT326 : gT H325 := by rw [hH325]; exact gT.upd hT299 (show 0 ≤ (1 : Int) ∧ (1 : Int) ≤ 1 from ⟨by omega, by omega⟩) (fun z => absurd z (by decide))
        have hE327 : jEx [] [82, 83, 84, 80, 114, 71, 113, 85, 86, 87, 88, 89, 90, 91, 92, 93, 94] H325 H := by rw [hH325]; exact jEx.row hE300 (by decide)
        have k328 : gK H325 := by rw [hH325]; exact k301
        have k329 : gN H325 := by rw [hH325]; exact k302
        have k330 : gU H325 u := by rw [hH325]; exact gU.wd k303 (by omega)
        have cR := (show H325.2.2.1 83 0 = H298.2.2.1 83 0 from by subst hH325; rfl).trans cR
        have cO := (show H325.2.2.1 73 0 = H298.2.2.1 73 0 from by subst hH325; rfl).trans cO
        have cS := (show H325.2.2.1 74 0 = H298.2.2.1 74 0 from by subst hH325; rfl).trans cS
        have cW := (show H325.2.2.1 87 0 = H298.2.2.1 87 0 from by subst hH325; rfl).trans cW
        have cT := (show H325.2.2.1 90 0 = H298.2.2.1 90 0 from by subst hH325; rfl).trans cT
        have cD : H325.2.2.1 80 0 = jup (H.2.2.1 80 0) (n) ((1 : Int)) := (show H325.2.2.1 80 0 = jup (H298.2.2.1 80 0) (n) ((1 : Int)) from by subst hH325; rfl).trans (by rw [cD])
        have cF := (show H325.2.2.1 79 0 = H298.2.2.1 79 0 from by subst hH325; rfl).trans cF
        have cN := (show H325.2.2.1 71 0 = H298.2.2.1 71 0 from by subst hH325; rfl).trans cN
        have cM : ∀ z, z ≠ 128 * n + H.2.2.1 83 0 n → H325.2.2.1 85 0 z = H.2.2.1 85 0 z := fun z hz => (show H325.2.2.1 85 0 z = H298.2.2.1 85 0 z from by subst hH325; rfl).trans (cM z hz)
        have g331 : H325.2.2.1 80 0 (n) = (1 : Int) := by subst hH325; exact if_pos rfl
        have g332 : H325.1 11 12 0 = H298.1 11 12 0 := by subst hH325; rfl
        have g333 : H325.1 11 19 0 = H298.1 11 19 0 := by subst hH325; rfl
        have g334 : H325.2.2.1 84 0 (n) = H298.2.2.1 84 0 (n) := by subst hH325; rfl
        have g335 : H325.2.2.1 94 0 (((128 : Int) * n) + (H.2.2.1 83 0 (n))) = H298.2.2.1 94 0 (((128 : Int) * n) + (H.2.2.1 83 0 (n))) := by subst hH325; rfl
        have g336 : H325.2.2.1 93 0 (((128 : Int) * n) + (H.2.2.1 83 0 (n))) = H298.2.2.1 93 0 (((128 : Int) * n) + (H.2.2.1 83 0 (n))) := by subst hH325; rfl
        have g337 : H325.2.2.1 92 0 (((128 : Int) * n) + (H.2.2.1 83 0 (n))) = H298.2.2.1 92 0 (((128 : Int) * n) + (H.2.2.1 83 0 (n))) := by subst hH325; rfl
        have g338 : H325.2.2.1 91 0 (((128 : Int) * n) + (H.2.2.1 83 0 (n))) = H298.2.2.1 91 0 (((128 : Int) * n) + (H.2.2.1 83 0 (n))) := by subst hH325; rfl
        have g339 : H325.2.2.1 90 0 (((128 : Int) * n) + (H.2.2.1 83 0 (n))) = H298.2.2.1 90 0 (((128 : Int) * n) + (H.2.2.1 83 0 (n))) := by subst hH325; rfl
        have g340 : H325.2.2.1 89 0 (((128 : Int) * n) + (H.2.2.1 83 0 (n))) = H298.2.2.1 89 0 (((128 : Int) * n) + (H.2.2.1 83 0 (n))) := by subst hH325; rfl
        have g341 : H325.2.2.1 88 0 (((128 : Int) * n) + (H.2.2.1 83 0 (n))) = H298.2.2.1 88 0 (((128 : Int) * n) + (H.2.2.1 83 0 (n))) := by subst hH325; rfl
        have g342 : H325.2.2.1 87 0 (((128 : Int) * n) + (H.2.2.1 83 0 (n))) = H298.2.2.1 87 0 (((128 : Int) * n) + (H.2.2.1 83 0 (n))) := by subst hH325; rfl
        have g343 : H325.2.2.1 86 0 (((128 : Int) * n) + (H.2.2.1 83 0 (n))) = H298.2.2.1 86 0 (((128 : Int) * n) + (H.2.2.1 83 0 (n))) := by subst hH325; rfl
        have g344 : H325.2.2.1 85 0 (((128 : Int) * n) + (H.2.2.1 83 0 (n))) = H298.2.2.1 85 0 (((128 : Int) * n) + (H.2.2.1 83 0 (n))) := by subst hH325; rfl
        have g345 : H325.2.2.1 82 0 (n) = H298.2.2.1 82 0 (n) := by subst hH325; rfl
        have g346 : H325.2.2.1 83 0 (n) = H298.2.2.1 83 0 (n) := by subst hH325; rfl
        have g347 : H325.2.2.1 73 0 (n) = H298.2.2.1 73 0 (n) := by subst hH325; rfl
        have g348 : H325.2.2.1 74 0 (n) = H298.2.2.1 74 0 (n) := by subst hH325; rfl
        have g349 : H325.2.2.1 75 0 (n) = H298.2.2.1 75 0 (n) := by subst hH325; rfl
        have g350 : H325.2.2.1 76 0 (n) = H298.2.2.1 76 0 (n) := by subst hH325; rfl
        have g351 : H325.2.2.1 77 0 (n) = H298.2.2.1 77 0 (n) := by subst hH325; rfl
        have g352 : H325.2.2.1 78 0 (n) = H298.2.2.1 78 0 (n) := by subst hH325; rfl
        clear hH325
        refine J.run0 2 rfl ?_
        try dsimp only
        refine J.inv rfl rfl rfl rfl rfl rfl jDr rfl rfl rfl rfl rfl (g_forget (n := n) hT326  (show 0 ≤ (n) ∧ (n) < 16 from ⟨by omega, by omega⟩) k328 k329) ?_
        rintro v w H355 ⟨rfl, hT356, ehE357, p358, p359, p360, p361, rfl⟩
        have hE357 := jEx.trans ehE357 hE327 (by decide) (by decide)
        have p358' : gK H355 := p358
        have p359' : gN H355 := p359
        have p360' : H355.2.2.1 71 0 ((n)) = 0 := p360
        have p361' : H355.2.2.1 71 0 = jup (H325.2.2.1 71 0) ((n)) 0 := p361
        have pL_forget_0 := p358'
        have pL_forget_1 := p359'
        have pL_forget_2 := p360'
        have pL_forget_3 := p361'
        have k362 : gU H355 u := gU.ex k330 ehE357 (by decide)
        have g363 : H355.1 11 12 0 = H325.1 11 12 0 := ehE357.v 12 (by decide)
        have g364 : H355.1 11 19 0 = H325.1 11 19 0 := ehE357.v 19 (by decide)
        have cR := (ehE357.r 83 (by decide)).trans cR
        have cO := (ehE357.r 73 (by decide)).trans cO
        have cS := (ehE357.r 74 (by decide)).trans cS
        have cW := (ehE357.r 87 (by decide)).trans cW
        have cT := (ehE357.r 90 (by decide)).trans cT
        have cD := (ehE357.r 80 (by decide)).trans cD
        have cF := (ehE357.r 79 (by decide)).trans cF
        have cN : H355.2.2.1 71 0 = jup (H.2.2.1 71 0) n 0 := pL_forget_3.trans (by rw [cN])
        have cM : ∀ z, z ≠ 128 * n + H.2.2.1 83 0 n → H355.2.2.1 85 0 z = H.2.2.1 85 0 z := fun z hz => (congrFun (ehE357.r 85 (by decide)) z).trans (cM z hz)
        have g365 : H355.2.2.1 80 0 (n) = H325.2.2.1 80 0 (n) := congrFun (ehE357.r 80 (by decide)) _
        have g366 : H355.2.2.1 84 0 (n) = H325.2.2.1 84 0 (n) := congrFun (ehE357.r 84 (by decide)) _
        have g367 : H355.2.2.1 94 0 (((128 : Int) * n) + (H.2.2.1 83 0 (n))) = H325.2.2.1 94 0 (((128 : Int) * n) + (H.2.2.1 83 0 (n))) := congrFun (ehE357.r 94 (by decide)) _
        have g368 : H355.2.2.1 93 0 (((128 : Int) * n) + (H.2.2.1 83 0 (n))) = H325.2.2.1 93 0 (((128 : Int) * n) + (H.2.2.1 83 0 (n))) := congrFun (ehE357.r 93 (by decide)) _
        have g369 : H355.2.2.1 92 0 (((128 : Int) * n) + (H.2.2.1 83 0 (n))) = H325.2.2.1 92 0 (((128 : Int) * n) + (H.2.2.1 83 0 (n))) := congrFun (ehE357.r 92 (by decide)) _
        have g370 : H355.2.2.1 91 0 (((128 : Int) * n) + (H.2.2.1 83 0 (n))) = H325.2.2.1 91 0 (((128 : Int) * n) + (H.2.2.1 83 0 (n))) := congrFun (ehE357.r 91 (by decide)) _
        have g371 : H355.2.2.1 90 0 (((128 : Int) * n) + (H.2.2.1 83 0 (n))) = H325.2.2.1 90 0 (((128 : Int) * n) + (H.2.2.1 83 0 (n))) := congrFun (ehE357.r 90 (by decide)) _
        have g372 : H355.2.2.1 89 0 (((128 : Int) * n) + (H.2.2.1 83 0 (n))) = H325.2.2.1 89 0 (((128 : Int) * n) + (H.2.2.1 83 0 (n))) := congrFun (ehE357.r 89 (by decide)) _
        have g373 : H355.2.2.1 88 0 (((128 : Int) * n) + (H.2.2.1 83 0 (n))) = H325.2.2.1 88 0 (((128 : Int) * n) + (H.2.2.1 83 0 (n))) := congrFun (ehE357.r 88 (by decide)) _
        have g374 : H355.2.2.1 87 0 (((128 : Int) * n) + (H.2.2.1 83 0 (n))) = H325.2.2.1 87 0 (((128 : Int) * n) + (H.2.2.1 83 0 (n))) := congrFun (ehE357.r 87 (by decide)) _
        have g375 : H355.2.2.1 86 0 (((128 : Int) * n) + (H.2.2.1 83 0 (n))) = H325.2.2.1 86 0 (((128 : Int) * n) + (H.2.2.1 83 0 (n))) := congrFun (ehE357.r 86 (by decide)) _
        have g376 : H355.2.2.1 85 0 (((128 : Int) * n) + (H.2.2.1 83 0 (n))) = H325.2.2.1 85 0 (((128 : Int) * n) + (H.2.2.1 83 0 (n))) := congrFun (ehE357.r 85 (by decide)) _
        have g377 : H355.2.2.1 82 0 (n) = H325.2.2.1 82 0 (n) := congrFun (ehE357.r 82 (by decide)) _
        have g378 : H355.2.2.1 83 0 (n) = H325.2.2.1 83 0 (n) := congrFun (ehE357.r 83 (by decide)) _
        have g379 : H355.2.2.1 73 0 (n) = H325.2.2.1 73 0 (n) := congrFun (ehE357.r 73 (by decide)) _
        have g380 : H355.2.2.1 74 0 (n) = H325.2.2.1 74 0 (n) := congrFun (ehE357.r 74 (by decide)) _
        have g381 : H355.2.2.1 75 0 (n) = H325.2.2.1 75 0 (n) := congrFun (ehE357.r 75 (by decide)) _
        have g382 : H355.2.2.1 76 0 (n) = H325.2.2.1 76 0 (n) := congrFun (ehE357.r 76 (by decide)) _
        have g383 : H355.2.2.1 77 0 (n) = H325.2.2.1 77 0 (n) := congrFun (ehE357.r 77 (by decide)) _
        have g384 : H355.2.2.1 78 0 (n) = H325.2.2.1 78 0 (n) := congrFun (ehE357.r 78 (by decide)) _
        have eL_forget := ehE357
        try dsimp only [Option.toList, List.append, List.cons_append, List.nil_append]
        refine J.run0 1 rfl ?_
        try dsimp only
        exact J.retb rfl rfl rfl (show (0 : Int) = 0 ∨ (0 : Int) = 1 by omega) ⟨_, rfl, rfl, hT356, hE357, p358, p359, k362, (show gB H355 by first | exact gB.rec hp9 hp10 cF (Or.inl ⟨cD, cN⟩) | exact gB.rec hp9 hp10 cF (Or.inr ⟨cD, cN⟩) | (exfalso; omega)), _, rfl, (show (((0 : Int)) = 0 ∨ ((0 : Int)) = 1) ∧ (((0 : Int)) = 1 → gW H355 (H.1 11 19 0 + 1)) ∧ (((0 : Int)) = 0 → gW H355 (H.1 11 19 0)) ∧ (((0 : Int)) = 1 → H355.2.2.1 80 0 (n) = H.2.2.1 80 0 (n)) from (by first | exact ⟨Or.inr rfl, fun _ => gW.rec (by omega) hp8 hT hp0 hp7 (by omega) cR cO cS cW cT cM (Or.inr ⟨by omega, by omega⟩) (by omega) (by omega), fun z => absurd z (by omega), fun _ => congrFun cD n⟩ | exact ⟨Or.inl rfl, fun z => absurd z (by omega), fun _ => gW.rec (by omega) hp8 hT hp0 hp7 (by omega) cR cO cS cW cT cM (Or.inl (by omega)) (by omega) (by omega), fun z => absurd z (by omega)⟩ | exact ⟨Or.inl rfl, fun z => absurd z (by omega), fun _ => gW.not hp8 hT hp0 cR cO cS cW cT cM, fun z => absurd z (by omega)⟩ | (exfalso; omega)))⟩
    · have c385 : ¬ (H.2.2.1 82 0 (n) ≤ (12 : Int)) := hc
      clear hc
      have f386 : 0 ≤ H181.1 11 19 0 ∧ H181.1 11 19 0 ≤ 6000 := hT182.2.1 19
      refine J.run 6 rfl (show 0 ≤ ((128 : Int) * n) + (H.2.2.1 83 0 (n)) ∧ ((128 : Int) * n) + (H.2.2.1 83 0 (n)) < 2048 from ⟨by omega, by omega⟩) ?_
      try dsimp only
      refine J.gn fun H387 hH387 => ?_
      have hT388 : gT H387 := by rw [hH387]; exact gT.upd hT182 (show -1 ≤ H181.1 11 19 0 ∧ H181.1 11 19 0 ≤ 5999 from ⟨by omega, by omega⟩) (fun z => absurd z (by decide))
      have hE389 : jEx [] [82, 83, 84, 80, 114, 71, 113, 85, 86, 87, 88, 89, 90, 91, 92, 93, 94] H387 H := by rw [hH387]; exact jEx.row hE183 (by decide)
      have k390 : gK H387 := by rw [hH387]; exact k184
      have k391 : gN H387 := by rw [hH387]; exact k185
      have k392 : gU H387 u := by rw [hH387]; exact k186
      have cR := (show H387.2.2.1 83 0 = H181.2.2.1 83 0 from by subst hH387; rfl).trans cR
      have cO := (show H387.2.2.1 73 0 = H181.2.2.1 73 0 from by subst hH387; rfl).trans cO
      have cS := (show H387.2.2.1 74 0 = H181.2.2.1 74 0 from by subst hH387; rfl).trans cS
      have cW := (show H387.2.2.1 87 0 = H181.2.2.1 87 0 from by subst hH387; rfl).trans cW
      have cT := (show H387.2.2.1 90 0 = H181.2.2.1 90 0 from by subst hH387; rfl).trans cT
      have cD := (show H387.2.2.1 80 0 = H181.2.2.1 80 0 from by subst hH387; rfl).trans cD
      have cF := (show H387.2.2.1 79 0 = H181.2.2.1 79 0 from by subst hH387; rfl).trans cF
      have cN := (show H387.2.2.1 71 0 = H181.2.2.1 71 0 from by subst hH387; rfl).trans cN
      have cM : ∀ z, z ≠ 128 * n + H.2.2.1 83 0 n → H387.2.2.1 85 0 z = H.2.2.1 85 0 z := fun z hz => (show H387.2.2.1 85 0 z = H181.2.2.1 85 0 z from by subst hH387; exact if_neg hz).trans (cM z hz)
      have g393 : H387.2.2.1 85 0 (((128 : Int) * n) + (H.2.2.1 83 0 (n))) = H181.1 11 19 0 := by subst hH387; exact if_pos rfl
      have g394 : H387.1 11 12 0 = H181.1 11 12 0 := by subst hH387; rfl
      have g395 : H387.1 11 19 0 = H181.1 11 19 0 := by subst hH387; rfl
      have g396 : H387.2.2.1 94 0 (((128 : Int) * n) + (H.2.2.1 83 0 (n))) = H181.2.2.1 94 0 (((128 : Int) * n) + (H.2.2.1 83 0 (n))) := by subst hH387; rfl
      have g397 : H387.2.2.1 93 0 (((128 : Int) * n) + (H.2.2.1 83 0 (n))) = H181.2.2.1 93 0 (((128 : Int) * n) + (H.2.2.1 83 0 (n))) := by subst hH387; rfl
      have g398 : H387.2.2.1 92 0 (((128 : Int) * n) + (H.2.2.1 83 0 (n))) = H181.2.2.1 92 0 (((128 : Int) * n) + (H.2.2.1 83 0 (n))) := by subst hH387; rfl
      have g399 : H387.2.2.1 91 0 (((128 : Int) * n) + (H.2.2.1 83 0 (n))) = H181.2.2.1 91 0 (((128 : Int) * n) + (H.2.2.1 83 0 (n))) := by subst hH387; rfl
      have g400 : H387.2.2.1 90 0 (((128 : Int) * n) + (H.2.2.1 83 0 (n))) = H181.2.2.1 90 0 (((128 : Int) * n) + (H.2.2.1 83 0 (n))) := by subst hH387; rfl
      have g401 : H387.2.2.1 89 0 (((128 : Int) * n) + (H.2.2.1 83 0 (n))) = H181.2.2.1 89 0 (((128 : Int) * n) + (H.2.2.1 83 0 (n))) := by subst hH387; rfl
      have g402 : H387.2.2.1 88 0 (((128 : Int) * n) + (H.2.2.1 83 0 (n))) = H181.2.2.1 88 0 (((128 : Int) * n) + (H.2.2.1 83 0 (n))) := by subst hH387; rfl
      have g403 : H387.2.2.1 87 0 (((128 : Int) * n) + (H.2.2.1 83 0 (n))) = H181.2.2.1 87 0 (((128 : Int) * n) + (H.2.2.1 83 0 (n))) := by subst hH387; rfl
      have g404 : H387.2.2.1 86 0 (((128 : Int) * n) + (H.2.2.1 83 0 (n))) = H181.2.2.1 86 0 (((128 : Int) * n) + (H.2.2.1 83 0 (n))) := by subst hH387; rfl
      have g406 : H387.2.2.1 82 0 (n) = H181.2.2.1 82 0 (n) := by subst hH387; rfl
      have g407 : H387.2.2.1 83 0 (n) = H181.2.2.1 83 0 (n) := by subst hH387; rfl
      have g408 : H387.2.2.1 73 0 (n) = H181.2.2.1 73 0 (n) := by subst hH387; rfl
      have g409 : H387.2.2.1 74 0 (n) = H181.2.2.1 74 0 (n) := by subst hH387; rfl
      have g410 : H387.2.2.1 75 0 (n) = H181.2.2.1 75 0 (n) := by subst hH387; rfl
      have g411 : H387.2.2.1 76 0 (n) = H181.2.2.1 76 0 (n) := by subst hH387; rfl
      have g412 : H387.2.2.1 77 0 (n) = H181.2.2.1 77 0 (n) := by subst hH387; rfl
      have g413 : H387.2.2.1 78 0 (n) = H181.2.2.1 78 0 (n) := by subst hH387; rfl
      clear hH387
      refine J.run0 1 rfl ?_
      try dsimp only
      exact J.retb rfl rfl rfl (show (1 : Int) = 0 ∨ (1 : Int) = 1 by omega) ⟨_, rfl, rfl, hT388, hE389, k390, k391, k392, (show gB H387 by first | exact gB.rec hp9 hp10 cF (Or.inl ⟨cD, cN⟩) | exact gB.rec hp9 hp10 cF (Or.inr ⟨cD, cN⟩) | (exfalso; omega)), _, rfl, (show (((1 : Int)) = 0 ∨ ((1 : Int)) = 1) ∧ (((1 : Int)) = 1 → gW H387 (H.1 11 19 0 + 1)) ∧ (((1 : Int)) = 0 → gW H387 (H.1 11 19 0)) ∧ (((1 : Int)) = 1 → H387.2.2.1 80 0 (n) = H.2.2.1 80 0 (n)) from (by first | exact ⟨Or.inr rfl, fun _ => gW.rec (by omega) hp8 hT hp0 hp7 (by omega) cR cO cS cW cT cM (Or.inr ⟨by omega, by omega⟩) (by omega) (by omega), fun z => absurd z (by omega), fun _ => congrFun cD n⟩ | exact ⟨Or.inl rfl, fun z => absurd z (by omega), fun _ => gW.rec (by omega) hp8 hT hp0 hp7 (by omega) cR cO cS cW cT cM (Or.inl (by omega)) (by omega) (by omega), fun z => absurd z (by omega)⟩ | exact ⟨Or.inl rfl, fun z => absurd z (by omega), fun _ => gW.not hp8 hT hp0 cR cO cS cW cT cM, fun z => absurd z (by omega)⟩ | (exfalso; omega)))⟩
  · have c414 : ¬ (H.2.2.1 82 0 (n) < (12 : Int)) := hc
    clear hc
    refine J.run 8 rfl ⟨(show 0 ≤ n ∧ n < 16 from ⟨by omega, by omega⟩), (show 0 ≤ n ∧ n < 16 from ⟨by omega, by omega⟩)⟩ ?_
    try dsimp only
    refine J.gn fun H415 hH415 => ?_
    have hT416 : gT H415 := by rw [hH415]; exact gT.upd hT182 (show 0 ≤ (H181.2.2.1 83 0 (n)) + (1 : Int) ∧ (H181.2.2.1 83 0 (n)) + (1 : Int) ≤ 96 from ⟨by omega, by omega⟩) (fun z => absurd z (by decide))
    have hE417 : jEx [] [82, 83, 84, 80, 114, 71, 113, 85, 86, 87, 88, 89, 90, 91, 92, 93, 94] H415 H := by rw [hH415]; exact jEx.row hE183 (by decide)
    have k418 : gK H415 := by rw [hH415]; exact k184
    have k419 : gN H415 := by rw [hH415]; exact k185
    have k420 : gU H415 u := by rw [hH415]; exact gU.wr k186 (by omega)
    have cR : H415.2.2.1 83 0 = jup (H.2.2.1 83 0) (n) ((H181.2.2.1 83 0 (n)) + (1 : Int)) := (show H415.2.2.1 83 0 = jup (H181.2.2.1 83 0) (n) ((H181.2.2.1 83 0 (n)) + (1 : Int)) from by subst hH415; rfl).trans (by rw [cR])
    have cO := (show H415.2.2.1 73 0 = H181.2.2.1 73 0 from by subst hH415; rfl).trans cO
    have cS := (show H415.2.2.1 74 0 = H181.2.2.1 74 0 from by subst hH415; rfl).trans cS
    have cW := (show H415.2.2.1 87 0 = H181.2.2.1 87 0 from by subst hH415; rfl).trans cW
    have cT := (show H415.2.2.1 90 0 = H181.2.2.1 90 0 from by subst hH415; rfl).trans cT
    have cD := (show H415.2.2.1 80 0 = H181.2.2.1 80 0 from by subst hH415; rfl).trans cD
    have cF := (show H415.2.2.1 79 0 = H181.2.2.1 79 0 from by subst hH415; rfl).trans cF
    have cN := (show H415.2.2.1 71 0 = H181.2.2.1 71 0 from by subst hH415; rfl).trans cN
    have cM : ∀ z, z ≠ 128 * n + H.2.2.1 83 0 n → H415.2.2.1 85 0 z = H.2.2.1 85 0 z := fun z hz => (show H415.2.2.1 85 0 z = H181.2.2.1 85 0 z from by subst hH415; rfl).trans (cM z hz)
    have g421 : H415.2.2.1 83 0 (n) = (H181.2.2.1 83 0 (n)) + (1 : Int) := by subst hH415; exact if_pos rfl
    have g422 : H415.1 11 12 0 = H181.1 11 12 0 := by subst hH415; rfl
    have g423 : H415.1 11 19 0 = H181.1 11 19 0 := by subst hH415; rfl
    have g424 : H415.2.2.1 94 0 (((128 : Int) * n) + (H.2.2.1 83 0 (n))) = H181.2.2.1 94 0 (((128 : Int) * n) + (H.2.2.1 83 0 (n))) := by subst hH415; rfl
    have g425 : H415.2.2.1 93 0 (((128 : Int) * n) + (H.2.2.1 83 0 (n))) = H181.2.2.1 93 0 (((128 : Int) * n) + (H.2.2.1 83 0 (n))) := by subst hH415; rfl
    have g426 : H415.2.2.1 92 0 (((128 : Int) * n) + (H.2.2.1 83 0 (n))) = H181.2.2.1 92 0 (((128 : Int) * n) + (H.2.2.1 83 0 (n))) := by subst hH415; rfl
    have g427 : H415.2.2.1 91 0 (((128 : Int) * n) + (H.2.2.1 83 0 (n))) = H181.2.2.1 91 0 (((128 : Int) * n) + (H.2.2.1 83 0 (n))) := by subst hH415; rfl
    have g428 : H415.2.2.1 90 0 (((128 : Int) * n) + (H.2.2.1 83 0 (n))) = H181.2.2.1 90 0 (((128 : Int) * n) + (H.2.2.1 83 0 (n))) := by subst hH415; rfl
    have g429 : H415.2.2.1 89 0 (((128 : Int) * n) + (H.2.2.1 83 0 (n))) = H181.2.2.1 89 0 (((128 : Int) * n) + (H.2.2.1 83 0 (n))) := by subst hH415; rfl
    have g430 : H415.2.2.1 88 0 (((128 : Int) * n) + (H.2.2.1 83 0 (n))) = H181.2.2.1 88 0 (((128 : Int) * n) + (H.2.2.1 83 0 (n))) := by subst hH415; rfl
    have g431 : H415.2.2.1 87 0 (((128 : Int) * n) + (H.2.2.1 83 0 (n))) = H181.2.2.1 87 0 (((128 : Int) * n) + (H.2.2.1 83 0 (n))) := by subst hH415; rfl
    have g432 : H415.2.2.1 86 0 (((128 : Int) * n) + (H.2.2.1 83 0 (n))) = H181.2.2.1 86 0 (((128 : Int) * n) + (H.2.2.1 83 0 (n))) := by subst hH415; rfl
    have g433 : H415.2.2.1 85 0 (((128 : Int) * n) + (H.2.2.1 83 0 (n))) = H181.2.2.1 85 0 (((128 : Int) * n) + (H.2.2.1 83 0 (n))) := by subst hH415; rfl
    have g434 : H415.2.2.1 82 0 (n) = H181.2.2.1 82 0 (n) := by subst hH415; rfl
    have g436 : H415.2.2.1 73 0 (n) = H181.2.2.1 73 0 (n) := by subst hH415; rfl
    have g437 : H415.2.2.1 74 0 (n) = H181.2.2.1 74 0 (n) := by subst hH415; rfl
    have g438 : H415.2.2.1 75 0 (n) = H181.2.2.1 75 0 (n) := by subst hH415; rfl
    have g439 : H415.2.2.1 76 0 (n) = H181.2.2.1 76 0 (n) := by subst hH415; rfl
    have g440 : H415.2.2.1 77 0 (n) = H181.2.2.1 77 0 (n) := by subst hH415; rfl
    have g441 : H415.2.2.1 78 0 (n) = H181.2.2.1 78 0 (n) := by subst hH415; rfl
    clear hH415
    refine J.run0 2 rfl ?_
    try dsimp only
    refine J.icmp rfl rfl rfl ⟨(show -2147483648 ≤ H.2.2.1 82 0 (n) ∧ H.2.2.1 82 0 (n) ≤ 2147483647 from ⟨by omega, by omega⟩), (show -2147483648 ≤ (12 : Int) ∧ (12 : Int) ≤ 2147483647 from ⟨by omega, by omega⟩)⟩ (fun hc => ?_) (fun hc => ?_)
    · have c442 : H.2.2.1 82 0 (n) ≤ (12 : Int) := hc
      clear hc
      refine J.run0 5 rfl ?_
      try dsimp only
      refine J.icmp rfl rfl rfl ⟨(show -2147483648 ≤ H.2.2.1 82 0 (n) ∧ H.2.2.1 82 0 (n) ≤ 2147483647 from ⟨by omega, by omega⟩), (show -2147483648 ≤ (12 : Int) ∧ (12 : Int) ≤ 2147483647 from ⟨by omega, by omega⟩)⟩ (fun hc => ?_) (fun hc => ?_)
      · have c443 : (12 : Int) ≤ H.2.2.1 82 0 (n) := hc
        clear hc
        refine J.run 2 rfl (show 0 ≤ n ∧ n < 16 from ⟨by omega, by omega⟩) ?_
        try dsimp only
        refine J.gn fun H444 hH444 => ?_
        have hT445 : gT H444 := by rw [hH444]; exact gT.upd hT416 (show 0 ≤ (0 : Int) ∧ (0 : Int) ≤ 11 from ⟨by omega, by omega⟩) (fun z => absurd z (by decide))
        have hE446 : jEx [] [82, 83, 84, 80, 114, 71, 113, 85, 86, 87, 88, 89, 90, 91, 92, 93, 94] H444 H := by rw [hH444]; exact jEx.row hE417 (by decide)
        have k447 : gK H444 := by rw [hH444]; exact k418
        have k448 : gN H444 := by rw [hH444]; exact k419
        have k449 : gU H444 u := by rw [hH444]; exact k420
        have cR := (show H444.2.2.1 83 0 = H415.2.2.1 83 0 from by subst hH444; rfl).trans cR
        have cO := (show H444.2.2.1 73 0 = H415.2.2.1 73 0 from by subst hH444; rfl).trans cO
        have cS := (show H444.2.2.1 74 0 = H415.2.2.1 74 0 from by subst hH444; rfl).trans cS
        have cW := (show H444.2.2.1 87 0 = H415.2.2.1 87 0 from by subst hH444; rfl).trans cW
        have cT := (show H444.2.2.1 90 0 = H415.2.2.1 90 0 from by subst hH444; rfl).trans cT
        have cD := (show H444.2.2.1 80 0 = H415.2.2.1 80 0 from by subst hH444; rfl).trans cD
        have cF := (show H444.2.2.1 79 0 = H415.2.2.1 79 0 from by subst hH444; rfl).trans cF
        have cN := (show H444.2.2.1 71 0 = H415.2.2.1 71 0 from by subst hH444; rfl).trans cN
        have cM : ∀ z, z ≠ 128 * n + H.2.2.1 83 0 n → H444.2.2.1 85 0 z = H.2.2.1 85 0 z := fun z hz => (show H444.2.2.1 85 0 z = H415.2.2.1 85 0 z from by subst hH444; rfl).trans (cM z hz)
        have g450 : H444.2.2.1 84 0 (n) = (0 : Int) := by subst hH444; exact if_pos rfl
        have g451 : H444.1 11 12 0 = H415.1 11 12 0 := by subst hH444; rfl
        have g452 : H444.1 11 19 0 = H415.1 11 19 0 := by subst hH444; rfl
        have g453 : H444.2.2.1 83 0 (n) = H415.2.2.1 83 0 (n) := by subst hH444; rfl
        have g454 : H444.2.2.1 94 0 (((128 : Int) * n) + (H.2.2.1 83 0 (n))) = H415.2.2.1 94 0 (((128 : Int) * n) + (H.2.2.1 83 0 (n))) := by subst hH444; rfl
        have g455 : H444.2.2.1 93 0 (((128 : Int) * n) + (H.2.2.1 83 0 (n))) = H415.2.2.1 93 0 (((128 : Int) * n) + (H.2.2.1 83 0 (n))) := by subst hH444; rfl
        have g456 : H444.2.2.1 92 0 (((128 : Int) * n) + (H.2.2.1 83 0 (n))) = H415.2.2.1 92 0 (((128 : Int) * n) + (H.2.2.1 83 0 (n))) := by subst hH444; rfl
        have g457 : H444.2.2.1 91 0 (((128 : Int) * n) + (H.2.2.1 83 0 (n))) = H415.2.2.1 91 0 (((128 : Int) * n) + (H.2.2.1 83 0 (n))) := by subst hH444; rfl
        have g458 : H444.2.2.1 90 0 (((128 : Int) * n) + (H.2.2.1 83 0 (n))) = H415.2.2.1 90 0 (((128 : Int) * n) + (H.2.2.1 83 0 (n))) := by subst hH444; rfl
        have g459 : H444.2.2.1 89 0 (((128 : Int) * n) + (H.2.2.1 83 0 (n))) = H415.2.2.1 89 0 (((128 : Int) * n) + (H.2.2.1 83 0 (n))) := by subst hH444; rfl
        have g460 : H444.2.2.1 88 0 (((128 : Int) * n) + (H.2.2.1 83 0 (n))) = H415.2.2.1 88 0 (((128 : Int) * n) + (H.2.2.1 83 0 (n))) := by subst hH444; rfl
        have g461 : H444.2.2.1 87 0 (((128 : Int) * n) + (H.2.2.1 83 0 (n))) = H415.2.2.1 87 0 (((128 : Int) * n) + (H.2.2.1 83 0 (n))) := by subst hH444; rfl
        have g462 : H444.2.2.1 86 0 (((128 : Int) * n) + (H.2.2.1 83 0 (n))) = H415.2.2.1 86 0 (((128 : Int) * n) + (H.2.2.1 83 0 (n))) := by subst hH444; rfl
        have g463 : H444.2.2.1 85 0 (((128 : Int) * n) + (H.2.2.1 83 0 (n))) = H415.2.2.1 85 0 (((128 : Int) * n) + (H.2.2.1 83 0 (n))) := by subst hH444; rfl
        have g464 : H444.2.2.1 82 0 (n) = H415.2.2.1 82 0 (n) := by subst hH444; rfl
        have g465 : H444.2.2.1 73 0 (n) = H415.2.2.1 73 0 (n) := by subst hH444; rfl
        have g466 : H444.2.2.1 74 0 (n) = H415.2.2.1 74 0 (n) := by subst hH444; rfl
        have g467 : H444.2.2.1 75 0 (n) = H415.2.2.1 75 0 (n) := by subst hH444; rfl
        have g468 : H444.2.2.1 76 0 (n) = H415.2.2.1 76 0 (n) := by subst hH444; rfl
        have g469 : H444.2.2.1 77 0 (n) = H415.2.2.1 77 0 (n) := by subst hH444; rfl
        have g470 : H444.2.2.1 78 0 (n) = H415.2.2.1 78 0 (n) := by subst hH444; rfl
        clear hH444
        refine J.run 5 rfl (show ((1 : Int) = 0 ∨ (1 : Int) = 1) ∧ 0 ≤ n ∧ n < 16 from ⟨by omega, by omega, by omega⟩) ?_
        try dsimp only
        refine J.gn fun H471 hH471 => ?_
        have hT472 : gT H471 := by rw [hH471]; exact gT.upd hT445 (show 0 ≤ (1 : Int) ∧ (1 : Int) ≤ 1 from ⟨by omega, by omega⟩) (fun z => absurd z (by decide))
        have hE473 : jEx [] [82, 83, 84, 80, 114, 71, 113, 85, 86, 87, 88, 89, 90, 91, 92, 93, 94] H471 H := by rw [hH471]; exact jEx.row hE446 (by decide)
        have k474 : gK H471 := by rw [hH471]; exact k447
        have k475 : gN H471 := by rw [hH471]; exact k448
        have k476 : gU H471 u := by rw [hH471]; exact gU.wd k449 (by omega)
        have cR := (show H471.2.2.1 83 0 = H444.2.2.1 83 0 from by subst hH471; rfl).trans cR
        have cO := (show H471.2.2.1 73 0 = H444.2.2.1 73 0 from by subst hH471; rfl).trans cO
        have cS := (show H471.2.2.1 74 0 = H444.2.2.1 74 0 from by subst hH471; rfl).trans cS
        have cW := (show H471.2.2.1 87 0 = H444.2.2.1 87 0 from by subst hH471; rfl).trans cW
        have cT := (show H471.2.2.1 90 0 = H444.2.2.1 90 0 from by subst hH471; rfl).trans cT
        have cD : H471.2.2.1 80 0 = jup (H.2.2.1 80 0) (n) ((1 : Int)) := (show H471.2.2.1 80 0 = jup (H444.2.2.1 80 0) (n) ((1 : Int)) from by subst hH471; rfl).trans (by rw [cD])
        have cF := (show H471.2.2.1 79 0 = H444.2.2.1 79 0 from by subst hH471; rfl).trans cF
        have cN := (show H471.2.2.1 71 0 = H444.2.2.1 71 0 from by subst hH471; rfl).trans cN
        have cM : ∀ z, z ≠ 128 * n + H.2.2.1 83 0 n → H471.2.2.1 85 0 z = H.2.2.1 85 0 z := fun z hz => (show H471.2.2.1 85 0 z = H444.2.2.1 85 0 z from by subst hH471; rfl).trans (cM z hz)
        have g477 : H471.2.2.1 80 0 (n) = (1 : Int) := by subst hH471; exact if_pos rfl
        have g478 : H471.1 11 12 0 = H444.1 11 12 0 := by subst hH471; rfl
        have g479 : H471.1 11 19 0 = H444.1 11 19 0 := by subst hH471; rfl
        have g480 : H471.2.2.1 84 0 (n) = H444.2.2.1 84 0 (n) := by subst hH471; rfl
        have g481 : H471.2.2.1 83 0 (n) = H444.2.2.1 83 0 (n) := by subst hH471; rfl
        have g482 : H471.2.2.1 94 0 (((128 : Int) * n) + (H.2.2.1 83 0 (n))) = H444.2.2.1 94 0 (((128 : Int) * n) + (H.2.2.1 83 0 (n))) := by subst hH471; rfl
        have g483 : H471.2.2.1 93 0 (((128 : Int) * n) + (H.2.2.1 83 0 (n))) = H444.2.2.1 93 0 (((128 : Int) * n) + (H.2.2.1 83 0 (n))) := by subst hH471; rfl
        have g484 : H471.2.2.1 92 0 (((128 : Int) * n) + (H.2.2.1 83 0 (n))) = H444.2.2.1 92 0 (((128 : Int) * n) + (H.2.2.1 83 0 (n))) := by subst hH471; rfl
        have g485 : H471.2.2.1 91 0 (((128 : Int) * n) + (H.2.2.1 83 0 (n))) = H444.2.2.1 91 0 (((128 : Int) * n) + (H.2.2.1 83 0 (n))) := by subst hH471; rfl
        have g486 : H471.2.2.1 90 0 (((128 : Int) * n) + (H.2.2.1 83 0 (n))) = H444.2.2.1 90 0 (((128 : Int) * n) + (H.2.2.1 83 0 (n))) := by subst hH471; rfl
        have g487 : H471.2.2.1 89 0 (((128 : Int) * n) + (H.2.2.1 83 0 (n))) = H444.2.2.1 89 0 (((128 : Int) * n) + (H.2.2.1 83 0 (n))) := by subst hH471; rfl
        have g488 : H471.2.2.1 88 0 (((128 : Int) * n) + (H.2.2.1 83 0 (n))) = H444.2.2.1 88 0 (((128 : Int) * n) + (H.2.2.1 83 0 (n))) := by subst hH471; rfl
        have g489 : H471.2.2.1 87 0 (((128 : Int) * n) + (H.2.2.1 83 0 (n))) = H444.2.2.1 87 0 (((128 : Int) * n) + (H.2.2.1 83 0 (n))) := by subst hH471; rfl
        have g490 : H471.2.2.1 86 0 (((128 : Int) * n) + (H.2.2.1 83 0 (n))) = H444.2.2.1 86 0 (((128 : Int) * n) + (H.2.2.1 83 0 (n))) := by subst hH471; rfl
        have g491 : H471.2.2.1 85 0 (((128 : Int) * n) + (H.2.2.1 83 0 (n))) = H444.2.2.1 85 0 (((128 : Int) * n) + (H.2.2.1 83 0 (n))) := by subst hH471; rfl
        have g492 : H471.2.2.1 82 0 (n) = H444.2.2.1 82 0 (n) := by subst hH471; rfl
        have g493 : H471.2.2.1 73 0 (n) = H444.2.2.1 73 0 (n) := by subst hH471; rfl
        have g494 : H471.2.2.1 74 0 (n) = H444.2.2.1 74 0 (n) := by subst hH471; rfl
        have g495 : H471.2.2.1 75 0 (n) = H444.2.2.1 75 0 (n) := by subst hH471; rfl
        have g496 : H471.2.2.1 76 0 (n) = H444.2.2.1 76 0 (n) := by subst hH471; rfl
        have g497 : H471.2.2.1 77 0 (n) = H444.2.2.1 77 0 (n) := by subst hH471; rfl
        have g498 : H471.2.2.1 78 0 (n) = H444.2.2.1 78 0 (n) := by subst hH471; rfl
        clear hH471
        refine J.run0 2 rfl ?_
        try dsimp only
        refine J.inv rfl rfl rfl rfl rfl rfl jDr rfl rfl rfl rfl rfl (g_forget (n := n) hT472  (show 0 ≤ (n) ∧ (n) < 16 from ⟨by omega, by omega⟩) k474 k475) ?_
        rintro v w H501 ⟨rfl, hT502, ehE503, p504, p505, p506, p507, rfl⟩
        have hE503 := jEx.trans ehE503 hE473 (by decide) (by decide)
        have p504' : gK H501 := p504
        have p505' : gN H501 := p505
        have p506' : H501.2.2.1 71 0 ((n)) = 0 := p506
        have p507' : H501.2.2.1 71 0 = jup (H471.2.2.1 71 0) ((n)) 0 := p507
        have pL_forget_0 := p504'
        have pL_forget_1 := p505'
        have pL_forget_2 := p506'
        have pL_forget_3 := p507'
        have k508 : gU H501 u := gU.ex k476 ehE503 (by decide)
        have g509 : H501.1 11 12 0 = H471.1 11 12 0 := ehE503.v 12 (by decide)
        have g510 : H501.1 11 19 0 = H471.1 11 19 0 := ehE503.v 19 (by decide)
        have cR := (ehE503.r 83 (by decide)).trans cR
        have cO := (ehE503.r 73 (by decide)).trans cO
        have cS := (ehE503.r 74 (by decide)).trans cS
        have cW := (ehE503.r 87 (by decide)).trans cW
        have cT := (ehE503.r 90 (by decide)).trans cT
        have cD := (ehE503.r 80 (by decide)).trans cD
        have cF := (ehE503.r 79 (by decide)).trans cF
        have cN : H501.2.2.1 71 0 = jup (H.2.2.1 71 0) n 0 := pL_forget_3.trans (by rw [cN])
        have cM : ∀ z, z ≠ 128 * n + H.2.2.1 83 0 n → H501.2.2.1 85 0 z = H.2.2.1 85 0 z := fun z hz => (congrFun (ehE503.r 85 (by decide)) z).trans (cM z hz)
        have g511 : H501.2.2.1 80 0 (n) = H471.2.2.1 80 0 (n) := congrFun (ehE503.r 80 (by decide)) _
        have g512 : H501.2.2.1 84 0 (n) = H471.2.2.1 84 0 (n) := congrFun (ehE503.r 84 (by decide)) _
        have g513 : H501.2.2.1 83 0 (n) = H471.2.2.1 83 0 (n) := congrFun (ehE503.r 83 (by decide)) _
        have g514 : H501.2.2.1 94 0 (((128 : Int) * n) + (H.2.2.1 83 0 (n))) = H471.2.2.1 94 0 (((128 : Int) * n) + (H.2.2.1 83 0 (n))) := congrFun (ehE503.r 94 (by decide)) _
        have g515 : H501.2.2.1 93 0 (((128 : Int) * n) + (H.2.2.1 83 0 (n))) = H471.2.2.1 93 0 (((128 : Int) * n) + (H.2.2.1 83 0 (n))) := congrFun (ehE503.r 93 (by decide)) _
        have g516 : H501.2.2.1 92 0 (((128 : Int) * n) + (H.2.2.1 83 0 (n))) = H471.2.2.1 92 0 (((128 : Int) * n) + (H.2.2.1 83 0 (n))) := congrFun (ehE503.r 92 (by decide)) _
        have g517 : H501.2.2.1 91 0 (((128 : Int) * n) + (H.2.2.1 83 0 (n))) = H471.2.2.1 91 0 (((128 : Int) * n) + (H.2.2.1 83 0 (n))) := congrFun (ehE503.r 91 (by decide)) _
        have g518 : H501.2.2.1 90 0 (((128 : Int) * n) + (H.2.2.1 83 0 (n))) = H471.2.2.1 90 0 (((128 : Int) * n) + (H.2.2.1 83 0 (n))) := congrFun (ehE503.r 90 (by decide)) _
        have g519 : H501.2.2.1 89 0 (((128 : Int) * n) + (H.2.2.1 83 0 (n))) = H471.2.2.1 89 0 (((128 : Int) * n) + (H.2.2.1 83 0 (n))) := congrFun (ehE503.r 89 (by decide)) _
        have g520 : H501.2.2.1 88 0 (((128 : Int) * n) + (H.2.2.1 83 0 (n))) = H471.2.2.1 88 0 (((128 : Int) * n) + (H.2.2.1 83 0 (n))) := congrFun (ehE503.r 88 (by decide)) _
        have g521 : H501.2.2.1 87 0 (((128 : Int) * n) + (H.2.2.1 83 0 (n))) = H471.2.2.1 87 0 (((128 : Int) * n) + (H.2.2.1 83 0 (n))) := congrFun (ehE503.r 87 (by decide)) _
        have g522 : H501.2.2.1 86 0 (((128 : Int) * n) + (H.2.2.1 83 0 (n))) = H471.2.2.1 86 0 (((128 : Int) * n) + (H.2.2.1 83 0 (n))) := congrFun (ehE503.r 86 (by decide)) _
        have g523 : H501.2.2.1 85 0 (((128 : Int) * n) + (H.2.2.1 83 0 (n))) = H471.2.2.1 85 0 (((128 : Int) * n) + (H.2.2.1 83 0 (n))) := congrFun (ehE503.r 85 (by decide)) _
        have g524 : H501.2.2.1 82 0 (n) = H471.2.2.1 82 0 (n) := congrFun (ehE503.r 82 (by decide)) _
        have g525 : H501.2.2.1 73 0 (n) = H471.2.2.1 73 0 (n) := congrFun (ehE503.r 73 (by decide)) _
        have g526 : H501.2.2.1 74 0 (n) = H471.2.2.1 74 0 (n) := congrFun (ehE503.r 74 (by decide)) _
        have g527 : H501.2.2.1 75 0 (n) = H471.2.2.1 75 0 (n) := congrFun (ehE503.r 75 (by decide)) _
        have g528 : H501.2.2.1 76 0 (n) = H471.2.2.1 76 0 (n) := congrFun (ehE503.r 76 (by decide)) _
        have g529 : H501.2.2.1 77 0 (n) = H471.2.2.1 77 0 (n) := congrFun (ehE503.r 77 (by decide)) _
        have g530 : H501.2.2.1 78 0 (n) = H471.2.2.1 78 0 (n) := congrFun (ehE503.r 78 (by decide)) _
        have eL_forget := ehE503
        try dsimp only [Option.toList, List.append, List.cons_append, List.nil_append]
        refine J.run0 1 rfl ?_
        try dsimp only
        exact J.retb rfl rfl rfl (show (0 : Int) = 0 ∨ (0 : Int) = 1 by omega) ⟨_, rfl, rfl, hT502, hE503, p504, p505, k508, (show gB H501 by first | exact gB.rec hp9 hp10 cF (Or.inl ⟨cD, cN⟩) | exact gB.rec hp9 hp10 cF (Or.inr ⟨cD, cN⟩) | (exfalso; omega)), _, rfl, (show (((0 : Int)) = 0 ∨ ((0 : Int)) = 1) ∧ (((0 : Int)) = 1 → gW H501 (H.1 11 19 0 + 1)) ∧ (((0 : Int)) = 0 → gW H501 (H.1 11 19 0)) ∧ (((0 : Int)) = 1 → H501.2.2.1 80 0 (n) = H.2.2.1 80 0 (n)) from (by first | exact ⟨Or.inr rfl, fun _ => gW.rec (by omega) hp8 hT hp0 hp7 (by omega) cR cO cS cW cT cM (Or.inr ⟨by omega, by omega⟩) (by omega) (by omega), fun z => absurd z (by omega), fun _ => congrFun cD n⟩ | exact ⟨Or.inl rfl, fun z => absurd z (by omega), fun _ => gW.rec (by omega) hp8 hT hp0 hp7 (by omega) cR cO cS cW cT cM (Or.inl (by omega)) (by omega) (by omega), fun z => absurd z (by omega)⟩ | exact ⟨Or.inl rfl, fun z => absurd z (by omega), fun _ => gW.not hp8 hT hp0 cR cO cS cW cT cM, fun z => absurd z (by omega)⟩ | (exfalso; omega)))⟩
      · have c531 : ¬ ((12 : Int) ≤ H.2.2.1 82 0 (n)) := hc
        clear hc
        refine J.run 3 rfl (show 0 ≤ n ∧ n < 16 from ⟨by omega, by omega⟩) ?_
        try dsimp only
        refine J.gn fun H532 hH532 => ?_
        have hT533 : gT H532 := by rw [hH532]; exact gT.upd hT416 (show 0 ≤ H.2.2.1 82 0 (n) ∧ H.2.2.1 82 0 (n) ≤ 11 from ⟨by omega, by omega⟩) (fun z => absurd z (by decide))
        have hE534 : jEx [] [82, 83, 84, 80, 114, 71, 113, 85, 86, 87, 88, 89, 90, 91, 92, 93, 94] H532 H := by rw [hH532]; exact jEx.row hE417 (by decide)
        have k535 : gK H532 := by rw [hH532]; exact k418
        have k536 : gN H532 := by rw [hH532]; exact k419
        have k537 : gU H532 u := by rw [hH532]; exact k420
        have cR := (show H532.2.2.1 83 0 = H415.2.2.1 83 0 from by subst hH532; rfl).trans cR
        have cO := (show H532.2.2.1 73 0 = H415.2.2.1 73 0 from by subst hH532; rfl).trans cO
        have cS := (show H532.2.2.1 74 0 = H415.2.2.1 74 0 from by subst hH532; rfl).trans cS
        have cW := (show H532.2.2.1 87 0 = H415.2.2.1 87 0 from by subst hH532; rfl).trans cW
        have cT := (show H532.2.2.1 90 0 = H415.2.2.1 90 0 from by subst hH532; rfl).trans cT
        have cD := (show H532.2.2.1 80 0 = H415.2.2.1 80 0 from by subst hH532; rfl).trans cD
        have cF := (show H532.2.2.1 79 0 = H415.2.2.1 79 0 from by subst hH532; rfl).trans cF
        have cN := (show H532.2.2.1 71 0 = H415.2.2.1 71 0 from by subst hH532; rfl).trans cN
        have cM : ∀ z, z ≠ 128 * n + H.2.2.1 83 0 n → H532.2.2.1 85 0 z = H.2.2.1 85 0 z := fun z hz => (show H532.2.2.1 85 0 z = H415.2.2.1 85 0 z from by subst hH532; rfl).trans (cM z hz)
        have g538 : H532.2.2.1 84 0 (n) = H.2.2.1 82 0 (n) := by subst hH532; exact if_pos rfl
        have g539 : H532.1 11 12 0 = H415.1 11 12 0 := by subst hH532; rfl
        have g540 : H532.1 11 19 0 = H415.1 11 19 0 := by subst hH532; rfl
        have g541 : H532.2.2.1 83 0 (n) = H415.2.2.1 83 0 (n) := by subst hH532; rfl
        have g542 : H532.2.2.1 94 0 (((128 : Int) * n) + (H.2.2.1 83 0 (n))) = H415.2.2.1 94 0 (((128 : Int) * n) + (H.2.2.1 83 0 (n))) := by subst hH532; rfl
        have g543 : H532.2.2.1 93 0 (((128 : Int) * n) + (H.2.2.1 83 0 (n))) = H415.2.2.1 93 0 (((128 : Int) * n) + (H.2.2.1 83 0 (n))) := by subst hH532; rfl
        have g544 : H532.2.2.1 92 0 (((128 : Int) * n) + (H.2.2.1 83 0 (n))) = H415.2.2.1 92 0 (((128 : Int) * n) + (H.2.2.1 83 0 (n))) := by subst hH532; rfl
        have g545 : H532.2.2.1 91 0 (((128 : Int) * n) + (H.2.2.1 83 0 (n))) = H415.2.2.1 91 0 (((128 : Int) * n) + (H.2.2.1 83 0 (n))) := by subst hH532; rfl
        have g546 : H532.2.2.1 90 0 (((128 : Int) * n) + (H.2.2.1 83 0 (n))) = H415.2.2.1 90 0 (((128 : Int) * n) + (H.2.2.1 83 0 (n))) := by subst hH532; rfl
        have g547 : H532.2.2.1 89 0 (((128 : Int) * n) + (H.2.2.1 83 0 (n))) = H415.2.2.1 89 0 (((128 : Int) * n) + (H.2.2.1 83 0 (n))) := by subst hH532; rfl
        have g548 : H532.2.2.1 88 0 (((128 : Int) * n) + (H.2.2.1 83 0 (n))) = H415.2.2.1 88 0 (((128 : Int) * n) + (H.2.2.1 83 0 (n))) := by subst hH532; rfl
        have g549 : H532.2.2.1 87 0 (((128 : Int) * n) + (H.2.2.1 83 0 (n))) = H415.2.2.1 87 0 (((128 : Int) * n) + (H.2.2.1 83 0 (n))) := by subst hH532; rfl
        have g550 : H532.2.2.1 86 0 (((128 : Int) * n) + (H.2.2.1 83 0 (n))) = H415.2.2.1 86 0 (((128 : Int) * n) + (H.2.2.1 83 0 (n))) := by subst hH532; rfl
        have g551 : H532.2.2.1 85 0 (((128 : Int) * n) + (H.2.2.1 83 0 (n))) = H415.2.2.1 85 0 (((128 : Int) * n) + (H.2.2.1 83 0 (n))) := by subst hH532; rfl
        have g552 : H532.2.2.1 82 0 (n) = H415.2.2.1 82 0 (n) := by subst hH532; rfl
        have g553 : H532.2.2.1 73 0 (n) = H415.2.2.1 73 0 (n) := by subst hH532; rfl
        have g554 : H532.2.2.1 74 0 (n) = H415.2.2.1 74 0 (n) := by subst hH532; rfl
        have g555 : H532.2.2.1 75 0 (n) = H415.2.2.1 75 0 (n) := by subst hH532; rfl
        have g556 : H532.2.2.1 76 0 (n) = H415.2.2.1 76 0 (n) := by subst hH532; rfl
        have g557 : H532.2.2.1 77 0 (n) = H415.2.2.1 77 0 (n) := by subst hH532; rfl
        have g558 : H532.2.2.1 78 0 (n) = H415.2.2.1 78 0 (n) := by subst hH532; rfl
        clear hH532
        refine J.run 5 rfl (show ((1 : Int) = 0 ∨ (1 : Int) = 1) ∧ 0 ≤ n ∧ n < 16 from ⟨by omega, by omega, by omega⟩) ?_
        try dsimp only
        refine J.gn fun H559 hH559 => ?_
        have hT560 : gT H559 := by rw [hH559]; exact gT.upd hT533 (show 0 ≤ (1 : Int) ∧ (1 : Int) ≤ 1 from ⟨by omega, by omega⟩) (fun z => absurd z (by decide))
        have hE561 : jEx [] [82, 83, 84, 80, 114, 71, 113, 85, 86, 87, 88, 89, 90, 91, 92, 93, 94] H559 H := by rw [hH559]; exact jEx.row hE534 (by decide)
        have k562 : gK H559 := by rw [hH559]; exact k535
        have k563 : gN H559 := by rw [hH559]; exact k536
        have k564 : gU H559 u := by rw [hH559]; exact gU.wd k537 (by omega)
        have cR := (show H559.2.2.1 83 0 = H532.2.2.1 83 0 from by subst hH559; rfl).trans cR
        have cO := (show H559.2.2.1 73 0 = H532.2.2.1 73 0 from by subst hH559; rfl).trans cO
        have cS := (show H559.2.2.1 74 0 = H532.2.2.1 74 0 from by subst hH559; rfl).trans cS
        have cW := (show H559.2.2.1 87 0 = H532.2.2.1 87 0 from by subst hH559; rfl).trans cW
        have cT := (show H559.2.2.1 90 0 = H532.2.2.1 90 0 from by subst hH559; rfl).trans cT
        have cD : H559.2.2.1 80 0 = jup (H.2.2.1 80 0) (n) ((1 : Int)) := (show H559.2.2.1 80 0 = jup (H532.2.2.1 80 0) (n) ((1 : Int)) from by subst hH559; rfl).trans (by rw [cD])
        have cF := (show H559.2.2.1 79 0 = H532.2.2.1 79 0 from by subst hH559; rfl).trans cF
        have cN := (show H559.2.2.1 71 0 = H532.2.2.1 71 0 from by subst hH559; rfl).trans cN
        have cM : ∀ z, z ≠ 128 * n + H.2.2.1 83 0 n → H559.2.2.1 85 0 z = H.2.2.1 85 0 z := fun z hz => (show H559.2.2.1 85 0 z = H532.2.2.1 85 0 z from by subst hH559; rfl).trans (cM z hz)
        have g565 : H559.2.2.1 80 0 (n) = (1 : Int) := by subst hH559; exact if_pos rfl
        have g566 : H559.1 11 12 0 = H532.1 11 12 0 := by subst hH559; rfl
        have g567 : H559.1 11 19 0 = H532.1 11 19 0 := by subst hH559; rfl
        have g568 : H559.2.2.1 84 0 (n) = H532.2.2.1 84 0 (n) := by subst hH559; rfl
        have g569 : H559.2.2.1 83 0 (n) = H532.2.2.1 83 0 (n) := by subst hH559; rfl
        have g570 : H559.2.2.1 94 0 (((128 : Int) * n) + (H.2.2.1 83 0 (n))) = H532.2.2.1 94 0 (((128 : Int) * n) + (H.2.2.1 83 0 (n))) := by subst hH559; rfl
        have g571 : H559.2.2.1 93 0 (((128 : Int) * n) + (H.2.2.1 83 0 (n))) = H532.2.2.1 93 0 (((128 : Int) * n) + (H.2.2.1 83 0 (n))) := by subst hH559; rfl
        have g572 : H559.2.2.1 92 0 (((128 : Int) * n) + (H.2.2.1 83 0 (n))) = H532.2.2.1 92 0 (((128 : Int) * n) + (H.2.2.1 83 0 (n))) := by subst hH559; rfl
        have g573 : H559.2.2.1 91 0 (((128 : Int) * n) + (H.2.2.1 83 0 (n))) = H532.2.2.1 91 0 (((128 : Int) * n) + (H.2.2.1 83 0 (n))) := by subst hH559; rfl
        have g574 : H559.2.2.1 90 0 (((128 : Int) * n) + (H.2.2.1 83 0 (n))) = H532.2.2.1 90 0 (((128 : Int) * n) + (H.2.2.1 83 0 (n))) := by subst hH559; rfl
        have g575 : H559.2.2.1 89 0 (((128 : Int) * n) + (H.2.2.1 83 0 (n))) = H532.2.2.1 89 0 (((128 : Int) * n) + (H.2.2.1 83 0 (n))) := by subst hH559; rfl
        have g576 : H559.2.2.1 88 0 (((128 : Int) * n) + (H.2.2.1 83 0 (n))) = H532.2.2.1 88 0 (((128 : Int) * n) + (H.2.2.1 83 0 (n))) := by subst hH559; rfl
        have g577 : H559.2.2.1 87 0 (((128 : Int) * n) + (H.2.2.1 83 0 (n))) = H532.2.2.1 87 0 (((128 : Int) * n) + (H.2.2.1 83 0 (n))) := by subst hH559; rfl
        have g578 : H559.2.2.1 86 0 (((128 : Int) * n) + (H.2.2.1 83 0 (n))) = H532.2.2.1 86 0 (((128 : Int) * n) + (H.2.2.1 83 0 (n))) := by subst hH559; rfl
        have g579 : H559.2.2.1 85 0 (((128 : Int) * n) + (H.2.2.1 83 0 (n))) = H532.2.2.1 85 0 (((128 : Int) * n) + (H.2.2.1 83 0 (n))) := by subst hH559; rfl
        have g580 : H559.2.2.1 82 0 (n) = H532.2.2.1 82 0 (n) := by subst hH559; rfl
        have g581 : H559.2.2.1 73 0 (n) = H532.2.2.1 73 0 (n) := by subst hH559; rfl
        have g582 : H559.2.2.1 74 0 (n) = H532.2.2.1 74 0 (n) := by subst hH559; rfl
        have g583 : H559.2.2.1 75 0 (n) = H532.2.2.1 75 0 (n) := by subst hH559; rfl
        have g584 : H559.2.2.1 76 0 (n) = H532.2.2.1 76 0 (n) := by subst hH559; rfl
        have g585 : H559.2.2.1 77 0 (n) = H532.2.2.1 77 0 (n) := by subst hH559; rfl
        have g586 : H559.2.2.1 78 0 (n) = H532.2.2.1 78 0 (n) := by subst hH559; rfl
        clear hH559
        refine J.run0 2 rfl ?_
        try dsimp only
        refine J.inv rfl rfl rfl rfl rfl rfl jDr rfl rfl rfl rfl rfl (g_forget (n := n) hT560  (show 0 ≤ (n) ∧ (n) < 16 from ⟨by omega, by omega⟩) k562 k563) ?_
        rintro v w H589 ⟨rfl, hT590, ehE591, p592, p593, p594, p595, rfl⟩
        have hE591 := jEx.trans ehE591 hE561 (by decide) (by decide)
        have p592' : gK H589 := p592
        have p593' : gN H589 := p593
        have p594' : H589.2.2.1 71 0 ((n)) = 0 := p594
        have p595' : H589.2.2.1 71 0 = jup (H559.2.2.1 71 0) ((n)) 0 := p595
        have pL_forget_0 := p592'
        have pL_forget_1 := p593'
        have pL_forget_2 := p594'
        have pL_forget_3 := p595'
        have k596 : gU H589 u := gU.ex k564 ehE591 (by decide)
        have g597 : H589.1 11 12 0 = H559.1 11 12 0 := ehE591.v 12 (by decide)
        have g598 : H589.1 11 19 0 = H559.1 11 19 0 := ehE591.v 19 (by decide)
        have cR := (ehE591.r 83 (by decide)).trans cR
        have cO := (ehE591.r 73 (by decide)).trans cO
        have cS := (ehE591.r 74 (by decide)).trans cS
        have cW := (ehE591.r 87 (by decide)).trans cW
        have cT := (ehE591.r 90 (by decide)).trans cT
        have cD := (ehE591.r 80 (by decide)).trans cD
        have cF := (ehE591.r 79 (by decide)).trans cF
        have cN : H589.2.2.1 71 0 = jup (H.2.2.1 71 0) n 0 := pL_forget_3.trans (by rw [cN])
        have cM : ∀ z, z ≠ 128 * n + H.2.2.1 83 0 n → H589.2.2.1 85 0 z = H.2.2.1 85 0 z := fun z hz => (congrFun (ehE591.r 85 (by decide)) z).trans (cM z hz)
        have g599 : H589.2.2.1 80 0 (n) = H559.2.2.1 80 0 (n) := congrFun (ehE591.r 80 (by decide)) _
        have g600 : H589.2.2.1 84 0 (n) = H559.2.2.1 84 0 (n) := congrFun (ehE591.r 84 (by decide)) _
        have g601 : H589.2.2.1 83 0 (n) = H559.2.2.1 83 0 (n) := congrFun (ehE591.r 83 (by decide)) _
        have g602 : H589.2.2.1 94 0 (((128 : Int) * n) + (H.2.2.1 83 0 (n))) = H559.2.2.1 94 0 (((128 : Int) * n) + (H.2.2.1 83 0 (n))) := congrFun (ehE591.r 94 (by decide)) _
        have g603 : H589.2.2.1 93 0 (((128 : Int) * n) + (H.2.2.1 83 0 (n))) = H559.2.2.1 93 0 (((128 : Int) * n) + (H.2.2.1 83 0 (n))) := congrFun (ehE591.r 93 (by decide)) _
        have g604 : H589.2.2.1 92 0 (((128 : Int) * n) + (H.2.2.1 83 0 (n))) = H559.2.2.1 92 0 (((128 : Int) * n) + (H.2.2.1 83 0 (n))) := congrFun (ehE591.r 92 (by decide)) _
        have g605 : H589.2.2.1 91 0 (((128 : Int) * n) + (H.2.2.1 83 0 (n))) = H559.2.2.1 91 0 (((128 : Int) * n) + (H.2.2.1 83 0 (n))) := congrFun (ehE591.r 91 (by decide)) _
        have g606 : H589.2.2.1 90 0 (((128 : Int) * n) + (H.2.2.1 83 0 (n))) = H559.2.2.1 90 0 (((128 : Int) * n) + (H.2.2.1 83 0 (n))) := congrFun (ehE591.r 90 (by decide)) _
        have g607 : H589.2.2.1 89 0 (((128 : Int) * n) + (H.2.2.1 83 0 (n))) = H559.2.2.1 89 0 (((128 : Int) * n) + (H.2.2.1 83 0 (n))) := congrFun (ehE591.r 89 (by decide)) _
        have g608 : H589.2.2.1 88 0 (((128 : Int) * n) + (H.2.2.1 83 0 (n))) = H559.2.2.1 88 0 (((128 : Int) * n) + (H.2.2.1 83 0 (n))) := congrFun (ehE591.r 88 (by decide)) _
        have g609 : H589.2.2.1 87 0 (((128 : Int) * n) + (H.2.2.1 83 0 (n))) = H559.2.2.1 87 0 (((128 : Int) * n) + (H.2.2.1 83 0 (n))) := congrFun (ehE591.r 87 (by decide)) _
        have g610 : H589.2.2.1 86 0 (((128 : Int) * n) + (H.2.2.1 83 0 (n))) = H559.2.2.1 86 0 (((128 : Int) * n) + (H.2.2.1 83 0 (n))) := congrFun (ehE591.r 86 (by decide)) _
        have g611 : H589.2.2.1 85 0 (((128 : Int) * n) + (H.2.2.1 83 0 (n))) = H559.2.2.1 85 0 (((128 : Int) * n) + (H.2.2.1 83 0 (n))) := congrFun (ehE591.r 85 (by decide)) _
        have g612 : H589.2.2.1 82 0 (n) = H559.2.2.1 82 0 (n) := congrFun (ehE591.r 82 (by decide)) _
        have g613 : H589.2.2.1 73 0 (n) = H559.2.2.1 73 0 (n) := congrFun (ehE591.r 73 (by decide)) _
        have g614 : H589.2.2.1 74 0 (n) = H559.2.2.1 74 0 (n) := congrFun (ehE591.r 74 (by decide)) _
        have g615 : H589.2.2.1 75 0 (n) = H559.2.2.1 75 0 (n) := congrFun (ehE591.r 75 (by decide)) _
        have g616 : H589.2.2.1 76 0 (n) = H559.2.2.1 76 0 (n) := congrFun (ehE591.r 76 (by decide)) _
        have g617 : H589.2.2.1 77 0 (n) = H559.2.2.1 77 0 (n) := congrFun (ehE591.r 77 (by decide)) _
        have g618 : H589.2.2.1 78 0 (n) = H559.2.2.1 78 0 (n) := congrFun (ehE591.r 78 (by decide)) _
        have eL_forget := ehE591
        try dsimp only [Option.toList, List.append, List.cons_append, List.nil_append]
        refine J.run0 1 rfl ?_
        try dsimp only
        exact J.retb rfl rfl rfl (show (0 : Int) = 0 ∨ (0 : Int) = 1 by omega) ⟨_, rfl, rfl, hT590, hE591, p592, p593, k596, (show gB H589 by first | exact gB.rec hp9 hp10 cF (Or.inl ⟨cD, cN⟩) | exact gB.rec hp9 hp10 cF (Or.inr ⟨cD, cN⟩) | (exfalso; omega)), _, rfl, (show (((0 : Int)) = 0 ∨ ((0 : Int)) = 1) ∧ (((0 : Int)) = 1 → gW H589 (H.1 11 19 0 + 1)) ∧ (((0 : Int)) = 0 → gW H589 (H.1 11 19 0)) ∧ (((0 : Int)) = 1 → H589.2.2.1 80 0 (n) = H.2.2.1 80 0 (n)) from (by first | exact ⟨Or.inr rfl, fun _ => gW.rec (by omega) hp8 hT hp0 hp7 (by omega) cR cO cS cW cT cM (Or.inr ⟨by omega, by omega⟩) (by omega) (by omega), fun z => absurd z (by omega), fun _ => congrFun cD n⟩ | exact ⟨Or.inl rfl, fun z => absurd z (by omega), fun _ => gW.rec (by omega) hp8 hT hp0 hp7 (by omega) cR cO cS cW cT cM (Or.inl (by omega)) (by omega) (by omega), fun z => absurd z (by omega)⟩ | exact ⟨Or.inl rfl, fun z => absurd z (by omega), fun _ => gW.not hp8 hT hp0 cR cO cS cW cT cM, fun z => absurd z (by omega)⟩ | (exfalso; omega)))⟩
    · have c619 : ¬ (H.2.2.1 82 0 (n) ≤ (12 : Int)) := hc
      clear hc
      have f620 : 0 ≤ H415.1 11 19 0 ∧ H415.1 11 19 0 ≤ 6000 := hT416.2.1 19
      refine J.run 6 rfl (show 0 ≤ ((128 : Int) * n) + (H.2.2.1 83 0 (n)) ∧ ((128 : Int) * n) + (H.2.2.1 83 0 (n)) < 2048 from ⟨by omega, by omega⟩) ?_
      try dsimp only
      refine J.gn fun H621 hH621 => ?_
      have hT622 : gT H621 := by rw [hH621]; exact gT.upd hT416 (show -1 ≤ H415.1 11 19 0 ∧ H415.1 11 19 0 ≤ 5999 from ⟨by omega, by omega⟩) (fun z => absurd z (by decide))
      have hE623 : jEx [] [82, 83, 84, 80, 114, 71, 113, 85, 86, 87, 88, 89, 90, 91, 92, 93, 94] H621 H := by rw [hH621]; exact jEx.row hE417 (by decide)
      have k624 : gK H621 := by rw [hH621]; exact k418
      have k625 : gN H621 := by rw [hH621]; exact k419
      have k626 : gU H621 u := by rw [hH621]; exact k420
      have cR := (show H621.2.2.1 83 0 = H415.2.2.1 83 0 from by subst hH621; rfl).trans cR
      have cO := (show H621.2.2.1 73 0 = H415.2.2.1 73 0 from by subst hH621; rfl).trans cO
      have cS := (show H621.2.2.1 74 0 = H415.2.2.1 74 0 from by subst hH621; rfl).trans cS
      have cW := (show H621.2.2.1 87 0 = H415.2.2.1 87 0 from by subst hH621; rfl).trans cW
      have cT := (show H621.2.2.1 90 0 = H415.2.2.1 90 0 from by subst hH621; rfl).trans cT
      have cD := (show H621.2.2.1 80 0 = H415.2.2.1 80 0 from by subst hH621; rfl).trans cD
      have cF := (show H621.2.2.1 79 0 = H415.2.2.1 79 0 from by subst hH621; rfl).trans cF
      have cN := (show H621.2.2.1 71 0 = H415.2.2.1 71 0 from by subst hH621; rfl).trans cN
      have cM : ∀ z, z ≠ 128 * n + H.2.2.1 83 0 n → H621.2.2.1 85 0 z = H.2.2.1 85 0 z := fun z hz => (show H621.2.2.1 85 0 z = H415.2.2.1 85 0 z from by subst hH621; exact if_neg hz).trans (cM z hz)
      have g627 : H621.2.2.1 85 0 (((128 : Int) * n) + (H.2.2.1 83 0 (n))) = H415.1 11 19 0 := by subst hH621; exact if_pos rfl
      have g628 : H621.1 11 12 0 = H415.1 11 12 0 := by subst hH621; rfl
      have g629 : H621.1 11 19 0 = H415.1 11 19 0 := by subst hH621; rfl
      have g630 : H621.2.2.1 83 0 (n) = H415.2.2.1 83 0 (n) := by subst hH621; rfl
      have g631 : H621.2.2.1 94 0 (((128 : Int) * n) + (H.2.2.1 83 0 (n))) = H415.2.2.1 94 0 (((128 : Int) * n) + (H.2.2.1 83 0 (n))) := by subst hH621; rfl
      have g632 : H621.2.2.1 93 0 (((128 : Int) * n) + (H.2.2.1 83 0 (n))) = H415.2.2.1 93 0 (((128 : Int) * n) + (H.2.2.1 83 0 (n))) := by subst hH621; rfl
      have g633 : H621.2.2.1 92 0 (((128 : Int) * n) + (H.2.2.1 83 0 (n))) = H415.2.2.1 92 0 (((128 : Int) * n) + (H.2.2.1 83 0 (n))) := by subst hH621; rfl
      have g634 : H621.2.2.1 91 0 (((128 : Int) * n) + (H.2.2.1 83 0 (n))) = H415.2.2.1 91 0 (((128 : Int) * n) + (H.2.2.1 83 0 (n))) := by subst hH621; rfl
      have g635 : H621.2.2.1 90 0 (((128 : Int) * n) + (H.2.2.1 83 0 (n))) = H415.2.2.1 90 0 (((128 : Int) * n) + (H.2.2.1 83 0 (n))) := by subst hH621; rfl
      have g636 : H621.2.2.1 89 0 (((128 : Int) * n) + (H.2.2.1 83 0 (n))) = H415.2.2.1 89 0 (((128 : Int) * n) + (H.2.2.1 83 0 (n))) := by subst hH621; rfl
      have g637 : H621.2.2.1 88 0 (((128 : Int) * n) + (H.2.2.1 83 0 (n))) = H415.2.2.1 88 0 (((128 : Int) * n) + (H.2.2.1 83 0 (n))) := by subst hH621; rfl
      have g638 : H621.2.2.1 87 0 (((128 : Int) * n) + (H.2.2.1 83 0 (n))) = H415.2.2.1 87 0 (((128 : Int) * n) + (H.2.2.1 83 0 (n))) := by subst hH621; rfl
      have g639 : H621.2.2.1 86 0 (((128 : Int) * n) + (H.2.2.1 83 0 (n))) = H415.2.2.1 86 0 (((128 : Int) * n) + (H.2.2.1 83 0 (n))) := by subst hH621; rfl
      have g641 : H621.2.2.1 82 0 (n) = H415.2.2.1 82 0 (n) := by subst hH621; rfl
      have g642 : H621.2.2.1 73 0 (n) = H415.2.2.1 73 0 (n) := by subst hH621; rfl
      have g643 : H621.2.2.1 74 0 (n) = H415.2.2.1 74 0 (n) := by subst hH621; rfl
      have g644 : H621.2.2.1 75 0 (n) = H415.2.2.1 75 0 (n) := by subst hH621; rfl
      have g645 : H621.2.2.1 76 0 (n) = H415.2.2.1 76 0 (n) := by subst hH621; rfl
      have g646 : H621.2.2.1 77 0 (n) = H415.2.2.1 77 0 (n) := by subst hH621; rfl
      have g647 : H621.2.2.1 78 0 (n) = H415.2.2.1 78 0 (n) := by subst hH621; rfl
      clear hH621
      refine J.run0 1 rfl ?_
      try dsimp only
      exact J.retb rfl rfl rfl (show (1 : Int) = 0 ∨ (1 : Int) = 1 by omega) ⟨_, rfl, rfl, hT622, hE623, k624, k625, k626, (show gB H621 by first | exact gB.rec hp9 hp10 cF (Or.inl ⟨cD, cN⟩) | exact gB.rec hp9 hp10 cF (Or.inr ⟨cD, cN⟩) | (exfalso; omega)), _, rfl, (show (((1 : Int)) = 0 ∨ ((1 : Int)) = 1) ∧ (((1 : Int)) = 1 → gW H621 (H.1 11 19 0 + 1)) ∧ (((1 : Int)) = 0 → gW H621 (H.1 11 19 0)) ∧ (((1 : Int)) = 1 → H621.2.2.1 80 0 (n) = H.2.2.1 80 0 (n)) from (by first | exact ⟨Or.inr rfl, fun _ => gW.rec (by omega) hp8 hT hp0 hp7 (by omega) cR cO cS cW cT cM (Or.inr ⟨by omega, by omega⟩) (by omega) (by omega), fun z => absurd z (by omega), fun _ => congrFun cD n⟩ | exact ⟨Or.inl rfl, fun z => absurd z (by omega), fun _ => gW.rec (by omega) hp8 hT hp0 hp7 (by omega) cR cO cS cW cT cM (Or.inl (by omega)) (by omega) (by omega), fun z => absurd z (by omega)⟩ | exact ⟨Or.inl rfl, fun z => absurd z (by omega), fun _ => gW.not hp8 hT hp0 cR cO cS cW cT cM, fun z => absurd z (by omega)⟩ | (exfalso; omega)))⟩
end
