-- M: X11_fault
section
variable {d : Nat} {w : jW} 
-- 
theorem g_fault {n : Int} {H : jH} (hT : gT H) (k0gP : gP H) (k0gX : gX H) (k0gL : gL H) (k0gZ : gZ H) (k0gQ : gQ H) (k0gK : gK H) (k0gN : gN H) (k0gW : gW H (H.1 11 19 0)) (k0gB : gB H) (hp0 : -2147483648 ≤ n ∧ n ≤ 2147483647) : J true (d + 1) 147 w (0, jargs 0 [jT, .inl n], [], H) (jN fun v w' H' => w' = w ∧ gT H' ∧ jEx [47] [79, 80] H' H ∧ gP H' ∧ gX H' ∧ gL H' ∧ gZ H' ∧ gQ H' ∧ gK H' ∧ gN H' ∧ gW H' (H'.1 11 19 0) ∧ gB H' ∧ ∃ x, v = some (.inl x) ∧ (¬ (0 ≤ n ∧ n ≤ 15) → x = 0 ∧ H'.1 11 47 0 = 1 ∧ H'.2.2.1 79 0 = H.2.2.1 79 0) ∧ (0 ≤ n ∧ n ≤ 15 → x = jcnt (H'.2.2.1 79 0) 16 ∧ H'.1 11 47 0 = 0 ∧ H'.2.2.1 79 0 = jup (H.2.2.1 79 0) n 1)) := by
  have rA : H.2.2.1 79 0 = H.2.2.1 79 0 ∧ H.2.2.1 80 0 = H.2.2.1 80 0 ∧ H.2.2.1 71 0 = H.2.2.1 71 0 := ⟨rfl, rfl, rfl⟩
  have hE : jEx [47] [79, 80] H H := jEx.refl _ _ _
  refine J.run0 4 rfl ?_
  try dsimp only
  refine J.ins rfl rfl rfl rfl rfl rfl rfl rfl rfl (g_in (u := n) (a := (0 : Int)) (b := (15 : Int)) hT  (show -2147483648 ≤ (n) ∧ (n) ≤ 2147483647 from ⟨by omega, by omega⟩) (show -2147483648 ≤ ((0 : Int)) ∧ ((0 : Int)) ≤ 2147483647 from ⟨by omega, by omega⟩) (show -2147483648 ≤ ((15 : Int)) ∧ ((15 : Int)) ≤ 2147483647 from ⟨by omega, by omega⟩)) ?_
  rintro v w H ⟨rfl, rfl, x1, rfl, r2⟩
  have r2' : (x1 = 0 ∨ x1 = 1) ∧ (x1 = 1 → (n) ≥ ((0 : Int)) ∧ (n) ≤ ((15 : Int))) ∧ (x1 = 0 → (n) < ((0 : Int)) ∨ ((15 : Int)) < (n)) := r2
  have rL_in := r2'
  try dsimp only [Option.toList, List.append, List.cons_append, List.nil_append]
  refine J.ifc rfl rfl rfl (show -2147483648 ≤ x1 ∧ x1 ≤ 2147483647 from ⟨by omega, by omega⟩) (fun hc => ?_) (fun hc => ?_)
  · have c3 : x1 = (0 : Int) := hc
    clear hc
    refine J.run0 2 rfl ?_
    try dsimp only
    refine J.gn fun H4 hH4 => ?_
    have hT5 : gT H4 := by rw [hH4]; exact gT.num (f := 47) hT (show 0 ≤ (1 : Int) ∧ (1 : Int) ≤ 3 from ⟨by omega, by omega⟩) (by decide) (fun z => absurd z (by decide))
    have hE6 : jEx [47] [79, 80] H4 H := by rw [hH4]; exact jEx.num hE (by decide)
    have k7 : gP H4 := by rw [hH4]; exact k0gP
    have k8 : gX H4 := by rw [hH4]; exact k0gX
    have k9 : gL H4 := by rw [hH4]; exact k0gL
    have k10 : gZ H4 := by rw [hH4]; exact k0gZ
    have k11 : gQ H4 := by rw [hH4]; exact k0gQ
    have k12 : gK H4 := by rw [hH4]; exact k0gK
    have k13 : gN H4 := by rw [hH4]; exact k0gN
    have k14 : gW H4 (H4.1 11 19 0) := by rw [hH4]; exact k0gW
    have rA : H4.2.2.1 79 0 = H.2.2.1 79 0 ∧ H4.2.2.1 80 0 = H.2.2.1 80 0 ∧ H4.2.2.1 71 0 = H.2.2.1 71 0 := by subst hH4; exact rA
    have hE1' : jEx [47] [] H4 H := by rw [hH4]; exact jEx.num (jEx.refl _ _ _) (by decide)
    have g15 : H4.1 11 47 0 = (1 : Int) := by subst hH4; rfl
    have g16 : H4.1 11 12 0 = H.1 11 12 0 := by subst hH4; rfl
    clear hH4
    have f17 : 0 ≤ H4.1 11 47 0 ∧ H4.1 11 47 0 ≤ 3 := hT5.2.1 47
    refine J.run0 2 rfl ?_
    try dsimp only
    refine J.ifc rfl rfl rfl (show -2147483648 ≤ H4.1 11 47 0 ∧ H4.1 11 47 0 ≤ 2147483647 from ⟨by omega, by omega⟩) (fun hc => ?_) (fun hc => ?_)
    · have c18 : H4.1 11 47 0 ≤ (0 : Int) := hc
      clear hc
      refine J.run 5 rfl (show ((1 : Int) = 0 ∨ (1 : Int) = 1) ∧ 0 ≤ n ∧ n < 16 from ⟨by omega, by omega, by omega⟩) ?_
      try dsimp only
      refine J.gn fun H19 hH19 => ?_
      have hT20 : gT H19 := by rw [hH19]; exact gT.upd hT5 (show 0 ≤ (1 : Int) ∧ (1 : Int) ≤ 1 from ⟨by omega, by omega⟩) (fun z => absurd z (by decide))
      have hE21 : jEx [47] [79, 80] H19 H := by rw [hH19]; exact jEx.row hE6 (by decide)
      have k22 : gP H19 := by rw [hH19]; exact k7
      have k23 : gX H19 := by rw [hH19]; exact k8
      have k24 : gL H19 := by rw [hH19]; exact k9
      have k25 : gZ H19 := by rw [hH19]; exact k10
      have k26 : gQ H19 := by rw [hH19]; exact k11
      have k27 : gK H19 := by rw [hH19]; exact k12
      have k28 : gN H19 := by rw [hH19]; exact k13
      have k29 : gW H19 (H19.1 11 19 0) := by rw [hH19]; exact k14
      have rA : H19.2.2.1 79 0 = jup (H.2.2.1 79 0) (n) ((1 : Int)) ∧ H19.2.2.1 80 0 = H.2.2.1 80 0 ∧ H19.2.2.1 71 0 = H.2.2.1 71 0 := by subst hH19; exact ⟨(show jup (H4.2.2.1 79 0) (n) ((1 : Int)) = _ by rw [rA.1]), rA.2⟩
      have g30 : H19.2.2.1 79 0 (n) = (1 : Int) := by subst hH19; exact if_pos rfl
      have g31 : H19.1 11 12 0 = H4.1 11 12 0 := by subst hH19; rfl
      have g32 : H19.1 11 47 0 = H4.1 11 47 0 := by subst hH19; rfl
      clear hH19
      refine J.run 5 rfl (show ((0 : Int) = 0 ∨ (0 : Int) = 1) ∧ 0 ≤ n ∧ n < 16 from ⟨by omega, by omega, by omega⟩) ?_
      try dsimp only
      refine J.gn fun H33 hH33 => ?_
      have hT34 : gT H33 := by rw [hH33]; exact gT.upd hT20 (show 0 ≤ (0 : Int) ∧ (0 : Int) ≤ 1 from ⟨by omega, by omega⟩) (fun z => absurd z (by decide))
      have hE35 : jEx [47] [79, 80] H33 H := by rw [hH33]; exact jEx.row hE21 (by decide)
      have k36 : gP H33 := by rw [hH33]; exact k22
      have k37 : gX H33 := by rw [hH33]; exact k23
      have k38 : gL H33 := by rw [hH33]; exact k24
      have k39 : gZ H33 := by rw [hH33]; exact k25
      have k40 : gQ H33 := by rw [hH33]; exact k26
      have k41 : gK H33 := by rw [hH33]; exact k27
      have k42 : gN H33 := by rw [hH33]; exact k28
      have k43 : gW H33 (H33.1 11 19 0) := by rw [hH33]; exact k29
      have rA : H33.2.2.1 79 0 = jup (H.2.2.1 79 0) n 1 ∧ H33.2.2.1 80 0 = jup (H.2.2.1 80 0) (n) ((0 : Int)) ∧ H33.2.2.1 71 0 = H.2.2.1 71 0 := by subst hH33; exact ⟨rA.1, (show jup (H19.2.2.1 80 0) (n) ((0 : Int)) = _ by rw [rA.2.1]), rA.2.2⟩
      have g44 : H33.2.2.1 80 0 (n) = (0 : Int) := by subst hH33; exact if_pos rfl
      have g45 : H33.1 11 12 0 = H19.1 11 12 0 := by subst hH33; rfl
      have g46 : H33.1 11 47 0 = H19.1 11 47 0 := by subst hH33; rfl
      have g47 : H33.2.2.1 79 0 (n) = H19.2.2.1 79 0 (n) := by subst hH33; rfl
      clear hH33
      refine J.run0 1 rfl ?_
      try dsimp only
      refine J.inv rfl rfl rfl rfl rfl rfl jDr rfl rfl rfl rfl rfl (g_faulty  hT34  ) ?_
      rintro v w H33 ⟨rfl, rfl, x48, rfl, r49⟩
      have r49' : x48 = jcnt (H33.2.2.1 79 0) 16 ∧ 0 ≤ x48 ∧ x48 ≤ 16 := r49
      have rL_faulty := r49'
      try dsimp only [Option.toList, List.append, List.cons_append, List.nil_append]
      exact J.reti rfl rfl rfl ⟨_, rfl, rfl, hT34, hE35, k36, k37, k38, k39, k40, k41, k42, k43, (show gB H33 by first | exact gB.ex k0gB hE1' (by decide) | exact gB.fault k0gB rA.1 rA.2.1 rA.2.2), _, rfl, (show (¬ (0 ≤ n ∧ n ≤ 15) → (x48) = 0 ∧ H33.1 11 47 0 = 1 ∧ H33.2.2.1 79 0 = H.2.2.1 79 0) ∧ (0 ≤ n ∧ n ≤ 15 → (x48) = jcnt (H33.2.2.1 79 0) 16 ∧ H33.1 11 47 0 = 0 ∧ H33.2.2.1 79 0 = jup (H.2.2.1 79 0) n 1) from (by first | exact ⟨fun _ => ⟨by omega, by omega, rA.1⟩, fun hz => absurd hz (by omega)⟩ | exact ⟨fun hz => absurd (show 0 ≤ n ∧ n ≤ 15 from ⟨by omega, by omega⟩) hz, fun _ => ⟨by omega, by omega, rA.1⟩⟩))⟩
    · have c50 : ¬ (H4.1 11 47 0 ≤ (0 : Int)) := hc
      clear hc
      refine J.run0 1 rfl ?_
      try dsimp only
      exact J.reti rfl rfl rfl ⟨_, rfl, rfl, hT5, hE6, k7, k8, k9, k10, k11, k12, k13, k14, (show gB H4 by first | exact gB.ex k0gB hE1' (by decide) | exact gB.fault k0gB rA.1 rA.2.1 rA.2.2), _, rfl, (show (¬ (0 ≤ n ∧ n ≤ 15) → ((0 : Int)) = 0 ∧ H4.1 11 47 0 = 1 ∧ H4.2.2.1 79 0 = H.2.2.1 79 0) ∧ (0 ≤ n ∧ n ≤ 15 → ((0 : Int)) = jcnt (H4.2.2.1 79 0) 16 ∧ H4.1 11 47 0 = 0 ∧ H4.2.2.1 79 0 = jup (H.2.2.1 79 0) n 1) from (by first | exact ⟨fun _ => ⟨by omega, by omega, rA.1⟩, fun hz => absurd hz (by omega)⟩ | exact ⟨fun hz => absurd (show 0 ≤ n ∧ n ≤ 15 from ⟨by omega, by omega⟩) hz, fun _ => ⟨by omega, by omega, rA.1⟩⟩))⟩
  · have c51 : ¬ (x1 = (0 : Int)) := hc
    clear hc
    refine J.run0 3 rfl ?_
    try dsimp only
    refine J.gn fun H52 hH52 => ?_
    have hT53 : gT H52 := by rw [hH52]; exact gT.num (f := 47) hT (show 0 ≤ (0 : Int) ∧ (0 : Int) ≤ 3 from ⟨by omega, by omega⟩) (by decide) (fun z => absurd z (by decide))
    have hE54 : jEx [47] [79, 80] H52 H := by rw [hH52]; exact jEx.num hE (by decide)
    have k55 : gP H52 := by rw [hH52]; exact k0gP
    have k56 : gX H52 := by rw [hH52]; exact k0gX
    have k57 : gL H52 := by rw [hH52]; exact k0gL
    have k58 : gZ H52 := by rw [hH52]; exact k0gZ
    have k59 : gQ H52 := by rw [hH52]; exact k0gQ
    have k60 : gK H52 := by rw [hH52]; exact k0gK
    have k61 : gN H52 := by rw [hH52]; exact k0gN
    have k62 : gW H52 (H52.1 11 19 0) := by rw [hH52]; exact k0gW
    have rA : H52.2.2.1 79 0 = H.2.2.1 79 0 ∧ H52.2.2.1 80 0 = H.2.2.1 80 0 ∧ H52.2.2.1 71 0 = H.2.2.1 71 0 := by subst hH52; exact rA
    have hE1' : jEx [47] [] H52 H := by rw [hH52]; exact jEx.num (jEx.refl _ _ _) (by decide)
    have g63 : H52.1 11 47 0 = (0 : Int) := by subst hH52; rfl
    have g64 : H52.1 11 12 0 = H.1 11 12 0 := by subst hH52; rfl
    clear hH52
    have f65 : 0 ≤ H52.1 11 47 0 ∧ H52.1 11 47 0 ≤ 3 := hT53.2.1 47
    refine J.run0 2 rfl ?_
    try dsimp only
    refine J.ifc rfl rfl rfl (show -2147483648 ≤ H52.1 11 47 0 ∧ H52.1 11 47 0 ≤ 2147483647 from ⟨by omega, by omega⟩) (fun hc => ?_) (fun hc => ?_)
    · have c66 : H52.1 11 47 0 ≤ (0 : Int) := hc
      clear hc
      refine J.run 5 rfl (show ((1 : Int) = 0 ∨ (1 : Int) = 1) ∧ 0 ≤ n ∧ n < 16 from ⟨by omega, by omega, by omega⟩) ?_
      try dsimp only
      refine J.gn fun H67 hH67 => ?_
      have hT68 : gT H67 := by rw [hH67]; exact gT.upd hT53 (show 0 ≤ (1 : Int) ∧ (1 : Int) ≤ 1 from ⟨by omega, by omega⟩) (fun z => absurd z (by decide))
      have hE69 : jEx [47] [79, 80] H67 H := by rw [hH67]; exact jEx.row hE54 (by decide)
      have k70 : gP H67 := by rw [hH67]; exact k55
      have k71 : gX H67 := by rw [hH67]; exact k56
      have k72 : gL H67 := by rw [hH67]; exact k57
      have k73 : gZ H67 := by rw [hH67]; exact k58
      have k74 : gQ H67 := by rw [hH67]; exact k59
      have k75 : gK H67 := by rw [hH67]; exact k60
      have k76 : gN H67 := by rw [hH67]; exact k61
      have k77 : gW H67 (H67.1 11 19 0) := by rw [hH67]; exact k62
      have rA : H67.2.2.1 79 0 = jup (H.2.2.1 79 0) (n) ((1 : Int)) ∧ H67.2.2.1 80 0 = H.2.2.1 80 0 ∧ H67.2.2.1 71 0 = H.2.2.1 71 0 := by subst hH67; exact ⟨(show jup (H52.2.2.1 79 0) (n) ((1 : Int)) = _ by rw [rA.1]), rA.2⟩
      have g78 : H67.2.2.1 79 0 (n) = (1 : Int) := by subst hH67; exact if_pos rfl
      have g79 : H67.1 11 12 0 = H52.1 11 12 0 := by subst hH67; rfl
      have g80 : H67.1 11 47 0 = H52.1 11 47 0 := by subst hH67; rfl
      clear hH67
      refine J.run 5 rfl (show ((0 : Int) = 0 ∨ (0 : Int) = 1) ∧ 0 ≤ n ∧ n < 16 from ⟨by omega, by omega, by omega⟩) ?_
      try dsimp only
      refine J.gn fun H81 hH81 => ?_
      have hT82 : gT H81 := by rw [hH81]; exact gT.upd hT68 (show 0 ≤ (0 : Int) ∧ (0 : Int) ≤ 1 from ⟨by omega, by omega⟩) (fun z => absurd z (by decide))
      have hE83 : jEx [47] [79, 80] H81 H := by rw [hH81]; exact jEx.row hE69 (by decide)
      have k84 : gP H81 := by rw [hH81]; exact k70
      have k85 : gX H81 := by rw [hH81]; exact k71
      have k86 : gL H81 := by rw [hH81]; exact k72
      have k87 : gZ H81 := by rw [hH81]; exact k73
      have k88 : gQ H81 := by rw [hH81]; exact k74
      have k89 : gK H81 := by rw [hH81]; exact k75
      have k90 : gN H81 := by rw [hH81]; exact k76
      have k91 : gW H81 (H81.1 11 19 0) := by rw [hH81]; exact k77
      have rA : H81.2.2.1 79 0 = jup (H.2.2.1 79 0) n 1 ∧ H81.2.2.1 80 0 = jup (H.2.2.1 80 0) (n) ((0 : Int)) ∧ H81.2.2.1 71 0 = H.2.2.1 71 0 := by subst hH81; exact ⟨rA.1, (show jup (H67.2.2.1 80 0) (n) ((0 : Int)) = _ by rw [rA.2.1]), rA.2.2⟩
      have g92 : H81.2.2.1 80 0 (n) = (0 : Int) := by subst hH81; exact if_pos rfl
      have g93 : H81.1 11 12 0 = H67.1 11 12 0 := by subst hH81; rfl
      have g94 : H81.1 11 47 0 = H67.1 11 47 0 := by subst hH81; rfl
      have g95 : H81.2.2.1 79 0 (n) = H67.2.2.1 79 0 (n) := by subst hH81; rfl
      clear hH81
      refine J.run0 1 rfl ?_
      try dsimp only
      refine J.inv rfl rfl rfl rfl rfl rfl jDr rfl rfl rfl rfl rfl (g_faulty  hT82  ) ?_
      rintro v w H81 ⟨rfl, rfl, x96, rfl, r97⟩
      have r97' : x96 = jcnt (H81.2.2.1 79 0) 16 ∧ 0 ≤ x96 ∧ x96 ≤ 16 := r97
      have rL_faulty := r97'
      try dsimp only [Option.toList, List.append, List.cons_append, List.nil_append]
      exact J.reti rfl rfl rfl ⟨_, rfl, rfl, hT82, hE83, k84, k85, k86, k87, k88, k89, k90, k91, (show gB H81 by first | exact gB.ex k0gB hE1' (by decide) | exact gB.fault k0gB rA.1 rA.2.1 rA.2.2), _, rfl, (show (¬ (0 ≤ n ∧ n ≤ 15) → (x96) = 0 ∧ H81.1 11 47 0 = 1 ∧ H81.2.2.1 79 0 = H.2.2.1 79 0) ∧ (0 ≤ n ∧ n ≤ 15 → (x96) = jcnt (H81.2.2.1 79 0) 16 ∧ H81.1 11 47 0 = 0 ∧ H81.2.2.1 79 0 = jup (H.2.2.1 79 0) n 1) from (by first | exact ⟨fun _ => ⟨by omega, by omega, rA.1⟩, fun hz => absurd hz (by omega)⟩ | exact ⟨fun hz => absurd (show 0 ≤ n ∧ n ≤ 15 from ⟨by omega, by omega⟩) hz, fun _ => ⟨by omega, by omega, rA.1⟩⟩))⟩
    · have c98 : ¬ (H52.1 11 47 0 ≤ (0 : Int)) := hc
      clear hc
      refine J.run0 1 rfl ?_
      try dsimp only
      exact J.reti rfl rfl rfl ⟨_, rfl, rfl, hT53, hE54, k55, k56, k57, k58, k59, k60, k61, k62, (show gB H52 by first | exact gB.ex k0gB hE1' (by decide) | exact gB.fault k0gB rA.1 rA.2.1 rA.2.2), _, rfl, (show (¬ (0 ≤ n ∧ n ≤ 15) → ((0 : Int)) = 0 ∧ H52.1 11 47 0 = 1 ∧ H52.2.2.1 79 0 = H.2.2.1 79 0) ∧ (0 ≤ n ∧ n ≤ 15 → ((0 : Int)) = jcnt (H52.2.2.1 79 0) 16 ∧ H52.1 11 47 0 = 0 ∧ H52.2.2.1 79 0 = jup (H.2.2.1 79 0) n 1) from (by first | exact ⟨fun _ => ⟨by omega, by omega, rA.1⟩, fun hz => absurd hz (by omega)⟩ | exact ⟨fun hz => absurd (show 0 ≤ n ∧ n ≤ 15 from ⟨by omega, by omega⟩) hz, fun _ => ⟨by omega, by omega, rA.1⟩⟩))⟩
end
