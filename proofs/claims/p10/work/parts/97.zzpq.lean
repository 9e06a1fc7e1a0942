-- M: X10_fault
section
variable {d : Nat} {F : cG} 
set_option maxRecDepth 20000 in
set_option maxHeartbeats 8000000 in
theorem c_X10_fault {n : Int} {T : cP} {w : jW} {H : jH} (hI : cJ F T w H)  (hp0 : -2147483648 ≤ n ∧ n ≤ 2147483647) : J false (d + 1) 72 w (0, jargs 0 [.inr (some (10, F.1)), .inl n], [], H) (fun o w' H' => ∃ T', cJ F T' w' H' ∧ (∀ k p, T k p → T' k p) ∧ cEx T [610, 611] H' H ∧ ((w'.2.1 : Nat) : Int) - 2 * H'.1 7 4 F.2.2.1 - 13 * H'.1 3 1 F.2.1 - H'.1 3 3 F.2.1 ≤ ((w.2.1 : Nat) : Int) - 2 * H.1 7 4 F.2.2.1 - 13 * H.1 3 1 F.2.1 - H.1 3 3 F.2.1 + (1) ∧ ((w'.2.2 : Nat) : Int) - 18 * H'.1 7 4 F.2.2.1 - 700 * H'.1 3 1 F.2.1 - 6 * H'.1 3 3 F.2.1 ≤ ((w.2.2 : Nat) : Int) - 18 * H.1 7 4 F.2.2.1 - 700 * H.1 3 1 F.2.1 - 6 * H.1 3 3 F.2.1 + 10 * (1) ∧ ((∃ v, o = .inl v ∧ ∃ rv, v = some (.inl rv) ∧ (rv = jcnt (cfl F H') 16 ∧ 0 ≤ n ∧ n ≤ 15 ∧ ∃ q, cnd F H n = some q ∧ H'.1 6 10 q = 1 ∧ ∀ p, p ≠ q → H'.1 6 10 p = H.1 6 10 p)) ∨ (o = .inr 14 ∧ ((n < 0 ∨ 15 < n) ∧ H'.1 = H.1)))) := by
  have hE : cEx T [610, 611] H H := cEx.refl
  have hS : ∀ k p, T k p → T k p := fun _ _ z => z
  refine J.run0 1 rfl ?_
  try dsimp only
  refine J.ins4 rfl rfl rfl (by decide) rfl rfl rfl rfl rfl (jstP.of rfl) (c_X10_isNode (n := n) hI  (show -2147483648 ≤ n ∧ n ≤ 2147483647 from ⟨by omega, by omega⟩)) ?_
  rintro v w H ⟨rfl, rfl, hv⟩
  obtain ⟨x1, rfl, r2⟩ := hv
  have r2' : (x1 = 0 ∨ x1 = 1) ∧ (x1 = 1 → 0 ≤ n ∧ n ≤ 15) ∧ (x1 = 0 → n < 0 ∨ 15 < n) := r2
  try dsimp only [Option.toList, List.append, List.cons_append, List.nil_append]
  refine J.ifc rfl rfl rfl (show -2147483648 ≤ x1 ∧ x1 ≤ 2147483647 from ⟨by omega, by omega⟩) (fun hc => ?_) (fun hc => ?_)
  · have c3 : ¬ (x1 = (0 : Int)) := hc
    clear hc
    refine J.run 4 rfl ⟨⟨(hI.is hI.top.1), hI.is (hI.r 10 2 40 F.1 rfl hI.top.1)⟩, (show w.1 40 F.1 ∧ 0 ≤ n ∧ n < 16 from ⟨hI.is (hI.r 10 2 40 F.1 rfl hI.top.1), by omega, by omega⟩)⟩ ?_
    try dsimp only
    try dsimp only
    rcases hn4 : H.2.2.2.1 40 F.1 (n) with _ | q5
    · exact absurd hn4 (hI.nd (by omega) (by omega))
    · have t6 : T 6 q5 := hI.a 40 F.1 rfl (hI.r 10 2 40 F.1 rfl hI.top.1) hn4
      refine J.run 2 rfl ⟨(hI.is t6), (show (1 : Int) = 0 ∨ (1 : Int) = 1 by omega)⟩ ?_
      try dsimp only
      refine J.gn fun H7 hH7 => ?_
      have hI8 : cJ F T w H7 := by rw [hH7]; exact cJ.wi hI (show 0 ≤ (1 : Int) ∧ (1 : Int) ≤ 1 from ⟨by omega, by omega⟩) rfl rfl
      have hE9 : cEx T [610, 611] H7 H := by rw [hH7]; exact cEx.wi hE (by decide)
      have g10 : H7.1 7 4 F.2.2.1 = H.1 7 4 F.2.2.1 := by subst hH7; rfl
      have g11 : H7.1 3 1 F.2.1 = H.1 3 1 F.2.1 := by subst hH7; rfl
      have g12 : H7.1 3 3 F.2.1 = H.1 3 3 F.2.1 := by subst hH7; rfl
      have g13 : H7.1 6 10 q5 = (1 : Int) := by subst hH7; exact if_pos rfl
      have rF : ∀ p, H7.1 6 10 p = if p = q5 then 1 else H.1 6 10 p := by intro p; subst hH7; rfl
      have rN := hn4
      clear hH7
      refine J.run 4 rfl ⟨⟨(hI8.is hI.top.1), hI8.is (hI8.r 10 2 40 F.1 rfl hI.top.1)⟩, (show w.1 40 F.1 ∧ 0 ≤ n ∧ n < 16 from ⟨hI8.is (hI8.r 10 2 40 F.1 rfl hI.top.1), by omega, by omega⟩)⟩ ?_
      try dsimp only
      try dsimp only
      rcases hn14 : H7.2.2.2.1 40 F.1 (n) with _ | q15
      · exact absurd hn14 (hI8.nd (by omega) (by omega))
      · have t16 : T 6 q15 := hI8.a 40 F.1 rfl (hI8.r 10 2 40 F.1 rfl hI.top.1) hn14
        refine J.run 2 rfl ⟨(hI8.is t16), (show (0 : Int) = 0 ∨ (0 : Int) = 1 by omega)⟩ ?_
        try dsimp only
        refine J.gn fun H17 hH17 => ?_
        have hI18 : cJ F T w H17 := by rw [hH17]; exact cJ.wi hI8 (show 0 ≤ (0 : Int) ∧ (0 : Int) ≤ 1 from ⟨by omega, by omega⟩) rfl rfl
        have hE19 : cEx T [610, 611] H17 H := by rw [hH17]; exact cEx.wi hE9 (by decide)
        have g20 : H17.1 7 4 F.2.2.1 = H7.1 7 4 F.2.2.1 := by subst hH17; rfl
        have g21 : H17.1 3 1 F.2.1 = H7.1 3 1 F.2.1 := by subst hH17; rfl
        have g22 : H17.1 3 3 F.2.1 = H7.1 3 3 F.2.1 := by subst hH17; rfl
        have g23 : H17.1 6 10 q5 = H7.1 6 10 q5 := by subst hH17; rfl
        have g24 : H17.1 6 11 q15 = (0 : Int) := by subst hH17; exact if_pos rfl
        have rG : ∀ p, H17.1 6 10 p = H7.1 6 10 p := by intro p; subst hH17; rfl
        clear hH17
        refine J.run0 1 rfl ?_
        try dsimp only
        refine J.inv rfl rfl rfl rfl rfl rfl ((jD_w rfl).mpr (hI18.is hI.top.1)) rfl rfl rfl rfl rfl (c_X10_faultyNodes  hI18  ) ?_
        rintro v w H17 ⟨rfl, rfl, hv⟩
        obtain ⟨x25, rfl, r26⟩ := hv
        have r26' : x25 = jcnt (cfl F H17) 16 ∧ 0 ≤ x25 ∧ x25 ≤ 16 := r26
        try dsimp only [Option.toList, List.append, List.cons_append, List.nil_append]
        exact J.reti rfl rfl rfl ⟨T, hI18, hS, hE19, (show ((w.2.1 : Nat) : Int) - 2 * H17.1 7 4 F.2.2.1 - 13 * H17.1 3 1 F.2.1 - H17.1 3 3 F.2.1 ≤ ((w.2.1 : Nat) : Int) - 2 * H.1 7 4 F.2.2.1 - 13 * H.1 3 1 F.2.1 - H.1 3 3 F.2.1 + (1) by omega), (show ((w.2.2 : Nat) : Int) - 18 * H17.1 7 4 F.2.2.1 - 700 * H17.1 3 1 F.2.1 - 6 * H17.1 3 3 F.2.1 ≤ ((w.2.2 : Nat) : Int) - 18 * H.1 7 4 F.2.2.1 - 700 * H.1 3 1 F.2.1 - 6 * H.1 3 3 F.2.1 + 10 * (1) by omega), Or.inl ⟨_, rfl, _, rfl, (show (x25) = jcnt (cfl F H17) 16 ∧ 0 ≤ n ∧ n ≤ 15 ∧ ∃ q, cnd F H n = some q ∧ H17.1 6 10 q = 1 ∧ ∀ p, p ≠ q → H17.1 6 10 p = H.1 6 10 p from ⟨by omega, by omega, by omega, _, rN, (by rw [rG, rF, if_pos rfl]), fun p hp => by rw [rG, rF, if_neg hp]⟩)⟩⟩
  · have c27 : ¬ (¬ (x1 = (0 : Int))) := hc
    clear hc
    exact J.thr rfl rfl rfl rfl ⟨T, hI, hS, hE, (show ((w.2.1 + 1 : Nat) : Int) - 2 * H.1 7 4 F.2.2.1 - 13 * H.1 3 1 F.2.1 - H.1 3 3 F.2.1 ≤ ((w.2.1 : Nat) : Int) - 2 * H.1 7 4 F.2.2.1 - 13 * H.1 3 1 F.2.1 - H.1 3 3 F.2.1 + (1) by omega), (show ((w.2.2 + 6 : Nat) : Int) - 18 * H.1 7 4 F.2.2.1 - 700 * H.1 3 1 F.2.1 - 6 * H.1 3 3 F.2.1 ≤ ((w.2.2 : Nat) : Int) - 18 * H.1 7 4 F.2.2.1 - 700 * H.1 3 1 F.2.1 - 6 * H.1 3 3 F.2.1 + 10 * (1) by omega), Or.inr ⟨rfl, ⟨by omega, rfl⟩⟩⟩
end
