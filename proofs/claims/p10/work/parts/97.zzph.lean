-- M: X10_power
section
variable {d : Nat} {F : cG} 
set_option maxRecDepth 20000 in
set_option maxHeartbeats 8000000 in
theorem c_X10_power {n : Int} {b : Int} {T : cP} {w : jW} {H : jH} (hI : cJ F T w H)  (hp0 : -2147483648 ≤ n ∧ n ≤ 2147483647) (hp1 : -2147483648 ≤ b ∧ b ≤ 2147483647) : J false (d + 1) 79 w (0, jargs 0 [.inr (some (10, F.1)), .inl n, .inl b], [], H) (fun o w' H' => ∃ T', cJ F T' w' H' ∧ (∀ k p, T k p → T' k p) ∧ cEx T [612] H' H ∧ ((w'.2.1 : Nat) : Int) - 2 * H'.1 7 4 F.2.2.1 - 13 * H'.1 3 1 F.2.1 - H'.1 3 3 F.2.1 ≤ ((w.2.1 : Nat) : Int) - 2 * H.1 7 4 F.2.2.1 - 13 * H.1 3 1 F.2.1 - H.1 3 3 F.2.1 + (1) ∧ ((w'.2.2 : Nat) : Int) - 18 * H'.1 7 4 F.2.2.1 - 700 * H'.1 3 1 F.2.1 - 6 * H'.1 3 3 F.2.1 ≤ ((w.2.2 : Nat) : Int) - 18 * H.1 7 4 F.2.2.1 - 700 * H.1 3 1 F.2.1 - 6 * H.1 3 3 F.2.1 + 10 * (1) ∧ ((∃ v, o = .inl v ∧ v = none ∧ (0 ≤ n ∧ n ≤ 15 ∧ 0 ≤ b ∧ b ≤ 13)) ∨ (o = .inr 14 ∧ (n < 0 ∨ 15 < n)) ∨ (o = .inr 12 ∧ (0 ≤ n ∧ n ≤ 15 ∧ (b < 0 ∨ 13 < b))))) := by
  have hE : cEx T [612] H H := cEx.refl
  have hS : ∀ k p, T k p → T k p := fun _ _ z => z
  refine J.run0 1 rfl ?_
  try dsimp only
  refine J.ins4 rfl rfl rfl (by decide) rfl rfl rfl rfl rfl (jstP.of rfl) (c_X10_isNode (n := n) hI  (show -2147483648 ≤ n ∧ n ≤ 2147483647 from ⟨by omega, by omega⟩)) ?_
  rintro v w H ⟨rfl, rfl, hv⟩
  obtain ⟨x1, rfl, r2⟩ := hv
  have r2' : (x1 = 0 ∨ x1 = 1) ∧ (x1 = 1 → 0 ≤ n ∧ n ≤ 15) ∧ (x1 = 0 → n < 0 ∨ 15 < n) := r2
  try dsimp only [Option.toList, List.append, List.cons_append, List.nil_append]
  refine J.ifc rfl rfl rfl (show -2147483648 ≤ x1 ∧ x1 ≤ 2147483647 from ⟨by omega, by omega⟩) (fun hc => ?_) (fun hc => ?_)
  · have c3 : ¬ (x1 = (0 : Int)) := hc
    clear hc
    refine J.run0 1 rfl ?_
    try dsimp only
    refine J.ifc rfl rfl rfl (show -2147483648 ≤ b ∧ b ≤ 2147483647 from ⟨by omega, by omega⟩) (fun hc => ?_) (fun hc => ?_)
    · have c4 : b < (0 : Int) := hc
      clear hc
      exact J.thr rfl rfl rfl rfl ⟨T, hI, hS, hE, (show ((w.2.1 + 1 : Nat) : Int) - 2 * H.1 7 4 F.2.2.1 - 13 * H.1 3 1 F.2.1 - H.1 3 3 F.2.1 ≤ ((w.2.1 : Nat) : Int) - 2 * H.1 7 4 F.2.2.1 - 13 * H.1 3 1 F.2.1 - H.1 3 3 F.2.1 + (1) by omega), (show ((w.2.2 + 6 : Nat) : Int) - 18 * H.1 7 4 F.2.2.1 - 700 * H.1 3 1 F.2.1 - 6 * H.1 3 3 F.2.1 ≤ ((w.2.2 : Nat) : Int) - 18 * H.1 7 4 F.2.2.1 - 700 * H.1 3 1 F.2.1 - 6 * H.1 3 3 F.2.1 + 10 * (1) by omega), Or.inr (Or.inr (⟨rfl, by omega⟩))⟩
    · have c5 : ¬ (b < (0 : Int)) := hc
      clear hc
      refine J.run0 2 rfl ?_
      try dsimp only
      refine J.icmp rfl rfl rfl ⟨(show -2147483648 ≤ b ∧ b ≤ 2147483647 from ⟨by omega, by omega⟩), (show -2147483648 ≤ (13 : Int) ∧ (13 : Int) ≤ 2147483647 from ⟨by omega, by omega⟩)⟩ (fun hc => ?_) (fun hc => ?_)
      · have c6 : b ≤ (13 : Int) := hc
        clear hc
        refine J.run 4 rfl ⟨⟨(hI.is hI.top.1), hI.is (hI.r 10 2 40 F.1 rfl hI.top.1)⟩, (show w.1 40 F.1 ∧ 0 ≤ n ∧ n < 16 from ⟨hI.is (hI.r 10 2 40 F.1 rfl hI.top.1), by omega, by omega⟩)⟩ ?_
        try dsimp only
        try dsimp only
        rcases hn7 : H.2.2.2.1 40 F.1 (n) with _ | q8
        · exact absurd hn7 (hI.nd (by omega) (by omega))
        · have t9 : T 6 q8 := hI.a 40 F.1 rfl (hI.r 10 2 40 F.1 rfl hI.top.1) hn7
          refine J.run 2 rfl (hI.is t9) ?_
          try dsimp only
          refine J.gn fun H10 hH10 => ?_
          have hI11 : cJ F T w H10 := by rw [hH10]; exact cJ.wi hI trivial rfl rfl
          have hE12 : cEx T [612] H10 H := by rw [hH10]; exact cEx.wi hE (by decide)
          have g13 : H10.1 7 4 F.2.2.1 = H.1 7 4 F.2.2.1 := by subst hH10; rfl
          have g14 : H10.1 3 1 F.2.1 = H.1 3 1 F.2.1 := by subst hH10; rfl
          have g15 : H10.1 3 3 F.2.1 = H.1 3 3 F.2.1 := by subst hH10; rfl
          have g16 : H10.1 6 12 q8 = b := by subst hH10; exact if_pos rfl
          clear hH10
          exact J.retv rfl rfl rfl ⟨T, hI11, hS, hE12, (show ((w.2.1 : Nat) : Int) - 2 * H10.1 7 4 F.2.2.1 - 13 * H10.1 3 1 F.2.1 - H10.1 3 3 F.2.1 ≤ ((w.2.1 : Nat) : Int) - 2 * H.1 7 4 F.2.2.1 - 13 * H.1 3 1 F.2.1 - H.1 3 3 F.2.1 + (1) by omega), (show ((w.2.2 : Nat) : Int) - 18 * H10.1 7 4 F.2.2.1 - 700 * H10.1 3 1 F.2.1 - 6 * H10.1 3 3 F.2.1 ≤ ((w.2.2 : Nat) : Int) - 18 * H.1 7 4 F.2.2.1 - 700 * H.1 3 1 F.2.1 - 6 * H.1 3 3 F.2.1 + 10 * (1) by omega), Or.inl ⟨_, rfl, rfl, by omega⟩⟩
      · have c17 : ¬ (b ≤ (13 : Int)) := hc
        clear hc
        exact J.thr rfl rfl rfl rfl ⟨T, hI, hS, hE, (show ((w.2.1 + 1 : Nat) : Int) - 2 * H.1 7 4 F.2.2.1 - 13 * H.1 3 1 F.2.1 - H.1 3 3 F.2.1 ≤ ((w.2.1 : Nat) : Int) - 2 * H.1 7 4 F.2.2.1 - 13 * H.1 3 1 F.2.1 - H.1 3 3 F.2.1 + (1) by omega), (show ((w.2.2 + 6 : Nat) : Int) - 18 * H.1 7 4 F.2.2.1 - 700 * H.1 3 1 F.2.1 - 6 * H.1 3 3 F.2.1 ≤ ((w.2.2 : Nat) : Int) - 18 * H.1 7 4 F.2.2.1 - 700 * H.1 3 1 F.2.1 - 6 * H.1 3 3 F.2.1 + 10 * (1) by omega), Or.inr (Or.inr (⟨rfl, by omega⟩))⟩
  · have c18 : ¬ (¬ (x1 = (0 : Int))) := hc
    clear hc
    exact J.thr rfl rfl rfl rfl ⟨T, hI, hS, hE, (show ((w.2.1 + 1 : Nat) : Int) - 2 * H.1 7 4 F.2.2.1 - 13 * H.1 3 1 F.2.1 - H.1 3 3 F.2.1 ≤ ((w.2.1 : Nat) : Int) - 2 * H.1 7 4 F.2.2.1 - 13 * H.1 3 1 F.2.1 - H.1 3 3 F.2.1 + (1) by omega), (show ((w.2.2 + 6 : Nat) : Int) - 18 * H.1 7 4 F.2.2.1 - 700 * H.1 3 1 F.2.1 - 6 * H.1 3 3 F.2.1 ≤ ((w.2.2 : Nat) : Int) - 18 * H.1 7 4 F.2.2.1 - 700 * H.1 3 1 F.2.1 - 6 * H.1 3 3 F.2.1 + 10 * (1) by omega), Or.inr (Or.inl ⟨rfl, by omega⟩)⟩
end
