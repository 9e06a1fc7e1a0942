-- M: X10_message
section
variable {d : Nat} {F : cG} 
set_option maxRecDepth 20000 in
set_option maxHeartbeats 8000000 in
theorem c_X10_message {m0 : Int} {what : Int} {T : cP} {w : jW} {H : jH} (hI : cJ F T w H)  (hp0 : -2147483648 ≤ m0 ∧ m0 ≤ 2147483647) (hp1 : -2147483648 ≤ what ∧ what ≤ 2147483647) : J false (d + 1) 82 w (0, jargs 0 [.inr (some (10, F.1)), .inl m0, .inl what], [], H) (fun o w' H' => ∃ T', cJ F T' w' H' ∧ (∀ k p, T k p → T' k p) ∧ cEx T [] H' H ∧ ((w'.2.1 : Nat) : Int) - 2 * H'.1 7 4 F.2.2.1 - 13 * H'.1 3 1 F.2.1 - H'.1 3 3 F.2.1 ≤ ((w.2.1 : Nat) : Int) - 2 * H.1 7 4 F.2.2.1 - 13 * H.1 3 1 F.2.1 - H.1 3 3 F.2.1 + (1) ∧ ((w'.2.2 : Nat) : Int) - 18 * H'.1 7 4 F.2.2.1 - 700 * H'.1 3 1 F.2.1 - 6 * H'.1 3 3 F.2.1 ≤ ((w.2.2 : Nat) : Int) - 18 * H.1 7 4 F.2.2.1 - 700 * H.1 3 1 F.2.1 - 6 * H.1 3 3 F.2.1 + 10 * (1) ∧ ((∃ v, o = .inl v ∧ ∃ rv, v = some (.inl rv) ∧ (True)) ∨ (o = .inr 14) ∨ (o = .inr 12))) := by
  have hE : cEx T [] H H := cEx.refl
  have hS : ∀ k p, T k p → T k p := fun _ _ z => z
  refine J.run 2 rfl ⟨(hI.is hI.top.1), (hI.o 10 1 7 F.1 rfl hI.top.1).1⟩ ?_
  try dsimp only
  try dsimp only
  rw [show (H.2.2.2.2 10 1 F.1) = F.2.2.1 from hI.one.2.2.1 _ (hI.o 10 1 7 F.1 rfl hI.top.1).2]
  refine J.run0 1 rfl ?_
  try dsimp only
  refine J.inv rfl rfl rfl rfl rfl rfl ((jD_w rfl).mpr (hI.is hI.top.2.2.1)) rfl rfl rfl rfl rfl (c_X7_get (m0 := m0) hI  (show -2147483648 ≤ m0 ∧ m0 ≤ 2147483647 from ⟨by omega, by omega⟩)) ?_
  rintro v w H ⟨rfl, rfl, hv⟩
  rcases hv with ⟨rfl, r3⟩ | ⟨q1, rfl, t2, r3⟩
  · have r3' : (0 ≤ m0 → m0 < H.1 7 4 F.2.2.1 → H.2.2.2.1 28 F.2.2.1 (m0) = none) := r3
    try dsimp only [Option.toList, List.append, List.cons_append, List.nil_append]
    refine J.run0 3 rfl ?_
    try dsimp only
    exact J.thr rfl rfl rfl rfl ⟨T, hI, hS, hE, (show ((w.2.1 + 1 : Nat) : Int) - 2 * H.1 7 4 F.2.2.1 - 13 * H.1 3 1 F.2.1 - H.1 3 3 F.2.1 ≤ ((w.2.1 : Nat) : Int) - 2 * H.1 7 4 F.2.2.1 - 13 * H.1 3 1 F.2.1 - H.1 3 3 F.2.1 + (1) by omega), (show ((w.2.2 + 6 : Nat) : Int) - 18 * H.1 7 4 F.2.2.1 - 700 * H.1 3 1 F.2.1 - 6 * H.1 3 3 F.2.1 ≤ ((w.2.2 : Nat) : Int) - 18 * H.1 7 4 F.2.2.1 - 700 * H.1 3 1 F.2.1 - 6 * H.1 3 3 F.2.1 + 10 * (1) by omega), Or.inr (Or.inl rfl)⟩
  · have r3' : (0 ≤ m0 ∧ m0 < H.1 7 4 F.2.2.1 ∧ H.2.2.2.1 28 F.2.2.1 (m0) = some q1) := r3
    try dsimp only [Option.toList, List.append, List.cons_append, List.nil_append]
    have f4 : 0 ≤ H.1 5 0 q1 ∧ H.1 5 0 q1 ≤ 5999 := hI.v 5 0 q1 t2
    refine J.run0 4 rfl ?_
    try dsimp only
    by_cases c5 : what = 0
    · refine J.tsw rfl rfl rfl ⟨by omega, by omega⟩ (t := 64) (by rw [c5]; rfl) ?_
      refine J.run 2 rfl (hI.is t2) ?_
      try dsimp only
      exact J.reti rfl rfl rfl ⟨T, hI, hS, hE, (show ((w.2.1 : Nat) : Int) - 2 * H.1 7 4 F.2.2.1 - 13 * H.1 3 1 F.2.1 - H.1 3 3 F.2.1 ≤ ((w.2.1 : Nat) : Int) - 2 * H.1 7 4 F.2.2.1 - 13 * H.1 3 1 F.2.1 - H.1 3 3 F.2.1 + (1) by omega), (show ((w.2.2 : Nat) : Int) - 18 * H.1 7 4 F.2.2.1 - 700 * H.1 3 1 F.2.1 - 6 * H.1 3 3 F.2.1 ≤ ((w.2.2 : Nat) : Int) - 18 * H.1 7 4 F.2.2.1 - 700 * H.1 3 1 F.2.1 - 6 * H.1 3 3 F.2.1 + 10 * (1) by omega), Or.inl ⟨_, rfl, _, rfl, trivial⟩⟩
    by_cases c6 : what = 1
    · refine J.tsw rfl rfl rfl ⟨by omega, by omega⟩ (t := 69) (by rw [c6]; rfl) ?_
      have f7 : 0 ≤ H.1 5 2 q1 ∧ H.1 5 2 q1 ≤ 15 := hI.v 5 2 q1 t2
      refine J.run 2 rfl (hI.is t2) ?_
      try dsimp only
      exact J.reti rfl rfl rfl ⟨T, hI, hS, hE, (show ((w.2.1 : Nat) : Int) - 2 * H.1 7 4 F.2.2.1 - 13 * H.1 3 1 F.2.1 - H.1 3 3 F.2.1 ≤ ((w.2.1 : Nat) : Int) - 2 * H.1 7 4 F.2.2.1 - 13 * H.1 3 1 F.2.1 - H.1 3 3 F.2.1 + (1) by omega), (show ((w.2.2 : Nat) : Int) - 18 * H.1 7 4 F.2.2.1 - 700 * H.1 3 1 F.2.1 - 6 * H.1 3 3 F.2.1 ≤ ((w.2.2 : Nat) : Int) - 18 * H.1 7 4 F.2.2.1 - 700 * H.1 3 1 F.2.1 - 6 * H.1 3 3 F.2.1 + 10 * (1) by omega), Or.inl ⟨_, rfl, _, rfl, trivial⟩⟩
    by_cases c8 : what = 2
    · refine J.tsw rfl rfl rfl ⟨by omega, by omega⟩ (t := 74) (by rw [c8]; rfl) ?_
      have f9 : 0 ≤ H.1 5 3 q1 ∧ H.1 5 3 q1 ≤ 120 := hI.v 5 3 q1 t2
      refine J.run 2 rfl (hI.is t2) ?_
      try dsimp only
      exact J.reti rfl rfl rfl ⟨T, hI, hS, hE, (show ((w.2.1 : Nat) : Int) - 2 * H.1 7 4 F.2.2.1 - 13 * H.1 3 1 F.2.1 - H.1 3 3 F.2.1 ≤ ((w.2.1 : Nat) : Int) - 2 * H.1 7 4 F.2.2.1 - 13 * H.1 3 1 F.2.1 - H.1 3 3 F.2.1 + (1) by omega), (show ((w.2.2 : Nat) : Int) - 18 * H.1 7 4 F.2.2.1 - 700 * H.1 3 1 F.2.1 - 6 * H.1 3 3 F.2.1 ≤ ((w.2.2 : Nat) : Int) - 18 * H.1 7 4 F.2.2.1 - 700 * H.1 3 1 F.2.1 - 6 * H.1 3 3 F.2.1 + 10 * (1) by omega), Or.inl ⟨_, rfl, _, rfl, trivial⟩⟩
    by_cases c10 : what = 3
    · refine J.tsw rfl rfl rfl ⟨by omega, by omega⟩ (t := 79) (by rw [c10]; rfl) ?_
      have f11 : 0 ≤ H.1 5 4 q1 ∧ H.1 5 4 q1 ≤ 31 := hI.v 5 4 q1 t2
      refine J.run 2 rfl (hI.is t2) ?_
      try dsimp only
      exact J.reti rfl rfl rfl ⟨T, hI, hS, hE, (show ((w.2.1 : Nat) : Int) - 2 * H.1 7 4 F.2.2.1 - 13 * H.1 3 1 F.2.1 - H.1 3 3 F.2.1 ≤ ((w.2.1 : Nat) : Int) - 2 * H.1 7 4 F.2.2.1 - 13 * H.1 3 1 F.2.1 - H.1 3 3 F.2.1 + (1) by omega), (show ((w.2.2 : Nat) : Int) - 18 * H.1 7 4 F.2.2.1 - 700 * H.1 3 1 F.2.1 - 6 * H.1 3 3 F.2.1 ≤ ((w.2.2 : Nat) : Int) - 18 * H.1 7 4 F.2.2.1 - 700 * H.1 3 1 F.2.1 - 6 * H.1 3 3 F.2.1 + 10 * (1) by omega), Or.inl ⟨_, rfl, _, rfl, trivial⟩⟩
    by_cases c12 : what = 4
    · refine J.tsw rfl rfl rfl ⟨by omega, by omega⟩ (t := 84) (by rw [c12]; rfl) ?_
      have f13 : (-2147483648) ≤ H.1 5 5 q1 ∧ H.1 5 5 q1 ≤ 2147483647 := hI.v 5 5 q1 t2
      refine J.run 2 rfl (hI.is t2) ?_
      try dsimp only
      exact J.reti rfl rfl rfl ⟨T, hI, hS, hE, (show ((w.2.1 : Nat) : Int) - 2 * H.1 7 4 F.2.2.1 - 13 * H.1 3 1 F.2.1 - H.1 3 3 F.2.1 ≤ ((w.2.1 : Nat) : Int) - 2 * H.1 7 4 F.2.2.1 - 13 * H.1 3 1 F.2.1 - H.1 3 3 F.2.1 + (1) by omega), (show ((w.2.2 : Nat) : Int) - 18 * H.1 7 4 F.2.2.1 - 700 * H.1 3 1 F.2.1 - 6 * H.1 3 3 F.2.1 ≤ ((w.2.2 : Nat) : Int) - 18 * H.1 7 4 F.2.2.1 - 700 * H.1 3 1 F.2.1 - 6 * H.1 3 3 F.2.1 + 10 * (1) by omega), Or.inl ⟨_, rfl, _, rfl, trivial⟩⟩
    by_cases c14 : what = 5
    · refine J.tsw rfl rfl rfl ⟨by omega, by omega⟩ (t := 89) (by rw [c14]; rfl) ?_
      have f15 : (-2147483648) ≤ H.1 5 6 q1 ∧ H.1 5 6 q1 ≤ 2147483647 := hI.v 5 6 q1 t2
      refine J.run 2 rfl (hI.is t2) ?_
      try dsimp only
      exact J.reti rfl rfl rfl ⟨T, hI, hS, hE, (show ((w.2.1 : Nat) : Int) - 2 * H.1 7 4 F.2.2.1 - 13 * H.1 3 1 F.2.1 - H.1 3 3 F.2.1 ≤ ((w.2.1 : Nat) : Int) - 2 * H.1 7 4 F.2.2.1 - 13 * H.1 3 1 F.2.1 - H.1 3 3 F.2.1 + (1) by omega), (show ((w.2.2 : Nat) : Int) - 18 * H.1 7 4 F.2.2.1 - 700 * H.1 3 1 F.2.1 - 6 * H.1 3 3 F.2.1 ≤ ((w.2.2 : Nat) : Int) - 18 * H.1 7 4 F.2.2.1 - 700 * H.1 3 1 F.2.1 - 6 * H.1 3 3 F.2.1 + 10 * (1) by omega), Or.inl ⟨_, rfl, _, rfl, trivial⟩⟩
    have c16 : what < 0 ∨ 5 < what := by omega
    refine J.tsw rfl rfl rfl ⟨by omega, by omega⟩ (t := 94) (by rw [if_pos c16]; rfl) ?_
    exact J.thr rfl rfl rfl rfl ⟨T, hI, hS, hE, (show ((w.2.1 + 1 : Nat) : Int) - 2 * H.1 7 4 F.2.2.1 - 13 * H.1 3 1 F.2.1 - H.1 3 3 F.2.1 ≤ ((w.2.1 : Nat) : Int) - 2 * H.1 7 4 F.2.2.1 - 13 * H.1 3 1 F.2.1 - H.1 3 3 F.2.1 + (1) by omega), (show ((w.2.2 + 6 : Nat) : Int) - 18 * H.1 7 4 F.2.2.1 - 700 * H.1 3 1 F.2.1 - 6 * H.1 3 3 F.2.1 ≤ ((w.2.2 : Nat) : Int) - 18 * H.1 7 4 F.2.2.1 - 700 * H.1 3 1 F.2.1 - 6 * H.1 3 3 F.2.1 + 10 * (1) by omega), Or.inr (Or.inr (rfl))⟩
end
