-- M: X10_follow
section
variable {d : Nat} {F : cG} 
set_option maxRecDepth 20000 in
set_option maxHeartbeats 8000000 in
theorem c_X10_follow {b : Int} {T : cP} {w : jW} {H : jH} (hI : cJ F T w H)  (hp0 : -2147483648 ≤ b ∧ b ≤ 2147483647) : J false (d + 4) 86 w (0, jargs 0 [.inr (some (10, F.1)), .inl b], [], H) (fun o w' H' => ∃ T', cJ F T' w' H' ∧ (∀ k p, T k p → T' k p) ∧ cEx T [20100, 40020] H' H ∧ ((w'.2.1 : Nat) : Int) - 2 * H'.1 7 4 F.2.2.1 - 13 * H'.1 3 1 F.2.1 - H'.1 3 3 F.2.1 ≤ ((w.2.1 : Nat) : Int) - 2 * H.1 7 4 F.2.2.1 - 13 * H.1 3 1 F.2.1 - H.1 3 3 F.2.1 + (1) ∧ ((w'.2.2 : Nat) : Int) - 18 * H'.1 7 4 F.2.2.1 - 700 * H'.1 3 1 F.2.1 - 6 * H'.1 3 3 F.2.1 ≤ ((w.2.2 : Nat) : Int) - 18 * H.1 7 4 F.2.2.1 - 700 * H.1 3 1 F.2.1 - 6 * H.1 3 3 F.2.1 + 10 * (1) ∧ ((∃ v, o = .inl v ∧ ∃ rv, v = some (.inl rv) ∧ (True)) ∨ (o = .inr 14))) := by
  have hE : cEx T [20100, 40020] H H := cEx.refl
  have hS : ∀ k p, T k p → T k p := fun _ _ z => z
  refine J.run 2 rfl ⟨(hI.is hI.top.1), (hI.o 10 0 3 F.1 rfl hI.top.1).1⟩ ?_
  try dsimp only
  try dsimp only
  rw [show (H.2.2.2.2 10 0 F.1) = F.2.1 from hI.one.2.1 _ (hI.o 10 0 3 F.1 rfl hI.top.1).2]
  refine J.run0 1 rfl ?_
  try dsimp only
  refine J.inv rfl rfl rfl rfl rfl rfl ((jD_w rfl).mpr (hI.is hI.top.2.1)) rfl rfl rfl rfl rfl (c_X3_get (b := b) hI  (show -2147483648 ≤ b ∧ b ≤ 2147483647 from ⟨by omega, by omega⟩)) ?_
  rintro v w H ⟨rfl, rfl, hv⟩
  rcases hv with ⟨rfl, r3⟩ | ⟨q1, rfl, t2, r3⟩
  · skip
    try dsimp only [Option.toList, List.append, List.cons_append, List.nil_append]
    refine J.run0 3 rfl ?_
    try dsimp only
    exact J.thr rfl rfl rfl rfl ⟨T, hI, hS, hE, (show ((w.2.1 + 1 : Nat) : Int) - 2 * H.1 7 4 F.2.2.1 - 13 * H.1 3 1 F.2.1 - H.1 3 3 F.2.1 ≤ ((w.2.1 : Nat) : Int) - 2 * H.1 7 4 F.2.2.1 - 13 * H.1 3 1 F.2.1 - H.1 3 3 F.2.1 + (1) by omega), (show ((w.2.2 + 6 : Nat) : Int) - 18 * H.1 7 4 F.2.2.1 - 700 * H.1 3 1 F.2.1 - 6 * H.1 3 3 F.2.1 ≤ ((w.2.2 : Nat) : Int) - 18 * H.1 7 4 F.2.2.1 - 700 * H.1 3 1 F.2.1 - 6 * H.1 3 3 F.2.1 + 10 * (1) by omega), Or.inr rfl⟩
  · skip
    try dsimp only [Option.toList, List.append, List.cons_append, List.nil_append]
    have f4 : 0 ≤ H.1 0 1 q1 ∧ H.1 0 1 q1 ≤ 299 := hI.v 0 1 q1 t2
    refine J.run 5 rfl ⟨(hI.is hI.top.1), (hI.o 10 3 1 F.1 rfl hI.top.1).1⟩ ?_
    try dsimp only
    try dsimp only
    rw [show (H.2.2.2.2 10 3 F.1) = F.2.2.2 from hI.one.2.2.2 _ (hI.o 10 3 1 F.1 rfl hI.top.1).2]
    refine J.run 3 rfl ⟨(hI.is hI.top.1), (hI.o 10 1 7 F.1 rfl hI.top.1).1⟩ ?_
    try dsimp only
    try dsimp only
    rw [show (H.2.2.2.2 10 1 F.1) = F.2.2.1 from hI.one.2.2.1 _ (hI.o 10 1 7 F.1 rfl hI.top.1).2]
    refine J.inv rfl rfl rfl rfl rfl rfl ((jD_w rfl).mpr (hI.is hI.top.2.2.2)) rfl rfl rfl rfl rfl (c_X1_reach (goal := q1) hI t2 ) ?_
    rintro v w6 H5 ⟨T7, hI8, shS9, ehE10, hr11, hr11s, hv⟩
    have hr11' : ((w6.2.1 : Nat) : Int) - 2 * H5.1 7 4 F.2.2.1 - 13 * H5.1 3 1 F.2.1 - H5.1 3 3 F.2.1 ≤ ((w.2.1 : Nat) : Int) - 2 * H.1 7 4 F.2.2.1 - 13 * H.1 3 1 F.2.1 - H.1 3 3 F.2.1 + (0) := hr11
    have hr11s' : ((w6.2.2 : Nat) : Int) - 18 * H5.1 7 4 F.2.2.1 - 700 * H5.1 3 1 F.2.1 - 6 * H5.1 3 3 F.2.1 ≤ ((w.2.2 : Nat) : Int) - 18 * H.1 7 4 F.2.2.1 - 700 * H.1 3 1 F.2.1 - 6 * H.1 3 3 F.2.1 + 10 * (0) := hr11s
    have hE10 : cEx T [20100, 40020] H5 H := cEx.trans ehE10 hE hS (by decide)
    have hS9 : ∀ k p, T k p → T7 k p := fun k p z => shS9 k p (hS k p z)
    have g12 : H5.1 7 4 F.2.2.1 = H.1 7 4 F.2.2.1 := (ehE10.1 7 4 F.2.2.1 hI.top.2.2.1).1 (by decide)
    have g13 : H5.1 3 1 F.2.1 = H.1 3 1 F.2.1 := (ehE10.1 3 1 F.2.1 hI.top.2.1).1 (by decide)
    have g14 : H5.1 3 3 F.2.1 = H.1 3 3 F.2.1 := (ehE10.1 3 3 F.2.1 hI.top.2.1).1 (by decide)
    have t15 : T7 0 q1 := shS9 _ _ t2
    have t16 : T7 10 F.1 := shS9 _ _ hI.top.1
    obtain ⟨x17, rfl, r18⟩ := hv
    try dsimp only [Option.toList, List.append, List.cons_append, List.nil_append]
    exact J.reti rfl rfl rfl ⟨T7, hI8, hS9, hE10, (show ((w6.2.1 : Nat) : Int) - 2 * H5.1 7 4 F.2.2.1 - 13 * H5.1 3 1 F.2.1 - H5.1 3 3 F.2.1 ≤ ((w.2.1 : Nat) : Int) - 2 * H.1 7 4 F.2.2.1 - 13 * H.1 3 1 F.2.1 - H.1 3 3 F.2.1 + (1) by omega), (show ((w6.2.2 : Nat) : Int) - 18 * H5.1 7 4 F.2.2.1 - 700 * H5.1 3 1 F.2.1 - 6 * H5.1 3 3 F.2.1 ≤ ((w.2.2 : Nat) : Int) - 18 * H.1 7 4 F.2.2.1 - 700 * H.1 3 1 F.2.1 - 6 * H.1 3 3 F.2.1 + 10 * (1) by omega), Or.inl ⟨_, rfl, _, rfl, trivial⟩⟩
end
