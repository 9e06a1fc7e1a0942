-- M: X10_count
section
variable {d : Nat} {F : cG} 
set_option maxRecDepth 20000 in
set_option maxHeartbeats 8000000 in
theorem c_X10_count {what : Int} {T : cP} {w : jW} {H : jH} (hI : cJ F T w H)  (hp0 : -2147483648 ≤ what ∧ what ≤ 2147483647) : J false (d + 3) 87 w (0, jargs 0 [.inr (some (10, F.1)), .inl what], [], H) (fun o w' H' => ∃ T', cJ F T' w' H' ∧ (∀ k p, T k p → T' k p) ∧ cEx T [] H' H ∧ ((w'.2.1 : Nat) : Int) - 2 * H'.1 7 4 F.2.2.1 - 13 * H'.1 3 1 F.2.1 - H'.1 3 3 F.2.1 ≤ ((w.2.1 : Nat) : Int) - 2 * H.1 7 4 F.2.2.1 - 13 * H.1 3 1 F.2.1 - H.1 3 3 F.2.1 + (1) ∧ ((w'.2.2 : Nat) : Int) - 18 * H'.1 7 4 F.2.2.1 - 700 * H'.1 3 1 F.2.1 - 6 * H'.1 3 3 F.2.1 ≤ ((w.2.2 : Nat) : Int) - 18 * H.1 7 4 F.2.2.1 - 700 * H.1 3 1 F.2.1 - 6 * H.1 3 3 F.2.1 + 10 * (1) ∧ ((∃ v, o = .inl v ∧ ∃ rv, v = some (.inl rv) ∧ (True)) ∨ (o = .inr 12))) := by
  have hE : cEx T [] H H := cEx.refl
  have hS : ∀ k p, T k p → T k p := fun _ _ z => z
  refine J.run0 1 rfl ?_
  try dsimp only
  by_cases c1 : what = 0
  · refine J.tsw rfl rfl rfl ⟨by omega, by omega⟩ (t := 52) (by rw [c1]; rfl) ?_
    refine J.run 2 rfl ⟨(hI.is hI.top.1), (hI.o 10 0 3 F.1 rfl hI.top.1).1⟩ ?_
    try dsimp only
    try dsimp only
    rw [show (H.2.2.2.2 10 0 F.1) = F.2.1 from hI.one.2.1 _ (hI.o 10 0 3 F.1 rfl hI.top.1).2]
    have f2 : 0 ≤ H.1 3 3 F.2.1 ∧ H.1 3 3 F.2.1 ≤ 1500 := hI.v 3 3 F.2.1 hI.top.2.1
    refine J.run 1 rfl (hI.is hI.top.2.1) ?_
    try dsimp only
    exact J.reti rfl rfl rfl ⟨T, hI, hS, hE, (show ((w.2.1 : Nat) : Int) - 2 * H.1 7 4 F.2.2.1 - 13 * H.1 3 1 F.2.1 - H.1 3 3 F.2.1 ≤ ((w.2.1 : Nat) : Int) - 2 * H.1 7 4 F.2.2.1 - 13 * H.1 3 1 F.2.1 - H.1 3 3 F.2.1 + (1) by omega), (show ((w.2.2 : Nat) : Int) - 18 * H.1 7 4 F.2.2.1 - 700 * H.1 3 1 F.2.1 - 6 * H.1 3 3 F.2.1 ≤ ((w.2.2 : Nat) : Int) - 18 * H.1 7 4 F.2.2.1 - 700 * H.1 3 1 F.2.1 - 6 * H.1 3 3 F.2.1 + 10 * (1) by omega), Or.inl ⟨_, rfl, _, rfl, trivial⟩⟩
  by_cases c3 : what = 1
  · refine J.tsw rfl rfl rfl ⟨by omega, by omega⟩ (t := 60) (by rw [c3]; rfl) ?_
    refine J.run 2 rfl ⟨(hI.is hI.top.1), (hI.o 10 1 7 F.1 rfl hI.top.1).1⟩ ?_
    try dsimp only
    try dsimp only
    rw [show (H.2.2.2.2 10 1 F.1) = F.2.2.1 from hI.one.2.2.1 _ (hI.o 10 1 7 F.1 rfl hI.top.1).2]
    have f4 : 0 ≤ H.1 7 4 F.2.2.1 ∧ H.1 7 4 F.2.2.1 ≤ 6000 := hI.v 7 4 F.2.2.1 hI.top.2.2.1
    refine J.run 1 rfl (hI.is hI.top.2.2.1) ?_
    try dsimp only
    exact J.reti rfl rfl rfl ⟨T, hI, hS, hE, (show ((w.2.1 : Nat) : Int) - 2 * H.1 7 4 F.2.2.1 - 13 * H.1 3 1 F.2.1 - H.1 3 3 F.2.1 ≤ ((w.2.1 : Nat) : Int) - 2 * H.1 7 4 F.2.2.1 - 13 * H.1 3 1 F.2.1 - H.1 3 3 F.2.1 + (1) by omega), (show ((w.2.2 : Nat) : Int) - 18 * H.1 7 4 F.2.2.1 - 700 * H.1 3 1 F.2.1 - 6 * H.1 3 3 F.2.1 ≤ ((w.2.2 : Nat) : Int) - 18 * H.1 7 4 F.2.2.1 - 700 * H.1 3 1 F.2.1 - 6 * H.1 3 3 F.2.1 + 10 * (1) by omega), Or.inl ⟨_, rfl, _, rfl, trivial⟩⟩
  by_cases c5 : what = 2
  · refine J.tsw rfl rfl rfl ⟨by omega, by omega⟩ (t := 68) (by rw [c5]; rfl) ?_
    refine J.run 2 rfl ⟨(hI.is hI.top.1), (hI.o 10 0 3 F.1 rfl hI.top.1).1⟩ ?_
    try dsimp only
    try dsimp only
    rw [show (H.2.2.2.2 10 0 F.1) = F.2.1 from hI.one.2.1 _ (hI.o 10 0 3 F.1 rfl hI.top.1).2]
    have f6 : 1 ≤ H.1 3 1 F.2.1 ∧ H.1 3 1 F.2.1 ≤ 300 := hI.v 3 1 F.2.1 hI.top.2.1
    refine J.run 1 rfl (hI.is hI.top.2.1) ?_
    try dsimp only
    exact J.reti rfl rfl rfl ⟨T, hI, hS, hE, (show ((w.2.1 : Nat) : Int) - 2 * H.1 7 4 F.2.2.1 - 13 * H.1 3 1 F.2.1 - H.1 3 3 F.2.1 ≤ ((w.2.1 : Nat) : Int) - 2 * H.1 7 4 F.2.2.1 - 13 * H.1 3 1 F.2.1 - H.1 3 3 F.2.1 + (1) by omega), (show ((w.2.2 : Nat) : Int) - 18 * H.1 7 4 F.2.2.1 - 700 * H.1 3 1 F.2.1 - 6 * H.1 3 3 F.2.1 ≤ ((w.2.2 : Nat) : Int) - 18 * H.1 7 4 F.2.2.1 - 700 * H.1 3 1 F.2.1 - 6 * H.1 3 3 F.2.1 + 10 * (1) by omega), Or.inl ⟨_, rfl, _, rfl, trivial⟩⟩
  by_cases c7 : what = 3
  · refine J.tsw rfl rfl rfl ⟨by omega, by omega⟩ (t := 76) (by rw [c7]; rfl) ?_
    refine J.run0 1 rfl ?_
    try dsimp only
    refine J.inv rfl rfl rfl rfl rfl rfl ((jD_w rfl).mpr (hI.is hI.top.1)) rfl rfl rfl rfl rfl (c_X10_faultyNodes  hI  ) ?_
    rintro v w H ⟨rfl, rfl, hv⟩
    obtain ⟨x8, rfl, r9⟩ := hv
    have r9' : x8 = jcnt (cfl F H) 16 ∧ 0 ≤ x8 ∧ x8 ≤ 16 := r9
    try dsimp only [Option.toList, List.append, List.cons_append, List.nil_append]
    exact J.reti rfl rfl rfl ⟨T, hI, hS, hE, (show ((w.2.1 : Nat) : Int) - 2 * H.1 7 4 F.2.2.1 - 13 * H.1 3 1 F.2.1 - H.1 3 3 F.2.1 ≤ ((w.2.1 : Nat) : Int) - 2 * H.1 7 4 F.2.2.1 - 13 * H.1 3 1 F.2.1 - H.1 3 3 F.2.1 + (1) by omega), (show ((w.2.2 : Nat) : Int) - 18 * H.1 7 4 F.2.2.1 - 700 * H.1 3 1 F.2.1 - 6 * H.1 3 3 F.2.1 ≤ ((w.2.2 : Nat) : Int) - 18 * H.1 7 4 F.2.2.1 - 700 * H.1 3 1 F.2.1 - 6 * H.1 3 3 F.2.1 + 10 * (1) by omega), Or.inl ⟨_, rfl, _, rfl, trivial⟩⟩
  by_cases c10 : what = 4
  · refine J.tsw rfl rfl rfl ⟨by omega, by omega⟩ (t := 81) (by rw [c10]; rfl) ?_
    refine J.run 2 rfl ⟨(hI.is hI.top.1), (hI.o 10 3 1 F.1 rfl hI.top.1).1⟩ ?_
    try dsimp only
    try dsimp only
    rw [show (H.2.2.2.2 10 3 F.1) = F.2.2.2 from hI.one.2.2.2 _ (hI.o 10 3 1 F.1 rfl hI.top.1).2]
    have f11 : 0 ≤ H.1 0 0 (H.2.2.2.2 1 0 F.2.2.2) ∧ H.1 0 0 (H.2.2.2.2 1 0 F.2.2.2) ≤ 299 := hI.v 0 0 (H.2.2.2.2 1 0 F.2.2.2) (hI.o 1 0 0 F.2.2.2 rfl hI.top.2.2.2).2
    refine J.run 2 rfl ⟨⟨(hI.is hI.top.2.2.2), (hI.o 1 0 0 F.2.2.2 rfl hI.top.2.2.2).1⟩, (hI.is (hI.o 1 0 0 F.2.2.2 rfl hI.top.2.2.2).2)⟩ ?_
    try dsimp only
    exact J.reti rfl rfl rfl ⟨T, hI, hS, hE, (show ((w.2.1 : Nat) : Int) - 2 * H.1 7 4 F.2.2.1 - 13 * H.1 3 1 F.2.1 - H.1 3 3 F.2.1 ≤ ((w.2.1 : Nat) : Int) - 2 * H.1 7 4 F.2.2.1 - 13 * H.1 3 1 F.2.1 - H.1 3 3 F.2.1 + (1) by omega), (show ((w.2.2 : Nat) : Int) - 18 * H.1 7 4 F.2.2.1 - 700 * H.1 3 1 F.2.1 - 6 * H.1 3 3 F.2.1 ≤ ((w.2.2 : Nat) : Int) - 18 * H.1 7 4 F.2.2.1 - 700 * H.1 3 1 F.2.1 - 6 * H.1 3 3 F.2.1 + 10 * (1) by omega), Or.inl ⟨_, rfl, _, rfl, trivial⟩⟩
  by_cases c12 : what = 5
  · refine J.tsw rfl rfl rfl ⟨by omega, by omega⟩ (t := 92) (by rw [c12]; rfl) ?_
    refine J.run0 1 rfl ?_
    try dsimp only
    refine J.inv rfl rfl rfl rfl rfl rfl ((jD_w rfl).mpr (hI.is hI.top.1)) rfl rfl rfl rfl rfl (c_X10_splitPairs  hI  ) ?_
    rintro v w H ⟨rfl, rfl, hv⟩
    obtain ⟨x13, rfl, r14⟩ := hv
    try dsimp only [Option.toList, List.append, List.cons_append, List.nil_append]
    exact J.reti rfl rfl rfl ⟨T, hI, hS, hE, (show ((w.2.1 : Nat) : Int) - 2 * H.1 7 4 F.2.2.1 - 13 * H.1 3 1 F.2.1 - H.1 3 3 F.2.1 ≤ ((w.2.1 : Nat) : Int) - 2 * H.1 7 4 F.2.2.1 - 13 * H.1 3 1 F.2.1 - H.1 3 3 F.2.1 + (1) by omega), (show ((w.2.2 : Nat) : Int) - 18 * H.1 7 4 F.2.2.1 - 700 * H.1 3 1 F.2.1 - 6 * H.1 3 3 F.2.1 ≤ ((w.2.2 : Nat) : Int) - 18 * H.1 7 4 F.2.2.1 - 700 * H.1 3 1 F.2.1 - 6 * H.1 3 3 F.2.1 + 10 * (1) by omega), Or.inl ⟨_, rfl, _, rfl, trivial⟩⟩
  by_cases c15 : what = 6
  · refine J.tsw rfl rfl rfl ⟨by omega, by omega⟩ (t := 97) (by rw [c15]; rfl) ?_
    refine J.run0 1 rfl ?_
    try dsimp only
    refine J.inv rfl rfl rfl rfl rfl rfl ((jD_w rfl).mpr (hI.is hI.top.1)) rfl rfl rfl rfl rfl (c_X10_nodesOffTheClient  hI  ) ?_
    rintro v w H ⟨rfl, rfl, hv⟩
    obtain ⟨x16, rfl, r17⟩ := hv
    try dsimp only [Option.toList, List.append, List.cons_append, List.nil_append]
    exact J.reti rfl rfl rfl ⟨T, hI, hS, hE, (show ((w.2.1 : Nat) : Int) - 2 * H.1 7 4 F.2.2.1 - 13 * H.1 3 1 F.2.1 - H.1 3 3 F.2.1 ≤ ((w.2.1 : Nat) : Int) - 2 * H.1 7 4 F.2.2.1 - 13 * H.1 3 1 F.2.1 - H.1 3 3 F.2.1 + (1) by omega), (show ((w.2.2 : Nat) : Int) - 18 * H.1 7 4 F.2.2.1 - 700 * H.1 3 1 F.2.1 - 6 * H.1 3 3 F.2.1 ≤ ((w.2.2 : Nat) : Int) - 18 * H.1 7 4 F.2.2.1 - 700 * H.1 3 1 F.2.1 - 6 * H.1 3 3 F.2.1 + 10 * (1) by omega), Or.inl ⟨_, rfl, _, rfl, trivial⟩⟩
  by_cases c18 : what = 7
  · refine J.tsw rfl rfl rfl ⟨by omega, by omega⟩ (t := 102) (by rw [c18]; rfl) ?_
    refine J.run0 1 rfl ?_
    try dsimp only
    refine J.inv rfl rfl rfl rfl rfl rfl ((jD_w rfl).mpr (hI.is hI.top.1)) rfl rfl rfl rfl rfl (c_X10_greatestHeight  hI  ) ?_
    rintro v w H ⟨rfl, rfl, hv⟩
    obtain ⟨x19, rfl, r20⟩ := hv
    try dsimp only [Option.toList, List.append, List.cons_append, List.nil_append]
    exact J.reti rfl rfl rfl ⟨T, hI, hS, hE, (show ((w.2.1 : Nat) : Int) - 2 * H.1 7 4 F.2.2.1 - 13 * H.1 3 1 F.2.1 - H.1 3 3 F.2.1 ≤ ((w.2.1 : Nat) : Int) - 2 * H.1 7 4 F.2.2.1 - 13 * H.1 3 1 F.2.1 - H.1 3 3 F.2.1 + (1) by omega), (show ((w.2.2 : Nat) : Int) - 18 * H.1 7 4 F.2.2.1 - 700 * H.1 3 1 F.2.1 - 6 * H.1 3 3 F.2.1 ≤ ((w.2.2 : Nat) : Int) - 18 * H.1 7 4 F.2.2.1 - 700 * H.1 3 1 F.2.1 - 6 * H.1 3 3 F.2.1 + 10 * (1) by omega), Or.inl ⟨_, rfl, _, rfl, trivial⟩⟩
  by_cases c21 : what = 8
  · refine J.tsw rfl rfl rfl ⟨by omega, by omega⟩ (t := 107) (by rw [c21]; rfl) ?_
    refine J.run0 1 rfl ?_
    try dsimp only
    refine J.inv rfl rfl rfl rfl rfl rfl ((jD_w rfl).mpr (hI.is hI.top.1)) rfl rfl rfl rfl rfl (c_X10_doubleMessages  hI  ) ?_
    rintro v w H ⟨rfl, rfl, hv⟩
    obtain ⟨x22, rfl, r23⟩ := hv
    try dsimp only [Option.toList, List.append, List.cons_append, List.nil_append]
    exact J.reti rfl rfl rfl ⟨T, hI, hS, hE, (show ((w.2.1 : Nat) : Int) - 2 * H.1 7 4 F.2.2.1 - 13 * H.1 3 1 F.2.1 - H.1 3 3 F.2.1 ≤ ((w.2.1 : Nat) : Int) - 2 * H.1 7 4 F.2.2.1 - 13 * H.1 3 1 F.2.1 - H.1 3 3 F.2.1 + (1) by omega), (show ((w.2.2 : Nat) : Int) - 18 * H.1 7 4 F.2.2.1 - 700 * H.1 3 1 F.2.1 - 6 * H.1 3 3 F.2.1 ≤ ((w.2.2 : Nat) : Int) - 18 * H.1 7 4 F.2.2.1 - 700 * H.1 3 1 F.2.1 - 6 * H.1 3 3 F.2.1 + 10 * (1) by omega), Or.inl ⟨_, rfl, _, rfl, trivial⟩⟩
  have c24 : what < 0 ∨ 8 < what := by omega
  refine J.tsw rfl rfl rfl ⟨by omega, by omega⟩ (t := 112) (by rw [if_pos c24]; rfl) ?_
  exact J.thr rfl rfl rfl rfl ⟨T, hI, hS, hE, (show ((w.2.1 + 1 : Nat) : Int) - 2 * H.1 7 4 F.2.2.1 - 13 * H.1 3 1 F.2.1 - H.1 3 3 F.2.1 ≤ ((w.2.1 : Nat) : Int) - 2 * H.1 7 4 F.2.2.1 - 13 * H.1 3 1 F.2.1 - H.1 3 3 F.2.1 + (1) by omega), (show ((w.2.2 + 6 : Nat) : Int) - 18 * H.1 7 4 F.2.2.1 - 700 * H.1 3 1 F.2.1 - 6 * H.1 3 3 F.2.1 ≤ ((w.2.2 : Nat) : Int) - 18 * H.1 7 4 F.2.2.1 - 700 * H.1 3 1 F.2.1 - 6 * H.1 3 3 F.2.1 + 10 * (1) by omega), Or.inr rfl⟩
end
