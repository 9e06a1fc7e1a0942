-- M: X10_send
section
variable {d : Nat} {F : cG} 
set_option maxRecDepth 20000 in
set_option maxHeartbeats 8000000 in
theorem c_X10_send {x : Nat} {kind : Int} {block : Int} {before : Int} {T : cP} {w : jW} {H : jH} (hI : cJ F T w H) (ta0 : T 6 x) (hp0 : H.1 6 11 x = 0) (hp1 : H.1 0 1 (H.2.2.2.2 6 1 x) < 120) (hp2 : -2147483648 ≤ block ∧ block ≤ 2147483647) (hp3 : -2147483648 ≤ before ∧ before ≤ 2147483647) : J false (d + 3) 97 w (0, jargs 0 [.inr (some (10, F.1)), .inr (some (6, x)), .inl kind, .inl block, .inl before], [], H) (jN fun v w' H' => ∃ T', cJ F T' w' H' ∧ (∀ k p, T k p → T' k p) ∧ cEx T [401, 402, 611, 612, 616, 704, 10209, 10507, 30026, 30027, 30031, 40025, 40028, 40029, 40030] H' H ∧ ((w'.2.1 : Nat) : Int) - 2 * H'.1 7 4 F.2.2.1 - 13 * H'.1 3 1 F.2.1 - H'.1 3 3 F.2.1 ≤ ((w.2.1 : Nat) : Int) - 2 * H.1 7 4 F.2.2.1 - 13 * H.1 3 1 F.2.1 - H.1 3 3 F.2.1 + (H'.1 6 11 x) ∧ ((w'.2.2 : Nat) : Int) - 18 * H'.1 7 4 F.2.2.1 - 700 * H'.1 3 1 F.2.1 - 6 * H'.1 3 3 F.2.1 ≤ ((w.2.2 : Nat) : Int) - 18 * H.1 7 4 F.2.2.1 - 700 * H.1 3 1 F.2.1 - 6 * H.1 3 3 F.2.1 + 10 * (H'.1 6 11 x) ∧ v = none) := by
  have hE : cEx T [401, 402, 611, 612, 616, 704, 10209, 10507, 30026, 30027, 30031, 40025, 40028, 40029, 40030] H H := cEx.refl
  have hS : ∀ k p, T k p → T k p := fun _ _ z => z
  refine J.run 2 rfl ⟨(hI.is hI.top.1), (hI.o 10 1 7 F.1 rfl hI.top.1).1⟩ ?_
  try dsimp only
  try dsimp only
  rw [show (H.2.2.2.2 10 1 F.1) = F.2.2.1 from hI.one.2.2.1 _ (hI.o 10 1 7 F.1 rfl hI.top.1).2]
  refine J.inv rfl rfl rfl rfl rfl rfl ((jD_w rfl).mpr (hI.is hI.top.2.2.1)) rfl rfl rfl rfl rfl (c_X7_isFull  hI  ) ?_
  rintro v w H ⟨rfl, rfl, hv⟩
  obtain ⟨x1, rfl, r2⟩ := hv
  have r2' : (x1 = 0 ∨ x1 = 1) ∧ (x1 = 0 → H.1 7 4 F.2.2.1 < 6000) := r2
  try dsimp only [Option.toList, List.append, List.cons_append, List.nil_append]
  refine J.ifc rfl rfl rfl (show -2147483648 ≤ x1 ∧ x1 ≤ 2147483647 from ⟨by omega, by omega⟩) (fun hc => ?_) (fun hc => ?_)
  · have c3 : x1 = (0 : Int) := hc
    clear hc
    refine s_entry hI ta0 ⟨by omega, by omega⟩ ⟨by omega, by omega⟩ fun w5 H4 q11  hI6 ehE8 ca9 cb10  => ?_
    have eM := ehE8
    have g12 : H4.1 7 4 F.2.2.1 = H.1 7 4 F.2.2.1 := (ehE8.1 7 4 F.2.2.1 hI.top.2.2.1).1 (by decide)
    have g13 : H4.1 3 1 F.2.1 = H.1 3 1 F.2.1 := (ehE8.1 3 1 F.2.1 hI.top.2.1).1 (by decide)
    have g14 : H4.1 3 3 F.2.1 = H.1 3 3 F.2.1 := (ehE8.1 3 3 F.2.1 hI.top.2.1).1 (by decide)
    have hE8 : cEx T [401, 402, 611, 612, 616, 704, 10209, 10507, 30026, 30027, 30031, 40025, 40028, 40029, 40030] H4 H := cEx.trans ehE8 hE hS (by decide)
    have hS7 : ∀ k p, T k p → (tA T 2 q11) k p := fun k p z => Or.inl (hS k p z)
    have t15 : (tA T 2 q11) 10 F.1 := Or.inl hI.top.1
    have t16 : (tA T 2 q11) 6 x := Or.inl ta0
    have t17 : (tA T 2 q11) 2 q11 := tA.new
    try dsimp only [Option.toList, List.append, List.cons_append, List.nil_append, Option.map]
    have g61 := (eM.1 6 11 x ta0).1 (by decide)
    refine J.run 4 rfl (hI6.is t16) ?_
    try dsimp only
    refine J.icmpN rfl rfl rfl (fun hc => ?_) (fun hc => ?_)
    · have c18 : jn ((12 : Int)) < jn (H4.1 6 12 x) := hc
      clear hc
      refine J.run 4 rfl ⟨(hI6.is t16), (hI6.o 6 13 4 x rfl t16).1⟩ ?_
      try dsimp only
      refine J.inv rfl rfl rfl rfl rfl rfl ((jD_w rfl).mpr (hI6.is (hI6.o 6 13 4 x rfl t16).2)) rfl rfl rfl rfl rfl (c_X4_write (a0 := (H4.2.2.2.2 6 13 x)) (e := q11) (bytes := (12 : Int)) hI6 (hI6.o 6 13 4 x rfl t16).2 t17 ) ?_
      rintro v w20 H19 ⟨T21, hI22, shS23, ehE24, hr25, hr25s, hv⟩
      have hr25' : ((w20.2.1 : Nat) : Int) - 2 * H19.1 7 4 F.2.2.1 - 13 * H19.1 3 1 F.2.1 - H19.1 3 3 F.2.1 ≤ ((w5.2.1 : Nat) : Int) - 2 * H4.1 7 4 F.2.2.1 - 13 * H4.1 3 1 F.2.1 - H4.1 3 3 F.2.1 + (0) := hr25
      have hr25s' : ((w20.2.2 : Nat) : Int) - 18 * H19.1 7 4 F.2.2.1 - 700 * H19.1 3 1 F.2.1 - 6 * H19.1 3 3 F.2.1 ≤ ((w5.2.2 : Nat) : Int) - 18 * H4.1 7 4 F.2.2.1 - 700 * H4.1 3 1 F.2.1 - 6 * H4.1 3 3 F.2.1 + 10 * (0) := hr25s
      have hE24 : cEx T [401, 402, 611, 612, 616, 704, 10209, 10507, 30026, 30027, 30031, 40025, 40028, 40029, 40030] H19 H := cEx.trans ehE24 hE8 hS7 (by decide)
      have hS23 : ∀ k p, T k p → T21 k p := fun k p z => shS23 k p (hS7 k p z)
      have g26 : H19.1 7 4 F.2.2.1 = H4.1 7 4 F.2.2.1 := (ehE24.1 7 4 F.2.2.1 hI6.top.2.2.1).1 (by decide)
      have g27 : H19.1 3 1 F.2.1 = H4.1 3 1 F.2.1 := (ehE24.1 3 1 F.2.1 hI6.top.2.1).1 (by decide)
      have g28 : H19.1 3 3 F.2.1 = H4.1 3 3 F.2.1 := (ehE24.1 3 3 F.2.1 hI6.top.2.1).1 (by decide)
      have g29 : H19.1 6 11 x = H4.1 6 11 x := (ehE24.1 6 11 x t16).1 (by decide)
      have t30 : T21 2 q11 := shS23 _ _ t17
      have t31 : T21 10 F.1 := shS23 _ _ t15
      have t32 : T21 6 x := shS23 _ _ t16
      obtain rfl := hv
      try dsimp only [Option.toList, List.append, List.cons_append, List.nil_append]
      refine J.run0 3 rfl ?_
      try dsimp only
      have e61 := (hE24.1 6 1 x ta0).2.2 (by decide)
      have e01 := (hE24.1 0 1 (H.2.2.2.2 6 1 x) (hI.o 6 1 0 x rfl ta0).2).1 (by decide)
      have h01 : H19.1 0 1 (H19.2.2.2.2 6 1 x) < 120 := by rw [e61]; omega
      refine J.inv rfl rfl rfl rfl rfl rfl ((jD_w rfl).mpr (hI22.is t31)) rfl rfl rfl rfl rfl (c_X10_sendRecorded (x := x) (e := q11) hI22 t32 t30 ) ?_
      rintro v w34 H33 ⟨T35, hI36, shS37, ehE38, hr39, hr39s, p40, hv⟩
      have hr39' : ((w34.2.1 : Nat) : Int) - 2 * H33.1 7 4 F.2.2.1 - 13 * H33.1 3 1 F.2.1 - H33.1 3 3 F.2.1 ≤ ((w20.2.1 : Nat) : Int) - 2 * H19.1 7 4 F.2.2.1 - 13 * H19.1 3 1 F.2.1 - H19.1 3 3 F.2.1 + (0) := hr39
      have hr39s' : ((w34.2.2 : Nat) : Int) - 18 * H33.1 7 4 F.2.2.1 - 700 * H33.1 3 1 F.2.1 - 6 * H33.1 3 3 F.2.1 ≤ ((w20.2.2 : Nat) : Int) - 18 * H19.1 7 4 F.2.2.1 - 700 * H19.1 3 1 F.2.1 - 6 * H19.1 3 3 F.2.1 + 10 * (0) := hr39s
      have p40' : H19.1 7 4 F.2.2.1 < 6000 → H19.1 0 1 (H19.2.2.2.2 6 1 x) < 120 → (((w34.2.1 : Nat) : Int) - 2 * H33.1 7 4 F.2.2.1 - 13 * H33.1 3 1 F.2.1 - H33.1 3 3 F.2.1 ≤ ((w20.2.1 : Nat) : Int) - 2 * H19.1 7 4 F.2.2.1 - 13 * H19.1 3 1 F.2.1 - H19.1 3 3 F.2.1 + (-1) ∧ ((w34.2.2 : Nat) : Int) - 18 * H33.1 7 4 F.2.2.1 - 700 * H33.1 3 1 F.2.1 - 6 * H33.1 3 3 F.2.1 ≤ ((w20.2.2 : Nat) : Int) - 18 * H19.1 7 4 F.2.2.1 - 700 * H19.1 3 1 F.2.1 - 6 * H19.1 3 3 F.2.1 + 10 * (-1)) := p40
      have hE38 : cEx T [401, 402, 611, 612, 616, 704, 10209, 10507, 30026, 30027, 30031, 40025, 40028, 40029, 40030] H33 H := cEx.trans ehE38 hE24 hS23 (by decide)
      have hS37 : ∀ k p, T k p → T35 k p := fun k p z => shS37 k p (hS23 k p z)
      have g41 : H33.1 3 1 F.2.1 = H19.1 3 1 F.2.1 := (ehE38.1 3 1 F.2.1 hI22.top.2.1).1 (by decide)
      have g42 : H33.1 3 3 F.2.1 = H19.1 3 3 F.2.1 := (ehE38.1 3 3 F.2.1 hI22.top.2.1).1 (by decide)
      have g43 : H33.1 6 11 x = H19.1 6 11 x := (ehE38.1 6 11 x t32).1 (by decide)
      have t44 : T35 2 q11 := shS37 _ _ t30
      have t45 : T35 10 F.1 := shS37 _ _ t31
      have t46 : T35 6 x := shS37 _ _ t32
      obtain rfl := hv
      try dsimp only [Option.toList, List.append, List.cons_append, List.nil_append]
      exact J.retv rfl rfl rfl ⟨_, rfl, T35, hI36, hS37, hE38, (show ((w34.2.1 : Nat) : Int) - 2 * H33.1 7 4 F.2.2.1 - 13 * H33.1 3 1 F.2.1 - H33.1 3 3 F.2.1 ≤ ((w.2.1 : Nat) : Int) - 2 * H.1 7 4 F.2.2.1 - 13 * H.1 3 1 F.2.1 - H.1 3 3 F.2.1 + (H33.1 6 11 x) by omega), (show ((w34.2.2 : Nat) : Int) - 18 * H33.1 7 4 F.2.2.1 - 700 * H33.1 3 1 F.2.1 - 6 * H33.1 3 3 F.2.1 ≤ ((w.2.2 : Nat) : Int) - 18 * H.1 7 4 F.2.2.1 - 700 * H.1 3 1 F.2.1 - 6 * H.1 3 3 F.2.1 + 10 * (H33.1 6 11 x) by omega), rfl⟩
    · have c47 : ¬ (jn ((12 : Int)) < jn (H4.1 6 12 x)) := hc
      clear hc
      refine J.run 5 rfl ⟨⟨(hI6.is t16), (hI6.o 6 13 4 x rfl t16).1⟩, (hI6.is t16)⟩ ?_
      try dsimp only
      refine J.inv rfl rfl rfl rfl rfl rfl ((jD_w rfl).mpr (hI6.is (hI6.o 6 13 4 x rfl t16).2)) rfl rfl rfl rfl rfl (c_X4_write (a0 := (H4.2.2.2.2 6 13 x)) (e := q11) (bytes := H4.1 6 12 x) hI6 (hI6.o 6 13 4 x rfl t16).2 t17 ) ?_
      rintro v w49 H48 ⟨T50, hI51, shS52, ehE53, hr54, hr54s, hv⟩
      have hr54' : ((w49.2.1 : Nat) : Int) - 2 * H48.1 7 4 F.2.2.1 - 13 * H48.1 3 1 F.2.1 - H48.1 3 3 F.2.1 ≤ ((w5.2.1 : Nat) : Int) - 2 * H4.1 7 4 F.2.2.1 - 13 * H4.1 3 1 F.2.1 - H4.1 3 3 F.2.1 + (0) := hr54
      have hr54s' : ((w49.2.2 : Nat) : Int) - 18 * H48.1 7 4 F.2.2.1 - 700 * H48.1 3 1 F.2.1 - 6 * H48.1 3 3 F.2.1 ≤ ((w5.2.2 : Nat) : Int) - 18 * H4.1 7 4 F.2.2.1 - 700 * H4.1 3 1 F.2.1 - 6 * H4.1 3 3 F.2.1 + 10 * (0) := hr54s
      have hE53 : cEx T [401, 402, 611, 612, 616, 704, 10209, 10507, 30026, 30027, 30031, 40025, 40028, 40029, 40030] H48 H := cEx.trans ehE53 hE8 hS7 (by decide)
      have hS52 : ∀ k p, T k p → T50 k p := fun k p z => shS52 k p (hS7 k p z)
      have g55 : H48.1 7 4 F.2.2.1 = H4.1 7 4 F.2.2.1 := (ehE53.1 7 4 F.2.2.1 hI6.top.2.2.1).1 (by decide)
      have g56 : H48.1 3 1 F.2.1 = H4.1 3 1 F.2.1 := (ehE53.1 3 1 F.2.1 hI6.top.2.1).1 (by decide)
      have g57 : H48.1 3 3 F.2.1 = H4.1 3 3 F.2.1 := (ehE53.1 3 3 F.2.1 hI6.top.2.1).1 (by decide)
      have g58 : H48.1 6 11 x = H4.1 6 11 x := (ehE53.1 6 11 x t16).1 (by decide)
      have t59 : T50 2 q11 := shS52 _ _ t17
      have t60 : T50 10 F.1 := shS52 _ _ t15
      have t61 : T50 6 x := shS52 _ _ t16
      obtain rfl := hv
      try dsimp only [Option.toList, List.append, List.cons_append, List.nil_append]
      refine J.run0 1 rfl ?_
      try dsimp only
      refine J.inv rfl rfl rfl rfl rfl rfl ((jD_w rfl).mpr (hI51.is t61)) rfl rfl rfl rfl rfl (c_X6_fail (a0 := x) hI51 t61 ) ?_
      rintro v w63 H62 ⟨T64, hI65, shS66, ehE67, hr68, hr68s, p69, hv⟩
      have hr68' : ((w63.2.1 : Nat) : Int) - 2 * H62.1 7 4 F.2.2.1 - 13 * H62.1 3 1 F.2.1 - H62.1 3 3 F.2.1 ≤ ((w49.2.1 : Nat) : Int) - 2 * H48.1 7 4 F.2.2.1 - 13 * H48.1 3 1 F.2.1 - H48.1 3 3 F.2.1 + (0) := hr68
      have hr68s' : ((w63.2.2 : Nat) : Int) - 18 * H62.1 7 4 F.2.2.1 - 700 * H62.1 3 1 F.2.1 - 6 * H62.1 3 3 F.2.1 ≤ ((w49.2.2 : Nat) : Int) - 18 * H48.1 7 4 F.2.2.1 - 700 * H48.1 3 1 F.2.1 - 6 * H48.1 3 3 F.2.1 + 10 * (0) := hr68s
      have p69' : H62.1 6 11 x = 1 := p69
      have hE67 : cEx T [401, 402, 611, 612, 616, 704, 10209, 10507, 30026, 30027, 30031, 40025, 40028, 40029, 40030] H62 H := cEx.trans ehE67 hE53 hS52 (by decide)
      have hS66 : ∀ k p, T k p → T64 k p := fun k p z => shS66 k p (hS52 k p z)
      have g70 : H62.1 7 4 F.2.2.1 = H48.1 7 4 F.2.2.1 := (ehE67.1 7 4 F.2.2.1 hI51.top.2.2.1).1 (by decide)
      have g71 : H62.1 3 1 F.2.1 = H48.1 3 1 F.2.1 := (ehE67.1 3 1 F.2.1 hI51.top.2.1).1 (by decide)
      have g72 : H62.1 3 3 F.2.1 = H48.1 3 3 F.2.1 := (ehE67.1 3 3 F.2.1 hI51.top.2.1).1 (by decide)
      have t73 : T64 2 q11 := shS66 _ _ t59
      have t74 : T64 10 F.1 := shS66 _ _ t60
      have t75 : T64 6 x := shS66 _ _ t61
      obtain rfl := hv
      try dsimp only [Option.toList, List.append, List.cons_append, List.nil_append]
      exact J.retv rfl rfl rfl ⟨_, rfl, T64, hI65, hS66, hE67, (show ((w63.2.1 : Nat) : Int) - 2 * H62.1 7 4 F.2.2.1 - 13 * H62.1 3 1 F.2.1 - H62.1 3 3 F.2.1 ≤ ((w.2.1 : Nat) : Int) - 2 * H.1 7 4 F.2.2.1 - 13 * H.1 3 1 F.2.1 - H.1 3 3 F.2.1 + (H62.1 6 11 x) by omega), (show ((w63.2.2 : Nat) : Int) - 18 * H62.1 7 4 F.2.2.1 - 700 * H62.1 3 1 F.2.1 - 6 * H62.1 3 3 F.2.1 ≤ ((w.2.2 : Nat) : Int) - 18 * H.1 7 4 F.2.2.1 - 700 * H.1 3 1 F.2.1 - 6 * H.1 3 3 F.2.1 + 10 * (H62.1 6 11 x) by omega), rfl⟩
  · have c76 : ¬ (x1 = (0 : Int)) := hc
    clear hc
    exact J.retv rfl rfl rfl ⟨_, rfl, T, hI, hS, hE, (show ((w.2.1 : Nat) : Int) - 2 * H.1 7 4 F.2.2.1 - 13 * H.1 3 1 F.2.1 - H.1 3 3 F.2.1 ≤ ((w.2.1 : Nat) : Int) - 2 * H.1 7 4 F.2.2.1 - 13 * H.1 3 1 F.2.1 - H.1 3 3 F.2.1 + (H.1 6 11 x) by omega), (show ((w.2.2 : Nat) : Int) - 18 * H.1 7 4 F.2.2.1 - 700 * H.1 3 1 F.2.1 - 6 * H.1 3 3 F.2.1 ≤ ((w.2.2 : Nat) : Int) - 18 * H.1 7 4 F.2.2.1 - 700 * H.1 3 1 F.2.1 - 6 * H.1 3 3 F.2.1 + 10 * (H.1 6 11 x) by omega), rfl⟩
end
