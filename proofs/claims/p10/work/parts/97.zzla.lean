-- M: X7_add
section
variable {d : Nat} {F : cG} 
set_option maxRecDepth 20000 in
set_option maxHeartbeats 8000000 in
theorem c_X7_add {kind : Int} {node : Int} {height : Int} {round : Int} {block : Int} {before : Int} {T : cP} {w : jW} {H : jH} (hI : cJ F T w H)  (hp0 : 0 ≤ node ∧ node ≤ 15) (hp1 : -2147483648 ≤ height ∧ height ≤ 2147483647) (hp2 : -2147483648 ≤ round ∧ round ≤ 2147483647) (hp3 : -2147483648 ≤ block ∧ block ≤ 2147483647) (hp4 : -2147483648 ≤ before ∧ before ≤ 2147483647) : J false (d + 1) 50 w (0, jargs 0 [.inr (some (7, F.2.2.1)), .inl kind, .inl node, .inl height, .inl round, .inl block, .inl before], [], H) (jN fun v w' H' => ∃ T', cJ F T' w' H' ∧ (∀ k p, T k p → T' k p) ∧ cEx T [704, 40028, 40029, 40030, 10507, 30031] H' H ∧ ((w'.2.1 : Nat) : Int) - 2 * H'.1 7 4 F.2.2.1 - 13 * H'.1 3 1 F.2.1 - H'.1 3 3 F.2.1 ≤ ((w.2.1 : Nat) : Int) - 2 * H.1 7 4 F.2.2.1 - 13 * H.1 3 1 F.2.1 - H.1 3 3 F.2.1 + (0) ∧ ((w'.2.2 : Nat) : Int) - 18 * H'.1 7 4 F.2.2.1 - 700 * H'.1 3 1 F.2.1 - 6 * H'.1 3 3 F.2.1 ≤ ((w.2.2 : Nat) : Int) - 18 * H.1 7 4 F.2.2.1 - 700 * H.1 3 1 F.2.1 - 6 * H.1 3 3 F.2.1 + 10 * (0) ∧ ((v = some (.inr none) ∧ (6000 ≤ H.1 7 4 F.2.2.1 ∨ height < 0 ∨ 120 < height ∨ round < 0 ∨ 31 < round)) ∨ ∃ rq, v = some (.inr (some (5, rq))) ∧ T' 5 rq ∧ (((w'.2.1 : Nat) : Int) - 2 * H'.1 7 4 F.2.2.1 - 13 * H'.1 3 1 F.2.1 - H'.1 3 3 F.2.1 ≤ ((w.2.1 : Nat) : Int) - 2 * H.1 7 4 F.2.2.1 - 13 * H.1 3 1 F.2.1 - H.1 3 3 F.2.1 + (-1) ∧ ((w'.2.2 : Nat) : Int) - 18 * H'.1 7 4 F.2.2.1 - 700 * H'.1 3 1 F.2.1 - 6 * H'.1 3 3 F.2.1 ≤ ((w.2.2 : Nat) : Int) - 18 * H.1 7 4 F.2.2.1 - 700 * H.1 3 1 F.2.1 - 6 * H.1 3 3 F.2.1 + 10 * (-1)))) := by
  have hE : cEx T [704, 40028, 40029, 40030, 10507, 30031] H H := cEx.refl
  have hS : ∀ k p, T k p → T k p := fun _ _ z => z
  have f1 : 0 ≤ H.1 7 4 F.2.2.1 ∧ H.1 7 4 F.2.2.1 ≤ 6000 := hI.v 7 4 F.2.2.1 hI.top.2.2.1
  refine J.run 3 rfl (hI.is hI.top.2.2.1) ?_
  try dsimp only
  refine J.icmp rfl rfl rfl ⟨(show -2147483648 ≤ H.1 7 4 F.2.2.1 ∧ H.1 7 4 F.2.2.1 ≤ 2147483647 from ⟨by omega, by omega⟩), (show -2147483648 ≤ (6000 : Int) ∧ (6000 : Int) ≤ 2147483647 from ⟨by omega, by omega⟩)⟩ (fun hc => ?_) (fun hc => ?_)
  · have c2 : (6000 : Int) ≤ H.1 7 4 F.2.2.1 := hc
    clear hc
    refine J.run0 1 rfl ?_
    try dsimp only
    exact J.reta rfl rfl rfl ⟨_, rfl, T, hI, hS, hE, (show ((w.2.1 : Nat) : Int) - 2 * H.1 7 4 F.2.2.1 - 13 * H.1 3 1 F.2.1 - H.1 3 3 F.2.1 ≤ ((w.2.1 : Nat) : Int) - 2 * H.1 7 4 F.2.2.1 - 13 * H.1 3 1 F.2.1 - H.1 3 3 F.2.1 + (0) by omega), (show ((w.2.2 : Nat) : Int) - 18 * H.1 7 4 F.2.2.1 - 700 * H.1 3 1 F.2.1 - 6 * H.1 3 3 F.2.1 ≤ ((w.2.2 : Nat) : Int) - 18 * H.1 7 4 F.2.2.1 - 700 * H.1 3 1 F.2.1 - 6 * H.1 3 3 F.2.1 + 10 * (0) by omega), Or.inl ⟨rfl, (by omega)⟩⟩
  · have c3 : ¬ ((6000 : Int) ≤ H.1 7 4 F.2.2.1) := hc
    clear hc
    refine J.run0 1 rfl ?_
    try dsimp only
    refine J.ifc rfl rfl rfl (show -2147483648 ≤ height ∧ height ≤ 2147483647 from ⟨by omega, by omega⟩) (fun hc => ?_) (fun hc => ?_)
    · have c4 : height < (0 : Int) := hc
      clear hc
      refine J.run0 1 rfl ?_
      try dsimp only
      exact J.reta rfl rfl rfl ⟨_, rfl, T, hI, hS, hE, (show ((w.2.1 : Nat) : Int) - 2 * H.1 7 4 F.2.2.1 - 13 * H.1 3 1 F.2.1 - H.1 3 3 F.2.1 ≤ ((w.2.1 : Nat) : Int) - 2 * H.1 7 4 F.2.2.1 - 13 * H.1 3 1 F.2.1 - H.1 3 3 F.2.1 + (0) by omega), (show ((w.2.2 : Nat) : Int) - 18 * H.1 7 4 F.2.2.1 - 700 * H.1 3 1 F.2.1 - 6 * H.1 3 3 F.2.1 ≤ ((w.2.2 : Nat) : Int) - 18 * H.1 7 4 F.2.2.1 - 700 * H.1 3 1 F.2.1 - 6 * H.1 3 3 F.2.1 + 10 * (0) by omega), Or.inl ⟨rfl, (by omega)⟩⟩
    · have c5 : ¬ (height < (0 : Int)) := hc
      clear hc
      refine J.run0 2 rfl ?_
      try dsimp only
      refine J.icmp rfl rfl rfl ⟨(show -2147483648 ≤ height ∧ height ≤ 2147483647 from ⟨by omega, by omega⟩), (show -2147483648 ≤ (120 : Int) ∧ (120 : Int) ≤ 2147483647 from ⟨by omega, by omega⟩)⟩ (fun hc => ?_) (fun hc => ?_)
      · have c6 : (120 : Int) < height := hc
        clear hc
        refine J.run0 1 rfl ?_
        try dsimp only
        exact J.reta rfl rfl rfl ⟨_, rfl, T, hI, hS, hE, (show ((w.2.1 : Nat) : Int) - 2 * H.1 7 4 F.2.2.1 - 13 * H.1 3 1 F.2.1 - H.1 3 3 F.2.1 ≤ ((w.2.1 : Nat) : Int) - 2 * H.1 7 4 F.2.2.1 - 13 * H.1 3 1 F.2.1 - H.1 3 3 F.2.1 + (0) by omega), (show ((w.2.2 : Nat) : Int) - 18 * H.1 7 4 F.2.2.1 - 700 * H.1 3 1 F.2.1 - 6 * H.1 3 3 F.2.1 ≤ ((w.2.2 : Nat) : Int) - 18 * H.1 7 4 F.2.2.1 - 700 * H.1 3 1 F.2.1 - 6 * H.1 3 3 F.2.1 + 10 * (0) by omega), Or.inl ⟨rfl, (by omega)⟩⟩
      · have c7 : ¬ ((120 : Int) < height) := hc
        clear hc
        refine J.run0 1 rfl ?_
        try dsimp only
        refine J.ifc rfl rfl rfl (show -2147483648 ≤ round ∧ round ≤ 2147483647 from ⟨by omega, by omega⟩) (fun hc => ?_) (fun hc => ?_)
        · have c8 : round < (0 : Int) := hc
          clear hc
          refine J.run0 1 rfl ?_
          try dsimp only
          exact J.reta rfl rfl rfl ⟨_, rfl, T, hI, hS, hE, (show ((w.2.1 : Nat) : Int) - 2 * H.1 7 4 F.2.2.1 - 13 * H.1 3 1 F.2.1 - H.1 3 3 F.2.1 ≤ ((w.2.1 : Nat) : Int) - 2 * H.1 7 4 F.2.2.1 - 13 * H.1 3 1 F.2.1 - H.1 3 3 F.2.1 + (0) by omega), (show ((w.2.2 : Nat) : Int) - 18 * H.1 7 4 F.2.2.1 - 700 * H.1 3 1 F.2.1 - 6 * H.1 3 3 F.2.1 ≤ ((w.2.2 : Nat) : Int) - 18 * H.1 7 4 F.2.2.1 - 700 * H.1 3 1 F.2.1 - 6 * H.1 3 3 F.2.1 + 10 * (0) by omega), Or.inl ⟨rfl, (by omega)⟩⟩
        · have c9 : ¬ (round < (0 : Int)) := hc
          clear hc
          refine J.run0 2 rfl ?_
          try dsimp only
          refine J.icmp rfl rfl rfl ⟨(show -2147483648 ≤ round ∧ round ≤ 2147483647 from ⟨by omega, by omega⟩), (show -2147483648 ≤ (32 : Int) ∧ (32 : Int) ≤ 2147483647 from ⟨by omega, by omega⟩)⟩ (fun hc => ?_) (fun hc => ?_)
          · have c10 : round < (32 : Int) := hc
            clear hc
            refine s_msg hI (by omega) ⟨by omega, by omega⟩ ⟨by omega, by omega⟩ ⟨by omega, by omega⟩ ⟨by omega, by omega⟩ ⟨by omega, by omega⟩ fun w12 H11 q18  hI13 ehE15 ca16 cb17 p19 p20 p21 => ?_
            have p19' : H11.1 7 4 F.2.2.1 = H.1 7 4 F.2.2.1 + 1 := p19
            have p20' : H11.1 5 0 q18 = H.1 7 4 F.2.2.1 := p20
            have p21' : H11.2.2.2.1 30 = H.2.2.2.1 30 := p21
            have pM0 := p19
            have pM1 := p20
            have pM2 := p21
            have eM := ehE15
            have g22 : H11.1 3 1 F.2.1 = H.1 3 1 F.2.1 := (ehE15.1 3 1 F.2.1 hI.top.2.1).1 (by decide)
            have g23 : H11.1 3 3 F.2.1 = H.1 3 3 F.2.1 := (ehE15.1 3 3 F.2.1 hI.top.2.1).1 (by decide)
            have hE15 : cEx T [704, 40028, 40029, 40030, 10507, 30031] H11 H := cEx.trans ehE15 hE hS (by decide)
            have hS14 : ∀ k p, T k p → (tA T 5 q18) k p := fun k p z => Or.inl (hS k p z)
            have t24 : (tA T 5 q18) 7 F.2.2.1 := Or.inl hI.top.2.2.1
            have t25 : (tA T 5 q18) 5 q18 := tA.new
            try dsimp only [Option.toList, List.append, List.cons_append, List.nil_append, Option.map]
            refine J.run 10 rfl ⟨⟨(hI13.is t24), hI13.is (hI13.r 7 2 30 F.2.2.1 rfl t24)⟩, (show w12.1 30 F.2.2.1 ∧ 0 ≤ (height * (32 : Int)) + round ∧ (height * (32 : Int)) + round < 3872 from ⟨hI13.is (hI13.r 7 2 30 F.2.2.1 rfl t24), by omega, by omega⟩)⟩ ?_
            try dsimp only
            try dsimp only
            rcases hn26 : H11.2.2.2.1 30 F.2.2.1 ((height * (32 : Int)) + round) with _ | q27
            · skip
              refine J.run 6 rfl ⟨⟨(hI13.is t24), hI13.is (hI13.r 7 1 29 F.2.2.1 rfl t24)⟩, (show w12.1 29 F.2.2.1 ∧ w12.1 5 q18 ∧ 0 ≤ (height * (32 : Int)) + round ∧ (height * (32 : Int)) + round < 3872 from ⟨hI13.is (hI13.r 7 1 29 F.2.2.1 rfl t24), hI13.is t25, by omega, by omega⟩)⟩ ?_
              try dsimp only
              refine J.gn fun H28 hH28 => ?_
              have hI29 : cJ F (tA T 5 q18) w12 H28 := by rw [hH28]; exact cI.wB hI13 rfl (hI13.r 7 1 29 F.2.2.1 rfl t24) (fun _ z => by cases z; exact t25) (Or.inr (fun z => nomatch z))
              have hE30 : cEx T [704, 40028, 40029, 40030, 10507, 30031] H28 H := by rw [hH28]; exact cEx.wB hE15 (by decide)
              have g31 : H28.1 7 4 F.2.2.1 = H11.1 7 4 F.2.2.1 := by subst hH28; rfl
              have g32 : H28.1 3 1 F.2.1 = H11.1 3 1 F.2.1 := by subst hH28; rfl
              have g33 : H28.1 3 3 F.2.1 = H11.1 3 3 F.2.1 := by subst hH28; rfl
              clear hH28
              refine J.run 6 rfl ⟨⟨(hI29.is t24), hI29.is (hI29.r 7 2 30 F.2.2.1 rfl t24)⟩, (show w12.1 30 F.2.2.1 ∧ w12.1 5 q18 ∧ 0 ≤ (height * (32 : Int)) + round ∧ (height * (32 : Int)) + round < 3872 from ⟨hI29.is (hI29.r 7 2 30 F.2.2.1 rfl t24), hI29.is t25, by omega, by omega⟩)⟩ ?_
              try dsimp only
              refine J.gn fun H34 hH34 => ?_
              have hI35 : cJ F (tA T 5 q18) w12 H34 := by rw [hH34]; exact cI.wB hI29 rfl (hI29.r 7 2 30 F.2.2.1 rfl t24) (fun _ z => by cases z; exact t25) (Or.inr (fun z => nomatch z))
              have hE36 : cEx T [704, 40028, 40029, 40030, 10507, 30031] H34 H := by rw [hH34]; exact cEx.wB hE30 (by decide)
              have g37 : H34.1 7 4 F.2.2.1 = H28.1 7 4 F.2.2.1 := by subst hH34; rfl
              have g38 : H34.1 3 1 F.2.1 = H28.1 3 1 F.2.1 := by subst hH34; rfl
              have g39 : H34.1 3 3 F.2.1 = H28.1 3 3 F.2.1 := by subst hH34; rfl
              clear hH34
              have f40 : -2147483648 ≤ jshl ((1 : Int)) (round) ∧ jshl ((1 : Int)) (round) ≤ 2147483647 := jI32 _
              have f41 : -2147483648 ≤ jor (H34.2.2.1 31 F.2.2.1 (height)) (jshl ((1 : Int)) (round)) ∧ jor (H34.2.2.1 31 F.2.2.1 (height)) (jshl ((1 : Int)) (round)) ≤ 2147483647 := jI32 _
              refine J.run 10 rfl ⟨⟨(hI35.is t24), hI35.is (hI35.r 7 3 31 F.2.2.1 rfl t24)⟩, (show w12.1 31 F.2.2.1 ∧ 0 ≤ height ∧ height < 121 from ⟨hI35.is (hI35.r 7 3 31 F.2.2.1 rfl t24), by omega, by omega⟩), (show w12.1 31 F.2.2.1 ∧ 0 ≤ height ∧ height < 121 from ⟨hI35.is (hI35.r 7 3 31 F.2.2.1 rfl t24), by omega, by omega⟩)⟩ ?_
              try dsimp only
              refine J.gn fun H42 hH42 => ?_
              have hI43 : cJ F (tA T 5 q18) w12 H42 := by rw [hH42]; exact cI.wRj hI35 (hI35.r 7 3 31 F.2.2.1 rfl t24) trivial
              have hE44 : cEx T [704, 40028, 40029, 40030, 10507, 30031] H42 H := by rw [hH42]; exact cEx.wR hE36 (by decide)
              have g45 : H42.1 7 4 F.2.2.1 = H34.1 7 4 F.2.2.1 := by subst hH42; rfl
              have g46 : H42.1 3 1 F.2.1 = H34.1 3 1 F.2.1 := by subst hH42; rfl
              have g47 : H42.1 3 3 F.2.1 = H34.1 3 3 F.2.1 := by subst hH42; rfl
              clear hH42
              refine J.run0 1 rfl ?_
              try dsimp only
              exact J.reta rfl rfl rfl ⟨_, rfl, (tA T 5 q18), hI43, hS14, hE44, (show ((w12.2.1 : Nat) : Int) - 2 * H42.1 7 4 F.2.2.1 - 13 * H42.1 3 1 F.2.1 - H42.1 3 3 F.2.1 ≤ ((w.2.1 : Nat) : Int) - 2 * H.1 7 4 F.2.2.1 - 13 * H.1 3 1 F.2.1 - H.1 3 3 F.2.1 + (0) by omega), (show ((w12.2.2 : Nat) : Int) - 18 * H42.1 7 4 F.2.2.1 - 700 * H42.1 3 1 F.2.1 - 6 * H42.1 3 3 F.2.1 ≤ ((w.2.2 : Nat) : Int) - 18 * H.1 7 4 F.2.2.1 - 700 * H.1 3 1 F.2.1 - 6 * H.1 3 3 F.2.1 + 10 * (0) by omega), Or.inr ⟨_, rfl, t25, ⟨by omega, by omega⟩⟩⟩
            · have t48 : (tA T 5 q18) 5 q27 := hI13.a 30 F.2.2.1 rfl (hI13.r 7 2 30 F.2.2.1 rfl t24) hn26
              have f49 : 0 ≤ H11.1 5 0 q27 ∧ H11.1 5 0 q27 ≤ 5999 := hI13.v 5 0 q27 t48
              refine J.run 5 rfl ⟨⟨(hI13.is t24), hI13.is (hI13.r 7 2 30 F.2.2.1 rfl t24)⟩, (show w12.1 30 F.2.2.1 ∧ 0 ≤ (height * (32 : Int)) + round ∧ (height * (32 : Int)) + round < 3872 from ⟨hI13.is (hI13.r 7 2 30 F.2.2.1 rfl t24), by omega, by omega⟩)⟩ ?_
              try dsimp only
              try dsimp only
              rw [hn26]
              refine J.run0 1 rfl ?_
              try dsimp only
              have tq : T 5 q27 := hI.a 30 F.2.2.1 rfl (hI.r 7 2 30 F.2.2.1 rfl hI.top.2.2.1) (by rw [← pM2]; exact hn26)
              have m1 := hI.ms tq
              have m2 := (eM.1 5 0 _ tq).1 (by decide)
              refine J.run 1 rfl (hI13.is t48) ?_
              try dsimp only
              refine J.gn fun H50 hH50 => ?_
              have hI51 : cJ F (tA T 5 q18) w12 H50 := by rw [hH50]; exact cI.wnx hI13 t25 (by omega)
              have hE52 : cEx T [704, 40028, 40029, 40030, 10507, 30031] H50 H := by rw [hH50]; exact cEx.wr hE15 (by decide)
              have g53 : H50.1 7 4 F.2.2.1 = H11.1 7 4 F.2.2.1 := by subst hH50; rfl
              have g54 : H50.1 3 1 F.2.1 = H11.1 3 1 F.2.1 := by subst hH50; rfl
              have g55 : H50.1 3 3 F.2.1 = H11.1 3 3 F.2.1 := by subst hH50; rfl
              clear hH50
              refine J.run 5 rfl ⟨⟨(hI51.is t24), hI51.is (hI51.r 7 2 30 F.2.2.1 rfl t24)⟩, (show w12.1 30 F.2.2.1 ∧ w12.1 5 q18 ∧ 0 ≤ (height * (32 : Int)) + round ∧ (height * (32 : Int)) + round < 3872 from ⟨hI51.is (hI51.r 7 2 30 F.2.2.1 rfl t24), hI51.is t25, by omega, by omega⟩)⟩ ?_
              try dsimp only
              refine J.gn fun H56 hH56 => ?_
              have hI57 : cJ F (tA T 5 q18) w12 H56 := by rw [hH56]; exact cI.wB hI51 rfl (hI51.r 7 2 30 F.2.2.1 rfl t24) (fun _ z => by cases z; exact t25) (Or.inr (fun z => nomatch z))
              have hE58 : cEx T [704, 40028, 40029, 40030, 10507, 30031] H56 H := by rw [hH56]; exact cEx.wB hE52 (by decide)
              have g59 : H56.1 7 4 F.2.2.1 = H50.1 7 4 F.2.2.1 := by subst hH56; rfl
              have g60 : H56.1 3 1 F.2.1 = H50.1 3 1 F.2.1 := by subst hH56; rfl
              have g61 : H56.1 3 3 F.2.1 = H50.1 3 3 F.2.1 := by subst hH56; rfl
              clear hH56
              have f62 : -2147483648 ≤ jshl ((1 : Int)) (round) ∧ jshl ((1 : Int)) (round) ≤ 2147483647 := jI32 _
              have f63 : -2147483648 ≤ jor (H56.2.2.1 31 F.2.2.1 (height)) (jshl ((1 : Int)) (round)) ∧ jor (H56.2.2.1 31 F.2.2.1 (height)) (jshl ((1 : Int)) (round)) ≤ 2147483647 := jI32 _
              refine J.run 10 rfl ⟨⟨(hI57.is t24), hI57.is (hI57.r 7 3 31 F.2.2.1 rfl t24)⟩, (show w12.1 31 F.2.2.1 ∧ 0 ≤ height ∧ height < 121 from ⟨hI57.is (hI57.r 7 3 31 F.2.2.1 rfl t24), by omega, by omega⟩), (show w12.1 31 F.2.2.1 ∧ 0 ≤ height ∧ height < 121 from ⟨hI57.is (hI57.r 7 3 31 F.2.2.1 rfl t24), by omega, by omega⟩)⟩ ?_
              try dsimp only
              refine J.gn fun H64 hH64 => ?_
              have hI65 : cJ F (tA T 5 q18) w12 H64 := by rw [hH64]; exact cI.wRj hI57 (hI57.r 7 3 31 F.2.2.1 rfl t24) trivial
              have hE66 : cEx T [704, 40028, 40029, 40030, 10507, 30031] H64 H := by rw [hH64]; exact cEx.wR hE58 (by decide)
              have g67 : H64.1 7 4 F.2.2.1 = H56.1 7 4 F.2.2.1 := by subst hH64; rfl
              have g68 : H64.1 3 1 F.2.1 = H56.1 3 1 F.2.1 := by subst hH64; rfl
              have g69 : H64.1 3 3 F.2.1 = H56.1 3 3 F.2.1 := by subst hH64; rfl
              clear hH64
              refine J.run0 1 rfl ?_
              try dsimp only
              exact J.reta rfl rfl rfl ⟨_, rfl, (tA T 5 q18), hI65, hS14, hE66, (show ((w12.2.1 : Nat) : Int) - 2 * H64.1 7 4 F.2.2.1 - 13 * H64.1 3 1 F.2.1 - H64.1 3 3 F.2.1 ≤ ((w.2.1 : Nat) : Int) - 2 * H.1 7 4 F.2.2.1 - 13 * H.1 3 1 F.2.1 - H.1 3 3 F.2.1 + (0) by omega), (show ((w12.2.2 : Nat) : Int) - 18 * H64.1 7 4 F.2.2.1 - 700 * H64.1 3 1 F.2.1 - 6 * H64.1 3 3 F.2.1 ≤ ((w.2.2 : Nat) : Int) - 18 * H.1 7 4 F.2.2.1 - 700 * H.1 3 1 F.2.1 - 6 * H.1 3 3 F.2.1 + 10 * (0) by omega), Or.inr ⟨_, rfl, t25, ⟨by omega, by omega⟩⟩⟩
          · have c70 : ¬ (round < (32 : Int)) := hc
            clear hc
            refine J.run0 1 rfl ?_
            try dsimp only
            exact J.reta rfl rfl rfl ⟨_, rfl, T, hI, hS, hE, (show ((w.2.1 : Nat) : Int) - 2 * H.1 7 4 F.2.2.1 - 13 * H.1 3 1 F.2.1 - H.1 3 3 F.2.1 ≤ ((w.2.1 : Nat) : Int) - 2 * H.1 7 4 F.2.2.1 - 13 * H.1 3 1 F.2.1 - H.1 3 3 F.2.1 + (0) by omega), (show ((w.2.2 : Nat) : Int) - 18 * H.1 7 4 F.2.2.1 - 700 * H.1 3 1 F.2.1 - 6 * H.1 3 3 F.2.1 ≤ ((w.2.2 : Nat) : Int) - 18 * H.1 7 4 F.2.2.1 - 700 * H.1 3 1 F.2.1 - 6 * H.1 3 3 F.2.1 + 10 * (0) by omega), Or.inl ⟨rfl, (by omega)⟩⟩
end
-- M: X3_addTransaction
section
variable {d : Nat} {F : cG} 
set_option maxRecDepth 20000 in
set_option maxHeartbeats 8000000 in
theorem c_X3_addTransaction {t : Nat} {T : cP} {w : jW} {H : jH} (hI : cJ F T w H) (ta0 : T 9 t)  : J false d 15 w (0, jargs 0 [.inr (some (3, F.2.1)), .inr (some (9, t))], [], H) (jN fun v w' H' => ∃ T', cJ F T' w' H' ∧ (∀ k p, T k p → T' k p) ∧ cEx T [303, 40022] H' H ∧ ((w'.2.1 : Nat) : Int) - 2 * H'.1 7 4 F.2.2.1 - 13 * H'.1 3 1 F.2.1 - H'.1 3 3 F.2.1 ≤ ((w.2.1 : Nat) : Int) - 2 * H.1 7 4 F.2.2.1 - 13 * H.1 3 1 F.2.1 - H.1 3 3 F.2.1 + (0) ∧ ((w'.2.2 : Nat) : Int) - 18 * H'.1 7 4 F.2.2.1 - 700 * H'.1 3 1 F.2.1 - 6 * H'.1 3 3 F.2.1 ≤ ((w.2.2 : Nat) : Int) - 18 * H.1 7 4 F.2.2.1 - 700 * H.1 3 1 F.2.1 - 6 * H.1 3 3 F.2.1 + 10 * (0) ∧ ∃ rv, v = some (.inl rv) ∧ (True)) := by
  have hE : cEx T [303, 40022] H H := cEx.refl
  have hS : ∀ k p, T k p → T k p := fun _ _ z => z
  have f1 : 0 ≤ H.1 3 3 F.2.1 ∧ H.1 3 3 F.2.1 ≤ 1500 := hI.v 3 3 F.2.1 hI.top.2.1
  refine J.run 3 rfl (hI.is hI.top.2.1) ?_
  try dsimp only
  refine J.icmp rfl rfl rfl ⟨(show -2147483648 ≤ H.1 3 3 F.2.1 ∧ H.1 3 3 F.2.1 ≤ 2147483647 from ⟨by omega, by omega⟩), (show -2147483648 ≤ (1500 : Int) ∧ (1500 : Int) ≤ 2147483647 from ⟨by omega, by omega⟩)⟩ (fun hc => ?_) (fun hc => ?_)
  · have c2 : H.1 3 3 F.2.1 < (1500 : Int) := hc
    clear hc
    refine J.run 6 rfl ⟨⟨(hI.is hI.top.2.1), hI.is (hI.r 3 2 22 F.2.1 rfl hI.top.2.1)⟩, (hI.is hI.top.2.1), (show w.1 22 F.2.1 ∧ w.1 9 t ∧ 0 ≤ H.1 3 3 F.2.1 ∧ H.1 3 3 F.2.1 < 1500 from ⟨hI.is (hI.r 3 2 22 F.2.1 rfl hI.top.2.1), hI.is ta0, by omega, by omega⟩)⟩ ?_
    try dsimp only
    refine J.gn fun H3 hH3 => ?_
    have hI4 : cJ F T w H3 := by rw [hH3]; exact cI.wB hI rfl (hI.r 3 2 22 F.2.1 rfl hI.top.2.1) (fun _ z => by cases z; exact ta0) (Or.inr (fun z => nomatch z))
    have hE5 : cEx T [303, 40022] H3 H := by rw [hH3]; exact cEx.wB hE (by decide)
    have g6 : H3.1 3 3 F.2.1 = H.1 3 3 F.2.1 := by subst hH3; rfl
    have g7 : H3.1 7 4 F.2.2.1 = H.1 7 4 F.2.2.1 := by subst hH3; rfl
    have g8 : H3.1 3 1 F.2.1 = H.1 3 1 F.2.1 := by subst hH3; rfl
    have hb : H3.2.2.2.1 22 F.2.1 (H.1 3 3 F.2.1) ≠ none := by rw [hH3]; dsimp only; rw [jsetR_eq]; unfold jup; rw [if_pos rfl]; exact (nomatch ·)
    clear hH3
    have f9 : 0 ≤ H3.1 3 3 F.2.1 ∧ H3.1 3 3 F.2.1 ≤ 1500 := hI4.v 3 3 F.2.1 hI.top.2.1
    refine J.run 6 rfl ⟨(hI4.is hI.top.2.1), (hI4.is hI.top.2.1)⟩ ?_
    try dsimp only
    refine J.gn fun H10 hH10 => ?_
    have hI11 : cJ F T w H10 := by rw [hH10]; exact cJ.tx1 hI4 (by rw [show H3.1 3 3 F.2.1 = H.1 3 3 F.2.1 by omega]; exact hb) (by omega)
    have hE12 : cEx T [303, 40022] H10 H := by rw [hH10]; exact cEx.wi hE5 (by decide)
    have g14 : H10.1 7 4 F.2.2.1 = H3.1 7 4 F.2.2.1 := by subst hH10; rfl
    have g15 : H10.1 3 1 F.2.1 = H3.1 3 1 F.2.1 := by subst hH10; rfl
    have g16 : H10.1 3 3 F.2.1 = (H3.1 3 3 F.2.1) + (1 : Int) := by subst hH10; exact if_pos rfl
    clear hH10
    have f17 : 0 ≤ H10.1 3 3 F.2.1 ∧ H10.1 3 3 F.2.1 ≤ 1500 := hI11.v 3 3 F.2.1 hI.top.2.1
    refine J.run 4 rfl (hI11.is hI.top.2.1) ?_
    try dsimp only
    exact J.reti rfl rfl rfl ⟨_, rfl, T, hI11, hS, hE12, (show ((w.2.1 : Nat) : Int) - 2 * H10.1 7 4 F.2.2.1 - 13 * H10.1 3 1 F.2.1 - H10.1 3 3 F.2.1 ≤ ((w.2.1 : Nat) : Int) - 2 * H.1 7 4 F.2.2.1 - 13 * H.1 3 1 F.2.1 - H.1 3 3 F.2.1 + (0) by omega), (show ((w.2.2 : Nat) : Int) - 18 * H10.1 7 4 F.2.2.1 - 700 * H10.1 3 1 F.2.1 - 6 * H10.1 3 3 F.2.1 ≤ ((w.2.2 : Nat) : Int) - 18 * H.1 7 4 F.2.2.1 - 700 * H.1 3 1 F.2.1 - 6 * H.1 3 3 F.2.1 + 10 * (0) by omega), _, rfl, trivial⟩
  · have c18 : ¬ (H.1 3 3 F.2.1 < (1500 : Int)) := hc
    clear hc
    refine J.run0 1 rfl ?_
    try dsimp only
    exact J.reti rfl rfl rfl ⟨_, rfl, T, hI, hS, hE, (show ((w.2.1 : Nat) : Int) - 2 * H.1 7 4 F.2.2.1 - 13 * H.1 3 1 F.2.1 - H.1 3 3 F.2.1 ≤ ((w.2.1 : Nat) : Int) - 2 * H.1 7 4 F.2.2.1 - 13 * H.1 3 1 F.2.1 - H.1 3 3 F.2.1 + (0) by omega), (show ((w.2.2 : Nat) : Int) - 18 * H.1 7 4 F.2.2.1 - 700 * H.1 3 1 F.2.1 - 6 * H.1 3 3 F.2.1 ≤ ((w.2.2 : Nat) : Int) - 18 * H.1 7 4 F.2.2.1 - 700 * H.1 3 1 F.2.1 - 6 * H.1 3 3 F.2.1 + 10 * (0) by omega), _, rfl, trivial⟩
end
-- M: X3_addProof
section
variable {d : Nat} {F : cG} 
set_option maxRecDepth 20000 in
set_option maxHeartbeats 8000000 in
theorem c_X3_addProof {account : Int} {one : Nat} {two : Nat} {T : cP} {w : jW} {H : jH} (hI : cJ F T w H) (ta0 : T 5 one) (ta1 : T 5 two) (hp0 : 0 ≤ account ∧ account ≤ 199) : J false (d + 1) 16 w (0, jargs 0 [.inr (some (3, F.2.1)), .inl account, .inr (some (5, one)), .inr (some (5, two))], [], H) (jN fun v w' H' => ∃ T', cJ F T' w' H' ∧ (∀ k p, T k p → T' k p) ∧ cEx T [303, 40022] H' H ∧ ((w'.2.1 : Nat) : Int) - 2 * H'.1 7 4 F.2.2.1 - 13 * H'.1 3 1 F.2.1 - H'.1 3 3 F.2.1 ≤ ((w.2.1 : Nat) : Int) - 2 * H.1 7 4 F.2.2.1 - 13 * H.1 3 1 F.2.1 - H.1 3 3 F.2.1 + (1) ∧ ((w'.2.2 : Nat) : Int) - 18 * H'.1 7 4 F.2.2.1 - 700 * H'.1 3 1 F.2.1 - 6 * H'.1 3 3 F.2.1 ≤ ((w.2.2 : Nat) : Int) - 18 * H.1 7 4 F.2.2.1 - 700 * H.1 3 1 F.2.1 - 6 * H.1 3 3 F.2.1 + 10 * (1) ∧ ∃ rv, v = some (.inl rv) ∧ (True)) := by
  have hE : cEx T [303, 40022] H H := cEx.refl
  have hS : ∀ k p, T k p → T k p := fun _ _ z => z
  refine J.run0 2 rfl ?_
  try dsimp only
  refine J.inv rfl rfl rfl rfl rfl rfl ((jD_w rfl).mpr (hI.is ta0)) rfl rfl rfl rfl rfl (c_X5_isAgainst (a0 := one) (o := two) hI ta0 ta1 ) ?_
  rintro v w H ⟨rfl, rfl, hv⟩
  obtain ⟨x1, rfl, r2⟩ := hv
  have r2' : x1 = 0 ∨ x1 = 1 := r2
  try dsimp only [Option.toList, List.append, List.cons_append, List.nil_append]
  refine J.ifc rfl rfl rfl (show -2147483648 ≤ x1 ∧ x1 ≤ 2147483647 from ⟨by omega, by omega⟩) (fun hc => ?_) (fun hc => ?_)
  · have c3 : x1 = (0 : Int) := hc
    clear hc
    refine J.run0 3 rfl ?_
    try dsimp only
    refine s_trn1 hI ta0 ⟨by omega, by omega⟩ ⟨by omega, by omega⟩ fun w5 H4 q11  hI6 ehE8 ca9 cb10  => ?_
    have eM := ehE8
    have g12 : H4.1 7 4 F.2.2.1 = H.1 7 4 F.2.2.1 := (ehE8.1 7 4 F.2.2.1 hI.top.2.2.1).1 (by decide)
    have g13 : H4.1 3 1 F.2.1 = H.1 3 1 F.2.1 := (ehE8.1 3 1 F.2.1 hI.top.2.1).1 (by decide)
    have g14 : H4.1 3 3 F.2.1 = H.1 3 3 F.2.1 := (ehE8.1 3 3 F.2.1 hI.top.2.1).1 (by decide)
    have hE8 : cEx T [303, 40022] H4 H := cEx.trans ehE8 hE hS (by decide)
    have hS7 : ∀ k p, T k p → (tA T 9 q11) k p := fun k p z => Or.inl (hS k p z)
    have t15 : (tA T 9 q11) 3 F.2.1 := Or.inl hI.top.2.1
    have t16 : (tA T 9 q11) 5 one := Or.inl ta0
    have t17 : (tA T 9 q11) 5 two := Or.inl ta1
    have t18 : (tA T 9 q11) 9 q11 := tA.new
    try dsimp only [Option.toList, List.append, List.cons_append, List.nil_append, Option.map]
    refine J.inv rfl rfl rfl rfl rfl rfl ((jD_w rfl).mpr (hI6.is t15)) rfl rfl rfl rfl rfl (c_X3_addTransaction (t := q11) hI6 t18 ) ?_
    rintro v w20 H19 ⟨T21, hI22, shS23, ehE24, hr25, hr25s, hv⟩
    have hr25' : ((w20.2.1 : Nat) : Int) - 2 * H19.1 7 4 F.2.2.1 - 13 * H19.1 3 1 F.2.1 - H19.1 3 3 F.2.1 ≤ ((w5.2.1 : Nat) : Int) - 2 * H4.1 7 4 F.2.2.1 - 13 * H4.1 3 1 F.2.1 - H4.1 3 3 F.2.1 + (0) := hr25
    have hr25s' : ((w20.2.2 : Nat) : Int) - 18 * H19.1 7 4 F.2.2.1 - 700 * H19.1 3 1 F.2.1 - 6 * H19.1 3 3 F.2.1 ≤ ((w5.2.2 : Nat) : Int) - 18 * H4.1 7 4 F.2.2.1 - 700 * H4.1 3 1 F.2.1 - 6 * H4.1 3 3 F.2.1 + 10 * (0) := hr25s
    have hE24 : cEx T [303, 40022] H19 H := cEx.trans ehE24 hE8 hS7 (by decide)
    have hS23 : ∀ k p, T k p → T21 k p := fun k p z => shS23 k p (hS7 k p z)
    have g26 : H19.1 7 4 F.2.2.1 = H4.1 7 4 F.2.2.1 := (ehE24.1 7 4 F.2.2.1 hI6.top.2.2.1).1 (by decide)
    have g27 : H19.1 3 1 F.2.1 = H4.1 3 1 F.2.1 := (ehE24.1 3 1 F.2.1 t15).1 (by decide)
    have t28 : T21 3 F.2.1 := shS23 _ _ t15
    have t29 : T21 5 one := shS23 _ _ t16
    have t30 : T21 5 two := shS23 _ _ t17
    obtain ⟨x31, rfl, r32⟩ := hv
    try dsimp only [Option.toList, List.append, List.cons_append, List.nil_append]
    exact J.reti rfl rfl rfl ⟨_, rfl, T21, hI22, hS23, hE24, (show ((w20.2.1 : Nat) : Int) - 2 * H19.1 7 4 F.2.2.1 - 13 * H19.1 3 1 F.2.1 - H19.1 3 3 F.2.1 ≤ ((w.2.1 : Nat) : Int) - 2 * H.1 7 4 F.2.2.1 - 13 * H.1 3 1 F.2.1 - H.1 3 3 F.2.1 + (1) by omega), (show ((w20.2.2 : Nat) : Int) - 18 * H19.1 7 4 F.2.2.1 - 700 * H19.1 3 1 F.2.1 - 6 * H19.1 3 3 F.2.1 ≤ ((w.2.2 : Nat) : Int) - 18 * H.1 7 4 F.2.2.1 - 700 * H.1 3 1 F.2.1 - 6 * H.1 3 3 F.2.1 + 10 * (1) by omega), _, rfl, trivial⟩
  · have c33 : ¬ (x1 = (0 : Int)) := hc
    clear hc
    have f34 : 0 ≤ H.1 5 2 one ∧ H.1 5 2 one ≤ 15 := hI.v 5 2 one ta0
    refine J.run 5 rfl (hI.is ta0) ?_
    try dsimp only
    refine s_trn1 hI ta0 ⟨by omega, by omega⟩ ⟨by omega, by omega⟩ fun w36 H35 q42  hI37 ehE39 ca40 cb41  => ?_
    have eM := ehE39
    have g43 : H35.1 7 4 F.2.2.1 = H.1 7 4 F.2.2.1 := (ehE39.1 7 4 F.2.2.1 hI.top.2.2.1).1 (by decide)
    have g44 : H35.1 3 1 F.2.1 = H.1 3 1 F.2.1 := (ehE39.1 3 1 F.2.1 hI.top.2.1).1 (by decide)
    have g45 : H35.1 3 3 F.2.1 = H.1 3 3 F.2.1 := (ehE39.1 3 3 F.2.1 hI.top.2.1).1 (by decide)
    have hE39 : cEx T [303, 40022] H35 H := cEx.trans ehE39 hE hS (by decide)
    have hS38 : ∀ k p, T k p → (tA T 9 q42) k p := fun k p z => Or.inl (hS k p z)
    have t46 : (tA T 9 q42) 3 F.2.1 := Or.inl hI.top.2.1
    have t47 : (tA T 9 q42) 5 one := Or.inl ta0
    have t48 : (tA T 9 q42) 5 two := Or.inl ta1
    have t49 : (tA T 9 q42) 9 q42 := tA.new
    try dsimp only [Option.toList, List.append, List.cons_append, List.nil_append, Option.map]
    refine J.inv rfl rfl rfl rfl rfl rfl ((jD_w rfl).mpr (hI37.is t46)) rfl rfl rfl rfl rfl (c_X3_addTransaction (t := q42) hI37 t49 ) ?_
    rintro v w51 H50 ⟨T52, hI53, shS54, ehE55, hr56, hr56s, hv⟩
    have hr56' : ((w51.2.1 : Nat) : Int) - 2 * H50.1 7 4 F.2.2.1 - 13 * H50.1 3 1 F.2.1 - H50.1 3 3 F.2.1 ≤ ((w36.2.1 : Nat) : Int) - 2 * H35.1 7 4 F.2.2.1 - 13 * H35.1 3 1 F.2.1 - H35.1 3 3 F.2.1 + (0) := hr56
    have hr56s' : ((w51.2.2 : Nat) : Int) - 18 * H50.1 7 4 F.2.2.1 - 700 * H50.1 3 1 F.2.1 - 6 * H50.1 3 3 F.2.1 ≤ ((w36.2.2 : Nat) : Int) - 18 * H35.1 7 4 F.2.2.1 - 700 * H35.1 3 1 F.2.1 - 6 * H35.1 3 3 F.2.1 + 10 * (0) := hr56s
    have hE55 : cEx T [303, 40022] H50 H := cEx.trans ehE55 hE39 hS38 (by decide)
    have hS54 : ∀ k p, T k p → T52 k p := fun k p z => shS54 k p (hS38 k p z)
    have g57 : H50.1 7 4 F.2.2.1 = H35.1 7 4 F.2.2.1 := (ehE55.1 7 4 F.2.2.1 hI37.top.2.2.1).1 (by decide)
    have g58 : H50.1 3 1 F.2.1 = H35.1 3 1 F.2.1 := (ehE55.1 3 1 F.2.1 t46).1 (by decide)
    have t59 : T52 3 F.2.1 := shS54 _ _ t46
    have t60 : T52 5 one := shS54 _ _ t47
    have t61 : T52 5 two := shS54 _ _ t48
    obtain ⟨x62, rfl, r63⟩ := hv
    try dsimp only [Option.toList, List.append, List.cons_append, List.nil_append]
    exact J.reti rfl rfl rfl ⟨_, rfl, T52, hI53, hS54, hE55, (show ((w51.2.1 : Nat) : Int) - 2 * H50.1 7 4 F.2.2.1 - 13 * H50.1 3 1 F.2.1 - H50.1 3 3 F.2.1 ≤ ((w.2.1 : Nat) : Int) - 2 * H.1 7 4 F.2.2.1 - 13 * H.1 3 1 F.2.1 - H.1 3 3 F.2.1 + (1) by omega), (show ((w51.2.2 : Nat) : Int) - 18 * H50.1 7 4 F.2.2.1 - 700 * H50.1 3 1 F.2.1 - 6 * H50.1 3 3 F.2.1 ≤ ((w.2.2 : Nat) : Int) - 18 * H.1 7 4 F.2.2.1 - 700 * H.1 3 1 F.2.1 - 6 * H.1 3 3 F.2.1 + 10 * (1) by omega), _, rfl, trivial⟩
end
