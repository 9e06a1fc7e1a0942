-- M: X10_forge
section
variable {d : Nat} {F : cG} 
set_option maxRecDepth 20000 in
set_option maxHeartbeats 8000000 in
theorem c_X10_forge {n : Int} {kind : Int} {height : Int} {round : Int} {block : Int} {before : Int} {T : cP} {w : jW} {H : jH} (hI : cJ F T w H)  (hp0 : -2147483648 ≤ n ∧ n ≤ 2147483647) (hp1 : -2147483648 ≤ kind ∧ kind ≤ 2147483647) (hp2 : -2147483648 ≤ height ∧ height ≤ 2147483647) (hp3 : -2147483648 ≤ round ∧ round ≤ 2147483647) (hp4 : -2147483648 ≤ block ∧ block ≤ 2147483647) (hp5 : -2147483648 ≤ before ∧ before ≤ 2147483647) : J false (d + 2) 76 w (0, jargs 0 [.inr (some (10, F.1)), .inl n, .inl kind, .inl height, .inl round, .inl block, .inl before], [], H) (fun o w' H' => ∃ T', cJ F T' w' H' ∧ (∀ k p, T k p → T' k p) ∧ cEx T [616, 704, 10507, 30026, 30027, 30031, 40028, 40029, 40030] H' H ∧ ((w'.2.1 : Nat) : Int) - 2 * H'.1 7 4 F.2.2.1 - 13 * H'.1 3 1 F.2.1 - H'.1 3 3 F.2.1 ≤ ((w.2.1 : Nat) : Int) - 2 * H.1 7 4 F.2.2.1 - 13 * H.1 3 1 F.2.1 - H.1 3 3 F.2.1 + (1) ∧ ((w'.2.2 : Nat) : Int) - 18 * H'.1 7 4 F.2.2.1 - 700 * H'.1 3 1 F.2.1 - 6 * H'.1 3 3 F.2.1 ≤ ((w.2.2 : Nat) : Int) - 18 * H.1 7 4 F.2.2.1 - 700 * H.1 3 1 F.2.1 - 6 * H.1 3 3 F.2.1 + 10 * (1) ∧ ((∃ v, o = .inl v ∧ ∃ rv, v = some (.inl rv) ∧ (True)) ∨ (o = .inr 12) ∨ (o = .inr 13))) := by
  have hE : cEx T [616, 704, 10507, 30026, 30027, 30031, 40028, 40029, 40030] H H := cEx.refl
  have hS : ∀ k p, T k p → T k p := fun _ _ z => z
  refine J.run0 1 rfl ?_
  try dsimp only
  refine J.ifc rfl rfl rfl (show -2147483648 ≤ kind ∧ kind ≤ 2147483647 from ⟨by omega, by omega⟩) (fun hc => ?_) (fun hc => ?_)
  · have c1 : kind < (0 : Int) := hc
    clear hc
    exact J.thr rfl rfl rfl rfl ⟨T, hI, hS, hE, (show ((w.2.1 + 1 : Nat) : Int) - 2 * H.1 7 4 F.2.2.1 - 13 * H.1 3 1 F.2.1 - H.1 3 3 F.2.1 ≤ ((w.2.1 : Nat) : Int) - 2 * H.1 7 4 F.2.2.1 - 13 * H.1 3 1 F.2.1 - H.1 3 3 F.2.1 + (1) by omega), (show ((w.2.2 + 6 : Nat) : Int) - 18 * H.1 7 4 F.2.2.1 - 700 * H.1 3 1 F.2.1 - 6 * H.1 3 3 F.2.1 ≤ ((w.2.2 : Nat) : Int) - 18 * H.1 7 4 F.2.2.1 - 700 * H.1 3 1 F.2.1 - 6 * H.1 3 3 F.2.1 + 10 * (1) by omega), Or.inr (Or.inl rfl)⟩
  · have c2 : ¬ (kind < (0 : Int)) := hc
    clear hc
    refine J.run0 2 rfl ?_
    try dsimp only
    refine J.icmp rfl rfl rfl ⟨(show -2147483648 ≤ kind ∧ kind ≤ 2147483647 from ⟨by omega, by omega⟩), (show -2147483648 ≤ (2 : Int) ∧ (2 : Int) ≤ 2147483647 from ⟨by omega, by omega⟩)⟩ (fun hc => ?_) (fun hc => ?_)
    · have c3 : (2 : Int) < kind := hc
      clear hc
      exact J.thr rfl rfl rfl rfl ⟨T, hI, hS, hE, (show ((w.2.1 + 1 : Nat) : Int) - 2 * H.1 7 4 F.2.2.1 - 13 * H.1 3 1 F.2.1 - H.1 3 3 F.2.1 ≤ ((w.2.1 : Nat) : Int) - 2 * H.1 7 4 F.2.2.1 - 13 * H.1 3 1 F.2.1 - H.1 3 3 F.2.1 + (1) by omega), (show ((w.2.2 + 6 : Nat) : Int) - 18 * H.1 7 4 F.2.2.1 - 700 * H.1 3 1 F.2.1 - 6 * H.1 3 3 F.2.1 ≤ ((w.2.2 : Nat) : Int) - 18 * H.1 7 4 F.2.2.1 - 700 * H.1 3 1 F.2.1 - 6 * H.1 3 3 F.2.1 + 10 * (1) by omega), Or.inr (Or.inl rfl)⟩
    · have c4 : ¬ ((2 : Int) < kind) := hc
      clear hc
      refine J.run0 2 rfl ?_
      try dsimp only
      refine J.icmp rfl rfl rfl ⟨(show -2147483648 ≤ height ∧ height ≤ 2147483647 from ⟨by omega, by omega⟩), (show -2147483648 ≤ (1 : Int) ∧ (1 : Int) ≤ 2147483647 from ⟨by omega, by omega⟩)⟩ (fun hc => ?_) (fun hc => ?_)
      · have c5 : height < (1 : Int) := hc
        clear hc
        exact J.thr rfl rfl rfl rfl ⟨T, hI, hS, hE, (show ((w.2.1 + 1 : Nat) : Int) - 2 * H.1 7 4 F.2.2.1 - 13 * H.1 3 1 F.2.1 - H.1 3 3 F.2.1 ≤ ((w.2.1 : Nat) : Int) - 2 * H.1 7 4 F.2.2.1 - 13 * H.1 3 1 F.2.1 - H.1 3 3 F.2.1 + (1) by omega), (show ((w.2.2 + 6 : Nat) : Int) - 18 * H.1 7 4 F.2.2.1 - 700 * H.1 3 1 F.2.1 - 6 * H.1 3 3 F.2.1 ≤ ((w.2.2 : Nat) : Int) - 18 * H.1 7 4 F.2.2.1 - 700 * H.1 3 1 F.2.1 - 6 * H.1 3 3 F.2.1 + 10 * (1) by omega), Or.inr (Or.inl rfl)⟩
      · have c6 : ¬ (height < (1 : Int)) := hc
        clear hc
        refine J.run0 2 rfl ?_
        try dsimp only
        refine J.icmp rfl rfl rfl ⟨(show -2147483648 ≤ height ∧ height ≤ 2147483647 from ⟨by omega, by omega⟩), (show -2147483648 ≤ (120 : Int) ∧ (120 : Int) ≤ 2147483647 from ⟨by omega, by omega⟩)⟩ (fun hc => ?_) (fun hc => ?_)
        · have c7 : (120 : Int) < height := hc
          clear hc
          exact J.thr rfl rfl rfl rfl ⟨T, hI, hS, hE, (show ((w.2.1 + 1 : Nat) : Int) - 2 * H.1 7 4 F.2.2.1 - 13 * H.1 3 1 F.2.1 - H.1 3 3 F.2.1 ≤ ((w.2.1 : Nat) : Int) - 2 * H.1 7 4 F.2.2.1 - 13 * H.1 3 1 F.2.1 - H.1 3 3 F.2.1 + (1) by omega), (show ((w.2.2 + 6 : Nat) : Int) - 18 * H.1 7 4 F.2.2.1 - 700 * H.1 3 1 F.2.1 - 6 * H.1 3 3 F.2.1 ≤ ((w.2.2 : Nat) : Int) - 18 * H.1 7 4 F.2.2.1 - 700 * H.1 3 1 F.2.1 - 6 * H.1 3 3 F.2.1 + 10 * (1) by omega), Or.inr (Or.inl rfl)⟩
        · have c8 : ¬ ((120 : Int) < height) := hc
          clear hc
          refine J.run0 1 rfl ?_
          try dsimp only
          refine J.ifc rfl rfl rfl (show -2147483648 ≤ round ∧ round ≤ 2147483647 from ⟨by omega, by omega⟩) (fun hc => ?_) (fun hc => ?_)
          · have c9 : round < (0 : Int) := hc
            clear hc
            exact J.thr rfl rfl rfl rfl ⟨T, hI, hS, hE, (show ((w.2.1 + 1 : Nat) : Int) - 2 * H.1 7 4 F.2.2.1 - 13 * H.1 3 1 F.2.1 - H.1 3 3 F.2.1 ≤ ((w.2.1 : Nat) : Int) - 2 * H.1 7 4 F.2.2.1 - 13 * H.1 3 1 F.2.1 - H.1 3 3 F.2.1 + (1) by omega), (show ((w.2.2 + 6 : Nat) : Int) - 18 * H.1 7 4 F.2.2.1 - 700 * H.1 3 1 F.2.1 - 6 * H.1 3 3 F.2.1 ≤ ((w.2.2 : Nat) : Int) - 18 * H.1 7 4 F.2.2.1 - 700 * H.1 3 1 F.2.1 - 6 * H.1 3 3 F.2.1 + 10 * (1) by omega), Or.inr (Or.inl rfl)⟩
          · have c10 : ¬ (round < (0 : Int)) := hc
            clear hc
            refine J.run0 2 rfl ?_
            try dsimp only
            refine J.icmp rfl rfl rfl ⟨(show -2147483648 ≤ round ∧ round ≤ 2147483647 from ⟨by omega, by omega⟩), (show -2147483648 ≤ (32 : Int) ∧ (32 : Int) ≤ 2147483647 from ⟨by omega, by omega⟩)⟩ (fun hc => ?_) (fun hc => ?_)
            · have c11 : round < (32 : Int) := hc
              clear hc
              refine J.run0 2 rfl ?_
              try dsimp only
              refine J.icmp rfl rfl rfl ⟨(show -2147483648 ≤ block ∧ block ≤ 2147483647 from ⟨by omega, by omega⟩), (show -2147483648 ≤ (-1 : Int) ∧ (-1 : Int) ≤ 2147483647 from ⟨by omega, by omega⟩)⟩ (fun hc => ?_) (fun hc => ?_)
              · have c12 : block = (-1 : Int) := hc
                clear hc
                refine J.run0 2 rfl ?_
                try dsimp only
                refine J.icmp rfl rfl rfl ⟨(show -2147483648 ≤ before ∧ before ≤ 2147483647 from ⟨by omega, by omega⟩), (show -2147483648 ≤ (-1 : Int) ∧ (-1 : Int) ≤ 2147483647 from ⟨by omega, by omega⟩)⟩ (fun hc => ?_) (fun hc => ?_)
                · have c13 : before < (-1 : Int) := hc
                  clear hc
                  exact J.thr rfl rfl rfl rfl ⟨T, hI, hS, hE, (show ((w.2.1 + 1 : Nat) : Int) - 2 * H.1 7 4 F.2.2.1 - 13 * H.1 3 1 F.2.1 - H.1 3 3 F.2.1 ≤ ((w.2.1 : Nat) : Int) - 2 * H.1 7 4 F.2.2.1 - 13 * H.1 3 1 F.2.1 - H.1 3 3 F.2.1 + (1) by omega), (show ((w.2.2 + 6 : Nat) : Int) - 18 * H.1 7 4 F.2.2.1 - 700 * H.1 3 1 F.2.1 - 6 * H.1 3 3 F.2.1 ≤ ((w.2.2 : Nat) : Int) - 18 * H.1 7 4 F.2.2.1 - 700 * H.1 3 1 F.2.1 - 6 * H.1 3 3 F.2.1 + 10 * (1) by omega), Or.inr (Or.inl rfl)⟩
                · have c14 : ¬ (before < (-1 : Int)) := hc
                  clear hc
                  refine J.run0 2 rfl ?_
                  try dsimp only
                  refine J.icmp rfl rfl rfl ⟨(show -2147483648 ≤ before ∧ before ≤ 2147483647 from ⟨by omega, by omega⟩), (show -2147483648 ≤ (32 : Int) ∧ (32 : Int) ≤ 2147483647 from ⟨by omega, by omega⟩)⟩ (fun hc => ?_) (fun hc => ?_)
                  · have c15 : (32 : Int) ≤ before := hc
                    clear hc
                    exact J.thr rfl rfl rfl rfl ⟨T, hI, hS, hE, (show ((w.2.1 + 1 : Nat) : Int) - 2 * H.1 7 4 F.2.2.1 - 13 * H.1 3 1 F.2.1 - H.1 3 3 F.2.1 ≤ ((w.2.1 : Nat) : Int) - 2 * H.1 7 4 F.2.2.1 - 13 * H.1 3 1 F.2.1 - H.1 3 3 F.2.1 + (1) by omega), (show ((w.2.2 + 6 : Nat) : Int) - 18 * H.1 7 4 F.2.2.1 - 700 * H.1 3 1 F.2.1 - 6 * H.1 3 3 F.2.1 ≤ ((w.2.2 : Nat) : Int) - 18 * H.1 7 4 F.2.2.1 - 700 * H.1 3 1 F.2.1 - 6 * H.1 3 3 F.2.1 + 10 * (1) by omega), Or.inr (Or.inl rfl)⟩
                  · have c16 : ¬ ((32 : Int) ≤ before) := hc
                    clear hc
                    refine J.run0 1 rfl ?_
                    try dsimp only
                    refine J.ifc rfl rfl rfl (show -2147483648 ≤ kind ∧ kind ≤ 2147483647 from ⟨by omega, by omega⟩) (fun hc => ?_) (fun hc => ?_)
                    · have c17 : kind = (0 : Int) := hc
                      clear hc
                      refine J.run0 2 rfl ?_
                      try dsimp only
                      refine J.inv rfl rfl rfl rfl rfl rfl ((jD_w rfl).mpr (hI.is hI.top.1)) rfl rfl rfl rfl rfl (c_X10_isFaulty (n := n) hI  (show -2147483648 ≤ n ∧ n ≤ 2147483647 from ⟨by omega, by omega⟩)) ?_
                      rintro v w H ⟨rfl, rfl, hv⟩
                      obtain ⟨x18, rfl, r19⟩ := hv
                      have r19' : (x18 = 0 ∨ x18 = 1) ∧ (x18 = 1 → 0 ≤ n ∧ n ≤ 15) := r19
                      try dsimp only [Option.toList, List.append, List.cons_append, List.nil_append]
                      refine J.ifc rfl rfl rfl (show -2147483648 ≤ x18 ∧ x18 ≤ 2147483647 from ⟨by omega, by omega⟩) (fun hc => ?_) (fun hc => ?_)
                      · have c20 : ¬ (x18 = (0 : Int)) := hc
                        clear hc
                        refine J.run 2 rfl ⟨(hI.is hI.top.1), (hI.o 10 1 7 F.1 rfl hI.top.1).1⟩ ?_
                        try dsimp only
                        try dsimp only
                        rw [show (H.2.2.2.2 10 1 F.1) = F.2.2.1 from hI.one.2.2.1 _ (hI.o 10 1 7 F.1 rfl hI.top.1).2]
                        refine J.run0 6 rfl ?_
                        try dsimp only
                        refine J.inv rfl rfl rfl rfl rfl rfl ((jD_w rfl).mpr (hI.is hI.top.2.2.1)) rfl rfl rfl rfl rfl (c_X7_add (kind := kind) (node := n) (height := height) (round := round) (block := block) (before := before) hI  (show 0 ≤ n ∧ n ≤ 15 from ⟨by omega, by omega⟩) (show -2147483648 ≤ height ∧ height ≤ 2147483647 from ⟨by omega, by omega⟩) (show -2147483648 ≤ round ∧ round ≤ 2147483647 from ⟨by omega, by omega⟩) (show -2147483648 ≤ block ∧ block ≤ 2147483647 from ⟨by omega, by omega⟩) (show -2147483648 ≤ before ∧ before ≤ 2147483647 from ⟨by omega, by omega⟩)) ?_
                        rintro v w22 H21 ⟨T23, hI24, shS25, ehE26, hr27, hr27s, hv⟩
                        have hr27' : ((w22.2.1 : Nat) : Int) - 2 * H21.1 7 4 F.2.2.1 - 13 * H21.1 3 1 F.2.1 - H21.1 3 3 F.2.1 ≤ ((w.2.1 : Nat) : Int) - 2 * H.1 7 4 F.2.2.1 - 13 * H.1 3 1 F.2.1 - H.1 3 3 F.2.1 + (0) := hr27
                        have hr27s' : ((w22.2.2 : Nat) : Int) - 18 * H21.1 7 4 F.2.2.1 - 700 * H21.1 3 1 F.2.1 - 6 * H21.1 3 3 F.2.1 ≤ ((w.2.2 : Nat) : Int) - 18 * H.1 7 4 F.2.2.1 - 700 * H.1 3 1 F.2.1 - 6 * H.1 3 3 F.2.1 + 10 * (0) := hr27s
                        have hE26 : cEx T [616, 704, 10507, 30026, 30027, 30031, 40028, 40029, 40030] H21 H := cEx.trans ehE26 hE hS (by decide)
                        have hS25 : ∀ k p, T k p → T23 k p := fun k p z => shS25 k p (hS k p z)
                        have g28 : H21.1 3 1 F.2.1 = H.1 3 1 F.2.1 := (ehE26.1 3 1 F.2.1 hI.top.2.1).1 (by decide)
                        have g29 : H21.1 3 3 F.2.1 = H.1 3 3 F.2.1 := (ehE26.1 3 3 F.2.1 hI.top.2.1).1 (by decide)
                        have t30 : T23 10 F.1 := shS25 _ _ hI.top.1
                        rcases hv with ⟨rfl, r33⟩ | ⟨q31, rfl, t32, r33⟩
                        · have r33' : (6000 ≤ H.1 7 4 F.2.2.1 ∨ height < 0 ∨ 120 < height ∨ round < 0 ∨ 31 < round) := r33
                          try dsimp only [Option.toList, List.append, List.cons_append, List.nil_append]
                          refine J.run0 3 rfl ?_
                          try dsimp only
                          exact J.thr rfl rfl rfl rfl ⟨T23, hI24, hS25, hE26, (show ((w22.2.1 + 1 : Nat) : Int) - 2 * H21.1 7 4 F.2.2.1 - 13 * H21.1 3 1 F.2.1 - H21.1 3 3 F.2.1 ≤ ((w.2.1 : Nat) : Int) - 2 * H.1 7 4 F.2.2.1 - 13 * H.1 3 1 F.2.1 - H.1 3 3 F.2.1 + (1) by omega), (show ((w22.2.2 + 6 : Nat) : Int) - 18 * H21.1 7 4 F.2.2.1 - 700 * H21.1 3 1 F.2.1 - 6 * H21.1 3 3 F.2.1 ≤ ((w.2.2 : Nat) : Int) - 18 * H.1 7 4 F.2.2.1 - 700 * H.1 3 1 F.2.1 - 6 * H.1 3 3 F.2.1 + 10 * (1) by omega), Or.inr (Or.inr (rfl))⟩
                        · have r33' : (((w22.2.1 : Nat) : Int) - 2 * H21.1 7 4 F.2.2.1 - 13 * H21.1 3 1 F.2.1 - H21.1 3 3 F.2.1 ≤ ((w.2.1 : Nat) : Int) - 2 * H.1 7 4 F.2.2.1 - 13 * H.1 3 1 F.2.1 - H.1 3 3 F.2.1 + (-1) ∧ ((w22.2.2 : Nat) : Int) - 18 * H21.1 7 4 F.2.2.1 - 700 * H21.1 3 1 F.2.1 - 6 * H21.1 3 3 F.2.1 ≤ ((w.2.2 : Nat) : Int) - 18 * H.1 7 4 F.2.2.1 - 700 * H.1 3 1 F.2.1 - 6 * H.1 3 3 F.2.1 + 10 * (-1)) := r33
                          try dsimp only [Option.toList, List.append, List.cons_append, List.nil_append]
                          have f34 : 0 ≤ H21.1 5 0 q31 ∧ H21.1 5 0 q31 ≤ 5999 := hI24.v 5 0 q31 t32
                          refine J.run 7 rfl ⟨⟨(hI24.is t30), hI24.is (hI24.r 10 2 40 F.1 rfl t30)⟩, (show w22.1 40 F.1 ∧ 0 ≤ n ∧ n < 16 from ⟨hI24.is (hI24.r 10 2 40 F.1 rfl t30), by omega, by omega⟩)⟩ ?_
                          try dsimp only
                          try dsimp only
                          rcases hn35 : H21.2.2.2.1 40 F.1 (n) with _ | q36
                          · exact absurd hn35 (hI24.nd (by omega) (by omega))
                          · have t37 : T23 6 q36 := hI24.a 40 F.1 rfl (hI24.r 10 2 40 F.1 rfl t30) hn35
                            refine J.run 3 rfl ⟨(hI24.is t30), (hI24.o 10 1 7 F.1 rfl t30).1⟩ ?_
                            try dsimp only
                            try dsimp only
                            rw [show (H21.2.2.2.2 10 1 F.1) = F.2.2.1 from hI24.one.2.2.1 _ (hI24.o 10 1 7 F.1 rfl t30).2]
                            refine J.run0 2 rfl ?_
                            try dsimp only
                            refine J.inv rfl rfl rfl rfl rfl rfl ((jD_w rfl).mpr (hI24.is hI24.top.2.2.1)) rfl rfl rfl rfl rfl (c_X7_firstOf (height := height) (round := round) hI24  (show -2147483648 ≤ height ∧ height ≤ 2147483647 from ⟨by omega, by omega⟩) (show -2147483648 ≤ round ∧ round ≤ 2147483647 from ⟨by omega, by omega⟩)) ?_
                            rintro v w22 H21 ⟨rfl, rfl, hv⟩
                            rcases hv with ⟨rfl, r40⟩ | ⟨q38, rfl, t39, r40⟩
                            · skip
                              try dsimp only [Option.toList, List.append, List.cons_append, List.nil_append]
                              refine J.inv rfl rfl rfl rfl rfl rfl ((jD_w rfl).mpr (hI24.is t37)) rfl rfl rfl rfl rfl (c_X6_learn (a0 := q36) (m0 := q31) (row := none) hI24 t37 t32 (fun _ z => nomatch z) ) ?_
                              rintro v w42 H41 ⟨T43, hI44, shS45, ehE46, hr47, hr47s, hv⟩
                              have hr47' : ((w42.2.1 : Nat) : Int) - 2 * H41.1 7 4 F.2.2.1 - 13 * H41.1 3 1 F.2.1 - H41.1 3 3 F.2.1 ≤ ((w22.2.1 : Nat) : Int) - 2 * H21.1 7 4 F.2.2.1 - 13 * H21.1 3 1 F.2.1 - H21.1 3 3 F.2.1 + (0) := hr47
                              have hr47s' : ((w42.2.2 : Nat) : Int) - 18 * H41.1 7 4 F.2.2.1 - 700 * H41.1 3 1 F.2.1 - 6 * H41.1 3 3 F.2.1 ≤ ((w22.2.2 : Nat) : Int) - 18 * H21.1 7 4 F.2.2.1 - 700 * H21.1 3 1 F.2.1 - 6 * H21.1 3 3 F.2.1 + 10 * (0) := hr47s
                              have hE46 : cEx T [616, 704, 10507, 30026, 30027, 30031, 40028, 40029, 40030] H41 H := cEx.trans ehE46 hE26 hS25 (by decide)
                              have hS45 : ∀ k p, T k p → T43 k p := fun k p z => shS45 k p (hS25 k p z)
                              have g48 : H41.1 3 1 F.2.1 = H21.1 3 1 F.2.1 := (ehE46.1 3 1 F.2.1 hI24.top.2.1).1 (by decide)
                              have g49 : H41.1 3 3 F.2.1 = H21.1 3 3 F.2.1 := (ehE46.1 3 3 F.2.1 hI24.top.2.1).1 (by decide)
                              have g50 : H41.1 7 4 F.2.2.1 = H21.1 7 4 F.2.2.1 := (ehE46.1 7 4 F.2.2.1 hI24.top.2.2.1).1 (by decide)
                              have t51 : T43 5 q31 := shS45 _ _ t32
                              have t52 : T43 10 F.1 := shS45 _ _ t30
                              obtain rfl := hv
                              try dsimp only [Option.toList, List.append, List.cons_append, List.nil_append]
                              have f53 : 0 ≤ H41.1 5 0 q31 ∧ H41.1 5 0 q31 ≤ 5999 := hI44.v 5 0 q31 t51
                              refine J.run 2 rfl (hI44.is t51) ?_
                              try dsimp only
                              exact J.reti rfl rfl rfl ⟨T43, hI44, hS45, hE46, (show ((w42.2.1 : Nat) : Int) - 2 * H41.1 7 4 F.2.2.1 - 13 * H41.1 3 1 F.2.1 - H41.1 3 3 F.2.1 ≤ ((w.2.1 : Nat) : Int) - 2 * H.1 7 4 F.2.2.1 - 13 * H.1 3 1 F.2.1 - H.1 3 3 F.2.1 + (1) by omega), (show ((w42.2.2 : Nat) : Int) - 18 * H41.1 7 4 F.2.2.1 - 700 * H41.1 3 1 F.2.1 - 6 * H41.1 3 3 F.2.1 ≤ ((w.2.2 : Nat) : Int) - 18 * H.1 7 4 F.2.2.1 - 700 * H.1 3 1 F.2.1 - 6 * H.1 3 3 F.2.1 + 10 * (1) by omega), Or.inl ⟨_, rfl, _, rfl, trivial⟩⟩
                            · skip
                              try dsimp only [Option.toList, List.append, List.cons_append, List.nil_append]
                              have f54 : 0 ≤ H21.1 5 0 q38 ∧ H21.1 5 0 q38 ≤ 5999 := hI24.v 5 0 q38 t39
                              refine J.inv rfl rfl rfl rfl rfl rfl ((jD_w rfl).mpr (hI24.is t37)) rfl rfl rfl rfl rfl (c_X6_learn (a0 := q36) (m0 := q31) (row := some q38) hI24 t37 t32 (fun _ z => by cases z; exact t39) ) ?_
                              rintro v w56 H55 ⟨T57, hI58, shS59, ehE60, hr61, hr61s, hv⟩
                              have hr61' : ((w56.2.1 : Nat) : Int) - 2 * H55.1 7 4 F.2.2.1 - 13 * H55.1 3 1 F.2.1 - H55.1 3 3 F.2.1 ≤ ((w22.2.1 : Nat) : Int) - 2 * H21.1 7 4 F.2.2.1 - 13 * H21.1 3 1 F.2.1 - H21.1 3 3 F.2.1 + (0) := hr61
                              have hr61s' : ((w56.2.2 : Nat) : Int) - 18 * H55.1 7 4 F.2.2.1 - 700 * H55.1 3 1 F.2.1 - 6 * H55.1 3 3 F.2.1 ≤ ((w22.2.2 : Nat) : Int) - 18 * H21.1 7 4 F.2.2.1 - 700 * H21.1 3 1 F.2.1 - 6 * H21.1 3 3 F.2.1 + 10 * (0) := hr61s
                              have hE60 : cEx T [616, 704, 10507, 30026, 30027, 30031, 40028, 40029, 40030] H55 H := cEx.trans ehE60 hE26 hS25 (by decide)
                              have hS59 : ∀ k p, T k p → T57 k p := fun k p z => shS59 k p (hS25 k p z)
                              have g62 : H55.1 3 1 F.2.1 = H21.1 3 1 F.2.1 := (ehE60.1 3 1 F.2.1 hI24.top.2.1).1 (by decide)
                              have g63 : H55.1 3 3 F.2.1 = H21.1 3 3 F.2.1 := (ehE60.1 3 3 F.2.1 hI24.top.2.1).1 (by decide)
                              have g64 : H55.1 7 4 F.2.2.1 = H21.1 7 4 F.2.2.1 := (ehE60.1 7 4 F.2.2.1 hI24.top.2.2.1).1 (by decide)
                              have t65 : T57 5 q31 := shS59 _ _ t32
                              have t66 : T57 10 F.1 := shS59 _ _ t30
                              obtain rfl := hv
                              try dsimp only [Option.toList, List.append, List.cons_append, List.nil_append]
                              have f67 : 0 ≤ H55.1 5 0 q31 ∧ H55.1 5 0 q31 ≤ 5999 := hI58.v 5 0 q31 t65
                              refine J.run 2 rfl (hI58.is t65) ?_
                              try dsimp only
                              exact J.reti rfl rfl rfl ⟨T57, hI58, hS59, hE60, (show ((w56.2.1 : Nat) : Int) - 2 * H55.1 7 4 F.2.2.1 - 13 * H55.1 3 1 F.2.1 - H55.1 3 3 F.2.1 ≤ ((w.2.1 : Nat) : Int) - 2 * H.1 7 4 F.2.2.1 - 13 * H.1 3 1 F.2.1 - H.1 3 3 F.2.1 + (1) by omega), (show ((w56.2.2 : Nat) : Int) - 18 * H55.1 7 4 F.2.2.1 - 700 * H55.1 3 1 F.2.1 - 6 * H55.1 3 3 F.2.1 ≤ ((w.2.2 : Nat) : Int) - 18 * H.1 7 4 F.2.2.1 - 700 * H.1 3 1 F.2.1 - 6 * H.1 3 3 F.2.1 + 10 * (1) by omega), Or.inl ⟨_, rfl, _, rfl, trivial⟩⟩
                      · have c68 : ¬ (¬ (x18 = (0 : Int))) := hc
                        clear hc
                        exact J.thr rfl rfl rfl rfl ⟨T, hI, hS, hE, (show ((w.2.1 + 1 : Nat) : Int) - 2 * H.1 7 4 F.2.2.1 - 13 * H.1 3 1 F.2.1 - H.1 3 3 F.2.1 ≤ ((w.2.1 : Nat) : Int) - 2 * H.1 7 4 F.2.2.1 - 13 * H.1 3 1 F.2.1 - H.1 3 3 F.2.1 + (1) by omega), (show ((w.2.2 + 6 : Nat) : Int) - 18 * H.1 7 4 F.2.2.1 - 700 * H.1 3 1 F.2.1 - 6 * H.1 3 3 F.2.1 ≤ ((w.2.2 : Nat) : Int) - 18 * H.1 7 4 F.2.2.1 - 700 * H.1 3 1 F.2.1 - 6 * H.1 3 3 F.2.1 + 10 * (1) by omega), Or.inr (Or.inr (rfl))⟩
                    · have c69 : ¬ (kind = (0 : Int)) := hc
                      clear hc
                      refine J.run0 2 rfl ?_
                      try dsimp only
                      refine J.icmp rfl rfl rfl ⟨(show -2147483648 ≤ before ∧ before ≤ 2147483647 from ⟨by omega, by omega⟩), (show -2147483648 ≤ (-1 : Int) ∧ (-1 : Int) ≤ 2147483647 from ⟨by omega, by omega⟩)⟩ (fun hc => ?_) (fun hc => ?_)
                      · have c70 : before = (-1 : Int) := hc
                        clear hc
                        refine J.run0 2 rfl ?_
                        try dsimp only
                        refine J.inv rfl rfl rfl rfl rfl rfl ((jD_w rfl).mpr (hI.is hI.top.1)) rfl rfl rfl rfl rfl (c_X10_isFaulty (n := n) hI  (show -2147483648 ≤ n ∧ n ≤ 2147483647 from ⟨by omega, by omega⟩)) ?_
                        rintro v w H ⟨rfl, rfl, hv⟩
                        obtain ⟨x71, rfl, r72⟩ := hv
                        have r72' : (x71 = 0 ∨ x71 = 1) ∧ (x71 = 1 → 0 ≤ n ∧ n ≤ 15) := r72
                        try dsimp only [Option.toList, List.append, List.cons_append, List.nil_append]
                        refine J.ifc rfl rfl rfl (show -2147483648 ≤ x71 ∧ x71 ≤ 2147483647 from ⟨by omega, by omega⟩) (fun hc => ?_) (fun hc => ?_)
                        · have c73 : ¬ (x71 = (0 : Int)) := hc
                          clear hc
                          refine J.run 2 rfl ⟨(hI.is hI.top.1), (hI.o 10 1 7 F.1 rfl hI.top.1).1⟩ ?_
                          try dsimp only
                          try dsimp only
                          rw [show (H.2.2.2.2 10 1 F.1) = F.2.2.1 from hI.one.2.2.1 _ (hI.o 10 1 7 F.1 rfl hI.top.1).2]
                          refine J.run0 6 rfl ?_
                          try dsimp only
                          refine J.inv rfl rfl rfl rfl rfl rfl ((jD_w rfl).mpr (hI.is hI.top.2.2.1)) rfl rfl rfl rfl rfl (c_X7_add (kind := kind) (node := n) (height := height) (round := round) (block := block) (before := before) hI  (show 0 ≤ n ∧ n ≤ 15 from ⟨by omega, by omega⟩) (show -2147483648 ≤ height ∧ height ≤ 2147483647 from ⟨by omega, by omega⟩) (show -2147483648 ≤ round ∧ round ≤ 2147483647 from ⟨by omega, by omega⟩) (show -2147483648 ≤ block ∧ block ≤ 2147483647 from ⟨by omega, by omega⟩) (show -2147483648 ≤ before ∧ before ≤ 2147483647 from ⟨by omega, by omega⟩)) ?_
                          rintro v w75 H74 ⟨T76, hI77, shS78, ehE79, hr80, hr80s, hv⟩
                          have hr80' : ((w75.2.1 : Nat) : Int) - 2 * H74.1 7 4 F.2.2.1 - 13 * H74.1 3 1 F.2.1 - H74.1 3 3 F.2.1 ≤ ((w.2.1 : Nat) : Int) - 2 * H.1 7 4 F.2.2.1 - 13 * H.1 3 1 F.2.1 - H.1 3 3 F.2.1 + (0) := hr80
                          have hr80s' : ((w75.2.2 : Nat) : Int) - 18 * H74.1 7 4 F.2.2.1 - 700 * H74.1 3 1 F.2.1 - 6 * H74.1 3 3 F.2.1 ≤ ((w.2.2 : Nat) : Int) - 18 * H.1 7 4 F.2.2.1 - 700 * H.1 3 1 F.2.1 - 6 * H.1 3 3 F.2.1 + 10 * (0) := hr80s
                          have hE79 : cEx T [616, 704, 10507, 30026, 30027, 30031, 40028, 40029, 40030] H74 H := cEx.trans ehE79 hE hS (by decide)
                          have hS78 : ∀ k p, T k p → T76 k p := fun k p z => shS78 k p (hS k p z)
                          have g81 : H74.1 3 1 F.2.1 = H.1 3 1 F.2.1 := (ehE79.1 3 1 F.2.1 hI.top.2.1).1 (by decide)
                          have g82 : H74.1 3 3 F.2.1 = H.1 3 3 F.2.1 := (ehE79.1 3 3 F.2.1 hI.top.2.1).1 (by decide)
                          have t83 : T76 10 F.1 := shS78 _ _ hI.top.1
                          rcases hv with ⟨rfl, r86⟩ | ⟨q84, rfl, t85, r86⟩
                          · have r86' : (6000 ≤ H.1 7 4 F.2.2.1 ∨ height < 0 ∨ 120 < height ∨ round < 0 ∨ 31 < round) := r86
                            try dsimp only [Option.toList, List.append, List.cons_append, List.nil_append]
                            refine J.run0 3 rfl ?_
                            try dsimp only
                            exact J.thr rfl rfl rfl rfl ⟨T76, hI77, hS78, hE79, (show ((w75.2.1 + 1 : Nat) : Int) - 2 * H74.1 7 4 F.2.2.1 - 13 * H74.1 3 1 F.2.1 - H74.1 3 3 F.2.1 ≤ ((w.2.1 : Nat) : Int) - 2 * H.1 7 4 F.2.2.1 - 13 * H.1 3 1 F.2.1 - H.1 3 3 F.2.1 + (1) by omega), (show ((w75.2.2 + 6 : Nat) : Int) - 18 * H74.1 7 4 F.2.2.1 - 700 * H74.1 3 1 F.2.1 - 6 * H74.1 3 3 F.2.1 ≤ ((w.2.2 : Nat) : Int) - 18 * H.1 7 4 F.2.2.1 - 700 * H.1 3 1 F.2.1 - 6 * H.1 3 3 F.2.1 + 10 * (1) by omega), Or.inr (Or.inr (rfl))⟩
                          · have r86' : (((w75.2.1 : Nat) : Int) - 2 * H74.1 7 4 F.2.2.1 - 13 * H74.1 3 1 F.2.1 - H74.1 3 3 F.2.1 ≤ ((w.2.1 : Nat) : Int) - 2 * H.1 7 4 F.2.2.1 - 13 * H.1 3 1 F.2.1 - H.1 3 3 F.2.1 + (-1) ∧ ((w75.2.2 : Nat) : Int) - 18 * H74.1 7 4 F.2.2.1 - 700 * H74.1 3 1 F.2.1 - 6 * H74.1 3 3 F.2.1 ≤ ((w.2.2 : Nat) : Int) - 18 * H.1 7 4 F.2.2.1 - 700 * H.1 3 1 F.2.1 - 6 * H.1 3 3 F.2.1 + 10 * (-1)) := r86
                            try dsimp only [Option.toList, List.append, List.cons_append, List.nil_append]
                            have f87 : 0 ≤ H74.1 5 0 q84 ∧ H74.1 5 0 q84 ≤ 5999 := hI77.v 5 0 q84 t85
                            refine J.run 7 rfl ⟨⟨(hI77.is t83), hI77.is (hI77.r 10 2 40 F.1 rfl t83)⟩, (show w75.1 40 F.1 ∧ 0 ≤ n ∧ n < 16 from ⟨hI77.is (hI77.r 10 2 40 F.1 rfl t83), by omega, by omega⟩)⟩ ?_
                            try dsimp only
                            try dsimp only
                            rcases hn88 : H74.2.2.2.1 40 F.1 (n) with _ | q89
                            · exact absurd hn88 (hI77.nd (by omega) (by omega))
                            · have t90 : T76 6 q89 := hI77.a 40 F.1 rfl (hI77.r 10 2 40 F.1 rfl t83) hn88
                              refine J.run 3 rfl ⟨(hI77.is t83), (hI77.o 10 1 7 F.1 rfl t83).1⟩ ?_
                              try dsimp only
                              try dsimp only
                              rw [show (H74.2.2.2.2 10 1 F.1) = F.2.2.1 from hI77.one.2.2.1 _ (hI77.o 10 1 7 F.1 rfl t83).2]
                              refine J.run0 2 rfl ?_
                              try dsimp only
                              refine J.inv rfl rfl rfl rfl rfl rfl ((jD_w rfl).mpr (hI77.is hI77.top.2.2.1)) rfl rfl rfl rfl rfl (c_X7_firstOf (height := height) (round := round) hI77  (show -2147483648 ≤ height ∧ height ≤ 2147483647 from ⟨by omega, by omega⟩) (show -2147483648 ≤ round ∧ round ≤ 2147483647 from ⟨by omega, by omega⟩)) ?_
                              rintro v w75 H74 ⟨rfl, rfl, hv⟩
                              rcases hv with ⟨rfl, r93⟩ | ⟨q91, rfl, t92, r93⟩
                              · skip
                                try dsimp only [Option.toList, List.append, List.cons_append, List.nil_append]
                                refine J.inv rfl rfl rfl rfl rfl rfl ((jD_w rfl).mpr (hI77.is t90)) rfl rfl rfl rfl rfl (c_X6_learn (a0 := q89) (m0 := q84) (row := none) hI77 t90 t85 (fun _ z => nomatch z) ) ?_
                                rintro v w95 H94 ⟨T96, hI97, shS98, ehE99, hr100, hr100s, hv⟩
                                have hr100' : ((w95.2.1 : Nat) : Int) - 2 * H94.1 7 4 F.2.2.1 - 13 * H94.1 3 1 F.2.1 - H94.1 3 3 F.2.1 ≤ ((w75.2.1 : Nat) : Int) - 2 * H74.1 7 4 F.2.2.1 - 13 * H74.1 3 1 F.2.1 - H74.1 3 3 F.2.1 + (0) := hr100
                                have hr100s' : ((w95.2.2 : Nat) : Int) - 18 * H94.1 7 4 F.2.2.1 - 700 * H94.1 3 1 F.2.1 - 6 * H94.1 3 3 F.2.1 ≤ ((w75.2.2 : Nat) : Int) - 18 * H74.1 7 4 F.2.2.1 - 700 * H74.1 3 1 F.2.1 - 6 * H74.1 3 3 F.2.1 + 10 * (0) := hr100s
                                have hE99 : cEx T [616, 704, 10507, 30026, 30027, 30031, 40028, 40029, 40030] H94 H := cEx.trans ehE99 hE79 hS78 (by decide)
                                have hS98 : ∀ k p, T k p → T96 k p := fun k p z => shS98 k p (hS78 k p z)
                                have g101 : H94.1 3 1 F.2.1 = H74.1 3 1 F.2.1 := (ehE99.1 3 1 F.2.1 hI77.top.2.1).1 (by decide)
                                have g102 : H94.1 3 3 F.2.1 = H74.1 3 3 F.2.1 := (ehE99.1 3 3 F.2.1 hI77.top.2.1).1 (by decide)
                                have g103 : H94.1 7 4 F.2.2.1 = H74.1 7 4 F.2.2.1 := (ehE99.1 7 4 F.2.2.1 hI77.top.2.2.1).1 (by decide)
                                have t104 : T96 5 q84 := shS98 _ _ t85
                                have t105 : T96 10 F.1 := shS98 _ _ t83
                                obtain rfl := hv
                                try dsimp only [Option.toList, List.append, List.cons_append, List.nil_append]
                                have f106 : 0 ≤ H94.1 5 0 q84 ∧ H94.1 5 0 q84 ≤ 5999 := hI97.v 5 0 q84 t104
                                refine J.run 2 rfl (hI97.is t104) ?_
                                try dsimp only
                                exact J.reti rfl rfl rfl ⟨T96, hI97, hS98, hE99, (show ((w95.2.1 : Nat) : Int) - 2 * H94.1 7 4 F.2.2.1 - 13 * H94.1 3 1 F.2.1 - H94.1 3 3 F.2.1 ≤ ((w.2.1 : Nat) : Int) - 2 * H.1 7 4 F.2.2.1 - 13 * H.1 3 1 F.2.1 - H.1 3 3 F.2.1 + (1) by omega), (show ((w95.2.2 : Nat) : Int) - 18 * H94.1 7 4 F.2.2.1 - 700 * H94.1 3 1 F.2.1 - 6 * H94.1 3 3 F.2.1 ≤ ((w.2.2 : Nat) : Int) - 18 * H.1 7 4 F.2.2.1 - 700 * H.1 3 1 F.2.1 - 6 * H.1 3 3 F.2.1 + 10 * (1) by omega), Or.inl ⟨_, rfl, _, rfl, trivial⟩⟩
                              · skip
                                try dsimp only [Option.toList, List.append, List.cons_append, List.nil_append]
                                have f107 : 0 ≤ H74.1 5 0 q91 ∧ H74.1 5 0 q91 ≤ 5999 := hI77.v 5 0 q91 t92
                                refine J.inv rfl rfl rfl rfl rfl rfl ((jD_w rfl).mpr (hI77.is t90)) rfl rfl rfl rfl rfl (c_X6_learn (a0 := q89) (m0 := q84) (row := some q91) hI77 t90 t85 (fun _ z => by cases z; exact t92) ) ?_
                                rintro v w109 H108 ⟨T110, hI111, shS112, ehE113, hr114, hr114s, hv⟩
                                have hr114' : ((w109.2.1 : Nat) : Int) - 2 * H108.1 7 4 F.2.2.1 - 13 * H108.1 3 1 F.2.1 - H108.1 3 3 F.2.1 ≤ ((w75.2.1 : Nat) : Int) - 2 * H74.1 7 4 F.2.2.1 - 13 * H74.1 3 1 F.2.1 - H74.1 3 3 F.2.1 + (0) := hr114
                                have hr114s' : ((w109.2.2 : Nat) : Int) - 18 * H108.1 7 4 F.2.2.1 - 700 * H108.1 3 1 F.2.1 - 6 * H108.1 3 3 F.2.1 ≤ ((w75.2.2 : Nat) : Int) - 18 * H74.1 7 4 F.2.2.1 - 700 * H74.1 3 1 F.2.1 - 6 * H74.1 3 3 F.2.1 + 10 * (0) := hr114s
                                have hE113 : cEx T [616, 704, 10507, 30026, 30027, 30031, 40028, 40029, 40030] H108 H := cEx.trans ehE113 hE79 hS78 (by decide)
                                have hS112 : ∀ k p, T k p → T110 k p := fun k p z => shS112 k p (hS78 k p z)
                                have g115 : H108.1 3 1 F.2.1 = H74.1 3 1 F.2.1 := (ehE113.1 3 1 F.2.1 hI77.top.2.1).1 (by decide)
                                have g116 : H108.1 3 3 F.2.1 = H74.1 3 3 F.2.1 := (ehE113.1 3 3 F.2.1 hI77.top.2.1).1 (by decide)
                                have g117 : H108.1 7 4 F.2.2.1 = H74.1 7 4 F.2.2.1 := (ehE113.1 7 4 F.2.2.1 hI77.top.2.2.1).1 (by decide)
                                have t118 : T110 5 q84 := shS112 _ _ t85
                                have t119 : T110 10 F.1 := shS112 _ _ t83
                                obtain rfl := hv
                                try dsimp only [Option.toList, List.append, List.cons_append, List.nil_append]
                                have f120 : 0 ≤ H108.1 5 0 q84 ∧ H108.1 5 0 q84 ≤ 5999 := hI111.v 5 0 q84 t118
                                refine J.run 2 rfl (hI111.is t118) ?_
                                try dsimp only
                                exact J.reti rfl rfl rfl ⟨T110, hI111, hS112, hE113, (show ((w109.2.1 : Nat) : Int) - 2 * H108.1 7 4 F.2.2.1 - 13 * H108.1 3 1 F.2.1 - H108.1 3 3 F.2.1 ≤ ((w.2.1 : Nat) : Int) - 2 * H.1 7 4 F.2.2.1 - 13 * H.1 3 1 F.2.1 - H.1 3 3 F.2.1 + (1) by omega), (show ((w109.2.2 : Nat) : Int) - 18 * H108.1 7 4 F.2.2.1 - 700 * H108.1 3 1 F.2.1 - 6 * H108.1 3 3 F.2.1 ≤ ((w.2.2 : Nat) : Int) - 18 * H.1 7 4 F.2.2.1 - 700 * H.1 3 1 F.2.1 - 6 * H.1 3 3 F.2.1 + 10 * (1) by omega), Or.inl ⟨_, rfl, _, rfl, trivial⟩⟩
                        · have c121 : ¬ (¬ (x71 = (0 : Int))) := hc
                          clear hc
                          exact J.thr rfl rfl rfl rfl ⟨T, hI, hS, hE, (show ((w.2.1 + 1 : Nat) : Int) - 2 * H.1 7 4 F.2.2.1 - 13 * H.1 3 1 F.2.1 - H.1 3 3 F.2.1 ≤ ((w.2.1 : Nat) : Int) - 2 * H.1 7 4 F.2.2.1 - 13 * H.1 3 1 F.2.1 - H.1 3 3 F.2.1 + (1) by omega), (show ((w.2.2 + 6 : Nat) : Int) - 18 * H.1 7 4 F.2.2.1 - 700 * H.1 3 1 F.2.1 - 6 * H.1 3 3 F.2.1 ≤ ((w.2.2 : Nat) : Int) - 18 * H.1 7 4 F.2.2.1 - 700 * H.1 3 1 F.2.1 - 6 * H.1 3 3 F.2.1 + 10 * (1) by omega), Or.inr (Or.inr (rfl))⟩
                      · have c122 : ¬ (before = (-1 : Int)) := hc
                        clear hc
                        exact J.thr rfl rfl rfl rfl ⟨T, hI, hS, hE, (show ((w.2.1 + 1 : Nat) : Int) - 2 * H.1 7 4 F.2.2.1 - 13 * H.1 3 1 F.2.1 - H.1 3 3 F.2.1 ≤ ((w.2.1 : Nat) : Int) - 2 * H.1 7 4 F.2.2.1 - 13 * H.1 3 1 F.2.1 - H.1 3 3 F.2.1 + (1) by omega), (show ((w.2.2 + 6 : Nat) : Int) - 18 * H.1 7 4 F.2.2.1 - 700 * H.1 3 1 F.2.1 - 6 * H.1 3 3 F.2.1 ≤ ((w.2.2 : Nat) : Int) - 18 * H.1 7 4 F.2.2.1 - 700 * H.1 3 1 F.2.1 - 6 * H.1 3 3 F.2.1 + 10 * (1) by omega), Or.inr (Or.inl rfl)⟩
              · have c123 : ¬ (block = (-1 : Int)) := hc
                clear hc
                refine J.run 2 rfl ⟨(hI.is hI.top.1), (hI.o 10 0 3 F.1 rfl hI.top.1).1⟩ ?_
                try dsimp only
                try dsimp only
                rw [show (H.2.2.2.2 10 0 F.1) = F.2.1 from hI.one.2.1 _ (hI.o 10 0 3 F.1 rfl hI.top.1).2]
                refine J.run0 1 rfl ?_
                try dsimp only
                refine J.inv rfl rfl rfl rfl rfl rfl ((jD_w rfl).mpr (hI.is hI.top.2.1)) rfl rfl rfl rfl rfl (c_X3_get (b := block) hI  (show -2147483648 ≤ block ∧ block ≤ 2147483647 from ⟨by omega, by omega⟩)) ?_
                rintro v w H ⟨rfl, rfl, hv⟩
                rcases hv with ⟨rfl, r126⟩ | ⟨q124, rfl, t125, r126⟩
                · skip
                  try dsimp only [Option.toList, List.append, List.cons_append, List.nil_append]
                  refine J.run0 1 rfl ?_
                  try dsimp only
                  exact J.thr rfl rfl rfl rfl ⟨T, hI, hS, hE, (show ((w.2.1 + 1 : Nat) : Int) - 2 * H.1 7 4 F.2.2.1 - 13 * H.1 3 1 F.2.1 - H.1 3 3 F.2.1 ≤ ((w.2.1 : Nat) : Int) - 2 * H.1 7 4 F.2.2.1 - 13 * H.1 3 1 F.2.1 - H.1 3 3 F.2.1 + (1) by omega), (show ((w.2.2 + 6 : Nat) : Int) - 18 * H.1 7 4 F.2.2.1 - 700 * H.1 3 1 F.2.1 - 6 * H.1 3 3 F.2.1 ≤ ((w.2.2 : Nat) : Int) - 18 * H.1 7 4 F.2.2.1 - 700 * H.1 3 1 F.2.1 - 6 * H.1 3 3 F.2.1 + 10 * (1) by omega), Or.inr (Or.inl rfl)⟩
                · skip
                  try dsimp only [Option.toList, List.append, List.cons_append, List.nil_append]
                  have f127 : 0 ≤ H.1 0 1 q124 ∧ H.1 0 1 q124 ≤ 299 := hI.v 0 1 q124 t125
                  refine J.run0 3 rfl ?_
                  try dsimp only
                  refine J.icmp rfl rfl rfl ⟨(show -2147483648 ≤ before ∧ before ≤ 2147483647 from ⟨by omega, by omega⟩), (show -2147483648 ≤ (-1 : Int) ∧ (-1 : Int) ≤ 2147483647 from ⟨by omega, by omega⟩)⟩ (fun hc => ?_) (fun hc => ?_)
                  · have c128 : before < (-1 : Int) := hc
                    clear hc
                    exact J.thr rfl rfl rfl rfl ⟨T, hI, hS, hE, (show ((w.2.1 + 1 : Nat) : Int) - 2 * H.1 7 4 F.2.2.1 - 13 * H.1 3 1 F.2.1 - H.1 3 3 F.2.1 ≤ ((w.2.1 : Nat) : Int) - 2 * H.1 7 4 F.2.2.1 - 13 * H.1 3 1 F.2.1 - H.1 3 3 F.2.1 + (1) by omega), (show ((w.2.2 + 6 : Nat) : Int) - 18 * H.1 7 4 F.2.2.1 - 700 * H.1 3 1 F.2.1 - 6 * H.1 3 3 F.2.1 ≤ ((w.2.2 : Nat) : Int) - 18 * H.1 7 4 F.2.2.1 - 700 * H.1 3 1 F.2.1 - 6 * H.1 3 3 F.2.1 + 10 * (1) by omega), Or.inr (Or.inl rfl)⟩
                  · have c129 : ¬ (before < (-1 : Int)) := hc
                    clear hc
                    refine J.run0 2 rfl ?_
                    try dsimp only
                    refine J.icmp rfl rfl rfl ⟨(show -2147483648 ≤ before ∧ before ≤ 2147483647 from ⟨by omega, by omega⟩), (show -2147483648 ≤ (32 : Int) ∧ (32 : Int) ≤ 2147483647 from ⟨by omega, by omega⟩)⟩ (fun hc => ?_) (fun hc => ?_)
                    · have c130 : (32 : Int) ≤ before := hc
                      clear hc
                      exact J.thr rfl rfl rfl rfl ⟨T, hI, hS, hE, (show ((w.2.1 + 1 : Nat) : Int) - 2 * H.1 7 4 F.2.2.1 - 13 * H.1 3 1 F.2.1 - H.1 3 3 F.2.1 ≤ ((w.2.1 : Nat) : Int) - 2 * H.1 7 4 F.2.2.1 - 13 * H.1 3 1 F.2.1 - H.1 3 3 F.2.1 + (1) by omega), (show ((w.2.2 + 6 : Nat) : Int) - 18 * H.1 7 4 F.2.2.1 - 700 * H.1 3 1 F.2.1 - 6 * H.1 3 3 F.2.1 ≤ ((w.2.2 : Nat) : Int) - 18 * H.1 7 4 F.2.2.1 - 700 * H.1 3 1 F.2.1 - 6 * H.1 3 3 F.2.1 + 10 * (1) by omega), Or.inr (Or.inl rfl)⟩
                    · have c131 : ¬ ((32 : Int) ≤ before) := hc
                      clear hc
                      refine J.run0 1 rfl ?_
                      try dsimp only
                      refine J.ifc rfl rfl rfl (show -2147483648 ≤ kind ∧ kind ≤ 2147483647 from ⟨by omega, by omega⟩) (fun hc => ?_) (fun hc => ?_)
                      · have c132 : kind = (0 : Int) := hc
                        clear hc
                        refine J.run0 2 rfl ?_
                        try dsimp only
                        refine J.inv rfl rfl rfl rfl rfl rfl ((jD_w rfl).mpr (hI.is hI.top.1)) rfl rfl rfl rfl rfl (c_X10_isFaulty (n := n) hI  (show -2147483648 ≤ n ∧ n ≤ 2147483647 from ⟨by omega, by omega⟩)) ?_
                        rintro v w H ⟨rfl, rfl, hv⟩
                        obtain ⟨x133, rfl, r134⟩ := hv
                        have r134' : (x133 = 0 ∨ x133 = 1) ∧ (x133 = 1 → 0 ≤ n ∧ n ≤ 15) := r134
                        try dsimp only [Option.toList, List.append, List.cons_append, List.nil_append]
                        refine J.ifc rfl rfl rfl (show -2147483648 ≤ x133 ∧ x133 ≤ 2147483647 from ⟨by omega, by omega⟩) (fun hc => ?_) (fun hc => ?_)
                        · have c135 : ¬ (x133 = (0 : Int)) := hc
                          clear hc
                          refine J.run 2 rfl ⟨(hI.is hI.top.1), (hI.o 10 1 7 F.1 rfl hI.top.1).1⟩ ?_
                          try dsimp only
                          try dsimp only
                          rw [show (H.2.2.2.2 10 1 F.1) = F.2.2.1 from hI.one.2.2.1 _ (hI.o 10 1 7 F.1 rfl hI.top.1).2]
                          refine J.run0 6 rfl ?_
                          try dsimp only
                          refine J.inv rfl rfl rfl rfl rfl rfl ((jD_w rfl).mpr (hI.is hI.top.2.2.1)) rfl rfl rfl rfl rfl (c_X7_add (kind := kind) (node := n) (height := height) (round := round) (block := block) (before := before) hI  (show 0 ≤ n ∧ n ≤ 15 from ⟨by omega, by omega⟩) (show -2147483648 ≤ height ∧ height ≤ 2147483647 from ⟨by omega, by omega⟩) (show -2147483648 ≤ round ∧ round ≤ 2147483647 from ⟨by omega, by omega⟩) (show -2147483648 ≤ block ∧ block ≤ 2147483647 from ⟨by omega, by omega⟩) (show -2147483648 ≤ before ∧ before ≤ 2147483647 from ⟨by omega, by omega⟩)) ?_
                          rintro v w137 H136 ⟨T138, hI139, shS140, ehE141, hr142, hr142s, hv⟩
                          have hr142' : ((w137.2.1 : Nat) : Int) - 2 * H136.1 7 4 F.2.2.1 - 13 * H136.1 3 1 F.2.1 - H136.1 3 3 F.2.1 ≤ ((w.2.1 : Nat) : Int) - 2 * H.1 7 4 F.2.2.1 - 13 * H.1 3 1 F.2.1 - H.1 3 3 F.2.1 + (0) := hr142
                          have hr142s' : ((w137.2.2 : Nat) : Int) - 18 * H136.1 7 4 F.2.2.1 - 700 * H136.1 3 1 F.2.1 - 6 * H136.1 3 3 F.2.1 ≤ ((w.2.2 : Nat) : Int) - 18 * H.1 7 4 F.2.2.1 - 700 * H.1 3 1 F.2.1 - 6 * H.1 3 3 F.2.1 + 10 * (0) := hr142s
                          have hE141 : cEx T [616, 704, 10507, 30026, 30027, 30031, 40028, 40029, 40030] H136 H := cEx.trans ehE141 hE hS (by decide)
                          have hS140 : ∀ k p, T k p → T138 k p := fun k p z => shS140 k p (hS k p z)
                          have g143 : H136.1 3 1 F.2.1 = H.1 3 1 F.2.1 := (ehE141.1 3 1 F.2.1 hI.top.2.1).1 (by decide)
                          have g144 : H136.1 3 3 F.2.1 = H.1 3 3 F.2.1 := (ehE141.1 3 3 F.2.1 hI.top.2.1).1 (by decide)
                          have t145 : T138 10 F.1 := shS140 _ _ hI.top.1
                          rcases hv with ⟨rfl, r148⟩ | ⟨q146, rfl, t147, r148⟩
                          · have r148' : (6000 ≤ H.1 7 4 F.2.2.1 ∨ height < 0 ∨ 120 < height ∨ round < 0 ∨ 31 < round) := r148
                            try dsimp only [Option.toList, List.append, List.cons_append, List.nil_append]
                            refine J.run0 3 rfl ?_
                            try dsimp only
                            exact J.thr rfl rfl rfl rfl ⟨T138, hI139, hS140, hE141, (show ((w137.2.1 + 1 : Nat) : Int) - 2 * H136.1 7 4 F.2.2.1 - 13 * H136.1 3 1 F.2.1 - H136.1 3 3 F.2.1 ≤ ((w.2.1 : Nat) : Int) - 2 * H.1 7 4 F.2.2.1 - 13 * H.1 3 1 F.2.1 - H.1 3 3 F.2.1 + (1) by omega), (show ((w137.2.2 + 6 : Nat) : Int) - 18 * H136.1 7 4 F.2.2.1 - 700 * H136.1 3 1 F.2.1 - 6 * H136.1 3 3 F.2.1 ≤ ((w.2.2 : Nat) : Int) - 18 * H.1 7 4 F.2.2.1 - 700 * H.1 3 1 F.2.1 - 6 * H.1 3 3 F.2.1 + 10 * (1) by omega), Or.inr (Or.inr (rfl))⟩
                          · have r148' : (((w137.2.1 : Nat) : Int) - 2 * H136.1 7 4 F.2.2.1 - 13 * H136.1 3 1 F.2.1 - H136.1 3 3 F.2.1 ≤ ((w.2.1 : Nat) : Int) - 2 * H.1 7 4 F.2.2.1 - 13 * H.1 3 1 F.2.1 - H.1 3 3 F.2.1 + (-1) ∧ ((w137.2.2 : Nat) : Int) - 18 * H136.1 7 4 F.2.2.1 - 700 * H136.1 3 1 F.2.1 - 6 * H136.1 3 3 F.2.1 ≤ ((w.2.2 : Nat) : Int) - 18 * H.1 7 4 F.2.2.1 - 700 * H.1 3 1 F.2.1 - 6 * H.1 3 3 F.2.1 + 10 * (-1)) := r148
                            try dsimp only [Option.toList, List.append, List.cons_append, List.nil_append]
                            have f149 : 0 ≤ H136.1 5 0 q146 ∧ H136.1 5 0 q146 ≤ 5999 := hI139.v 5 0 q146 t147
                            refine J.run 7 rfl ⟨⟨(hI139.is t145), hI139.is (hI139.r 10 2 40 F.1 rfl t145)⟩, (show w137.1 40 F.1 ∧ 0 ≤ n ∧ n < 16 from ⟨hI139.is (hI139.r 10 2 40 F.1 rfl t145), by omega, by omega⟩)⟩ ?_
                            try dsimp only
                            try dsimp only
                            rcases hn150 : H136.2.2.2.1 40 F.1 (n) with _ | q151
                            · exact absurd hn150 (hI139.nd (by omega) (by omega))
                            · have t152 : T138 6 q151 := hI139.a 40 F.1 rfl (hI139.r 10 2 40 F.1 rfl t145) hn150
                              refine J.run 3 rfl ⟨(hI139.is t145), (hI139.o 10 1 7 F.1 rfl t145).1⟩ ?_
                              try dsimp only
                              try dsimp only
                              rw [show (H136.2.2.2.2 10 1 F.1) = F.2.2.1 from hI139.one.2.2.1 _ (hI139.o 10 1 7 F.1 rfl t145).2]
                              refine J.run0 2 rfl ?_
                              try dsimp only
                              refine J.inv rfl rfl rfl rfl rfl rfl ((jD_w rfl).mpr (hI139.is hI139.top.2.2.1)) rfl rfl rfl rfl rfl (c_X7_firstOf (height := height) (round := round) hI139  (show -2147483648 ≤ height ∧ height ≤ 2147483647 from ⟨by omega, by omega⟩) (show -2147483648 ≤ round ∧ round ≤ 2147483647 from ⟨by omega, by omega⟩)) ?_
                              rintro v w137 H136 ⟨rfl, rfl, hv⟩
                              rcases hv with ⟨rfl, r155⟩ | ⟨q153, rfl, t154, r155⟩
                              · skip
                                try dsimp only [Option.toList, List.append, List.cons_append, List.nil_append]
                                refine J.inv rfl rfl rfl rfl rfl rfl ((jD_w rfl).mpr (hI139.is t152)) rfl rfl rfl rfl rfl (c_X6_learn (a0 := q151) (m0 := q146) (row := none) hI139 t152 t147 (fun _ z => nomatch z) ) ?_
                                rintro v w157 H156 ⟨T158, hI159, shS160, ehE161, hr162, hr162s, hv⟩
                                have hr162' : ((w157.2.1 : Nat) : Int) - 2 * H156.1 7 4 F.2.2.1 - 13 * H156.1 3 1 F.2.1 - H156.1 3 3 F.2.1 ≤ ((w137.2.1 : Nat) : Int) - 2 * H136.1 7 4 F.2.2.1 - 13 * H136.1 3 1 F.2.1 - H136.1 3 3 F.2.1 + (0) := hr162
                                have hr162s' : ((w157.2.2 : Nat) : Int) - 18 * H156.1 7 4 F.2.2.1 - 700 * H156.1 3 1 F.2.1 - 6 * H156.1 3 3 F.2.1 ≤ ((w137.2.2 : Nat) : Int) - 18 * H136.1 7 4 F.2.2.1 - 700 * H136.1 3 1 F.2.1 - 6 * H136.1 3 3 F.2.1 + 10 * (0) := hr162s
                                have hE161 : cEx T [616, 704, 10507, 30026, 30027, 30031, 40028, 40029, 40030] H156 H := cEx.trans ehE161 hE141 hS140 (by decide)
                                have hS160 : ∀ k p, T k p → T158 k p := fun k p z => shS160 k p (hS140 k p z)
                                have g163 : H156.1 3 1 F.2.1 = H136.1 3 1 F.2.1 := (ehE161.1 3 1 F.2.1 hI139.top.2.1).1 (by decide)
                                have g164 : H156.1 3 3 F.2.1 = H136.1 3 3 F.2.1 := (ehE161.1 3 3 F.2.1 hI139.top.2.1).1 (by decide)
                                have g165 : H156.1 7 4 F.2.2.1 = H136.1 7 4 F.2.2.1 := (ehE161.1 7 4 F.2.2.1 hI139.top.2.2.1).1 (by decide)
                                have t166 : T158 5 q146 := shS160 _ _ t147
                                have t167 : T158 10 F.1 := shS160 _ _ t145
                                obtain rfl := hv
                                try dsimp only [Option.toList, List.append, List.cons_append, List.nil_append]
                                have f168 : 0 ≤ H156.1 5 0 q146 ∧ H156.1 5 0 q146 ≤ 5999 := hI159.v 5 0 q146 t166
                                refine J.run 2 rfl (hI159.is t166) ?_
                                try dsimp only
                                exact J.reti rfl rfl rfl ⟨T158, hI159, hS160, hE161, (show ((w157.2.1 : Nat) : Int) - 2 * H156.1 7 4 F.2.2.1 - 13 * H156.1 3 1 F.2.1 - H156.1 3 3 F.2.1 ≤ ((w.2.1 : Nat) : Int) - 2 * H.1 7 4 F.2.2.1 - 13 * H.1 3 1 F.2.1 - H.1 3 3 F.2.1 + (1) by omega), (show ((w157.2.2 : Nat) : Int) - 18 * H156.1 7 4 F.2.2.1 - 700 * H156.1 3 1 F.2.1 - 6 * H156.1 3 3 F.2.1 ≤ ((w.2.2 : Nat) : Int) - 18 * H.1 7 4 F.2.2.1 - 700 * H.1 3 1 F.2.1 - 6 * H.1 3 3 F.2.1 + 10 * (1) by omega), Or.inl ⟨_, rfl, _, rfl, trivial⟩⟩
                              · skip
                                try dsimp only [Option.toList, List.append, List.cons_append, List.nil_append]
                                have f169 : 0 ≤ H136.1 5 0 q153 ∧ H136.1 5 0 q153 ≤ 5999 := hI139.v 5 0 q153 t154
                                refine J.inv rfl rfl rfl rfl rfl rfl ((jD_w rfl).mpr (hI139.is t152)) rfl rfl rfl rfl rfl (c_X6_learn (a0 := q151) (m0 := q146) (row := some q153) hI139 t152 t147 (fun _ z => by cases z; exact t154) ) ?_
                                rintro v w171 H170 ⟨T172, hI173, shS174, ehE175, hr176, hr176s, hv⟩
                                have hr176' : ((w171.2.1 : Nat) : Int) - 2 * H170.1 7 4 F.2.2.1 - 13 * H170.1 3 1 F.2.1 - H170.1 3 3 F.2.1 ≤ ((w137.2.1 : Nat) : Int) - 2 * H136.1 7 4 F.2.2.1 - 13 * H136.1 3 1 F.2.1 - H136.1 3 3 F.2.1 + (0) := hr176
                                have hr176s' : ((w171.2.2 : Nat) : Int) - 18 * H170.1 7 4 F.2.2.1 - 700 * H170.1 3 1 F.2.1 - 6 * H170.1 3 3 F.2.1 ≤ ((w137.2.2 : Nat) : Int) - 18 * H136.1 7 4 F.2.2.1 - 700 * H136.1 3 1 F.2.1 - 6 * H136.1 3 3 F.2.1 + 10 * (0) := hr176s
                                have hE175 : cEx T [616, 704, 10507, 30026, 30027, 30031, 40028, 40029, 40030] H170 H := cEx.trans ehE175 hE141 hS140 (by decide)
                                have hS174 : ∀ k p, T k p → T172 k p := fun k p z => shS174 k p (hS140 k p z)
                                have g177 : H170.1 3 1 F.2.1 = H136.1 3 1 F.2.1 := (ehE175.1 3 1 F.2.1 hI139.top.2.1).1 (by decide)
                                have g178 : H170.1 3 3 F.2.1 = H136.1 3 3 F.2.1 := (ehE175.1 3 3 F.2.1 hI139.top.2.1).1 (by decide)
                                have g179 : H170.1 7 4 F.2.2.1 = H136.1 7 4 F.2.2.1 := (ehE175.1 7 4 F.2.2.1 hI139.top.2.2.1).1 (by decide)
                                have t180 : T172 5 q146 := shS174 _ _ t147
                                have t181 : T172 10 F.1 := shS174 _ _ t145
                                obtain rfl := hv
                                try dsimp only [Option.toList, List.append, List.cons_append, List.nil_append]
                                have f182 : 0 ≤ H170.1 5 0 q146 ∧ H170.1 5 0 q146 ≤ 5999 := hI173.v 5 0 q146 t180
                                refine J.run 2 rfl (hI173.is t180) ?_
                                try dsimp only
                                exact J.reti rfl rfl rfl ⟨T172, hI173, hS174, hE175, (show ((w171.2.1 : Nat) : Int) - 2 * H170.1 7 4 F.2.2.1 - 13 * H170.1 3 1 F.2.1 - H170.1 3 3 F.2.1 ≤ ((w.2.1 : Nat) : Int) - 2 * H.1 7 4 F.2.2.1 - 13 * H.1 3 1 F.2.1 - H.1 3 3 F.2.1 + (1) by omega), (show ((w171.2.2 : Nat) : Int) - 18 * H170.1 7 4 F.2.2.1 - 700 * H170.1 3 1 F.2.1 - 6 * H170.1 3 3 F.2.1 ≤ ((w.2.2 : Nat) : Int) - 18 * H.1 7 4 F.2.2.1 - 700 * H.1 3 1 F.2.1 - 6 * H.1 3 3 F.2.1 + 10 * (1) by omega), Or.inl ⟨_, rfl, _, rfl, trivial⟩⟩
                        · have c183 : ¬ (¬ (x133 = (0 : Int))) := hc
                          clear hc
                          exact J.thr rfl rfl rfl rfl ⟨T, hI, hS, hE, (show ((w.2.1 + 1 : Nat) : Int) - 2 * H.1 7 4 F.2.2.1 - 13 * H.1 3 1 F.2.1 - H.1 3 3 F.2.1 ≤ ((w.2.1 : Nat) : Int) - 2 * H.1 7 4 F.2.2.1 - 13 * H.1 3 1 F.2.1 - H.1 3 3 F.2.1 + (1) by omega), (show ((w.2.2 + 6 : Nat) : Int) - 18 * H.1 7 4 F.2.2.1 - 700 * H.1 3 1 F.2.1 - 6 * H.1 3 3 F.2.1 ≤ ((w.2.2 : Nat) : Int) - 18 * H.1 7 4 F.2.2.1 - 700 * H.1 3 1 F.2.1 - 6 * H.1 3 3 F.2.1 + 10 * (1) by omega), Or.inr (Or.inr (rfl))⟩
                      · have c184 : ¬ (kind = (0 : Int)) := hc
                        clear hc
                        refine J.run0 2 rfl ?_
                        try dsimp only
                        refine J.icmp rfl rfl rfl ⟨(show -2147483648 ≤ before ∧ before ≤ 2147483647 from ⟨by omega, by omega⟩), (show -2147483648 ≤ (-1 : Int) ∧ (-1 : Int) ≤ 2147483647 from ⟨by omega, by omega⟩)⟩ (fun hc => ?_) (fun hc => ?_)
                        · have c185 : before = (-1 : Int) := hc
                          clear hc
                          refine J.run0 2 rfl ?_
                          try dsimp only
                          refine J.inv rfl rfl rfl rfl rfl rfl ((jD_w rfl).mpr (hI.is hI.top.1)) rfl rfl rfl rfl rfl (c_X10_isFaulty (n := n) hI  (show -2147483648 ≤ n ∧ n ≤ 2147483647 from ⟨by omega, by omega⟩)) ?_
                          rintro v w H ⟨rfl, rfl, hv⟩
                          obtain ⟨x186, rfl, r187⟩ := hv
                          have r187' : (x186 = 0 ∨ x186 = 1) ∧ (x186 = 1 → 0 ≤ n ∧ n ≤ 15) := r187
                          try dsimp only [Option.toList, List.append, List.cons_append, List.nil_append]
                          refine J.ifc rfl rfl rfl (show -2147483648 ≤ x186 ∧ x186 ≤ 2147483647 from ⟨by omega, by omega⟩) (fun hc => ?_) (fun hc => ?_)
                          · have c188 : ¬ (x186 = (0 : Int)) := hc
                            clear hc
                            refine J.run 2 rfl ⟨(hI.is hI.top.1), (hI.o 10 1 7 F.1 rfl hI.top.1).1⟩ ?_
                            try dsimp only
                            try dsimp only
                            rw [show (H.2.2.2.2 10 1 F.1) = F.2.2.1 from hI.one.2.2.1 _ (hI.o 10 1 7 F.1 rfl hI.top.1).2]
                            refine J.run0 6 rfl ?_
                            try dsimp only
                            refine J.inv rfl rfl rfl rfl rfl rfl ((jD_w rfl).mpr (hI.is hI.top.2.2.1)) rfl rfl rfl rfl rfl (c_X7_add (kind := kind) (node := n) (height := height) (round := round) (block := block) (before := before) hI  (show 0 ≤ n ∧ n ≤ 15 from ⟨by omega, by omega⟩) (show -2147483648 ≤ height ∧ height ≤ 2147483647 from ⟨by omega, by omega⟩) (show -2147483648 ≤ round ∧ round ≤ 2147483647 from ⟨by omega, by omega⟩) (show -2147483648 ≤ block ∧ block ≤ 2147483647 from ⟨by omega, by omega⟩) (show -2147483648 ≤ before ∧ before ≤ 2147483647 from ⟨by omega, by omega⟩)) ?_
                            rintro v w190 H189 ⟨T191, hI192, shS193, ehE194, hr195, hr195s, hv⟩
                            have hr195' : ((w190.2.1 : Nat) : Int) - 2 * H189.1 7 4 F.2.2.1 - 13 * H189.1 3 1 F.2.1 - H189.1 3 3 F.2.1 ≤ ((w.2.1 : Nat) : Int) - 2 * H.1 7 4 F.2.2.1 - 13 * H.1 3 1 F.2.1 - H.1 3 3 F.2.1 + (0) := hr195
                            have hr195s' : ((w190.2.2 : Nat) : Int) - 18 * H189.1 7 4 F.2.2.1 - 700 * H189.1 3 1 F.2.1 - 6 * H189.1 3 3 F.2.1 ≤ ((w.2.2 : Nat) : Int) - 18 * H.1 7 4 F.2.2.1 - 700 * H.1 3 1 F.2.1 - 6 * H.1 3 3 F.2.1 + 10 * (0) := hr195s
                            have hE194 : cEx T [616, 704, 10507, 30026, 30027, 30031, 40028, 40029, 40030] H189 H := cEx.trans ehE194 hE hS (by decide)
                            have hS193 : ∀ k p, T k p → T191 k p := fun k p z => shS193 k p (hS k p z)
                            have g196 : H189.1 3 1 F.2.1 = H.1 3 1 F.2.1 := (ehE194.1 3 1 F.2.1 hI.top.2.1).1 (by decide)
                            have g197 : H189.1 3 3 F.2.1 = H.1 3 3 F.2.1 := (ehE194.1 3 3 F.2.1 hI.top.2.1).1 (by decide)
                            have t198 : T191 10 F.1 := shS193 _ _ hI.top.1
                            rcases hv with ⟨rfl, r201⟩ | ⟨q199, rfl, t200, r201⟩
                            · have r201' : (6000 ≤ H.1 7 4 F.2.2.1 ∨ height < 0 ∨ 120 < height ∨ round < 0 ∨ 31 < round) := r201
                              try dsimp only [Option.toList, List.append, List.cons_append, List.nil_append]
                              refine J.run0 3 rfl ?_
                              try dsimp only
                              exact J.thr rfl rfl rfl rfl ⟨T191, hI192, hS193, hE194, (show ((w190.2.1 + 1 : Nat) : Int) - 2 * H189.1 7 4 F.2.2.1 - 13 * H189.1 3 1 F.2.1 - H189.1 3 3 F.2.1 ≤ ((w.2.1 : Nat) : Int) - 2 * H.1 7 4 F.2.2.1 - 13 * H.1 3 1 F.2.1 - H.1 3 3 F.2.1 + (1) by omega), (show ((w190.2.2 + 6 : Nat) : Int) - 18 * H189.1 7 4 F.2.2.1 - 700 * H189.1 3 1 F.2.1 - 6 * H189.1 3 3 F.2.1 ≤ ((w.2.2 : Nat) : Int) - 18 * H.1 7 4 F.2.2.1 - 700 * H.1 3 1 F.2.1 - 6 * H.1 3 3 F.2.1 + 10 * (1) by omega), Or.inr (Or.inr (rfl))⟩
                            · have r201' : (((w190.2.1 : Nat) : Int) - 2 * H189.1 7 4 F.2.2.1 - 13 * H189.1 3 1 F.2.1 - H189.1 3 3 F.2.1 ≤ ((w.2.1 : Nat) : Int) - 2 * H.1 7 4 F.2.2.1 - 13 * H.1 3 1 F.2.1 - H.1 3 3 F.2.1 + (-1) ∧ ((w190.2.2 : Nat) : Int) - 18 * H189.1 7 4 F.2.2.1 - 700 * H189.1 3 1 F.2.1 - 6 * H189.1 3 3 F.2.1 ≤ ((w.2.2 : Nat) : Int) - 18 * H.1 7 4 F.2.2.1 - 700 * H.1 3 1 F.2.1 - 6 * H.1 3 3 F.2.1 + 10 * (-1)) := r201
                              try dsimp only [Option.toList, List.append, List.cons_append, List.nil_append]
                              have f202 : 0 ≤ H189.1 5 0 q199 ∧ H189.1 5 0 q199 ≤ 5999 := hI192.v 5 0 q199 t200
                              refine J.run 7 rfl ⟨⟨(hI192.is t198), hI192.is (hI192.r 10 2 40 F.1 rfl t198)⟩, (show w190.1 40 F.1 ∧ 0 ≤ n ∧ n < 16 from ⟨hI192.is (hI192.r 10 2 40 F.1 rfl t198), by omega, by omega⟩)⟩ ?_
                              try dsimp only
                              try dsimp only
                              rcases hn203 : H189.2.2.2.1 40 F.1 (n) with _ | q204
                              · exact absurd hn203 (hI192.nd (by omega) (by omega))
                              · have t205 : T191 6 q204 := hI192.a 40 F.1 rfl (hI192.r 10 2 40 F.1 rfl t198) hn203
                                refine J.run 3 rfl ⟨(hI192.is t198), (hI192.o 10 1 7 F.1 rfl t198).1⟩ ?_
                                try dsimp only
                                try dsimp only
                                rw [show (H189.2.2.2.2 10 1 F.1) = F.2.2.1 from hI192.one.2.2.1 _ (hI192.o 10 1 7 F.1 rfl t198).2]
                                refine J.run0 2 rfl ?_
                                try dsimp only
                                refine J.inv rfl rfl rfl rfl rfl rfl ((jD_w rfl).mpr (hI192.is hI192.top.2.2.1)) rfl rfl rfl rfl rfl (c_X7_firstOf (height := height) (round := round) hI192  (show -2147483648 ≤ height ∧ height ≤ 2147483647 from ⟨by omega, by omega⟩) (show -2147483648 ≤ round ∧ round ≤ 2147483647 from ⟨by omega, by omega⟩)) ?_
                                rintro v w190 H189 ⟨rfl, rfl, hv⟩
                                rcases hv with ⟨rfl, r208⟩ | ⟨q206, rfl, t207, r208⟩
                                · skip
                                  try dsimp only [Option.toList, List.append, List.cons_append, List.nil_append]
                                  refine J.inv rfl rfl rfl rfl rfl rfl ((jD_w rfl).mpr (hI192.is t205)) rfl rfl rfl rfl rfl (c_X6_learn (a0 := q204) (m0 := q199) (row := none) hI192 t205 t200 (fun _ z => nomatch z) ) ?_
                                  rintro v w210 H209 ⟨T211, hI212, shS213, ehE214, hr215, hr215s, hv⟩
                                  have hr215' : ((w210.2.1 : Nat) : Int) - 2 * H209.1 7 4 F.2.2.1 - 13 * H209.1 3 1 F.2.1 - H209.1 3 3 F.2.1 ≤ ((w190.2.1 : Nat) : Int) - 2 * H189.1 7 4 F.2.2.1 - 13 * H189.1 3 1 F.2.1 - H189.1 3 3 F.2.1 + (0) := hr215
                                  have hr215s' : ((w210.2.2 : Nat) : Int) - 18 * H209.1 7 4 F.2.2.1 - 700 * H209.1 3 1 F.2.1 - 6 * H209.1 3 3 F.2.1 ≤ ((w190.2.2 : Nat) : Int) - 18 * H189.1 7 4 F.2.2.1 - 700 * H189.1 3 1 F.2.1 - 6 * H189.1 3 3 F.2.1 + 10 * (0) := hr215s
                                  have hE214 : cEx T [616, 704, 10507, 30026, 30027, 30031, 40028, 40029, 40030] H209 H := cEx.trans ehE214 hE194 hS193 (by decide)
                                  have hS213 : ∀ k p, T k p → T211 k p := fun k p z => shS213 k p (hS193 k p z)
                                  have g216 : H209.1 3 1 F.2.1 = H189.1 3 1 F.2.1 := (ehE214.1 3 1 F.2.1 hI192.top.2.1).1 (by decide)
                                  have g217 : H209.1 3 3 F.2.1 = H189.1 3 3 F.2.1 := (ehE214.1 3 3 F.2.1 hI192.top.2.1).1 (by decide)
                                  have g218 : H209.1 7 4 F.2.2.1 = H189.1 7 4 F.2.2.1 := (ehE214.1 7 4 F.2.2.1 hI192.top.2.2.1).1 (by decide)
                                  have t219 : T211 5 q199 := shS213 _ _ t200
                                  have t220 : T211 10 F.1 := shS213 _ _ t198
                                  obtain rfl := hv
                                  try dsimp only [Option.toList, List.append, List.cons_append, List.nil_append]
                                  have f221 : 0 ≤ H209.1 5 0 q199 ∧ H209.1 5 0 q199 ≤ 5999 := hI212.v 5 0 q199 t219
                                  refine J.run 2 rfl (hI212.is t219) ?_
                                  try dsimp only
                                  exact J.reti rfl rfl rfl ⟨T211, hI212, hS213, hE214, (show ((w210.2.1 : Nat) : Int) - 2 * H209.1 7 4 F.2.2.1 - 13 * H209.1 3 1 F.2.1 - H209.1 3 3 F.2.1 ≤ ((w.2.1 : Nat) : Int) - 2 * H.1 7 4 F.2.2.1 - 13 * H.1 3 1 F.2.1 - H.1 3 3 F.2.1 + (1) by omega), (show ((w210.2.2 : Nat) : Int) - 18 * H209.1 7 4 F.2.2.1 - 700 * H209.1 3 1 F.2.1 - 6 * H209.1 3 3 F.2.1 ≤ ((w.2.2 : Nat) : Int) - 18 * H.1 7 4 F.2.2.1 - 700 * H.1 3 1 F.2.1 - 6 * H.1 3 3 F.2.1 + 10 * (1) by omega), Or.inl ⟨_, rfl, _, rfl, trivial⟩⟩
                                · skip
                                  try dsimp only [Option.toList, List.append, List.cons_append, List.nil_append]
                                  have f222 : 0 ≤ H189.1 5 0 q206 ∧ H189.1 5 0 q206 ≤ 5999 := hI192.v 5 0 q206 t207
                                  refine J.inv rfl rfl rfl rfl rfl rfl ((jD_w rfl).mpr (hI192.is t205)) rfl rfl rfl rfl rfl (c_X6_learn (a0 := q204) (m0 := q199) (row := some q206) hI192 t205 t200 (fun _ z => by cases z; exact t207) ) ?_
                                  rintro v w224 H223 ⟨T225, hI226, shS227, ehE228, hr229, hr229s, hv⟩
                                  have hr229' : ((w224.2.1 : Nat) : Int) - 2 * H223.1 7 4 F.2.2.1 - 13 * H223.1 3 1 F.2.1 - H223.1 3 3 F.2.1 ≤ ((w190.2.1 : Nat) : Int) - 2 * H189.1 7 4 F.2.2.1 - 13 * H189.1 3 1 F.2.1 - H189.1 3 3 F.2.1 + (0) := hr229
                                  have hr229s' : ((w224.2.2 : Nat) : Int) - 18 * H223.1 7 4 F.2.2.1 - 700 * H223.1 3 1 F.2.1 - 6 * H223.1 3 3 F.2.1 ≤ ((w190.2.2 : Nat) : Int) - 18 * H189.1 7 4 F.2.2.1 - 700 * H189.1 3 1 F.2.1 - 6 * H189.1 3 3 F.2.1 + 10 * (0) := hr229s
                                  have hE228 : cEx T [616, 704, 10507, 30026, 30027, 30031, 40028, 40029, 40030] H223 H := cEx.trans ehE228 hE194 hS193 (by decide)
                                  have hS227 : ∀ k p, T k p → T225 k p := fun k p z => shS227 k p (hS193 k p z)
                                  have g230 : H223.1 3 1 F.2.1 = H189.1 3 1 F.2.1 := (ehE228.1 3 1 F.2.1 hI192.top.2.1).1 (by decide)
                                  have g231 : H223.1 3 3 F.2.1 = H189.1 3 3 F.2.1 := (ehE228.1 3 3 F.2.1 hI192.top.2.1).1 (by decide)
                                  have g232 : H223.1 7 4 F.2.2.1 = H189.1 7 4 F.2.2.1 := (ehE228.1 7 4 F.2.2.1 hI192.top.2.2.1).1 (by decide)
                                  have t233 : T225 5 q199 := shS227 _ _ t200
                                  have t234 : T225 10 F.1 := shS227 _ _ t198
                                  obtain rfl := hv
                                  try dsimp only [Option.toList, List.append, List.cons_append, List.nil_append]
                                  have f235 : 0 ≤ H223.1 5 0 q199 ∧ H223.1 5 0 q199 ≤ 5999 := hI226.v 5 0 q199 t233
                                  refine J.run 2 rfl (hI226.is t233) ?_
                                  try dsimp only
                                  exact J.reti rfl rfl rfl ⟨T225, hI226, hS227, hE228, (show ((w224.2.1 : Nat) : Int) - 2 * H223.1 7 4 F.2.2.1 - 13 * H223.1 3 1 F.2.1 - H223.1 3 3 F.2.1 ≤ ((w.2.1 : Nat) : Int) - 2 * H.1 7 4 F.2.2.1 - 13 * H.1 3 1 F.2.1 - H.1 3 3 F.2.1 + (1) by omega), (show ((w224.2.2 : Nat) : Int) - 18 * H223.1 7 4 F.2.2.1 - 700 * H223.1 3 1 F.2.1 - 6 * H223.1 3 3 F.2.1 ≤ ((w.2.2 : Nat) : Int) - 18 * H.1 7 4 F.2.2.1 - 700 * H.1 3 1 F.2.1 - 6 * H.1 3 3 F.2.1 + 10 * (1) by omega), Or.inl ⟨_, rfl, _, rfl, trivial⟩⟩
                          · have c236 : ¬ (¬ (x186 = (0 : Int))) := hc
                            clear hc
                            exact J.thr rfl rfl rfl rfl ⟨T, hI, hS, hE, (show ((w.2.1 + 1 : Nat) : Int) - 2 * H.1 7 4 F.2.2.1 - 13 * H.1 3 1 F.2.1 - H.1 3 3 F.2.1 ≤ ((w.2.1 : Nat) : Int) - 2 * H.1 7 4 F.2.2.1 - 13 * H.1 3 1 F.2.1 - H.1 3 3 F.2.1 + (1) by omega), (show ((w.2.2 + 6 : Nat) : Int) - 18 * H.1 7 4 F.2.2.1 - 700 * H.1 3 1 F.2.1 - 6 * H.1 3 3 F.2.1 ≤ ((w.2.2 : Nat) : Int) - 18 * H.1 7 4 F.2.2.1 - 700 * H.1 3 1 F.2.1 - 6 * H.1 3 3 F.2.1 + 10 * (1) by omega), Or.inr (Or.inr (rfl))⟩
                        · have c237 : ¬ (before = (-1 : Int)) := hc
                          clear hc
                          exact J.thr rfl rfl rfl rfl ⟨T, hI, hS, hE, (show ((w.2.1 + 1 : Nat) : Int) - 2 * H.1 7 4 F.2.2.1 - 13 * H.1 3 1 F.2.1 - H.1 3 3 F.2.1 ≤ ((w.2.1 : Nat) : Int) - 2 * H.1 7 4 F.2.2.1 - 13 * H.1 3 1 F.2.1 - H.1 3 3 F.2.1 + (1) by omega), (show ((w.2.2 + 6 : Nat) : Int) - 18 * H.1 7 4 F.2.2.1 - 700 * H.1 3 1 F.2.1 - 6 * H.1 3 3 F.2.1 ≤ ((w.2.2 : Nat) : Int) - 18 * H.1 7 4 F.2.2.1 - 700 * H.1 3 1 F.2.1 - 6 * H.1 3 3 F.2.1 + 10 * (1) by omega), Or.inr (Or.inl rfl)⟩
            · have c238 : ¬ (round < (32 : Int)) := hc
              clear hc
              exact J.thr rfl rfl rfl rfl ⟨T, hI, hS, hE, (show ((w.2.1 + 1 : Nat) : Int) - 2 * H.1 7 4 F.2.2.1 - 13 * H.1 3 1 F.2.1 - H.1 3 3 F.2.1 ≤ ((w.2.1 : Nat) : Int) - 2 * H.1 7 4 F.2.2.1 - 13 * H.1 3 1 F.2.1 - H.1 3 3 F.2.1 + (1) by omega), (show ((w.2.2 + 6 : Nat) : Int) - 18 * H.1 7 4 F.2.2.1 - 700 * H.1 3 1 F.2.1 - 6 * H.1 3 3 F.2.1 ≤ ((w.2.2 : Nat) : Int) - 18 * H.1 7 4 F.2.2.1 - 700 * H.1 3 1 F.2.1 - 6 * H.1 3 3 F.2.1 + 10 * (1) by omega), Or.inr (Or.inl rfl)⟩
end
