-- M: X10_submit
section
variable {d : Nat} {F : cG} 
set_option maxRecDepth 20000 in
set_option maxHeartbeats 8000000 in
theorem c_X10_submit {kind : Int} {a : Int} {b : Int} {vv : Int} {T : cP} {w : jW} {H : jH} (hI : cJ F T w H)  (hp0 : -2147483648 ≤ kind ∧ kind ≤ 2147483647) (hp1 : -2147483648 ≤ a ∧ a ≤ 2147483647) (hp2 : -2147483648 ≤ b ∧ b ≤ 2147483647) (hp3 : -2147483648 ≤ vv ∧ vv ≤ 2147483647) : J false (d + 2) 71 w (0, jargs 0 [.inr (some (10, F.1)), .inl kind, .inl a, .inl b, .inl vv], [], H) (fun o w' H' => ∃ T', cJ F T' w' H' ∧ (∀ k p, T k p → T' k p) ∧ cEx T [303, 40022] H' H ∧ ((w'.2.1 : Nat) : Int) - 2 * H'.1 7 4 F.2.2.1 - 13 * H'.1 3 1 F.2.1 - H'.1 3 3 F.2.1 ≤ ((w.2.1 : Nat) : Int) - 2 * H.1 7 4 F.2.2.1 - 13 * H.1 3 1 F.2.1 - H.1 3 3 F.2.1 + (1) ∧ ((w'.2.2 : Nat) : Int) - 18 * H'.1 7 4 F.2.2.1 - 700 * H'.1 3 1 F.2.1 - 6 * H'.1 3 3 F.2.1 ≤ ((w.2.2 : Nat) : Int) - 18 * H.1 7 4 F.2.2.1 - 700 * H.1 3 1 F.2.1 - 6 * H.1 3 3 F.2.1 + 10 * (1) ∧ ((∃ v, o = .inl v ∧ ∃ rv, v = some (.inl rv) ∧ (True)) ∨ (o = .inr 12) ∨ (o = .inr 13))) := by
  have hE : cEx T [303, 40022] H H := cEx.refl
  have hS : ∀ k p, T k p → T k p := fun _ _ z => z
  refine J.run0 1 rfl ?_
  try dsimp only
  refine J.ifc rfl rfl rfl (show -2147483648 ≤ kind ∧ kind ≤ 2147483647 from ⟨by omega, by omega⟩) (fun hc => ?_) (fun hc => ?_)
  · have c1 : kind < (0 : Int) := hc
    clear hc
    exact J.thr rfl rfl rfl rfl ⟨T, hI, hS, hE, (show ((w.2.1 + 1 : Nat) : Int) - 2 * H.1 7 4 F.2.2.1 - 13 * H.1 3 1 F.2.1 - H.1 3 3 F.2.1 ≤ ((w.2.1 : Nat) : Int) - 2 * H.1 7 4 F.2.2.1 - 13 * H.1 3 1 F.2.1 - H.1 3 3 F.2.1 + (1) by omega), (show ((w.2.2 + 6 : Nat) : Int) - 18 * H.1 7 4 F.2.2.1 - 700 * H.1 3 1 F.2.1 - 6 * H.1 3 3 F.2.1 ≤ ((w.2.2 : Nat) : Int) - 18 * H.1 7 4 F.2.2.1 - 700 * H.1 3 1 F.2.1 - 6 * H.1 3 3 F.2.1 + 10 * (1) by omega), Or.inr (Or.inl rfl)⟩
  · have c2 : ¬ (kind < (0 : Int)) := hc
    clear hc
    refine J.run0 2 rfl ?_
    try dsimp only
    refine J.icmp rfl rfl rfl ⟨(show -2147483648 ≤ kind ∧ kind ≤ 2147483647 from ⟨by omega, by omega⟩), (show -2147483648 ≤ (4 : Int) ∧ (4 : Int) ≤ 2147483647 from ⟨by omega, by omega⟩)⟩ (fun hc => ?_) (fun hc => ?_)
    · have c3 : (4 : Int) < kind := hc
      clear hc
      exact J.thr rfl rfl rfl rfl ⟨T, hI, hS, hE, (show ((w.2.1 + 1 : Nat) : Int) - 2 * H.1 7 4 F.2.2.1 - 13 * H.1 3 1 F.2.1 - H.1 3 3 F.2.1 ≤ ((w.2.1 : Nat) : Int) - 2 * H.1 7 4 F.2.2.1 - 13 * H.1 3 1 F.2.1 - H.1 3 3 F.2.1 + (1) by omega), (show ((w.2.2 + 6 : Nat) : Int) - 18 * H.1 7 4 F.2.2.1 - 700 * H.1 3 1 F.2.1 - 6 * H.1 3 3 F.2.1 ≤ ((w.2.2 : Nat) : Int) - 18 * H.1 7 4 F.2.2.1 - 700 * H.1 3 1 F.2.1 - 6 * H.1 3 3 F.2.1 + 10 * (1) by omega), Or.inr (Or.inl rfl)⟩
    · have c4 : ¬ ((4 : Int) < kind) := hc
      clear hc
      refine J.run0 1 rfl ?_
      try dsimp only
      refine J.ifc rfl rfl rfl (show -2147483648 ≤ a ∧ a ≤ 2147483647 from ⟨by omega, by omega⟩) (fun hc => ?_) (fun hc => ?_)
      · have c5 : a < (0 : Int) := hc
        clear hc
        exact J.thr rfl rfl rfl rfl ⟨T, hI, hS, hE, (show ((w.2.1 + 1 : Nat) : Int) - 2 * H.1 7 4 F.2.2.1 - 13 * H.1 3 1 F.2.1 - H.1 3 3 F.2.1 ≤ ((w.2.1 : Nat) : Int) - 2 * H.1 7 4 F.2.2.1 - 13 * H.1 3 1 F.2.1 - H.1 3 3 F.2.1 + (1) by omega), (show ((w.2.2 + 6 : Nat) : Int) - 18 * H.1 7 4 F.2.2.1 - 700 * H.1 3 1 F.2.1 - 6 * H.1 3 3 F.2.1 ≤ ((w.2.2 : Nat) : Int) - 18 * H.1 7 4 F.2.2.1 - 700 * H.1 3 1 F.2.1 - 6 * H.1 3 3 F.2.1 + 10 * (1) by omega), Or.inr (Or.inl rfl)⟩
      · have c6 : ¬ (a < (0 : Int)) := hc
        clear hc
        refine J.run0 2 rfl ?_
        try dsimp only
        refine J.icmp rfl rfl rfl ⟨(show -2147483648 ≤ a ∧ a ≤ 2147483647 from ⟨by omega, by omega⟩), (show -2147483648 ≤ (200 : Int) ∧ (200 : Int) ≤ 2147483647 from ⟨by omega, by omega⟩)⟩ (fun hc => ?_) (fun hc => ?_)
        · have c7 : a < (200 : Int) := hc
          clear hc
          refine J.run0 2 rfl ?_
          try dsimp only
          refine J.icmp rfl rfl rfl ⟨(show -2147483648 ≤ kind ∧ kind ≤ 2147483647 from ⟨by omega, by omega⟩), (show -2147483648 ≤ (4 : Int) ∧ (4 : Int) ≤ 2147483647 from ⟨by omega, by omega⟩)⟩ (fun hc => ?_) (fun hc => ?_)
          · have c8 : ¬ (kind = (4 : Int)) := hc
            clear hc
            refine J.run0 1 rfl ?_
            try dsimp only
            refine J.ifc rfl rfl rfl (show -2147483648 ≤ b ∧ b ≤ 2147483647 from ⟨by omega, by omega⟩) (fun hc => ?_) (fun hc => ?_)
            · have c9 : b < (0 : Int) := hc
              clear hc
              exact J.thr rfl rfl rfl rfl ⟨T, hI, hS, hE, (show ((w.2.1 + 1 : Nat) : Int) - 2 * H.1 7 4 F.2.2.1 - 13 * H.1 3 1 F.2.1 - H.1 3 3 F.2.1 ≤ ((w.2.1 : Nat) : Int) - 2 * H.1 7 4 F.2.2.1 - 13 * H.1 3 1 F.2.1 - H.1 3 3 F.2.1 + (1) by omega), (show ((w.2.2 + 6 : Nat) : Int) - 18 * H.1 7 4 F.2.2.1 - 700 * H.1 3 1 F.2.1 - 6 * H.1 3 3 F.2.1 ≤ ((w.2.2 : Nat) : Int) - 18 * H.1 7 4 F.2.2.1 - 700 * H.1 3 1 F.2.1 - 6 * H.1 3 3 F.2.1 + 10 * (1) by omega), Or.inr (Or.inl rfl)⟩
            · have c10 : ¬ (b < (0 : Int)) := hc
              clear hc
              refine J.run0 2 rfl ?_
              try dsimp only
              refine J.ifc rfl rfl rfl (show -2147483648 ≤ kind ∧ kind ≤ 2147483647 from ⟨by omega, by omega⟩) (fun hc => ?_) (fun hc => ?_)
              · have c11 : ¬ (kind = (0 : Int)) := hc
                clear hc
                refine J.run0 1 rfl ?_
                try dsimp only
                refine J.icmp rfl rfl rfl ⟨(show -2147483648 ≤ b ∧ b ≤ 2147483647 from ⟨by omega, by omega⟩), (show -2147483648 ≤ (16 : Int) ∧ (16 : Int) ≤ 2147483647 from ⟨by omega, by omega⟩)⟩ (fun hc => ?_) (fun hc => ?_)
                · have c12 : b < (16 : Int) := hc
                  clear hc
                  refine J.run0 2 rfl ?_
                  try dsimp only
                  refine J.icmp rfl rfl rfl ⟨(show -2147483648 ≤ kind ∧ kind ≤ 2147483647 from ⟨by omega, by omega⟩), (show -2147483648 ≤ (3 : Int) ∧ (3 : Int) ≤ 2147483647 from ⟨by omega, by omega⟩)⟩ (fun hc => ?_) (fun hc => ?_)
                  · have c13 : kind = (3 : Int) := hc
                    clear hc
                    refine J.run 2 rfl ⟨(hI.is hI.top.1), (hI.o 10 0 3 F.1 rfl hI.top.1).1⟩ ?_
                    try dsimp only
                    try dsimp only
                    rw [show (H.2.2.2.2 10 0 F.1) = F.2.1 from hI.one.2.1 _ (hI.o 10 0 3 F.1 rfl hI.top.1).2]
                    have f14 : 0 ≤ H.1 3 3 F.2.1 ∧ H.1 3 3 F.2.1 ≤ 1500 := hI.v 3 3 F.2.1 hI.top.2.1
                    refine J.run 2 rfl (hI.is hI.top.2.1) ?_
                    try dsimp only
                    refine J.icmp rfl rfl rfl ⟨(show -2147483648 ≤ H.1 3 3 F.2.1 ∧ H.1 3 3 F.2.1 ≤ 2147483647 from ⟨by omega, by omega⟩), (show -2147483648 ≤ (1500 : Int) ∧ (1500 : Int) ≤ 2147483647 from ⟨by omega, by omega⟩)⟩ (fun hc => ?_) (fun hc => ?_)
                    · have c15 : H.1 3 3 F.2.1 < (1500 : Int) := hc
                      clear hc
                      refine J.run0 2 rfl ?_
                      try dsimp only
                      refine J.icmp rfl rfl rfl ⟨(show -2147483648 ≤ kind ∧ kind ≤ 2147483647 from ⟨by omega, by omega⟩), (show -2147483648 ≤ (4 : Int) ∧ (4 : Int) ≤ 2147483647 from ⟨by omega, by omega⟩)⟩ (fun hc => ?_) (fun hc => ?_)
                      · have c16 : ¬ (kind = (4 : Int)) := hc
                        clear hc
                        refine J.run 2 rfl ⟨(hI.is hI.top.1), (hI.o 10 0 3 F.1 rfl hI.top.1).1⟩ ?_
                        try dsimp only
                        try dsimp only
                        rw [show (H.2.2.2.2 10 0 F.1) = F.2.1 from hI.one.2.1 _ (hI.o 10 0 3 F.1 rfl hI.top.1).2]
                        refine s_trn2 hI ⟨by omega, by omega⟩ ⟨by omega, by omega⟩ ⟨by omega, by omega⟩ (by omega) fun w18 H17 q24  hI19 ehE21 ca22 cb23  => ?_
                        have eM := ehE21
                        have g25 : H17.1 7 4 F.2.2.1 = H.1 7 4 F.2.2.1 := (ehE21.1 7 4 F.2.2.1 hI.top.2.2.1).1 (by decide)
                        have g26 : H17.1 3 1 F.2.1 = H.1 3 1 F.2.1 := (ehE21.1 3 1 F.2.1 hI.top.2.1).1 (by decide)
                        have g27 : H17.1 3 3 F.2.1 = H.1 3 3 F.2.1 := (ehE21.1 3 3 F.2.1 hI.top.2.1).1 (by decide)
                        have hE21 : cEx T [303, 40022] H17 H := cEx.trans ehE21 hE hS (by decide)
                        have hS20 : ∀ k p, T k p → (tA T 9 q24) k p := fun k p z => Or.inl (hS k p z)
                        have t28 : (tA T 9 q24) 10 F.1 := Or.inl hI.top.1
                        have t29 : (tA T 9 q24) 3 F.2.1 := Or.inl hI.top.2.1
                        have t30 : (tA T 9 q24) 9 q24 := tA.new
                        try dsimp only [Option.toList, List.append, List.cons_append, List.nil_append, Option.map]
                        refine J.inv rfl rfl rfl rfl rfl rfl ((jD_w rfl).mpr (hI19.is t29)) rfl rfl rfl rfl rfl (c_X3_addTransaction (t := q24) hI19 t30 ) ?_
                        rintro v w32 H31 ⟨T33, hI34, shS35, ehE36, hr37, hr37s, hv⟩
                        have hr37' : ((w32.2.1 : Nat) : Int) - 2 * H31.1 7 4 F.2.2.1 - 13 * H31.1 3 1 F.2.1 - H31.1 3 3 F.2.1 ≤ ((w18.2.1 : Nat) : Int) - 2 * H17.1 7 4 F.2.2.1 - 13 * H17.1 3 1 F.2.1 - H17.1 3 3 F.2.1 + (0) := hr37
                        have hr37s' : ((w32.2.2 : Nat) : Int) - 18 * H31.1 7 4 F.2.2.1 - 700 * H31.1 3 1 F.2.1 - 6 * H31.1 3 3 F.2.1 ≤ ((w18.2.2 : Nat) : Int) - 18 * H17.1 7 4 F.2.2.1 - 700 * H17.1 3 1 F.2.1 - 6 * H17.1 3 3 F.2.1 + 10 * (0) := hr37s
                        have hE36 : cEx T [303, 40022] H31 H := cEx.trans ehE36 hE21 hS20 (by decide)
                        have hS35 : ∀ k p, T k p → T33 k p := fun k p z => shS35 k p (hS20 k p z)
                        have g38 : H31.1 7 4 F.2.2.1 = H17.1 7 4 F.2.2.1 := (ehE36.1 7 4 F.2.2.1 hI19.top.2.2.1).1 (by decide)
                        have g39 : H31.1 3 1 F.2.1 = H17.1 3 1 F.2.1 := (ehE36.1 3 1 F.2.1 hI19.top.2.1).1 (by decide)
                        have t40 : T33 10 F.1 := shS35 _ _ t28
                        obtain ⟨x41, rfl, r42⟩ := hv
                        have rL_X3_addTransaction := r42
                        have rL_X3_addTransaction_198 := r42
                        try dsimp only [Option.toList, List.append, List.cons_append, List.nil_append]
                        exact J.reti rfl rfl rfl ⟨T33, hI34, hS35, hE36, (show ((w32.2.1 : Nat) : Int) - 2 * H31.1 7 4 F.2.2.1 - 13 * H31.1 3 1 F.2.1 - H31.1 3 3 F.2.1 ≤ ((w.2.1 : Nat) : Int) - 2 * H.1 7 4 F.2.2.1 - 13 * H.1 3 1 F.2.1 - H.1 3 3 F.2.1 + (1) by omega), (show ((w32.2.2 : Nat) : Int) - 18 * H31.1 7 4 F.2.2.1 - 700 * H31.1 3 1 F.2.1 - 6 * H31.1 3 3 F.2.1 ≤ ((w.2.2 : Nat) : Int) - 18 * H.1 7 4 F.2.2.1 - 700 * H.1 3 1 F.2.1 - 6 * H.1 3 3 F.2.1 + 10 * (1) by omega), Or.inl ⟨_, rfl, _, rfl, trivial⟩⟩
                      · have c43 : ¬ (¬ (kind = (4 : Int))) := hc
                        clear hc
                        refine J.run 2 rfl ⟨(hI.is hI.top.1), (hI.o 10 0 3 F.1 rfl hI.top.1).1⟩ ?_
                        try dsimp only
                        try dsimp only
                        rw [show (H.2.2.2.2 10 0 F.1) = F.2.1 from hI.one.2.1 _ (hI.o 10 0 3 F.1 rfl hI.top.1).2]
                        refine J.run 3 rfl ⟨(hI.is hI.top.1), (hI.o 10 1 7 F.1 rfl hI.top.1).1⟩ ?_
                        try dsimp only
                        try dsimp only
                        rw [show (H.2.2.2.2 10 1 F.1) = F.2.2.1 from hI.one.2.2.1 _ (hI.o 10 1 7 F.1 rfl hI.top.1).2]
                        refine J.run0 1 rfl ?_
                        try dsimp only
                        refine J.inv rfl rfl rfl rfl rfl rfl ((jD_w rfl).mpr (hI.is hI.top.2.2.1)) rfl rfl rfl rfl rfl (c_X7_get (m0 := b) hI  (show -2147483648 ≤ b ∧ b ≤ 2147483647 from ⟨by omega, by omega⟩)) ?_
                        rintro v w H ⟨rfl, rfl, hv⟩
                        rcases hv with ⟨rfl, r46⟩ | ⟨q44, rfl, t45, r46⟩
                        · have r46' : (0 ≤ b → b < H.1 7 4 F.2.2.1 → H.2.2.2.1 28 F.2.2.1 (b) = none) := r46
                          first | (exfalso; omega) | exact absurd (r46' (by omega) (by omega)) (by rw [rL_X7_get_40.2.2]; exact (nomatch ·))
                        · have r46' : (0 ≤ b ∧ b < H.1 7 4 F.2.2.1 ∧ H.2.2.2.1 28 F.2.2.1 (b) = some q44) := r46
                          have rL_X7_get_164 := r46
                          try dsimp only [Option.toList, List.append, List.cons_append, List.nil_append]
                          have f47 : 0 ≤ H.1 5 0 q44 ∧ H.1 5 0 q44 ≤ 5999 := hI.v 5 0 q44 t45
                          refine J.run 2 rfl ⟨(hI.is hI.top.1), (hI.o 10 1 7 F.1 rfl hI.top.1).1⟩ ?_
                          try dsimp only
                          try dsimp only
                          rw [show (H.2.2.2.2 10 1 F.1) = F.2.2.1 from hI.one.2.2.1 _ (hI.o 10 1 7 F.1 rfl hI.top.1).2]
                          refine J.run0 1 rfl ?_
                          try dsimp only
                          refine J.inv rfl rfl rfl rfl rfl rfl ((jD_w rfl).mpr (hI.is hI.top.2.2.1)) rfl rfl rfl rfl rfl (c_X7_get (m0 := vv) hI  (show -2147483648 ≤ vv ∧ vv ≤ 2147483647 from ⟨by omega, by omega⟩)) ?_
                          rintro v w H ⟨rfl, rfl, hv⟩
                          rcases hv with ⟨rfl, r50⟩ | ⟨q48, rfl, t49, r50⟩
                          · have r50' : (0 ≤ vv → vv < H.1 7 4 F.2.2.1 → H.2.2.2.1 28 F.2.2.1 (vv) = none) := r50
                            first | (exfalso; omega) | exact absurd (r50' (by omega) (by omega)) (by rw [rL_X7_get_52.2.2]; exact (nomatch ·))
                          · have r50' : (0 ≤ vv ∧ vv < H.1 7 4 F.2.2.1 ∧ H.2.2.2.1 28 F.2.2.1 (vv) = some q48) := r50
                            have rL_X7_get_173 := r50
                            try dsimp only [Option.toList, List.append, List.cons_append, List.nil_append]
                            have f51 : 0 ≤ H.1 5 0 q48 ∧ H.1 5 0 q48 ≤ 5999 := hI.v 5 0 q48 t49
                            refine J.inv rfl rfl rfl rfl rfl rfl ((jD_w rfl).mpr (hI.is hI.top.2.1)) rfl rfl rfl rfl rfl (c_X3_addProof (account := a) (one := q44) (two := q48) hI t45 t49 (show 0 ≤ a ∧ a ≤ 199 from ⟨by omega, by omega⟩)) ?_
                            rintro v w53 H52 ⟨T54, hI55, shS56, ehE57, hr58, hr58s, hv⟩
                            have hr58' : ((w53.2.1 : Nat) : Int) - 2 * H52.1 7 4 F.2.2.1 - 13 * H52.1 3 1 F.2.1 - H52.1 3 3 F.2.1 ≤ ((w.2.1 : Nat) : Int) - 2 * H.1 7 4 F.2.2.1 - 13 * H.1 3 1 F.2.1 - H.1 3 3 F.2.1 + (1) := hr58
                            have hr58s' : ((w53.2.2 : Nat) : Int) - 18 * H52.1 7 4 F.2.2.1 - 700 * H52.1 3 1 F.2.1 - 6 * H52.1 3 3 F.2.1 ≤ ((w.2.2 : Nat) : Int) - 18 * H.1 7 4 F.2.2.1 - 700 * H.1 3 1 F.2.1 - 6 * H.1 3 3 F.2.1 + 10 * (1) := hr58s
                            have hE57 : cEx T [303, 40022] H52 H := cEx.trans ehE57 hE hS (by decide)
                            have hS56 : ∀ k p, T k p → T54 k p := fun k p z => shS56 k p (hS k p z)
                            have g59 : H52.1 7 4 F.2.2.1 = H.1 7 4 F.2.2.1 := (ehE57.1 7 4 F.2.2.1 hI.top.2.2.1).1 (by decide)
                            have g60 : H52.1 3 1 F.2.1 = H.1 3 1 F.2.1 := (ehE57.1 3 1 F.2.1 hI.top.2.1).1 (by decide)
                            have t61 : T54 10 F.1 := shS56 _ _ hI.top.1
                            obtain ⟨x62, rfl, r63⟩ := hv
                            have rL_X3_addProof := r63
                            have rL_X3_addProof_176 := r63
                            try dsimp only [Option.toList, List.append, List.cons_append, List.nil_append]
                            exact J.reti rfl rfl rfl ⟨T54, hI55, hS56, hE57, (show ((w53.2.1 : Nat) : Int) - 2 * H52.1 7 4 F.2.2.1 - 13 * H52.1 3 1 F.2.1 - H52.1 3 3 F.2.1 ≤ ((w.2.1 : Nat) : Int) - 2 * H.1 7 4 F.2.2.1 - 13 * H.1 3 1 F.2.1 - H.1 3 3 F.2.1 + (1) by omega), (show ((w53.2.2 : Nat) : Int) - 18 * H52.1 7 4 F.2.2.1 - 700 * H52.1 3 1 F.2.1 - 6 * H52.1 3 3 F.2.1 ≤ ((w.2.2 : Nat) : Int) - 18 * H.1 7 4 F.2.2.1 - 700 * H.1 3 1 F.2.1 - 6 * H.1 3 3 F.2.1 + 10 * (1) by omega), Or.inl ⟨_, rfl, _, rfl, trivial⟩⟩
                    · have c64 : ¬ (H.1 3 3 F.2.1 < (1500 : Int)) := hc
                      clear hc
                      exact J.thr rfl rfl rfl rfl ⟨T, hI, hS, hE, (show ((w.2.1 + 1 : Nat) : Int) - 2 * H.1 7 4 F.2.2.1 - 13 * H.1 3 1 F.2.1 - H.1 3 3 F.2.1 ≤ ((w.2.1 : Nat) : Int) - 2 * H.1 7 4 F.2.2.1 - 13 * H.1 3 1 F.2.1 - H.1 3 3 F.2.1 + (1) by omega), (show ((w.2.2 + 6 : Nat) : Int) - 18 * H.1 7 4 F.2.2.1 - 700 * H.1 3 1 F.2.1 - 6 * H.1 3 3 F.2.1 ≤ ((w.2.2 : Nat) : Int) - 18 * H.1 7 4 F.2.2.1 - 700 * H.1 3 1 F.2.1 - 6 * H.1 3 3 F.2.1 + 10 * (1) by omega), Or.inr (Or.inr (rfl))⟩
                  · have c65 : ¬ (kind = (3 : Int)) := hc
                    clear hc
                    refine J.run0 2 rfl ?_
                    try dsimp only
                    refine J.icmp rfl rfl rfl ⟨(show -2147483648 ≤ vv ∧ vv ≤ 2147483647 from ⟨by omega, by omega⟩), (show -2147483648 ≤ (1 : Int) ∧ (1 : Int) ≤ 2147483647 from ⟨by omega, by omega⟩)⟩ (fun hc => ?_) (fun hc => ?_)
                    · have c66 : vv < (1 : Int) := hc
                      clear hc
                      exact J.thr rfl rfl rfl rfl ⟨T, hI, hS, hE, (show ((w.2.1 + 1 : Nat) : Int) - 2 * H.1 7 4 F.2.2.1 - 13 * H.1 3 1 F.2.1 - H.1 3 3 F.2.1 ≤ ((w.2.1 : Nat) : Int) - 2 * H.1 7 4 F.2.2.1 - 13 * H.1 3 1 F.2.1 - H.1 3 3 F.2.1 + (1) by omega), (show ((w.2.2 + 6 : Nat) : Int) - 18 * H.1 7 4 F.2.2.1 - 700 * H.1 3 1 F.2.1 - 6 * H.1 3 3 F.2.1 ≤ ((w.2.2 : Nat) : Int) - 18 * H.1 7 4 F.2.2.1 - 700 * H.1 3 1 F.2.1 - 6 * H.1 3 3 F.2.1 + 10 * (1) by omega), Or.inr (Or.inl rfl)⟩
                    · have c67 : ¬ (vv < (1 : Int)) := hc
                      clear hc
                      refine J.run0 2 rfl ?_
                      try dsimp only
                      refine J.icmp rfl rfl rfl ⟨(show -2147483648 ≤ vv ∧ vv ≤ 2147483647 from ⟨by omega, by omega⟩), (show -2147483648 ≤ (1000000 : Int) ∧ (1000000 : Int) ≤ 2147483647 from ⟨by omega, by omega⟩)⟩ (fun hc => ?_) (fun hc => ?_)
                      · have c68 : vv ≤ (1000000 : Int) := hc
                        clear hc
                        refine J.run 2 rfl ⟨(hI.is hI.top.1), (hI.o 10 0 3 F.1 rfl hI.top.1).1⟩ ?_
                        try dsimp only
                        try dsimp only
                        rw [show (H.2.2.2.2 10 0 F.1) = F.2.1 from hI.one.2.1 _ (hI.o 10 0 3 F.1 rfl hI.top.1).2]
                        have f69 : 0 ≤ H.1 3 3 F.2.1 ∧ H.1 3 3 F.2.1 ≤ 1500 := hI.v 3 3 F.2.1 hI.top.2.1
                        refine J.run 2 rfl (hI.is hI.top.2.1) ?_
                        try dsimp only
                        refine J.icmp rfl rfl rfl ⟨(show -2147483648 ≤ H.1 3 3 F.2.1 ∧ H.1 3 3 F.2.1 ≤ 2147483647 from ⟨by omega, by omega⟩), (show -2147483648 ≤ (1500 : Int) ∧ (1500 : Int) ≤ 2147483647 from ⟨by omega, by omega⟩)⟩ (fun hc => ?_) (fun hc => ?_)
                        · have c70 : H.1 3 3 F.2.1 < (1500 : Int) := hc
                          clear hc
                          refine J.run0 2 rfl ?_
                          try dsimp only
                          refine J.icmp rfl rfl rfl ⟨(show -2147483648 ≤ kind ∧ kind ≤ 2147483647 from ⟨by omega, by omega⟩), (show -2147483648 ≤ (4 : Int) ∧ (4 : Int) ≤ 2147483647 from ⟨by omega, by omega⟩)⟩ (fun hc => ?_) (fun hc => ?_)
                          · have c71 : ¬ (kind = (4 : Int)) := hc
                            clear hc
                            refine J.run 2 rfl ⟨(hI.is hI.top.1), (hI.o 10 0 3 F.1 rfl hI.top.1).1⟩ ?_
                            try dsimp only
                            try dsimp only
                            rw [show (H.2.2.2.2 10 0 F.1) = F.2.1 from hI.one.2.1 _ (hI.o 10 0 3 F.1 rfl hI.top.1).2]
                            refine s_trn2 hI ⟨by omega, by omega⟩ ⟨by omega, by omega⟩ ⟨by omega, by omega⟩ (by omega) fun w73 H72 q79  hI74 ehE76 ca77 cb78  => ?_
                            have eM := ehE76
                            have g80 : H72.1 7 4 F.2.2.1 = H.1 7 4 F.2.2.1 := (ehE76.1 7 4 F.2.2.1 hI.top.2.2.1).1 (by decide)
                            have g81 : H72.1 3 1 F.2.1 = H.1 3 1 F.2.1 := (ehE76.1 3 1 F.2.1 hI.top.2.1).1 (by decide)
                            have g82 : H72.1 3 3 F.2.1 = H.1 3 3 F.2.1 := (ehE76.1 3 3 F.2.1 hI.top.2.1).1 (by decide)
                            have hE76 : cEx T [303, 40022] H72 H := cEx.trans ehE76 hE hS (by decide)
                            have hS75 : ∀ k p, T k p → (tA T 9 q79) k p := fun k p z => Or.inl (hS k p z)
                            have t83 : (tA T 9 q79) 10 F.1 := Or.inl hI.top.1
                            have t84 : (tA T 9 q79) 3 F.2.1 := Or.inl hI.top.2.1
                            have t85 : (tA T 9 q79) 9 q79 := tA.new
                            try dsimp only [Option.toList, List.append, List.cons_append, List.nil_append, Option.map]
                            refine J.inv rfl rfl rfl rfl rfl rfl ((jD_w rfl).mpr (hI74.is t84)) rfl rfl rfl rfl rfl (c_X3_addTransaction (t := q79) hI74 t85 ) ?_
                            rintro v w87 H86 ⟨T88, hI89, shS90, ehE91, hr92, hr92s, hv⟩
                            have hr92' : ((w87.2.1 : Nat) : Int) - 2 * H86.1 7 4 F.2.2.1 - 13 * H86.1 3 1 F.2.1 - H86.1 3 3 F.2.1 ≤ ((w73.2.1 : Nat) : Int) - 2 * H72.1 7 4 F.2.2.1 - 13 * H72.1 3 1 F.2.1 - H72.1 3 3 F.2.1 + (0) := hr92
                            have hr92s' : ((w87.2.2 : Nat) : Int) - 18 * H86.1 7 4 F.2.2.1 - 700 * H86.1 3 1 F.2.1 - 6 * H86.1 3 3 F.2.1 ≤ ((w73.2.2 : Nat) : Int) - 18 * H72.1 7 4 F.2.2.1 - 700 * H72.1 3 1 F.2.1 - 6 * H72.1 3 3 F.2.1 + 10 * (0) := hr92s
                            have hE91 : cEx T [303, 40022] H86 H := cEx.trans ehE91 hE76 hS75 (by decide)
                            have hS90 : ∀ k p, T k p → T88 k p := fun k p z => shS90 k p (hS75 k p z)
                            have g93 : H86.1 7 4 F.2.2.1 = H72.1 7 4 F.2.2.1 := (ehE91.1 7 4 F.2.2.1 hI74.top.2.2.1).1 (by decide)
                            have g94 : H86.1 3 1 F.2.1 = H72.1 3 1 F.2.1 := (ehE91.1 3 1 F.2.1 hI74.top.2.1).1 (by decide)
                            have t95 : T88 10 F.1 := shS90 _ _ t83
                            obtain ⟨x96, rfl, r97⟩ := hv
                            have rL_X3_addTransaction := r97
                            have rL_X3_addTransaction_198 := r97
                            try dsimp only [Option.toList, List.append, List.cons_append, List.nil_append]
                            exact J.reti rfl rfl rfl ⟨T88, hI89, hS90, hE91, (show ((w87.2.1 : Nat) : Int) - 2 * H86.1 7 4 F.2.2.1 - 13 * H86.1 3 1 F.2.1 - H86.1 3 3 F.2.1 ≤ ((w.2.1 : Nat) : Int) - 2 * H.1 7 4 F.2.2.1 - 13 * H.1 3 1 F.2.1 - H.1 3 3 F.2.1 + (1) by omega), (show ((w87.2.2 : Nat) : Int) - 18 * H86.1 7 4 F.2.2.1 - 700 * H86.1 3 1 F.2.1 - 6 * H86.1 3 3 F.2.1 ≤ ((w.2.2 : Nat) : Int) - 18 * H.1 7 4 F.2.2.1 - 700 * H.1 3 1 F.2.1 - 6 * H.1 3 3 F.2.1 + 10 * (1) by omega), Or.inl ⟨_, rfl, _, rfl, trivial⟩⟩
                          · have c98 : ¬ (¬ (kind = (4 : Int))) := hc
                            clear hc
                            refine J.run 2 rfl ⟨(hI.is hI.top.1), (hI.o 10 0 3 F.1 rfl hI.top.1).1⟩ ?_
                            try dsimp only
                            try dsimp only
                            rw [show (H.2.2.2.2 10 0 F.1) = F.2.1 from hI.one.2.1 _ (hI.o 10 0 3 F.1 rfl hI.top.1).2]
                            refine J.run 3 rfl ⟨(hI.is hI.top.1), (hI.o 10 1 7 F.1 rfl hI.top.1).1⟩ ?_
                            try dsimp only
                            try dsimp only
                            rw [show (H.2.2.2.2 10 1 F.1) = F.2.2.1 from hI.one.2.2.1 _ (hI.o 10 1 7 F.1 rfl hI.top.1).2]
                            refine J.run0 1 rfl ?_
                            try dsimp only
                            refine J.inv rfl rfl rfl rfl rfl rfl ((jD_w rfl).mpr (hI.is hI.top.2.2.1)) rfl rfl rfl rfl rfl (c_X7_get (m0 := b) hI  (show -2147483648 ≤ b ∧ b ≤ 2147483647 from ⟨by omega, by omega⟩)) ?_
                            rintro v w H ⟨rfl, rfl, hv⟩
                            rcases hv with ⟨rfl, r101⟩ | ⟨q99, rfl, t100, r101⟩
                            · have r101' : (0 ≤ b → b < H.1 7 4 F.2.2.1 → H.2.2.2.1 28 F.2.2.1 (b) = none) := r101
                              first | (exfalso; omega) | exact absurd (r101' (by omega) (by omega)) (by rw [rL_X7_get_40.2.2]; exact (nomatch ·))
                            · have r101' : (0 ≤ b ∧ b < H.1 7 4 F.2.2.1 ∧ H.2.2.2.1 28 F.2.2.1 (b) = some q99) := r101
                              have rL_X7_get_164 := r101
                              try dsimp only [Option.toList, List.append, List.cons_append, List.nil_append]
                              have f102 : 0 ≤ H.1 5 0 q99 ∧ H.1 5 0 q99 ≤ 5999 := hI.v 5 0 q99 t100
                              refine J.run 2 rfl ⟨(hI.is hI.top.1), (hI.o 10 1 7 F.1 rfl hI.top.1).1⟩ ?_
                              try dsimp only
                              try dsimp only
                              rw [show (H.2.2.2.2 10 1 F.1) = F.2.2.1 from hI.one.2.2.1 _ (hI.o 10 1 7 F.1 rfl hI.top.1).2]
                              refine J.run0 1 rfl ?_
                              try dsimp only
                              refine J.inv rfl rfl rfl rfl rfl rfl ((jD_w rfl).mpr (hI.is hI.top.2.2.1)) rfl rfl rfl rfl rfl (c_X7_get (m0 := vv) hI  (show -2147483648 ≤ vv ∧ vv ≤ 2147483647 from ⟨by omega, by omega⟩)) ?_
                              rintro v w H ⟨rfl, rfl, hv⟩
                              rcases hv with ⟨rfl, r105⟩ | ⟨q103, rfl, t104, r105⟩
                              · have r105' : (0 ≤ vv → vv < H.1 7 4 F.2.2.1 → H.2.2.2.1 28 F.2.2.1 (vv) = none) := r105
                                first | (exfalso; omega) | exact absurd (r105' (by omega) (by omega)) (by rw [rL_X7_get_52.2.2]; exact (nomatch ·))
                              · have r105' : (0 ≤ vv ∧ vv < H.1 7 4 F.2.2.1 ∧ H.2.2.2.1 28 F.2.2.1 (vv) = some q103) := r105
                                have rL_X7_get_173 := r105
                                try dsimp only [Option.toList, List.append, List.cons_append, List.nil_append]
                                have f106 : 0 ≤ H.1 5 0 q103 ∧ H.1 5 0 q103 ≤ 5999 := hI.v 5 0 q103 t104
                                refine J.inv rfl rfl rfl rfl rfl rfl ((jD_w rfl).mpr (hI.is hI.top.2.1)) rfl rfl rfl rfl rfl (c_X3_addProof (account := a) (one := q99) (two := q103) hI t100 t104 (show 0 ≤ a ∧ a ≤ 199 from ⟨by omega, by omega⟩)) ?_
                                rintro v w108 H107 ⟨T109, hI110, shS111, ehE112, hr113, hr113s, hv⟩
                                have hr113' : ((w108.2.1 : Nat) : Int) - 2 * H107.1 7 4 F.2.2.1 - 13 * H107.1 3 1 F.2.1 - H107.1 3 3 F.2.1 ≤ ((w.2.1 : Nat) : Int) - 2 * H.1 7 4 F.2.2.1 - 13 * H.1 3 1 F.2.1 - H.1 3 3 F.2.1 + (1) := hr113
                                have hr113s' : ((w108.2.2 : Nat) : Int) - 18 * H107.1 7 4 F.2.2.1 - 700 * H107.1 3 1 F.2.1 - 6 * H107.1 3 3 F.2.1 ≤ ((w.2.2 : Nat) : Int) - 18 * H.1 7 4 F.2.2.1 - 700 * H.1 3 1 F.2.1 - 6 * H.1 3 3 F.2.1 + 10 * (1) := hr113s
                                have hE112 : cEx T [303, 40022] H107 H := cEx.trans ehE112 hE hS (by decide)
                                have hS111 : ∀ k p, T k p → T109 k p := fun k p z => shS111 k p (hS k p z)
                                have g114 : H107.1 7 4 F.2.2.1 = H.1 7 4 F.2.2.1 := (ehE112.1 7 4 F.2.2.1 hI.top.2.2.1).1 (by decide)
                                have g115 : H107.1 3 1 F.2.1 = H.1 3 1 F.2.1 := (ehE112.1 3 1 F.2.1 hI.top.2.1).1 (by decide)
                                have t116 : T109 10 F.1 := shS111 _ _ hI.top.1
                                obtain ⟨x117, rfl, r118⟩ := hv
                                have rL_X3_addProof := r118
                                have rL_X3_addProof_176 := r118
                                try dsimp only [Option.toList, List.append, List.cons_append, List.nil_append]
                                exact J.reti rfl rfl rfl ⟨T109, hI110, hS111, hE112, (show ((w108.2.1 : Nat) : Int) - 2 * H107.1 7 4 F.2.2.1 - 13 * H107.1 3 1 F.2.1 - H107.1 3 3 F.2.1 ≤ ((w.2.1 : Nat) : Int) - 2 * H.1 7 4 F.2.2.1 - 13 * H.1 3 1 F.2.1 - H.1 3 3 F.2.1 + (1) by omega), (show ((w108.2.2 : Nat) : Int) - 18 * H107.1 7 4 F.2.2.1 - 700 * H107.1 3 1 F.2.1 - 6 * H107.1 3 3 F.2.1 ≤ ((w.2.2 : Nat) : Int) - 18 * H.1 7 4 F.2.2.1 - 700 * H.1 3 1 F.2.1 - 6 * H.1 3 3 F.2.1 + 10 * (1) by omega), Or.inl ⟨_, rfl, _, rfl, trivial⟩⟩
                        · have c119 : ¬ (H.1 3 3 F.2.1 < (1500 : Int)) := hc
                          clear hc
                          exact J.thr rfl rfl rfl rfl ⟨T, hI, hS, hE, (show ((w.2.1 + 1 : Nat) : Int) - 2 * H.1 7 4 F.2.2.1 - 13 * H.1 3 1 F.2.1 - H.1 3 3 F.2.1 ≤ ((w.2.1 : Nat) : Int) - 2 * H.1 7 4 F.2.2.1 - 13 * H.1 3 1 F.2.1 - H.1 3 3 F.2.1 + (1) by omega), (show ((w.2.2 + 6 : Nat) : Int) - 18 * H.1 7 4 F.2.2.1 - 700 * H.1 3 1 F.2.1 - 6 * H.1 3 3 F.2.1 ≤ ((w.2.2 : Nat) : Int) - 18 * H.1 7 4 F.2.2.1 - 700 * H.1 3 1 F.2.1 - 6 * H.1 3 3 F.2.1 + 10 * (1) by omega), Or.inr (Or.inr (rfl))⟩
                      · have c120 : ¬ (vv ≤ (1000000 : Int)) := hc
                        clear hc
                        exact J.thr rfl rfl rfl rfl ⟨T, hI, hS, hE, (show ((w.2.1 + 1 : Nat) : Int) - 2 * H.1 7 4 F.2.2.1 - 13 * H.1 3 1 F.2.1 - H.1 3 3 F.2.1 ≤ ((w.2.1 : Nat) : Int) - 2 * H.1 7 4 F.2.2.1 - 13 * H.1 3 1 F.2.1 - H.1 3 3 F.2.1 + (1) by omega), (show ((w.2.2 + 6 : Nat) : Int) - 18 * H.1 7 4 F.2.2.1 - 700 * H.1 3 1 F.2.1 - 6 * H.1 3 3 F.2.1 ≤ ((w.2.2 : Nat) : Int) - 18 * H.1 7 4 F.2.2.1 - 700 * H.1 3 1 F.2.1 - 6 * H.1 3 3 F.2.1 + 10 * (1) by omega), Or.inr (Or.inl rfl)⟩
                · have c121 : ¬ (b < (16 : Int)) := hc
                  clear hc
                  exact J.thr rfl rfl rfl rfl ⟨T, hI, hS, hE, (show ((w.2.1 + 1 : Nat) : Int) - 2 * H.1 7 4 F.2.2.1 - 13 * H.1 3 1 F.2.1 - H.1 3 3 F.2.1 ≤ ((w.2.1 : Nat) : Int) - 2 * H.1 7 4 F.2.2.1 - 13 * H.1 3 1 F.2.1 - H.1 3 3 F.2.1 + (1) by omega), (show ((w.2.2 + 6 : Nat) : Int) - 18 * H.1 7 4 F.2.2.1 - 700 * H.1 3 1 F.2.1 - 6 * H.1 3 3 F.2.1 ≤ ((w.2.2 : Nat) : Int) - 18 * H.1 7 4 F.2.2.1 - 700 * H.1 3 1 F.2.1 - 6 * H.1 3 3 F.2.1 + 10 * (1) by omega), Or.inr (Or.inl rfl)⟩
              · have c122 : ¬ (¬ (kind = (0 : Int))) := hc
                clear hc
                refine J.run0 2 rfl ?_
                try dsimp only
                refine J.icmp rfl rfl rfl ⟨(show -2147483648 ≤ b ∧ b ≤ 2147483647 from ⟨by omega, by omega⟩), (show -2147483648 ≤ (200 : Int) ∧ (200 : Int) ≤ 2147483647 from ⟨by omega, by omega⟩)⟩ (fun hc => ?_) (fun hc => ?_)
                · have c123 : b < (200 : Int) := hc
                  clear hc
                  refine J.run0 2 rfl ?_
                  try dsimp only
                  refine J.icmp rfl rfl rfl ⟨(show -2147483648 ≤ kind ∧ kind ≤ 2147483647 from ⟨by omega, by omega⟩), (show -2147483648 ≤ (3 : Int) ∧ (3 : Int) ≤ 2147483647 from ⟨by omega, by omega⟩)⟩ (fun hc => ?_) (fun hc => ?_)
                  · have c124 : kind = (3 : Int) := hc
                    clear hc
                    refine J.run 2 rfl ⟨(hI.is hI.top.1), (hI.o 10 0 3 F.1 rfl hI.top.1).1⟩ ?_
                    try dsimp only
                    try dsimp only
                    rw [show (H.2.2.2.2 10 0 F.1) = F.2.1 from hI.one.2.1 _ (hI.o 10 0 3 F.1 rfl hI.top.1).2]
                    have f125 : 0 ≤ H.1 3 3 F.2.1 ∧ H.1 3 3 F.2.1 ≤ 1500 := hI.v 3 3 F.2.1 hI.top.2.1
                    refine J.run 2 rfl (hI.is hI.top.2.1) ?_
                    try dsimp only
                    refine J.icmp rfl rfl rfl ⟨(show -2147483648 ≤ H.1 3 3 F.2.1 ∧ H.1 3 3 F.2.1 ≤ 2147483647 from ⟨by omega, by omega⟩), (show -2147483648 ≤ (1500 : Int) ∧ (1500 : Int) ≤ 2147483647 from ⟨by omega, by omega⟩)⟩ (fun hc => ?_) (fun hc => ?_)
                    · have c126 : H.1 3 3 F.2.1 < (1500 : Int) := hc
                      clear hc
                      refine J.run0 2 rfl ?_
                      try dsimp only
                      refine J.icmp rfl rfl rfl ⟨(show -2147483648 ≤ kind ∧ kind ≤ 2147483647 from ⟨by omega, by omega⟩), (show -2147483648 ≤ (4 : Int) ∧ (4 : Int) ≤ 2147483647 from ⟨by omega, by omega⟩)⟩ (fun hc => ?_) (fun hc => ?_)
                      · have c127 : ¬ (kind = (4 : Int)) := hc
                        clear hc
                        refine J.run 2 rfl ⟨(hI.is hI.top.1), (hI.o 10 0 3 F.1 rfl hI.top.1).1⟩ ?_
                        try dsimp only
                        try dsimp only
                        rw [show (H.2.2.2.2 10 0 F.1) = F.2.1 from hI.one.2.1 _ (hI.o 10 0 3 F.1 rfl hI.top.1).2]
                        refine s_trn2 hI ⟨by omega, by omega⟩ ⟨by omega, by omega⟩ ⟨by omega, by omega⟩ (by omega) fun w129 H128 q135  hI130 ehE132 ca133 cb134  => ?_
                        have eM := ehE132
                        have g136 : H128.1 7 4 F.2.2.1 = H.1 7 4 F.2.2.1 := (ehE132.1 7 4 F.2.2.1 hI.top.2.2.1).1 (by decide)
                        have g137 : H128.1 3 1 F.2.1 = H.1 3 1 F.2.1 := (ehE132.1 3 1 F.2.1 hI.top.2.1).1 (by decide)
                        have g138 : H128.1 3 3 F.2.1 = H.1 3 3 F.2.1 := (ehE132.1 3 3 F.2.1 hI.top.2.1).1 (by decide)
                        have hE132 : cEx T [303, 40022] H128 H := cEx.trans ehE132 hE hS (by decide)
                        have hS131 : ∀ k p, T k p → (tA T 9 q135) k p := fun k p z => Or.inl (hS k p z)
                        have t139 : (tA T 9 q135) 10 F.1 := Or.inl hI.top.1
                        have t140 : (tA T 9 q135) 3 F.2.1 := Or.inl hI.top.2.1
                        have t141 : (tA T 9 q135) 9 q135 := tA.new
                        try dsimp only [Option.toList, List.append, List.cons_append, List.nil_append, Option.map]
                        refine J.inv rfl rfl rfl rfl rfl rfl ((jD_w rfl).mpr (hI130.is t140)) rfl rfl rfl rfl rfl (c_X3_addTransaction (t := q135) hI130 t141 ) ?_
                        rintro v w143 H142 ⟨T144, hI145, shS146, ehE147, hr148, hr148s, hv⟩
                        have hr148' : ((w143.2.1 : Nat) : Int) - 2 * H142.1 7 4 F.2.2.1 - 13 * H142.1 3 1 F.2.1 - H142.1 3 3 F.2.1 ≤ ((w129.2.1 : Nat) : Int) - 2 * H128.1 7 4 F.2.2.1 - 13 * H128.1 3 1 F.2.1 - H128.1 3 3 F.2.1 + (0) := hr148
                        have hr148s' : ((w143.2.2 : Nat) : Int) - 18 * H142.1 7 4 F.2.2.1 - 700 * H142.1 3 1 F.2.1 - 6 * H142.1 3 3 F.2.1 ≤ ((w129.2.2 : Nat) : Int) - 18 * H128.1 7 4 F.2.2.1 - 700 * H128.1 3 1 F.2.1 - 6 * H128.1 3 3 F.2.1 + 10 * (0) := hr148s
                        have hE147 : cEx T [303, 40022] H142 H := cEx.trans ehE147 hE132 hS131 (by decide)
                        have hS146 : ∀ k p, T k p → T144 k p := fun k p z => shS146 k p (hS131 k p z)
                        have g149 : H142.1 7 4 F.2.2.1 = H128.1 7 4 F.2.2.1 := (ehE147.1 7 4 F.2.2.1 hI130.top.2.2.1).1 (by decide)
                        have g150 : H142.1 3 1 F.2.1 = H128.1 3 1 F.2.1 := (ehE147.1 3 1 F.2.1 hI130.top.2.1).1 (by decide)
                        have t151 : T144 10 F.1 := shS146 _ _ t139
                        obtain ⟨x152, rfl, r153⟩ := hv
                        have rL_X3_addTransaction := r153
                        have rL_X3_addTransaction_198 := r153
                        try dsimp only [Option.toList, List.append, List.cons_append, List.nil_append]
                        exact J.reti rfl rfl rfl ⟨T144, hI145, hS146, hE147, (show ((w143.2.1 : Nat) : Int) - 2 * H142.1 7 4 F.2.2.1 - 13 * H142.1 3 1 F.2.1 - H142.1 3 3 F.2.1 ≤ ((w.2.1 : Nat) : Int) - 2 * H.1 7 4 F.2.2.1 - 13 * H.1 3 1 F.2.1 - H.1 3 3 F.2.1 + (1) by omega), (show ((w143.2.2 : Nat) : Int) - 18 * H142.1 7 4 F.2.2.1 - 700 * H142.1 3 1 F.2.1 - 6 * H142.1 3 3 F.2.1 ≤ ((w.2.2 : Nat) : Int) - 18 * H.1 7 4 F.2.2.1 - 700 * H.1 3 1 F.2.1 - 6 * H.1 3 3 F.2.1 + 10 * (1) by omega), Or.inl ⟨_, rfl, _, rfl, trivial⟩⟩
                      · have c154 : ¬ (¬ (kind = (4 : Int))) := hc
                        clear hc
                        refine J.run 2 rfl ⟨(hI.is hI.top.1), (hI.o 10 0 3 F.1 rfl hI.top.1).1⟩ ?_
                        try dsimp only
                        try dsimp only
                        rw [show (H.2.2.2.2 10 0 F.1) = F.2.1 from hI.one.2.1 _ (hI.o 10 0 3 F.1 rfl hI.top.1).2]
                        refine J.run 3 rfl ⟨(hI.is hI.top.1), (hI.o 10 1 7 F.1 rfl hI.top.1).1⟩ ?_
                        try dsimp only
                        try dsimp only
                        rw [show (H.2.2.2.2 10 1 F.1) = F.2.2.1 from hI.one.2.2.1 _ (hI.o 10 1 7 F.1 rfl hI.top.1).2]
                        refine J.run0 1 rfl ?_
                        try dsimp only
                        refine J.inv rfl rfl rfl rfl rfl rfl ((jD_w rfl).mpr (hI.is hI.top.2.2.1)) rfl rfl rfl rfl rfl (c_X7_get (m0 := b) hI  (show -2147483648 ≤ b ∧ b ≤ 2147483647 from ⟨by omega, by omega⟩)) ?_
                        rintro v w H ⟨rfl, rfl, hv⟩
                        rcases hv with ⟨rfl, r157⟩ | ⟨q155, rfl, t156, r157⟩
                        · have r157' : (0 ≤ b → b < H.1 7 4 F.2.2.1 → H.2.2.2.1 28 F.2.2.1 (b) = none) := r157
                          first | (exfalso; omega) | exact absurd (r157' (by omega) (by omega)) (by rw [rL_X7_get_40.2.2]; exact (nomatch ·))
                        · have r157' : (0 ≤ b ∧ b < H.1 7 4 F.2.2.1 ∧ H.2.2.2.1 28 F.2.2.1 (b) = some q155) := r157
                          have rL_X7_get_164 := r157
                          try dsimp only [Option.toList, List.append, List.cons_append, List.nil_append]
                          have f158 : 0 ≤ H.1 5 0 q155 ∧ H.1 5 0 q155 ≤ 5999 := hI.v 5 0 q155 t156
                          refine J.run 2 rfl ⟨(hI.is hI.top.1), (hI.o 10 1 7 F.1 rfl hI.top.1).1⟩ ?_
                          try dsimp only
                          try dsimp only
                          rw [show (H.2.2.2.2 10 1 F.1) = F.2.2.1 from hI.one.2.2.1 _ (hI.o 10 1 7 F.1 rfl hI.top.1).2]
                          refine J.run0 1 rfl ?_
                          try dsimp only
                          refine J.inv rfl rfl rfl rfl rfl rfl ((jD_w rfl).mpr (hI.is hI.top.2.2.1)) rfl rfl rfl rfl rfl (c_X7_get (m0 := vv) hI  (show -2147483648 ≤ vv ∧ vv ≤ 2147483647 from ⟨by omega, by omega⟩)) ?_
                          rintro v w H ⟨rfl, rfl, hv⟩
                          rcases hv with ⟨rfl, r161⟩ | ⟨q159, rfl, t160, r161⟩
                          · have r161' : (0 ≤ vv → vv < H.1 7 4 F.2.2.1 → H.2.2.2.1 28 F.2.2.1 (vv) = none) := r161
                            first | (exfalso; omega) | exact absurd (r161' (by omega) (by omega)) (by rw [rL_X7_get_52.2.2]; exact (nomatch ·))
                          · have r161' : (0 ≤ vv ∧ vv < H.1 7 4 F.2.2.1 ∧ H.2.2.2.1 28 F.2.2.1 (vv) = some q159) := r161
                            have rL_X7_get_173 := r161
                            try dsimp only [Option.toList, List.append, List.cons_append, List.nil_append]
                            have f162 : 0 ≤ H.1 5 0 q159 ∧ H.1 5 0 q159 ≤ 5999 := hI.v 5 0 q159 t160
                            refine J.inv rfl rfl rfl rfl rfl rfl ((jD_w rfl).mpr (hI.is hI.top.2.1)) rfl rfl rfl rfl rfl (c_X3_addProof (account := a) (one := q155) (two := q159) hI t156 t160 (show 0 ≤ a ∧ a ≤ 199 from ⟨by omega, by omega⟩)) ?_
                            rintro v w164 H163 ⟨T165, hI166, shS167, ehE168, hr169, hr169s, hv⟩
                            have hr169' : ((w164.2.1 : Nat) : Int) - 2 * H163.1 7 4 F.2.2.1 - 13 * H163.1 3 1 F.2.1 - H163.1 3 3 F.2.1 ≤ ((w.2.1 : Nat) : Int) - 2 * H.1 7 4 F.2.2.1 - 13 * H.1 3 1 F.2.1 - H.1 3 3 F.2.1 + (1) := hr169
                            have hr169s' : ((w164.2.2 : Nat) : Int) - 18 * H163.1 7 4 F.2.2.1 - 700 * H163.1 3 1 F.2.1 - 6 * H163.1 3 3 F.2.1 ≤ ((w.2.2 : Nat) : Int) - 18 * H.1 7 4 F.2.2.1 - 700 * H.1 3 1 F.2.1 - 6 * H.1 3 3 F.2.1 + 10 * (1) := hr169s
                            have hE168 : cEx T [303, 40022] H163 H := cEx.trans ehE168 hE hS (by decide)
                            have hS167 : ∀ k p, T k p → T165 k p := fun k p z => shS167 k p (hS k p z)
                            have g170 : H163.1 7 4 F.2.2.1 = H.1 7 4 F.2.2.1 := (ehE168.1 7 4 F.2.2.1 hI.top.2.2.1).1 (by decide)
                            have g171 : H163.1 3 1 F.2.1 = H.1 3 1 F.2.1 := (ehE168.1 3 1 F.2.1 hI.top.2.1).1 (by decide)
                            have t172 : T165 10 F.1 := shS167 _ _ hI.top.1
                            obtain ⟨x173, rfl, r174⟩ := hv
                            have rL_X3_addProof := r174
                            have rL_X3_addProof_176 := r174
                            try dsimp only [Option.toList, List.append, List.cons_append, List.nil_append]
                            exact J.reti rfl rfl rfl ⟨T165, hI166, hS167, hE168, (show ((w164.2.1 : Nat) : Int) - 2 * H163.1 7 4 F.2.2.1 - 13 * H163.1 3 1 F.2.1 - H163.1 3 3 F.2.1 ≤ ((w.2.1 : Nat) : Int) - 2 * H.1 7 4 F.2.2.1 - 13 * H.1 3 1 F.2.1 - H.1 3 3 F.2.1 + (1) by omega), (show ((w164.2.2 : Nat) : Int) - 18 * H163.1 7 4 F.2.2.1 - 700 * H163.1 3 1 F.2.1 - 6 * H163.1 3 3 F.2.1 ≤ ((w.2.2 : Nat) : Int) - 18 * H.1 7 4 F.2.2.1 - 700 * H.1 3 1 F.2.1 - 6 * H.1 3 3 F.2.1 + 10 * (1) by omega), Or.inl ⟨_, rfl, _, rfl, trivial⟩⟩
                    · have c175 : ¬ (H.1 3 3 F.2.1 < (1500 : Int)) := hc
                      clear hc
                      exact J.thr rfl rfl rfl rfl ⟨T, hI, hS, hE, (show ((w.2.1 + 1 : Nat) : Int) - 2 * H.1 7 4 F.2.2.1 - 13 * H.1 3 1 F.2.1 - H.1 3 3 F.2.1 ≤ ((w.2.1 : Nat) : Int) - 2 * H.1 7 4 F.2.2.1 - 13 * H.1 3 1 F.2.1 - H.1 3 3 F.2.1 + (1) by omega), (show ((w.2.2 + 6 : Nat) : Int) - 18 * H.1 7 4 F.2.2.1 - 700 * H.1 3 1 F.2.1 - 6 * H.1 3 3 F.2.1 ≤ ((w.2.2 : Nat) : Int) - 18 * H.1 7 4 F.2.2.1 - 700 * H.1 3 1 F.2.1 - 6 * H.1 3 3 F.2.1 + 10 * (1) by omega), Or.inr (Or.inr (rfl))⟩
                  · have c176 : ¬ (kind = (3 : Int)) := hc
                    clear hc
                    refine J.run0 2 rfl ?_
                    try dsimp only
                    refine J.icmp rfl rfl rfl ⟨(show -2147483648 ≤ vv ∧ vv ≤ 2147483647 from ⟨by omega, by omega⟩), (show -2147483648 ≤ (1 : Int) ∧ (1 : Int) ≤ 2147483647 from ⟨by omega, by omega⟩)⟩ (fun hc => ?_) (fun hc => ?_)
                    · have c177 : vv < (1 : Int) := hc
                      clear hc
                      exact J.thr rfl rfl rfl rfl ⟨T, hI, hS, hE, (show ((w.2.1 + 1 : Nat) : Int) - 2 * H.1 7 4 F.2.2.1 - 13 * H.1 3 1 F.2.1 - H.1 3 3 F.2.1 ≤ ((w.2.1 : Nat) : Int) - 2 * H.1 7 4 F.2.2.1 - 13 * H.1 3 1 F.2.1 - H.1 3 3 F.2.1 + (1) by omega), (show ((w.2.2 + 6 : Nat) : Int) - 18 * H.1 7 4 F.2.2.1 - 700 * H.1 3 1 F.2.1 - 6 * H.1 3 3 F.2.1 ≤ ((w.2.2 : Nat) : Int) - 18 * H.1 7 4 F.2.2.1 - 700 * H.1 3 1 F.2.1 - 6 * H.1 3 3 F.2.1 + 10 * (1) by omega), Or.inr (Or.inl rfl)⟩
                    · have c178 : ¬ (vv < (1 : Int)) := hc
                      clear hc
                      refine J.run0 2 rfl ?_
                      try dsimp only
                      refine J.icmp rfl rfl rfl ⟨(show -2147483648 ≤ vv ∧ vv ≤ 2147483647 from ⟨by omega, by omega⟩), (show -2147483648 ≤ (1000000 : Int) ∧ (1000000 : Int) ≤ 2147483647 from ⟨by omega, by omega⟩)⟩ (fun hc => ?_) (fun hc => ?_)
                      · have c179 : vv ≤ (1000000 : Int) := hc
                        clear hc
                        refine J.run 2 rfl ⟨(hI.is hI.top.1), (hI.o 10 0 3 F.1 rfl hI.top.1).1⟩ ?_
                        try dsimp only
                        try dsimp only
                        rw [show (H.2.2.2.2 10 0 F.1) = F.2.1 from hI.one.2.1 _ (hI.o 10 0 3 F.1 rfl hI.top.1).2]
                        have f180 : 0 ≤ H.1 3 3 F.2.1 ∧ H.1 3 3 F.2.1 ≤ 1500 := hI.v 3 3 F.2.1 hI.top.2.1
                        refine J.run 2 rfl (hI.is hI.top.2.1) ?_
                        try dsimp only
                        refine J.icmp rfl rfl rfl ⟨(show -2147483648 ≤ H.1 3 3 F.2.1 ∧ H.1 3 3 F.2.1 ≤ 2147483647 from ⟨by omega, by omega⟩), (show -2147483648 ≤ (1500 : Int) ∧ (1500 : Int) ≤ 2147483647 from ⟨by omega, by omega⟩)⟩ (fun hc => ?_) (fun hc => ?_)
                        · have c181 : H.1 3 3 F.2.1 < (1500 : Int) := hc
                          clear hc
                          refine J.run0 2 rfl ?_
                          try dsimp only
                          refine J.icmp rfl rfl rfl ⟨(show -2147483648 ≤ kind ∧ kind ≤ 2147483647 from ⟨by omega, by omega⟩), (show -2147483648 ≤ (4 : Int) ∧ (4 : Int) ≤ 2147483647 from ⟨by omega, by omega⟩)⟩ (fun hc => ?_) (fun hc => ?_)
                          · have c182 : ¬ (kind = (4 : Int)) := hc
                            clear hc
                            refine J.run 2 rfl ⟨(hI.is hI.top.1), (hI.o 10 0 3 F.1 rfl hI.top.1).1⟩ ?_
                            try dsimp only
                            try dsimp only
                            rw [show (H.2.2.2.2 10 0 F.1) = F.2.1 from hI.one.2.1 _ (hI.o 10 0 3 F.1 rfl hI.top.1).2]
                            refine s_trn2 hI ⟨by omega, by omega⟩ ⟨by omega, by omega⟩ ⟨by omega, by omega⟩ (by omega) fun w184 H183 q190  hI185 ehE187 ca188 cb189  => ?_
                            have eM := ehE187
                            have g191 : H183.1 7 4 F.2.2.1 = H.1 7 4 F.2.2.1 := (ehE187.1 7 4 F.2.2.1 hI.top.2.2.1).1 (by decide)
                            have g192 : H183.1 3 1 F.2.1 = H.1 3 1 F.2.1 := (ehE187.1 3 1 F.2.1 hI.top.2.1).1 (by decide)
                            have g193 : H183.1 3 3 F.2.1 = H.1 3 3 F.2.1 := (ehE187.1 3 3 F.2.1 hI.top.2.1).1 (by decide)
                            have hE187 : cEx T [303, 40022] H183 H := cEx.trans ehE187 hE hS (by decide)
                            have hS186 : ∀ k p, T k p → (tA T 9 q190) k p := fun k p z => Or.inl (hS k p z)
                            have t194 : (tA T 9 q190) 10 F.1 := Or.inl hI.top.1
                            have t195 : (tA T 9 q190) 3 F.2.1 := Or.inl hI.top.2.1
                            have t196 : (tA T 9 q190) 9 q190 := tA.new
                            try dsimp only [Option.toList, List.append, List.cons_append, List.nil_append, Option.map]
                            refine J.inv rfl rfl rfl rfl rfl rfl ((jD_w rfl).mpr (hI185.is t195)) rfl rfl rfl rfl rfl (c_X3_addTransaction (t := q190) hI185 t196 ) ?_
                            rintro v w198 H197 ⟨T199, hI200, shS201, ehE202, hr203, hr203s, hv⟩
                            have hr203' : ((w198.2.1 : Nat) : Int) - 2 * H197.1 7 4 F.2.2.1 - 13 * H197.1 3 1 F.2.1 - H197.1 3 3 F.2.1 ≤ ((w184.2.1 : Nat) : Int) - 2 * H183.1 7 4 F.2.2.1 - 13 * H183.1 3 1 F.2.1 - H183.1 3 3 F.2.1 + (0) := hr203
                            have hr203s' : ((w198.2.2 : Nat) : Int) - 18 * H197.1 7 4 F.2.2.1 - 700 * H197.1 3 1 F.2.1 - 6 * H197.1 3 3 F.2.1 ≤ ((w184.2.2 : Nat) : Int) - 18 * H183.1 7 4 F.2.2.1 - 700 * H183.1 3 1 F.2.1 - 6 * H183.1 3 3 F.2.1 + 10 * (0) := hr203s
                            have hE202 : cEx T [303, 40022] H197 H := cEx.trans ehE202 hE187 hS186 (by decide)
                            have hS201 : ∀ k p, T k p → T199 k p := fun k p z => shS201 k p (hS186 k p z)
                            have g204 : H197.1 7 4 F.2.2.1 = H183.1 7 4 F.2.2.1 := (ehE202.1 7 4 F.2.2.1 hI185.top.2.2.1).1 (by decide)
                            have g205 : H197.1 3 1 F.2.1 = H183.1 3 1 F.2.1 := (ehE202.1 3 1 F.2.1 hI185.top.2.1).1 (by decide)
                            have t206 : T199 10 F.1 := shS201 _ _ t194
                            obtain ⟨x207, rfl, r208⟩ := hv
                            have rL_X3_addTransaction := r208
                            have rL_X3_addTransaction_198 := r208
                            try dsimp only [Option.toList, List.append, List.cons_append, List.nil_append]
                            exact J.reti rfl rfl rfl ⟨T199, hI200, hS201, hE202, (show ((w198.2.1 : Nat) : Int) - 2 * H197.1 7 4 F.2.2.1 - 13 * H197.1 3 1 F.2.1 - H197.1 3 3 F.2.1 ≤ ((w.2.1 : Nat) : Int) - 2 * H.1 7 4 F.2.2.1 - 13 * H.1 3 1 F.2.1 - H.1 3 3 F.2.1 + (1) by omega), (show ((w198.2.2 : Nat) : Int) - 18 * H197.1 7 4 F.2.2.1 - 700 * H197.1 3 1 F.2.1 - 6 * H197.1 3 3 F.2.1 ≤ ((w.2.2 : Nat) : Int) - 18 * H.1 7 4 F.2.2.1 - 700 * H.1 3 1 F.2.1 - 6 * H.1 3 3 F.2.1 + 10 * (1) by omega), Or.inl ⟨_, rfl, _, rfl, trivial⟩⟩
                          · have c209 : ¬ (¬ (kind = (4 : Int))) := hc
                            clear hc
                            refine J.run 2 rfl ⟨(hI.is hI.top.1), (hI.o 10 0 3 F.1 rfl hI.top.1).1⟩ ?_
                            try dsimp only
                            try dsimp only
                            rw [show (H.2.2.2.2 10 0 F.1) = F.2.1 from hI.one.2.1 _ (hI.o 10 0 3 F.1 rfl hI.top.1).2]
                            refine J.run 3 rfl ⟨(hI.is hI.top.1), (hI.o 10 1 7 F.1 rfl hI.top.1).1⟩ ?_
                            try dsimp only
                            try dsimp only
                            rw [show (H.2.2.2.2 10 1 F.1) = F.2.2.1 from hI.one.2.2.1 _ (hI.o 10 1 7 F.1 rfl hI.top.1).2]
                            refine J.run0 1 rfl ?_
                            try dsimp only
                            refine J.inv rfl rfl rfl rfl rfl rfl ((jD_w rfl).mpr (hI.is hI.top.2.2.1)) rfl rfl rfl rfl rfl (c_X7_get (m0 := b) hI  (show -2147483648 ≤ b ∧ b ≤ 2147483647 from ⟨by omega, by omega⟩)) ?_
                            rintro v w H ⟨rfl, rfl, hv⟩
                            rcases hv with ⟨rfl, r212⟩ | ⟨q210, rfl, t211, r212⟩
                            · have r212' : (0 ≤ b → b < H.1 7 4 F.2.2.1 → H.2.2.2.1 28 F.2.2.1 (b) = none) := r212
                              first | (exfalso; omega) | exact absurd (r212' (by omega) (by omega)) (by rw [rL_X7_get_40.2.2]; exact (nomatch ·))
                            · have r212' : (0 ≤ b ∧ b < H.1 7 4 F.2.2.1 ∧ H.2.2.2.1 28 F.2.2.1 (b) = some q210) := r212
                              have rL_X7_get_164 := r212
                              try dsimp only [Option.toList, List.append, List.cons_append, List.nil_append]
                              have f213 : 0 ≤ H.1 5 0 q210 ∧ H.1 5 0 q210 ≤ 5999 := hI.v 5 0 q210 t211
                              refine J.run 2 rfl ⟨(hI.is hI.top.1), (hI.o 10 1 7 F.1 rfl hI.top.1).1⟩ ?_
                              try dsimp only
                              try dsimp only
                              rw [show (H.2.2.2.2 10 1 F.1) = F.2.2.1 from hI.one.2.2.1 _ (hI.o 10 1 7 F.1 rfl hI.top.1).2]
                              refine J.run0 1 rfl ?_
                              try dsimp only
                              refine J.inv rfl rfl rfl rfl rfl rfl ((jD_w rfl).mpr (hI.is hI.top.2.2.1)) rfl rfl rfl rfl rfl (c_X7_get (m0 := vv) hI  (show -2147483648 ≤ vv ∧ vv ≤ 2147483647 from ⟨by omega, by omega⟩)) ?_
                              rintro v w H ⟨rfl, rfl, hv⟩
                              rcases hv with ⟨rfl, r216⟩ | ⟨q214, rfl, t215, r216⟩
                              · have r216' : (0 ≤ vv → vv < H.1 7 4 F.2.2.1 → H.2.2.2.1 28 F.2.2.1 (vv) = none) := r216
                                first | (exfalso; omega) | exact absurd (r216' (by omega) (by omega)) (by rw [rL_X7_get_52.2.2]; exact (nomatch ·))
                              · have r216' : (0 ≤ vv ∧ vv < H.1 7 4 F.2.2.1 ∧ H.2.2.2.1 28 F.2.2.1 (vv) = some q214) := r216
                                have rL_X7_get_173 := r216
                                try dsimp only [Option.toList, List.append, List.cons_append, List.nil_append]
                                have f217 : 0 ≤ H.1 5 0 q214 ∧ H.1 5 0 q214 ≤ 5999 := hI.v 5 0 q214 t215
                                refine J.inv rfl rfl rfl rfl rfl rfl ((jD_w rfl).mpr (hI.is hI.top.2.1)) rfl rfl rfl rfl rfl (c_X3_addProof (account := a) (one := q210) (two := q214) hI t211 t215 (show 0 ≤ a ∧ a ≤ 199 from ⟨by omega, by omega⟩)) ?_
                                rintro v w219 H218 ⟨T220, hI221, shS222, ehE223, hr224, hr224s, hv⟩
                                have hr224' : ((w219.2.1 : Nat) : Int) - 2 * H218.1 7 4 F.2.2.1 - 13 * H218.1 3 1 F.2.1 - H218.1 3 3 F.2.1 ≤ ((w.2.1 : Nat) : Int) - 2 * H.1 7 4 F.2.2.1 - 13 * H.1 3 1 F.2.1 - H.1 3 3 F.2.1 + (1) := hr224
                                have hr224s' : ((w219.2.2 : Nat) : Int) - 18 * H218.1 7 4 F.2.2.1 - 700 * H218.1 3 1 F.2.1 - 6 * H218.1 3 3 F.2.1 ≤ ((w.2.2 : Nat) : Int) - 18 * H.1 7 4 F.2.2.1 - 700 * H.1 3 1 F.2.1 - 6 * H.1 3 3 F.2.1 + 10 * (1) := hr224s
                                have hE223 : cEx T [303, 40022] H218 H := cEx.trans ehE223 hE hS (by decide)
                                have hS222 : ∀ k p, T k p → T220 k p := fun k p z => shS222 k p (hS k p z)
                                have g225 : H218.1 7 4 F.2.2.1 = H.1 7 4 F.2.2.1 := (ehE223.1 7 4 F.2.2.1 hI.top.2.2.1).1 (by decide)
                                have g226 : H218.1 3 1 F.2.1 = H.1 3 1 F.2.1 := (ehE223.1 3 1 F.2.1 hI.top.2.1).1 (by decide)
                                have t227 : T220 10 F.1 := shS222 _ _ hI.top.1
                                obtain ⟨x228, rfl, r229⟩ := hv
                                have rL_X3_addProof := r229
                                have rL_X3_addProof_176 := r229
                                try dsimp only [Option.toList, List.append, List.cons_append, List.nil_append]
                                exact J.reti rfl rfl rfl ⟨T220, hI221, hS222, hE223, (show ((w219.2.1 : Nat) : Int) - 2 * H218.1 7 4 F.2.2.1 - 13 * H218.1 3 1 F.2.1 - H218.1 3 3 F.2.1 ≤ ((w.2.1 : Nat) : Int) - 2 * H.1 7 4 F.2.2.1 - 13 * H.1 3 1 F.2.1 - H.1 3 3 F.2.1 + (1) by omega), (show ((w219.2.2 : Nat) : Int) - 18 * H218.1 7 4 F.2.2.1 - 700 * H218.1 3 1 F.2.1 - 6 * H218.1 3 3 F.2.1 ≤ ((w.2.2 : Nat) : Int) - 18 * H.1 7 4 F.2.2.1 - 700 * H.1 3 1 F.2.1 - 6 * H.1 3 3 F.2.1 + 10 * (1) by omega), Or.inl ⟨_, rfl, _, rfl, trivial⟩⟩
                        · have c230 : ¬ (H.1 3 3 F.2.1 < (1500 : Int)) := hc
                          clear hc
                          exact J.thr rfl rfl rfl rfl ⟨T, hI, hS, hE, (show ((w.2.1 + 1 : Nat) : Int) - 2 * H.1 7 4 F.2.2.1 - 13 * H.1 3 1 F.2.1 - H.1 3 3 F.2.1 ≤ ((w.2.1 : Nat) : Int) - 2 * H.1 7 4 F.2.2.1 - 13 * H.1 3 1 F.2.1 - H.1 3 3 F.2.1 + (1) by omega), (show ((w.2.2 + 6 : Nat) : Int) - 18 * H.1 7 4 F.2.2.1 - 700 * H.1 3 1 F.2.1 - 6 * H.1 3 3 F.2.1 ≤ ((w.2.2 : Nat) : Int) - 18 * H.1 7 4 F.2.2.1 - 700 * H.1 3 1 F.2.1 - 6 * H.1 3 3 F.2.1 + 10 * (1) by omega), Or.inr (Or.inr (rfl))⟩
                      · have c231 : ¬ (vv ≤ (1000000 : Int)) := hc
                        clear hc
                        exact J.thr rfl rfl rfl rfl ⟨T, hI, hS, hE, (show ((w.2.1 + 1 : Nat) : Int) - 2 * H.1 7 4 F.2.2.1 - 13 * H.1 3 1 F.2.1 - H.1 3 3 F.2.1 ≤ ((w.2.1 : Nat) : Int) - 2 * H.1 7 4 F.2.2.1 - 13 * H.1 3 1 F.2.1 - H.1 3 3 F.2.1 + (1) by omega), (show ((w.2.2 + 6 : Nat) : Int) - 18 * H.1 7 4 F.2.2.1 - 700 * H.1 3 1 F.2.1 - 6 * H.1 3 3 F.2.1 ≤ ((w.2.2 : Nat) : Int) - 18 * H.1 7 4 F.2.2.1 - 700 * H.1 3 1 F.2.1 - 6 * H.1 3 3 F.2.1 + 10 * (1) by omega), Or.inr (Or.inl rfl)⟩
                · have c232 : ¬ (b < (200 : Int)) := hc
                  clear hc
                  exact J.thr rfl rfl rfl rfl ⟨T, hI, hS, hE, (show ((w.2.1 + 1 : Nat) : Int) - 2 * H.1 7 4 F.2.2.1 - 13 * H.1 3 1 F.2.1 - H.1 3 3 F.2.1 ≤ ((w.2.1 : Nat) : Int) - 2 * H.1 7 4 F.2.2.1 - 13 * H.1 3 1 F.2.1 - H.1 3 3 F.2.1 + (1) by omega), (show ((w.2.2 + 6 : Nat) : Int) - 18 * H.1 7 4 F.2.2.1 - 700 * H.1 3 1 F.2.1 - 6 * H.1 3 3 F.2.1 ≤ ((w.2.2 : Nat) : Int) - 18 * H.1 7 4 F.2.2.1 - 700 * H.1 3 1 F.2.1 - 6 * H.1 3 3 F.2.1 + 10 * (1) by omega), Or.inr (Or.inl rfl)⟩
          · have c233 : ¬ (¬ (kind = (4 : Int))) := hc
            clear hc
            refine J.run 2 rfl ⟨(hI.is hI.top.1), (hI.o 10 1 7 F.1 rfl hI.top.1).1⟩ ?_
            try dsimp only
            try dsimp only
            rw [show (H.2.2.2.2 10 1 F.1) = F.2.2.1 from hI.one.2.2.1 _ (hI.o 10 1 7 F.1 rfl hI.top.1).2]
            refine J.run0 1 rfl ?_
            try dsimp only
            refine J.inv rfl rfl rfl rfl rfl rfl ((jD_w rfl).mpr (hI.is hI.top.2.2.1)) rfl rfl rfl rfl rfl (c_X7_get (m0 := b) hI  (show -2147483648 ≤ b ∧ b ≤ 2147483647 from ⟨by omega, by omega⟩)) ?_
            rintro v w H ⟨rfl, rfl, hv⟩
            rcases hv with ⟨rfl, r236⟩ | ⟨q234, rfl, t235, r236⟩
            · have r236' : (0 ≤ b → b < H.1 7 4 F.2.2.1 → H.2.2.2.1 28 F.2.2.1 (b) = none) := r236
              try dsimp only [Option.toList, List.append, List.cons_append, List.nil_append]
              refine J.run0 1 rfl ?_
              try dsimp only
              exact J.thr rfl rfl rfl rfl ⟨T, hI, hS, hE, (show ((w.2.1 + 1 : Nat) : Int) - 2 * H.1 7 4 F.2.2.1 - 13 * H.1 3 1 F.2.1 - H.1 3 3 F.2.1 ≤ ((w.2.1 : Nat) : Int) - 2 * H.1 7 4 F.2.2.1 - 13 * H.1 3 1 F.2.1 - H.1 3 3 F.2.1 + (1) by omega), (show ((w.2.2 + 6 : Nat) : Int) - 18 * H.1 7 4 F.2.2.1 - 700 * H.1 3 1 F.2.1 - 6 * H.1 3 3 F.2.1 ≤ ((w.2.2 : Nat) : Int) - 18 * H.1 7 4 F.2.2.1 - 700 * H.1 3 1 F.2.1 - 6 * H.1 3 3 F.2.1 + 10 * (1) by omega), Or.inr (Or.inl rfl)⟩
            · have r236' : (0 ≤ b ∧ b < H.1 7 4 F.2.2.1 ∧ H.2.2.2.1 28 F.2.2.1 (b) = some q234) := r236
              have rL_X7_get_40 := r236
              try dsimp only [Option.toList, List.append, List.cons_append, List.nil_append]
              have f237 : 0 ≤ H.1 5 0 q234 ∧ H.1 5 0 q234 ≤ 5999 := hI.v 5 0 q234 t235
              refine J.run 3 rfl ⟨(hI.is hI.top.1), (hI.o 10 1 7 F.1 rfl hI.top.1).1⟩ ?_
              try dsimp only
              try dsimp only
              rw [show (H.2.2.2.2 10 1 F.1) = F.2.2.1 from hI.one.2.2.1 _ (hI.o 10 1 7 F.1 rfl hI.top.1).2]
              refine J.run0 1 rfl ?_
              try dsimp only
              refine J.inv rfl rfl rfl rfl rfl rfl ((jD_w rfl).mpr (hI.is hI.top.2.2.1)) rfl rfl rfl rfl rfl (c_X7_get (m0 := vv) hI  (show -2147483648 ≤ vv ∧ vv ≤ 2147483647 from ⟨by omega, by omega⟩)) ?_
              rintro v w H ⟨rfl, rfl, hv⟩
              rcases hv with ⟨rfl, r240⟩ | ⟨q238, rfl, t239, r240⟩
              · have r240' : (0 ≤ vv → vv < H.1 7 4 F.2.2.1 → H.2.2.2.1 28 F.2.2.1 (vv) = none) := r240
                try dsimp only [Option.toList, List.append, List.cons_append, List.nil_append]
                refine J.run0 1 rfl ?_
                try dsimp only
                exact J.thr rfl rfl rfl rfl ⟨T, hI, hS, hE, (show ((w.2.1 + 1 : Nat) : Int) - 2 * H.1 7 4 F.2.2.1 - 13 * H.1 3 1 F.2.1 - H.1 3 3 F.2.1 ≤ ((w.2.1 : Nat) : Int) - 2 * H.1 7 4 F.2.2.1 - 13 * H.1 3 1 F.2.1 - H.1 3 3 F.2.1 + (1) by omega), (show ((w.2.2 + 6 : Nat) : Int) - 18 * H.1 7 4 F.2.2.1 - 700 * H.1 3 1 F.2.1 - 6 * H.1 3 3 F.2.1 ≤ ((w.2.2 : Nat) : Int) - 18 * H.1 7 4 F.2.2.1 - 700 * H.1 3 1 F.2.1 - 6 * H.1 3 3 F.2.1 + 10 * (1) by omega), Or.inr (Or.inl rfl)⟩
              · have r240' : (0 ≤ vv ∧ vv < H.1 7 4 F.2.2.1 ∧ H.2.2.2.1 28 F.2.2.1 (vv) = some q238) := r240
                have rL_X7_get_52 := r240
                try dsimp only [Option.toList, List.append, List.cons_append, List.nil_append]
                have f241 : 0 ≤ H.1 5 0 q238 ∧ H.1 5 0 q238 ≤ 5999 := hI.v 5 0 q238 t239
                refine J.run 3 rfl ⟨(hI.is hI.top.1), (hI.o 10 0 3 F.1 rfl hI.top.1).1⟩ ?_
                try dsimp only
                try dsimp only
                rw [show (H.2.2.2.2 10 0 F.1) = F.2.1 from hI.one.2.1 _ (hI.o 10 0 3 F.1 rfl hI.top.1).2]
                have f242 : 0 ≤ H.1 3 3 F.2.1 ∧ H.1 3 3 F.2.1 ≤ 1500 := hI.v 3 3 F.2.1 hI.top.2.1
                refine J.run 2 rfl (hI.is hI.top.2.1) ?_
                try dsimp only
                refine J.icmp rfl rfl rfl ⟨(show -2147483648 ≤ H.1 3 3 F.2.1 ∧ H.1 3 3 F.2.1 ≤ 2147483647 from ⟨by omega, by omega⟩), (show -2147483648 ≤ (1500 : Int) ∧ (1500 : Int) ≤ 2147483647 from ⟨by omega, by omega⟩)⟩ (fun hc => ?_) (fun hc => ?_)
                · have c243 : H.1 3 3 F.2.1 < (1500 : Int) := hc
                  clear hc
                  refine J.run0 2 rfl ?_
                  try dsimp only
                  refine J.icmp rfl rfl rfl ⟨(show -2147483648 ≤ kind ∧ kind ≤ 2147483647 from ⟨by omega, by omega⟩), (show -2147483648 ≤ (4 : Int) ∧ (4 : Int) ≤ 2147483647 from ⟨by omega, by omega⟩)⟩ (fun hc => ?_) (fun hc => ?_)
                  · have c244 : ¬ (kind = (4 : Int)) := hc
                    clear hc
                    refine J.run 2 rfl ⟨(hI.is hI.top.1), (hI.o 10 0 3 F.1 rfl hI.top.1).1⟩ ?_
                    try dsimp only
                    try dsimp only
                    rw [show (H.2.2.2.2 10 0 F.1) = F.2.1 from hI.one.2.1 _ (hI.o 10 0 3 F.1 rfl hI.top.1).2]
                    refine s_trn2 hI ⟨by omega, by omega⟩ ⟨by omega, by omega⟩ ⟨by omega, by omega⟩ (by omega) fun w246 H245 q252  hI247 ehE249 ca250 cb251  => ?_
                    have eM := ehE249
                    have g253 : H245.1 7 4 F.2.2.1 = H.1 7 4 F.2.2.1 := (ehE249.1 7 4 F.2.2.1 hI.top.2.2.1).1 (by decide)
                    have g254 : H245.1 3 1 F.2.1 = H.1 3 1 F.2.1 := (ehE249.1 3 1 F.2.1 hI.top.2.1).1 (by decide)
                    have g255 : H245.1 3 3 F.2.1 = H.1 3 3 F.2.1 := (ehE249.1 3 3 F.2.1 hI.top.2.1).1 (by decide)
                    have hE249 : cEx T [303, 40022] H245 H := cEx.trans ehE249 hE hS (by decide)
                    have hS248 : ∀ k p, T k p → (tA T 9 q252) k p := fun k p z => Or.inl (hS k p z)
                    have t256 : (tA T 9 q252) 10 F.1 := Or.inl hI.top.1
                    have t257 : (tA T 9 q252) 3 F.2.1 := Or.inl hI.top.2.1
                    have t258 : (tA T 9 q252) 9 q252 := tA.new
                    try dsimp only [Option.toList, List.append, List.cons_append, List.nil_append, Option.map]
                    refine J.inv rfl rfl rfl rfl rfl rfl ((jD_w rfl).mpr (hI247.is t257)) rfl rfl rfl rfl rfl (c_X3_addTransaction (t := q252) hI247 t258 ) ?_
                    rintro v w260 H259 ⟨T261, hI262, shS263, ehE264, hr265, hr265s, hv⟩
                    have hr265' : ((w260.2.1 : Nat) : Int) - 2 * H259.1 7 4 F.2.2.1 - 13 * H259.1 3 1 F.2.1 - H259.1 3 3 F.2.1 ≤ ((w246.2.1 : Nat) : Int) - 2 * H245.1 7 4 F.2.2.1 - 13 * H245.1 3 1 F.2.1 - H245.1 3 3 F.2.1 + (0) := hr265
                    have hr265s' : ((w260.2.2 : Nat) : Int) - 18 * H259.1 7 4 F.2.2.1 - 700 * H259.1 3 1 F.2.1 - 6 * H259.1 3 3 F.2.1 ≤ ((w246.2.2 : Nat) : Int) - 18 * H245.1 7 4 F.2.2.1 - 700 * H245.1 3 1 F.2.1 - 6 * H245.1 3 3 F.2.1 + 10 * (0) := hr265s
                    have hE264 : cEx T [303, 40022] H259 H := cEx.trans ehE264 hE249 hS248 (by decide)
                    have hS263 : ∀ k p, T k p → T261 k p := fun k p z => shS263 k p (hS248 k p z)
                    have g266 : H259.1 7 4 F.2.2.1 = H245.1 7 4 F.2.2.1 := (ehE264.1 7 4 F.2.2.1 hI247.top.2.2.1).1 (by decide)
                    have g267 : H259.1 3 1 F.2.1 = H245.1 3 1 F.2.1 := (ehE264.1 3 1 F.2.1 hI247.top.2.1).1 (by decide)
                    have t268 : T261 10 F.1 := shS263 _ _ t256
                    obtain ⟨x269, rfl, r270⟩ := hv
                    have rL_X3_addTransaction := r270
                    have rL_X3_addTransaction_198 := r270
                    try dsimp only [Option.toList, List.append, List.cons_append, List.nil_append]
                    exact J.reti rfl rfl rfl ⟨T261, hI262, hS263, hE264, (show ((w260.2.1 : Nat) : Int) - 2 * H259.1 7 4 F.2.2.1 - 13 * H259.1 3 1 F.2.1 - H259.1 3 3 F.2.1 ≤ ((w.2.1 : Nat) : Int) - 2 * H.1 7 4 F.2.2.1 - 13 * H.1 3 1 F.2.1 - H.1 3 3 F.2.1 + (1) by omega), (show ((w260.2.2 : Nat) : Int) - 18 * H259.1 7 4 F.2.2.1 - 700 * H259.1 3 1 F.2.1 - 6 * H259.1 3 3 F.2.1 ≤ ((w.2.2 : Nat) : Int) - 18 * H.1 7 4 F.2.2.1 - 700 * H.1 3 1 F.2.1 - 6 * H.1 3 3 F.2.1 + 10 * (1) by omega), Or.inl ⟨_, rfl, _, rfl, trivial⟩⟩
                  · have c271 : ¬ (¬ (kind = (4 : Int))) := hc
                    clear hc
                    refine J.run 2 rfl ⟨(hI.is hI.top.1), (hI.o 10 0 3 F.1 rfl hI.top.1).1⟩ ?_
                    try dsimp only
                    try dsimp only
                    rw [show (H.2.2.2.2 10 0 F.1) = F.2.1 from hI.one.2.1 _ (hI.o 10 0 3 F.1 rfl hI.top.1).2]
                    refine J.run 3 rfl ⟨(hI.is hI.top.1), (hI.o 10 1 7 F.1 rfl hI.top.1).1⟩ ?_
                    try dsimp only
                    try dsimp only
                    rw [show (H.2.2.2.2 10 1 F.1) = F.2.2.1 from hI.one.2.2.1 _ (hI.o 10 1 7 F.1 rfl hI.top.1).2]
                    refine J.run0 1 rfl ?_
                    try dsimp only
                    refine J.inv rfl rfl rfl rfl rfl rfl ((jD_w rfl).mpr (hI.is hI.top.2.2.1)) rfl rfl rfl rfl rfl (c_X7_get (m0 := b) hI  (show -2147483648 ≤ b ∧ b ≤ 2147483647 from ⟨by omega, by omega⟩)) ?_
                    rintro v w H ⟨rfl, rfl, hv⟩
                    rcases hv with ⟨rfl, r274⟩ | ⟨q272, rfl, t273, r274⟩
                    · have r274' : (0 ≤ b → b < H.1 7 4 F.2.2.1 → H.2.2.2.1 28 F.2.2.1 (b) = none) := r274
                      first | (exfalso; omega) | exact absurd (r274' (by omega) (by omega)) (by rw [rL_X7_get_40.2.2]; exact (nomatch ·))
                    · have r274' : (0 ≤ b ∧ b < H.1 7 4 F.2.2.1 ∧ H.2.2.2.1 28 F.2.2.1 (b) = some q272) := r274
                      have rL_X7_get_164 := r274
                      try dsimp only [Option.toList, List.append, List.cons_append, List.nil_append]
                      have f275 : 0 ≤ H.1 5 0 q272 ∧ H.1 5 0 q272 ≤ 5999 := hI.v 5 0 q272 t273
                      refine J.run 2 rfl ⟨(hI.is hI.top.1), (hI.o 10 1 7 F.1 rfl hI.top.1).1⟩ ?_
                      try dsimp only
                      try dsimp only
                      rw [show (H.2.2.2.2 10 1 F.1) = F.2.2.1 from hI.one.2.2.1 _ (hI.o 10 1 7 F.1 rfl hI.top.1).2]
                      refine J.run0 1 rfl ?_
                      try dsimp only
                      refine J.inv rfl rfl rfl rfl rfl rfl ((jD_w rfl).mpr (hI.is hI.top.2.2.1)) rfl rfl rfl rfl rfl (c_X7_get (m0 := vv) hI  (show -2147483648 ≤ vv ∧ vv ≤ 2147483647 from ⟨by omega, by omega⟩)) ?_
                      rintro v w H ⟨rfl, rfl, hv⟩
                      rcases hv with ⟨rfl, r278⟩ | ⟨q276, rfl, t277, r278⟩
                      · have r278' : (0 ≤ vv → vv < H.1 7 4 F.2.2.1 → H.2.2.2.1 28 F.2.2.1 (vv) = none) := r278
                        first | (exfalso; omega) | exact absurd (r278' (by omega) (by omega)) (by rw [rL_X7_get_52.2.2]; exact (nomatch ·))
                      · have r278' : (0 ≤ vv ∧ vv < H.1 7 4 F.2.2.1 ∧ H.2.2.2.1 28 F.2.2.1 (vv) = some q276) := r278
                        have rL_X7_get_173 := r278
                        try dsimp only [Option.toList, List.append, List.cons_append, List.nil_append]
                        have f279 : 0 ≤ H.1 5 0 q276 ∧ H.1 5 0 q276 ≤ 5999 := hI.v 5 0 q276 t277
                        refine J.inv rfl rfl rfl rfl rfl rfl ((jD_w rfl).mpr (hI.is hI.top.2.1)) rfl rfl rfl rfl rfl (c_X3_addProof (account := a) (one := q272) (two := q276) hI t273 t277 (show 0 ≤ a ∧ a ≤ 199 from ⟨by omega, by omega⟩)) ?_
                        rintro v w281 H280 ⟨T282, hI283, shS284, ehE285, hr286, hr286s, hv⟩
                        have hr286' : ((w281.2.1 : Nat) : Int) - 2 * H280.1 7 4 F.2.2.1 - 13 * H280.1 3 1 F.2.1 - H280.1 3 3 F.2.1 ≤ ((w.2.1 : Nat) : Int) - 2 * H.1 7 4 F.2.2.1 - 13 * H.1 3 1 F.2.1 - H.1 3 3 F.2.1 + (1) := hr286
                        have hr286s' : ((w281.2.2 : Nat) : Int) - 18 * H280.1 7 4 F.2.2.1 - 700 * H280.1 3 1 F.2.1 - 6 * H280.1 3 3 F.2.1 ≤ ((w.2.2 : Nat) : Int) - 18 * H.1 7 4 F.2.2.1 - 700 * H.1 3 1 F.2.1 - 6 * H.1 3 3 F.2.1 + 10 * (1) := hr286s
                        have hE285 : cEx T [303, 40022] H280 H := cEx.trans ehE285 hE hS (by decide)
                        have hS284 : ∀ k p, T k p → T282 k p := fun k p z => shS284 k p (hS k p z)
                        have g287 : H280.1 7 4 F.2.2.1 = H.1 7 4 F.2.2.1 := (ehE285.1 7 4 F.2.2.1 hI.top.2.2.1).1 (by decide)
                        have g288 : H280.1 3 1 F.2.1 = H.1 3 1 F.2.1 := (ehE285.1 3 1 F.2.1 hI.top.2.1).1 (by decide)
                        have t289 : T282 10 F.1 := shS284 _ _ hI.top.1
                        obtain ⟨x290, rfl, r291⟩ := hv
                        have rL_X3_addProof := r291
                        have rL_X3_addProof_176 := r291
                        try dsimp only [Option.toList, List.append, List.cons_append, List.nil_append]
                        exact J.reti rfl rfl rfl ⟨T282, hI283, hS284, hE285, (show ((w281.2.1 : Nat) : Int) - 2 * H280.1 7 4 F.2.2.1 - 13 * H280.1 3 1 F.2.1 - H280.1 3 3 F.2.1 ≤ ((w.2.1 : Nat) : Int) - 2 * H.1 7 4 F.2.2.1 - 13 * H.1 3 1 F.2.1 - H.1 3 3 F.2.1 + (1) by omega), (show ((w281.2.2 : Nat) : Int) - 18 * H280.1 7 4 F.2.2.1 - 700 * H280.1 3 1 F.2.1 - 6 * H280.1 3 3 F.2.1 ≤ ((w.2.2 : Nat) : Int) - 18 * H.1 7 4 F.2.2.1 - 700 * H.1 3 1 F.2.1 - 6 * H.1 3 3 F.2.1 + 10 * (1) by omega), Or.inl ⟨_, rfl, _, rfl, trivial⟩⟩
                · have c292 : ¬ (H.1 3 3 F.2.1 < (1500 : Int)) := hc
                  clear hc
                  exact J.thr rfl rfl rfl rfl ⟨T, hI, hS, hE, (show ((w.2.1 + 1 : Nat) : Int) - 2 * H.1 7 4 F.2.2.1 - 13 * H.1 3 1 F.2.1 - H.1 3 3 F.2.1 ≤ ((w.2.1 : Nat) : Int) - 2 * H.1 7 4 F.2.2.1 - 13 * H.1 3 1 F.2.1 - H.1 3 3 F.2.1 + (1) by omega), (show ((w.2.2 + 6 : Nat) : Int) - 18 * H.1 7 4 F.2.2.1 - 700 * H.1 3 1 F.2.1 - 6 * H.1 3 3 F.2.1 ≤ ((w.2.2 : Nat) : Int) - 18 * H.1 7 4 F.2.2.1 - 700 * H.1 3 1 F.2.1 - 6 * H.1 3 3 F.2.1 + 10 * (1) by omega), Or.inr (Or.inr (rfl))⟩
        · have c293 : ¬ (a < (200 : Int)) := hc
          clear hc
          exact J.thr rfl rfl rfl rfl ⟨T, hI, hS, hE, (show ((w.2.1 + 1 : Nat) : Int) - 2 * H.1 7 4 F.2.2.1 - 13 * H.1 3 1 F.2.1 - H.1 3 3 F.2.1 ≤ ((w.2.1 : Nat) : Int) - 2 * H.1 7 4 F.2.2.1 - 13 * H.1 3 1 F.2.1 - H.1 3 3 F.2.1 + (1) by omega), (show ((w.2.2 + 6 : Nat) : Int) - 18 * H.1 7 4 F.2.2.1 - 700 * H.1 3 1 F.2.1 - 6 * H.1 3 3 F.2.1 ≤ ((w.2.2 : Nat) : Int) - 18 * H.1 7 4 F.2.2.1 - 700 * H.1 3 1 F.2.1 - 6 * H.1 3 3 F.2.1 + 10 * (1) by omega), Or.inr (Or.inl rfl)⟩
end
