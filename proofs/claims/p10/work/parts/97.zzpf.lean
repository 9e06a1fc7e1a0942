-- M: X10_block
section
variable {d : Nat} {F : cG} 
set_option maxRecDepth 20000 in
set_option maxHeartbeats 8000000 in
theorem c_X10_block {n : Int} {parent : Int} {one : Int} {two : Int} {claim : Int} {T : cP} {w : jW} {H : jH} (hI : cJ F T w H)  (hp0 : -2147483648 ≤ n ∧ n ≤ 2147483647) (hp1 : -2147483648 ≤ parent ∧ parent ≤ 2147483647) (hp2 : -2147483648 ≤ one ∧ one ≤ 2147483647) (hp3 : -2147483648 ≤ two ∧ two ≤ 2147483647) (hp4 : -2147483648 ≤ claim ∧ claim ≤ 2147483647) : J false (d + 4) 77 w (0, jargs 0 [.inr (some (10, F.1)), .inl n, .inl parent, .inl one, .inl two, .inl claim], [], H) (fun o w' H' => ∃ T', cJ F T' w' H' ∧ (∀ k p, T k p → T' k p) ∧ cEx T [301, 307, 804, 808, 809, 811, 813, 30023, 30024, 30032, 30033, 30034, 30035, 30036, 30037, 30038, 30039, 30042, 30043, 40021] H' H ∧ ((w'.2.1 : Nat) : Int) - 2 * H'.1 7 4 F.2.2.1 - 13 * H'.1 3 1 F.2.1 - H'.1 3 3 F.2.1 ≤ ((w.2.1 : Nat) : Int) - 2 * H.1 7 4 F.2.2.1 - 13 * H.1 3 1 F.2.1 - H.1 3 3 F.2.1 + (2) ∧ ((w'.2.2 : Nat) : Int) - 18 * H'.1 7 4 F.2.2.1 - 700 * H'.1 3 1 F.2.1 - 6 * H'.1 3 3 F.2.1 ≤ ((w.2.2 : Nat) : Int) - 18 * H.1 7 4 F.2.2.1 - 700 * H.1 3 1 F.2.1 - 6 * H.1 3 3 F.2.1 + 10 * (2) ∧ ((∃ v, o = .inl v ∧ ∃ rv, v = some (.inl rv) ∧ (True)) ∨ (o = .inr 12) ∨ (o = .inr 13))) := by
  have hE : cEx T [301, 307, 804, 808, 809, 811, 813, 30023, 30024, 30032, 30033, 30034, 30035, 30036, 30037, 30038, 30039, 30042, 30043, 40021] H H := cEx.refl
  have hS : ∀ k p, T k p → T k p := fun _ _ z => z
  refine J.run 2 rfl ⟨(hI.is hI.top.1), (hI.o 10 0 3 F.1 rfl hI.top.1).1⟩ ?_
  try dsimp only
  try dsimp only
  rw [show (H.2.2.2.2 10 0 F.1) = F.2.1 from hI.one.2.1 _ (hI.o 10 0 3 F.1 rfl hI.top.1).2]
  refine J.run0 1 rfl ?_
  try dsimp only
  refine J.inv rfl rfl rfl rfl rfl rfl ((jD_w rfl).mpr (hI.is hI.top.2.1)) rfl rfl rfl rfl rfl (c_X3_get (b := parent) hI  (show -2147483648 ≤ parent ∧ parent ≤ 2147483647 from ⟨by omega, by omega⟩)) ?_
  rintro v w H ⟨rfl, rfl, hv⟩
  rcases hv with ⟨rfl, r3⟩ | ⟨q1, rfl, t2, r3⟩
  · skip
    try dsimp only [Option.toList, List.append, List.cons_append, List.nil_append]
    refine J.run0 3 rfl ?_
    try dsimp only
    exact J.thr rfl rfl rfl rfl ⟨T, hI, hS, hE, (show ((w.2.1 + 1 : Nat) : Int) - 2 * H.1 7 4 F.2.2.1 - 13 * H.1 3 1 F.2.1 - H.1 3 3 F.2.1 ≤ ((w.2.1 : Nat) : Int) - 2 * H.1 7 4 F.2.2.1 - 13 * H.1 3 1 F.2.1 - H.1 3 3 F.2.1 + (2) by omega), (show ((w.2.2 + 6 : Nat) : Int) - 18 * H.1 7 4 F.2.2.1 - 700 * H.1 3 1 F.2.1 - 6 * H.1 3 3 F.2.1 ≤ ((w.2.2 : Nat) : Int) - 18 * H.1 7 4 F.2.2.1 - 700 * H.1 3 1 F.2.1 - 6 * H.1 3 3 F.2.1 + 10 * (2) by omega), Or.inr (Or.inl rfl)⟩
  · skip
    try dsimp only [Option.toList, List.append, List.cons_append, List.nil_append]
    have f4 : 0 ≤ H.1 0 1 q1 ∧ H.1 0 1 q1 ≤ 299 := hI.v 0 1 q1 t2
    refine J.run 5 rfl ⟨(hI.is hI.top.1), (hI.o 10 0 3 F.1 rfl hI.top.1).1⟩ ?_
    try dsimp only
    try dsimp only
    rw [show (H.2.2.2.2 10 0 F.1) = F.2.1 from hI.one.2.1 _ (hI.o 10 0 3 F.1 rfl hI.top.1).2]
    refine J.run0 1 rfl ?_
    try dsimp only
    refine J.inv rfl rfl rfl rfl rfl rfl ((jD_w rfl).mpr (hI.is hI.top.2.1)) rfl rfl rfl rfl rfl (c_X3_isTransactionOrNone (t := one) hI  (show -2147483648 ≤ one ∧ one ≤ 2147483647 from ⟨by omega, by omega⟩)) ?_
    rintro v w H ⟨rfl, rfl, hv⟩
    obtain ⟨x5, rfl, r6⟩ := hv
    have r6' : (x5 = 0 ∨ x5 = 1) ∧ (x5 = 1 → -1 ≤ one ∧ one < H.1 3 3 F.2.1 ∧ one ≤ 1499) := r6
    try dsimp only [Option.toList, List.append, List.cons_append, List.nil_append]
    refine J.ifc rfl rfl rfl (show -2147483648 ≤ x5 ∧ x5 ≤ 2147483647 from ⟨by omega, by omega⟩) (fun hc => ?_) (fun hc => ?_)
    · have c7 : x5 = (0 : Int) := hc
      clear hc
      exact J.thr rfl rfl rfl rfl ⟨T, hI, hS, hE, (show ((w.2.1 + 1 : Nat) : Int) - 2 * H.1 7 4 F.2.2.1 - 13 * H.1 3 1 F.2.1 - H.1 3 3 F.2.1 ≤ ((w.2.1 : Nat) : Int) - 2 * H.1 7 4 F.2.2.1 - 13 * H.1 3 1 F.2.1 - H.1 3 3 F.2.1 + (2) by omega), (show ((w.2.2 + 6 : Nat) : Int) - 18 * H.1 7 4 F.2.2.1 - 700 * H.1 3 1 F.2.1 - 6 * H.1 3 3 F.2.1 ≤ ((w.2.2 : Nat) : Int) - 18 * H.1 7 4 F.2.2.1 - 700 * H.1 3 1 F.2.1 - 6 * H.1 3 3 F.2.1 + 10 * (2) by omega), Or.inr (Or.inl rfl)⟩
    · have c8 : ¬ (x5 = (0 : Int)) := hc
      clear hc
      refine J.run 2 rfl ⟨(hI.is hI.top.1), (hI.o 10 0 3 F.1 rfl hI.top.1).1⟩ ?_
      try dsimp only
      try dsimp only
      rw [show (H.2.2.2.2 10 0 F.1) = F.2.1 from hI.one.2.1 _ (hI.o 10 0 3 F.1 rfl hI.top.1).2]
      refine J.run0 1 rfl ?_
      try dsimp only
      refine J.inv rfl rfl rfl rfl rfl rfl ((jD_w rfl).mpr (hI.is hI.top.2.1)) rfl rfl rfl rfl rfl (c_X3_isTransactionOrNone (t := two) hI  (show -2147483648 ≤ two ∧ two ≤ 2147483647 from ⟨by omega, by omega⟩)) ?_
      rintro v w H ⟨rfl, rfl, hv⟩
      obtain ⟨x9, rfl, r10⟩ := hv
      have r10' : (x9 = 0 ∨ x9 = 1) ∧ (x9 = 1 → -1 ≤ two ∧ two < H.1 3 3 F.2.1 ∧ two ≤ 1499) := r10
      try dsimp only [Option.toList, List.append, List.cons_append, List.nil_append]
      refine J.ifc rfl rfl rfl (show -2147483648 ≤ x9 ∧ x9 ≤ 2147483647 from ⟨by omega, by omega⟩) (fun hc => ?_) (fun hc => ?_)
      · have c11 : ¬ (x9 = (0 : Int)) := hc
        clear hc
        refine J.run0 2 rfl ?_
        try dsimp only
        refine J.icmp rfl rfl rfl ⟨(show -2147483648 ≤ claim ∧ claim ≤ 2147483647 from ⟨by omega, by omega⟩), (show -2147483648 ≤ (-1 : Int) ∧ (-1 : Int) ≤ 2147483647 from ⟨by omega, by omega⟩)⟩ (fun hc => ?_) (fun hc => ?_)
        · have c12 : claim < (-1 : Int) := hc
          clear hc
          exact J.thr rfl rfl rfl rfl ⟨T, hI, hS, hE, (show ((w.2.1 + 1 : Nat) : Int) - 2 * H.1 7 4 F.2.2.1 - 13 * H.1 3 1 F.2.1 - H.1 3 3 F.2.1 ≤ ((w.2.1 : Nat) : Int) - 2 * H.1 7 4 F.2.2.1 - 13 * H.1 3 1 F.2.1 - H.1 3 3 F.2.1 + (2) by omega), (show ((w.2.2 + 6 : Nat) : Int) - 18 * H.1 7 4 F.2.2.1 - 700 * H.1 3 1 F.2.1 - 6 * H.1 3 3 F.2.1 ≤ ((w.2.2 : Nat) : Int) - 18 * H.1 7 4 F.2.2.1 - 700 * H.1 3 1 F.2.1 - 6 * H.1 3 3 F.2.1 + 10 * (2) by omega), Or.inr (Or.inl rfl)⟩
        · have c13 : ¬ (claim < (-1 : Int)) := hc
          clear hc
          refine J.run0 2 rfl ?_
          try dsimp only
          refine J.icmp rfl rfl rfl ⟨(show -2147483648 ≤ claim ∧ claim ≤ 2147483647 from ⟨by omega, by omega⟩), (show -2147483648 ≤ (65535 : Int) ∧ (65535 : Int) ≤ 2147483647 from ⟨by omega, by omega⟩)⟩ (fun hc => ?_) (fun hc => ?_)
          · have c14 : claim ≤ (65535 : Int) := hc
            clear hc
            refine J.run0 2 rfl ?_
            try dsimp only
            refine J.inv rfl rfl rfl rfl rfl rfl ((jD_w rfl).mpr (hI.is hI.top.1)) rfl rfl rfl rfl rfl (c_X10_isFaulty (n := n) hI  (show -2147483648 ≤ n ∧ n ≤ 2147483647 from ⟨by omega, by omega⟩)) ?_
            rintro v w H ⟨rfl, rfl, hv⟩
            obtain ⟨x15, rfl, r16⟩ := hv
            have r16' : (x15 = 0 ∨ x15 = 1) ∧ (x15 = 1 → 0 ≤ n ∧ n ≤ 15) := r16
            try dsimp only [Option.toList, List.append, List.cons_append, List.nil_append]
            refine J.ifc rfl rfl rfl (show -2147483648 ≤ x15 ∧ x15 ≤ 2147483647 from ⟨by omega, by omega⟩) (fun hc => ?_) (fun hc => ?_)
            · have c17 : ¬ (x15 = (0 : Int)) := hc
              clear hc
              refine J.run 2 rfl ⟨(hI.is hI.top.1), (hI.o 10 0 3 F.1 rfl hI.top.1).1⟩ ?_
              try dsimp only
              try dsimp only
              rw [show (H.2.2.2.2 10 0 F.1) = F.2.1 from hI.one.2.1 _ (hI.o 10 0 3 F.1 rfl hI.top.1).2]
              refine J.inv rfl rfl rfl rfl rfl rfl ((jD_w rfl).mpr (hI.is hI.top.2.1)) rfl rfl rfl rfl rfl (c_X3_isFull  hI  ) ?_
              rintro v w H ⟨rfl, rfl, hv⟩
              obtain ⟨x18, rfl, r19⟩ := hv
              have r19' : (x18 = 0 ∨ x18 = 1) ∧ (x18 = 0 → H.1 3 1 F.2.1 < 300) := r19
              try dsimp only [Option.toList, List.append, List.cons_append, List.nil_append]
              refine J.ifc rfl rfl rfl (show -2147483648 ≤ x18 ∧ x18 ≤ 2147483647 from ⟨by omega, by omega⟩) (fun hc => ?_) (fun hc => ?_)
              · have c20 : x18 = (0 : Int) := hc
                clear hc
                refine J.run 2 rfl ⟨(hI.is hI.top.1), (hI.o 10 0 3 F.1 rfl hI.top.1).1⟩ ?_
                try dsimp only
                try dsimp only
                rw [show (H.2.2.2.2 10 0 F.1) = F.2.1 from hI.one.2.1 _ (hI.o 10 0 3 F.1 rfl hI.top.1).2]
                refine J.run0 4 rfl ?_
                try dsimp only
                refine J.ins4 rfl rfl rfl (by decide) rfl rfl rfl rfl rfl (jstP.of rfl) (c_X10_rowOf (one := one) (two := two) hI  (show -1 ≤ one ∧ one ≤ 1499 from ⟨by omega, by omega⟩) (show -1 ≤ two ∧ two ≤ 1499 from ⟨by omega, by omega⟩) (show one < H.1 3 3 F.2.1 from by omega) (show two < H.1 3 3 F.2.1 from by omega)) ?_
                rintro v w22 H21 ⟨T23, hI24, shS25, ehE26, hr27, hr27s, hv⟩
                have hr27' : ((w22.2.1 : Nat) : Int) - 2 * H21.1 7 4 F.2.2.1 - 13 * H21.1 3 1 F.2.1 - H21.1 3 3 F.2.1 ≤ ((w.2.1 : Nat) : Int) - 2 * H.1 7 4 F.2.2.1 - 13 * H.1 3 1 F.2.1 - H.1 3 3 F.2.1 + (1) := hr27
                have hr27s' : ((w22.2.2 : Nat) : Int) - 18 * H21.1 7 4 F.2.2.1 - 700 * H21.1 3 1 F.2.1 - 6 * H21.1 3 3 F.2.1 ≤ ((w.2.2 : Nat) : Int) - 18 * H.1 7 4 F.2.2.1 - 700 * H.1 3 1 F.2.1 - 6 * H.1 3 3 F.2.1 + 10 * (1) := hr27s
                have hE26 : cEx T [301, 307, 804, 808, 809, 811, 813, 30023, 30024, 30032, 30033, 30034, 30035, 30036, 30037, 30038, 30039, 30042, 30043, 40021] H21 H := cEx.trans ehE26 hE hS (by decide)
                have hS25 : ∀ k p, T k p → T23 k p := fun k p z => shS25 k p (hS k p z)
                have g28 : H21.1 7 4 F.2.2.1 = H.1 7 4 F.2.2.1 := (ehE26.1 7 4 F.2.2.1 hI.top.2.2.1).1 (by decide)
                have g29 : H21.1 3 1 F.2.1 = H.1 3 1 F.2.1 := (ehE26.1 3 1 F.2.1 hI.top.2.1).1 (by decide)
                have g30 : H21.1 3 3 F.2.1 = H.1 3 3 F.2.1 := (ehE26.1 3 3 F.2.1 hI.top.2.1).1 (by decide)
                have t31 : T23 0 q1 := shS25 _ _ t2
                have t32 : T23 10 F.1 := shS25 _ _ hI.top.1
                have t33 : T23 3 F.2.1 := shS25 _ _ hI.top.2.1
                obtain ⟨q34, rfl, t35, r36⟩ := hv
                have r36' : (∀ i, 0 ≤ i → i < H21.1 42 0 q34 → 0 ≤ H21.2.2.1 42 q34 i ∧ H21.2.2.1 42 q34 i < H21.1 3 3 F.2.1) := r36
                try dsimp only [Option.toList, List.append, List.cons_append, List.nil_append]
                refine J.run0 1 rfl ?_
                try dsimp only
                refine J.inv rfl rfl rfl rfl rfl rfl ((jD_w rfl).mpr (hI24.is t33)) rfl rfl rfl rfl rfl (c_X3_addGiven (b := q1) (proposer := n) (row := q34) (claim := claim) hI24 t31 t35 (show ∀ i, 0 ≤ i → i < H21.1 42 0 q34 → 0 ≤ H21.2.2.1 42 q34 i ∧ H21.2.2.1 42 q34 i < H21.1 3 3 F.2.1 by first | assumption | exact hp1) (show 0 ≤ n ∧ n ≤ 15 from ⟨by omega, by omega⟩) (show -2147483648 ≤ claim ∧ claim ≤ 2147483647 from ⟨by omega, by omega⟩) (show H21.1 3 1 F.2.1 < 300 from by omega)) ?_
                rintro v w38 H37 ⟨T39, hI40, shS41, ehE42, hr43, hr43s, hv⟩
                have hr43' : ((w38.2.1 : Nat) : Int) - 2 * H37.1 7 4 F.2.2.1 - 13 * H37.1 3 1 F.2.1 - H37.1 3 3 F.2.1 ≤ ((w22.2.1 : Nat) : Int) - 2 * H21.1 7 4 F.2.2.1 - 13 * H21.1 3 1 F.2.1 - H21.1 3 3 F.2.1 + (0) := hr43
                have hr43s' : ((w38.2.2 : Nat) : Int) - 18 * H37.1 7 4 F.2.2.1 - 700 * H37.1 3 1 F.2.1 - 6 * H37.1 3 3 F.2.1 ≤ ((w22.2.2 : Nat) : Int) - 18 * H21.1 7 4 F.2.2.1 - 700 * H21.1 3 1 F.2.1 - 6 * H21.1 3 3 F.2.1 + 10 * (0) := hr43s
                have hE42 : cEx T [301, 307, 804, 808, 809, 811, 813, 30023, 30024, 30032, 30033, 30034, 30035, 30036, 30037, 30038, 30039, 30042, 30043, 40021] H37 H := cEx.trans ehE42 hE26 hS25 (by decide)
                have hS41 : ∀ k p, T k p → T39 k p := fun k p z => shS41 k p (hS25 k p z)
                have g44 : H37.1 7 4 F.2.2.1 = H21.1 7 4 F.2.2.1 := (ehE42.1 7 4 F.2.2.1 hI24.top.2.2.1).1 (by decide)
                have g45 : H37.1 3 3 F.2.1 = H21.1 3 3 F.2.1 := (ehE42.1 3 3 F.2.1 hI24.top.2.1).1 (by decide)
                have t46 : T39 0 q1 := shS41 _ _ t31
                have t47 : T39 10 F.1 := shS41 _ _ t32
                obtain ⟨x48, rfl, r49⟩ := hv
                have r49' : 0 ≤ x48 ∧ x48 ≤ 299 := r49
                try dsimp only [Option.toList, List.append, List.cons_append, List.nil_append]
                exact J.reti rfl rfl rfl ⟨T39, hI40, hS41, hE42, (show ((w38.2.1 : Nat) : Int) - 2 * H37.1 7 4 F.2.2.1 - 13 * H37.1 3 1 F.2.1 - H37.1 3 3 F.2.1 ≤ ((w.2.1 : Nat) : Int) - 2 * H.1 7 4 F.2.2.1 - 13 * H.1 3 1 F.2.1 - H.1 3 3 F.2.1 + (2) by omega), (show ((w38.2.2 : Nat) : Int) - 18 * H37.1 7 4 F.2.2.1 - 700 * H37.1 3 1 F.2.1 - 6 * H37.1 3 3 F.2.1 ≤ ((w.2.2 : Nat) : Int) - 18 * H.1 7 4 F.2.2.1 - 700 * H.1 3 1 F.2.1 - 6 * H.1 3 3 F.2.1 + 10 * (2) by omega), Or.inl ⟨_, rfl, _, rfl, trivial⟩⟩
              · have c50 : ¬ (x18 = (0 : Int)) := hc
                clear hc
                exact J.thr rfl rfl rfl rfl ⟨T, hI, hS, hE, (show ((w.2.1 + 1 : Nat) : Int) - 2 * H.1 7 4 F.2.2.1 - 13 * H.1 3 1 F.2.1 - H.1 3 3 F.2.1 ≤ ((w.2.1 : Nat) : Int) - 2 * H.1 7 4 F.2.2.1 - 13 * H.1 3 1 F.2.1 - H.1 3 3 F.2.1 + (2) by omega), (show ((w.2.2 + 6 : Nat) : Int) - 18 * H.1 7 4 F.2.2.1 - 700 * H.1 3 1 F.2.1 - 6 * H.1 3 3 F.2.1 ≤ ((w.2.2 : Nat) : Int) - 18 * H.1 7 4 F.2.2.1 - 700 * H.1 3 1 F.2.1 - 6 * H.1 3 3 F.2.1 + 10 * (2) by omega), Or.inr (Or.inr (rfl))⟩
            · have c51 : ¬ (¬ (x15 = (0 : Int))) := hc
              clear hc
              exact J.thr rfl rfl rfl rfl ⟨T, hI, hS, hE, (show ((w.2.1 + 1 : Nat) : Int) - 2 * H.1 7 4 F.2.2.1 - 13 * H.1 3 1 F.2.1 - H.1 3 3 F.2.1 ≤ ((w.2.1 : Nat) : Int) - 2 * H.1 7 4 F.2.2.1 - 13 * H.1 3 1 F.2.1 - H.1 3 3 F.2.1 + (2) by omega), (show ((w.2.2 + 6 : Nat) : Int) - 18 * H.1 7 4 F.2.2.1 - 700 * H.1 3 1 F.2.1 - 6 * H.1 3 3 F.2.1 ≤ ((w.2.2 : Nat) : Int) - 18 * H.1 7 4 F.2.2.1 - 700 * H.1 3 1 F.2.1 - 6 * H.1 3 3 F.2.1 + 10 * (2) by omega), Or.inr (Or.inr (rfl))⟩
          · have c52 : ¬ (claim ≤ (65535 : Int)) := hc
            clear hc
            exact J.thr rfl rfl rfl rfl ⟨T, hI, hS, hE, (show ((w.2.1 + 1 : Nat) : Int) - 2 * H.1 7 4 F.2.2.1 - 13 * H.1 3 1 F.2.1 - H.1 3 3 F.2.1 ≤ ((w.2.1 : Nat) : Int) - 2 * H.1 7 4 F.2.2.1 - 13 * H.1 3 1 F.2.1 - H.1 3 3 F.2.1 + (2) by omega), (show ((w.2.2 + 6 : Nat) : Int) - 18 * H.1 7 4 F.2.2.1 - 700 * H.1 3 1 F.2.1 - 6 * H.1 3 3 F.2.1 ≤ ((w.2.2 : Nat) : Int) - 18 * H.1 7 4 F.2.2.1 - 700 * H.1 3 1 F.2.1 - 6 * H.1 3 3 F.2.1 + 10 * (2) by omega), Or.inr (Or.inl rfl)⟩
      · have c53 : ¬ (¬ (x9 = (0 : Int))) := hc
        clear hc
        exact J.thr rfl rfl rfl rfl ⟨T, hI, hS, hE, (show ((w.2.1 + 1 : Nat) : Int) - 2 * H.1 7 4 F.2.2.1 - 13 * H.1 3 1 F.2.1 - H.1 3 3 F.2.1 ≤ ((w.2.1 : Nat) : Int) - 2 * H.1 7 4 F.2.2.1 - 13 * H.1 3 1 F.2.1 - H.1 3 3 F.2.1 + (2) by omega), (show ((w.2.2 + 6 : Nat) : Int) - 18 * H.1 7 4 F.2.2.1 - 700 * H.1 3 1 F.2.1 - 6 * H.1 3 3 F.2.1 ≤ ((w.2.2 : Nat) : Int) - 18 * H.1 7 4 F.2.2.1 - 700 * H.1 3 1 F.2.1 - 6 * H.1 3 3 F.2.1 + 10 * (2) by omega), Or.inr (Or.inl rfl)⟩
end
