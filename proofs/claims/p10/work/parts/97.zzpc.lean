-- M: X10_spread
section
variable {d : Nat} {F : cG} 
set_option maxRecDepth 20000 in
set_option maxHeartbeats 8000000 in
theorem c_X10_spread_l0 {m0 : Int} {many : Int} {nodes : Int} {T0 : cP} {w0 : jW} {H0 : jH} (hI0 : cJ F T0 w0 H0)  (hp0 : -2147483648 ≤ m0 ∧ m0 ≤ 2147483647) (hp1 : -2147483648 ≤ many ∧ many ≤ 2147483647) : ∀ (m : Nat), (∀ (k : Int) (T : cP) (w : jW) (H : jH) (lv : jL), 100 * (200 - k) < (m : Int) → (0 ≤ k ∧ k ≤ 100) → (0 ≤ m0 ∧ m0 ≤ 6000) → (many ≤ 100) → (((w.2.1 : Nat) : Int) - 2 * H.1 7 4 F.2.2.1 - 13 * H.1 3 1 F.2.1 - H.1 3 3 F.2.1 ≤ ((w0.2.1 : Nat) : Int) - 2 * H0.1 7 4 F.2.2.1 - 13 * H0.1 3 1 F.2.1 - H0.1 3 3 F.2.1 + (16 * k)) → (((w.2.2 : Nat) : Int) - 18 * H.1 7 4 F.2.2.1 - 700 * H.1 3 1 F.2.1 - 6 * H.1 3 3 F.2.1 ≤ ((w0.2.2 : Nat) : Int) - 18 * H0.1 7 4 F.2.2.1 - 700 * H0.1 3 1 F.2.1 - 6 * H0.1 3 3 F.2.1 + 10 * (16 * k)) → cJ F T w H → (∀ k p, T0 k p → T k p) → cEx T0 [301, 307, 401, 402, 602, 603, 604, 605, 606, 607, 608, 609, 611, 612, 616, 704, 804, 808, 809, 811, 813, 10209, 10507, 20601, 30023, 30024, 30026, 30027, 30031, 30032, 30033, 30034, 30035, 30036, 30037, 30038, 30039, 30043, 40021, 40025, 40028, 40029, 40030] H H0 → ((lv = [(4, .inl k), (0, .inr (some (10, F.1))), (1, .inl m0), (2, .inl many), (3, .inl nodes)]) ∨ (∃ j6 : Int, lv = [(4, .inl k), (6, .inl j6), (5, .inr none), (0, .inr (some (10, F.1))), (1, .inl m0), (2, .inl many), (3, .inl nodes)]) ∨ (∃ j6 : Int, ∃ o5 : Nat, T 5 o5 ∧ lv = [(4, .inl k), (6, .inl j6), (5, .inr (some (5, o5))), (0, .inr (some (10, F.1))), (1, .inl m0), (2, .inl many), (3, .inl nodes)])) → J false (d + 6) 74 w (49, lv, [], H) (fun o w' H' => ∃ T', cJ F T' w' H' ∧ (∀ k p, T0 k p → T' k p) ∧ cEx T0 [301, 307, 401, 402, 602, 603, 604, 605, 606, 607, 608, 609, 611, 612, 616, 704, 804, 808, 809, 811, 813, 10209, 10507, 20601, 30023, 30024, 30026, 30027, 30031, 30032, 30033, 30034, 30035, 30036, 30037, 30038, 30039, 30043, 40021, 40025, 40028, 40029, 40030] H' H0 ∧ ((w'.2.1 : Nat) : Int) - 2 * H'.1 7 4 F.2.2.1 - 13 * H'.1 3 1 F.2.1 - H'.1 3 3 F.2.1 ≤ ((w0.2.1 : Nat) : Int) - 2 * H0.1 7 4 F.2.2.1 - 13 * H0.1 3 1 F.2.1 - H0.1 3 3 F.2.1 + (1700) ∧ ((w'.2.2 : Nat) : Int) - 18 * H'.1 7 4 F.2.2.1 - 700 * H'.1 3 1 F.2.1 - 6 * H'.1 3 3 F.2.1 ≤ ((w0.2.2 : Nat) : Int) - 18 * H0.1 7 4 F.2.2.1 - 700 * H0.1 3 1 F.2.1 - 6 * H0.1 3 3 F.2.1 + 10 * (1700) ∧ ((∃ v, o = .inl v ∧ ∃ rv, v = some (.inl rv) ∧ (True)) ∨ (o = .inr 12) ∨ (o = .inr 14)))) ∧ (∀ (k i : Int) (T : cP) (w : jW) (H : jH) (lv : jL), 100 * (200 - k) - 1 - i < (m : Int) → (0 ≤ k ∧ k < 100) → (0 ≤ i ∧ i ≤ 16) → (0 ≤ m0 ∧ m0 ≤ 6000) → (many ≤ 100) → (((w.2.1 : Nat) : Int) - 2 * H.1 7 4 F.2.2.1 - 13 * H.1 3 1 F.2.1 - H.1 3 3 F.2.1 ≤ ((w0.2.1 : Nat) : Int) - 2 * H0.1 7 4 F.2.2.1 - 13 * H0.1 3 1 F.2.1 - H0.1 3 3 F.2.1 + (16 * k + i)) → (((w.2.2 : Nat) : Int) - 18 * H.1 7 4 F.2.2.1 - 700 * H.1 3 1 F.2.1 - 6 * H.1 3 3 F.2.1 ≤ ((w0.2.2 : Nat) : Int) - 18 * H0.1 7 4 F.2.2.1 - 700 * H0.1 3 1 F.2.1 - 6 * H0.1 3 3 F.2.1 + 10 * (16 * k + i)) → cJ F T w H → (∀ k p, T0 k p → T k p) → cEx T0 [301, 307, 401, 402, 602, 603, 604, 605, 606, 607, 608, 609, 611, 612, 616, 704, 804, 808, 809, 811, 813, 10209, 10507, 20601, 30023, 30024, 30026, 30027, 30031, 30032, 30033, 30034, 30035, 30036, 30037, 30038, 30039, 30043, 40021, 40025, 40028, 40029, 40030] H H0 → ((lv = [(6, .inl i), (5, .inr none), (4, .inl k), (0, .inr (some (10, F.1))), (1, .inl m0), (2, .inl many), (3, .inl nodes)]) ∨ (∃ o5 : Nat, T 5 o5 ∧ lv = [(6, .inl i), (5, .inr (some (5, o5))), (4, .inl k), (0, .inr (some (10, F.1))), (1, .inl m0), (2, .inl many), (3, .inl nodes)])) → J false (d + 6) 74 w (85, lv, [], H) (fun o w' H' => ∃ T', cJ F T' w' H' ∧ (∀ k p, T0 k p → T' k p) ∧ cEx T0 [301, 307, 401, 402, 602, 603, 604, 605, 606, 607, 608, 609, 611, 612, 616, 704, 804, 808, 809, 811, 813, 10209, 10507, 20601, 30023, 30024, 30026, 30027, 30031, 30032, 30033, 30034, 30035, 30036, 30037, 30038, 30039, 30043, 40021, 40025, 40028, 40029, 40030] H' H0 ∧ ((w'.2.1 : Nat) : Int) - 2 * H'.1 7 4 F.2.2.1 - 13 * H'.1 3 1 F.2.1 - H'.1 3 3 F.2.1 ≤ ((w0.2.1 : Nat) : Int) - 2 * H0.1 7 4 F.2.2.1 - 13 * H0.1 3 1 F.2.1 - H0.1 3 3 F.2.1 + (1700) ∧ ((w'.2.2 : Nat) : Int) - 18 * H'.1 7 4 F.2.2.1 - 700 * H'.1 3 1 F.2.1 - 6 * H'.1 3 3 F.2.1 ≤ ((w0.2.2 : Nat) : Int) - 18 * H0.1 7 4 F.2.2.1 - 700 * H0.1 3 1 F.2.1 - 6 * H0.1 3 3 F.2.1 + 10 * (1700) ∧ ((∃ v, o = .inl v ∧ ∃ rv, v = some (.inl rv) ∧ (True)) ∨ (o = .inr 12) ∨ (o = .inr 14)))) := by
  intro m
  induction m with
  | zero =>
    refine ⟨?_, ?_⟩
    · intro k T w H lv hm hi0 hi1 hi2 hi3 hi4 hI hS hE hlv
      exfalso
      omega
    · intro k i T w H lv hm hi0 hi1 hi2 hi3 hi4 hi5 hI hS hE hlv
      exfalso
      omega
  | succ m ih =>
    refine ⟨?_, ?_⟩
    · intro k T w H lv hm hi0 hi1 hi2 hi3 hi4 hI hS hE hlv
      rcases hlv with rfl | ⟨j6, rfl⟩ | ⟨j6, o5, to5, rfl⟩
      · skip
        refine J.run0 2 rfl ?_
        try dsimp only
        refine J.icmp rfl rfl rfl ⟨(show -2147483648 ≤ k ∧ k ≤ 2147483647 from ⟨by omega, by omega⟩), (show -2147483648 ≤ many ∧ many ≤ 2147483647 from ⟨by omega, by omega⟩)⟩ (fun hc => ?_) (fun hc => ?_)
        · have c1 : many ≤ k := hc
          clear hc
          refine J.run0 1 rfl ?_
          try dsimp only
          exact J.reti rfl rfl rfl ⟨T, hI, hS, hE, (show ((w.2.1 : Nat) : Int) - 2 * H.1 7 4 F.2.2.1 - 13 * H.1 3 1 F.2.1 - H.1 3 3 F.2.1 ≤ ((w0.2.1 : Nat) : Int) - 2 * H0.1 7 4 F.2.2.1 - 13 * H0.1 3 1 F.2.1 - H0.1 3 3 F.2.1 + (1700) by omega), (show ((w.2.2 : Nat) : Int) - 18 * H.1 7 4 F.2.2.1 - 700 * H.1 3 1 F.2.1 - 6 * H.1 3 3 F.2.1 ≤ ((w0.2.2 : Nat) : Int) - 18 * H0.1 7 4 F.2.2.1 - 700 * H0.1 3 1 F.2.1 - 6 * H0.1 3 3 F.2.1 + 10 * (1700) by omega), Or.inl ⟨_, rfl, _, rfl, trivial⟩⟩
        · have c2 : ¬ (many ≤ k) := hc
          clear hc
          refine J.run 5 rfl ⟨(hI.is hI.top.1), (hI.o 10 1 7 F.1 rfl hI.top.1).1⟩ ?_
          try dsimp only
          try dsimp only
          rw [show (H.2.2.2.2 10 1 F.1) = F.2.2.1 from hI.one.2.2.1 _ (hI.o 10 1 7 F.1 rfl hI.top.1).2]
          have f3 : 0 ≤ H.1 7 4 F.2.2.1 ∧ H.1 7 4 F.2.2.1 ≤ 6000 := hI.v 7 4 F.2.2.1 hI.top.2.2.1
          refine J.run 1 rfl (hI.is hI.top.2.2.1) ?_
          try dsimp only
          refine J.icmp rfl rfl rfl ⟨(show -2147483648 ≤ m0 + k ∧ m0 + k ≤ 2147483647 from ⟨by omega, by omega⟩), (show -2147483648 ≤ H.1 7 4 F.2.2.1 ∧ H.1 7 4 F.2.2.1 ≤ 2147483647 from ⟨by omega, by omega⟩)⟩ (fun hc => ?_) (fun hc => ?_)
          · have c4 : H.1 7 4 F.2.2.1 ≤ m0 + k := hc
            clear hc
            refine J.run0 1 rfl ?_
            try dsimp only
            exact J.reti rfl rfl rfl ⟨T, hI, hS, hE, (show ((w.2.1 : Nat) : Int) - 2 * H.1 7 4 F.2.2.1 - 13 * H.1 3 1 F.2.1 - H.1 3 3 F.2.1 ≤ ((w0.2.1 : Nat) : Int) - 2 * H0.1 7 4 F.2.2.1 - 13 * H0.1 3 1 F.2.1 - H0.1 3 3 F.2.1 + (1700) by omega), (show ((w.2.2 : Nat) : Int) - 18 * H.1 7 4 F.2.2.1 - 700 * H.1 3 1 F.2.1 - 6 * H.1 3 3 F.2.1 ≤ ((w0.2.2 : Nat) : Int) - 18 * H0.1 7 4 F.2.2.1 - 700 * H0.1 3 1 F.2.1 - 6 * H0.1 3 3 F.2.1 + 10 * (1700) by omega), Or.inl ⟨_, rfl, _, rfl, trivial⟩⟩
          · have c5 : ¬ (H.1 7 4 F.2.2.1 ≤ m0 + k) := hc
            clear hc
            refine J.run 2 rfl ⟨(hI.is hI.top.1), (hI.o 10 1 7 F.1 rfl hI.top.1).1⟩ ?_
            try dsimp only
            try dsimp only
            rw [show (H.2.2.2.2 10 1 F.1) = F.2.2.1 from hI.one.2.2.1 _ (hI.o 10 1 7 F.1 rfl hI.top.1).2]
            refine J.run0 3 rfl ?_
            try dsimp only
            refine J.inv rfl rfl rfl rfl rfl rfl ((jD_w rfl).mpr (hI.is hI.top.2.2.1)) rfl rfl rfl rfl rfl (c_X7_get (m0 := m0 + k) hI  (show -2147483648 ≤ (m0 + k) ∧ (m0 + k) ≤ 2147483647 from ⟨by omega, by omega⟩)) ?_
            rintro v w H ⟨rfl, rfl, hv⟩
            rcases hv with ⟨rfl, r8⟩ | ⟨q6, rfl, t7, r8⟩
            · have r8' : (0 ≤ (m0 + k) → (m0 + k) < H.1 7 4 F.2.2.1 → H.2.2.2.1 28 F.2.2.1 ((m0 + k)) = none) := r8
              try dsimp only [Option.toList, List.append, List.cons_append, List.nil_append]
              refine J.run0 3 rfl ?_
              try dsimp only
              exact ih.2 (k) ((0 : Int)) T w H _ (show 100 * (200 - (k)) - 1 - ((0 : Int)) < _ by omega) (show 0 ≤ (k) ∧ (k) < 100 from ⟨by omega, by omega⟩) (show 0 ≤ ((0 : Int)) ∧ ((0 : Int)) ≤ 16 from ⟨by omega, by omega⟩) (show 0 ≤ m0 ∧ m0 ≤ 6000 from ⟨by omega, by omega⟩) (show many ≤ 100 from by omega) (show ((w.2.1 : Nat) : Int) - 2 * H.1 7 4 F.2.2.1 - 13 * H.1 3 1 F.2.1 - H.1 3 3 F.2.1 ≤ ((w0.2.1 : Nat) : Int) - 2 * H0.1 7 4 F.2.2.1 - 13 * H0.1 3 1 F.2.1 - H0.1 3 3 F.2.1 + (16 * (k) + ((0 : Int))) from by omega) (show ((w.2.2 : Nat) : Int) - 18 * H.1 7 4 F.2.2.1 - 700 * H.1 3 1 F.2.1 - 6 * H.1 3 3 F.2.1 ≤ ((w0.2.2 : Nat) : Int) - 18 * H0.1 7 4 F.2.2.1 - 700 * H0.1 3 1 F.2.1 - 6 * H0.1 3 3 F.2.1 + 10 * (16 * (k) + ((0 : Int))) from by omega) hI hS hE  (Or.inl rfl)
            · have r8' : (0 ≤ (m0 + k) ∧ (m0 + k) < H.1 7 4 F.2.2.1 ∧ H.2.2.2.1 28 F.2.2.1 ((m0 + k)) = some q6) := r8
              try dsimp only [Option.toList, List.append, List.cons_append, List.nil_append]
              have f9 : 0 ≤ H.1 5 0 q6 ∧ H.1 5 0 q6 ≤ 5999 := hI.v 5 0 q6 t7
              refine J.run0 3 rfl ?_
              try dsimp only
              exact ih.2 (k) ((0 : Int)) T w H _ (show 100 * (200 - (k)) - 1 - ((0 : Int)) < _ by omega) (show 0 ≤ (k) ∧ (k) < 100 from ⟨by omega, by omega⟩) (show 0 ≤ ((0 : Int)) ∧ ((0 : Int)) ≤ 16 from ⟨by omega, by omega⟩) (show 0 ≤ m0 ∧ m0 ≤ 6000 from ⟨by omega, by omega⟩) (show many ≤ 100 from by omega) (show ((w.2.1 : Nat) : Int) - 2 * H.1 7 4 F.2.2.1 - 13 * H.1 3 1 F.2.1 - H.1 3 3 F.2.1 ≤ ((w0.2.1 : Nat) : Int) - 2 * H0.1 7 4 F.2.2.1 - 13 * H0.1 3 1 F.2.1 - H0.1 3 3 F.2.1 + (16 * (k) + ((0 : Int))) from by omega) (show ((w.2.2 : Nat) : Int) - 18 * H.1 7 4 F.2.2.1 - 700 * H.1 3 1 F.2.1 - 6 * H.1 3 3 F.2.1 ≤ ((w0.2.2 : Nat) : Int) - 18 * H0.1 7 4 F.2.2.1 - 700 * H0.1 3 1 F.2.1 - 6 * H0.1 3 3 F.2.1 + 10 * (16 * (k) + ((0 : Int))) from by omega) hI hS hE  (Or.inr (⟨_, t7, rfl⟩))
      · skip
        refine J.run0 2 rfl ?_
        try dsimp only
        refine J.icmp rfl rfl rfl ⟨(show -2147483648 ≤ k ∧ k ≤ 2147483647 from ⟨by omega, by omega⟩), (show -2147483648 ≤ many ∧ many ≤ 2147483647 from ⟨by omega, by omega⟩)⟩ (fun hc => ?_) (fun hc => ?_)
        · have c10 : many ≤ k := hc
          clear hc
          refine J.run0 1 rfl ?_
          try dsimp only
          exact J.reti rfl rfl rfl ⟨T, hI, hS, hE, (show ((w.2.1 : Nat) : Int) - 2 * H.1 7 4 F.2.2.1 - 13 * H.1 3 1 F.2.1 - H.1 3 3 F.2.1 ≤ ((w0.2.1 : Nat) : Int) - 2 * H0.1 7 4 F.2.2.1 - 13 * H0.1 3 1 F.2.1 - H0.1 3 3 F.2.1 + (1700) by omega), (show ((w.2.2 : Nat) : Int) - 18 * H.1 7 4 F.2.2.1 - 700 * H.1 3 1 F.2.1 - 6 * H.1 3 3 F.2.1 ≤ ((w0.2.2 : Nat) : Int) - 18 * H0.1 7 4 F.2.2.1 - 700 * H0.1 3 1 F.2.1 - 6 * H0.1 3 3 F.2.1 + 10 * (1700) by omega), Or.inl ⟨_, rfl, _, rfl, trivial⟩⟩
        · have c11 : ¬ (many ≤ k) := hc
          clear hc
          refine J.run 5 rfl ⟨(hI.is hI.top.1), (hI.o 10 1 7 F.1 rfl hI.top.1).1⟩ ?_
          try dsimp only
          try dsimp only
          rw [show (H.2.2.2.2 10 1 F.1) = F.2.2.1 from hI.one.2.2.1 _ (hI.o 10 1 7 F.1 rfl hI.top.1).2]
          have f12 : 0 ≤ H.1 7 4 F.2.2.1 ∧ H.1 7 4 F.2.2.1 ≤ 6000 := hI.v 7 4 F.2.2.1 hI.top.2.2.1
          refine J.run 1 rfl (hI.is hI.top.2.2.1) ?_
          try dsimp only
          refine J.icmp rfl rfl rfl ⟨(show -2147483648 ≤ m0 + k ∧ m0 + k ≤ 2147483647 from ⟨by omega, by omega⟩), (show -2147483648 ≤ H.1 7 4 F.2.2.1 ∧ H.1 7 4 F.2.2.1 ≤ 2147483647 from ⟨by omega, by omega⟩)⟩ (fun hc => ?_) (fun hc => ?_)
          · have c13 : H.1 7 4 F.2.2.1 ≤ m0 + k := hc
            clear hc
            refine J.run0 1 rfl ?_
            try dsimp only
            exact J.reti rfl rfl rfl ⟨T, hI, hS, hE, (show ((w.2.1 : Nat) : Int) - 2 * H.1 7 4 F.2.2.1 - 13 * H.1 3 1 F.2.1 - H.1 3 3 F.2.1 ≤ ((w0.2.1 : Nat) : Int) - 2 * H0.1 7 4 F.2.2.1 - 13 * H0.1 3 1 F.2.1 - H0.1 3 3 F.2.1 + (1700) by omega), (show ((w.2.2 : Nat) : Int) - 18 * H.1 7 4 F.2.2.1 - 700 * H.1 3 1 F.2.1 - 6 * H.1 3 3 F.2.1 ≤ ((w0.2.2 : Nat) : Int) - 18 * H0.1 7 4 F.2.2.1 - 700 * H0.1 3 1 F.2.1 - 6 * H0.1 3 3 F.2.1 + 10 * (1700) by omega), Or.inl ⟨_, rfl, _, rfl, trivial⟩⟩
          · have c14 : ¬ (H.1 7 4 F.2.2.1 ≤ m0 + k) := hc
            clear hc
            refine J.run 2 rfl ⟨(hI.is hI.top.1), (hI.o 10 1 7 F.1 rfl hI.top.1).1⟩ ?_
            try dsimp only
            try dsimp only
            rw [show (H.2.2.2.2 10 1 F.1) = F.2.2.1 from hI.one.2.2.1 _ (hI.o 10 1 7 F.1 rfl hI.top.1).2]
            refine J.run0 3 rfl ?_
            try dsimp only
            refine J.inv rfl rfl rfl rfl rfl rfl ((jD_w rfl).mpr (hI.is hI.top.2.2.1)) rfl rfl rfl rfl rfl (c_X7_get (m0 := m0 + k) hI  (show -2147483648 ≤ (m0 + k) ∧ (m0 + k) ≤ 2147483647 from ⟨by omega, by omega⟩)) ?_
            rintro v w H ⟨rfl, rfl, hv⟩
            rcases hv with ⟨rfl, r17⟩ | ⟨q15, rfl, t16, r17⟩
            · have r17' : (0 ≤ (m0 + k) → (m0 + k) < H.1 7 4 F.2.2.1 → H.2.2.2.1 28 F.2.2.1 ((m0 + k)) = none) := r17
              try dsimp only [Option.toList, List.append, List.cons_append, List.nil_append]
              refine J.run0 3 rfl ?_
              try dsimp only
              exact ih.2 (k) ((0 : Int)) T w H _ (show 100 * (200 - (k)) - 1 - ((0 : Int)) < _ by omega) (show 0 ≤ (k) ∧ (k) < 100 from ⟨by omega, by omega⟩) (show 0 ≤ ((0 : Int)) ∧ ((0 : Int)) ≤ 16 from ⟨by omega, by omega⟩) (show 0 ≤ m0 ∧ m0 ≤ 6000 from ⟨by omega, by omega⟩) (show many ≤ 100 from by omega) (show ((w.2.1 : Nat) : Int) - 2 * H.1 7 4 F.2.2.1 - 13 * H.1 3 1 F.2.1 - H.1 3 3 F.2.1 ≤ ((w0.2.1 : Nat) : Int) - 2 * H0.1 7 4 F.2.2.1 - 13 * H0.1 3 1 F.2.1 - H0.1 3 3 F.2.1 + (16 * (k) + ((0 : Int))) from by omega) (show ((w.2.2 : Nat) : Int) - 18 * H.1 7 4 F.2.2.1 - 700 * H.1 3 1 F.2.1 - 6 * H.1 3 3 F.2.1 ≤ ((w0.2.2 : Nat) : Int) - 18 * H0.1 7 4 F.2.2.1 - 700 * H0.1 3 1 F.2.1 - 6 * H0.1 3 3 F.2.1 + 10 * (16 * (k) + ((0 : Int))) from by omega) hI hS hE  (Or.inl rfl)
            · have r17' : (0 ≤ (m0 + k) ∧ (m0 + k) < H.1 7 4 F.2.2.1 ∧ H.2.2.2.1 28 F.2.2.1 ((m0 + k)) = some q15) := r17
              try dsimp only [Option.toList, List.append, List.cons_append, List.nil_append]
              have f18 : 0 ≤ H.1 5 0 q15 ∧ H.1 5 0 q15 ≤ 5999 := hI.v 5 0 q15 t16
              refine J.run0 3 rfl ?_
              try dsimp only
              exact ih.2 (k) ((0 : Int)) T w H _ (show 100 * (200 - (k)) - 1 - ((0 : Int)) < _ by omega) (show 0 ≤ (k) ∧ (k) < 100 from ⟨by omega, by omega⟩) (show 0 ≤ ((0 : Int)) ∧ ((0 : Int)) ≤ 16 from ⟨by omega, by omega⟩) (show 0 ≤ m0 ∧ m0 ≤ 6000 from ⟨by omega, by omega⟩) (show many ≤ 100 from by omega) (show ((w.2.1 : Nat) : Int) - 2 * H.1 7 4 F.2.2.1 - 13 * H.1 3 1 F.2.1 - H.1 3 3 F.2.1 ≤ ((w0.2.1 : Nat) : Int) - 2 * H0.1 7 4 F.2.2.1 - 13 * H0.1 3 1 F.2.1 - H0.1 3 3 F.2.1 + (16 * (k) + ((0 : Int))) from by omega) (show ((w.2.2 : Nat) : Int) - 18 * H.1 7 4 F.2.2.1 - 700 * H.1 3 1 F.2.1 - 6 * H.1 3 3 F.2.1 ≤ ((w0.2.2 : Nat) : Int) - 18 * H0.1 7 4 F.2.2.1 - 700 * H0.1 3 1 F.2.1 - 6 * H0.1 3 3 F.2.1 + 10 * (16 * (k) + ((0 : Int))) from by omega) hI hS hE  (Or.inr (⟨_, t16, rfl⟩))
      · skip
        refine J.run0 2 rfl ?_
        try dsimp only
        refine J.icmp rfl rfl rfl ⟨(show -2147483648 ≤ k ∧ k ≤ 2147483647 from ⟨by omega, by omega⟩), (show -2147483648 ≤ many ∧ many ≤ 2147483647 from ⟨by omega, by omega⟩)⟩ (fun hc => ?_) (fun hc => ?_)
        · have c19 : many ≤ k := hc
          clear hc
          refine J.run0 1 rfl ?_
          try dsimp only
          exact J.reti rfl rfl rfl ⟨T, hI, hS, hE, (show ((w.2.1 : Nat) : Int) - 2 * H.1 7 4 F.2.2.1 - 13 * H.1 3 1 F.2.1 - H.1 3 3 F.2.1 ≤ ((w0.2.1 : Nat) : Int) - 2 * H0.1 7 4 F.2.2.1 - 13 * H0.1 3 1 F.2.1 - H0.1 3 3 F.2.1 + (1700) by omega), (show ((w.2.2 : Nat) : Int) - 18 * H.1 7 4 F.2.2.1 - 700 * H.1 3 1 F.2.1 - 6 * H.1 3 3 F.2.1 ≤ ((w0.2.2 : Nat) : Int) - 18 * H0.1 7 4 F.2.2.1 - 700 * H0.1 3 1 F.2.1 - 6 * H0.1 3 3 F.2.1 + 10 * (1700) by omega), Or.inl ⟨_, rfl, _, rfl, trivial⟩⟩
        · have c20 : ¬ (many ≤ k) := hc
          clear hc
          refine J.run 5 rfl ⟨(hI.is hI.top.1), (hI.o 10 1 7 F.1 rfl hI.top.1).1⟩ ?_
          try dsimp only
          try dsimp only
          rw [show (H.2.2.2.2 10 1 F.1) = F.2.2.1 from hI.one.2.2.1 _ (hI.o 10 1 7 F.1 rfl hI.top.1).2]
          have f21 : 0 ≤ H.1 7 4 F.2.2.1 ∧ H.1 7 4 F.2.2.1 ≤ 6000 := hI.v 7 4 F.2.2.1 hI.top.2.2.1
          refine J.run 1 rfl (hI.is hI.top.2.2.1) ?_
          try dsimp only
          refine J.icmp rfl rfl rfl ⟨(show -2147483648 ≤ m0 + k ∧ m0 + k ≤ 2147483647 from ⟨by omega, by omega⟩), (show -2147483648 ≤ H.1 7 4 F.2.2.1 ∧ H.1 7 4 F.2.2.1 ≤ 2147483647 from ⟨by omega, by omega⟩)⟩ (fun hc => ?_) (fun hc => ?_)
          · have c22 : H.1 7 4 F.2.2.1 ≤ m0 + k := hc
            clear hc
            refine J.run0 1 rfl ?_
            try dsimp only
            exact J.reti rfl rfl rfl ⟨T, hI, hS, hE, (show ((w.2.1 : Nat) : Int) - 2 * H.1 7 4 F.2.2.1 - 13 * H.1 3 1 F.2.1 - H.1 3 3 F.2.1 ≤ ((w0.2.1 : Nat) : Int) - 2 * H0.1 7 4 F.2.2.1 - 13 * H0.1 3 1 F.2.1 - H0.1 3 3 F.2.1 + (1700) by omega), (show ((w.2.2 : Nat) : Int) - 18 * H.1 7 4 F.2.2.1 - 700 * H.1 3 1 F.2.1 - 6 * H.1 3 3 F.2.1 ≤ ((w0.2.2 : Nat) : Int) - 18 * H0.1 7 4 F.2.2.1 - 700 * H0.1 3 1 F.2.1 - 6 * H0.1 3 3 F.2.1 + 10 * (1700) by omega), Or.inl ⟨_, rfl, _, rfl, trivial⟩⟩
          · have c23 : ¬ (H.1 7 4 F.2.2.1 ≤ m0 + k) := hc
            clear hc
            refine J.run 2 rfl ⟨(hI.is hI.top.1), (hI.o 10 1 7 F.1 rfl hI.top.1).1⟩ ?_
            try dsimp only
            try dsimp only
            rw [show (H.2.2.2.2 10 1 F.1) = F.2.2.1 from hI.one.2.2.1 _ (hI.o 10 1 7 F.1 rfl hI.top.1).2]
            refine J.run0 3 rfl ?_
            try dsimp only
            refine J.inv rfl rfl rfl rfl rfl rfl ((jD_w rfl).mpr (hI.is hI.top.2.2.1)) rfl rfl rfl rfl rfl (c_X7_get (m0 := m0 + k) hI  (show -2147483648 ≤ (m0 + k) ∧ (m0 + k) ≤ 2147483647 from ⟨by omega, by omega⟩)) ?_
            rintro v w H ⟨rfl, rfl, hv⟩
            rcases hv with ⟨rfl, r26⟩ | ⟨q24, rfl, t25, r26⟩
            · have r26' : (0 ≤ (m0 + k) → (m0 + k) < H.1 7 4 F.2.2.1 → H.2.2.2.1 28 F.2.2.1 ((m0 + k)) = none) := r26
              try dsimp only [Option.toList, List.append, List.cons_append, List.nil_append]
              refine J.run0 3 rfl ?_
              try dsimp only
              exact ih.2 (k) ((0 : Int)) T w H _ (show 100 * (200 - (k)) - 1 - ((0 : Int)) < _ by omega) (show 0 ≤ (k) ∧ (k) < 100 from ⟨by omega, by omega⟩) (show 0 ≤ ((0 : Int)) ∧ ((0 : Int)) ≤ 16 from ⟨by omega, by omega⟩) (show 0 ≤ m0 ∧ m0 ≤ 6000 from ⟨by omega, by omega⟩) (show many ≤ 100 from by omega) (show ((w.2.1 : Nat) : Int) - 2 * H.1 7 4 F.2.2.1 - 13 * H.1 3 1 F.2.1 - H.1 3 3 F.2.1 ≤ ((w0.2.1 : Nat) : Int) - 2 * H0.1 7 4 F.2.2.1 - 13 * H0.1 3 1 F.2.1 - H0.1 3 3 F.2.1 + (16 * (k) + ((0 : Int))) from by omega) (show ((w.2.2 : Nat) : Int) - 18 * H.1 7 4 F.2.2.1 - 700 * H.1 3 1 F.2.1 - 6 * H.1 3 3 F.2.1 ≤ ((w0.2.2 : Nat) : Int) - 18 * H0.1 7 4 F.2.2.1 - 700 * H0.1 3 1 F.2.1 - 6 * H0.1 3 3 F.2.1 + 10 * (16 * (k) + ((0 : Int))) from by omega) hI hS hE  (Or.inl rfl)
            · have r26' : (0 ≤ (m0 + k) ∧ (m0 + k) < H.1 7 4 F.2.2.1 ∧ H.2.2.2.1 28 F.2.2.1 ((m0 + k)) = some q24) := r26
              try dsimp only [Option.toList, List.append, List.cons_append, List.nil_append]
              have f27 : 0 ≤ H.1 5 0 q24 ∧ H.1 5 0 q24 ≤ 5999 := hI.v 5 0 q24 t25
              refine J.run0 3 rfl ?_
              try dsimp only
              exact ih.2 (k) ((0 : Int)) T w H _ (show 100 * (200 - (k)) - 1 - ((0 : Int)) < _ by omega) (show 0 ≤ (k) ∧ (k) < 100 from ⟨by omega, by omega⟩) (show 0 ≤ ((0 : Int)) ∧ ((0 : Int)) ≤ 16 from ⟨by omega, by omega⟩) (show 0 ≤ m0 ∧ m0 ≤ 6000 from ⟨by omega, by omega⟩) (show many ≤ 100 from by omega) (show ((w.2.1 : Nat) : Int) - 2 * H.1 7 4 F.2.2.1 - 13 * H.1 3 1 F.2.1 - H.1 3 3 F.2.1 ≤ ((w0.2.1 : Nat) : Int) - 2 * H0.1 7 4 F.2.2.1 - 13 * H0.1 3 1 F.2.1 - H0.1 3 3 F.2.1 + (16 * (k) + ((0 : Int))) from by omega) (show ((w.2.2 : Nat) : Int) - 18 * H.1 7 4 F.2.2.1 - 700 * H.1 3 1 F.2.1 - 6 * H.1 3 3 F.2.1 ≤ ((w0.2.2 : Nat) : Int) - 18 * H0.1 7 4 F.2.2.1 - 700 * H0.1 3 1 F.2.1 - 6 * H0.1 3 3 F.2.1 + 10 * (16 * (k) + ((0 : Int))) from by omega) hI hS hE  (Or.inr (⟨_, t25, rfl⟩))
    · intro k i T w H lv hm hi0 hi1 hi2 hi3 hi4 hi5 hI hS hE hlv
      rcases hlv with rfl | ⟨o5, to5, rfl⟩
      · skip
        refine J.run0 2 rfl ?_
        try dsimp only
        refine J.icmp rfl rfl rfl ⟨(show -2147483648 ≤ i ∧ i ≤ 2147483647 from ⟨by omega, by omega⟩), (show -2147483648 ≤ (16 : Int) ∧ (16 : Int) ≤ 2147483647 from ⟨by omega, by omega⟩)⟩ (fun hc => ?_) (fun hc => ?_)
        · have c28 : (16 : Int) ≤ i := hc
          clear hc
          refine J.run0 2 rfl ?_
          try dsimp only
          exact ih.1 (k + 1) T w H _ (show 100 * (200 - (k + 1)) < _ by omega) (show 0 ≤ (k + 1) ∧ (k + 1) ≤ 100 from ⟨by omega, by omega⟩) (show 0 ≤ m0 ∧ m0 ≤ 6000 from ⟨by omega, by omega⟩) (show many ≤ 100 from by omega) (show ((w.2.1 : Nat) : Int) - 2 * H.1 7 4 F.2.2.1 - 13 * H.1 3 1 F.2.1 - H.1 3 3 F.2.1 ≤ ((w0.2.1 : Nat) : Int) - 2 * H0.1 7 4 F.2.2.1 - 13 * H0.1 3 1 F.2.1 - H0.1 3 3 F.2.1 + (16 * (k + 1)) from by omega) (show ((w.2.2 : Nat) : Int) - 18 * H.1 7 4 F.2.2.1 - 700 * H.1 3 1 F.2.1 - 6 * H.1 3 3 F.2.1 ≤ ((w0.2.2 : Nat) : Int) - 18 * H0.1 7 4 F.2.2.1 - 700 * H0.1 3 1 F.2.1 - 6 * H0.1 3 3 F.2.1 + 10 * (16 * (k + 1)) from by omega) hI hS hE  (Or.inr (Or.inl ⟨_, rfl⟩))
        · have c29 : ¬ ((16 : Int) ≤ i) := hc
          clear hc
          have f30 : -2147483648 ≤ jushr (nodes) (i) ∧ jushr (nodes) (i) ≤ 2147483647 := jI32 _
          have f31 : -2147483648 ≤ jand (jushr (nodes) (i)) ((1 : Int)) ∧ jand (jushr (nodes) (i)) ((1 : Int)) ≤ 2147483647 := jI32 _
          refine J.run0 6 rfl ?_
          try dsimp only
          refine J.icmp rfl rfl rfl ⟨(show -2147483648 ≤ jand (jushr (nodes) (i)) ((1 : Int)) ∧ jand (jushr (nodes) (i)) ((1 : Int)) ≤ 2147483647 from ⟨by omega, by omega⟩), (show -2147483648 ≤ (1 : Int) ∧ (1 : Int) ≤ 2147483647 from ⟨by omega, by omega⟩)⟩ (fun hc => ?_) (fun hc => ?_)
          · have c32 : ¬ (jand (jushr (nodes) (i)) ((1 : Int)) = (1 : Int)) := hc
            clear hc
            refine J.run0 2 rfl ?_
            try dsimp only
            exact ih.2 (k) (i + 1) T w H _ (show 100 * (200 - (k)) - 1 - (i + 1) < _ by omega) (show 0 ≤ (k) ∧ (k) < 100 from ⟨by omega, by omega⟩) (show 0 ≤ (i + 1) ∧ (i + 1) ≤ 16 from ⟨by omega, by omega⟩) (show 0 ≤ m0 ∧ m0 ≤ 6000 from ⟨by omega, by omega⟩) (show many ≤ 100 from by omega) (show ((w.2.1 : Nat) : Int) - 2 * H.1 7 4 F.2.2.1 - 13 * H.1 3 1 F.2.1 - H.1 3 3 F.2.1 ≤ ((w0.2.1 : Nat) : Int) - 2 * H0.1 7 4 F.2.2.1 - 13 * H0.1 3 1 F.2.1 - H0.1 3 3 F.2.1 + (16 * (k) + (i + 1)) from by omega) (show ((w.2.2 : Nat) : Int) - 18 * H.1 7 4 F.2.2.1 - 700 * H.1 3 1 F.2.1 - 6 * H.1 3 3 F.2.1 ≤ ((w0.2.2 : Nat) : Int) - 18 * H0.1 7 4 F.2.2.1 - 700 * H0.1 3 1 F.2.1 - 6 * H0.1 3 3 F.2.1 + 10 * (16 * (k) + (i + 1)) from by omega) hI hS hE  (Or.inl rfl)
          · have c33 : ¬ (¬ (jand (jushr (nodes) (i)) ((1 : Int)) = (1 : Int))) := hc
            clear hc
            refine J.run 6 rfl ⟨⟨(hI.is hI.top.1), hI.is (hI.r 10 2 40 F.1 rfl hI.top.1)⟩, (show w.1 40 F.1 ∧ 0 ≤ i ∧ i < 16 from ⟨hI.is (hI.r 10 2 40 F.1 rfl hI.top.1), by omega, by omega⟩)⟩ ?_
            try dsimp only
            try dsimp only
            rcases hn34 : H.2.2.2.1 40 F.1 (i) with _ | q35
            · exact absurd hn34 (hI.nd (by omega) (by omega))
            · have t36 : T 6 q35 := hI.a 40 F.1 rfl (hI.r 10 2 40 F.1 rfl hI.top.1) hn34
              refine J.inv rfl rfl rfl rfl rfl rfl ((jD_w rfl).mpr (hI.is hI.top.1)) rfl rfl rfl rfl rfl (c_X10_comesAnew (m0 := none) (x := q35) hI (fun _ z => nomatch z) t36 ) ?_
              rintro v w38 H37 ⟨T39, hI40, shS41, ehE42, hr43, hr43s, hv⟩
              have hr43' : ((w38.2.1 : Nat) : Int) - 2 * H37.1 7 4 F.2.2.1 - 13 * H37.1 3 1 F.2.1 - H37.1 3 3 F.2.1 ≤ ((w.2.1 : Nat) : Int) - 2 * H.1 7 4 F.2.2.1 - 13 * H.1 3 1 F.2.1 - H.1 3 3 F.2.1 + (0) := hr43
              have hr43s' : ((w38.2.2 : Nat) : Int) - 18 * H37.1 7 4 F.2.2.1 - 700 * H37.1 3 1 F.2.1 - 6 * H37.1 3 3 F.2.1 ≤ ((w.2.2 : Nat) : Int) - 18 * H.1 7 4 F.2.2.1 - 700 * H.1 3 1 F.2.1 - 6 * H.1 3 3 F.2.1 + 10 * (0) := hr43s
              have hE42 : cEx T0 [301, 307, 401, 402, 602, 603, 604, 605, 606, 607, 608, 609, 611, 612, 616, 704, 804, 808, 809, 811, 813, 10209, 10507, 20601, 30023, 30024, 30026, 30027, 30031, 30032, 30033, 30034, 30035, 30036, 30037, 30038, 30039, 30043, 40021, 40025, 40028, 40029, 40030] H37 H0 := cEx.trans ehE42 hE hS (by decide)
              have hS41 : ∀ k p, T0 k p → T39 k p := fun k p z => shS41 k p (hS k p z)
              have g44 : H37.1 7 4 F.2.2.1 = H.1 7 4 F.2.2.1 := (ehE42.1 7 4 F.2.2.1 hI.top.2.2.1).1 (by decide)
              have g45 : H37.1 3 1 F.2.1 = H.1 3 1 F.2.1 := (ehE42.1 3 1 F.2.1 hI.top.2.1).1 (by decide)
              have g46 : H37.1 3 3 F.2.1 = H.1 3 3 F.2.1 := (ehE42.1 3 3 F.2.1 hI.top.2.1).1 (by decide)
              have t47 : T39 10 F.1 := shS41 _ _ hI.top.1
              obtain ⟨x48, rfl, r49⟩ := hv
              have r49' : x48 = 0 ∨ x48 = 1 := r49
              try dsimp only [Option.toList, List.append, List.cons_append, List.nil_append]
              refine J.ifc rfl rfl rfl (show -2147483648 ≤ x48 ∧ x48 ≤ 2147483647 from ⟨by omega, by omega⟩) (fun hc => ?_) (fun hc => ?_)
              · have c50 : x48 = (0 : Int) := hc
                clear hc
                refine J.run0 2 rfl ?_
                try dsimp only
                exact ih.2 (k) (i + 1) T39 w38 H37 _ (show 100 * (200 - (k)) - 1 - (i + 1) < _ by omega) (show 0 ≤ (k) ∧ (k) < 100 from ⟨by omega, by omega⟩) (show 0 ≤ (i + 1) ∧ (i + 1) ≤ 16 from ⟨by omega, by omega⟩) (show 0 ≤ m0 ∧ m0 ≤ 6000 from ⟨by omega, by omega⟩) (show many ≤ 100 from by omega) (show ((w38.2.1 : Nat) : Int) - 2 * H37.1 7 4 F.2.2.1 - 13 * H37.1 3 1 F.2.1 - H37.1 3 3 F.2.1 ≤ ((w0.2.1 : Nat) : Int) - 2 * H0.1 7 4 F.2.2.1 - 13 * H0.1 3 1 F.2.1 - H0.1 3 3 F.2.1 + (16 * (k) + (i + 1)) from by omega) (show ((w38.2.2 : Nat) : Int) - 18 * H37.1 7 4 F.2.2.1 - 700 * H37.1 3 1 F.2.1 - 6 * H37.1 3 3 F.2.1 ≤ ((w0.2.2 : Nat) : Int) - 18 * H0.1 7 4 F.2.2.1 - 700 * H0.1 3 1 F.2.1 - 6 * H0.1 3 3 F.2.1 + 10 * (16 * (k) + (i + 1)) from by omega) hI40 hS41 hE42  (Or.inl rfl)
              · have c51 : ¬ (x48 = (0 : Int)) := hc
                clear hc
                refine J.run 5 rfl ⟨⟨(hI40.is t47), hI40.is (hI40.r 10 2 40 F.1 rfl t47)⟩, (show w38.1 40 F.1 ∧ 0 ≤ i ∧ i < 16 from ⟨hI40.is (hI40.r 10 2 40 F.1 rfl t47), by omega, by omega⟩)⟩ ?_
                try dsimp only
                try dsimp only
                rcases hn52 : H37.2.2.2.1 40 F.1 (i) with _ | q53
                · exact absurd hn52 (hI40.nd (by omega) (by omega))
                · have t54 : T39 6 q53 := hI40.a 40 F.1 rfl (hI40.r 10 2 40 F.1 rfl t47) hn52
                  refine J.inv rfl rfl rfl rfl rfl rfl ((jD_w rfl).mpr (hI40.is t47)) rfl rfl rfl rfl rfl (c_X10_doAll (x := q53) hI40 t54 ) ?_
                  rintro v w56 H55 ⟨T57, hI58, shS59, ehE60, hr61, hr61s, hv⟩
                  have hr61' : ((w56.2.1 : Nat) : Int) - 2 * H55.1 7 4 F.2.2.1 - 13 * H55.1 3 1 F.2.1 - H55.1 3 3 F.2.1 ≤ ((w38.2.1 : Nat) : Int) - 2 * H37.1 7 4 F.2.2.1 - 13 * H37.1 3 1 F.2.1 - H37.1 3 3 F.2.1 + (1) := hr61
                  have hr61s' : ((w56.2.2 : Nat) : Int) - 18 * H55.1 7 4 F.2.2.1 - 700 * H55.1 3 1 F.2.1 - 6 * H55.1 3 3 F.2.1 ≤ ((w38.2.2 : Nat) : Int) - 18 * H37.1 7 4 F.2.2.1 - 700 * H37.1 3 1 F.2.1 - 6 * H37.1 3 3 F.2.1 + 10 * (1) := hr61s
                  have hE60 : cEx T0 [301, 307, 401, 402, 602, 603, 604, 605, 606, 607, 608, 609, 611, 612, 616, 704, 804, 808, 809, 811, 813, 10209, 10507, 20601, 30023, 30024, 30026, 30027, 30031, 30032, 30033, 30034, 30035, 30036, 30037, 30038, 30039, 30043, 40021, 40025, 40028, 40029, 40030] H55 H0 := cEx.trans ehE60 hE42 hS41 (by decide)
                  have hS59 : ∀ k p, T0 k p → T57 k p := fun k p z => shS59 k p (hS41 k p z)
                  have g62 : H55.1 3 3 F.2.1 = H37.1 3 3 F.2.1 := (ehE60.1 3 3 F.2.1 hI40.top.2.1).1 (by decide)
                  have t63 : T57 10 F.1 := shS59 _ _ t47
                  obtain rfl := hv
                  try dsimp only [Option.toList, List.append, List.cons_append, List.nil_append]
                  refine J.run0 2 rfl ?_
                  try dsimp only
                  exact ih.2 (k) (i + 1) T57 w56 H55 _ (show 100 * (200 - (k)) - 1 - (i + 1) < _ by omega) (show 0 ≤ (k) ∧ (k) < 100 from ⟨by omega, by omega⟩) (show 0 ≤ (i + 1) ∧ (i + 1) ≤ 16 from ⟨by omega, by omega⟩) (show 0 ≤ m0 ∧ m0 ≤ 6000 from ⟨by omega, by omega⟩) (show many ≤ 100 from by omega) (show ((w56.2.1 : Nat) : Int) - 2 * H55.1 7 4 F.2.2.1 - 13 * H55.1 3 1 F.2.1 - H55.1 3 3 F.2.1 ≤ ((w0.2.1 : Nat) : Int) - 2 * H0.1 7 4 F.2.2.1 - 13 * H0.1 3 1 F.2.1 - H0.1 3 3 F.2.1 + (16 * (k) + (i + 1)) from by omega) (show ((w56.2.2 : Nat) : Int) - 18 * H55.1 7 4 F.2.2.1 - 700 * H55.1 3 1 F.2.1 - 6 * H55.1 3 3 F.2.1 ≤ ((w0.2.2 : Nat) : Int) - 18 * H0.1 7 4 F.2.2.1 - 700 * H0.1 3 1 F.2.1 - 6 * H0.1 3 3 F.2.1 + 10 * (16 * (k) + (i + 1)) from by omega) hI58 hS59 hE60  (Or.inl rfl)
      · skip
        refine J.run0 2 rfl ?_
        try dsimp only
        refine J.icmp rfl rfl rfl ⟨(show -2147483648 ≤ i ∧ i ≤ 2147483647 from ⟨by omega, by omega⟩), (show -2147483648 ≤ (16 : Int) ∧ (16 : Int) ≤ 2147483647 from ⟨by omega, by omega⟩)⟩ (fun hc => ?_) (fun hc => ?_)
        · have c64 : (16 : Int) ≤ i := hc
          clear hc
          refine J.run0 2 rfl ?_
          try dsimp only
          exact ih.1 (k + 1) T w H _ (show 100 * (200 - (k + 1)) < _ by omega) (show 0 ≤ (k + 1) ∧ (k + 1) ≤ 100 from ⟨by omega, by omega⟩) (show 0 ≤ m0 ∧ m0 ≤ 6000 from ⟨by omega, by omega⟩) (show many ≤ 100 from by omega) (show ((w.2.1 : Nat) : Int) - 2 * H.1 7 4 F.2.2.1 - 13 * H.1 3 1 F.2.1 - H.1 3 3 F.2.1 ≤ ((w0.2.1 : Nat) : Int) - 2 * H0.1 7 4 F.2.2.1 - 13 * H0.1 3 1 F.2.1 - H0.1 3 3 F.2.1 + (16 * (k + 1)) from by omega) (show ((w.2.2 : Nat) : Int) - 18 * H.1 7 4 F.2.2.1 - 700 * H.1 3 1 F.2.1 - 6 * H.1 3 3 F.2.1 ≤ ((w0.2.2 : Nat) : Int) - 18 * H0.1 7 4 F.2.2.1 - 700 * H0.1 3 1 F.2.1 - 6 * H0.1 3 3 F.2.1 + 10 * (16 * (k + 1)) from by omega) hI hS hE  (Or.inr (Or.inr (⟨_, _, to5, rfl⟩)))
        · have c65 : ¬ ((16 : Int) ≤ i) := hc
          clear hc
          have f66 : -2147483648 ≤ jushr (nodes) (i) ∧ jushr (nodes) (i) ≤ 2147483647 := jI32 _
          have f67 : -2147483648 ≤ jand (jushr (nodes) (i)) ((1 : Int)) ∧ jand (jushr (nodes) (i)) ((1 : Int)) ≤ 2147483647 := jI32 _
          refine J.run0 6 rfl ?_
          try dsimp only
          refine J.icmp rfl rfl rfl ⟨(show -2147483648 ≤ jand (jushr (nodes) (i)) ((1 : Int)) ∧ jand (jushr (nodes) (i)) ((1 : Int)) ≤ 2147483647 from ⟨by omega, by omega⟩), (show -2147483648 ≤ (1 : Int) ∧ (1 : Int) ≤ 2147483647 from ⟨by omega, by omega⟩)⟩ (fun hc => ?_) (fun hc => ?_)
          · have c68 : ¬ (jand (jushr (nodes) (i)) ((1 : Int)) = (1 : Int)) := hc
            clear hc
            refine J.run0 2 rfl ?_
            try dsimp only
            exact ih.2 (k) (i + 1) T w H _ (show 100 * (200 - (k)) - 1 - (i + 1) < _ by omega) (show 0 ≤ (k) ∧ (k) < 100 from ⟨by omega, by omega⟩) (show 0 ≤ (i + 1) ∧ (i + 1) ≤ 16 from ⟨by omega, by omega⟩) (show 0 ≤ m0 ∧ m0 ≤ 6000 from ⟨by omega, by omega⟩) (show many ≤ 100 from by omega) (show ((w.2.1 : Nat) : Int) - 2 * H.1 7 4 F.2.2.1 - 13 * H.1 3 1 F.2.1 - H.1 3 3 F.2.1 ≤ ((w0.2.1 : Nat) : Int) - 2 * H0.1 7 4 F.2.2.1 - 13 * H0.1 3 1 F.2.1 - H0.1 3 3 F.2.1 + (16 * (k) + (i + 1)) from by omega) (show ((w.2.2 : Nat) : Int) - 18 * H.1 7 4 F.2.2.1 - 700 * H.1 3 1 F.2.1 - 6 * H.1 3 3 F.2.1 ≤ ((w0.2.2 : Nat) : Int) - 18 * H0.1 7 4 F.2.2.1 - 700 * H0.1 3 1 F.2.1 - 6 * H0.1 3 3 F.2.1 + 10 * (16 * (k) + (i + 1)) from by omega) hI hS hE  (Or.inr (⟨_, to5, rfl⟩))
          · have c69 : ¬ (¬ (jand (jushr (nodes) (i)) ((1 : Int)) = (1 : Int))) := hc
            clear hc
            refine J.run 6 rfl ⟨⟨(hI.is hI.top.1), hI.is (hI.r 10 2 40 F.1 rfl hI.top.1)⟩, (show w.1 40 F.1 ∧ 0 ≤ i ∧ i < 16 from ⟨hI.is (hI.r 10 2 40 F.1 rfl hI.top.1), by omega, by omega⟩)⟩ ?_
            try dsimp only
            try dsimp only
            rcases hn70 : H.2.2.2.1 40 F.1 (i) with _ | q71
            · exact absurd hn70 (hI.nd (by omega) (by omega))
            · have t72 : T 6 q71 := hI.a 40 F.1 rfl (hI.r 10 2 40 F.1 rfl hI.top.1) hn70
              refine J.inv rfl rfl rfl rfl rfl rfl ((jD_w rfl).mpr (hI.is hI.top.1)) rfl rfl rfl rfl rfl (c_X10_comesAnew (m0 := some o5) (x := q71) hI (fun _ z => by cases z; exact to5) t72 ) ?_
              rintro v w74 H73 ⟨T75, hI76, shS77, ehE78, hr79, hr79s, hv⟩
              have hr79' : ((w74.2.1 : Nat) : Int) - 2 * H73.1 7 4 F.2.2.1 - 13 * H73.1 3 1 F.2.1 - H73.1 3 3 F.2.1 ≤ ((w.2.1 : Nat) : Int) - 2 * H.1 7 4 F.2.2.1 - 13 * H.1 3 1 F.2.1 - H.1 3 3 F.2.1 + (0) := hr79
              have hr79s' : ((w74.2.2 : Nat) : Int) - 18 * H73.1 7 4 F.2.2.1 - 700 * H73.1 3 1 F.2.1 - 6 * H73.1 3 3 F.2.1 ≤ ((w.2.2 : Nat) : Int) - 18 * H.1 7 4 F.2.2.1 - 700 * H.1 3 1 F.2.1 - 6 * H.1 3 3 F.2.1 + 10 * (0) := hr79s
              have hE78 : cEx T0 [301, 307, 401, 402, 602, 603, 604, 605, 606, 607, 608, 609, 611, 612, 616, 704, 804, 808, 809, 811, 813, 10209, 10507, 20601, 30023, 30024, 30026, 30027, 30031, 30032, 30033, 30034, 30035, 30036, 30037, 30038, 30039, 30043, 40021, 40025, 40028, 40029, 40030] H73 H0 := cEx.trans ehE78 hE hS (by decide)
              have hS77 : ∀ k p, T0 k p → T75 k p := fun k p z => shS77 k p (hS k p z)
              have g80 : H73.1 7 4 F.2.2.1 = H.1 7 4 F.2.2.1 := (ehE78.1 7 4 F.2.2.1 hI.top.2.2.1).1 (by decide)
              have g81 : H73.1 3 1 F.2.1 = H.1 3 1 F.2.1 := (ehE78.1 3 1 F.2.1 hI.top.2.1).1 (by decide)
              have g82 : H73.1 3 3 F.2.1 = H.1 3 3 F.2.1 := (ehE78.1 3 3 F.2.1 hI.top.2.1).1 (by decide)
              have t83 : T75 5 o5 := shS77 _ _ to5
              have t84 : T75 10 F.1 := shS77 _ _ hI.top.1
              obtain ⟨x85, rfl, r86⟩ := hv
              have r86' : x85 = 0 ∨ x85 = 1 := r86
              try dsimp only [Option.toList, List.append, List.cons_append, List.nil_append]
              refine J.ifc rfl rfl rfl (show -2147483648 ≤ x85 ∧ x85 ≤ 2147483647 from ⟨by omega, by omega⟩) (fun hc => ?_) (fun hc => ?_)
              · have c87 : x85 = (0 : Int) := hc
                clear hc
                refine J.run0 2 rfl ?_
                try dsimp only
                exact ih.2 (k) (i + 1) T75 w74 H73 _ (show 100 * (200 - (k)) - 1 - (i + 1) < _ by omega) (show 0 ≤ (k) ∧ (k) < 100 from ⟨by omega, by omega⟩) (show 0 ≤ (i + 1) ∧ (i + 1) ≤ 16 from ⟨by omega, by omega⟩) (show 0 ≤ m0 ∧ m0 ≤ 6000 from ⟨by omega, by omega⟩) (show many ≤ 100 from by omega) (show ((w74.2.1 : Nat) : Int) - 2 * H73.1 7 4 F.2.2.1 - 13 * H73.1 3 1 F.2.1 - H73.1 3 3 F.2.1 ≤ ((w0.2.1 : Nat) : Int) - 2 * H0.1 7 4 F.2.2.1 - 13 * H0.1 3 1 F.2.1 - H0.1 3 3 F.2.1 + (16 * (k) + (i + 1)) from by omega) (show ((w74.2.2 : Nat) : Int) - 18 * H73.1 7 4 F.2.2.1 - 700 * H73.1 3 1 F.2.1 - 6 * H73.1 3 3 F.2.1 ≤ ((w0.2.2 : Nat) : Int) - 18 * H0.1 7 4 F.2.2.1 - 700 * H0.1 3 1 F.2.1 - 6 * H0.1 3 3 F.2.1 + 10 * (16 * (k) + (i + 1)) from by omega) hI76 hS77 hE78  (Or.inr (⟨_, t83, rfl⟩))
              · have c88 : ¬ (x85 = (0 : Int)) := hc
                clear hc
                refine J.run 5 rfl ⟨⟨(hI76.is t84), hI76.is (hI76.r 10 2 40 F.1 rfl t84)⟩, (show w74.1 40 F.1 ∧ 0 ≤ i ∧ i < 16 from ⟨hI76.is (hI76.r 10 2 40 F.1 rfl t84), by omega, by omega⟩)⟩ ?_
                try dsimp only
                try dsimp only
                rcases hn89 : H73.2.2.2.1 40 F.1 (i) with _ | q90
                · exact absurd hn89 (hI76.nd (by omega) (by omega))
                · have t91 : T75 6 q90 := hI76.a 40 F.1 rfl (hI76.r 10 2 40 F.1 rfl t84) hn89
                  refine J.inv rfl rfl rfl rfl rfl rfl ((jD_w rfl).mpr (hI76.is t84)) rfl rfl rfl rfl rfl (c_X10_doAll (x := q90) hI76 t91 ) ?_
                  rintro v w93 H92 ⟨T94, hI95, shS96, ehE97, hr98, hr98s, hv⟩
                  have hr98' : ((w93.2.1 : Nat) : Int) - 2 * H92.1 7 4 F.2.2.1 - 13 * H92.1 3 1 F.2.1 - H92.1 3 3 F.2.1 ≤ ((w74.2.1 : Nat) : Int) - 2 * H73.1 7 4 F.2.2.1 - 13 * H73.1 3 1 F.2.1 - H73.1 3 3 F.2.1 + (1) := hr98
                  have hr98s' : ((w93.2.2 : Nat) : Int) - 18 * H92.1 7 4 F.2.2.1 - 700 * H92.1 3 1 F.2.1 - 6 * H92.1 3 3 F.2.1 ≤ ((w74.2.2 : Nat) : Int) - 18 * H73.1 7 4 F.2.2.1 - 700 * H73.1 3 1 F.2.1 - 6 * H73.1 3 3 F.2.1 + 10 * (1) := hr98s
                  have hE97 : cEx T0 [301, 307, 401, 402, 602, 603, 604, 605, 606, 607, 608, 609, 611, 612, 616, 704, 804, 808, 809, 811, 813, 10209, 10507, 20601, 30023, 30024, 30026, 30027, 30031, 30032, 30033, 30034, 30035, 30036, 30037, 30038, 30039, 30043, 40021, 40025, 40028, 40029, 40030] H92 H0 := cEx.trans ehE97 hE78 hS77 (by decide)
                  have hS96 : ∀ k p, T0 k p → T94 k p := fun k p z => shS96 k p (hS77 k p z)
                  have g99 : H92.1 3 3 F.2.1 = H73.1 3 3 F.2.1 := (ehE97.1 3 3 F.2.1 hI76.top.2.1).1 (by decide)
                  have t100 : T94 5 o5 := shS96 _ _ t83
                  have t101 : T94 10 F.1 := shS96 _ _ t84
                  obtain rfl := hv
                  try dsimp only [Option.toList, List.append, List.cons_append, List.nil_append]
                  refine J.run0 2 rfl ?_
                  try dsimp only
                  exact ih.2 (k) (i + 1) T94 w93 H92 _ (show 100 * (200 - (k)) - 1 - (i + 1) < _ by omega) (show 0 ≤ (k) ∧ (k) < 100 from ⟨by omega, by omega⟩) (show 0 ≤ (i + 1) ∧ (i + 1) ≤ 16 from ⟨by omega, by omega⟩) (show 0 ≤ m0 ∧ m0 ≤ 6000 from ⟨by omega, by omega⟩) (show many ≤ 100 from by omega) (show ((w93.2.1 : Nat) : Int) - 2 * H92.1 7 4 F.2.2.1 - 13 * H92.1 3 1 F.2.1 - H92.1 3 3 F.2.1 ≤ ((w0.2.1 : Nat) : Int) - 2 * H0.1 7 4 F.2.2.1 - 13 * H0.1 3 1 F.2.1 - H0.1 3 3 F.2.1 + (16 * (k) + (i + 1)) from by omega) (show ((w93.2.2 : Nat) : Int) - 18 * H92.1 7 4 F.2.2.1 - 700 * H92.1 3 1 F.2.1 - 6 * H92.1 3 3 F.2.1 ≤ ((w0.2.2 : Nat) : Int) - 18 * H0.1 7 4 F.2.2.1 - 700 * H0.1 3 1 F.2.1 - 6 * H0.1 3 3 F.2.1 + 10 * (16 * (k) + (i + 1)) from by omega) hI95 hS96 hE97  (Or.inr (⟨_, t100, rfl⟩))
set_option maxRecDepth 20000 in
set_option maxHeartbeats 8000000 in
theorem c_X10_spread {m0 : Int} {many : Int} {nodes : Int} {T : cP} {w : jW} {H : jH} (hI : cJ F T w H)  (hp0 : -2147483648 ≤ m0 ∧ m0 ≤ 2147483647) (hp1 : -2147483648 ≤ many ∧ many ≤ 2147483647) : J false (d + 6) 74 w (0, jargs 0 [.inr (some (10, F.1)), .inl m0, .inl many, .inl nodes], [], H) (fun o w' H' => ∃ T', cJ F T' w' H' ∧ (∀ k p, T k p → T' k p) ∧ cEx T [301, 307, 401, 402, 602, 603, 604, 605, 606, 607, 608, 609, 611, 612, 616, 704, 804, 808, 809, 811, 813, 10209, 10507, 20601, 30023, 30024, 30026, 30027, 30031, 30032, 30033, 30034, 30035, 30036, 30037, 30038, 30039, 30043, 40021, 40025, 40028, 40029, 40030] H' H ∧ ((w'.2.1 : Nat) : Int) - 2 * H'.1 7 4 F.2.2.1 - 13 * H'.1 3 1 F.2.1 - H'.1 3 3 F.2.1 ≤ ((w.2.1 : Nat) : Int) - 2 * H.1 7 4 F.2.2.1 - 13 * H.1 3 1 F.2.1 - H.1 3 3 F.2.1 + (1700) ∧ ((w'.2.2 : Nat) : Int) - 18 * H'.1 7 4 F.2.2.1 - 700 * H'.1 3 1 F.2.1 - 6 * H'.1 3 3 F.2.1 ≤ ((w.2.2 : Nat) : Int) - 18 * H.1 7 4 F.2.2.1 - 700 * H.1 3 1 F.2.1 - 6 * H.1 3 3 F.2.1 + 10 * (1700) ∧ ((∃ v, o = .inl v ∧ ∃ rv, v = some (.inl rv) ∧ (True)) ∨ (o = .inr 12) ∨ (o = .inr 14))) := by
  have hE : cEx T [301, 307, 401, 402, 602, 603, 604, 605, 606, 607, 608, 609, 611, 612, 616, 704, 804, 808, 809, 811, 813, 10209, 10507, 20601, 30023, 30024, 30026, 30027, 30031, 30032, 30033, 30034, 30035, 30036, 30037, 30038, 30039, 30043, 40021, 40025, 40028, 40029, 40030] H H := cEx.refl
  have hS : ∀ k p, T k p → T k p := fun _ _ z => z
  refine J.run0 2 rfl ?_
  try dsimp only
  refine J.icmp rfl rfl rfl ⟨(show -2147483648 ≤ many ∧ many ≤ 2147483647 from ⟨by omega, by omega⟩), (show -2147483648 ≤ (1 : Int) ∧ (1 : Int) ≤ 2147483647 from ⟨by omega, by omega⟩)⟩ (fun hc => ?_) (fun hc => ?_)
  · have c102 : many < (1 : Int) := hc
    clear hc
    exact J.thr rfl rfl rfl rfl ⟨T, hI, hS, hE, (show ((w.2.1 + 1 : Nat) : Int) - 2 * H.1 7 4 F.2.2.1 - 13 * H.1 3 1 F.2.1 - H.1 3 3 F.2.1 ≤ ((w.2.1 : Nat) : Int) - 2 * H.1 7 4 F.2.2.1 - 13 * H.1 3 1 F.2.1 - H.1 3 3 F.2.1 + (1700) by omega), (show ((w.2.2 + 6 : Nat) : Int) - 18 * H.1 7 4 F.2.2.1 - 700 * H.1 3 1 F.2.1 - 6 * H.1 3 3 F.2.1 ≤ ((w.2.2 : Nat) : Int) - 18 * H.1 7 4 F.2.2.1 - 700 * H.1 3 1 F.2.1 - 6 * H.1 3 3 F.2.1 + 10 * (1700) by omega), Or.inr (Or.inl rfl)⟩
  · have c103 : ¬ (many < (1 : Int)) := hc
    clear hc
    refine J.run0 2 rfl ?_
    try dsimp only
    refine J.icmp rfl rfl rfl ⟨(show -2147483648 ≤ many ∧ many ≤ 2147483647 from ⟨by omega, by omega⟩), (show -2147483648 ≤ (100 : Int) ∧ (100 : Int) ≤ 2147483647 from ⟨by omega, by omega⟩)⟩ (fun hc => ?_) (fun hc => ?_)
    · have c104 : many ≤ (100 : Int) := hc
      clear hc
      refine J.run0 1 rfl ?_
      try dsimp only
      refine J.ifc rfl rfl rfl (show -2147483648 ≤ m0 ∧ m0 ≤ 2147483647 from ⟨by omega, by omega⟩) (fun hc => ?_) (fun hc => ?_)
      · have c105 : m0 < (0 : Int) := hc
        clear hc
        exact J.thr rfl rfl rfl rfl ⟨T, hI, hS, hE, (show ((w.2.1 + 1 : Nat) : Int) - 2 * H.1 7 4 F.2.2.1 - 13 * H.1 3 1 F.2.1 - H.1 3 3 F.2.1 ≤ ((w.2.1 : Nat) : Int) - 2 * H.1 7 4 F.2.2.1 - 13 * H.1 3 1 F.2.1 - H.1 3 3 F.2.1 + (1700) by omega), (show ((w.2.2 + 6 : Nat) : Int) - 18 * H.1 7 4 F.2.2.1 - 700 * H.1 3 1 F.2.1 - 6 * H.1 3 3 F.2.1 ≤ ((w.2.2 : Nat) : Int) - 18 * H.1 7 4 F.2.2.1 - 700 * H.1 3 1 F.2.1 - 6 * H.1 3 3 F.2.1 + 10 * (1700) by omega), Or.inr (Or.inr (rfl))⟩
      · have c106 : ¬ (m0 < (0 : Int)) := hc
        clear hc
        refine J.run 3 rfl ⟨(hI.is hI.top.1), (hI.o 10 1 7 F.1 rfl hI.top.1).1⟩ ?_
        try dsimp only
        try dsimp only
        rw [show (H.2.2.2.2 10 1 F.1) = F.2.2.1 from hI.one.2.2.1 _ (hI.o 10 1 7 F.1 rfl hI.top.1).2]
        have f107 : 0 ≤ H.1 7 4 F.2.2.1 ∧ H.1 7 4 F.2.2.1 ≤ 6000 := hI.v 7 4 F.2.2.1 hI.top.2.2.1
        refine J.run 1 rfl (hI.is hI.top.2.2.1) ?_
        try dsimp only
        refine J.icmp rfl rfl rfl ⟨(show -2147483648 ≤ m0 ∧ m0 ≤ 2147483647 from ⟨by omega, by omega⟩), (show -2147483648 ≤ H.1 7 4 F.2.2.1 ∧ H.1 7 4 F.2.2.1 ≤ 2147483647 from ⟨by omega, by omega⟩)⟩ (fun hc => ?_) (fun hc => ?_)
        · have c108 : m0 ≤ H.1 7 4 F.2.2.1 := hc
          clear hc
          refine J.run0 2 rfl ?_
          try dsimp only
          exact (c_X10_spread_l0 (m0 := m0) (many := many) (nodes := nodes) hI  hp0 hp1 ((100 * (200 - ((0 : Int))) : Int).toNat + 1)).1 ((0 : Int)) T w H _ (show 100 * (200 - ((0 : Int))) < _ by omega) (show 0 ≤ ((0 : Int)) ∧ ((0 : Int)) ≤ 100 from ⟨by omega, by omega⟩) (show 0 ≤ m0 ∧ m0 ≤ 6000 from ⟨by omega, by omega⟩) (show many ≤ 100 from by omega) (show ((w.2.1 : Nat) : Int) - 2 * H.1 7 4 F.2.2.1 - 13 * H.1 3 1 F.2.1 - H.1 3 3 F.2.1 ≤ ((w.2.1 : Nat) : Int) - 2 * H.1 7 4 F.2.2.1 - 13 * H.1 3 1 F.2.1 - H.1 3 3 F.2.1 + (16 * ((0 : Int))) from by omega) (show ((w.2.2 : Nat) : Int) - 18 * H.1 7 4 F.2.2.1 - 700 * H.1 3 1 F.2.1 - 6 * H.1 3 3 F.2.1 ≤ ((w.2.2 : Nat) : Int) - 18 * H.1 7 4 F.2.2.1 - 700 * H.1 3 1 F.2.1 - 6 * H.1 3 3 F.2.1 + 10 * (16 * ((0 : Int))) from by omega) hI hS hE  (Or.inl rfl)
        · have c109 : ¬ (m0 ≤ H.1 7 4 F.2.2.1) := hc
          clear hc
          exact J.thr rfl rfl rfl rfl ⟨T, hI, hS, hE, (show ((w.2.1 + 1 : Nat) : Int) - 2 * H.1 7 4 F.2.2.1 - 13 * H.1 3 1 F.2.1 - H.1 3 3 F.2.1 ≤ ((w.2.1 : Nat) : Int) - 2 * H.1 7 4 F.2.2.1 - 13 * H.1 3 1 F.2.1 - H.1 3 3 F.2.1 + (1700) by omega), (show ((w.2.2 + 6 : Nat) : Int) - 18 * H.1 7 4 F.2.2.1 - 700 * H.1 3 1 F.2.1 - 6 * H.1 3 3 F.2.1 ≤ ((w.2.2 : Nat) : Int) - 18 * H.1 7 4 F.2.2.1 - 700 * H.1 3 1 F.2.1 - 6 * H.1 3 3 F.2.1 + 10 * (1700) by omega), Or.inr (Or.inr (rfl))⟩
    · have c110 : ¬ (many ≤ (100 : Int)) := hc
      clear hc
      exact J.thr rfl rfl rfl rfl ⟨T, hI, hS, hE, (show ((w.2.1 + 1 : Nat) : Int) - 2 * H.1 7 4 F.2.2.1 - 13 * H.1 3 1 F.2.1 - H.1 3 3 F.2.1 ≤ ((w.2.1 : Nat) : Int) - 2 * H.1 7 4 F.2.2.1 - 13 * H.1 3 1 F.2.1 - H.1 3 3 F.2.1 + (1700) by omega), (show ((w.2.2 + 6 : Nat) : Int) - 18 * H.1 7 4 F.2.2.1 - 700 * H.1 3 1 F.2.1 - 6 * H.1 3 3 F.2.1 ≤ ((w.2.2 : Nat) : Int) - 18 * H.1 7 4 F.2.2.1 - 700 * H.1 3 1 F.2.1 - 6 * H.1 3 3 F.2.1 + 10 * (1700) by omega), Or.inr (Or.inl rfl)⟩
end
