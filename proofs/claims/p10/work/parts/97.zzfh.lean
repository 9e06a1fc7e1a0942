-- M: X1_isMostOfClaim
section
variable {d : Nat} {F : cG} {T : cP} {w : jW} {H : jH}
set_option maxRecDepth 20000 in
set_option maxHeartbeats 8000000 in
theorem c_X1_isMostOfClaim {b : Nat} {bits : Int} (hI : cJ F T w H) (ta0 : T 0 b)  : J false (d + 1) 8 w (0, jargs 0 [.inr (some (0, b)), .inl bits], [], H) (jN fun v w' H' => w' = w ∧ H' = H ∧ ∃ rv, v = some (.inl rv) ∧ (rv = 0 ∨ rv = 1)) := by
  refine J.run 4 rfl ⟨(hI.is ta0), (hI.o 0 5 43 b rfl ta0).1⟩ ?_
  try dsimp only
  refine J.ins4 rfl rfl rfl (by decide) rfl rfl rfl rfl rfl (jstP.of rfl) (c_X10_weigh (row := (H.2.2.2.2 0 5 b)) (bits := bits) hI (hI.o 0 5 43 b rfl ta0).2 ) ?_
  rintro v w H ⟨rfl, rfl, hv⟩
  obtain ⟨x1, rfl, r2⟩ := hv
  try dsimp only [Option.toList, List.append, List.cons_append, List.nil_append]
  refine J.run 5 rfl ⟨(hI.is ta0), (hI.o 0 5 43 b rfl ta0).1⟩ ?_
  try dsimp only
  refine J.ins4 rfl rfl rfl (by decide) rfl rfl rfl rfl rfl (jstP.of rfl) (c_X10_weigh (row := (H.2.2.2.2 0 5 b)) (bits := (65535 : Int)) hI (hI.o 0 5 43 b rfl ta0).2 ) ?_
  rintro v w H ⟨rfl, rfl, hv⟩
  obtain ⟨x3, rfl, r4⟩ := hv
  try dsimp only [Option.toList, List.append, List.cons_append, List.nil_append]
  refine J.run0 1 rfl ?_
  try dsimp only
  refine J.icmpN rfl rfl rfl (fun hc => ?_) (fun hc => ?_)
  · have c5 : jn ((3 : Int) * x1) ≤ jn ((2 : Int) * x3) := hc
    clear hc
    refine J.run0 1 rfl ?_
    try dsimp only
    exact J.retb rfl rfl rfl (show (0 : Int) = 0 ∨ (0 : Int) = 1 by omega) ⟨_, rfl, rfl, rfl, _, rfl, (show ((0 : Int)) = 0 ∨ ((0 : Int)) = 1 from by omega)⟩
  · have c6 : ¬ (jn ((3 : Int) * x1) ≤ jn ((2 : Int) * x3)) := hc
    clear hc
    refine J.run0 2 rfl ?_
    try dsimp only
    exact J.retb rfl rfl rfl (show (1 : Int) = 0 ∨ (1 : Int) = 1 by omega) ⟨_, rfl, rfl, rfl, _, rfl, (show ((1 : Int)) = 0 ∨ ((1 : Int)) = 1 from by omega)⟩
end
-- M: X1_isCertified
section
variable {d : Nat} {F : cG} {T : cP} {w : jW} {H : jH}
set_option maxRecDepth 20000 in
set_option maxHeartbeats 8000000 in
theorem c_X1_isCertified_l0 {b : Nat} (hI : cJ F T w H) (ta0 : T 0 b)  : ∀ (m : Nat), (∀ (k : Int) (lv : jL), 32 - k < (m : Int) → (0 ≤ k ∧ k ≤ 32) → ((lv = [(2, .inl k), (0, .inr (some (0, b))), (1, .inr (some (7, F.2.2.1)))])) → J false (d + 2) 7 w (2, lv, [], H) (jN fun v w' H' => w' = w ∧ H' = H ∧ ∃ rv, v = some (.inl rv) ∧ (rv = 0 ∨ rv = 1))) := by
  intro m
  induction m with
  | zero =>
    skip
    · intro k lv hm hi0 hlv
      exfalso
      omega
  | succ m ih =>
    skip
    · intro k lv hm hi0 hlv
      rcases hlv with rfl
      refine J.run0 2 rfl ?_
      try dsimp only
      refine J.icmp rfl rfl rfl ⟨(show -2147483648 ≤ k ∧ k ≤ 2147483647 from ⟨by omega, by omega⟩), (show -2147483648 ≤ (32 : Int) ∧ (32 : Int) ≤ 2147483647 from ⟨by omega, by omega⟩)⟩ (fun hc => ?_) (fun hc => ?_)
      · have c1 : (32 : Int) ≤ k := hc
        clear hc
        refine J.run0 1 rfl ?_
        try dsimp only
        exact J.retb rfl rfl rfl (show (0 : Int) = 0 ∨ (0 : Int) = 1 by omega) ⟨_, rfl, rfl, rfl, _, rfl, (show ((0 : Int)) = 0 ∨ ((0 : Int)) = 1 from by omega)⟩
      · have c2 : ¬ ((32 : Int) ≤ k) := hc
        clear hc
        refine J.run0 4 rfl ?_
        try dsimp only
        refine J.inv rfl rfl rfl rfl rfl rfl ((jD_w rfl).mpr (hI.is hI.top.2.2.1)) rfl rfl rfl rfl rfl (c_X7_precommittersOf (b := b) (round := k) hI ta0 (show -2147483648 ≤ k ∧ k ≤ 2147483647 from ⟨by omega, by omega⟩)) ?_
        rintro v w H ⟨rfl, rfl, hv⟩
        obtain ⟨x3, rfl, r4⟩ := hv
        try dsimp only [Option.toList, List.append, List.cons_append, List.nil_append]
        refine J.ins4 rfl rfl rfl (by decide) rfl rfl rfl rfl rfl (jstP.of rfl) (c_X1_isMostOfClaim (b := b) (bits := x3) hI ta0 ) ?_
        rintro v w H ⟨rfl, rfl, hv⟩
        obtain ⟨x5, rfl, r6⟩ := hv
        have r6' : x5 = 0 ∨ x5 = 1 := r6
        try dsimp only [Option.toList, List.append, List.cons_append, List.nil_append]
        refine J.ifc rfl rfl rfl (show -2147483648 ≤ x5 ∧ x5 ≤ 2147483647 from ⟨by omega, by omega⟩) (fun hc => ?_) (fun hc => ?_)
        · have c7 : x5 = (0 : Int) := hc
          clear hc
          refine J.run0 2 rfl ?_
          try dsimp only
          exact ih (k + 1) _ (show 32 - (k + 1) < _ by omega) (show 0 ≤ (k + 1) ∧ (k + 1) ≤ 32 from ⟨by omega, by omega⟩)  rfl
        · have c8 : ¬ (x5 = (0 : Int)) := hc
          clear hc
          refine J.run0 1 rfl ?_
          try dsimp only
          exact J.retb rfl rfl rfl (show (1 : Int) = 0 ∨ (1 : Int) = 1 by omega) ⟨_, rfl, rfl, rfl, _, rfl, (show ((1 : Int)) = 0 ∨ ((1 : Int)) = 1 from by omega)⟩
set_option maxRecDepth 20000 in
set_option maxHeartbeats 8000000 in
theorem c_X1_isCertified {b : Nat} (hI : cJ F T w H) (ta0 : T 0 b)  : J false (d + 2) 7 w (0, jargs 0 [.inr (some (0, b)), .inr (some (7, F.2.2.1))], [], H) (jN fun v w' H' => w' = w ∧ H' = H ∧ ∃ rv, v = some (.inl rv) ∧ (rv = 0 ∨ rv = 1)) := by
  refine J.run0 2 rfl ?_
  try dsimp only
  exact (c_X1_isCertified_l0 (b := b) hI ta0  ((32 - ((0 : Int)) : Int).toNat + 1)) ((0 : Int)) _ (show 32 - ((0 : Int)) < _ by omega) (show 0 ≤ ((0 : Int)) ∧ ((0 : Int)) ≤ 32 from ⟨by omega, by omega⟩)  rfl
end
-- M: X1_halfWay
section
variable {d : Nat} {F : cG} {T : cP} {w : jW} {H : jH}
set_option maxRecDepth 20000 in
set_option maxHeartbeats 8000000 in
theorem c_X1_halfWay {b : Nat} (hI : cJ F T w H) (ta0 : T 0 b)  : J false (d + 1) 5 w (0, jargs 0 [.inr (some (1, F.2.2.2)), .inr (some (0, b))], [], H) (jN fun v w' H' => w' = w ∧ H' = H ∧ ((v = some (.inr none) ∧ True) ∨ ∃ rq, v = some (.inr (some (0, rq))) ∧ T 0 rq ∧ True)) := by
  have f1 : 0 ≤ H.1 0 1 b ∧ H.1 0 1 b ≤ 299 := hI.v 0 1 b ta0
  have f2 : 0 ≤ H.1 0 1 (H.2.2.2.2 1 0 F.2.2.2) ∧ H.1 0 1 (H.2.2.2.2 1 0 F.2.2.2) ≤ 299 := hI.v 0 1 (H.2.2.2.2 1 0 F.2.2.2) (hI.o 1 0 0 F.2.2.2 rfl hI.top.2.2.2).2
  refine J.run 7 rfl ⟨(hI.is ta0), ⟨(hI.is hI.top.2.2.2), (hI.o 1 0 0 F.2.2.2 rfl hI.top.2.2.2).1⟩, (hI.is (hI.o 1 0 0 F.2.2.2 rfl hI.top.2.2.2).2)⟩ ?_
  try dsimp only
  refine J.icmp rfl rfl rfl ⟨(show -2147483648 ≤ (H.1 0 1 b) - (H.1 0 1 (H.2.2.2.2 1 0 F.2.2.2)) ∧ (H.1 0 1 b) - (H.1 0 1 (H.2.2.2.2 1 0 F.2.2.2)) ≤ 2147483647 from ⟨by omega, by omega⟩), (show -2147483648 ≤ (1 : Int) ∧ (1 : Int) ≤ 2147483647 from ⟨by omega, by omega⟩)⟩ (fun hc => ?_) (fun hc => ?_)
  · have c3 : (H.1 0 1 b) - (H.1 0 1 (H.2.2.2.2 1 0 F.2.2.2)) ≤ (1 : Int) := hc
    clear hc
    refine J.run0 1 rfl ?_
    try dsimp only
    exact J.reta rfl rfl rfl ⟨_, rfl, rfl, rfl, Or.inl ⟨rfl, trivial⟩⟩
  · have c4 : ¬ ((H.1 0 1 b) - (H.1 0 1 (H.2.2.2.2 1 0 F.2.2.2)) ≤ (1 : Int)) := hc
    clear hc
    refine J.run 9 rfl ⟨(hI.is ta0), ⟨(hI.is hI.top.2.2.2), (hI.o 1 0 0 F.2.2.2 rfl hI.top.2.2.2).1⟩, (hI.is (hI.o 1 0 0 F.2.2.2 rfl hI.top.2.2.2).2), (show 0 ≤ (H.1 0 1 b) + (H.1 0 1 (H.2.2.2.2 1 0 F.2.2.2)) ∧ (H.1 0 1 b) + (H.1 0 1 (H.2.2.2.2 1 0 F.2.2.2)) ≤ 2147483647 ∧ 0 < (2 : Int) ∧ (2 : Int) ≤ 2147483647 from ⟨by omega, by omega, by omega, by omega⟩)⟩ ?_
    try dsimp only
    refine J.inv rfl rfl rfl rfl rfl rfl ((jD_w rfl).mpr (hI.is ta0)) rfl rfl rfl rfl rfl (c_X0_inChainAt (a0 := b) (wanted := ((H.1 0 1 b) + (H.1 0 1 (H.2.2.2.2 1 0 F.2.2.2))) / ((2 : Int))) hI ta0 (show -2147483648 ≤ (((H.1 0 1 b) + (H.1 0 1 (H.2.2.2.2 1 0 F.2.2.2))) / ((2 : Int))) ∧ (((H.1 0 1 b) + (H.1 0 1 (H.2.2.2.2 1 0 F.2.2.2))) / ((2 : Int))) ≤ 2147483647 from ⟨by omega, by omega⟩)) ?_
    rintro v w H ⟨rfl, rfl, hv⟩
    rcases hv with ⟨rfl, r7⟩ | ⟨q5, rfl, t6, r7⟩
    · skip
      try dsimp only [Option.toList, List.append, List.cons_append, List.nil_append]
      refine J.run0 1 rfl ?_
      try dsimp only
      exact J.reta rfl rfl rfl ⟨_, rfl, rfl, rfl, Or.inl ⟨rfl, trivial⟩⟩
    · skip
      try dsimp only [Option.toList, List.append, List.cons_append, List.nil_append]
      have f8 : 0 ≤ H.1 0 1 q5 ∧ H.1 0 1 q5 ≤ 299 := hI.v 0 1 q5 t6
      refine J.run0 1 rfl ?_
      try dsimp only
      exact J.reta rfl rfl rfl ⟨_, rfl, rfl, rfl, Or.inr ⟨_, rfl, t6, trivial⟩⟩
end
-- M: X1_mayTrust
section
variable {d : Nat} {F : cG} {T : cP} {w : jW} {H : jH}
set_option maxRecDepth 20000 in
set_option maxHeartbeats 8000000 in
theorem c_X1_mayTrust_l0 {b : Nat} (hI : cJ F T w H) (ta0 : T 0 b)  : ∀ (m : Nat), (∀ (k : Int) (lv : jL), 32 - k < (m : Int) → (0 ≤ k ∧ k ≤ 32) → (H.2.1 0 6 (H.2.2.2.2 1 0 F.2.2.2) ≠ none) → ((∃ j3 : Int, lv = [(4, .inl k), (3, .inl j3), (0, .inr (some (1, F.2.2.2))), (1, .inr (some (0, b))), (2, .inr (some (7, F.2.2.1)))]) ∨ (∃ j5 : Int, ∃ j3 : Int, lv = [(4, .inl k), (5, .inl j5), (3, .inl j3), (0, .inr (some (1, F.2.2.2))), (1, .inr (some (0, b))), (2, .inr (some (7, F.2.2.1)))])) → J false (d + 2) 6 w (90, lv, [], H) (jN fun v w' H' => w' = w ∧ H' = H ∧ ∃ rv, v = some (.inl rv) ∧ (rv = 0 ∨ rv = 1))) := by
  intro m
  induction m with
  | zero =>
    skip
    · intro k lv hm hi0 hi1 hlv
      exfalso
      omega
  | succ m ih =>
    skip
    · intro k lv hm hi0 hi1 hlv
      rcases hlv with ⟨j3, rfl⟩ | ⟨j5, j3, rfl⟩
      · skip
        refine J.run0 2 rfl ?_
        try dsimp only
        refine J.icmp rfl rfl rfl ⟨(show -2147483648 ≤ k ∧ k ≤ 2147483647 from ⟨by omega, by omega⟩), (show -2147483648 ≤ (32 : Int) ∧ (32 : Int) ≤ 2147483647 from ⟨by omega, by omega⟩)⟩ (fun hc => ?_) (fun hc => ?_)
        · have c1 : (32 : Int) ≤ k := hc
          clear hc
          refine J.run0 1 rfl ?_
          try dsimp only
          exact J.retb rfl rfl rfl (show (0 : Int) = 0 ∨ (0 : Int) = 1 by omega) ⟨_, rfl, rfl, rfl, _, rfl, (show ((0 : Int)) = 0 ∨ ((0 : Int)) = 1 from by omega)⟩
        · have c2 : ¬ ((32 : Int) ≤ k) := hc
          clear hc
          refine J.run0 3 rfl ?_
          try dsimp only
          refine J.inv rfl rfl rfl rfl rfl rfl ((jD_w rfl).mpr (hI.is hI.top.2.2.1)) rfl rfl rfl rfl rfl (c_X7_precommittersOf (b := b) (round := k) hI ta0 (show -2147483648 ≤ k ∧ k ≤ 2147483647 from ⟨by omega, by omega⟩)) ?_
          rintro v w H ⟨rfl, rfl, hv⟩
          obtain ⟨x3, rfl, r4⟩ := hv
          try dsimp only [Option.toList, List.append, List.cons_append, List.nil_append]
          refine J.run0 3 rfl ?_
          try dsimp only
          refine J.ins4 rfl rfl rfl (by decide) rfl rfl rfl rfl rfl (jstP.of rfl) (c_X1_isMostOfClaim (b := b) (bits := x3) hI ta0 ) ?_
          rintro v w H ⟨rfl, rfl, hv⟩
          obtain ⟨x5, rfl, r6⟩ := hv
          have r6' : x5 = 0 ∨ x5 = 1 := r6
          try dsimp only [Option.toList, List.append, List.cons_append, List.nil_append]
          refine J.ifc rfl rfl rfl (show -2147483648 ≤ x5 ∧ x5 ≤ 2147483647 from ⟨by omega, by omega⟩) (fun hc => ?_) (fun hc => ?_)
          · have c7 : x5 = (0 : Int) := hc
            clear hc
            refine J.run0 2 rfl ?_
            try dsimp only
            exact ih (k + 1) _ (show 32 - (k + 1) < _ by omega) (show 0 ≤ (k + 1) ∧ (k + 1) ≤ 32 from ⟨by omega, by omega⟩) (show H.2.1 0 6 (H.2.2.2.2 1 0 F.2.2.2) ≠ none from (by first | assumption | (intro z; simp_all)))  (Or.inr (⟨_, _, rfl⟩))
          · have c8 : ¬ (x5 = (0 : Int)) := hc
            clear hc
            refine J.run 3 rfl ⟨⟨(hI.is hI.top.2.2.2), (hI.o 1 0 0 F.2.2.2 rfl hI.top.2.2.2).1⟩, (hI.is (hI.o 1 0 0 F.2.2.2 rfl hI.top.2.2.2).2)⟩ ?_
            try dsimp only
            try dsimp only
            rcases hn9 : H.2.1 0 6 (H.2.2.2.2 1 0 F.2.2.2) with _ | q10
            · exact absurd hn9 hi1
            · have t11 : T 8 q10 := hI.n 0 6 8 (H.2.2.2.2 1 0 F.2.2.2) rfl (hI.o 1 0 0 F.2.2.2 rfl hI.top.2.2.2).2 hn9
              refine J.run0 1 rfl ?_
              try dsimp only
              refine J.inv rfl rfl rfl rfl rfl rfl ((jD_w rfl).mpr (hI.is t11)) rfl rfl rfl rfl rfl (c_X8_isSome (a0 := q10) (bits := x3) hI t11 ) ?_
              rintro v w H ⟨rfl, rfl, hv⟩
              obtain ⟨x12, rfl, r13⟩ := hv
              have r13' : x12 = 0 ∨ x12 = 1 := r13
              try dsimp only [Option.toList, List.append, List.cons_append, List.nil_append]
              refine J.ifc rfl rfl rfl (show -2147483648 ≤ x12 ∧ x12 ≤ 2147483647 from ⟨by omega, by omega⟩) (fun hc => ?_) (fun hc => ?_)
              · have c14 : x12 = (0 : Int) := hc
                clear hc
                refine J.run0 2 rfl ?_
                try dsimp only
                exact ih (k + 1) _ (show 32 - (k + 1) < _ by omega) (show 0 ≤ (k + 1) ∧ (k + 1) ≤ 32 from ⟨by omega, by omega⟩) (show H.2.1 0 6 (H.2.2.2.2 1 0 F.2.2.2) ≠ none from (by first | assumption | (intro z; simp_all)))  (Or.inr (⟨_, _, rfl⟩))
              · have c15 : ¬ (x12 = (0 : Int)) := hc
                clear hc
                refine J.run0 1 rfl ?_
                try dsimp only
                exact J.retb rfl rfl rfl (show (1 : Int) = 0 ∨ (1 : Int) = 1 by omega) ⟨_, rfl, rfl, rfl, _, rfl, (show ((1 : Int)) = 0 ∨ ((1 : Int)) = 1 from by omega)⟩
      · skip
        refine J.run0 2 rfl ?_
        try dsimp only
        refine J.icmp rfl rfl rfl ⟨(show -2147483648 ≤ k ∧ k ≤ 2147483647 from ⟨by omega, by omega⟩), (show -2147483648 ≤ (32 : Int) ∧ (32 : Int) ≤ 2147483647 from ⟨by omega, by omega⟩)⟩ (fun hc => ?_) (fun hc => ?_)
        · have c16 : (32 : Int) ≤ k := hc
          clear hc
          refine J.run0 1 rfl ?_
          try dsimp only
          exact J.retb rfl rfl rfl (show (0 : Int) = 0 ∨ (0 : Int) = 1 by omega) ⟨_, rfl, rfl, rfl, _, rfl, (show ((0 : Int)) = 0 ∨ ((0 : Int)) = 1 from by omega)⟩
        · have c17 : ¬ ((32 : Int) ≤ k) := hc
          clear hc
          refine J.run0 3 rfl ?_
          try dsimp only
          refine J.inv rfl rfl rfl rfl rfl rfl ((jD_w rfl).mpr (hI.is hI.top.2.2.1)) rfl rfl rfl rfl rfl (c_X7_precommittersOf (b := b) (round := k) hI ta0 (show -2147483648 ≤ k ∧ k ≤ 2147483647 from ⟨by omega, by omega⟩)) ?_
          rintro v w H ⟨rfl, rfl, hv⟩
          obtain ⟨x18, rfl, r19⟩ := hv
          try dsimp only [Option.toList, List.append, List.cons_append, List.nil_append]
          refine J.run0 3 rfl ?_
          try dsimp only
          refine J.ins4 rfl rfl rfl (by decide) rfl rfl rfl rfl rfl (jstP.of rfl) (c_X1_isMostOfClaim (b := b) (bits := x18) hI ta0 ) ?_
          rintro v w H ⟨rfl, rfl, hv⟩
          obtain ⟨x20, rfl, r21⟩ := hv
          have r21' : x20 = 0 ∨ x20 = 1 := r21
          try dsimp only [Option.toList, List.append, List.cons_append, List.nil_append]
          refine J.ifc rfl rfl rfl (show -2147483648 ≤ x20 ∧ x20 ≤ 2147483647 from ⟨by omega, by omega⟩) (fun hc => ?_) (fun hc => ?_)
          · have c22 : x20 = (0 : Int) := hc
            clear hc
            refine J.run0 2 rfl ?_
            try dsimp only
            exact ih (k + 1) _ (show 32 - (k + 1) < _ by omega) (show 0 ≤ (k + 1) ∧ (k + 1) ≤ 32 from ⟨by omega, by omega⟩) (show H.2.1 0 6 (H.2.2.2.2 1 0 F.2.2.2) ≠ none from (by first | assumption | (intro z; simp_all)))  (Or.inr (⟨_, _, rfl⟩))
          · have c23 : ¬ (x20 = (0 : Int)) := hc
            clear hc
            refine J.run 3 rfl ⟨⟨(hI.is hI.top.2.2.2), (hI.o 1 0 0 F.2.2.2 rfl hI.top.2.2.2).1⟩, (hI.is (hI.o 1 0 0 F.2.2.2 rfl hI.top.2.2.2).2)⟩ ?_
            try dsimp only
            try dsimp only
            rcases hn24 : H.2.1 0 6 (H.2.2.2.2 1 0 F.2.2.2) with _ | q25
            · exact absurd hn24 hi1
            · have t26 : T 8 q25 := hI.n 0 6 8 (H.2.2.2.2 1 0 F.2.2.2) rfl (hI.o 1 0 0 F.2.2.2 rfl hI.top.2.2.2).2 hn24
              refine J.run0 1 rfl ?_
              try dsimp only
              refine J.inv rfl rfl rfl rfl rfl rfl ((jD_w rfl).mpr (hI.is t26)) rfl rfl rfl rfl rfl (c_X8_isSome (a0 := q25) (bits := x18) hI t26 ) ?_
              rintro v w H ⟨rfl, rfl, hv⟩
              obtain ⟨x27, rfl, r28⟩ := hv
              have r28' : x27 = 0 ∨ x27 = 1 := r28
              try dsimp only [Option.toList, List.append, List.cons_append, List.nil_append]
              refine J.ifc rfl rfl rfl (show -2147483648 ≤ x27 ∧ x27 ≤ 2147483647 from ⟨by omega, by omega⟩) (fun hc => ?_) (fun hc => ?_)
              · have c29 : x27 = (0 : Int) := hc
                clear hc
                refine J.run0 2 rfl ?_
                try dsimp only
                exact ih (k + 1) _ (show 32 - (k + 1) < _ by omega) (show 0 ≤ (k + 1) ∧ (k + 1) ≤ 32 from ⟨by omega, by omega⟩) (show H.2.1 0 6 (H.2.2.2.2 1 0 F.2.2.2) ≠ none from (by first | assumption | (intro z; simp_all)))  (Or.inr (⟨_, _, rfl⟩))
              · have c30 : ¬ (x27 = (0 : Int)) := hc
                clear hc
                refine J.run0 1 rfl ?_
                try dsimp only
                exact J.retb rfl rfl rfl (show (1 : Int) = 0 ∨ (1 : Int) = 1 by omega) ⟨_, rfl, rfl, rfl, _, rfl, (show ((1 : Int)) = 0 ∨ ((1 : Int)) = 1 from by omega)⟩
set_option maxRecDepth 20000 in
set_option maxHeartbeats 8000000 in
theorem c_X1_mayTrust {b : Nat} (hI : cJ F T w H) (ta0 : T 0 b)  : J false (d + 2) 6 w (0, jargs 0 [.inr (some (1, F.2.2.2)), .inr (some (0, b)), .inr (some (7, F.2.2.1))], [], H) (jN fun v w' H' => w' = w ∧ H' = H ∧ ∃ rv, v = some (.inl rv) ∧ (rv = 0 ∨ rv = 1)) := by
  have f31 : 0 ≤ H.1 0 1 b ∧ H.1 0 1 b ≤ 299 := hI.v 0 1 b ta0
  have f32 : 0 ≤ H.1 0 1 (H.2.2.2.2 1 0 F.2.2.2) ∧ H.1 0 1 (H.2.2.2.2 1 0 F.2.2.2) ≤ 299 := hI.v 0 1 (H.2.2.2.2 1 0 F.2.2.2) (hI.o 1 0 0 F.2.2.2 rfl hI.top.2.2.2).2
  refine J.run 9 rfl ⟨(hI.is ta0), ⟨(hI.is hI.top.2.2.2), (hI.o 1 0 0 F.2.2.2 rfl hI.top.2.2.2).1⟩, (hI.is (hI.o 1 0 0 F.2.2.2 rfl hI.top.2.2.2).2)⟩ ?_
  try dsimp only
  refine J.icmp rfl rfl rfl ⟨(show -2147483648 ≤ (H.1 0 1 b) - (H.1 0 1 (H.2.2.2.2 1 0 F.2.2.2)) ∧ (H.1 0 1 b) - (H.1 0 1 (H.2.2.2.2 1 0 F.2.2.2)) ≤ 2147483647 from ⟨by omega, by omega⟩), (show -2147483648 ≤ (1 : Int) ∧ (1 : Int) ≤ 2147483647 from ⟨by omega, by omega⟩)⟩ (fun hc => ?_) (fun hc => ?_)
  · have c33 : (H.1 0 1 b) - (H.1 0 1 (H.2.2.2.2 1 0 F.2.2.2)) < (1 : Int) := hc
    clear hc
    refine J.run0 1 rfl ?_
    try dsimp only
    exact J.retb rfl rfl rfl (show (0 : Int) = 0 ∨ (0 : Int) = 1 by omega) ⟨_, rfl, rfl, rfl, _, rfl, (show ((0 : Int)) = 0 ∨ ((0 : Int)) = 1 from by omega)⟩
  · have c34 : ¬ ((H.1 0 1 b) - (H.1 0 1 (H.2.2.2.2 1 0 F.2.2.2)) < (1 : Int)) := hc
    clear hc
    refine J.run0 2 rfl ?_
    try dsimp only
    refine J.icmp rfl rfl rfl ⟨(show -2147483648 ≤ (H.1 0 1 b) - (H.1 0 1 (H.2.2.2.2 1 0 F.2.2.2)) ∧ (H.1 0 1 b) - (H.1 0 1 (H.2.2.2.2 1 0 F.2.2.2)) ≤ 2147483647 from ⟨by omega, by omega⟩), (show -2147483648 ≤ (40 : Int) ∧ (40 : Int) ≤ 2147483647 from ⟨by omega, by omega⟩)⟩ (fun hc => ?_) (fun hc => ?_)
    · have c35 : (40 : Int) < (H.1 0 1 b) - (H.1 0 1 (H.2.2.2.2 1 0 F.2.2.2)) := hc
      clear hc
      refine J.run0 1 rfl ?_
      try dsimp only
      exact J.retb rfl rfl rfl (show (0 : Int) = 0 ∨ (0 : Int) = 1 by omega) ⟨_, rfl, rfl, rfl, _, rfl, (show ((0 : Int)) = 0 ∨ ((0 : Int)) = 1 from by omega)⟩
    · have c36 : ¬ ((40 : Int) < (H.1 0 1 b) - (H.1 0 1 (H.2.2.2.2 1 0 F.2.2.2))) := hc
      clear hc
      refine J.run 3 rfl ⟨⟨(hI.is hI.top.2.2.2), (hI.o 1 0 0 F.2.2.2 rfl hI.top.2.2.2).1⟩, (hI.is (hI.o 1 0 0 F.2.2.2 rfl hI.top.2.2.2).2)⟩ ?_
      try dsimp only
      try dsimp only
      rcases hn37 : H.2.1 0 6 (H.2.2.2.2 1 0 F.2.2.2) with _ | q38
      · skip
        refine J.run0 2 rfl ?_
        try dsimp only
        exact J.retb rfl rfl rfl (show (0 : Int) = 0 ∨ (0 : Int) = 1 by omega) ⟨_, rfl, rfl, rfl, _, rfl, (show ((0 : Int)) = 0 ∨ ((0 : Int)) = 1 from by omega)⟩
      · have t39 : T 8 q38 := hI.n 0 6 8 (H.2.2.2.2 1 0 F.2.2.2) rfl (hI.o 1 0 0 F.2.2.2 rfl hI.top.2.2.2).2 hn37
        refine J.run0 3 rfl ?_
        try dsimp only
        refine J.icmp rfl rfl rfl ⟨(show -2147483648 ≤ (H.1 0 1 b) - (H.1 0 1 (H.2.2.2.2 1 0 F.2.2.2)) ∧ (H.1 0 1 b) - (H.1 0 1 (H.2.2.2.2 1 0 F.2.2.2)) ≤ 2147483647 from ⟨by omega, by omega⟩), (show -2147483648 ≤ (1 : Int) ∧ (1 : Int) ≤ 2147483647 from ⟨by omega, by omega⟩)⟩ (fun hc => ?_) (fun hc => ?_)
        · have c40 : ¬ ((H.1 0 1 b) - (H.1 0 1 (H.2.2.2.2 1 0 F.2.2.2)) = (1 : Int)) := hc
          clear hc
          refine J.run0 2 rfl ?_
          try dsimp only
          exact (c_X1_mayTrust_l0 (b := b) hI ta0  ((32 - ((0 : Int)) : Int).toNat + 1)) ((0 : Int)) _ (show 32 - ((0 : Int)) < _ by omega) (show 0 ≤ ((0 : Int)) ∧ ((0 : Int)) ≤ 32 from ⟨by omega, by omega⟩) (show H.2.1 0 6 (H.2.2.2.2 1 0 F.2.2.2) ≠ none from (by first | assumption | (intro z; simp_all)))  (Or.inl ⟨_, rfl⟩)
        · have c41 : ¬ (¬ ((H.1 0 1 b) - (H.1 0 1 (H.2.2.2.2 1 0 F.2.2.2)) = (1 : Int))) := hc
          clear hc
          refine J.run 2 rfl (hI.is ta0) ?_
          try dsimp only
          try dsimp only
          rcases hn42 : H.2.1 0 2 b with _ | q43
          · skip
            refine J.run0 2 rfl ?_
            try dsimp only
            exact J.retb rfl rfl rfl (show (0 : Int) = 0 ∨ (0 : Int) = 1 by omega) ⟨_, rfl, rfl, rfl, _, rfl, (show ((0 : Int)) = 0 ∨ ((0 : Int)) = 1 from by omega)⟩
          · have t44 : T 0 q43 := hI.n 0 2 0 b rfl ta0 hn42
            have f45 : 0 ≤ H.1 0 1 q43 ∧ H.1 0 1 q43 ≤ 299 := hI.v 0 1 q43 t44
            have f46 := hI.up ta0 hn42
            refine J.run 3 rfl (hI.is ta0) ?_
            try dsimp only
            try dsimp only
            rw [hn42]
            have f47 : 0 ≤ H.1 0 0 q43 ∧ H.1 0 0 q43 ≤ 299 := hI.v 0 0 q43 t44
            have f48 : 0 ≤ H.1 0 0 (H.2.2.2.2 1 0 F.2.2.2) ∧ H.1 0 0 (H.2.2.2.2 1 0 F.2.2.2) ≤ 299 := hI.v 0 0 (H.2.2.2.2 1 0 F.2.2.2) (hI.o 1 0 0 F.2.2.2 rfl hI.top.2.2.2).2
            refine J.run 4 rfl ⟨(hI.is t44), ⟨(hI.is hI.top.2.2.2), (hI.o 1 0 0 F.2.2.2 rfl hI.top.2.2.2).1⟩, (hI.is (hI.o 1 0 0 F.2.2.2 rfl hI.top.2.2.2).2)⟩ ?_
            try dsimp only
            refine J.icmp rfl rfl rfl ⟨(show -2147483648 ≤ H.1 0 0 q43 ∧ H.1 0 0 q43 ≤ 2147483647 from ⟨by omega, by omega⟩), (show -2147483648 ≤ H.1 0 0 (H.2.2.2.2 1 0 F.2.2.2) ∧ H.1 0 0 (H.2.2.2.2 1 0 F.2.2.2) ≤ 2147483647 from ⟨by omega, by omega⟩)⟩ (fun hc => ?_) (fun hc => ?_)
            · have c49 : ¬ (H.1 0 0 q43 = H.1 0 0 (H.2.2.2.2 1 0 F.2.2.2)) := hc
              clear hc
              refine J.run0 1 rfl ?_
              try dsimp only
              exact J.retb rfl rfl rfl (show (0 : Int) = 0 ∨ (0 : Int) = 1 by omega) ⟨_, rfl, rfl, rfl, _, rfl, (show ((0 : Int)) = 0 ∨ ((0 : Int)) = 1 from by omega)⟩
            · have c50 : ¬ (¬ (H.1 0 0 q43 = H.1 0 0 (H.2.2.2.2 1 0 F.2.2.2))) := hc
              clear hc
              refine J.run 5 rfl ⟨⟨(hI.is ta0), (hI.o 0 5 43 b rfl ta0).1⟩, ⟨(hI.is hI.top.2.2.2), (hI.o 1 0 0 F.2.2.2 rfl hI.top.2.2.2).1⟩, (hI.is (hI.o 1 0 0 F.2.2.2 rfl hI.top.2.2.2).2)⟩ ?_
              try dsimp only
              try dsimp only
              rw [hn37]
              refine J.run 1 rfl ⟨(hI.is t39), (hI.o 8 12 43 q38 rfl t39).1⟩ ?_
              try dsimp only
              refine J.ins4 rfl rfl rfl (by decide) rfl rfl rfl rfl rfl (jstP.of rfl) (c_X10_isSameRow (one := (H.2.2.2.2 0 5 b)) (two := (H.2.2.2.2 8 12 q38)) hI (hI.o 0 5 43 b rfl ta0).2 (hI.o 8 12 43 q38 rfl t39).2 ) ?_
              rintro v w H ⟨rfl, rfl, hv⟩
              obtain ⟨x51, rfl, r52⟩ := hv
              have r52' : x51 = 0 ∨ x51 = 1 := r52
              try dsimp only [Option.toList, List.append, List.cons_append, List.nil_append]
              refine J.ifc rfl rfl rfl (show -2147483648 ≤ x51 ∧ x51 ≤ 2147483647 from ⟨by omega, by omega⟩) (fun hc => ?_) (fun hc => ?_)
              · have c53 : ¬ (x51 = (0 : Int)) := hc
                clear hc
                refine J.run0 2 rfl ?_
                try dsimp only
                exact (c_X1_mayTrust_l0 (b := b) hI ta0  ((32 - ((0 : Int)) : Int).toNat + 1)) ((0 : Int)) _ (show 32 - ((0 : Int)) < _ by omega) (show 0 ≤ ((0 : Int)) ∧ ((0 : Int)) ≤ 32 from ⟨by omega, by omega⟩) (show H.2.1 0 6 (H.2.2.2.2 1 0 F.2.2.2) ≠ none from (by first | assumption | (intro z; simp_all)))  (Or.inl ⟨_, rfl⟩)
              · have c54 : ¬ (¬ (x51 = (0 : Int))) := hc
                clear hc
                refine J.run0 1 rfl ?_
                try dsimp only
                exact J.retb rfl rfl rfl (show (0 : Int) = 0 ∨ (0 : Int) = 1 by omega) ⟨_, rfl, rfl, rfl, _, rfl, (show ((0 : Int)) = 0 ∨ ((0 : Int)) = 1 from by omega)⟩
end
