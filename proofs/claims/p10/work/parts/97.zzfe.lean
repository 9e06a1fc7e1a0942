-- M: X7_precommittersOf
section
variable {d : Nat} {F : cG} {T : cP} {w : jW} {H : jH}
set_option maxRecDepth 20000 in
set_option maxHeartbeats 8000000 in
theorem c_X7_precommittersOf_l0 {b : Nat} {round : Int} (hI : cJ F T w H) (ta0 : T 0 b) (hp0 : -2147483648 ≤ round ∧ round ≤ 2147483647) : ∀ (m : Nat), (∀ (z : Nat) (lv : jL), 6000 - H.1 5 0 z < (m : Int) → (0 ≤ H.1 5 0 z ∧ H.1 5 0 z ≤ 5999) → T 5 z → ((∃ j3 : Int, lv = [(4, .inr (some (5, z))), (3, .inl j3), (0, .inr (some (7, F.2.2.1))), (1, .inr (some (0, b))), (2, .inl round)])) → J false (d + 1) 51 w (13, lv, [], H) (jN fun v w' H' => w' = w ∧ H' = H ∧ ∃ rv, v = some (.inl rv) ∧ (True))) := by
  intro m
  induction m with
  | zero =>
    skip
    · intro z lv hm hi0 tv4 hlv
      exfalso
      omega
  | succ m ih =>
    skip
    · intro z lv hm hi0 tv4 hlv
      rcases hlv with ⟨j3, rfl⟩
      refine J.run 5 rfl (hI.is tv4) ?_
      try dsimp only
      refine J.icmpN rfl rfl rfl (fun hc => ?_) (fun hc => ?_)
      · have c1 : ¬ (jn (H.1 5 1 z) = jn ((2 : Int))) := hc
        clear hc
        refine J.run 2 rfl (hI.is tv4) ?_
        try dsimp only
        try dsimp only
        rcases hn2 : H.2.1 5 7 z with _ | q3
        · skip
          refine J.run0 5 rfl ?_
          try dsimp only
          exact J.reti rfl rfl rfl ⟨_, rfl, rfl, rfl, _, rfl, trivial⟩
        · have t4 : T 5 q3 := hI.n 5 7 5 z rfl tv4 hn2
          have f5 : 0 ≤ H.1 5 0 q3 ∧ H.1 5 0 q3 ≤ 5999 := hI.v 5 0 q3 t4
          have f6 := hI.nx tv4 hn2
          refine J.run0 2 rfl ?_
          try dsimp only
          exact ih (q3) _ (show 6000 - H.1 5 0 (q3) < _ by omega) (show 0 ≤ H.1 5 0 (q3) ∧ H.1 5 0 (q3) ≤ 5999 from ⟨by omega, by omega⟩) t4 ⟨_, rfl⟩
      · have c7 : ¬ (¬ (jn (H.1 5 1 z) = jn ((2 : Int)))) := hc
        clear hc
        have f8 : (-2147483648) ≤ H.1 5 5 z ∧ H.1 5 5 z ≤ 2147483647 := hI.v 5 5 z tv4
        have f9 : 0 ≤ H.1 0 0 b ∧ H.1 0 0 b ≤ 299 := hI.v 0 0 b ta0
        refine J.run 4 rfl ⟨(hI.is tv4), (hI.is ta0)⟩ ?_
        try dsimp only
        refine J.icmp rfl rfl rfl ⟨(show -2147483648 ≤ H.1 5 5 z ∧ H.1 5 5 z ≤ 2147483647 from ⟨by omega, by omega⟩), (show -2147483648 ≤ H.1 0 0 b ∧ H.1 0 0 b ≤ 2147483647 from ⟨by omega, by omega⟩)⟩ (fun hc => ?_) (fun hc => ?_)
        · have c10 : ¬ (H.1 5 5 z = H.1 0 0 b) := hc
          clear hc
          refine J.run 2 rfl (hI.is tv4) ?_
          try dsimp only
          try dsimp only
          rcases hn11 : H.2.1 5 7 z with _ | q12
          · skip
            refine J.run0 5 rfl ?_
            try dsimp only
            exact J.reti rfl rfl rfl ⟨_, rfl, rfl, rfl, _, rfl, trivial⟩
          · have t13 : T 5 q12 := hI.n 5 7 5 z rfl tv4 hn11
            have f14 : 0 ≤ H.1 5 0 q12 ∧ H.1 5 0 q12 ≤ 5999 := hI.v 5 0 q12 t13
            have f15 := hI.nx tv4 hn11
            refine J.run0 2 rfl ?_
            try dsimp only
            exact ih (q12) _ (show 6000 - H.1 5 0 (q12) < _ by omega) (show 0 ≤ H.1 5 0 (q12) ∧ H.1 5 0 (q12) ≤ 5999 from ⟨by omega, by omega⟩) t13 ⟨_, rfl⟩
        · have c16 : ¬ (¬ (H.1 5 5 z = H.1 0 0 b)) := hc
          clear hc
          have f17 : 0 ≤ H.1 5 2 z ∧ H.1 5 2 z ≤ 15 := hI.v 5 2 z tv4
          have f18 : -2147483648 ≤ jshl ((1 : Int)) (H.1 5 2 z) ∧ jshl ((1 : Int)) (H.1 5 2 z) ≤ 2147483647 := jI32 _
          have f19 : -2147483648 ≤ jor (j3) (jshl ((1 : Int)) (H.1 5 2 z)) ∧ jor (j3) (jshl ((1 : Int)) (H.1 5 2 z)) ≤ 2147483647 := jI32 _
          refine J.run 9 rfl ⟨(hI.is tv4), (hI.is tv4)⟩ ?_
          try dsimp only
          try dsimp only
          rcases hn20 : H.2.1 5 7 z with _ | q21
          · skip
            refine J.run0 5 rfl ?_
            try dsimp only
            exact J.reti rfl rfl rfl ⟨_, rfl, rfl, rfl, _, rfl, trivial⟩
          · have t22 : T 5 q21 := hI.n 5 7 5 z rfl tv4 hn20
            have f23 : 0 ≤ H.1 5 0 q21 ∧ H.1 5 0 q21 ≤ 5999 := hI.v 5 0 q21 t22
            have f24 := hI.nx tv4 hn20
            refine J.run0 2 rfl ?_
            try dsimp only
            exact ih (q21) _ (show 6000 - H.1 5 0 (q21) < _ by omega) (show 0 ≤ H.1 5 0 (q21) ∧ H.1 5 0 (q21) ≤ 5999 from ⟨by omega, by omega⟩) t22 ⟨_, rfl⟩
set_option maxRecDepth 20000 in
set_option maxHeartbeats 8000000 in
theorem c_X7_precommittersOf {b : Nat} {round : Int} (hI : cJ F T w H) (ta0 : T 0 b) (hp0 : -2147483648 ≤ round ∧ round ≤ 2147483647) : J false (d + 1) 51 w (0, jargs 0 [.inr (some (7, F.2.2.1)), .inr (some (0, b)), .inl round], [], H) (jN fun v w' H' => w' = w ∧ H' = H ∧ ∃ rv, v = some (.inl rv) ∧ (True)) := by
  have f25 : 0 ≤ H.1 0 1 b ∧ H.1 0 1 b ≤ 299 := hI.v 0 1 b ta0
  refine J.run 6 rfl (hI.is ta0) ?_
  try dsimp only
  refine J.inv rfl rfl rfl rfl rfl rfl ((jD_w rfl).mpr (hI.is hI.top.2.2.1)) rfl rfl rfl rfl rfl (c_X7_firstOf (height := H.1 0 1 b) (round := round) hI  (show -2147483648 ≤ (H.1 0 1 b) ∧ (H.1 0 1 b) ≤ 2147483647 from ⟨by omega, by omega⟩) (show -2147483648 ≤ round ∧ round ≤ 2147483647 from ⟨by omega, by omega⟩)) ?_
  rintro v w H ⟨rfl, rfl, hv⟩
  rcases hv with ⟨rfl, r28⟩ | ⟨q26, rfl, t27, r28⟩
  · skip
    try dsimp only [Option.toList, List.append, List.cons_append, List.nil_append]
    refine J.run0 4 rfl ?_
    try dsimp only
    exact J.reti rfl rfl rfl ⟨_, rfl, rfl, rfl, _, rfl, trivial⟩
  · skip
    try dsimp only [Option.toList, List.append, List.cons_append, List.nil_append]
    have f29 : 0 ≤ H.1 5 0 q26 ∧ H.1 5 0 q26 ≤ 5999 := hI.v 5 0 q26 t27
    refine J.run0 1 rfl ?_
    try dsimp only
    exact (c_X7_precommittersOf_l0 (b := b) (round := round) hI ta0 hp0 ((6000 - H.1 5 0 (q26) : Int).toNat + 1)) (q26) _ (show 6000 - H.1 5 0 (q26) < _ by omega) (show 0 ≤ H.1 5 0 (q26) ∧ H.1 5 0 (q26) ≤ 5999 from ⟨by omega, by omega⟩) t27 ⟨_, rfl⟩
end
-- M: X6_height
section
variable {d : Nat} {F : cG} {T : cP} {w : jW} {H : jH}
set_option maxRecDepth 20000 in
set_option maxHeartbeats 8000000 in
theorem c_X6_height {a0 : Nat} (hI : cJ F T w H) (ta0 : T 6 a0)  : J false d 31 w (0, jargs 0 [.inr (some (6, a0))], [], H) (jN fun v w' H' => w' = w ∧ H' = H ∧ ∃ rv, v = some (.inl rv) ∧ (rv = H.1 0 1 (H.2.2.2.2 6 1 a0) + 1 ∧ 1 ≤ rv ∧ rv ≤ 300)) := by
  have f1 : 0 ≤ H.1 0 1 (H.2.2.2.2 6 1 a0) ∧ H.1 0 1 (H.2.2.2.2 6 1 a0) ≤ 299 := hI.v 0 1 (H.2.2.2.2 6 1 a0) (hI.o 6 1 0 a0 rfl ta0).2
  refine J.run 5 rfl ⟨⟨(hI.is ta0), (hI.o 6 1 0 a0 rfl ta0).1⟩, (hI.is (hI.o 6 1 0 a0 rfl ta0).2)⟩ ?_
  try dsimp only
  exact J.reti rfl rfl rfl ⟨_, rfl, rfl, rfl, _, rfl, (show ((H.1 0 1 (H.2.2.2.2 6 1 a0)) + (1 : Int)) = H.1 0 1 (H.2.2.2.2 6 1 a0) + 1 ∧ 1 ≤ ((H.1 0 1 (H.2.2.2.2 6 1 a0)) + (1 : Int)) ∧ ((H.1 0 1 (H.2.2.2.2 6 1 a0)) + (1 : Int)) ≤ 300 from ⟨by omega, by omega, by omega⟩)⟩
end
-- M: X6_acts
section
variable {d : Nat} {F : cG} {T : cP} {w : jW} {H : jH}
set_option maxRecDepth 20000 in
set_option maxHeartbeats 8000000 in
theorem c_X6_acts {a0 : Nat} (hI : cJ F T w H) (ta0 : T 6 a0)  : J false d 32 w (0, jargs 0 [.inr (some (6, a0))], [], H) (jN fun v w' H' => w' = w ∧ H' = H ∧ ∃ rv, v = some (.inl rv) ∧ ((rv = 0 ∨ rv = 1) ∧ (rv = 1 → H.1 6 11 a0 = 0) ∧ (rv = 1 → H.1 0 1 (H.2.2.2.2 6 1 a0) < 120))) := by
  have f1 : 0 ≤ H.1 6 10 a0 ∧ H.1 6 10 a0 ≤ 1 := hI.v 6 10 a0 ta0
  refine J.run 2 rfl (hI.is ta0) ?_
  try dsimp only
  refine J.ifc rfl rfl rfl (show -2147483648 ≤ H.1 6 10 a0 ∧ H.1 6 10 a0 ≤ 2147483647 from ⟨by omega, by omega⟩) (fun hc => ?_) (fun hc => ?_)
  · have c2 : ¬ (H.1 6 10 a0 = (0 : Int)) := hc
    clear hc
    refine J.run0 1 rfl ?_
    try dsimp only
    exact J.retb rfl rfl rfl (show (0 : Int) = 0 ∨ (0 : Int) = 1 by omega) ⟨_, rfl, rfl, rfl, _, rfl, (show (((0 : Int)) = 0 ∨ ((0 : Int)) = 1) ∧ (((0 : Int)) = 1 → H.1 6 11 a0 = 0) ∧ (((0 : Int)) = 1 → H.1 0 1 (H.2.2.2.2 6 1 a0) < 120) from ⟨by omega, by omega, by omega⟩)⟩
  · have c3 : ¬ (¬ (H.1 6 10 a0 = (0 : Int))) := hc
    clear hc
    have f4 : 0 ≤ H.1 6 11 a0 ∧ H.1 6 11 a0 ≤ 1 := hI.v 6 11 a0 ta0
    refine J.run 2 rfl (hI.is ta0) ?_
    try dsimp only
    refine J.ifc rfl rfl rfl (show -2147483648 ≤ H.1 6 11 a0 ∧ H.1 6 11 a0 ≤ 2147483647 from ⟨by omega, by omega⟩) (fun hc => ?_) (fun hc => ?_)
    · have c5 : ¬ (H.1 6 11 a0 = (0 : Int)) := hc
      clear hc
      refine J.run0 1 rfl ?_
      try dsimp only
      exact J.retb rfl rfl rfl (show (0 : Int) = 0 ∨ (0 : Int) = 1 by omega) ⟨_, rfl, rfl, rfl, _, rfl, (show (((0 : Int)) = 0 ∨ ((0 : Int)) = 1) ∧ (((0 : Int)) = 1 → H.1 6 11 a0 = 0) ∧ (((0 : Int)) = 1 → H.1 0 1 (H.2.2.2.2 6 1 a0) < 120) from ⟨by omega, by omega, by omega⟩)⟩
    · have c6 : ¬ (¬ (H.1 6 11 a0 = (0 : Int))) := hc
      clear hc
      have f7 : 0 ≤ H.1 0 1 (H.2.2.2.2 6 1 a0) ∧ H.1 0 1 (H.2.2.2.2 6 1 a0) ≤ 299 := hI.v 0 1 (H.2.2.2.2 6 1 a0) (hI.o 6 1 0 a0 rfl ta0).2
      refine J.run 4 rfl ⟨⟨(hI.is ta0), (hI.o 6 1 0 a0 rfl ta0).1⟩, (hI.is (hI.o 6 1 0 a0 rfl ta0).2)⟩ ?_
      try dsimp only
      refine J.icmp rfl rfl rfl ⟨(show -2147483648 ≤ H.1 0 1 (H.2.2.2.2 6 1 a0) ∧ H.1 0 1 (H.2.2.2.2 6 1 a0) ≤ 2147483647 from ⟨by omega, by omega⟩), (show -2147483648 ≤ (120 : Int) ∧ (120 : Int) ≤ 2147483647 from ⟨by omega, by omega⟩)⟩ (fun hc => ?_) (fun hc => ?_)
      · have c8 : (120 : Int) ≤ H.1 0 1 (H.2.2.2.2 6 1 a0) := hc
        clear hc
        refine J.run0 1 rfl ?_
        try dsimp only
        exact J.retb rfl rfl rfl (show (0 : Int) = 0 ∨ (0 : Int) = 1 by omega) ⟨_, rfl, rfl, rfl, _, rfl, (show (((0 : Int)) = 0 ∨ ((0 : Int)) = 1) ∧ (((0 : Int)) = 1 → H.1 6 11 a0 = 0) ∧ (((0 : Int)) = 1 → H.1 0 1 (H.2.2.2.2 6 1 a0) < 120) from ⟨by omega, by omega, by omega⟩)⟩
      · have c9 : ¬ ((120 : Int) ≤ H.1 0 1 (H.2.2.2.2 6 1 a0)) := hc
        clear hc
        refine J.run0 2 rfl ?_
        try dsimp only
        exact J.retb rfl rfl rfl (show (1 : Int) = 0 ∨ (1 : Int) = 1 by omega) ⟨_, rfl, rfl, rfl, _, rfl, (show (((1 : Int)) = 0 ∨ ((1 : Int)) = 1) ∧ (((1 : Int)) = 1 → H.1 6 11 a0 = 0) ∧ (((1 : Int)) = 1 → H.1 0 1 (H.2.2.2.2 6 1 a0) < 120) from ⟨by omega, by omega, by omega⟩)⟩
end
-- M: X6_isMost
section
variable {d : Nat} {F : cG} {T : cP} {w : jW} {H : jH}
set_option maxRecDepth 20000 in
set_option maxHeartbeats 8000000 in
theorem c_X6_isMost {a0 : Nat} {bits : Int} (hI : cJ F T w H) (ta0 : T 6 a0)  : J false (d + 2) 33 w (0, jargs 0 [.inr (some (6, a0)), .inl bits], [], H) (jN fun v w' H' => w' = w ∧ H' = H ∧ ∃ rv, v = some (.inl rv) ∧ (rv = 0 ∨ rv = 1)) := by
  refine J.run 3 rfl ⟨⟨(hI.is ta0), (hI.o 6 1 0 a0 rfl ta0).1⟩, (hI.is (hI.o 6 1 0 a0 rfl ta0).2)⟩ ?_
  try dsimp only
  try dsimp only
  rcases hn1 : H.2.1 0 6 (H.2.2.2.2 6 1 a0) with _ | q2
  · skip
    refine J.run0 2 rfl ?_
    try dsimp only
    exact J.retb rfl rfl rfl (show (0 : Int) = 0 ∨ (0 : Int) = 1 by omega) ⟨_, rfl, rfl, rfl, _, rfl, (show ((0 : Int)) = 0 ∨ ((0 : Int)) = 1 from by omega)⟩
  · have t3 : T 8 q2 := hI.n 0 6 8 (H.2.2.2.2 6 1 a0) rfl (hI.o 6 1 0 a0 rfl ta0).2 hn1
    refine J.run 4 rfl ⟨⟨(hI.is ta0), (hI.o 6 1 0 a0 rfl ta0).1⟩, (hI.is (hI.o 6 1 0 a0 rfl ta0).2)⟩ ?_
    try dsimp only
    try dsimp only
    rw [hn1]
    refine J.run0 1 rfl ?_
    try dsimp only
    refine J.inv rfl rfl rfl rfl rfl rfl ((jD_w rfl).mpr (hI.is t3)) rfl rfl rfl rfl rfl (c_X8_isMost (a0 := q2) (bits := bits) hI t3 ) ?_
    rintro v w H ⟨rfl, rfl, hv⟩
    obtain ⟨x4, rfl, r5⟩ := hv
    have r5' : x4 = 0 ∨ x4 = 1 := r5
    try dsimp only [Option.toList, List.append, List.cons_append, List.nil_append]
    refine J.ifc rfl rfl rfl (show -2147483648 ≤ x4 ∧ x4 ≤ 2147483647 from ⟨by omega, by omega⟩) (fun hc => ?_) (fun hc => ?_)
    · have c6 : x4 = (0 : Int) := hc
      clear hc
      refine J.run0 1 rfl ?_
      try dsimp only
      exact J.retb rfl rfl rfl (show (0 : Int) = 0 ∨ (0 : Int) = 1 by omega) ⟨_, rfl, rfl, rfl, _, rfl, (show ((0 : Int)) = 0 ∨ ((0 : Int)) = 1 from by omega)⟩
    · have c7 : ¬ (x4 = (0 : Int)) := hc
      clear hc
      refine J.run0 2 rfl ?_
      try dsimp only
      exact J.retb rfl rfl rfl (show (1 : Int) = 0 ∨ (1 : Int) = 1 by omega) ⟨_, rfl, rfl, rfl, _, rfl, (show ((1 : Int)) = 0 ∨ ((1 : Int)) = 1 from by omega)⟩
end
-- M: X6_isSome
section
variable {d : Nat} {F : cG} {T : cP} {w : jW} {H : jH}
set_option maxRecDepth 20000 in
set_option maxHeartbeats 8000000 in
theorem c_X6_isSome {a0 : Nat} {bits : Int} (hI : cJ F T w H) (ta0 : T 6 a0)  : J false (d + 2) 34 w (0, jargs 0 [.inr (some (6, a0)), .inl bits], [], H) (jN fun v w' H' => w' = w ∧ H' = H ∧ ∃ rv, v = some (.inl rv) ∧ (rv = 0 ∨ rv = 1)) := by
  refine J.run 3 rfl ⟨⟨(hI.is ta0), (hI.o 6 1 0 a0 rfl ta0).1⟩, (hI.is (hI.o 6 1 0 a0 rfl ta0).2)⟩ ?_
  try dsimp only
  try dsimp only
  rcases hn1 : H.2.1 0 6 (H.2.2.2.2 6 1 a0) with _ | q2
  · skip
    refine J.run0 2 rfl ?_
    try dsimp only
    exact J.retb rfl rfl rfl (show (0 : Int) = 0 ∨ (0 : Int) = 1 by omega) ⟨_, rfl, rfl, rfl, _, rfl, (show ((0 : Int)) = 0 ∨ ((0 : Int)) = 1 from by omega)⟩
  · have t3 : T 8 q2 := hI.n 0 6 8 (H.2.2.2.2 6 1 a0) rfl (hI.o 6 1 0 a0 rfl ta0).2 hn1
    refine J.run 4 rfl ⟨⟨(hI.is ta0), (hI.o 6 1 0 a0 rfl ta0).1⟩, (hI.is (hI.o 6 1 0 a0 rfl ta0).2)⟩ ?_
    try dsimp only
    try dsimp only
    rw [hn1]
    refine J.run0 1 rfl ?_
    try dsimp only
    refine J.inv rfl rfl rfl rfl rfl rfl ((jD_w rfl).mpr (hI.is t3)) rfl rfl rfl rfl rfl (c_X8_isSome (a0 := q2) (bits := bits) hI t3 ) ?_
    rintro v w H ⟨rfl, rfl, hv⟩
    obtain ⟨x4, rfl, r5⟩ := hv
    have r5' : x4 = 0 ∨ x4 = 1 := r5
    try dsimp only [Option.toList, List.append, List.cons_append, List.nil_append]
    refine J.ifc rfl rfl rfl (show -2147483648 ≤ x4 ∧ x4 ≤ 2147483647 from ⟨by omega, by omega⟩) (fun hc => ?_) (fun hc => ?_)
    · have c6 : x4 = (0 : Int) := hc
      clear hc
      refine J.run0 1 rfl ?_
      try dsimp only
      exact J.retb rfl rfl rfl (show (0 : Int) = 0 ∨ (0 : Int) = 1 by omega) ⟨_, rfl, rfl, rfl, _, rfl, (show ((0 : Int)) = 0 ∨ ((0 : Int)) = 1 from by omega)⟩
    · have c7 : ¬ (x4 = (0 : Int)) := hc
      clear hc
      refine J.run0 2 rfl ?_
      try dsimp only
      exact J.retb rfl rfl rfl (show (1 : Int) = 0 ∨ (1 : Int) = 1 by omega) ⟨_, rfl, rfl, rfl, _, rfl, (show ((1 : Int)) = 0 ∨ ((1 : Int)) = 1 from by omega)⟩
end
-- M: X6_proposerOf
section
variable {d : Nat} {F : cG} {T : cP} {w : jW} {H : jH}
set_option maxRecDepth 20000 in
set_option maxHeartbeats 8000000 in
theorem c_X6_proposerOf {a0 : Nat} {r : Int} (hI : cJ F T w H) (ta0 : T 6 a0)  : J false (d + 1) 35 w (0, jargs 0 [.inr (some (6, a0)), .inl r], [], H) (jN fun v w' H' => w' = w ∧ H' = H ∧ ∃ rv, v = some (.inl rv) ∧ (-1 ≤ rv ∧ rv ≤ 15)) := by
  refine J.run 3 rfl ⟨⟨(hI.is ta0), (hI.o 6 1 0 a0 rfl ta0).1⟩, (hI.is (hI.o 6 1 0 a0 rfl ta0).2)⟩ ?_
  try dsimp only
  try dsimp only
  rcases hn1 : H.2.1 0 6 (H.2.2.2.2 6 1 a0) with _ | q2
  · skip
    refine J.run0 3 rfl ?_
    try dsimp only
    exact J.reti rfl rfl rfl ⟨_, rfl, rfl, rfl, _, rfl, (show -1 ≤ ((-1 : Int)) ∧ ((-1 : Int)) ≤ 15 from ⟨by omega, by omega⟩)⟩
  · have t3 : T 8 q2 := hI.n 0 6 8 (H.2.2.2.2 6 1 a0) rfl (hI.o 6 1 0 a0 rfl ta0).2 hn1
    refine J.run 4 rfl ⟨⟨(hI.is ta0), (hI.o 6 1 0 a0 rfl ta0).1⟩, (hI.is (hI.o 6 1 0 a0 rfl ta0).2)⟩ ?_
    try dsimp only
    try dsimp only
    rw [hn1]
    refine J.run0 1 rfl ?_
    try dsimp only
    refine J.inv rfl rfl rfl rfl rfl rfl ((jD_w rfl).mpr (hI.is ta0)) rfl rfl rfl rfl rfl (c_X6_height (a0 := a0) hI ta0 ) ?_
    rintro v w H ⟨rfl, rfl, hv⟩
    obtain ⟨x4, rfl, r5⟩ := hv
    have r5' : x4 = H.1 0 1 (H.2.2.2.2 6 1 a0) + 1 ∧ 1 ≤ x4 ∧ x4 ≤ 300 := r5
    try dsimp only [Option.toList, List.append, List.cons_append, List.nil_append]
    refine J.run0 1 rfl ?_
    try dsimp only
    refine J.inv rfl rfl rfl rfl rfl rfl ((jD_w rfl).mpr (hI.is t3)) rfl rfl rfl rfl rfl (c_X8_proposerOf (a0 := q2) (height := x4) (round := r) hI t3 ) ?_
    rintro v w H ⟨rfl, rfl, hv⟩
    obtain ⟨x6, rfl, r7⟩ := hv
    have r7' : -1 ≤ x6 ∧ x6 ≤ 15 := r7
    try dsimp only [Option.toList, List.append, List.cons_append, List.nil_append]
    exact J.reti rfl rfl rfl ⟨_, rfl, rfl, rfl, _, rfl, (show -1 ≤ (x6) ∧ (x6) ≤ 15 from ⟨by omega, by omega⟩)⟩
end
