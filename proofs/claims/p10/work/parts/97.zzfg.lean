-- M: X10_isFaulty
section
variable {d : Nat} {F : cG} {T : cP} {w : jW} {H : jH}
set_option maxRecDepth 20000 in
set_option maxHeartbeats 8000000 in
theorem c_X10_isFaulty {n : Int} (hI : cJ F T w H)  (hp0 : -2147483648 ≤ n ∧ n ≤ 2147483647) : J false (d + 1) 104 w (0, jargs 0 [.inr (some (10, F.1)), .inl n], [], H) (jN fun v w' H' => w' = w ∧ H' = H ∧ ∃ rv, v = some (.inl rv) ∧ ((rv = 0 ∨ rv = 1) ∧ (rv = 1 → 0 ≤ n ∧ n ≤ 15))) := by
  refine J.run0 1 rfl ?_
  try dsimp only
  refine J.ins4 rfl rfl rfl (by decide) rfl rfl rfl rfl rfl (jstP.of rfl) (c_X10_isNode (n := n) hI  (show -2147483648 ≤ n ∧ n ≤ 2147483647 from ⟨by omega, by omega⟩)) ?_
  rintro v w H ⟨rfl, rfl, hv⟩
  obtain ⟨x1, rfl, r2⟩ := hv
  have r2' : (x1 = 0 ∨ x1 = 1) ∧ (x1 = 1 → 0 ≤ n ∧ n ≤ 15) ∧ (x1 = 0 → n < 0 ∨ 15 < n) := r2
  try dsimp only [Option.toList, List.append, List.cons_append, List.nil_append]
  refine J.ifc rfl rfl rfl (show -2147483648 ≤ x1 ∧ x1 ≤ 2147483647 from ⟨by omega, by omega⟩) (fun hc => ?_) (fun hc => ?_)
  · have c3 : x1 = (0 : Int) := hc
    clear hc
    refine J.run0 1 rfl ?_
    try dsimp only
    exact J.retb rfl rfl rfl (show (0 : Int) = 0 ∨ (0 : Int) = 1 by omega) ⟨_, rfl, rfl, rfl, _, rfl, (show (((0 : Int)) = 0 ∨ ((0 : Int)) = 1) ∧ (((0 : Int)) = 1 → 0 ≤ n ∧ n ≤ 15) from ⟨by omega, by omega⟩)⟩
  · have c4 : ¬ (x1 = (0 : Int)) := hc
    clear hc
    refine J.run 4 rfl ⟨⟨(hI.is hI.top.1), hI.is (hI.r 10 2 40 F.1 rfl hI.top.1)⟩, (show w.1 40 F.1 ∧ 0 ≤ n ∧ n < 16 from ⟨hI.is (hI.r 10 2 40 F.1 rfl hI.top.1), by omega, by omega⟩)⟩ ?_
    try dsimp only
    try dsimp only
    rcases hn5 : H.2.2.2.1 40 F.1 (n) with _ | q6
    · exact absurd hn5 (hI.nd (by omega) (by omega))
    · have t7 : T 6 q6 := hI.a 40 F.1 rfl (hI.r 10 2 40 F.1 rfl hI.top.1) hn5
      have f8 : 0 ≤ H.1 6 10 q6 ∧ H.1 6 10 q6 ≤ 1 := hI.v 6 10 q6 t7
      refine J.run 1 rfl (hI.is t7) ?_
      try dsimp only
      refine J.ifc rfl rfl rfl (show -2147483648 ≤ H.1 6 10 q6 ∧ H.1 6 10 q6 ≤ 2147483647 from ⟨by omega, by omega⟩) (fun hc => ?_) (fun hc => ?_)
      · have c9 : H.1 6 10 q6 = (0 : Int) := hc
        clear hc
        refine J.run0 1 rfl ?_
        try dsimp only
        exact J.retb rfl rfl rfl (show (0 : Int) = 0 ∨ (0 : Int) = 1 by omega) ⟨_, rfl, rfl, rfl, _, rfl, (show (((0 : Int)) = 0 ∨ ((0 : Int)) = 1) ∧ (((0 : Int)) = 1 → 0 ≤ n ∧ n ≤ 15) from ⟨by omega, by omega⟩)⟩
      · have c10 : ¬ (H.1 6 10 q6 = (0 : Int)) := hc
        clear hc
        refine J.run0 2 rfl ?_
        try dsimp only
        exact J.retb rfl rfl rfl (show (1 : Int) = 0 ∨ (1 : Int) = 1 by omega) ⟨_, rfl, rfl, rfl, _, rfl, (show (((1 : Int)) = 0 ∨ ((1 : Int)) = 1) ∧ (((1 : Int)) = 1 → 0 ≤ n ∧ n ≤ 15) from ⟨by omega, by omega⟩)⟩
end
-- M: X10_faultyNodes
section
variable {d : Nat} {F : cG} {T : cP} {w : jW} {H : jH}
set_option maxRecDepth 20000 in
set_option maxHeartbeats 8000000 in
theorem c_X10_faultyNodes_l0  (hI : cJ F T w H)   : ∀ (m : Nat), (∀ (s i : Int) (lv : jL), 16 - i < (m : Int) → (0 ≤ i ∧ i ≤ 16) → (0 ≤ s ∧ s ≤ i) → (s = jcnt (cfl F H) i.toNat) → ((lv = [(2, .inl i), (1, .inl s), (0, .inr (some (10, F.1)))])) → J false d 105 w (4, lv, [], H) (jN fun v w' H' => w' = w ∧ H' = H ∧ ∃ rv, v = some (.inl rv) ∧ (rv = jcnt (cfl F H) 16 ∧ 0 ≤ rv ∧ rv ≤ 16))) := by
  intro m
  induction m with
  | zero =>
    skip
    · intro s i lv hm hi0 hi1 hi2 hlv
      exfalso
      omega
  | succ m ih =>
    skip
    · intro s i lv hm hi0 hi1 hi2 hlv
      rcases hlv with rfl
      refine J.run0 2 rfl ?_
      try dsimp only
      refine J.icmp rfl rfl rfl ⟨(show -2147483648 ≤ i ∧ i ≤ 2147483647 from ⟨by omega, by omega⟩), (show -2147483648 ≤ (16 : Int) ∧ (16 : Int) ≤ 2147483647 from ⟨by omega, by omega⟩)⟩ (fun hc => ?_) (fun hc => ?_)
      · have c1 : (16 : Int) ≤ i := hc
        clear hc
        refine J.run0 1 rfl ?_
        try dsimp only
        exact J.reti rfl rfl rfl ⟨_, rfl, rfl, rfl, _, rfl, (show (s) = jcnt (cfl F H) 16 ∧ 0 ≤ (s) ∧ (s) ≤ 16 from ⟨by rw [← show i.toNat = 16 by omega]; assumption, by omega, by omega⟩)⟩
      · have c2 : ¬ ((16 : Int) ≤ i) := hc
        clear hc
        refine J.run 4 rfl ⟨⟨(hI.is hI.top.1), hI.is (hI.r 10 2 40 F.1 rfl hI.top.1)⟩, (show w.1 40 F.1 ∧ 0 ≤ i ∧ i < 16 from ⟨hI.is (hI.r 10 2 40 F.1 rfl hI.top.1), by omega, by omega⟩)⟩ ?_
        try dsimp only
        try dsimp only
        rcases hn3 : H.2.2.2.1 40 F.1 (i) with _ | q4
        · exact absurd hn3 (hI.nd (by omega) (by omega))
        · have t5 : T 6 q4 := hI.a 40 F.1 rfl (hI.r 10 2 40 F.1 rfl hI.top.1) hn3
          have f6 : 0 ≤ H.1 6 10 q4 ∧ H.1 6 10 q4 ≤ 1 := hI.v 6 10 q4 t5
          refine J.run 1 rfl (hI.is t5) ?_
          try dsimp only
          refine J.ifc rfl rfl rfl (show -2147483648 ≤ H.1 6 10 q4 ∧ H.1 6 10 q4 ≤ 2147483647 from ⟨by omega, by omega⟩) (fun hc => ?_) (fun hc => ?_)
          · have c7 : H.1 6 10 q4 = (0 : Int) := hc
            clear hc
            refine J.run0 2 rfl ?_
            try dsimp only
            exact ih (s) (i + 1) _ (show 16 - (i + 1) < _ by omega) (show 0 ≤ (i + 1) ∧ (i + 1) ≤ 16 from ⟨by omega, by omega⟩) (show 0 ≤ (s) ∧ (s) ≤ (i + 1) from ⟨by omega, by omega⟩) (show (s) = jcnt (cfl F H) (i + 1).toNat from (by first | exact rfl | (have e := jcnt_succ (f := cfl F H) (s := s) (i := i) (by omega) (by assumption); have e2 : cfl F H i = H.1 6 10 q4 := by unfold cfl; rw [hn3]); omega))  rfl
          · have c8 : ¬ (H.1 6 10 q4 = (0 : Int)) := hc
            clear hc
            refine J.run0 3 rfl ?_
            try dsimp only
            exact ih (s + 1) (i + 1) _ (show 16 - (i + 1) < _ by omega) (show 0 ≤ (i + 1) ∧ (i + 1) ≤ 16 from ⟨by omega, by omega⟩) (show 0 ≤ (s + 1) ∧ (s + 1) ≤ (i + 1) from ⟨by omega, by omega⟩) (show (s + 1) = jcnt (cfl F H) (i + 1).toNat from (by first | exact rfl | (have e := jcnt_succ (f := cfl F H) (s := s) (i := i) (by omega) (by assumption); have e2 : cfl F H i = H.1 6 10 q4 := by unfold cfl; rw [hn3]); omega))  rfl
set_option maxRecDepth 20000 in
set_option maxHeartbeats 8000000 in
theorem c_X10_faultyNodes  (hI : cJ F T w H)   : J false d 105 w (0, jargs 0 [.inr (some (10, F.1))], [], H) (jN fun v w' H' => w' = w ∧ H' = H ∧ ∃ rv, v = some (.inl rv) ∧ (rv = jcnt (cfl F H) 16 ∧ 0 ≤ rv ∧ rv ≤ 16)) := by
  refine J.run0 4 rfl ?_
  try dsimp only
  exact (c_X10_faultyNodes_l0  hI   ((16 - ((0 : Int)) : Int).toNat + 1)) ((0 : Int)) ((0 : Int)) _ (show 16 - ((0 : Int)) < _ by omega) (show 0 ≤ ((0 : Int)) ∧ ((0 : Int)) ≤ 16 from ⟨by omega, by omega⟩) (show 0 ≤ ((0 : Int)) ∧ ((0 : Int)) ≤ ((0 : Int)) from ⟨by omega, by omega⟩) (show ((0 : Int)) = jcnt (cfl F H) ((0 : Int)).toNat from (by first | exact rfl | (have e := jcnt_succ (f := cfl F H) (s := s) (i := i) (by omega) (by assumption); have e2 : cfl F H i = H.1 6 10 q := by unfold cfl; rw [hn]); omega))  rfl
end
-- M: X10_splitPairs
section
variable {d : Nat} {F : cG} {T : cP} {w : jW} {H : jH}
set_option maxRecDepth 20000 in
set_option maxHeartbeats 8000000 in
theorem c_X10_splitPairs_l0  (hI : cJ F T w H)   : ∀ (m : Nat), (∀ (i : Int) (lv : jL), 100 * (16 - i) < (m : Int) → (0 ≤ i ∧ i ≤ 16) → ((∃ j1 : Int, lv = [(2, .inl i), (1, .inl j1), (0, .inr (some (10, F.1)))]) ∨ (∃ j3 : Int, ∃ j1 : Int, lv = [(2, .inl i), (3, .inl j3), (1, .inl j1), (0, .inr (some (10, F.1)))])) → J false (d + 2) 106 w (4, lv, [], H) (jN fun v w' H' => w' = w ∧ H' = H ∧ ∃ rv, v = some (.inl rv) ∧ (True))) ∧ (∀ (i j : Int) (lv : jL), 100 * (16 - i) - 1 - j < (m : Int) → (0 ≤ i ∧ i < 16) → (0 ≤ j ∧ j ≤ 16) → ((∃ j1 : Int, lv = [(3, .inl j), (2, .inl i), (1, .inl j1), (0, .inr (some (10, F.1)))]) ∨ (∃ j1 : Int, lv = [(3, .inl j), (1, .inl j1), (2, .inl i), (0, .inr (some (10, F.1)))])) → J false (d + 2) 106 w (14, lv, [], H) (jN fun v w' H' => w' = w ∧ H' = H ∧ ∃ rv, v = some (.inl rv) ∧ (True))) := by
  intro m
  induction m with
  | zero =>
    refine ⟨?_, ?_⟩
    · intro i lv hm hi0 hlv
      exfalso
      omega
    · intro i j lv hm hi0 hi1 hlv
      exfalso
      omega
  | succ m ih =>
    refine ⟨?_, ?_⟩
    · intro i lv hm hi0 hlv
      rcases hlv with ⟨j1, rfl⟩ | ⟨j3, j1, rfl⟩
      · skip
        refine J.run0 2 rfl ?_
        try dsimp only
        refine J.icmp rfl rfl rfl ⟨(show -2147483648 ≤ i ∧ i ≤ 2147483647 from ⟨by omega, by omega⟩), (show -2147483648 ≤ (16 : Int) ∧ (16 : Int) ≤ 2147483647 from ⟨by omega, by omega⟩)⟩ (fun hc => ?_) (fun hc => ?_)
        · have c1 : (16 : Int) ≤ i := hc
          clear hc
          refine J.run0 1 rfl ?_
          try dsimp only
          exact J.reti rfl rfl rfl ⟨_, rfl, rfl, rfl, _, rfl, trivial⟩
        · have c2 : ¬ ((16 : Int) ≤ i) := hc
          clear hc
          refine J.run0 4 rfl ?_
          try dsimp only
          exact ih.2 (i) (i + (1 : Int)) _ (show 100 * (16 - (i)) - 1 - (i + (1 : Int)) < _ by omega) (show 0 ≤ (i) ∧ (i) < 16 from ⟨by omega, by omega⟩) (show 0 ≤ (i + (1 : Int)) ∧ (i + (1 : Int)) ≤ 16 from ⟨by omega, by omega⟩)  (Or.inl ⟨_, rfl⟩)
      · skip
        refine J.run0 2 rfl ?_
        try dsimp only
        refine J.icmp rfl rfl rfl ⟨(show -2147483648 ≤ i ∧ i ≤ 2147483647 from ⟨by omega, by omega⟩), (show -2147483648 ≤ (16 : Int) ∧ (16 : Int) ≤ 2147483647 from ⟨by omega, by omega⟩)⟩ (fun hc => ?_) (fun hc => ?_)
        · have c3 : (16 : Int) ≤ i := hc
          clear hc
          refine J.run0 1 rfl ?_
          try dsimp only
          exact J.reti rfl rfl rfl ⟨_, rfl, rfl, rfl, _, rfl, trivial⟩
        · have c4 : ¬ ((16 : Int) ≤ i) := hc
          clear hc
          refine J.run0 4 rfl ?_
          try dsimp only
          exact ih.2 (i) (i + (1 : Int)) _ (show 100 * (16 - (i)) - 1 - (i + (1 : Int)) < _ by omega) (show 0 ≤ (i) ∧ (i) < 16 from ⟨by omega, by omega⟩) (show 0 ≤ (i + (1 : Int)) ∧ (i + (1 : Int)) ≤ 16 from ⟨by omega, by omega⟩)  (Or.inl ⟨_, rfl⟩)
    · intro i j lv hm hi0 hi1 hlv
      rcases hlv with ⟨j1, rfl⟩ | ⟨j1, rfl⟩
      · skip
        refine J.run0 2 rfl ?_
        try dsimp only
        refine J.icmp rfl rfl rfl ⟨(show -2147483648 ≤ j ∧ j ≤ 2147483647 from ⟨by omega, by omega⟩), (show -2147483648 ≤ (16 : Int) ∧ (16 : Int) ≤ 2147483647 from ⟨by omega, by omega⟩)⟩ (fun hc => ?_) (fun hc => ?_)
        · have c5 : (16 : Int) ≤ j := hc
          clear hc
          refine J.run0 2 rfl ?_
          try dsimp only
          exact ih.1 (i + 1) _ (show 100 * (16 - (i + 1)) < _ by omega) (show 0 ≤ (i + 1) ∧ (i + 1) ≤ 16 from ⟨by omega, by omega⟩)  (Or.inr (⟨_, _, rfl⟩))
        · have c6 : ¬ ((16 : Int) ≤ j) := hc
          clear hc
          refine J.run 4 rfl ⟨⟨(hI.is hI.top.1), hI.is (hI.r 10 2 40 F.1 rfl hI.top.1)⟩, (show w.1 40 F.1 ∧ 0 ≤ i ∧ i < 16 from ⟨hI.is (hI.r 10 2 40 F.1 rfl hI.top.1), by omega, by omega⟩)⟩ ?_
          try dsimp only
          try dsimp only
          rcases hn7 : H.2.2.2.1 40 F.1 (i) with _ | q8
          · exact absurd hn7 (hI.nd (by omega) (by omega))
          · have t9 : T 6 q8 := hI.a 40 F.1 rfl (hI.r 10 2 40 F.1 rfl hI.top.1) hn7
            have f10 : 0 ≤ H.1 6 10 q8 ∧ H.1 6 10 q8 ≤ 1 := hI.v 6 10 q8 t9
            refine J.run 1 rfl (hI.is t9) ?_
            try dsimp only
            refine J.ifc rfl rfl rfl (show -2147483648 ≤ H.1 6 10 q8 ∧ H.1 6 10 q8 ≤ 2147483647 from ⟨by omega, by omega⟩) (fun hc => ?_) (fun hc => ?_)
            · have c11 : ¬ (H.1 6 10 q8 = (0 : Int)) := hc
              clear hc
              refine J.run0 2 rfl ?_
              try dsimp only
              exact ih.2 (i) (j + 1) _ (show 100 * (16 - (i)) - 1 - (j + 1) < _ by omega) (show 0 ≤ (i) ∧ (i) < 16 from ⟨by omega, by omega⟩) (show 0 ≤ (j + 1) ∧ (j + 1) ≤ 16 from ⟨by omega, by omega⟩)  (Or.inl ⟨_, rfl⟩)
            · have c12 : ¬ (¬ (H.1 6 10 q8 = (0 : Int))) := hc
              clear hc
              refine J.run 4 rfl ⟨⟨(hI.is hI.top.1), hI.is (hI.r 10 2 40 F.1 rfl hI.top.1)⟩, (show w.1 40 F.1 ∧ 0 ≤ j ∧ j < 16 from ⟨hI.is (hI.r 10 2 40 F.1 rfl hI.top.1), by omega, by omega⟩)⟩ ?_
              try dsimp only
              try dsimp only
              rcases hn13 : H.2.2.2.1 40 F.1 (j) with _ | q14
              · exact absurd hn13 (hI.nd (by omega) (by omega))
              · have t15 : T 6 q14 := hI.a 40 F.1 rfl (hI.r 10 2 40 F.1 rfl hI.top.1) hn13
                have f16 : 0 ≤ H.1 6 10 q14 ∧ H.1 6 10 q14 ≤ 1 := hI.v 6 10 q14 t15
                refine J.run 1 rfl (hI.is t15) ?_
                try dsimp only
                refine J.ifc rfl rfl rfl (show -2147483648 ≤ H.1 6 10 q14 ∧ H.1 6 10 q14 ≤ 2147483647 from ⟨by omega, by omega⟩) (fun hc => ?_) (fun hc => ?_)
                · have c17 : ¬ (H.1 6 10 q14 = (0 : Int)) := hc
                  clear hc
                  refine J.run0 2 rfl ?_
                  try dsimp only
                  exact ih.2 (i) (j + 1) _ (show 100 * (16 - (i)) - 1 - (j + 1) < _ by omega) (show 0 ≤ (i) ∧ (i) < 16 from ⟨by omega, by omega⟩) (show 0 ≤ (j + 1) ∧ (j + 1) ≤ 16 from ⟨by omega, by omega⟩)  (Or.inl ⟨_, rfl⟩)
                · have c18 : ¬ (¬ (H.1 6 10 q14 = (0 : Int))) := hc
                  clear hc
                  refine J.run 4 rfl ⟨⟨(hI.is hI.top.1), hI.is (hI.r 10 2 40 F.1 rfl hI.top.1)⟩, (show w.1 40 F.1 ∧ 0 ≤ i ∧ i < 16 from ⟨hI.is (hI.r 10 2 40 F.1 rfl hI.top.1), by omega, by omega⟩)⟩ ?_
                  try dsimp only
                  try dsimp only
                  rw [hn7]
                  refine J.run 5 rfl ⟨⟨(hI.is t9), (hI.o 6 1 0 q8 rfl t9).1⟩, ⟨(hI.is hI.top.1), hI.is (hI.r 10 2 40 F.1 rfl hI.top.1)⟩, (show w.1 40 F.1 ∧ 0 ≤ j ∧ j < 16 from ⟨hI.is (hI.r 10 2 40 F.1 rfl hI.top.1), by omega, by omega⟩)⟩ ?_
                  try dsimp only
                  try dsimp only
                  rw [hn13]
                  refine J.run 1 rfl ⟨(hI.is t15), (hI.o 6 1 0 q14 rfl t15).1⟩ ?_
                  try dsimp only
                  refine J.inv rfl rfl rfl rfl rfl rfl ((jD_w rfl).mpr (hI.is (hI.o 6 1 0 q8 rfl t9).2)) rfl rfl rfl rfl rfl (c_X0_isInLineWith (a0 := (H.2.2.2.2 6 1 q8)) (o := (H.2.2.2.2 6 1 q14)) hI (hI.o 6 1 0 q8 rfl t9).2 (hI.o 6 1 0 q14 rfl t15).2 ) ?_
                  rintro v w H ⟨rfl, rfl, hv⟩
                  obtain ⟨x19, rfl, r20⟩ := hv
                  have r20' : x19 = 0 ∨ x19 = 1 := r20
                  try dsimp only [Option.toList, List.append, List.cons_append, List.nil_append]
                  refine J.ifc rfl rfl rfl (show -2147483648 ≤ x19 ∧ x19 ≤ 2147483647 from ⟨by omega, by omega⟩) (fun hc => ?_) (fun hc => ?_)
                  · have c21 : ¬ (x19 = (0 : Int)) := hc
                    clear hc
                    refine J.run0 2 rfl ?_
                    try dsimp only
                    exact ih.2 (i) (j + 1) _ (show 100 * (16 - (i)) - 1 - (j + 1) < _ by omega) (show 0 ≤ (i) ∧ (i) < 16 from ⟨by omega, by omega⟩) (show 0 ≤ (j + 1) ∧ (j + 1) ≤ 16 from ⟨by omega, by omega⟩)  (Or.inl ⟨_, rfl⟩)
                  · have c22 : ¬ (¬ (x19 = (0 : Int))) := hc
                    clear hc
                    refine J.run0 3 rfl ?_
                    try dsimp only
                    exact ih.2 (i) (j + 1) _ (show 100 * (16 - (i)) - 1 - (j + 1) < _ by omega) (show 0 ≤ (i) ∧ (i) < 16 from ⟨by omega, by omega⟩) (show 0 ≤ (j + 1) ∧ (j + 1) ≤ 16 from ⟨by omega, by omega⟩)  (Or.inr (⟨_, rfl⟩))
      · skip
        refine J.run0 2 rfl ?_
        try dsimp only
        refine J.icmp rfl rfl rfl ⟨(show -2147483648 ≤ j ∧ j ≤ 2147483647 from ⟨by omega, by omega⟩), (show -2147483648 ≤ (16 : Int) ∧ (16 : Int) ≤ 2147483647 from ⟨by omega, by omega⟩)⟩ (fun hc => ?_) (fun hc => ?_)
        · have c23 : (16 : Int) ≤ j := hc
          clear hc
          refine J.run0 2 rfl ?_
          try dsimp only
          exact ih.1 (i + 1) _ (show 100 * (16 - (i + 1)) < _ by omega) (show 0 ≤ (i + 1) ∧ (i + 1) ≤ 16 from ⟨by omega, by omega⟩)  (Or.inr (⟨_, _, rfl⟩))
        · have c24 : ¬ ((16 : Int) ≤ j) := hc
          clear hc
          refine J.run 4 rfl ⟨⟨(hI.is hI.top.1), hI.is (hI.r 10 2 40 F.1 rfl hI.top.1)⟩, (show w.1 40 F.1 ∧ 0 ≤ i ∧ i < 16 from ⟨hI.is (hI.r 10 2 40 F.1 rfl hI.top.1), by omega, by omega⟩)⟩ ?_
          try dsimp only
          try dsimp only
          rcases hn25 : H.2.2.2.1 40 F.1 (i) with _ | q26
          · exact absurd hn25 (hI.nd (by omega) (by omega))
          · have t27 : T 6 q26 := hI.a 40 F.1 rfl (hI.r 10 2 40 F.1 rfl hI.top.1) hn25
            have f28 : 0 ≤ H.1 6 10 q26 ∧ H.1 6 10 q26 ≤ 1 := hI.v 6 10 q26 t27
            refine J.run 1 rfl (hI.is t27) ?_
            try dsimp only
            refine J.ifc rfl rfl rfl (show -2147483648 ≤ H.1 6 10 q26 ∧ H.1 6 10 q26 ≤ 2147483647 from ⟨by omega, by omega⟩) (fun hc => ?_) (fun hc => ?_)
            · have c29 : ¬ (H.1 6 10 q26 = (0 : Int)) := hc
              clear hc
              refine J.run0 2 rfl ?_
              try dsimp only
              exact ih.2 (i) (j + 1) _ (show 100 * (16 - (i)) - 1 - (j + 1) < _ by omega) (show 0 ≤ (i) ∧ (i) < 16 from ⟨by omega, by omega⟩) (show 0 ≤ (j + 1) ∧ (j + 1) ≤ 16 from ⟨by omega, by omega⟩)  (Or.inr (⟨_, rfl⟩))
            · have c30 : ¬ (¬ (H.1 6 10 q26 = (0 : Int))) := hc
              clear hc
              refine J.run 4 rfl ⟨⟨(hI.is hI.top.1), hI.is (hI.r 10 2 40 F.1 rfl hI.top.1)⟩, (show w.1 40 F.1 ∧ 0 ≤ j ∧ j < 16 from ⟨hI.is (hI.r 10 2 40 F.1 rfl hI.top.1), by omega, by omega⟩)⟩ ?_
              try dsimp only
              try dsimp only
              rcases hn31 : H.2.2.2.1 40 F.1 (j) with _ | q32
              · exact absurd hn31 (hI.nd (by omega) (by omega))
              · have t33 : T 6 q32 := hI.a 40 F.1 rfl (hI.r 10 2 40 F.1 rfl hI.top.1) hn31
                have f34 : 0 ≤ H.1 6 10 q32 ∧ H.1 6 10 q32 ≤ 1 := hI.v 6 10 q32 t33
                refine J.run 1 rfl (hI.is t33) ?_
                try dsimp only
                refine J.ifc rfl rfl rfl (show -2147483648 ≤ H.1 6 10 q32 ∧ H.1 6 10 q32 ≤ 2147483647 from ⟨by omega, by omega⟩) (fun hc => ?_) (fun hc => ?_)
                · have c35 : ¬ (H.1 6 10 q32 = (0 : Int)) := hc
                  clear hc
                  refine J.run0 2 rfl ?_
                  try dsimp only
                  exact ih.2 (i) (j + 1) _ (show 100 * (16 - (i)) - 1 - (j + 1) < _ by omega) (show 0 ≤ (i) ∧ (i) < 16 from ⟨by omega, by omega⟩) (show 0 ≤ (j + 1) ∧ (j + 1) ≤ 16 from ⟨by omega, by omega⟩)  (Or.inr (⟨_, rfl⟩))
                · have c36 : ¬ (¬ (H.1 6 10 q32 = (0 : Int))) := hc
                  clear hc
                  refine J.run 4 rfl ⟨⟨(hI.is hI.top.1), hI.is (hI.r 10 2 40 F.1 rfl hI.top.1)⟩, (show w.1 40 F.1 ∧ 0 ≤ i ∧ i < 16 from ⟨hI.is (hI.r 10 2 40 F.1 rfl hI.top.1), by omega, by omega⟩)⟩ ?_
                  try dsimp only
                  try dsimp only
                  rw [hn25]
                  refine J.run 5 rfl ⟨⟨(hI.is t27), (hI.o 6 1 0 q26 rfl t27).1⟩, ⟨(hI.is hI.top.1), hI.is (hI.r 10 2 40 F.1 rfl hI.top.1)⟩, (show w.1 40 F.1 ∧ 0 ≤ j ∧ j < 16 from ⟨hI.is (hI.r 10 2 40 F.1 rfl hI.top.1), by omega, by omega⟩)⟩ ?_
                  try dsimp only
                  try dsimp only
                  rw [hn31]
                  refine J.run 1 rfl ⟨(hI.is t33), (hI.o 6 1 0 q32 rfl t33).1⟩ ?_
                  try dsimp only
                  refine J.inv rfl rfl rfl rfl rfl rfl ((jD_w rfl).mpr (hI.is (hI.o 6 1 0 q26 rfl t27).2)) rfl rfl rfl rfl rfl (c_X0_isInLineWith (a0 := (H.2.2.2.2 6 1 q26)) (o := (H.2.2.2.2 6 1 q32)) hI (hI.o 6 1 0 q26 rfl t27).2 (hI.o 6 1 0 q32 rfl t33).2 ) ?_
                  rintro v w H ⟨rfl, rfl, hv⟩
                  obtain ⟨x37, rfl, r38⟩ := hv
                  have r38' : x37 = 0 ∨ x37 = 1 := r38
                  try dsimp only [Option.toList, List.append, List.cons_append, List.nil_append]
                  refine J.ifc rfl rfl rfl (show -2147483648 ≤ x37 ∧ x37 ≤ 2147483647 from ⟨by omega, by omega⟩) (fun hc => ?_) (fun hc => ?_)
                  · have c39 : ¬ (x37 = (0 : Int)) := hc
                    clear hc
                    refine J.run0 2 rfl ?_
                    try dsimp only
                    exact ih.2 (i) (j + 1) _ (show 100 * (16 - (i)) - 1 - (j + 1) < _ by omega) (show 0 ≤ (i) ∧ (i) < 16 from ⟨by omega, by omega⟩) (show 0 ≤ (j + 1) ∧ (j + 1) ≤ 16 from ⟨by omega, by omega⟩)  (Or.inr (⟨_, rfl⟩))
                  · have c40 : ¬ (¬ (x37 = (0 : Int))) := hc
                    clear hc
                    refine J.run0 3 rfl ?_
                    try dsimp only
                    exact ih.2 (i) (j + 1) _ (show 100 * (16 - (i)) - 1 - (j + 1) < _ by omega) (show 0 ≤ (i) ∧ (i) < 16 from ⟨by omega, by omega⟩) (show 0 ≤ (j + 1) ∧ (j + 1) ≤ 16 from ⟨by omega, by omega⟩)  (Or.inr (⟨_, rfl⟩))
set_option maxRecDepth 20000 in
set_option maxHeartbeats 8000000 in
theorem c_X10_splitPairs  (hI : cJ F T w H)   : J false (d + 2) 106 w (0, jargs 0 [.inr (some (10, F.1))], [], H) (jN fun v w' H' => w' = w ∧ H' = H ∧ ∃ rv, v = some (.inl rv) ∧ (True)) := by
  refine J.run0 4 rfl ?_
  try dsimp only
  exact (c_X10_splitPairs_l0  hI   ((100 * (16 - ((0 : Int))) : Int).toNat + 1)).1 ((0 : Int)) _ (show 100 * (16 - ((0 : Int))) < _ by omega) (show 0 ≤ ((0 : Int)) ∧ ((0 : Int)) ≤ 16 from ⟨by omega, by omega⟩)  (Or.inl ⟨_, rfl⟩)
end
-- M: X10_nodesOffTheClient
section
variable {d : Nat} {F : cG} {T : cP} {w : jW} {H : jH}
set_option maxRecDepth 20000 in
set_option maxHeartbeats 8000000 in
theorem c_X10_nodesOffTheClient_l0  (hI : cJ F T w H)   : ∀ (m : Nat), (∀ (i : Int) (lv : jL), 16 - i < (m : Int) → (0 ≤ i ∧ i ≤ 16) → ((∃ j1 : Int, lv = [(2, .inl i), (1, .inl j1), (0, .inr (some (10, F.1)))])) → J false (d + 2) 107 w (4, lv, [], H) (jN fun v w' H' => w' = w ∧ H' = H ∧ ∃ rv, v = some (.inl rv) ∧ (True))) := by
  intro m
  induction m with
  | zero =>
    skip
    · intro i lv hm hi0 hlv
      exfalso
      omega
  | succ m ih =>
    skip
    · intro i lv hm hi0 hlv
      rcases hlv with ⟨j1, rfl⟩
      refine J.run0 2 rfl ?_
      try dsimp only
      refine J.icmp rfl rfl rfl ⟨(show -2147483648 ≤ i ∧ i ≤ 2147483647 from ⟨by omega, by omega⟩), (show -2147483648 ≤ (16 : Int) ∧ (16 : Int) ≤ 2147483647 from ⟨by omega, by omega⟩)⟩ (fun hc => ?_) (fun hc => ?_)
      · have c1 : (16 : Int) ≤ i := hc
        clear hc
        refine J.run0 1 rfl ?_
        try dsimp only
        exact J.reti rfl rfl rfl ⟨_, rfl, rfl, rfl, _, rfl, trivial⟩
      · have c2 : ¬ ((16 : Int) ≤ i) := hc
        clear hc
        refine J.run 4 rfl ⟨⟨(hI.is hI.top.1), hI.is (hI.r 10 2 40 F.1 rfl hI.top.1)⟩, (show w.1 40 F.1 ∧ 0 ≤ i ∧ i < 16 from ⟨hI.is (hI.r 10 2 40 F.1 rfl hI.top.1), by omega, by omega⟩)⟩ ?_
        try dsimp only
        try dsimp only
        rcases hn3 : H.2.2.2.1 40 F.1 (i) with _ | q4
        · exact absurd hn3 (hI.nd (by omega) (by omega))
        · have t5 : T 6 q4 := hI.a 40 F.1 rfl (hI.r 10 2 40 F.1 rfl hI.top.1) hn3
          have f6 : 0 ≤ H.1 6 10 q4 ∧ H.1 6 10 q4 ≤ 1 := hI.v 6 10 q4 t5
          refine J.run 1 rfl (hI.is t5) ?_
          try dsimp only
          refine J.ifc rfl rfl rfl (show -2147483648 ≤ H.1 6 10 q4 ∧ H.1 6 10 q4 ≤ 2147483647 from ⟨by omega, by omega⟩) (fun hc => ?_) (fun hc => ?_)
          · have c7 : ¬ (H.1 6 10 q4 = (0 : Int)) := hc
            clear hc
            refine J.run0 2 rfl ?_
            try dsimp only
            exact ih (i + 1) _ (show 16 - (i + 1) < _ by omega) (show 0 ≤ (i + 1) ∧ (i + 1) ≤ 16 from ⟨by omega, by omega⟩)  ⟨_, rfl⟩
          · have c8 : ¬ (¬ (H.1 6 10 q4 = (0 : Int))) := hc
            clear hc
            refine J.run 4 rfl ⟨⟨(hI.is hI.top.1), hI.is (hI.r 10 2 40 F.1 rfl hI.top.1)⟩, (show w.1 40 F.1 ∧ 0 ≤ i ∧ i < 16 from ⟨hI.is (hI.r 10 2 40 F.1 rfl hI.top.1), by omega, by omega⟩)⟩ ?_
            try dsimp only
            try dsimp only
            rw [hn3]
            refine J.run 3 rfl ⟨⟨(hI.is t5), (hI.o 6 1 0 q4 rfl t5).1⟩, ⟨(hI.is hI.top.1), (hI.o 10 3 1 F.1 rfl hI.top.1).1⟩⟩ ?_
            try dsimp only
            try dsimp only
            rw [show (H.2.2.2.2 10 3 F.1) = F.2.2.2 from hI.one.2.2.2 _ (hI.o 10 3 1 F.1 rfl hI.top.1).2]
            refine J.run 1 rfl ⟨(hI.is hI.top.2.2.2), (hI.o 1 0 0 F.2.2.2 rfl hI.top.2.2.2).1⟩ ?_
            try dsimp only
            refine J.inv rfl rfl rfl rfl rfl rfl ((jD_w rfl).mpr (hI.is (hI.o 6 1 0 q4 rfl t5).2)) rfl rfl rfl rfl rfl (c_X0_isInLineWith (a0 := (H.2.2.2.2 6 1 q4)) (o := (H.2.2.2.2 1 0 F.2.2.2)) hI (hI.o 6 1 0 q4 rfl t5).2 (hI.o 1 0 0 F.2.2.2 rfl hI.top.2.2.2).2 ) ?_
            rintro v w H ⟨rfl, rfl, hv⟩
            obtain ⟨x9, rfl, r10⟩ := hv
            have r10' : x9 = 0 ∨ x9 = 1 := r10
            try dsimp only [Option.toList, List.append, List.cons_append, List.nil_append]
            refine J.ifc rfl rfl rfl (show -2147483648 ≤ x9 ∧ x9 ≤ 2147483647 from ⟨by omega, by omega⟩) (fun hc => ?_) (fun hc => ?_)
            · have c11 : ¬ (x9 = (0 : Int)) := hc
              clear hc
              refine J.run0 2 rfl ?_
              try dsimp only
              exact ih (i + 1) _ (show 16 - (i + 1) < _ by omega) (show 0 ≤ (i + 1) ∧ (i + 1) ≤ 16 from ⟨by omega, by omega⟩)  ⟨_, rfl⟩
            · have c12 : ¬ (¬ (x9 = (0 : Int))) := hc
              clear hc
              refine J.run0 3 rfl ?_
              try dsimp only
              exact ih (i + 1) _ (show 16 - (i + 1) < _ by omega) (show 0 ≤ (i + 1) ∧ (i + 1) ≤ 16 from ⟨by omega, by omega⟩)  ⟨_, rfl⟩
set_option maxRecDepth 20000 in
set_option maxHeartbeats 8000000 in
theorem c_X10_nodesOffTheClient  (hI : cJ F T w H)   : J false (d + 2) 107 w (0, jargs 0 [.inr (some (10, F.1))], [], H) (jN fun v w' H' => w' = w ∧ H' = H ∧ ∃ rv, v = some (.inl rv) ∧ (True)) := by
  refine J.run0 4 rfl ?_
  try dsimp only
  exact (c_X10_nodesOffTheClient_l0  hI   ((16 - ((0 : Int)) : Int).toNat + 1)) ((0 : Int)) _ (show 16 - ((0 : Int)) < _ by omega) (show 0 ≤ ((0 : Int)) ∧ ((0 : Int)) ≤ 16 from ⟨by omega, by omega⟩)  ⟨_, rfl⟩
end
-- M: X10_greatestHeight
section
variable {d : Nat} {F : cG} {T : cP} {w : jW} {H : jH}
set_option maxRecDepth 20000 in
set_option maxHeartbeats 8000000 in
theorem c_X10_greatestHeight_l0  (hI : cJ F T w H)   : ∀ (m : Nat), (∀ (g i : Int) (lv : jL), 16 - i < (m : Int) → (0 ≤ i ∧ i ≤ 16) → (0 ≤ g ∧ g ≤ 299) → ((lv = [(2, .inl i), (1, .inl g), (0, .inr (some (10, F.1)))])) → J false d 108 w (4, lv, [], H) (jN fun v w' H' => w' = w ∧ H' = H ∧ ∃ rv, v = some (.inl rv) ∧ (True))) := by
  intro m
  induction m with
  | zero =>
    skip
    · intro g i lv hm hi0 hi1 hlv
      exfalso
      omega
  | succ m ih =>
    skip
    · intro g i lv hm hi0 hi1 hlv
      rcases hlv with rfl
      refine J.run0 2 rfl ?_
      try dsimp only
      refine J.icmp rfl rfl rfl ⟨(show -2147483648 ≤ i ∧ i ≤ 2147483647 from ⟨by omega, by omega⟩), (show -2147483648 ≤ (16 : Int) ∧ (16 : Int) ≤ 2147483647 from ⟨by omega, by omega⟩)⟩ (fun hc => ?_) (fun hc => ?_)
      · have c1 : (16 : Int) ≤ i := hc
        clear hc
        refine J.run0 1 rfl ?_
        try dsimp only
        exact J.reti rfl rfl rfl ⟨_, rfl, rfl, rfl, _, rfl, trivial⟩
      · have c2 : ¬ ((16 : Int) ≤ i) := hc
        clear hc
        refine J.run 4 rfl ⟨⟨(hI.is hI.top.1), hI.is (hI.r 10 2 40 F.1 rfl hI.top.1)⟩, (show w.1 40 F.1 ∧ 0 ≤ i ∧ i < 16 from ⟨hI.is (hI.r 10 2 40 F.1 rfl hI.top.1), by omega, by omega⟩)⟩ ?_
        try dsimp only
        try dsimp only
        rcases hn3 : H.2.2.2.1 40 F.1 (i) with _ | q4
        · exact absurd hn3 (hI.nd (by omega) (by omega))
        · have t5 : T 6 q4 := hI.a 40 F.1 rfl (hI.r 10 2 40 F.1 rfl hI.top.1) hn3
          have f6 : 0 ≤ H.1 6 10 q4 ∧ H.1 6 10 q4 ≤ 1 := hI.v 6 10 q4 t5
          refine J.run 1 rfl (hI.is t5) ?_
          try dsimp only
          refine J.ifc rfl rfl rfl (show -2147483648 ≤ H.1 6 10 q4 ∧ H.1 6 10 q4 ≤ 2147483647 from ⟨by omega, by omega⟩) (fun hc => ?_) (fun hc => ?_)
          · have c7 : ¬ (H.1 6 10 q4 = (0 : Int)) := hc
            clear hc
            refine J.run0 2 rfl ?_
            try dsimp only
            exact ih (g) (i + 1) _ (show 16 - (i + 1) < _ by omega) (show 0 ≤ (i + 1) ∧ (i + 1) ≤ 16 from ⟨by omega, by omega⟩) (show 0 ≤ (g) ∧ (g) ≤ 299 from ⟨by omega, by omega⟩)  rfl
          · have c8 : ¬ (¬ (H.1 6 10 q4 = (0 : Int))) := hc
            clear hc
            refine J.run 5 rfl ⟨⟨(hI.is hI.top.1), hI.is (hI.r 10 2 40 F.1 rfl hI.top.1)⟩, (show w.1 40 F.1 ∧ 0 ≤ i ∧ i < 16 from ⟨hI.is (hI.r 10 2 40 F.1 rfl hI.top.1), by omega, by omega⟩)⟩ ?_
            try dsimp only
            try dsimp only
            rw [hn3]
            have f9 : 0 ≤ H.1 0 1 (H.2.2.2.2 6 1 q4) ∧ H.1 0 1 (H.2.2.2.2 6 1 q4) ≤ 299 := hI.v 0 1 (H.2.2.2.2 6 1 q4) (hI.o 6 1 0 q4 rfl t5).2
            refine J.run 2 rfl ⟨⟨(hI.is t5), (hI.o 6 1 0 q4 rfl t5).1⟩, (hI.is (hI.o 6 1 0 q4 rfl t5).2)⟩ ?_
            try dsimp only
            refine J.maxF rfl rfl rfl ⟨by omega, by omega⟩ ⟨by omega, by omega⟩ ?_
            obtain ⟨x10, ex10⟩ : ∃ z, z = (if g < H.1 0 1 (H.2.2.2.2 6 1 q4) then H.1 0 1 (H.2.2.2.2 6 1 q4) else g) := ⟨_, rfl⟩
            rw [← ex10]
            have f11 : (g ≤ x10 ∧ H.1 0 1 (H.2.2.2.2 6 1 q4) ≤ x10) ∧ (x10 = g ∨ x10 = H.1 0 1 (H.2.2.2.2 6 1 q4)) := by rw [ex10]; split <;> omega
            refine J.run0 3 rfl ?_
            try dsimp only
            exact ih (x10) (i + 1) _ (show 16 - (i + 1) < _ by omega) (show 0 ≤ (i + 1) ∧ (i + 1) ≤ 16 from ⟨by omega, by omega⟩) (show 0 ≤ (x10) ∧ (x10) ≤ 299 from ⟨by omega, by omega⟩)  rfl
set_option maxRecDepth 20000 in
set_option maxHeartbeats 8000000 in
theorem c_X10_greatestHeight  (hI : cJ F T w H)   : J false d 108 w (0, jargs 0 [.inr (some (10, F.1))], [], H) (jN fun v w' H' => w' = w ∧ H' = H ∧ ∃ rv, v = some (.inl rv) ∧ (True)) := by
  refine J.run0 4 rfl ?_
  try dsimp only
  exact (c_X10_greatestHeight_l0  hI   ((16 - ((0 : Int)) : Int).toNat + 1)) ((0 : Int)) ((0 : Int)) _ (show 16 - ((0 : Int)) < _ by omega) (show 0 ≤ ((0 : Int)) ∧ ((0 : Int)) ≤ 16 from ⟨by omega, by omega⟩) (show 0 ≤ ((0 : Int)) ∧ ((0 : Int)) ≤ 299 from ⟨by omega, by omega⟩)  rfl
end
-- M: X10_doubleMessages
section
variable {d : Nat} {F : cG} {T : cP} {w : jW} {H : jH}
set_option maxRecDepth 20000 in
set_option maxHeartbeats 8000000 in
theorem c_X10_doubleMessages_l0  (hI : cJ F T w H)   : ∀ (m : Nat), (∀ (i : Int) (lv : jL), 10000 * (6001 - i) < (m : Int) → (0 ≤ i ∧ i ≤ 6000) → ((∃ j1 : Int, lv = [(2, .inl i), (1, .inl j1), (0, .inr (some (10, F.1)))]) ∨ (∃ j1 : Int, lv = [(2, .inl i), (3, .inr none), (1, .inl j1), (0, .inr (some (10, F.1)))]) ∨ (∃ o3 : Nat, T 5 o3 ∧ ∃ j1 : Int, lv = [(2, .inl i), (3, .inr (some (5, o3))), (1, .inl j1), (0, .inr (some (10, F.1)))]) ∨ (∃ o3 : Nat, T 5 o3 ∧ ∃ j1 : Int, lv = [(2, .inl i), (4, .inr none), (3, .inr (some (5, o3))), (1, .inl j1), (0, .inr (some (10, F.1)))]) ∨ (∃ j1 : Int, ∃ o3 : Nat, T 5 o3 ∧ lv = [(2, .inl i), (4, .inr none), (1, .inl j1), (3, .inr (some (5, o3))), (0, .inr (some (10, F.1)))]) ∨ (∃ j1 : Int, lv = [(2, .inl i), (3, .inr none), (4, .inr none), (1, .inl j1), (0, .inr (some (10, F.1)))]) ∨ (∃ o3 : Nat, T 5 o3 ∧ ∃ j1 : Int, lv = [(2, .inl i), (3, .inr (some (5, o3))), (4, .inr none), (1, .inl j1), (0, .inr (some (10, F.1)))])) → J false (d + 2) 109 w (4, lv, [], H) (jN fun v w' H' => w' = w ∧ H' = H ∧ ∃ rv, v = some (.inl rv) ∧ (True))) ∧ (∀ (i : Int) (y z : Nat) (lv : jL), 10000 * (6001 - i) - 1 - H.1 5 0 z < (m : Int) → (0 ≤ i ∧ i < 6000) → (0 ≤ H.1 5 0 z ∧ H.1 5 0 z ≤ 5999) → T 5 y → T 5 z → ((∃ j1 : Int, lv = [(4, .inr (some (5, z))), (3, .inr (some (5, y))), (2, .inl i), (1, .inl j1), (0, .inr (some (10, F.1)))]) ∨ (∃ j1 : Int, lv = [(4, .inr (some (5, z))), (1, .inl j1), (3, .inr (some (5, y))), (2, .inl i), (0, .inr (some (10, F.1)))])) → J false (d + 2) 109 w (45, lv, [], H) (jN fun v w' H' => w' = w ∧ H' = H ∧ ∃ rv, v = some (.inl rv) ∧ (True))) := by
  intro m
  induction m with
  | zero =>
    refine ⟨?_, ?_⟩
    · intro i lv hm hi0 hlv
      exfalso
      omega
    · intro i y z lv hm hi0 hi1 tv3 tv4 hlv
      exfalso
      omega
  | succ m ih =>
    refine ⟨?_, ?_⟩
    · intro i lv hm hi0 hlv
      rcases hlv with ⟨j1, rfl⟩ | ⟨j1, rfl⟩ | ⟨o3, to3, j1, rfl⟩ | ⟨o3, to3, j1, rfl⟩ | ⟨j1, o3, to3, rfl⟩ | ⟨j1, rfl⟩ | ⟨o3, to3, j1, rfl⟩
      · skip
        refine J.run 3 rfl ⟨(hI.is hI.top.1), (hI.o 10 1 7 F.1 rfl hI.top.1).1⟩ ?_
        try dsimp only
        try dsimp only
        rw [show (H.2.2.2.2 10 1 F.1) = F.2.2.1 from hI.one.2.2.1 _ (hI.o 10 1 7 F.1 rfl hI.top.1).2]
        have f1 : 0 ≤ H.1 7 4 F.2.2.1 ∧ H.1 7 4 F.2.2.1 ≤ 6000 := hI.v 7 4 F.2.2.1 hI.top.2.2.1
        refine J.run 1 rfl (hI.is hI.top.2.2.1) ?_
        try dsimp only
        refine J.icmp rfl rfl rfl ⟨(show -2147483648 ≤ i ∧ i ≤ 2147483647 from ⟨by omega, by omega⟩), (show -2147483648 ≤ H.1 7 4 F.2.2.1 ∧ H.1 7 4 F.2.2.1 ≤ 2147483647 from ⟨by omega, by omega⟩)⟩ (fun hc => ?_) (fun hc => ?_)
        · have c2 : H.1 7 4 F.2.2.1 ≤ i := hc
          clear hc
          refine J.run0 1 rfl ?_
          try dsimp only
          exact J.reti rfl rfl rfl ⟨_, rfl, rfl, rfl, _, rfl, trivial⟩
        · have c3 : ¬ (H.1 7 4 F.2.2.1 ≤ i) := hc
          clear hc
          refine J.run 2 rfl ⟨(hI.is hI.top.1), (hI.o 10 1 7 F.1 rfl hI.top.1).1⟩ ?_
          try dsimp only
          try dsimp only
          rw [show (H.2.2.2.2 10 1 F.1) = F.2.2.1 from hI.one.2.2.1 _ (hI.o 10 1 7 F.1 rfl hI.top.1).2]
          refine J.run0 1 rfl ?_
          try dsimp only
          refine J.inv rfl rfl rfl rfl rfl rfl ((jD_w rfl).mpr (hI.is hI.top.2.2.1)) rfl rfl rfl rfl rfl (c_X7_get (m0 := i) hI  (show -2147483648 ≤ i ∧ i ≤ 2147483647 from ⟨by omega, by omega⟩)) ?_
          rintro v w H ⟨rfl, rfl, hv⟩
          rcases hv with ⟨rfl, r6⟩ | ⟨q4, rfl, t5, r6⟩
          · have r6' : (0 ≤ i → i < H.1 7 4 F.2.2.1 → H.2.2.2.1 28 F.2.2.1 (i) = none) := r6
            try dsimp only [Option.toList, List.append, List.cons_append, List.nil_append]
            refine J.run0 5 rfl ?_
            try dsimp only
            exact ih.1 (i + 1) _ (show 10000 * (6001 - (i + 1)) < _ by omega) (show 0 ≤ (i + 1) ∧ (i + 1) ≤ 6000 from ⟨by omega, by omega⟩)  (Or.inr (Or.inl ⟨_, rfl⟩))
          · have r6' : (0 ≤ i ∧ i < H.1 7 4 F.2.2.1 ∧ H.2.2.2.1 28 F.2.2.1 (i) = some q4) := r6
            try dsimp only [Option.toList, List.append, List.cons_append, List.nil_append]
            have f7 : 0 ≤ H.1 5 0 q4 ∧ H.1 5 0 q4 ≤ 5999 := hI.v 5 0 q4 t5
            have f8 : 0 ≤ H.1 5 2 q4 ∧ H.1 5 2 q4 ≤ 15 := hI.v 5 2 q4 t5
            refine J.run 6 rfl (hI.is t5) ?_
            try dsimp only
            refine J.inv rfl rfl rfl rfl rfl rfl ((jD_w rfl).mpr (hI.is hI.top.1)) rfl rfl rfl rfl rfl (c_X10_isFaulty (n := H.1 5 2 q4) hI  (show -2147483648 ≤ (H.1 5 2 q4) ∧ (H.1 5 2 q4) ≤ 2147483647 from ⟨by omega, by omega⟩)) ?_
            rintro v w H ⟨rfl, rfl, hv⟩
            obtain ⟨x9, rfl, r10⟩ := hv
            have r10' : (x9 = 0 ∨ x9 = 1) ∧ (x9 = 1 → 0 ≤ (H.1 5 2 q4) ∧ (H.1 5 2 q4) ≤ 15) := r10
            try dsimp only [Option.toList, List.append, List.cons_append, List.nil_append]
            refine J.ifc rfl rfl rfl (show -2147483648 ≤ x9 ∧ x9 ≤ 2147483647 from ⟨by omega, by omega⟩) (fun hc => ?_) (fun hc => ?_)
            · have c11 : ¬ (x9 = (0 : Int)) := hc
              clear hc
              refine J.run0 2 rfl ?_
              try dsimp only
              exact ih.1 (i + 1) _ (show 10000 * (6001 - (i + 1)) < _ by omega) (show 0 ≤ (i + 1) ∧ (i + 1) ≤ 6000 from ⟨by omega, by omega⟩)  (Or.inr (Or.inr (Or.inl ⟨_, t5, _, rfl⟩)))
            · have c12 : ¬ (¬ (x9 = (0 : Int))) := hc
              clear hc
              refine J.run 2 rfl (hI.is t5) ?_
              try dsimp only
              try dsimp only
              rcases hn13 : H.2.1 5 7 q4 with _ | q14
              · skip
                refine J.run0 5 rfl ?_
                try dsimp only
                exact ih.1 (i + 1) _ (show 10000 * (6001 - (i + 1)) < _ by omega) (show 0 ≤ (i + 1) ∧ (i + 1) ≤ 6000 from ⟨by omega, by omega⟩)  (Or.inr (Or.inr (Or.inr (Or.inl ⟨_, t5, _, rfl⟩))))
              · have t15 : T 5 q14 := hI.n 5 7 5 q4 rfl t5 hn13
                have f16 : 0 ≤ H.1 5 0 q14 ∧ H.1 5 0 q14 ≤ 5999 := hI.v 5 0 q14 t15
                have f17 := hI.nx t5 hn13
                refine J.run0 1 rfl ?_
                try dsimp only
                exact ih.2 (i) (q4) (q14) _ (show 10000 * (6001 - (i)) - 1 - H.1 5 0 (q14) < _ by omega) (show 0 ≤ (i) ∧ (i) < 6000 from ⟨by omega, by omega⟩) (show 0 ≤ H.1 5 0 (q14) ∧ H.1 5 0 (q14) ≤ 5999 from ⟨by omega, by omega⟩) t5 t15 (Or.inl ⟨_, rfl⟩)
      · skip
        refine J.run 3 rfl ⟨(hI.is hI.top.1), (hI.o 10 1 7 F.1 rfl hI.top.1).1⟩ ?_
        try dsimp only
        try dsimp only
        rw [show (H.2.2.2.2 10 1 F.1) = F.2.2.1 from hI.one.2.2.1 _ (hI.o 10 1 7 F.1 rfl hI.top.1).2]
        have f18 : 0 ≤ H.1 7 4 F.2.2.1 ∧ H.1 7 4 F.2.2.1 ≤ 6000 := hI.v 7 4 F.2.2.1 hI.top.2.2.1
        refine J.run 1 rfl (hI.is hI.top.2.2.1) ?_
        try dsimp only
        refine J.icmp rfl rfl rfl ⟨(show -2147483648 ≤ i ∧ i ≤ 2147483647 from ⟨by omega, by omega⟩), (show -2147483648 ≤ H.1 7 4 F.2.2.1 ∧ H.1 7 4 F.2.2.1 ≤ 2147483647 from ⟨by omega, by omega⟩)⟩ (fun hc => ?_) (fun hc => ?_)
        · have c19 : H.1 7 4 F.2.2.1 ≤ i := hc
          clear hc
          refine J.run0 1 rfl ?_
          try dsimp only
          exact J.reti rfl rfl rfl ⟨_, rfl, rfl, rfl, _, rfl, trivial⟩
        · have c20 : ¬ (H.1 7 4 F.2.2.1 ≤ i) := hc
          clear hc
          refine J.run 2 rfl ⟨(hI.is hI.top.1), (hI.o 10 1 7 F.1 rfl hI.top.1).1⟩ ?_
          try dsimp only
          try dsimp only
          rw [show (H.2.2.2.2 10 1 F.1) = F.2.2.1 from hI.one.2.2.1 _ (hI.o 10 1 7 F.1 rfl hI.top.1).2]
          refine J.run0 1 rfl ?_
          try dsimp only
          refine J.inv rfl rfl rfl rfl rfl rfl ((jD_w rfl).mpr (hI.is hI.top.2.2.1)) rfl rfl rfl rfl rfl (c_X7_get (m0 := i) hI  (show -2147483648 ≤ i ∧ i ≤ 2147483647 from ⟨by omega, by omega⟩)) ?_
          rintro v w H ⟨rfl, rfl, hv⟩
          rcases hv with ⟨rfl, r23⟩ | ⟨q21, rfl, t22, r23⟩
          · have r23' : (0 ≤ i → i < H.1 7 4 F.2.2.1 → H.2.2.2.1 28 F.2.2.1 (i) = none) := r23
            try dsimp only [Option.toList, List.append, List.cons_append, List.nil_append]
            refine J.run0 5 rfl ?_
            try dsimp only
            exact ih.1 (i + 1) _ (show 10000 * (6001 - (i + 1)) < _ by omega) (show 0 ≤ (i + 1) ∧ (i + 1) ≤ 6000 from ⟨by omega, by omega⟩)  (Or.inr (Or.inl ⟨_, rfl⟩))
          · have r23' : (0 ≤ i ∧ i < H.1 7 4 F.2.2.1 ∧ H.2.2.2.1 28 F.2.2.1 (i) = some q21) := r23
            try dsimp only [Option.toList, List.append, List.cons_append, List.nil_append]
            have f24 : 0 ≤ H.1 5 0 q21 ∧ H.1 5 0 q21 ≤ 5999 := hI.v 5 0 q21 t22
            have f25 : 0 ≤ H.1 5 2 q21 ∧ H.1 5 2 q21 ≤ 15 := hI.v 5 2 q21 t22
            refine J.run 6 rfl (hI.is t22) ?_
            try dsimp only
            refine J.inv rfl rfl rfl rfl rfl rfl ((jD_w rfl).mpr (hI.is hI.top.1)) rfl rfl rfl rfl rfl (c_X10_isFaulty (n := H.1 5 2 q21) hI  (show -2147483648 ≤ (H.1 5 2 q21) ∧ (H.1 5 2 q21) ≤ 2147483647 from ⟨by omega, by omega⟩)) ?_
            rintro v w H ⟨rfl, rfl, hv⟩
            obtain ⟨x26, rfl, r27⟩ := hv
            have r27' : (x26 = 0 ∨ x26 = 1) ∧ (x26 = 1 → 0 ≤ (H.1 5 2 q21) ∧ (H.1 5 2 q21) ≤ 15) := r27
            try dsimp only [Option.toList, List.append, List.cons_append, List.nil_append]
            refine J.ifc rfl rfl rfl (show -2147483648 ≤ x26 ∧ x26 ≤ 2147483647 from ⟨by omega, by omega⟩) (fun hc => ?_) (fun hc => ?_)
            · have c28 : ¬ (x26 = (0 : Int)) := hc
              clear hc
              refine J.run0 2 rfl ?_
              try dsimp only
              exact ih.1 (i + 1) _ (show 10000 * (6001 - (i + 1)) < _ by omega) (show 0 ≤ (i + 1) ∧ (i + 1) ≤ 6000 from ⟨by omega, by omega⟩)  (Or.inr (Or.inr (Or.inl ⟨_, t22, _, rfl⟩)))
            · have c29 : ¬ (¬ (x26 = (0 : Int))) := hc
              clear hc
              refine J.run 2 rfl (hI.is t22) ?_
              try dsimp only
              try dsimp only
              rcases hn30 : H.2.1 5 7 q21 with _ | q31
              · skip
                refine J.run0 5 rfl ?_
                try dsimp only
                exact ih.1 (i + 1) _ (show 10000 * (6001 - (i + 1)) < _ by omega) (show 0 ≤ (i + 1) ∧ (i + 1) ≤ 6000 from ⟨by omega, by omega⟩)  (Or.inr (Or.inr (Or.inr (Or.inl ⟨_, t22, _, rfl⟩))))
              · have t32 : T 5 q31 := hI.n 5 7 5 q21 rfl t22 hn30
                have f33 : 0 ≤ H.1 5 0 q31 ∧ H.1 5 0 q31 ≤ 5999 := hI.v 5 0 q31 t32
                have f34 := hI.nx t22 hn30
                refine J.run0 1 rfl ?_
                try dsimp only
                exact ih.2 (i) (q21) (q31) _ (show 10000 * (6001 - (i)) - 1 - H.1 5 0 (q31) < _ by omega) (show 0 ≤ (i) ∧ (i) < 6000 from ⟨by omega, by omega⟩) (show 0 ≤ H.1 5 0 (q31) ∧ H.1 5 0 (q31) ≤ 5999 from ⟨by omega, by omega⟩) t22 t32 (Or.inl ⟨_, rfl⟩)
      · skip
        refine J.run 3 rfl ⟨(hI.is hI.top.1), (hI.o 10 1 7 F.1 rfl hI.top.1).1⟩ ?_
        try dsimp only
        try dsimp only
        rw [show (H.2.2.2.2 10 1 F.1) = F.2.2.1 from hI.one.2.2.1 _ (hI.o 10 1 7 F.1 rfl hI.top.1).2]
        have f35 : 0 ≤ H.1 7 4 F.2.2.1 ∧ H.1 7 4 F.2.2.1 ≤ 6000 := hI.v 7 4 F.2.2.1 hI.top.2.2.1
        refine J.run 1 rfl (hI.is hI.top.2.2.1) ?_
        try dsimp only
        refine J.icmp rfl rfl rfl ⟨(show -2147483648 ≤ i ∧ i ≤ 2147483647 from ⟨by omega, by omega⟩), (show -2147483648 ≤ H.1 7 4 F.2.2.1 ∧ H.1 7 4 F.2.2.1 ≤ 2147483647 from ⟨by omega, by omega⟩)⟩ (fun hc => ?_) (fun hc => ?_)
        · have c36 : H.1 7 4 F.2.2.1 ≤ i := hc
          clear hc
          refine J.run0 1 rfl ?_
          try dsimp only
          exact J.reti rfl rfl rfl ⟨_, rfl, rfl, rfl, _, rfl, trivial⟩
        · have c37 : ¬ (H.1 7 4 F.2.2.1 ≤ i) := hc
          clear hc
          refine J.run 2 rfl ⟨(hI.is hI.top.1), (hI.o 10 1 7 F.1 rfl hI.top.1).1⟩ ?_
          try dsimp only
          try dsimp only
          rw [show (H.2.2.2.2 10 1 F.1) = F.2.2.1 from hI.one.2.2.1 _ (hI.o 10 1 7 F.1 rfl hI.top.1).2]
          refine J.run0 1 rfl ?_
          try dsimp only
          refine J.inv rfl rfl rfl rfl rfl rfl ((jD_w rfl).mpr (hI.is hI.top.2.2.1)) rfl rfl rfl rfl rfl (c_X7_get (m0 := i) hI  (show -2147483648 ≤ i ∧ i ≤ 2147483647 from ⟨by omega, by omega⟩)) ?_
          rintro v w H ⟨rfl, rfl, hv⟩
          rcases hv with ⟨rfl, r40⟩ | ⟨q38, rfl, t39, r40⟩
          · have r40' : (0 ≤ i → i < H.1 7 4 F.2.2.1 → H.2.2.2.1 28 F.2.2.1 (i) = none) := r40
            try dsimp only [Option.toList, List.append, List.cons_append, List.nil_append]
            refine J.run0 5 rfl ?_
            try dsimp only
            exact ih.1 (i + 1) _ (show 10000 * (6001 - (i + 1)) < _ by omega) (show 0 ≤ (i + 1) ∧ (i + 1) ≤ 6000 from ⟨by omega, by omega⟩)  (Or.inr (Or.inl ⟨_, rfl⟩))
          · have r40' : (0 ≤ i ∧ i < H.1 7 4 F.2.2.1 ∧ H.2.2.2.1 28 F.2.2.1 (i) = some q38) := r40
            try dsimp only [Option.toList, List.append, List.cons_append, List.nil_append]
            have f41 : 0 ≤ H.1 5 0 q38 ∧ H.1 5 0 q38 ≤ 5999 := hI.v 5 0 q38 t39
            have f42 : 0 ≤ H.1 5 2 q38 ∧ H.1 5 2 q38 ≤ 15 := hI.v 5 2 q38 t39
            refine J.run 6 rfl (hI.is t39) ?_
            try dsimp only
            refine J.inv rfl rfl rfl rfl rfl rfl ((jD_w rfl).mpr (hI.is hI.top.1)) rfl rfl rfl rfl rfl (c_X10_isFaulty (n := H.1 5 2 q38) hI  (show -2147483648 ≤ (H.1 5 2 q38) ∧ (H.1 5 2 q38) ≤ 2147483647 from ⟨by omega, by omega⟩)) ?_
            rintro v w H ⟨rfl, rfl, hv⟩
            obtain ⟨x43, rfl, r44⟩ := hv
            have r44' : (x43 = 0 ∨ x43 = 1) ∧ (x43 = 1 → 0 ≤ (H.1 5 2 q38) ∧ (H.1 5 2 q38) ≤ 15) := r44
            try dsimp only [Option.toList, List.append, List.cons_append, List.nil_append]
            refine J.ifc rfl rfl rfl (show -2147483648 ≤ x43 ∧ x43 ≤ 2147483647 from ⟨by omega, by omega⟩) (fun hc => ?_) (fun hc => ?_)
            · have c45 : ¬ (x43 = (0 : Int)) := hc
              clear hc
              refine J.run0 2 rfl ?_
              try dsimp only
              exact ih.1 (i + 1) _ (show 10000 * (6001 - (i + 1)) < _ by omega) (show 0 ≤ (i + 1) ∧ (i + 1) ≤ 6000 from ⟨by omega, by omega⟩)  (Or.inr (Or.inr (Or.inl ⟨_, t39, _, rfl⟩)))
            · have c46 : ¬ (¬ (x43 = (0 : Int))) := hc
              clear hc
              refine J.run 2 rfl (hI.is t39) ?_
              try dsimp only
              try dsimp only
              rcases hn47 : H.2.1 5 7 q38 with _ | q48
              · skip
                refine J.run0 5 rfl ?_
                try dsimp only
                exact ih.1 (i + 1) _ (show 10000 * (6001 - (i + 1)) < _ by omega) (show 0 ≤ (i + 1) ∧ (i + 1) ≤ 6000 from ⟨by omega, by omega⟩)  (Or.inr (Or.inr (Or.inr (Or.inl ⟨_, t39, _, rfl⟩))))
              · have t49 : T 5 q48 := hI.n 5 7 5 q38 rfl t39 hn47
                have f50 : 0 ≤ H.1 5 0 q48 ∧ H.1 5 0 q48 ≤ 5999 := hI.v 5 0 q48 t49
                have f51 := hI.nx t39 hn47
                refine J.run0 1 rfl ?_
                try dsimp only
                exact ih.2 (i) (q38) (q48) _ (show 10000 * (6001 - (i)) - 1 - H.1 5 0 (q48) < _ by omega) (show 0 ≤ (i) ∧ (i) < 6000 from ⟨by omega, by omega⟩) (show 0 ≤ H.1 5 0 (q48) ∧ H.1 5 0 (q48) ≤ 5999 from ⟨by omega, by omega⟩) t39 t49 (Or.inl ⟨_, rfl⟩)
      · skip
        refine J.run 3 rfl ⟨(hI.is hI.top.1), (hI.o 10 1 7 F.1 rfl hI.top.1).1⟩ ?_
        try dsimp only
        try dsimp only
        rw [show (H.2.2.2.2 10 1 F.1) = F.2.2.1 from hI.one.2.2.1 _ (hI.o 10 1 7 F.1 rfl hI.top.1).2]
        have f52 : 0 ≤ H.1 7 4 F.2.2.1 ∧ H.1 7 4 F.2.2.1 ≤ 6000 := hI.v 7 4 F.2.2.1 hI.top.2.2.1
        refine J.run 1 rfl (hI.is hI.top.2.2.1) ?_
        try dsimp only
        refine J.icmp rfl rfl rfl ⟨(show -2147483648 ≤ i ∧ i ≤ 2147483647 from ⟨by omega, by omega⟩), (show -2147483648 ≤ H.1 7 4 F.2.2.1 ∧ H.1 7 4 F.2.2.1 ≤ 2147483647 from ⟨by omega, by omega⟩)⟩ (fun hc => ?_) (fun hc => ?_)
        · have c53 : H.1 7 4 F.2.2.1 ≤ i := hc
          clear hc
          refine J.run0 1 rfl ?_
          try dsimp only
          exact J.reti rfl rfl rfl ⟨_, rfl, rfl, rfl, _, rfl, trivial⟩
        · have c54 : ¬ (H.1 7 4 F.2.2.1 ≤ i) := hc
          clear hc
          refine J.run 2 rfl ⟨(hI.is hI.top.1), (hI.o 10 1 7 F.1 rfl hI.top.1).1⟩ ?_
          try dsimp only
          try dsimp only
          rw [show (H.2.2.2.2 10 1 F.1) = F.2.2.1 from hI.one.2.2.1 _ (hI.o 10 1 7 F.1 rfl hI.top.1).2]
          refine J.run0 1 rfl ?_
          try dsimp only
          refine J.inv rfl rfl rfl rfl rfl rfl ((jD_w rfl).mpr (hI.is hI.top.2.2.1)) rfl rfl rfl rfl rfl (c_X7_get (m0 := i) hI  (show -2147483648 ≤ i ∧ i ≤ 2147483647 from ⟨by omega, by omega⟩)) ?_
          rintro v w H ⟨rfl, rfl, hv⟩
          rcases hv with ⟨rfl, r57⟩ | ⟨q55, rfl, t56, r57⟩
          · have r57' : (0 ≤ i → i < H.1 7 4 F.2.2.1 → H.2.2.2.1 28 F.2.2.1 (i) = none) := r57
            try dsimp only [Option.toList, List.append, List.cons_append, List.nil_append]
            refine J.run0 5 rfl ?_
            try dsimp only
            exact ih.1 (i + 1) _ (show 10000 * (6001 - (i + 1)) < _ by omega) (show 0 ≤ (i + 1) ∧ (i + 1) ≤ 6000 from ⟨by omega, by omega⟩)  (Or.inr (Or.inr (Or.inr (Or.inr (Or.inr (Or.inl ⟨_, rfl⟩))))))
          · have r57' : (0 ≤ i ∧ i < H.1 7 4 F.2.2.1 ∧ H.2.2.2.1 28 F.2.2.1 (i) = some q55) := r57
            try dsimp only [Option.toList, List.append, List.cons_append, List.nil_append]
            have f58 : 0 ≤ H.1 5 0 q55 ∧ H.1 5 0 q55 ≤ 5999 := hI.v 5 0 q55 t56
            have f59 : 0 ≤ H.1 5 2 q55 ∧ H.1 5 2 q55 ≤ 15 := hI.v 5 2 q55 t56
            refine J.run 6 rfl (hI.is t56) ?_
            try dsimp only
            refine J.inv rfl rfl rfl rfl rfl rfl ((jD_w rfl).mpr (hI.is hI.top.1)) rfl rfl rfl rfl rfl (c_X10_isFaulty (n := H.1 5 2 q55) hI  (show -2147483648 ≤ (H.1 5 2 q55) ∧ (H.1 5 2 q55) ≤ 2147483647 from ⟨by omega, by omega⟩)) ?_
            rintro v w H ⟨rfl, rfl, hv⟩
            obtain ⟨x60, rfl, r61⟩ := hv
            have r61' : (x60 = 0 ∨ x60 = 1) ∧ (x60 = 1 → 0 ≤ (H.1 5 2 q55) ∧ (H.1 5 2 q55) ≤ 15) := r61
            try dsimp only [Option.toList, List.append, List.cons_append, List.nil_append]
            refine J.ifc rfl rfl rfl (show -2147483648 ≤ x60 ∧ x60 ≤ 2147483647 from ⟨by omega, by omega⟩) (fun hc => ?_) (fun hc => ?_)
            · have c62 : ¬ (x60 = (0 : Int)) := hc
              clear hc
              refine J.run0 2 rfl ?_
              try dsimp only
              exact ih.1 (i + 1) _ (show 10000 * (6001 - (i + 1)) < _ by omega) (show 0 ≤ (i + 1) ∧ (i + 1) ≤ 6000 from ⟨by omega, by omega⟩)  (Or.inr (Or.inr (Or.inr (Or.inr (Or.inr (Or.inr (⟨_, t56, _, rfl⟩)))))))
            · have c63 : ¬ (¬ (x60 = (0 : Int))) := hc
              clear hc
              refine J.run 2 rfl (hI.is t56) ?_
              try dsimp only
              try dsimp only
              rcases hn64 : H.2.1 5 7 q55 with _ | q65
              · skip
                refine J.run0 5 rfl ?_
                try dsimp only
                exact ih.1 (i + 1) _ (show 10000 * (6001 - (i + 1)) < _ by omega) (show 0 ≤ (i + 1) ∧ (i + 1) ≤ 6000 from ⟨by omega, by omega⟩)  (Or.inr (Or.inr (Or.inr (Or.inl ⟨_, t56, _, rfl⟩))))
              · have t66 : T 5 q65 := hI.n 5 7 5 q55 rfl t56 hn64
                have f67 : 0 ≤ H.1 5 0 q65 ∧ H.1 5 0 q65 ≤ 5999 := hI.v 5 0 q65 t66
                have f68 := hI.nx t56 hn64
                refine J.run0 1 rfl ?_
                try dsimp only
                exact ih.2 (i) (q55) (q65) _ (show 10000 * (6001 - (i)) - 1 - H.1 5 0 (q65) < _ by omega) (show 0 ≤ (i) ∧ (i) < 6000 from ⟨by omega, by omega⟩) (show 0 ≤ H.1 5 0 (q65) ∧ H.1 5 0 (q65) ≤ 5999 from ⟨by omega, by omega⟩) t56 t66 (Or.inl ⟨_, rfl⟩)
      · skip
        refine J.run 3 rfl ⟨(hI.is hI.top.1), (hI.o 10 1 7 F.1 rfl hI.top.1).1⟩ ?_
        try dsimp only
        try dsimp only
        rw [show (H.2.2.2.2 10 1 F.1) = F.2.2.1 from hI.one.2.2.1 _ (hI.o 10 1 7 F.1 rfl hI.top.1).2]
        have f69 : 0 ≤ H.1 7 4 F.2.2.1 ∧ H.1 7 4 F.2.2.1 ≤ 6000 := hI.v 7 4 F.2.2.1 hI.top.2.2.1
        refine J.run 1 rfl (hI.is hI.top.2.2.1) ?_
        try dsimp only
        refine J.icmp rfl rfl rfl ⟨(show -2147483648 ≤ i ∧ i ≤ 2147483647 from ⟨by omega, by omega⟩), (show -2147483648 ≤ H.1 7 4 F.2.2.1 ∧ H.1 7 4 F.2.2.1 ≤ 2147483647 from ⟨by omega, by omega⟩)⟩ (fun hc => ?_) (fun hc => ?_)
        · have c70 : H.1 7 4 F.2.2.1 ≤ i := hc
          clear hc
          refine J.run0 1 rfl ?_
          try dsimp only
          exact J.reti rfl rfl rfl ⟨_, rfl, rfl, rfl, _, rfl, trivial⟩
        · have c71 : ¬ (H.1 7 4 F.2.2.1 ≤ i) := hc
          clear hc
          refine J.run 2 rfl ⟨(hI.is hI.top.1), (hI.o 10 1 7 F.1 rfl hI.top.1).1⟩ ?_
          try dsimp only
          try dsimp only
          rw [show (H.2.2.2.2 10 1 F.1) = F.2.2.1 from hI.one.2.2.1 _ (hI.o 10 1 7 F.1 rfl hI.top.1).2]
          refine J.run0 1 rfl ?_
          try dsimp only
          refine J.inv rfl rfl rfl rfl rfl rfl ((jD_w rfl).mpr (hI.is hI.top.2.2.1)) rfl rfl rfl rfl rfl (c_X7_get (m0 := i) hI  (show -2147483648 ≤ i ∧ i ≤ 2147483647 from ⟨by omega, by omega⟩)) ?_
          rintro v w H ⟨rfl, rfl, hv⟩
          rcases hv with ⟨rfl, r74⟩ | ⟨q72, rfl, t73, r74⟩
          · have r74' : (0 ≤ i → i < H.1 7 4 F.2.2.1 → H.2.2.2.1 28 F.2.2.1 (i) = none) := r74
            try dsimp only [Option.toList, List.append, List.cons_append, List.nil_append]
            refine J.run0 5 rfl ?_
            try dsimp only
            exact ih.1 (i + 1) _ (show 10000 * (6001 - (i + 1)) < _ by omega) (show 0 ≤ (i + 1) ∧ (i + 1) ≤ 6000 from ⟨by omega, by omega⟩)  (Or.inr (Or.inr (Or.inr (Or.inr (Or.inr (Or.inl ⟨_, rfl⟩))))))
          · have r74' : (0 ≤ i ∧ i < H.1 7 4 F.2.2.1 ∧ H.2.2.2.1 28 F.2.2.1 (i) = some q72) := r74
            try dsimp only [Option.toList, List.append, List.cons_append, List.nil_append]
            have f75 : 0 ≤ H.1 5 0 q72 ∧ H.1 5 0 q72 ≤ 5999 := hI.v 5 0 q72 t73
            have f76 : 0 ≤ H.1 5 2 q72 ∧ H.1 5 2 q72 ≤ 15 := hI.v 5 2 q72 t73
            refine J.run 6 rfl (hI.is t73) ?_
            try dsimp only
            refine J.inv rfl rfl rfl rfl rfl rfl ((jD_w rfl).mpr (hI.is hI.top.1)) rfl rfl rfl rfl rfl (c_X10_isFaulty (n := H.1 5 2 q72) hI  (show -2147483648 ≤ (H.1 5 2 q72) ∧ (H.1 5 2 q72) ≤ 2147483647 from ⟨by omega, by omega⟩)) ?_
            rintro v w H ⟨rfl, rfl, hv⟩
            obtain ⟨x77, rfl, r78⟩ := hv
            have r78' : (x77 = 0 ∨ x77 = 1) ∧ (x77 = 1 → 0 ≤ (H.1 5 2 q72) ∧ (H.1 5 2 q72) ≤ 15) := r78
            try dsimp only [Option.toList, List.append, List.cons_append, List.nil_append]
            refine J.ifc rfl rfl rfl (show -2147483648 ≤ x77 ∧ x77 ≤ 2147483647 from ⟨by omega, by omega⟩) (fun hc => ?_) (fun hc => ?_)
            · have c79 : ¬ (x77 = (0 : Int)) := hc
              clear hc
              refine J.run0 2 rfl ?_
              try dsimp only
              exact ih.1 (i + 1) _ (show 10000 * (6001 - (i + 1)) < _ by omega) (show 0 ≤ (i + 1) ∧ (i + 1) ≤ 6000 from ⟨by omega, by omega⟩)  (Or.inr (Or.inr (Or.inr (Or.inr (Or.inr (Or.inr (⟨_, t73, _, rfl⟩)))))))
            · have c80 : ¬ (¬ (x77 = (0 : Int))) := hc
              clear hc
              refine J.run 2 rfl (hI.is t73) ?_
              try dsimp only
              try dsimp only
              rcases hn81 : H.2.1 5 7 q72 with _ | q82
              · skip
                refine J.run0 5 rfl ?_
                try dsimp only
                exact ih.1 (i + 1) _ (show 10000 * (6001 - (i + 1)) < _ by omega) (show 0 ≤ (i + 1) ∧ (i + 1) ≤ 6000 from ⟨by omega, by omega⟩)  (Or.inr (Or.inr (Or.inr (Or.inl ⟨_, t73, _, rfl⟩))))
              · have t83 : T 5 q82 := hI.n 5 7 5 q72 rfl t73 hn81
                have f84 : 0 ≤ H.1 5 0 q82 ∧ H.1 5 0 q82 ≤ 5999 := hI.v 5 0 q82 t83
                have f85 := hI.nx t73 hn81
                refine J.run0 1 rfl ?_
                try dsimp only
                exact ih.2 (i) (q72) (q82) _ (show 10000 * (6001 - (i)) - 1 - H.1 5 0 (q82) < _ by omega) (show 0 ≤ (i) ∧ (i) < 6000 from ⟨by omega, by omega⟩) (show 0 ≤ H.1 5 0 (q82) ∧ H.1 5 0 (q82) ≤ 5999 from ⟨by omega, by omega⟩) t73 t83 (Or.inl ⟨_, rfl⟩)
      · skip
        refine J.run 3 rfl ⟨(hI.is hI.top.1), (hI.o 10 1 7 F.1 rfl hI.top.1).1⟩ ?_
        try dsimp only
        try dsimp only
        rw [show (H.2.2.2.2 10 1 F.1) = F.2.2.1 from hI.one.2.2.1 _ (hI.o 10 1 7 F.1 rfl hI.top.1).2]
        have f86 : 0 ≤ H.1 7 4 F.2.2.1 ∧ H.1 7 4 F.2.2.1 ≤ 6000 := hI.v 7 4 F.2.2.1 hI.top.2.2.1
        refine J.run 1 rfl (hI.is hI.top.2.2.1) ?_
        try dsimp only
        refine J.icmp rfl rfl rfl ⟨(show -2147483648 ≤ i ∧ i ≤ 2147483647 from ⟨by omega, by omega⟩), (show -2147483648 ≤ H.1 7 4 F.2.2.1 ∧ H.1 7 4 F.2.2.1 ≤ 2147483647 from ⟨by omega, by omega⟩)⟩ (fun hc => ?_) (fun hc => ?_)
        · have c87 : H.1 7 4 F.2.2.1 ≤ i := hc
          clear hc
          refine J.run0 1 rfl ?_
          try dsimp only
          exact J.reti rfl rfl rfl ⟨_, rfl, rfl, rfl, _, rfl, trivial⟩
        · have c88 : ¬ (H.1 7 4 F.2.2.1 ≤ i) := hc
          clear hc
          refine J.run 2 rfl ⟨(hI.is hI.top.1), (hI.o 10 1 7 F.1 rfl hI.top.1).1⟩ ?_
          try dsimp only
          try dsimp only
          rw [show (H.2.2.2.2 10 1 F.1) = F.2.2.1 from hI.one.2.2.1 _ (hI.o 10 1 7 F.1 rfl hI.top.1).2]
          refine J.run0 1 rfl ?_
          try dsimp only
          refine J.inv rfl rfl rfl rfl rfl rfl ((jD_w rfl).mpr (hI.is hI.top.2.2.1)) rfl rfl rfl rfl rfl (c_X7_get (m0 := i) hI  (show -2147483648 ≤ i ∧ i ≤ 2147483647 from ⟨by omega, by omega⟩)) ?_
          rintro v w H ⟨rfl, rfl, hv⟩
          rcases hv with ⟨rfl, r91⟩ | ⟨q89, rfl, t90, r91⟩
          · have r91' : (0 ≤ i → i < H.1 7 4 F.2.2.1 → H.2.2.2.1 28 F.2.2.1 (i) = none) := r91
            try dsimp only [Option.toList, List.append, List.cons_append, List.nil_append]
            refine J.run0 5 rfl ?_
            try dsimp only
            exact ih.1 (i + 1) _ (show 10000 * (6001 - (i + 1)) < _ by omega) (show 0 ≤ (i + 1) ∧ (i + 1) ≤ 6000 from ⟨by omega, by omega⟩)  (Or.inr (Or.inr (Or.inr (Or.inr (Or.inr (Or.inl ⟨_, rfl⟩))))))
          · have r91' : (0 ≤ i ∧ i < H.1 7 4 F.2.2.1 ∧ H.2.2.2.1 28 F.2.2.1 (i) = some q89) := r91
            try dsimp only [Option.toList, List.append, List.cons_append, List.nil_append]
            have f92 : 0 ≤ H.1 5 0 q89 ∧ H.1 5 0 q89 ≤ 5999 := hI.v 5 0 q89 t90
            have f93 : 0 ≤ H.1 5 2 q89 ∧ H.1 5 2 q89 ≤ 15 := hI.v 5 2 q89 t90
            refine J.run 6 rfl (hI.is t90) ?_
            try dsimp only
            refine J.inv rfl rfl rfl rfl rfl rfl ((jD_w rfl).mpr (hI.is hI.top.1)) rfl rfl rfl rfl rfl (c_X10_isFaulty (n := H.1 5 2 q89) hI  (show -2147483648 ≤ (H.1 5 2 q89) ∧ (H.1 5 2 q89) ≤ 2147483647 from ⟨by omega, by omega⟩)) ?_
            rintro v w H ⟨rfl, rfl, hv⟩
            obtain ⟨x94, rfl, r95⟩ := hv
            have r95' : (x94 = 0 ∨ x94 = 1) ∧ (x94 = 1 → 0 ≤ (H.1 5 2 q89) ∧ (H.1 5 2 q89) ≤ 15) := r95
            try dsimp only [Option.toList, List.append, List.cons_append, List.nil_append]
            refine J.ifc rfl rfl rfl (show -2147483648 ≤ x94 ∧ x94 ≤ 2147483647 from ⟨by omega, by omega⟩) (fun hc => ?_) (fun hc => ?_)
            · have c96 : ¬ (x94 = (0 : Int)) := hc
              clear hc
              refine J.run0 2 rfl ?_
              try dsimp only
              exact ih.1 (i + 1) _ (show 10000 * (6001 - (i + 1)) < _ by omega) (show 0 ≤ (i + 1) ∧ (i + 1) ≤ 6000 from ⟨by omega, by omega⟩)  (Or.inr (Or.inr (Or.inr (Or.inr (Or.inr (Or.inr (⟨_, t90, _, rfl⟩)))))))
            · have c97 : ¬ (¬ (x94 = (0 : Int))) := hc
              clear hc
              refine J.run 2 rfl (hI.is t90) ?_
              try dsimp only
              try dsimp only
              rcases hn98 : H.2.1 5 7 q89 with _ | q99
              · skip
                refine J.run0 5 rfl ?_
                try dsimp only
                exact ih.1 (i + 1) _ (show 10000 * (6001 - (i + 1)) < _ by omega) (show 0 ≤ (i + 1) ∧ (i + 1) ≤ 6000 from ⟨by omega, by omega⟩)  (Or.inr (Or.inr (Or.inr (Or.inl ⟨_, t90, _, rfl⟩))))
              · have t100 : T 5 q99 := hI.n 5 7 5 q89 rfl t90 hn98
                have f101 : 0 ≤ H.1 5 0 q99 ∧ H.1 5 0 q99 ≤ 5999 := hI.v 5 0 q99 t100
                have f102 := hI.nx t90 hn98
                refine J.run0 1 rfl ?_
                try dsimp only
                exact ih.2 (i) (q89) (q99) _ (show 10000 * (6001 - (i)) - 1 - H.1 5 0 (q99) < _ by omega) (show 0 ≤ (i) ∧ (i) < 6000 from ⟨by omega, by omega⟩) (show 0 ≤ H.1 5 0 (q99) ∧ H.1 5 0 (q99) ≤ 5999 from ⟨by omega, by omega⟩) t90 t100 (Or.inl ⟨_, rfl⟩)
      · skip
        refine J.run 3 rfl ⟨(hI.is hI.top.1), (hI.o 10 1 7 F.1 rfl hI.top.1).1⟩ ?_
        try dsimp only
        try dsimp only
        rw [show (H.2.2.2.2 10 1 F.1) = F.2.2.1 from hI.one.2.2.1 _ (hI.o 10 1 7 F.1 rfl hI.top.1).2]
        have f103 : 0 ≤ H.1 7 4 F.2.2.1 ∧ H.1 7 4 F.2.2.1 ≤ 6000 := hI.v 7 4 F.2.2.1 hI.top.2.2.1
        refine J.run 1 rfl (hI.is hI.top.2.2.1) ?_
        try dsimp only
        refine J.icmp rfl rfl rfl ⟨(show -2147483648 ≤ i ∧ i ≤ 2147483647 from ⟨by omega, by omega⟩), (show -2147483648 ≤ H.1 7 4 F.2.2.1 ∧ H.1 7 4 F.2.2.1 ≤ 2147483647 from ⟨by omega, by omega⟩)⟩ (fun hc => ?_) (fun hc => ?_)
        · have c104 : H.1 7 4 F.2.2.1 ≤ i := hc
          clear hc
          refine J.run0 1 rfl ?_
          try dsimp only
          exact J.reti rfl rfl rfl ⟨_, rfl, rfl, rfl, _, rfl, trivial⟩
        · have c105 : ¬ (H.1 7 4 F.2.2.1 ≤ i) := hc
          clear hc
          refine J.run 2 rfl ⟨(hI.is hI.top.1), (hI.o 10 1 7 F.1 rfl hI.top.1).1⟩ ?_
          try dsimp only
          try dsimp only
          rw [show (H.2.2.2.2 10 1 F.1) = F.2.2.1 from hI.one.2.2.1 _ (hI.o 10 1 7 F.1 rfl hI.top.1).2]
          refine J.run0 1 rfl ?_
          try dsimp only
          refine J.inv rfl rfl rfl rfl rfl rfl ((jD_w rfl).mpr (hI.is hI.top.2.2.1)) rfl rfl rfl rfl rfl (c_X7_get (m0 := i) hI  (show -2147483648 ≤ i ∧ i ≤ 2147483647 from ⟨by omega, by omega⟩)) ?_
          rintro v w H ⟨rfl, rfl, hv⟩
          rcases hv with ⟨rfl, r108⟩ | ⟨q106, rfl, t107, r108⟩
          · have r108' : (0 ≤ i → i < H.1 7 4 F.2.2.1 → H.2.2.2.1 28 F.2.2.1 (i) = none) := r108
            try dsimp only [Option.toList, List.append, List.cons_append, List.nil_append]
            refine J.run0 5 rfl ?_
            try dsimp only
            exact ih.1 (i + 1) _ (show 10000 * (6001 - (i + 1)) < _ by omega) (show 0 ≤ (i + 1) ∧ (i + 1) ≤ 6000 from ⟨by omega, by omega⟩)  (Or.inr (Or.inr (Or.inr (Or.inr (Or.inr (Or.inl ⟨_, rfl⟩))))))
          · have r108' : (0 ≤ i ∧ i < H.1 7 4 F.2.2.1 ∧ H.2.2.2.1 28 F.2.2.1 (i) = some q106) := r108
            try dsimp only [Option.toList, List.append, List.cons_append, List.nil_append]
            have f109 : 0 ≤ H.1 5 0 q106 ∧ H.1 5 0 q106 ≤ 5999 := hI.v 5 0 q106 t107
            have f110 : 0 ≤ H.1 5 2 q106 ∧ H.1 5 2 q106 ≤ 15 := hI.v 5 2 q106 t107
            refine J.run 6 rfl (hI.is t107) ?_
            try dsimp only
            refine J.inv rfl rfl rfl rfl rfl rfl ((jD_w rfl).mpr (hI.is hI.top.1)) rfl rfl rfl rfl rfl (c_X10_isFaulty (n := H.1 5 2 q106) hI  (show -2147483648 ≤ (H.1 5 2 q106) ∧ (H.1 5 2 q106) ≤ 2147483647 from ⟨by omega, by omega⟩)) ?_
            rintro v w H ⟨rfl, rfl, hv⟩
            obtain ⟨x111, rfl, r112⟩ := hv
            have r112' : (x111 = 0 ∨ x111 = 1) ∧ (x111 = 1 → 0 ≤ (H.1 5 2 q106) ∧ (H.1 5 2 q106) ≤ 15) := r112
            try dsimp only [Option.toList, List.append, List.cons_append, List.nil_append]
            refine J.ifc rfl rfl rfl (show -2147483648 ≤ x111 ∧ x111 ≤ 2147483647 from ⟨by omega, by omega⟩) (fun hc => ?_) (fun hc => ?_)
            · have c113 : ¬ (x111 = (0 : Int)) := hc
              clear hc
              refine J.run0 2 rfl ?_
              try dsimp only
              exact ih.1 (i + 1) _ (show 10000 * (6001 - (i + 1)) < _ by omega) (show 0 ≤ (i + 1) ∧ (i + 1) ≤ 6000 from ⟨by omega, by omega⟩)  (Or.inr (Or.inr (Or.inr (Or.inr (Or.inr (Or.inr (⟨_, t107, _, rfl⟩)))))))
            · have c114 : ¬ (¬ (x111 = (0 : Int))) := hc
              clear hc
              refine J.run 2 rfl (hI.is t107) ?_
              try dsimp only
              try dsimp only
              rcases hn115 : H.2.1 5 7 q106 with _ | q116
              · skip
                refine J.run0 5 rfl ?_
                try dsimp only
                exact ih.1 (i + 1) _ (show 10000 * (6001 - (i + 1)) < _ by omega) (show 0 ≤ (i + 1) ∧ (i + 1) ≤ 6000 from ⟨by omega, by omega⟩)  (Or.inr (Or.inr (Or.inr (Or.inl ⟨_, t107, _, rfl⟩))))
              · have t117 : T 5 q116 := hI.n 5 7 5 q106 rfl t107 hn115
                have f118 : 0 ≤ H.1 5 0 q116 ∧ H.1 5 0 q116 ≤ 5999 := hI.v 5 0 q116 t117
                have f119 := hI.nx t107 hn115
                refine J.run0 1 rfl ?_
                try dsimp only
                exact ih.2 (i) (q106) (q116) _ (show 10000 * (6001 - (i)) - 1 - H.1 5 0 (q116) < _ by omega) (show 0 ≤ (i) ∧ (i) < 6000 from ⟨by omega, by omega⟩) (show 0 ≤ H.1 5 0 (q116) ∧ H.1 5 0 (q116) ≤ 5999 from ⟨by omega, by omega⟩) t107 t117 (Or.inl ⟨_, rfl⟩)
    · intro i y z lv hm hi0 hi1 tv3 tv4 hlv
      rcases hlv with ⟨j1, rfl⟩ | ⟨j1, rfl⟩
      · skip
        have f120 : 0 ≤ H.1 5 2 z ∧ H.1 5 2 z ≤ 15 := hI.v 5 2 z tv4
        have f121 : 0 ≤ H.1 5 2 y ∧ H.1 5 2 y ≤ 15 := hI.v 5 2 y tv3
        refine J.run 6 rfl ⟨(hI.is tv4), (hI.is tv3)⟩ ?_
        try dsimp only
        refine J.icmp rfl rfl rfl ⟨(show -2147483648 ≤ H.1 5 2 z ∧ H.1 5 2 z ≤ 2147483647 from ⟨by omega, by omega⟩), (show -2147483648 ≤ H.1 5 2 y ∧ H.1 5 2 y ≤ 2147483647 from ⟨by omega, by omega⟩)⟩ (fun hc => ?_) (fun hc => ?_)
        · have c122 : ¬ (H.1 5 2 z = H.1 5 2 y) := hc
          clear hc
          refine J.run 2 rfl (hI.is tv4) ?_
          try dsimp only
          try dsimp only
          rcases hn123 : H.2.1 5 7 z with _ | q124
          · skip
            refine J.run0 6 rfl ?_
            try dsimp only
            exact ih.1 (i + 1) _ (show 10000 * (6001 - (i + 1)) < _ by omega) (show 0 ≤ (i + 1) ∧ (i + 1) ≤ 6000 from ⟨by omega, by omega⟩)  (Or.inr (Or.inr (Or.inr (Or.inl ⟨_, tv3, _, rfl⟩))))
          · have t125 : T 5 q124 := hI.n 5 7 5 z rfl tv4 hn123
            have f126 : 0 ≤ H.1 5 0 q124 ∧ H.1 5 0 q124 ≤ 5999 := hI.v 5 0 q124 t125
            have f127 := hI.nx tv4 hn123
            refine J.run0 2 rfl ?_
            try dsimp only
            have f128 : 0 ≤ H.1 5 0 y ∧ H.1 5 0 y ≤ 5999 := hI.v 5 0 y tv3
            exact ih.2 (i) (y) (q124) _ (show 10000 * (6001 - (i)) - 1 - H.1 5 0 (q124) < _ by omega) (show 0 ≤ (i) ∧ (i) < 6000 from ⟨by omega, by omega⟩) (show 0 ≤ H.1 5 0 (q124) ∧ H.1 5 0 (q124) ≤ 5999 from ⟨by omega, by omega⟩) tv3 t125 (Or.inl ⟨_, rfl⟩)
        · have c129 : ¬ (¬ (H.1 5 2 z = H.1 5 2 y)) := hc
          clear hc
          refine J.run 4 rfl ⟨(hI.is tv4), (hI.is tv3)⟩ ?_
          try dsimp only
          refine J.icmpN rfl rfl rfl (fun hc => ?_) (fun hc => ?_)
          · have c130 : ¬ (jn (H.1 5 1 z) = jn (H.1 5 1 y)) := hc
            clear hc
            refine J.run 2 rfl (hI.is tv4) ?_
            try dsimp only
            try dsimp only
            rcases hn131 : H.2.1 5 7 z with _ | q132
            · skip
              refine J.run0 6 rfl ?_
              try dsimp only
              exact ih.1 (i + 1) _ (show 10000 * (6001 - (i + 1)) < _ by omega) (show 0 ≤ (i + 1) ∧ (i + 1) ≤ 6000 from ⟨by omega, by omega⟩)  (Or.inr (Or.inr (Or.inr (Or.inl ⟨_, tv3, _, rfl⟩))))
            · have t133 : T 5 q132 := hI.n 5 7 5 z rfl tv4 hn131
              have f134 : 0 ≤ H.1 5 0 q132 ∧ H.1 5 0 q132 ≤ 5999 := hI.v 5 0 q132 t133
              have f135 := hI.nx tv4 hn131
              refine J.run0 2 rfl ?_
              try dsimp only
              have f136 : 0 ≤ H.1 5 0 y ∧ H.1 5 0 y ≤ 5999 := hI.v 5 0 y tv3
              exact ih.2 (i) (y) (q132) _ (show 10000 * (6001 - (i)) - 1 - H.1 5 0 (q132) < _ by omega) (show 0 ≤ (i) ∧ (i) < 6000 from ⟨by omega, by omega⟩) (show 0 ≤ H.1 5 0 (q132) ∧ H.1 5 0 (q132) ≤ 5999 from ⟨by omega, by omega⟩) tv3 t133 (Or.inl ⟨_, rfl⟩)
          · have c137 : ¬ (¬ (jn (H.1 5 1 z) = jn (H.1 5 1 y))) := hc
            clear hc
            have f138 : (-2147483648) ≤ H.1 5 5 z ∧ H.1 5 5 z ≤ 2147483647 := hI.v 5 5 z tv4
            have f139 : (-2147483648) ≤ H.1 5 5 y ∧ H.1 5 5 y ≤ 2147483647 := hI.v 5 5 y tv3
            refine J.run 4 rfl ⟨(hI.is tv4), (hI.is tv3)⟩ ?_
            try dsimp only
            refine J.icmp rfl rfl rfl ⟨(show -2147483648 ≤ H.1 5 5 z ∧ H.1 5 5 z ≤ 2147483647 from ⟨by omega, by omega⟩), (show -2147483648 ≤ H.1 5 5 y ∧ H.1 5 5 y ≤ 2147483647 from ⟨by omega, by omega⟩)⟩ (fun hc => ?_) (fun hc => ?_)
            · have c140 : H.1 5 5 z = H.1 5 5 y := hc
              clear hc
              refine J.run 2 rfl (hI.is tv4) ?_
              try dsimp only
              try dsimp only
              rcases hn141 : H.2.1 5 7 z with _ | q142
              · skip
                refine J.run0 6 rfl ?_
                try dsimp only
                exact ih.1 (i + 1) _ (show 10000 * (6001 - (i + 1)) < _ by omega) (show 0 ≤ (i + 1) ∧ (i + 1) ≤ 6000 from ⟨by omega, by omega⟩)  (Or.inr (Or.inr (Or.inr (Or.inl ⟨_, tv3, _, rfl⟩))))
              · have t143 : T 5 q142 := hI.n 5 7 5 z rfl tv4 hn141
                have f144 : 0 ≤ H.1 5 0 q142 ∧ H.1 5 0 q142 ≤ 5999 := hI.v 5 0 q142 t143
                have f145 := hI.nx tv4 hn141
                refine J.run0 2 rfl ?_
                try dsimp only
                have f146 : 0 ≤ H.1 5 0 y ∧ H.1 5 0 y ≤ 5999 := hI.v 5 0 y tv3
                exact ih.2 (i) (y) (q142) _ (show 10000 * (6001 - (i)) - 1 - H.1 5 0 (q142) < _ by omega) (show 0 ≤ (i) ∧ (i) < 6000 from ⟨by omega, by omega⟩) (show 0 ≤ H.1 5 0 (q142) ∧ H.1 5 0 (q142) ≤ 5999 from ⟨by omega, by omega⟩) tv3 t143 (Or.inl ⟨_, rfl⟩)
            · have c147 : ¬ (H.1 5 5 z = H.1 5 5 y) := hc
              clear hc
              refine J.run 3 rfl (hI.is tv4) ?_
              try dsimp only
              try dsimp only
              rcases hn148 : H.2.1 5 7 z with _ | q149
              · skip
                refine J.run0 6 rfl ?_
                try dsimp only
                exact ih.1 (i + 1) _ (show 10000 * (6001 - (i + 1)) < _ by omega) (show 0 ≤ (i + 1) ∧ (i + 1) ≤ 6000 from ⟨by omega, by omega⟩)  (Or.inr (Or.inr (Or.inr (Or.inr (Or.inl ⟨_, _, tv3, rfl⟩)))))
              · have t150 : T 5 q149 := hI.n 5 7 5 z rfl tv4 hn148
                have f151 : 0 ≤ H.1 5 0 q149 ∧ H.1 5 0 q149 ≤ 5999 := hI.v 5 0 q149 t150
                have f152 := hI.nx tv4 hn148
                refine J.run0 2 rfl ?_
                try dsimp only
                have f153 : 0 ≤ H.1 5 0 y ∧ H.1 5 0 y ≤ 5999 := hI.v 5 0 y tv3
                exact ih.2 (i) (y) (q149) _ (show 10000 * (6001 - (i)) - 1 - H.1 5 0 (q149) < _ by omega) (show 0 ≤ (i) ∧ (i) < 6000 from ⟨by omega, by omega⟩) (show 0 ≤ H.1 5 0 (q149) ∧ H.1 5 0 (q149) ≤ 5999 from ⟨by omega, by omega⟩) tv3 t150 (Or.inr (⟨_, rfl⟩))
      · skip
        have f154 : 0 ≤ H.1 5 2 z ∧ H.1 5 2 z ≤ 15 := hI.v 5 2 z tv4
        have f155 : 0 ≤ H.1 5 2 y ∧ H.1 5 2 y ≤ 15 := hI.v 5 2 y tv3
        refine J.run 6 rfl ⟨(hI.is tv4), (hI.is tv3)⟩ ?_
        try dsimp only
        refine J.icmp rfl rfl rfl ⟨(show -2147483648 ≤ H.1 5 2 z ∧ H.1 5 2 z ≤ 2147483647 from ⟨by omega, by omega⟩), (show -2147483648 ≤ H.1 5 2 y ∧ H.1 5 2 y ≤ 2147483647 from ⟨by omega, by omega⟩)⟩ (fun hc => ?_) (fun hc => ?_)
        · have c156 : ¬ (H.1 5 2 z = H.1 5 2 y) := hc
          clear hc
          refine J.run 2 rfl (hI.is tv4) ?_
          try dsimp only
          try dsimp only
          rcases hn157 : H.2.1 5 7 z with _ | q158
          · skip
            refine J.run0 6 rfl ?_
            try dsimp only
            exact ih.1 (i + 1) _ (show 10000 * (6001 - (i + 1)) < _ by omega) (show 0 ≤ (i + 1) ∧ (i + 1) ≤ 6000 from ⟨by omega, by omega⟩)  (Or.inr (Or.inr (Or.inr (Or.inr (Or.inl ⟨_, _, tv3, rfl⟩)))))
          · have t159 : T 5 q158 := hI.n 5 7 5 z rfl tv4 hn157
            have f160 : 0 ≤ H.1 5 0 q158 ∧ H.1 5 0 q158 ≤ 5999 := hI.v 5 0 q158 t159
            have f161 := hI.nx tv4 hn157
            refine J.run0 2 rfl ?_
            try dsimp only
            have f162 : 0 ≤ H.1 5 0 y ∧ H.1 5 0 y ≤ 5999 := hI.v 5 0 y tv3
            exact ih.2 (i) (y) (q158) _ (show 10000 * (6001 - (i)) - 1 - H.1 5 0 (q158) < _ by omega) (show 0 ≤ (i) ∧ (i) < 6000 from ⟨by omega, by omega⟩) (show 0 ≤ H.1 5 0 (q158) ∧ H.1 5 0 (q158) ≤ 5999 from ⟨by omega, by omega⟩) tv3 t159 (Or.inr (⟨_, rfl⟩))
        · have c163 : ¬ (¬ (H.1 5 2 z = H.1 5 2 y)) := hc
          clear hc
          refine J.run 4 rfl ⟨(hI.is tv4), (hI.is tv3)⟩ ?_
          try dsimp only
          refine J.icmpN rfl rfl rfl (fun hc => ?_) (fun hc => ?_)
          · have c164 : ¬ (jn (H.1 5 1 z) = jn (H.1 5 1 y)) := hc
            clear hc
            refine J.run 2 rfl (hI.is tv4) ?_
            try dsimp only
            try dsimp only
            rcases hn165 : H.2.1 5 7 z with _ | q166
            · skip
              refine J.run0 6 rfl ?_
              try dsimp only
              exact ih.1 (i + 1) _ (show 10000 * (6001 - (i + 1)) < _ by omega) (show 0 ≤ (i + 1) ∧ (i + 1) ≤ 6000 from ⟨by omega, by omega⟩)  (Or.inr (Or.inr (Or.inr (Or.inr (Or.inl ⟨_, _, tv3, rfl⟩)))))
            · have t167 : T 5 q166 := hI.n 5 7 5 z rfl tv4 hn165
              have f168 : 0 ≤ H.1 5 0 q166 ∧ H.1 5 0 q166 ≤ 5999 := hI.v 5 0 q166 t167
              have f169 := hI.nx tv4 hn165
              refine J.run0 2 rfl ?_
              try dsimp only
              have f170 : 0 ≤ H.1 5 0 y ∧ H.1 5 0 y ≤ 5999 := hI.v 5 0 y tv3
              exact ih.2 (i) (y) (q166) _ (show 10000 * (6001 - (i)) - 1 - H.1 5 0 (q166) < _ by omega) (show 0 ≤ (i) ∧ (i) < 6000 from ⟨by omega, by omega⟩) (show 0 ≤ H.1 5 0 (q166) ∧ H.1 5 0 (q166) ≤ 5999 from ⟨by omega, by omega⟩) tv3 t167 (Or.inr (⟨_, rfl⟩))
          · have c171 : ¬ (¬ (jn (H.1 5 1 z) = jn (H.1 5 1 y))) := hc
            clear hc
            have f172 : (-2147483648) ≤ H.1 5 5 z ∧ H.1 5 5 z ≤ 2147483647 := hI.v 5 5 z tv4
            have f173 : (-2147483648) ≤ H.1 5 5 y ∧ H.1 5 5 y ≤ 2147483647 := hI.v 5 5 y tv3
            refine J.run 4 rfl ⟨(hI.is tv4), (hI.is tv3)⟩ ?_
            try dsimp only
            refine J.icmp rfl rfl rfl ⟨(show -2147483648 ≤ H.1 5 5 z ∧ H.1 5 5 z ≤ 2147483647 from ⟨by omega, by omega⟩), (show -2147483648 ≤ H.1 5 5 y ∧ H.1 5 5 y ≤ 2147483647 from ⟨by omega, by omega⟩)⟩ (fun hc => ?_) (fun hc => ?_)
            · have c174 : H.1 5 5 z = H.1 5 5 y := hc
              clear hc
              refine J.run 2 rfl (hI.is tv4) ?_
              try dsimp only
              try dsimp only
              rcases hn175 : H.2.1 5 7 z with _ | q176
              · skip
                refine J.run0 6 rfl ?_
                try dsimp only
                exact ih.1 (i + 1) _ (show 10000 * (6001 - (i + 1)) < _ by omega) (show 0 ≤ (i + 1) ∧ (i + 1) ≤ 6000 from ⟨by omega, by omega⟩)  (Or.inr (Or.inr (Or.inr (Or.inr (Or.inl ⟨_, _, tv3, rfl⟩)))))
              · have t177 : T 5 q176 := hI.n 5 7 5 z rfl tv4 hn175
                have f178 : 0 ≤ H.1 5 0 q176 ∧ H.1 5 0 q176 ≤ 5999 := hI.v 5 0 q176 t177
                have f179 := hI.nx tv4 hn175
                refine J.run0 2 rfl ?_
                try dsimp only
                have f180 : 0 ≤ H.1 5 0 y ∧ H.1 5 0 y ≤ 5999 := hI.v 5 0 y tv3
                exact ih.2 (i) (y) (q176) _ (show 10000 * (6001 - (i)) - 1 - H.1 5 0 (q176) < _ by omega) (show 0 ≤ (i) ∧ (i) < 6000 from ⟨by omega, by omega⟩) (show 0 ≤ H.1 5 0 (q176) ∧ H.1 5 0 (q176) ≤ 5999 from ⟨by omega, by omega⟩) tv3 t177 (Or.inr (⟨_, rfl⟩))
            · have c181 : ¬ (H.1 5 5 z = H.1 5 5 y) := hc
              clear hc
              refine J.run 3 rfl (hI.is tv4) ?_
              try dsimp only
              try dsimp only
              rcases hn182 : H.2.1 5 7 z with _ | q183
              · skip
                refine J.run0 6 rfl ?_
                try dsimp only
                exact ih.1 (i + 1) _ (show 10000 * (6001 - (i + 1)) < _ by omega) (show 0 ≤ (i + 1) ∧ (i + 1) ≤ 6000 from ⟨by omega, by omega⟩)  (Or.inr (Or.inr (Or.inr (Or.inr (Or.inl ⟨_, _, tv3, rfl⟩)))))
              · have t184 : T 5 q183 := hI.n 5 7 5 z rfl tv4 hn182
                have f185 : 0 ≤ H.1 5 0 q183 ∧ H.1 5 0 q183 ≤ 5999 := hI.v 5 0 q183 t184
                have f186 := hI.nx tv4 hn182
                refine J.run0 2 rfl ?_
                try dsimp only
                have f187 : 0 ≤ H.1 5 0 y ∧ H.1 5 0 y ≤ 5999 := hI.v 5 0 y tv3
                exact ih.2 (i) (y) (q183) _ (show 10000 * (6001 - (i)) - 1 - H.1 5 0 (q183) < _ by omega) (show 0 ≤ (i) ∧ (i) < 6000 from ⟨by omega, by omega⟩) (show 0 ≤ H.1 5 0 (q183) ∧ H.1 5 0 (q183) ≤ 5999 from ⟨by omega, by omega⟩) tv3 t184 (Or.inr (⟨_, rfl⟩))
set_option maxRecDepth 20000 in
set_option maxHeartbeats 8000000 in
theorem c_X10_doubleMessages  (hI : cJ F T w H)   : J false (d + 2) 109 w (0, jargs 0 [.inr (some (10, F.1))], [], H) (jN fun v w' H' => w' = w ∧ H' = H ∧ ∃ rv, v = some (.inl rv) ∧ (True)) := by
  refine J.run0 4 rfl ?_
  try dsimp only
  exact (c_X10_doubleMessages_l0  hI   ((10000 * (6001 - ((0 : Int))) : Int).toNat + 1)).1 ((0 : Int)) _ (show 10000 * (6001 - ((0 : Int))) < _ by omega) (show 0 ≤ ((0 : Int)) ∧ ((0 : Int)) ≤ 6000 from ⟨by omega, by omega⟩)  (Or.inl ⟨_, rfl⟩)
end
