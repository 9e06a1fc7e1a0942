-- M: X8_bondOf
section
variable {d : Nat} {F : cG} {T : cP} {w : jW} {H : jH}
set_option maxRecDepth 20000 in
set_option maxHeartbeats 8000000 in
theorem c_X8_bondOf {a0 : Nat} {account : Int} {node : Int} (hI : cJ F T w H) (ta0 : T 8 a0)  : J false (d + 1) 66 w (0, jargs 0 [.inr (some (8, a0)), .inl account, .inl node], [], H) (jN fun v w' H' => w' = w ∧ H' = H ∧ ∃ rv, v = some (.inl rv) ∧ (True)) := by
  refine J.run0 3 rfl ?_
  try dsimp only
  refine J.inv rfl rfl rfl rfl rfl rfl ((jD_w rfl).mpr (hI.is ta0)) rfl rfl rfl rfl rfl (c_X8_placeOf (a0 := a0) (account := account) (node := node) hI ta0 ) ?_
  rintro v w H ⟨rfl, rfl, hv⟩
  obtain ⟨x1, rfl, r2⟩ := hv
  have r2' : -1 ≤ x1 ∧ x1 < H.1 8 4 a0 ∧ x1 ≤ 95 := r2
  try dsimp only [Option.toList, List.append, List.cons_append, List.nil_append]
  refine J.run0 3 rfl ?_
  try dsimp only
  refine J.icmp rfl rfl rfl ⟨(show -2147483648 ≤ x1 ∧ x1 ≤ 2147483647 from ⟨by omega, by omega⟩), (show -2147483648 ≤ (-1 : Int) ∧ (-1 : Int) ≤ 2147483647 from ⟨by omega, by omega⟩)⟩ (fun hc => ?_) (fun hc => ?_)
  · have c3 : ¬ (x1 = (-1 : Int)) := hc
    clear hc
    refine J.run 4 rfl ⟨⟨(hI.is ta0), hI.is (hI.r 8 3 35 a0 rfl ta0)⟩, (show w.1 35 a0 ∧ 0 ≤ x1 ∧ x1 < 96 from ⟨hI.is (hI.r 8 3 35 a0 rfl ta0), by omega, by omega⟩)⟩ ?_
    try dsimp only
    exact J.reti rfl rfl rfl ⟨_, rfl, rfl, rfl, _, rfl, trivial⟩
  · have c4 : ¬ (¬ (x1 = (-1 : Int))) := hc
    clear hc
    refine J.run0 2 rfl ?_
    try dsimp only
    exact J.reti rfl rfl rfl ⟨_, rfl, rfl, rfl, _, rfl, trivial⟩
end
-- M: X8_returnsOf
section
variable {d : Nat} {F : cG} {T : cP} {w : jW} {H : jH}
set_option maxRecDepth 20000 in
set_option maxHeartbeats 8000000 in
theorem c_X8_returnsOf_l0 {a0 : Nat} {account : Int} (hI : cJ F T w H) (ta0 : T 8 a0)  : ∀ (m : Nat), (∀ (s k : Int) (lv : jL), 32 - k < (m : Int) → (0 ≤ k ∧ k ≤ 32) → ((lv = [(3, .inl k), (2, .inl s), (0, .inr (some (8, a0))), (1, .inl account)])) → J false d 67 w (4, lv, [], H) (jN fun v w' H' => w' = w ∧ H' = H ∧ ∃ rv, v = some (.inl rv) ∧ (True))) := by
  intro m
  induction m with
  | zero =>
    skip
    · intro s k lv hm hi0 hlv
      exfalso
      omega
  | succ m ih =>
    skip
    · intro s k lv hm hi0 hlv
      rcases hlv with rfl
      have f1 : 0 ≤ H.1 8 8 a0 ∧ H.1 8 8 a0 ≤ 32 := hI.v 8 8 a0 ta0
      refine J.run 3 rfl (hI.is ta0) ?_
      try dsimp only
      refine J.icmp rfl rfl rfl ⟨(show -2147483648 ≤ k ∧ k ≤ 2147483647 from ⟨by omega, by omega⟩), (show -2147483648 ≤ H.1 8 8 a0 ∧ H.1 8 8 a0 ≤ 2147483647 from ⟨by omega, by omega⟩)⟩ (fun hc => ?_) (fun hc => ?_)
      · have c2 : H.1 8 8 a0 ≤ k := hc
        clear hc
        refine J.run0 1 rfl ?_
        try dsimp only
        exact J.reti rfl rfl rfl ⟨_, rfl, rfl, rfl, _, rfl, trivial⟩
      · have c3 : ¬ (H.1 8 8 a0 ≤ k) := hc
        clear hc
        have f4 : 0 ≤ H.2.2.1 36 a0 (k) ∧ H.2.2.1 36 a0 (k) ≤ 199 := hI.i 36 a0 (k) (hI.r 8 5 36 a0 rfl ta0)
        refine J.run 5 rfl ⟨⟨(hI.is ta0), hI.is (hI.r 8 5 36 a0 rfl ta0)⟩, (show w.1 36 a0 ∧ 0 ≤ k ∧ k < 32 from ⟨hI.is (hI.r 8 5 36 a0 rfl ta0), by omega, by omega⟩)⟩ ?_
        try dsimp only
        refine J.icmpN rfl rfl rfl (fun hc => ?_) (fun hc => ?_)
        · have c5 : ¬ (jn (H.2.2.1 36 a0 (k)) = jn (account)) := hc
          clear hc
          refine J.run0 2 rfl ?_
          try dsimp only
          exact ih (s) (k + 1) _ (show 32 - (k + 1) < _ by omega) (show 0 ≤ (k + 1) ∧ (k + 1) ≤ 32 from ⟨by omega, by omega⟩)  rfl
        · have c6 : ¬ (¬ (jn (H.2.2.1 36 a0 (k)) = jn (account))) := hc
          clear hc
          refine J.run 9 rfl ⟨⟨(hI.is ta0), hI.is (hI.r 8 6 37 a0 rfl ta0)⟩, (show w.1 37 a0 ∧ 0 ≤ k ∧ k < 32 from ⟨hI.is (hI.r 8 6 37 a0 rfl ta0), by omega, by omega⟩)⟩ ?_
          try dsimp only
          exact ih (s + (H.2.2.1 37 a0 (k))) (k + 1) _ (show 32 - (k + 1) < _ by omega) (show 0 ≤ (k + 1) ∧ (k + 1) ≤ 32 from ⟨by omega, by omega⟩)  rfl
set_option maxRecDepth 20000 in
set_option maxHeartbeats 8000000 in
theorem c_X8_returnsOf {a0 : Nat} {account : Int} (hI : cJ F T w H) (ta0 : T 8 a0)  : J false d 67 w (0, jargs 0 [.inr (some (8, a0)), .inl account], [], H) (jN fun v w' H' => w' = w ∧ H' = H ∧ ∃ rv, v = some (.inl rv) ∧ (True)) := by
  refine J.run0 4 rfl ?_
  try dsimp only
  exact (c_X8_returnsOf_l0 (a0 := a0) (account := account) hI ta0  ((32 - ((0 : Int)) : Int).toNat + 1)) ((0 : Int)) ((0 : Int)) _ (show 32 - ((0 : Int)) < _ by omega) (show 0 ≤ ((0 : Int)) ∧ ((0 : Int)) ≤ 32 from ⟨by omega, by omega⟩)  rfl
end
-- M: X8_everything
section
variable {d : Nat} {F : cG} {T : cP} {w : jW} {H : jH}
set_option maxRecDepth 20000 in
set_option maxHeartbeats 8000000 in
theorem c_X8_everything_l0 {a0 : Nat} (hI : cJ F T w H) (ta0 : T 8 a0)  : ∀ (m : Nat), (∀ (s k : Int) (lv : jL), 32 - k < (m : Int) → (0 ≤ k ∧ k ≤ 32) → ((lv = [(2, .inl k), (1, .inl s), (0, .inr (some (8, a0)))])) → J false d 68 w (56, lv, [], H) (jN fun v w' H' => w' = w ∧ H' = H ∧ ∃ rv, v = some (.inl rv) ∧ (True))) := by
  intro m
  induction m with
  | zero =>
    skip
    · intro s k lv hm hi0 hlv
      exfalso
      omega
  | succ m ih =>
    skip
    · intro s k lv hm hi0 hlv
      rcases hlv with rfl
      have f1 : 0 ≤ H.1 8 8 a0 ∧ H.1 8 8 a0 ≤ 32 := hI.v 8 8 a0 ta0
      refine J.run 3 rfl (hI.is ta0) ?_
      try dsimp only
      refine J.icmp rfl rfl rfl ⟨(show -2147483648 ≤ k ∧ k ≤ 2147483647 from ⟨by omega, by omega⟩), (show -2147483648 ≤ H.1 8 8 a0 ∧ H.1 8 8 a0 ≤ 2147483647 from ⟨by omega, by omega⟩)⟩ (fun hc => ?_) (fun hc => ?_)
      · have c2 : H.1 8 8 a0 ≤ k := hc
        clear hc
        refine J.run0 1 rfl ?_
        try dsimp only
        exact J.reti rfl rfl rfl ⟨_, rfl, rfl, rfl, _, rfl, trivial⟩
      · have c3 : ¬ (H.1 8 8 a0 ≤ k) := hc
        clear hc
        refine J.run 9 rfl ⟨⟨(hI.is ta0), hI.is (hI.r 8 6 37 a0 rfl ta0)⟩, (show w.1 37 a0 ∧ 0 ≤ k ∧ k < 32 from ⟨hI.is (hI.r 8 6 37 a0 rfl ta0), by omega, by omega⟩)⟩ ?_
        try dsimp only
        exact ih (s + (H.2.2.1 37 a0 (k))) (k + 1) _ (show 32 - (k + 1) < _ by omega) (show 0 ≤ (k + 1) ∧ (k + 1) ≤ 32 from ⟨by omega, by omega⟩)  rfl
set_option maxRecDepth 20000 in
set_option maxHeartbeats 8000000 in
theorem c_X8_everything_l1 {a0 : Nat} (hI : cJ F T w H) (ta0 : T 8 a0)  : ∀ (m : Nat), (∀ (s k : Int) (lv : jL), 96 - k < (m : Int) → (0 ≤ k ∧ k ≤ 96) → ((lv = [(2, .inl k), (1, .inl s), (0, .inr (some (8, a0)))])) → J false d 68 w (31, lv, [], H) (jN fun v w' H' => w' = w ∧ H' = H ∧ ∃ rv, v = some (.inl rv) ∧ (True))) := by
  intro m
  induction m with
  | zero =>
    skip
    · intro s k lv hm hi0 hlv
      exfalso
      omega
  | succ m ih =>
    skip
    · intro s k lv hm hi0 hlv
      rcases hlv with rfl
      have f4 : 0 ≤ H.1 8 4 a0 ∧ H.1 8 4 a0 ≤ 96 := hI.v 8 4 a0 ta0
      refine J.run 3 rfl (hI.is ta0) ?_
      try dsimp only
      refine J.icmp rfl rfl rfl ⟨(show -2147483648 ≤ k ∧ k ≤ 2147483647 from ⟨by omega, by omega⟩), (show -2147483648 ≤ H.1 8 4 a0 ∧ H.1 8 4 a0 ≤ 2147483647 from ⟨by omega, by omega⟩)⟩ (fun hc => ?_) (fun hc => ?_)
      · have c5 : H.1 8 4 a0 ≤ k := hc
        clear hc
        refine J.run0 2 rfl ?_
        try dsimp only
        exact (c_X8_everything_l0 (a0 := a0) hI ta0  ((32 - ((0 : Int)) : Int).toNat + 1)) (s) ((0 : Int)) _ (show 32 - ((0 : Int)) < _ by omega) (show 0 ≤ ((0 : Int)) ∧ ((0 : Int)) ≤ 32 from ⟨by omega, by omega⟩)  rfl
      · have c6 : ¬ (H.1 8 4 a0 ≤ k) := hc
        clear hc
        refine J.run 9 rfl ⟨⟨(hI.is ta0), hI.is (hI.r 8 3 35 a0 rfl ta0)⟩, (show w.1 35 a0 ∧ 0 ≤ k ∧ k < 96 from ⟨hI.is (hI.r 8 3 35 a0 rfl ta0), by omega, by omega⟩)⟩ ?_
        try dsimp only
        exact ih (s + (H.2.2.1 35 a0 (k))) (k + 1) _ (show 96 - (k + 1) < _ by omega) (show 0 ≤ (k + 1) ∧ (k + 1) ≤ 96 from ⟨by omega, by omega⟩)  rfl
set_option maxRecDepth 20000 in
set_option maxHeartbeats 8000000 in
theorem c_X8_everything_l2 {a0 : Nat} (hI : cJ F T w H) (ta0 : T 8 a0)  : ∀ (m : Nat), (∀ (s k : Int) (lv : jL), 200 - k < (m : Int) → (0 ≤ k ∧ k ≤ 200) → ((lv = [(2, .inl k), (1, .inl s), (0, .inr (some (8, a0)))])) → J false d 68 w (7, lv, [], H) (jN fun v w' H' => w' = w ∧ H' = H ∧ ∃ rv, v = some (.inl rv) ∧ (True))) := by
  intro m
  induction m with
  | zero =>
    skip
    · intro s k lv hm hi0 hlv
      exfalso
      omega
  | succ m ih =>
    skip
    · intro s k lv hm hi0 hlv
      rcases hlv with rfl
      refine J.run0 2 rfl ?_
      try dsimp only
      refine J.icmp rfl rfl rfl ⟨(show -2147483648 ≤ k ∧ k ≤ 2147483647 from ⟨by omega, by omega⟩), (show -2147483648 ≤ (200 : Int) ∧ (200 : Int) ≤ 2147483647 from ⟨by omega, by omega⟩)⟩ (fun hc => ?_) (fun hc => ?_)
      · have c7 : (200 : Int) ≤ k := hc
        clear hc
        refine J.run0 2 rfl ?_
        try dsimp only
        exact (c_X8_everything_l1 (a0 := a0) hI ta0  ((96 - ((0 : Int)) : Int).toNat + 1)) (s) ((0 : Int)) _ (show 96 - ((0 : Int)) < _ by omega) (show 0 ≤ ((0 : Int)) ∧ ((0 : Int)) ≤ 96 from ⟨by omega, by omega⟩)  rfl
      · have c8 : ¬ ((200 : Int) ≤ k) := hc
        clear hc
        refine J.run 9 rfl ⟨⟨(hI.is ta0), hI.is (hI.r 8 0 32 a0 rfl ta0)⟩, (show w.1 32 a0 ∧ 0 ≤ k ∧ k < 200 from ⟨hI.is (hI.r 8 0 32 a0 rfl ta0), by omega, by omega⟩)⟩ ?_
        try dsimp only
        exact ih (s + (H.2.2.1 32 a0 (k))) (k + 1) _ (show 200 - (k + 1) < _ by omega) (show 0 ≤ (k + 1) ∧ (k + 1) ≤ 200 from ⟨by omega, by omega⟩)  rfl
set_option maxRecDepth 20000 in
set_option maxHeartbeats 8000000 in
theorem c_X8_everything {a0 : Nat} (hI : cJ F T w H) (ta0 : T 8 a0)  : J false d 68 w (0, jargs 0 [.inr (some (8, a0))], [], H) (jN fun v w' H' => w' = w ∧ H' = H ∧ ∃ rv, v = some (.inl rv) ∧ (True)) := by
  refine J.run 5 rfl (hI.is ta0) ?_
  try dsimp only
  exact (c_X8_everything_l2 (a0 := a0) hI ta0  ((200 - ((0 : Int)) : Int).toNat + 1)) (H.1 8 11 a0) ((0 : Int)) _ (show 200 - ((0 : Int)) < _ by omega) (show 0 ≤ ((0 : Int)) ∧ ((0 : Int)) ≤ 200 from ⟨by omega, by omega⟩)  rfl
end
-- M: X8_proposerOf
section
variable {d : Nat} {F : cG} {T : cP} {w : jW} {H : jH}
set_option maxRecDepth 20000 in
set_option maxHeartbeats 8000000 in
theorem c_X8_proposerOf_l0 {a0 : Nat} {height : Int} {round : Int} (hI : cJ F T w H) (ta0 : T 8 a0)  : ∀ (m : Nat), (∀ (k : Int) (lv : jL), 16 - k < (m : Int) → (0 ≤ k ∧ k ≤ 16) → ((∃ j4 : Int, ∃ j3 : Int, lv = [(5, .inl k), (4, .inl j4), (3, .inl j3), (0, .inr (some (8, a0))), (1, .inl height), (2, .inl round)])) → J false d 65 w (32, lv, [], H) (jN fun v w' H' => w' = w ∧ H' = H ∧ ∃ rv, v = some (.inl rv) ∧ (-1 ≤ rv ∧ rv ≤ 15))) := by
  intro m
  induction m with
  | zero =>
    skip
    · intro k lv hm hi0 hlv
      exfalso
      omega
  | succ m ih =>
    skip
    · intro k lv hm hi0 hlv
      rcases hlv with ⟨j4, j3, rfl⟩
      refine J.run0 2 rfl ?_
      try dsimp only
      refine J.icmp rfl rfl rfl ⟨(show -2147483648 ≤ k ∧ k ≤ 2147483647 from ⟨by omega, by omega⟩), (show -2147483648 ≤ (16 : Int) ∧ (16 : Int) ≤ 2147483647 from ⟨by omega, by omega⟩)⟩ (fun hc => ?_) (fun hc => ?_)
      · have c1 : (16 : Int) ≤ k := hc
        clear hc
        refine J.run0 1 rfl ?_
        try dsimp only
        exact J.reti rfl rfl rfl ⟨_, rfl, rfl, rfl, _, rfl, (show -1 ≤ ((-1 : Int)) ∧ ((-1 : Int)) ≤ 15 from ⟨by omega, by omega⟩)⟩
      · have c2 : ¬ ((16 : Int) ≤ k) := hc
        clear hc
        refine J.run 9 rfl ⟨⟨(hI.is ta0), (hI.o 8 12 43 a0 rfl ta0).1⟩, (show w.1 43 (H.2.2.2.2 8 12 a0) ∧ 0 ≤ k ∧ k < 16 from ⟨hI.is (hI.o 8 12 43 a0 rfl ta0).2, by omega, by omega⟩)⟩ ?_
        try dsimp only
        refine J.icmpN rfl rfl rfl (fun hc => ?_) (fun hc => ?_)
        · have c3 : jn (j4 + (H.2.2.1 43 (H.2.2.2.2 8 12 a0) (k))) ≤ jn (j3) := hc
          clear hc
          refine J.run0 2 rfl ?_
          try dsimp only
          exact ih (k + 1) _ (show 16 - (k + 1) < _ by omega) (show 0 ≤ (k + 1) ∧ (k + 1) ≤ 16 from ⟨by omega, by omega⟩)  ⟨_, _, rfl⟩
        · have c4 : ¬ (jn (j4 + (H.2.2.1 43 (H.2.2.2.2 8 12 a0) (k))) ≤ jn (j3)) := hc
          clear hc
          refine J.run0 1 rfl ?_
          try dsimp only
          exact J.reti rfl rfl rfl ⟨_, rfl, rfl, rfl, _, rfl, (show -1 ≤ (k) ∧ (k) ≤ 15 from ⟨by omega, by omega⟩)⟩
set_option maxRecDepth 20000 in
set_option maxHeartbeats 8000000 in
theorem c_X8_proposerOf {a0 : Nat} {height : Int} {round : Int} (hI : cJ F T w H) (ta0 : T 8 a0)  : J false d 65 w (0, jargs 0 [.inr (some (8, a0)), .inl height, .inl round], [], H) (jN fun v w' H' => w' = w ∧ H' = H ∧ ∃ rv, v = some (.inl rv) ∧ (-1 ≤ rv ∧ rv ≤ 15)) := by
  refine J.run 2 rfl (hI.is ta0) ?_
  try dsimp only
  refine J.ifcN rfl rfl rfl (fun hc => ?_) (fun hc => ?_)
  · have c5 : (0 : Int) < jn (H.1 8 13 a0) := hc
    clear hc
    refine J.run 9 rfl (hI.is ta0) ?_
    try dsimp only
    refine J.iremN rfl rfl (by omega) fun x6 => ?_
    refine J.run0 5 rfl ?_
    try dsimp only
    exact (c_X8_proposerOf_l0 (a0 := a0) (height := height) (round := round) hI ta0  ((16 - ((0 : Int)) : Int).toNat + 1)) ((0 : Int)) _ (show 16 - ((0 : Int)) < _ by omega) (show 0 ≤ ((0 : Int)) ∧ ((0 : Int)) ≤ 16 from ⟨by omega, by omega⟩)  ⟨_, _, rfl⟩
  · have c7 : ¬ ((0 : Int) < jn (H.1 8 13 a0)) := hc
    clear hc
    refine J.run0 1 rfl ?_
    try dsimp only
    exact J.reti rfl rfl rfl ⟨_, rfl, rfl, rfl, _, rfl, (show -1 ≤ ((-1 : Int)) ∧ ((-1 : Int)) ≤ 15 from ⟨by omega, by omega⟩)⟩
end
-- M: X8_allows
section
variable {d : Nat} {F : cG} {T : cP} {w : jW} {H : jH}
set_option maxRecDepth 20000 in
set_option maxHeartbeats 8000000 in
theorem c_X8_allows {a0 : Nat} {t : Nat} {place : Int} {proposer : Int} {height : Int} (hI : cJ F T w H) (ta0 : T 8 a0) (ta1 : T 9 t) (hp0 : -1 ≤ place ∧ place < 96) (hp1 : 0 ≤ proposer ∧ proposer ≤ 15) : J false d 57 w (0, jargs 0 [.inr (some (8, a0)), .inr (some (9, t)), .inl place, .inl proposer, .inl height], [], H) (jN fun v w' H' => w' = w ∧ H' = H ∧ ∃ rv, v = some (.inl rv) ∧ ((rv = 0 ∨ rv = 1) ∧ (rv = 1 → H.1 9 0 t = 1 → place = -1 → H.1 8 4 a0 < 96) ∧ (rv = 1 → H.1 9 0 t = 2 → ¬ place = -1 ∧ H.1 8 8 a0 < 32) ∧ (rv = 1 → H.1 9 0 t = 4 → ¬ H.1 9 4 t = -1))) := by
  have hx := hI.tx ta1
  have f1 : 0 ≤ H.1 9 1 t ∧ H.1 9 1 t ≤ 199 := hI.v 9 1 t ta1
  refine J.run 6 rfl ⟨⟨(hI.is ta0), hI.is (hI.r 8 0 32 a0 rfl ta0)⟩, (hI.is ta1), (show w.1 32 a0 ∧ 0 ≤ H.1 9 1 t ∧ H.1 9 1 t < 200 from ⟨hI.is (hI.r 8 0 32 a0 rfl ta0), by omega, by omega⟩)⟩ ?_
  try dsimp only
  refine J.icmpN rfl rfl rfl (fun hc => ?_) (fun hc => ?_)
  · have c2 : jn ((1 : Int)) ≤ jn (H.2.2.1 32 a0 (H.1 9 1 t)) := hc
    clear hc
    refine J.run 3 rfl (hI.is ta1) ?_
    try dsimp only
    refine J.icmp rfl rfl rfl ⟨(show -2147483648 ≤ H.1 9 1 t ∧ H.1 9 1 t ≤ 2147483647 from ⟨by omega, by omega⟩), (show -2147483648 ≤ proposer ∧ proposer ≤ 2147483647 from ⟨by omega, by omega⟩)⟩ (fun hc => ?_) (fun hc => ?_)
    · have c3 : ¬ (H.1 9 1 t = proposer) := hc
      clear hc
      have f4 : 0 ≤ H.1 9 0 t ∧ H.1 9 0 t ≤ 4 := hI.v 9 0 t ta1
      refine J.run 10 rfl ⟨⟨(hI.is ta0), hI.is (hI.r 8 0 32 a0 rfl ta0)⟩, (hI.is ta1), (show w.1 32 a0 ∧ 0 ≤ H.1 9 1 t ∧ H.1 9 1 t < 200 from ⟨hI.is (hI.r 8 0 32 a0 rfl ta0), by omega, by omega⟩), (hI.is ta1)⟩ ?_
      try dsimp only
      by_cases c5 : H.1 9 0 t = 0
      · refine J.tsw rfl rfl rfl ⟨by omega, by omega⟩ (t := 84) (by rw [c5]; rfl) ?_
        refine J.run 3 rfl (hI.is ta1) ?_
        try dsimp only
        refine J.icmpN rfl rfl rfl (fun hc => ?_) (fun hc => ?_)
        · have c6 : jn ((H.2.2.1 32 a0 (H.1 9 1 t)) - (1 : Int)) < jn (H.1 9 3 t) := hc
          clear hc
          refine J.run0 1 rfl ?_
          try dsimp only
          exact J.retb rfl rfl rfl (show (0 : Int) = 0 ∨ (0 : Int) = 1 by omega) ⟨_, rfl, rfl, rfl, _, rfl, (show (((0 : Int)) = 0 ∨ ((0 : Int)) = 1) ∧ (((0 : Int)) = 1 → H.1 9 0 t = 1 → place = -1 → H.1 8 4 a0 < 96) ∧ (((0 : Int)) = 1 → H.1 9 0 t = 2 → ¬ place = -1 ∧ H.1 8 8 a0 < 32) ∧ (((0 : Int)) = 1 → H.1 9 0 t = 4 → ¬ H.1 9 4 t = -1) from ⟨by omega, by omega, by omega, by omega⟩)⟩
        · have c7 : ¬ (jn ((H.2.2.1 32 a0 (H.1 9 1 t)) - (1 : Int)) < jn (H.1 9 3 t)) := hc
          clear hc
          refine J.run0 2 rfl ?_
          try dsimp only
          exact J.retb rfl rfl rfl (show (1 : Int) = 0 ∨ (1 : Int) = 1 by omega) ⟨_, rfl, rfl, rfl, _, rfl, (show (((1 : Int)) = 0 ∨ ((1 : Int)) = 1) ∧ (((1 : Int)) = 1 → H.1 9 0 t = 1 → place = -1 → H.1 8 4 a0 < 96) ∧ (((1 : Int)) = 1 → H.1 9 0 t = 2 → ¬ place = -1 ∧ H.1 8 8 a0 < 32) ∧ (((1 : Int)) = 1 → H.1 9 0 t = 4 → ¬ H.1 9 4 t = -1) from ⟨by omega, by omega, by omega, by omega⟩)⟩
      by_cases c8 : H.1 9 0 t = 1
      · refine J.tsw rfl rfl rfl ⟨by omega, by omega⟩ (t := 99) (by rw [c8]; rfl) ?_
        refine J.run 3 rfl (hI.is ta1) ?_
        try dsimp only
        refine J.icmpN rfl rfl rfl (fun hc => ?_) (fun hc => ?_)
        · have c9 : jn ((H.2.2.1 32 a0 (H.1 9 1 t)) - (1 : Int)) < jn (H.1 9 3 t) := hc
          clear hc
          refine J.run0 1 rfl ?_
          try dsimp only
          exact J.retb rfl rfl rfl (show (0 : Int) = 0 ∨ (0 : Int) = 1 by omega) ⟨_, rfl, rfl, rfl, _, rfl, (show (((0 : Int)) = 0 ∨ ((0 : Int)) = 1) ∧ (((0 : Int)) = 1 → H.1 9 0 t = 1 → place = -1 → H.1 8 4 a0 < 96) ∧ (((0 : Int)) = 1 → H.1 9 0 t = 2 → ¬ place = -1 ∧ H.1 8 8 a0 < 32) ∧ (((0 : Int)) = 1 → H.1 9 0 t = 4 → ¬ H.1 9 4 t = -1) from ⟨by omega, by omega, by omega, by omega⟩)⟩
        · have c10 : ¬ (jn ((H.2.2.1 32 a0 (H.1 9 1 t)) - (1 : Int)) < jn (H.1 9 3 t)) := hc
          clear hc
          refine J.run0 2 rfl ?_
          try dsimp only
          refine J.icmp rfl rfl rfl ⟨(show -2147483648 ≤ place ∧ place ≤ 2147483647 from ⟨by omega, by omega⟩), (show -2147483648 ≤ (-1 : Int) ∧ (-1 : Int) ≤ 2147483647 from ⟨by omega, by omega⟩)⟩ (fun hc => ?_) (fun hc => ?_)
          · have c11 : ¬ (place = (-1 : Int)) := hc
            clear hc
            refine J.run0 2 rfl ?_
            try dsimp only
            exact J.retb rfl rfl rfl (show (1 : Int) = 0 ∨ (1 : Int) = 1 by omega) ⟨_, rfl, rfl, rfl, _, rfl, (show (((1 : Int)) = 0 ∨ ((1 : Int)) = 1) ∧ (((1 : Int)) = 1 → H.1 9 0 t = 1 → place = -1 → H.1 8 4 a0 < 96) ∧ (((1 : Int)) = 1 → H.1 9 0 t = 2 → ¬ place = -1 ∧ H.1 8 8 a0 < 32) ∧ (((1 : Int)) = 1 → H.1 9 0 t = 4 → ¬ H.1 9 4 t = -1) from ⟨by omega, by omega, by omega, by omega⟩)⟩
          · have c12 : ¬ (¬ (place = (-1 : Int))) := hc
            clear hc
            have f13 : 0 ≤ H.1 8 4 a0 ∧ H.1 8 4 a0 ≤ 96 := hI.v 8 4 a0 ta0
            refine J.run 3 rfl (hI.is ta0) ?_
            try dsimp only
            refine J.icmp rfl rfl rfl ⟨(show -2147483648 ≤ H.1 8 4 a0 ∧ H.1 8 4 a0 ≤ 2147483647 from ⟨by omega, by omega⟩), (show -2147483648 ≤ (96 : Int) ∧ (96 : Int) ≤ 2147483647 from ⟨by omega, by omega⟩)⟩ (fun hc => ?_) (fun hc => ?_)
            · have c14 : (96 : Int) ≤ H.1 8 4 a0 := hc
              clear hc
              refine J.run0 1 rfl ?_
              try dsimp only
              exact J.retb rfl rfl rfl (show (0 : Int) = 0 ∨ (0 : Int) = 1 by omega) ⟨_, rfl, rfl, rfl, _, rfl, (show (((0 : Int)) = 0 ∨ ((0 : Int)) = 1) ∧ (((0 : Int)) = 1 → H.1 9 0 t = 1 → place = -1 → H.1 8 4 a0 < 96) ∧ (((0 : Int)) = 1 → H.1 9 0 t = 2 → ¬ place = -1 ∧ H.1 8 8 a0 < 32) ∧ (((0 : Int)) = 1 → H.1 9 0 t = 4 → ¬ H.1 9 4 t = -1) from ⟨by omega, by omega, by omega, by omega⟩)⟩
            · have c15 : ¬ ((96 : Int) ≤ H.1 8 4 a0) := hc
              clear hc
              refine J.run0 2 rfl ?_
              try dsimp only
              exact J.retb rfl rfl rfl (show (1 : Int) = 0 ∨ (1 : Int) = 1 by omega) ⟨_, rfl, rfl, rfl, _, rfl, (show (((1 : Int)) = 0 ∨ ((1 : Int)) = 1) ∧ (((1 : Int)) = 1 → H.1 9 0 t = 1 → place = -1 → H.1 8 4 a0 < 96) ∧ (((1 : Int)) = 1 → H.1 9 0 t = 2 → ¬ place = -1 ∧ H.1 8 8 a0 < 32) ∧ (((1 : Int)) = 1 → H.1 9 0 t = 4 → ¬ H.1 9 4 t = -1) from ⟨by omega, by omega, by omega, by omega⟩)⟩
      by_cases c16 : H.1 9 0 t = 2
      · refine J.tsw rfl rfl rfl ⟨by omega, by omega⟩ (t := 128) (by rw [c16]; rfl) ?_
        refine J.run0 2 rfl ?_
        try dsimp only
        refine J.icmp rfl rfl rfl ⟨(show -2147483648 ≤ place ∧ place ≤ 2147483647 from ⟨by omega, by omega⟩), (show -2147483648 ≤ (-1 : Int) ∧ (-1 : Int) ≤ 2147483647 from ⟨by omega, by omega⟩)⟩ (fun hc => ?_) (fun hc => ?_)
        · have c17 : place = (-1 : Int) := hc
          clear hc
          refine J.run0 1 rfl ?_
          try dsimp only
          exact J.retb rfl rfl rfl (show (0 : Int) = 0 ∨ (0 : Int) = 1 by omega) ⟨_, rfl, rfl, rfl, _, rfl, (show (((0 : Int)) = 0 ∨ ((0 : Int)) = 1) ∧ (((0 : Int)) = 1 → H.1 9 0 t = 1 → place = -1 → H.1 8 4 a0 < 96) ∧ (((0 : Int)) = 1 → H.1 9 0 t = 2 → ¬ place = -1 ∧ H.1 8 8 a0 < 32) ∧ (((0 : Int)) = 1 → H.1 9 0 t = 4 → ¬ H.1 9 4 t = -1) from ⟨by omega, by omega, by omega, by omega⟩)⟩
        · have c18 : ¬ (place = (-1 : Int)) := hc
          clear hc
          refine J.run 6 rfl ⟨⟨(hI.is ta0), hI.is (hI.r 8 3 35 a0 rfl ta0)⟩, (show w.1 35 a0 ∧ 0 ≤ place ∧ place < 96 from ⟨hI.is (hI.r 8 3 35 a0 rfl ta0), by omega, by omega⟩), (hI.is ta1)⟩ ?_
          try dsimp only
          refine J.icmpN rfl rfl rfl (fun hc => ?_) (fun hc => ?_)
          · have c19 : jn (H.2.2.1 35 a0 (place)) < jn (H.1 9 3 t) := hc
            clear hc
            refine J.run0 1 rfl ?_
            try dsimp only
            exact J.retb rfl rfl rfl (show (0 : Int) = 0 ∨ (0 : Int) = 1 by omega) ⟨_, rfl, rfl, rfl, _, rfl, (show (((0 : Int)) = 0 ∨ ((0 : Int)) = 1) ∧ (((0 : Int)) = 1 → H.1 9 0 t = 1 → place = -1 → H.1 8 4 a0 < 96) ∧ (((0 : Int)) = 1 → H.1 9 0 t = 2 → ¬ place = -1 ∧ H.1 8 8 a0 < 32) ∧ (((0 : Int)) = 1 → H.1 9 0 t = 4 → ¬ H.1 9 4 t = -1) from ⟨by omega, by omega, by omega, by omega⟩)⟩
          · have c20 : ¬ (jn (H.2.2.1 35 a0 (place)) < jn (H.1 9 3 t)) := hc
            clear hc
            have f21 : 0 ≤ H.1 8 8 a0 ∧ H.1 8 8 a0 ≤ 32 := hI.v 8 8 a0 ta0
            refine J.run 3 rfl (hI.is ta0) ?_
            try dsimp only
            refine J.icmp rfl rfl rfl ⟨(show -2147483648 ≤ H.1 8 8 a0 ∧ H.1 8 8 a0 ≤ 2147483647 from ⟨by omega, by omega⟩), (show -2147483648 ≤ (32 : Int) ∧ (32 : Int) ≤ 2147483647 from ⟨by omega, by omega⟩)⟩ (fun hc => ?_) (fun hc => ?_)
            · have c22 : (32 : Int) ≤ H.1 8 8 a0 := hc
              clear hc
              refine J.run0 1 rfl ?_
              try dsimp only
              exact J.retb rfl rfl rfl (show (0 : Int) = 0 ∨ (0 : Int) = 1 by omega) ⟨_, rfl, rfl, rfl, _, rfl, (show (((0 : Int)) = 0 ∨ ((0 : Int)) = 1) ∧ (((0 : Int)) = 1 → H.1 9 0 t = 1 → place = -1 → H.1 8 4 a0 < 96) ∧ (((0 : Int)) = 1 → H.1 9 0 t = 2 → ¬ place = -1 ∧ H.1 8 8 a0 < 32) ∧ (((0 : Int)) = 1 → H.1 9 0 t = 4 → ¬ H.1 9 4 t = -1) from ⟨by omega, by omega, by omega, by omega⟩)⟩
            · have c23 : ¬ ((32 : Int) ≤ H.1 8 8 a0) := hc
              clear hc
              refine J.run0 2 rfl ?_
              try dsimp only
              exact J.retb rfl rfl rfl (show (1 : Int) = 0 ∨ (1 : Int) = 1 by omega) ⟨_, rfl, rfl, rfl, _, rfl, (show (((1 : Int)) = 0 ∨ ((1 : Int)) = 1) ∧ (((1 : Int)) = 1 → H.1 9 0 t = 1 → place = -1 → H.1 8 4 a0 < 96) ∧ (((1 : Int)) = 1 → H.1 9 0 t = 2 → ¬ place = -1 ∧ H.1 8 8 a0 < 32) ∧ (((1 : Int)) = 1 → H.1 9 0 t = 4 → ¬ H.1 9 4 t = -1) from ⟨by omega, by omega, by omega, by omega⟩)⟩
      by_cases c24 : H.1 9 0 t = 3
      · refine J.tsw rfl rfl rfl ⟨by omega, by omega⟩ (t := 161) (by rw [c24]; rfl) ?_
        have f25 : (-1) ≤ H.1 9 2 t ∧ H.1 9 2 t ≤ 199 := hI.v 9 2 t ta1
        have f26 : -2147483648 ≤ jushr (H.1 8 9 a0) (H.1 9 2 t) ∧ jushr (H.1 8 9 a0) (H.1 9 2 t) ≤ 2147483647 := jI32 _
        have f27 : -2147483648 ≤ jand (jushr (H.1 8 9 a0) (H.1 9 2 t)) ((1 : Int)) ∧ jand (jushr (H.1 8 9 a0) (H.1 9 2 t)) ((1 : Int)) ≤ 2147483647 := jI32 _
        refine J.run 8 rfl ⟨(hI.is ta0), (hI.is ta1)⟩ ?_
        try dsimp only
        refine J.icmp rfl rfl rfl ⟨(show -2147483648 ≤ jand (jushr (H.1 8 9 a0) (H.1 9 2 t)) ((1 : Int)) ∧ jand (jushr (H.1 8 9 a0) (H.1 9 2 t)) ((1 : Int)) ≤ 2147483647 from ⟨by omega, by omega⟩), (show -2147483648 ≤ (1 : Int) ∧ (1 : Int) ≤ 2147483647 from ⟨by omega, by omega⟩)⟩ (fun hc => ?_) (fun hc => ?_)
        · have c28 : ¬ (jand (jushr (H.1 8 9 a0) (H.1 9 2 t)) ((1 : Int)) = (1 : Int)) := hc
          clear hc
          refine J.run0 1 rfl ?_
          try dsimp only
          exact J.retb rfl rfl rfl (show (0 : Int) = 0 ∨ (0 : Int) = 1 by omega) ⟨_, rfl, rfl, rfl, _, rfl, (show (((0 : Int)) = 0 ∨ ((0 : Int)) = 1) ∧ (((0 : Int)) = 1 → H.1 9 0 t = 1 → place = -1 → H.1 8 4 a0 < 96) ∧ (((0 : Int)) = 1 → H.1 9 0 t = 2 → ¬ place = -1 ∧ H.1 8 8 a0 < 32) ∧ (((0 : Int)) = 1 → H.1 9 0 t = 4 → ¬ H.1 9 4 t = -1) from ⟨by omega, by omega, by omega, by omega⟩)⟩
        · have c29 : ¬ (¬ (jand (jushr (H.1 8 9 a0) (H.1 9 2 t)) ((1 : Int)) = (1 : Int))) := hc
          clear hc
          refine J.run0 2 rfl ?_
          try dsimp only
          exact J.retb rfl rfl rfl (show (1 : Int) = 0 ∨ (1 : Int) = 1 by omega) ⟨_, rfl, rfl, rfl, _, rfl, (show (((1 : Int)) = 0 ∨ ((1 : Int)) = 1) ∧ (((1 : Int)) = 1 → H.1 9 0 t = 1 → place = -1 → H.1 8 4 a0 < 96) ∧ (((1 : Int)) = 1 → H.1 9 0 t = 2 → ¬ place = -1 ∧ H.1 8 8 a0 < 32) ∧ (((1 : Int)) = 1 → H.1 9 0 t = 4 → ¬ H.1 9 4 t = -1) from ⟨by omega, by omega, by omega, by omega⟩)⟩
      have c30 : H.1 9 0 t < 0 ∨ 3 < H.1 9 0 t := by omega
      refine J.tsw rfl rfl rfl ⟨by omega, by omega⟩ (t := 182) (by rw [if_pos c30]; rfl) ?_
      have f31 : (-1) ≤ H.1 9 4 t ∧ H.1 9 4 t ≤ 15 := hI.v 9 4 t ta1
      refine J.run 3 rfl (hI.is ta1) ?_
      try dsimp only
      refine J.icmp rfl rfl rfl ⟨(show -2147483648 ≤ H.1 9 4 t ∧ H.1 9 4 t ≤ 2147483647 from ⟨by omega, by omega⟩), (show -2147483648 ≤ (-1 : Int) ∧ (-1 : Int) ≤ 2147483647 from ⟨by omega, by omega⟩)⟩ (fun hc => ?_) (fun hc => ?_)
      · have c32 : H.1 9 4 t = (-1 : Int) := hc
        clear hc
        refine J.run0 1 rfl ?_
        try dsimp only
        exact J.retb rfl rfl rfl (show (0 : Int) = 0 ∨ (0 : Int) = 1 by omega) ⟨_, rfl, rfl, rfl, _, rfl, (show (((0 : Int)) = 0 ∨ ((0 : Int)) = 1) ∧ (((0 : Int)) = 1 → H.1 9 0 t = 1 → place = -1 → H.1 8 4 a0 < 96) ∧ (((0 : Int)) = 1 → H.1 9 0 t = 2 → ¬ place = -1 ∧ H.1 8 8 a0 < 32) ∧ (((0 : Int)) = 1 → H.1 9 0 t = 4 → ¬ H.1 9 4 t = -1) from ⟨by omega, by omega, by omega, by omega⟩)⟩
      · have c33 : ¬ (H.1 9 4 t = (-1 : Int)) := hc
        clear hc
        refine J.run 3 rfl (hI.is ta1) ?_
        try dsimp only
        refine J.icmpN rfl rfl rfl (fun hc => ?_) (fun hc => ?_)
        · have c34 : jn (height) < jn (H.1 9 5 t) := hc
          clear hc
          refine J.run0 1 rfl ?_
          try dsimp only
          exact J.retb rfl rfl rfl (show (0 : Int) = 0 ∨ (0 : Int) = 1 by omega) ⟨_, rfl, rfl, rfl, _, rfl, (show (((0 : Int)) = 0 ∨ ((0 : Int)) = 1) ∧ (((0 : Int)) = 1 → H.1 9 0 t = 1 → place = -1 → H.1 8 4 a0 < 96) ∧ (((0 : Int)) = 1 → H.1 9 0 t = 2 → ¬ place = -1 ∧ H.1 8 8 a0 < 32) ∧ (((0 : Int)) = 1 → H.1 9 0 t = 4 → ¬ H.1 9 4 t = -1) from ⟨by omega, by omega, by omega, by omega⟩)⟩
        · have c35 : ¬ (jn (height) < jn (H.1 9 5 t)) := hc
          clear hc
          refine J.run 7 rfl ⟨(hI.is ta1), ⟨(hI.is ta0), hI.is (hI.r 8 10 39 a0 rfl ta0)⟩, (hI.is ta1), (show w.1 39 a0 ∧ 0 ≤ H.1 9 4 t ∧ H.1 9 4 t < 16 from ⟨hI.is (hI.r 8 10 39 a0 rfl ta0), by omega, by omega⟩)⟩ ?_
          try dsimp only
          refine J.icmpN rfl rfl rfl (fun hc => ?_) (fun hc => ?_)
          · have c36 : jn (H.1 9 5 t) ≤ jn (H.2.2.1 39 a0 (H.1 9 4 t)) := hc
            clear hc
            refine J.run0 1 rfl ?_
            try dsimp only
            exact J.retb rfl rfl rfl (show (0 : Int) = 0 ∨ (0 : Int) = 1 by omega) ⟨_, rfl, rfl, rfl, _, rfl, (show (((0 : Int)) = 0 ∨ ((0 : Int)) = 1) ∧ (((0 : Int)) = 1 → H.1 9 0 t = 1 → place = -1 → H.1 8 4 a0 < 96) ∧ (((0 : Int)) = 1 → H.1 9 0 t = 2 → ¬ place = -1 ∧ H.1 8 8 a0 < 32) ∧ (((0 : Int)) = 1 → H.1 9 0 t = 4 → ¬ H.1 9 4 t = -1) from ⟨by omega, by omega, by omega, by omega⟩)⟩
          · have c37 : ¬ (jn (H.1 9 5 t) ≤ jn (H.2.2.1 39 a0 (H.1 9 4 t))) := hc
            clear hc
            refine J.run0 2 rfl ?_
            try dsimp only
            exact J.retb rfl rfl rfl (show (1 : Int) = 0 ∨ (1 : Int) = 1 by omega) ⟨_, rfl, rfl, rfl, _, rfl, (show (((1 : Int)) = 0 ∨ ((1 : Int)) = 1) ∧ (((1 : Int)) = 1 → H.1 9 0 t = 1 → place = -1 → H.1 8 4 a0 < 96) ∧ (((1 : Int)) = 1 → H.1 9 0 t = 2 → ¬ place = -1 ∧ H.1 8 8 a0 < 32) ∧ (((1 : Int)) = 1 → H.1 9 0 t = 4 → ¬ H.1 9 4 t = -1) from ⟨by omega, by omega, by omega, by omega⟩)⟩
    · have c38 : ¬ (¬ (H.1 9 1 t = proposer)) := hc
      clear hc
      have f39 : 0 ≤ H.1 9 0 t ∧ H.1 9 0 t ≤ 4 := hI.v 9 0 t ta1
      refine J.run 9 rfl ⟨⟨(hI.is ta0), hI.is (hI.r 8 0 32 a0 rfl ta0)⟩, (hI.is ta1), (show w.1 32 a0 ∧ 0 ≤ H.1 9 1 t ∧ H.1 9 1 t < 200 from ⟨hI.is (hI.r 8 0 32 a0 rfl ta0), by omega, by omega⟩), (hI.is ta1)⟩ ?_
      try dsimp only
      by_cases c40 : H.1 9 0 t = 0
      · refine J.tsw rfl rfl rfl ⟨by omega, by omega⟩ (t := 84) (by rw [c40]; rfl) ?_
        refine J.run 3 rfl (hI.is ta1) ?_
        try dsimp only
        refine J.icmpN rfl rfl rfl (fun hc => ?_) (fun hc => ?_)
        · have c41 : jn (H.2.2.1 32 a0 (H.1 9 1 t)) < jn (H.1 9 3 t) := hc
          clear hc
          refine J.run0 1 rfl ?_
          try dsimp only
          exact J.retb rfl rfl rfl (show (0 : Int) = 0 ∨ (0 : Int) = 1 by omega) ⟨_, rfl, rfl, rfl, _, rfl, (show (((0 : Int)) = 0 ∨ ((0 : Int)) = 1) ∧ (((0 : Int)) = 1 → H.1 9 0 t = 1 → place = -1 → H.1 8 4 a0 < 96) ∧ (((0 : Int)) = 1 → H.1 9 0 t = 2 → ¬ place = -1 ∧ H.1 8 8 a0 < 32) ∧ (((0 : Int)) = 1 → H.1 9 0 t = 4 → ¬ H.1 9 4 t = -1) from ⟨by omega, by omega, by omega, by omega⟩)⟩
        · have c42 : ¬ (jn (H.2.2.1 32 a0 (H.1 9 1 t)) < jn (H.1 9 3 t)) := hc
          clear hc
          refine J.run0 2 rfl ?_
          try dsimp only
          exact J.retb rfl rfl rfl (show (1 : Int) = 0 ∨ (1 : Int) = 1 by omega) ⟨_, rfl, rfl, rfl, _, rfl, (show (((1 : Int)) = 0 ∨ ((1 : Int)) = 1) ∧ (((1 : Int)) = 1 → H.1 9 0 t = 1 → place = -1 → H.1 8 4 a0 < 96) ∧ (((1 : Int)) = 1 → H.1 9 0 t = 2 → ¬ place = -1 ∧ H.1 8 8 a0 < 32) ∧ (((1 : Int)) = 1 → H.1 9 0 t = 4 → ¬ H.1 9 4 t = -1) from ⟨by omega, by omega, by omega, by omega⟩)⟩
      by_cases c43 : H.1 9 0 t = 1
      · refine J.tsw rfl rfl rfl ⟨by omega, by omega⟩ (t := 99) (by rw [c43]; rfl) ?_
        refine J.run 3 rfl (hI.is ta1) ?_
        try dsimp only
        refine J.icmpN rfl rfl rfl (fun hc => ?_) (fun hc => ?_)
        · have c44 : jn (H.2.2.1 32 a0 (H.1 9 1 t)) < jn (H.1 9 3 t) := hc
          clear hc
          refine J.run0 1 rfl ?_
          try dsimp only
          exact J.retb rfl rfl rfl (show (0 : Int) = 0 ∨ (0 : Int) = 1 by omega) ⟨_, rfl, rfl, rfl, _, rfl, (show (((0 : Int)) = 0 ∨ ((0 : Int)) = 1) ∧ (((0 : Int)) = 1 → H.1 9 0 t = 1 → place = -1 → H.1 8 4 a0 < 96) ∧ (((0 : Int)) = 1 → H.1 9 0 t = 2 → ¬ place = -1 ∧ H.1 8 8 a0 < 32) ∧ (((0 : Int)) = 1 → H.1 9 0 t = 4 → ¬ H.1 9 4 t = -1) from ⟨by omega, by omega, by omega, by omega⟩)⟩
        · have c45 : ¬ (jn (H.2.2.1 32 a0 (H.1 9 1 t)) < jn (H.1 9 3 t)) := hc
          clear hc
          refine J.run0 2 rfl ?_
          try dsimp only
          refine J.icmp rfl rfl rfl ⟨(show -2147483648 ≤ place ∧ place ≤ 2147483647 from ⟨by omega, by omega⟩), (show -2147483648 ≤ (-1 : Int) ∧ (-1 : Int) ≤ 2147483647 from ⟨by omega, by omega⟩)⟩ (fun hc => ?_) (fun hc => ?_)
          · have c46 : ¬ (place = (-1 : Int)) := hc
            clear hc
            refine J.run0 2 rfl ?_
            try dsimp only
            exact J.retb rfl rfl rfl (show (1 : Int) = 0 ∨ (1 : Int) = 1 by omega) ⟨_, rfl, rfl, rfl, _, rfl, (show (((1 : Int)) = 0 ∨ ((1 : Int)) = 1) ∧ (((1 : Int)) = 1 → H.1 9 0 t = 1 → place = -1 → H.1 8 4 a0 < 96) ∧ (((1 : Int)) = 1 → H.1 9 0 t = 2 → ¬ place = -1 ∧ H.1 8 8 a0 < 32) ∧ (((1 : Int)) = 1 → H.1 9 0 t = 4 → ¬ H.1 9 4 t = -1) from ⟨by omega, by omega, by omega, by omega⟩)⟩
          · have c47 : ¬ (¬ (place = (-1 : Int))) := hc
            clear hc
            have f48 : 0 ≤ H.1 8 4 a0 ∧ H.1 8 4 a0 ≤ 96 := hI.v 8 4 a0 ta0
            refine J.run 3 rfl (hI.is ta0) ?_
            try dsimp only
            refine J.icmp rfl rfl rfl ⟨(show -2147483648 ≤ H.1 8 4 a0 ∧ H.1 8 4 a0 ≤ 2147483647 from ⟨by omega, by omega⟩), (show -2147483648 ≤ (96 : Int) ∧ (96 : Int) ≤ 2147483647 from ⟨by omega, by omega⟩)⟩ (fun hc => ?_) (fun hc => ?_)
            · have c49 : (96 : Int) ≤ H.1 8 4 a0 := hc
              clear hc
              refine J.run0 1 rfl ?_
              try dsimp only
              exact J.retb rfl rfl rfl (show (0 : Int) = 0 ∨ (0 : Int) = 1 by omega) ⟨_, rfl, rfl, rfl, _, rfl, (show (((0 : Int)) = 0 ∨ ((0 : Int)) = 1) ∧ (((0 : Int)) = 1 → H.1 9 0 t = 1 → place = -1 → H.1 8 4 a0 < 96) ∧ (((0 : Int)) = 1 → H.1 9 0 t = 2 → ¬ place = -1 ∧ H.1 8 8 a0 < 32) ∧ (((0 : Int)) = 1 → H.1 9 0 t = 4 → ¬ H.1 9 4 t = -1) from ⟨by omega, by omega, by omega, by omega⟩)⟩
            · have c50 : ¬ ((96 : Int) ≤ H.1 8 4 a0) := hc
              clear hc
              refine J.run0 2 rfl ?_
              try dsimp only
              exact J.retb rfl rfl rfl (show (1 : Int) = 0 ∨ (1 : Int) = 1 by omega) ⟨_, rfl, rfl, rfl, _, rfl, (show (((1 : Int)) = 0 ∨ ((1 : Int)) = 1) ∧ (((1 : Int)) = 1 → H.1 9 0 t = 1 → place = -1 → H.1 8 4 a0 < 96) ∧ (((1 : Int)) = 1 → H.1 9 0 t = 2 → ¬ place = -1 ∧ H.1 8 8 a0 < 32) ∧ (((1 : Int)) = 1 → H.1 9 0 t = 4 → ¬ H.1 9 4 t = -1) from ⟨by omega, by omega, by omega, by omega⟩)⟩
      by_cases c51 : H.1 9 0 t = 2
      · refine J.tsw rfl rfl rfl ⟨by omega, by omega⟩ (t := 128) (by rw [c51]; rfl) ?_
        refine J.run0 2 rfl ?_
        try dsimp only
        refine J.icmp rfl rfl rfl ⟨(show -2147483648 ≤ place ∧ place ≤ 2147483647 from ⟨by omega, by omega⟩), (show -2147483648 ≤ (-1 : Int) ∧ (-1 : Int) ≤ 2147483647 from ⟨by omega, by omega⟩)⟩ (fun hc => ?_) (fun hc => ?_)
        · have c52 : place = (-1 : Int) := hc
          clear hc
          refine J.run0 1 rfl ?_
          try dsimp only
          exact J.retb rfl rfl rfl (show (0 : Int) = 0 ∨ (0 : Int) = 1 by omega) ⟨_, rfl, rfl, rfl, _, rfl, (show (((0 : Int)) = 0 ∨ ((0 : Int)) = 1) ∧ (((0 : Int)) = 1 → H.1 9 0 t = 1 → place = -1 → H.1 8 4 a0 < 96) ∧ (((0 : Int)) = 1 → H.1 9 0 t = 2 → ¬ place = -1 ∧ H.1 8 8 a0 < 32) ∧ (((0 : Int)) = 1 → H.1 9 0 t = 4 → ¬ H.1 9 4 t = -1) from ⟨by omega, by omega, by omega, by omega⟩)⟩
        · have c53 : ¬ (place = (-1 : Int)) := hc
          clear hc
          refine J.run 6 rfl ⟨⟨(hI.is ta0), hI.is (hI.r 8 3 35 a0 rfl ta0)⟩, (show w.1 35 a0 ∧ 0 ≤ place ∧ place < 96 from ⟨hI.is (hI.r 8 3 35 a0 rfl ta0), by omega, by omega⟩), (hI.is ta1)⟩ ?_
          try dsimp only
          refine J.icmpN rfl rfl rfl (fun hc => ?_) (fun hc => ?_)
          · have c54 : jn (H.2.2.1 35 a0 (place)) < jn (H.1 9 3 t) := hc
            clear hc
            refine J.run0 1 rfl ?_
            try dsimp only
            exact J.retb rfl rfl rfl (show (0 : Int) = 0 ∨ (0 : Int) = 1 by omega) ⟨_, rfl, rfl, rfl, _, rfl, (show (((0 : Int)) = 0 ∨ ((0 : Int)) = 1) ∧ (((0 : Int)) = 1 → H.1 9 0 t = 1 → place = -1 → H.1 8 4 a0 < 96) ∧ (((0 : Int)) = 1 → H.1 9 0 t = 2 → ¬ place = -1 ∧ H.1 8 8 a0 < 32) ∧ (((0 : Int)) = 1 → H.1 9 0 t = 4 → ¬ H.1 9 4 t = -1) from ⟨by omega, by omega, by omega, by omega⟩)⟩
          · have c55 : ¬ (jn (H.2.2.1 35 a0 (place)) < jn (H.1 9 3 t)) := hc
            clear hc
            have f56 : 0 ≤ H.1 8 8 a0 ∧ H.1 8 8 a0 ≤ 32 := hI.v 8 8 a0 ta0
            refine J.run 3 rfl (hI.is ta0) ?_
            try dsimp only
            refine J.icmp rfl rfl rfl ⟨(show -2147483648 ≤ H.1 8 8 a0 ∧ H.1 8 8 a0 ≤ 2147483647 from ⟨by omega, by omega⟩), (show -2147483648 ≤ (32 : Int) ∧ (32 : Int) ≤ 2147483647 from ⟨by omega, by omega⟩)⟩ (fun hc => ?_) (fun hc => ?_)
            · have c57 : (32 : Int) ≤ H.1 8 8 a0 := hc
              clear hc
              refine J.run0 1 rfl ?_
              try dsimp only
              exact J.retb rfl rfl rfl (show (0 : Int) = 0 ∨ (0 : Int) = 1 by omega) ⟨_, rfl, rfl, rfl, _, rfl, (show (((0 : Int)) = 0 ∨ ((0 : Int)) = 1) ∧ (((0 : Int)) = 1 → H.1 9 0 t = 1 → place = -1 → H.1 8 4 a0 < 96) ∧ (((0 : Int)) = 1 → H.1 9 0 t = 2 → ¬ place = -1 ∧ H.1 8 8 a0 < 32) ∧ (((0 : Int)) = 1 → H.1 9 0 t = 4 → ¬ H.1 9 4 t = -1) from ⟨by omega, by omega, by omega, by omega⟩)⟩
            · have c58 : ¬ ((32 : Int) ≤ H.1 8 8 a0) := hc
              clear hc
              refine J.run0 2 rfl ?_
              try dsimp only
              exact J.retb rfl rfl rfl (show (1 : Int) = 0 ∨ (1 : Int) = 1 by omega) ⟨_, rfl, rfl, rfl, _, rfl, (show (((1 : Int)) = 0 ∨ ((1 : Int)) = 1) ∧ (((1 : Int)) = 1 → H.1 9 0 t = 1 → place = -1 → H.1 8 4 a0 < 96) ∧ (((1 : Int)) = 1 → H.1 9 0 t = 2 → ¬ place = -1 ∧ H.1 8 8 a0 < 32) ∧ (((1 : Int)) = 1 → H.1 9 0 t = 4 → ¬ H.1 9 4 t = -1) from ⟨by omega, by omega, by omega, by omega⟩)⟩
      by_cases c59 : H.1 9 0 t = 3
      · refine J.tsw rfl rfl rfl ⟨by omega, by omega⟩ (t := 161) (by rw [c59]; rfl) ?_
        have f60 : (-1) ≤ H.1 9 2 t ∧ H.1 9 2 t ≤ 199 := hI.v 9 2 t ta1
        have f61 : -2147483648 ≤ jushr (H.1 8 9 a0) (H.1 9 2 t) ∧ jushr (H.1 8 9 a0) (H.1 9 2 t) ≤ 2147483647 := jI32 _
        have f62 : -2147483648 ≤ jand (jushr (H.1 8 9 a0) (H.1 9 2 t)) ((1 : Int)) ∧ jand (jushr (H.1 8 9 a0) (H.1 9 2 t)) ((1 : Int)) ≤ 2147483647 := jI32 _
        refine J.run 8 rfl ⟨(hI.is ta0), (hI.is ta1)⟩ ?_
        try dsimp only
        refine J.icmp rfl rfl rfl ⟨(show -2147483648 ≤ jand (jushr (H.1 8 9 a0) (H.1 9 2 t)) ((1 : Int)) ∧ jand (jushr (H.1 8 9 a0) (H.1 9 2 t)) ((1 : Int)) ≤ 2147483647 from ⟨by omega, by omega⟩), (show -2147483648 ≤ (1 : Int) ∧ (1 : Int) ≤ 2147483647 from ⟨by omega, by omega⟩)⟩ (fun hc => ?_) (fun hc => ?_)
        · have c63 : ¬ (jand (jushr (H.1 8 9 a0) (H.1 9 2 t)) ((1 : Int)) = (1 : Int)) := hc
          clear hc
          refine J.run0 1 rfl ?_
          try dsimp only
          exact J.retb rfl rfl rfl (show (0 : Int) = 0 ∨ (0 : Int) = 1 by omega) ⟨_, rfl, rfl, rfl, _, rfl, (show (((0 : Int)) = 0 ∨ ((0 : Int)) = 1) ∧ (((0 : Int)) = 1 → H.1 9 0 t = 1 → place = -1 → H.1 8 4 a0 < 96) ∧ (((0 : Int)) = 1 → H.1 9 0 t = 2 → ¬ place = -1 ∧ H.1 8 8 a0 < 32) ∧ (((0 : Int)) = 1 → H.1 9 0 t = 4 → ¬ H.1 9 4 t = -1) from ⟨by omega, by omega, by omega, by omega⟩)⟩
        · have c64 : ¬ (¬ (jand (jushr (H.1 8 9 a0) (H.1 9 2 t)) ((1 : Int)) = (1 : Int))) := hc
          clear hc
          refine J.run0 2 rfl ?_
          try dsimp only
          exact J.retb rfl rfl rfl (show (1 : Int) = 0 ∨ (1 : Int) = 1 by omega) ⟨_, rfl, rfl, rfl, _, rfl, (show (((1 : Int)) = 0 ∨ ((1 : Int)) = 1) ∧ (((1 : Int)) = 1 → H.1 9 0 t = 1 → place = -1 → H.1 8 4 a0 < 96) ∧ (((1 : Int)) = 1 → H.1 9 0 t = 2 → ¬ place = -1 ∧ H.1 8 8 a0 < 32) ∧ (((1 : Int)) = 1 → H.1 9 0 t = 4 → ¬ H.1 9 4 t = -1) from ⟨by omega, by omega, by omega, by omega⟩)⟩
      have c65 : H.1 9 0 t < 0 ∨ 3 < H.1 9 0 t := by omega
      refine J.tsw rfl rfl rfl ⟨by omega, by omega⟩ (t := 182) (by rw [if_pos c65]; rfl) ?_
      have f66 : (-1) ≤ H.1 9 4 t ∧ H.1 9 4 t ≤ 15 := hI.v 9 4 t ta1
      refine J.run 3 rfl (hI.is ta1) ?_
      try dsimp only
      refine J.icmp rfl rfl rfl ⟨(show -2147483648 ≤ H.1 9 4 t ∧ H.1 9 4 t ≤ 2147483647 from ⟨by omega, by omega⟩), (show -2147483648 ≤ (-1 : Int) ∧ (-1 : Int) ≤ 2147483647 from ⟨by omega, by omega⟩)⟩ (fun hc => ?_) (fun hc => ?_)
      · have c67 : H.1 9 4 t = (-1 : Int) := hc
        clear hc
        refine J.run0 1 rfl ?_
        try dsimp only
        exact J.retb rfl rfl rfl (show (0 : Int) = 0 ∨ (0 : Int) = 1 by omega) ⟨_, rfl, rfl, rfl, _, rfl, (show (((0 : Int)) = 0 ∨ ((0 : Int)) = 1) ∧ (((0 : Int)) = 1 → H.1 9 0 t = 1 → place = -1 → H.1 8 4 a0 < 96) ∧ (((0 : Int)) = 1 → H.1 9 0 t = 2 → ¬ place = -1 ∧ H.1 8 8 a0 < 32) ∧ (((0 : Int)) = 1 → H.1 9 0 t = 4 → ¬ H.1 9 4 t = -1) from ⟨by omega, by omega, by omega, by omega⟩)⟩
      · have c68 : ¬ (H.1 9 4 t = (-1 : Int)) := hc
        clear hc
        refine J.run 3 rfl (hI.is ta1) ?_
        try dsimp only
        refine J.icmpN rfl rfl rfl (fun hc => ?_) (fun hc => ?_)
        · have c69 : jn (height) < jn (H.1 9 5 t) := hc
          clear hc
          refine J.run0 1 rfl ?_
          try dsimp only
          exact J.retb rfl rfl rfl (show (0 : Int) = 0 ∨ (0 : Int) = 1 by omega) ⟨_, rfl, rfl, rfl, _, rfl, (show (((0 : Int)) = 0 ∨ ((0 : Int)) = 1) ∧ (((0 : Int)) = 1 → H.1 9 0 t = 1 → place = -1 → H.1 8 4 a0 < 96) ∧ (((0 : Int)) = 1 → H.1 9 0 t = 2 → ¬ place = -1 ∧ H.1 8 8 a0 < 32) ∧ (((0 : Int)) = 1 → H.1 9 0 t = 4 → ¬ H.1 9 4 t = -1) from ⟨by omega, by omega, by omega, by omega⟩)⟩
        · have c70 : ¬ (jn (height) < jn (H.1 9 5 t)) := hc
          clear hc
          refine J.run 7 rfl ⟨(hI.is ta1), ⟨(hI.is ta0), hI.is (hI.r 8 10 39 a0 rfl ta0)⟩, (hI.is ta1), (show w.1 39 a0 ∧ 0 ≤ H.1 9 4 t ∧ H.1 9 4 t < 16 from ⟨hI.is (hI.r 8 10 39 a0 rfl ta0), by omega, by omega⟩)⟩ ?_
          try dsimp only
          refine J.icmpN rfl rfl rfl (fun hc => ?_) (fun hc => ?_)
          · have c71 : jn (H.1 9 5 t) ≤ jn (H.2.2.1 39 a0 (H.1 9 4 t)) := hc
            clear hc
            refine J.run0 1 rfl ?_
            try dsimp only
            exact J.retb rfl rfl rfl (show (0 : Int) = 0 ∨ (0 : Int) = 1 by omega) ⟨_, rfl, rfl, rfl, _, rfl, (show (((0 : Int)) = 0 ∨ ((0 : Int)) = 1) ∧ (((0 : Int)) = 1 → H.1 9 0 t = 1 → place = -1 → H.1 8 4 a0 < 96) ∧ (((0 : Int)) = 1 → H.1 9 0 t = 2 → ¬ place = -1 ∧ H.1 8 8 a0 < 32) ∧ (((0 : Int)) = 1 → H.1 9 0 t = 4 → ¬ H.1 9 4 t = -1) from ⟨by omega, by omega, by omega, by omega⟩)⟩
          · have c72 : ¬ (jn (H.1 9 5 t) ≤ jn (H.2.2.1 39 a0 (H.1 9 4 t))) := hc
            clear hc
            refine J.run0 2 rfl ?_
            try dsimp only
            exact J.retb rfl rfl rfl (show (1 : Int) = 0 ∨ (1 : Int) = 1 by omega) ⟨_, rfl, rfl, rfl, _, rfl, (show (((1 : Int)) = 0 ∨ ((1 : Int)) = 1) ∧ (((1 : Int)) = 1 → H.1 9 0 t = 1 → place = -1 → H.1 8 4 a0 < 96) ∧ (((1 : Int)) = 1 → H.1 9 0 t = 2 → ¬ place = -1 ∧ H.1 8 8 a0 < 32) ∧ (((1 : Int)) = 1 → H.1 9 0 t = 4 → ¬ H.1 9 4 t = -1) from ⟨by omega, by omega, by omega, by omega⟩)⟩
  · have c73 : ¬ (jn ((1 : Int)) ≤ jn (H.2.2.1 32 a0 (H.1 9 1 t))) := hc
    clear hc
    refine J.run0 1 rfl ?_
    try dsimp only
    exact J.retb rfl rfl rfl (show (0 : Int) = 0 ∨ (0 : Int) = 1 by omega) ⟨_, rfl, rfl, rfl, _, rfl, (show (((0 : Int)) = 0 ∨ ((0 : Int)) = 1) ∧ (((0 : Int)) = 1 → H.1 9 0 t = 1 → place = -1 → H.1 8 4 a0 < 96) ∧ (((0 : Int)) = 1 → H.1 9 0 t = 2 → ¬ place = -1 ∧ H.1 8 8 a0 < 32) ∧ (((0 : Int)) = 1 → H.1 9 0 t = 4 → ¬ H.1 9 4 t = -1) from ⟨by omega, by omega, by omega, by omega⟩)⟩
end
-- M: X5_isAgainst
section
variable {d : Nat} {F : cG} {T : cP} {w : jW} {H : jH}
set_option maxRecDepth 20000 in
set_option maxHeartbeats 8000000 in
theorem c_X5_isAgainst {a0 : Nat} {o : Nat} (hI : cJ F T w H) (ta0 : T 5 a0) (ta1 : T 5 o)  : J false d 29 w (0, jargs 0 [.inr (some (5, a0)), .inr (some (5, o))], [], H) (jN fun v w' H' => w' = w ∧ H' = H ∧ ∃ rv, v = some (.inl rv) ∧ (rv = 0 ∨ rv = 1)) := by
  refine J.run 2 rfl (hI.is ta0) ?_
  try dsimp only
  refine J.ifcN rfl rfl rfl (fun hc => ?_) (fun hc => ?_)
  · have c1 : jn (H.1 5 1 a0) = (0 : Int) := hc
    clear hc
    refine J.run0 1 rfl ?_
    try dsimp only
    exact J.retb rfl rfl rfl (show (0 : Int) = 0 ∨ (0 : Int) = 1 by omega) ⟨_, rfl, rfl, rfl, _, rfl, (show ((0 : Int)) = 0 ∨ ((0 : Int)) = 1 from by omega)⟩
  · have c2 : ¬ (jn (H.1 5 1 a0) = (0 : Int)) := hc
    clear hc
    refine J.run 4 rfl ⟨(hI.is ta0), (hI.is ta1)⟩ ?_
    try dsimp only
    refine J.icmpN rfl rfl rfl (fun hc => ?_) (fun hc => ?_)
    · have c3 : ¬ (jn (H.1 5 1 a0) = jn (H.1 5 1 o)) := hc
      clear hc
      refine J.run0 1 rfl ?_
      try dsimp only
      exact J.retb rfl rfl rfl (show (0 : Int) = 0 ∨ (0 : Int) = 1 by omega) ⟨_, rfl, rfl, rfl, _, rfl, (show ((0 : Int)) = 0 ∨ ((0 : Int)) = 1 from by omega)⟩
    · have c4 : ¬ (¬ (jn (H.1 5 1 a0) = jn (H.1 5 1 o))) := hc
      clear hc
      have f5 : 0 ≤ H.1 5 2 a0 ∧ H.1 5 2 a0 ≤ 15 := hI.v 5 2 a0 ta0
      have f6 : 0 ≤ H.1 5 2 o ∧ H.1 5 2 o ≤ 15 := hI.v 5 2 o ta1
      refine J.run 4 rfl ⟨(hI.is ta0), (hI.is ta1)⟩ ?_
      try dsimp only
      refine J.icmp rfl rfl rfl ⟨(show -2147483648 ≤ H.1 5 2 a0 ∧ H.1 5 2 a0 ≤ 2147483647 from ⟨by omega, by omega⟩), (show -2147483648 ≤ H.1 5 2 o ∧ H.1 5 2 o ≤ 2147483647 from ⟨by omega, by omega⟩)⟩ (fun hc => ?_) (fun hc => ?_)
      · have c7 : ¬ (H.1 5 2 a0 = H.1 5 2 o) := hc
        clear hc
        refine J.run0 1 rfl ?_
        try dsimp only
        exact J.retb rfl rfl rfl (show (0 : Int) = 0 ∨ (0 : Int) = 1 by omega) ⟨_, rfl, rfl, rfl, _, rfl, (show ((0 : Int)) = 0 ∨ ((0 : Int)) = 1 from by omega)⟩
      · have c8 : ¬ (¬ (H.1 5 2 a0 = H.1 5 2 o)) := hc
        clear hc
        have f9 : 0 ≤ H.1 5 3 a0 ∧ H.1 5 3 a0 ≤ 120 := hI.v 5 3 a0 ta0
        have f10 : 0 ≤ H.1 5 3 o ∧ H.1 5 3 o ≤ 120 := hI.v 5 3 o ta1
        refine J.run 4 rfl ⟨(hI.is ta0), (hI.is ta1)⟩ ?_
        try dsimp only
        refine J.icmp rfl rfl rfl ⟨(show -2147483648 ≤ H.1 5 3 a0 ∧ H.1 5 3 a0 ≤ 2147483647 from ⟨by omega, by omega⟩), (show -2147483648 ≤ H.1 5 3 o ∧ H.1 5 3 o ≤ 2147483647 from ⟨by omega, by omega⟩)⟩ (fun hc => ?_) (fun hc => ?_)
        · have c11 : ¬ (H.1 5 3 a0 = H.1 5 3 o) := hc
          clear hc
          refine J.run0 1 rfl ?_
          try dsimp only
          exact J.retb rfl rfl rfl (show (0 : Int) = 0 ∨ (0 : Int) = 1 by omega) ⟨_, rfl, rfl, rfl, _, rfl, (show ((0 : Int)) = 0 ∨ ((0 : Int)) = 1 from by omega)⟩
        · have c12 : ¬ (¬ (H.1 5 3 a0 = H.1 5 3 o)) := hc
          clear hc
          have f13 : 0 ≤ H.1 5 4 a0 ∧ H.1 5 4 a0 ≤ 31 := hI.v 5 4 a0 ta0
          have f14 : 0 ≤ H.1 5 4 o ∧ H.1 5 4 o ≤ 31 := hI.v 5 4 o ta1
          refine J.run 4 rfl ⟨(hI.is ta0), (hI.is ta1)⟩ ?_
          try dsimp only
          refine J.icmp rfl rfl rfl ⟨(show -2147483648 ≤ H.1 5 4 a0 ∧ H.1 5 4 a0 ≤ 2147483647 from ⟨by omega, by omega⟩), (show -2147483648 ≤ H.1 5 4 o ∧ H.1 5 4 o ≤ 2147483647 from ⟨by omega, by omega⟩)⟩ (fun hc => ?_) (fun hc => ?_)
          · have c15 : ¬ (H.1 5 4 a0 = H.1 5 4 o) := hc
            clear hc
            refine J.run0 1 rfl ?_
            try dsimp only
            exact J.retb rfl rfl rfl (show (0 : Int) = 0 ∨ (0 : Int) = 1 by omega) ⟨_, rfl, rfl, rfl, _, rfl, (show ((0 : Int)) = 0 ∨ ((0 : Int)) = 1 from by omega)⟩
          · have c16 : ¬ (¬ (H.1 5 4 a0 = H.1 5 4 o)) := hc
            clear hc
            have f17 : (-2147483648) ≤ H.1 5 5 a0 ∧ H.1 5 5 a0 ≤ 2147483647 := hI.v 5 5 a0 ta0
            have f18 : (-2147483648) ≤ H.1 5 5 o ∧ H.1 5 5 o ≤ 2147483647 := hI.v 5 5 o ta1
            refine J.run 4 rfl ⟨(hI.is ta0), (hI.is ta1)⟩ ?_
            try dsimp only
            refine J.icmp rfl rfl rfl ⟨(show -2147483648 ≤ H.1 5 5 a0 ∧ H.1 5 5 a0 ≤ 2147483647 from ⟨by omega, by omega⟩), (show -2147483648 ≤ H.1 5 5 o ∧ H.1 5 5 o ≤ 2147483647 from ⟨by omega, by omega⟩)⟩ (fun hc => ?_) (fun hc => ?_)
            · have c19 : H.1 5 5 a0 = H.1 5 5 o := hc
              clear hc
              refine J.run0 1 rfl ?_
              try dsimp only
              exact J.retb rfl rfl rfl (show (0 : Int) = 0 ∨ (0 : Int) = 1 by omega) ⟨_, rfl, rfl, rfl, _, rfl, (show ((0 : Int)) = 0 ∨ ((0 : Int)) = 1 from by omega)⟩
            · have c20 : ¬ (H.1 5 5 a0 = H.1 5 5 o) := hc
              clear hc
              refine J.run0 2 rfl ?_
              try dsimp only
              exact J.retb rfl rfl rfl (show (1 : Int) = 0 ∨ (1 : Int) = 1 by omega) ⟨_, rfl, rfl, rfl, _, rfl, (show ((1 : Int)) = 0 ∨ ((1 : Int)) = 1 from by omega)⟩
end
