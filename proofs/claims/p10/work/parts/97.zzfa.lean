-- M: X10_weigh
section
variable {d : Nat} {F : cG} {T : cP} {w : jW} {H : jH}
set_option maxRecDepth 20000 in
set_option maxHeartbeats 8000000 in
theorem c_X10_weigh_l0 {row : Nat} {bits : Int} (hI : cJ F T w H) (ta0 : T 43 row)  : ∀ (m : Nat), (∀ (s k : Int) (lv : jL), 16 - k < (m : Int) → (0 ≤ k ∧ k ≤ 16) → ((lv = [(3, .inl k), (2, .inl s), (0, .inr (some (43, row))), (1, .inl bits)])) → J false d 111 w (4, lv, [], H) (jN fun v w' H' => w' = w ∧ H' = H ∧ ∃ rv, v = some (.inl rv) ∧ (True))) := by
  intro m
  induction m with
  | zero =>
    skip
    · intro s k lv hm hi0 hlv
      exfalso
      omega
  | succ m ih =>
    skip
    · intro s k lv hm hi0 hlv
      rcases hlv with rfl
      refine J.run0 2 rfl ?_
      try dsimp only
      refine J.icmp rfl rfl rfl ⟨(show -2147483648 ≤ k ∧ k ≤ 2147483647 from ⟨by omega, by omega⟩), (show -2147483648 ≤ (16 : Int) ∧ (16 : Int) ≤ 2147483647 from ⟨by omega, by omega⟩)⟩ (fun hc => ?_) (fun hc => ?_)
      · have c1 : (16 : Int) ≤ k := hc
        clear hc
        refine J.run0 1 rfl ?_
        try dsimp only
        exact J.reti rfl rfl rfl ⟨_, rfl, rfl, rfl, _, rfl, trivial⟩
      · have c2 : ¬ ((16 : Int) ≤ k) := hc
        clear hc
        have f3 : -2147483648 ≤ jushr (bits) (k) ∧ jushr (bits) (k) ≤ 2147483647 := jI32 _
        have f4 : -2147483648 ≤ jand (jushr (bits) (k)) ((1 : Int)) ∧ jand (jushr (bits) (k)) ((1 : Int)) ≤ 2147483647 := jI32 _
        refine J.run0 6 rfl ?_
        try dsimp only
        refine J.icmp rfl rfl rfl ⟨(show -2147483648 ≤ jand (jushr (bits) (k)) ((1 : Int)) ∧ jand (jushr (bits) (k)) ((1 : Int)) ≤ 2147483647 from ⟨by omega, by omega⟩), (show -2147483648 ≤ (1 : Int) ∧ (1 : Int) ≤ 2147483647 from ⟨by omega, by omega⟩)⟩ (fun hc => ?_) (fun hc => ?_)
        · have c5 : ¬ (jand (jushr (bits) (k)) ((1 : Int)) = (1 : Int)) := hc
          clear hc
          refine J.run0 2 rfl ?_
          try dsimp only
          exact ih (s) (k + 1) _ (show 16 - (k + 1) < _ by omega) (show 0 ≤ (k + 1) ∧ (k + 1) ≤ 16 from ⟨by omega, by omega⟩)  rfl
        · have c6 : ¬ (¬ (jand (jushr (bits) (k)) ((1 : Int)) = (1 : Int))) := hc
          clear hc
          refine J.run 8 rfl (show w.1 43 row ∧ 0 ≤ k ∧ k < 16 from ⟨hI.is ta0, by omega, by omega⟩) ?_
          try dsimp only
          exact ih (s + (H.2.2.1 43 row (k))) (k + 1) _ (show 16 - (k + 1) < _ by omega) (show 0 ≤ (k + 1) ∧ (k + 1) ≤ 16 from ⟨by omega, by omega⟩)  rfl
set_option maxRecDepth 20000 in
set_option maxHeartbeats 8000000 in
theorem c_X10_weigh {row : Nat} {bits : Int} (hI : cJ F T w H) (ta0 : T 43 row)  : J false d 111 w (0, jargs 0 [.inr (some (43, row)), .inl bits], [], H) (jN fun v w' H' => w' = w ∧ H' = H ∧ ∃ rv, v = some (.inl rv) ∧ (True)) := by
  refine J.run0 4 rfl ?_
  try dsimp only
  exact (c_X10_weigh_l0 (row := row) (bits := bits) hI ta0  ((16 - ((0 : Int)) : Int).toNat + 1)) ((0 : Int)) ((0 : Int)) _ (show 16 - ((0 : Int)) < _ by omega) (show 0 ≤ ((0 : Int)) ∧ ((0 : Int)) ≤ 16 from ⟨by omega, by omega⟩)  rfl
end
-- M: X10_isSameRow
section
variable {d : Nat} {F : cG} {T : cP} {w : jW} {H : jH}
set_option maxRecDepth 20000 in
set_option maxHeartbeats 8000000 in
theorem c_X10_isSameRow_l0 {one : Nat} {two : Nat} (hI : cJ F T w H) (ta0 : T 43 one) (ta1 : T 43 two)  : ∀ (m : Nat), (∀ (k : Int) (lv : jL), 16 - k < (m : Int) → (0 ≤ k ∧ k ≤ 16) → ((lv = [(2, .inl k), (0, .inr (some (43, one))), (1, .inr (some (43, two)))])) → J false d 112 w (2, lv, [], H) (jN fun v w' H' => w' = w ∧ H' = H ∧ ∃ rv, v = some (.inl rv) ∧ (rv = 0 ∨ rv = 1))) := by
  intro m
  induction m with
  | zero =>
    skip
    · intro k lv hm hi0 hlv
      exfalso
      omega
  | succ m ih =>
    skip
    · intro k lv hm hi0 hlv
      rcases hlv with rfl
      refine J.run0 2 rfl ?_
      try dsimp only
      refine J.icmp rfl rfl rfl ⟨(show -2147483648 ≤ k ∧ k ≤ 2147483647 from ⟨by omega, by omega⟩), (show -2147483648 ≤ (16 : Int) ∧ (16 : Int) ≤ 2147483647 from ⟨by omega, by omega⟩)⟩ (fun hc => ?_) (fun hc => ?_)
      · have c1 : (16 : Int) ≤ k := hc
        clear hc
        refine J.run0 1 rfl ?_
        try dsimp only
        exact J.retb rfl rfl rfl (show (1 : Int) = 0 ∨ (1 : Int) = 1 by omega) ⟨_, rfl, rfl, rfl, _, rfl, (show ((1 : Int)) = 0 ∨ ((1 : Int)) = 1 from by omega)⟩
      · have c2 : ¬ ((16 : Int) ≤ k) := hc
        clear hc
        refine J.run 6 rfl ⟨(show w.1 43 one ∧ 0 ≤ k ∧ k < 16 from ⟨hI.is ta0, by omega, by omega⟩), (show w.1 43 two ∧ 0 ≤ k ∧ k < 16 from ⟨hI.is ta1, by omega, by omega⟩)⟩ ?_
        try dsimp only
        refine J.icmpN rfl rfl rfl (fun hc => ?_) (fun hc => ?_)
        · have c3 : jn (H.2.2.1 43 one (k)) = jn (H.2.2.1 43 two (k)) := hc
          clear hc
          refine J.run0 2 rfl ?_
          try dsimp only
          exact ih (k + 1) _ (show 16 - (k + 1) < _ by omega) (show 0 ≤ (k + 1) ∧ (k + 1) ≤ 16 from ⟨by omega, by omega⟩)  rfl
        · have c4 : ¬ (jn (H.2.2.1 43 one (k)) = jn (H.2.2.1 43 two (k))) := hc
          clear hc
          refine J.run0 1 rfl ?_
          try dsimp only
          exact J.retb rfl rfl rfl (show (0 : Int) = 0 ∨ (0 : Int) = 1 by omega) ⟨_, rfl, rfl, rfl, _, rfl, (show ((0 : Int)) = 0 ∨ ((0 : Int)) = 1 from by omega)⟩
set_option maxRecDepth 20000 in
set_option maxHeartbeats 8000000 in
theorem c_X10_isSameRow {one : Nat} {two : Nat} (hI : cJ F T w H) (ta0 : T 43 one) (ta1 : T 43 two)  : J false d 112 w (0, jargs 0 [.inr (some (43, one)), .inr (some (43, two))], [], H) (jN fun v w' H' => w' = w ∧ H' = H ∧ ∃ rv, v = some (.inl rv) ∧ (rv = 0 ∨ rv = 1)) := by
  refine J.run0 2 rfl ?_
  try dsimp only
  exact (c_X10_isSameRow_l0 (one := one) (two := two) hI ta0 ta1  ((16 - ((0 : Int)) : Int).toNat + 1)) ((0 : Int)) _ (show 16 - ((0 : Int)) < _ by omega) (show 0 ≤ ((0 : Int)) ∧ ((0 : Int)) ≤ 16 from ⟨by omega, by omega⟩)  rfl
end
-- M: X10_isNode
section
variable {d : Nat} {F : cG} {T : cP} {w : jW} {H : jH}
set_option maxRecDepth 20000 in
set_option maxHeartbeats 8000000 in
theorem c_X10_isNode {n : Int} (hI : cJ F T w H)  (hp0 : -2147483648 ≤ n ∧ n ≤ 2147483647) : J false d 103 w (0, jargs 0 [.inl n], [], H) (jN fun v w' H' => w' = w ∧ H' = H ∧ ∃ rv, v = some (.inl rv) ∧ ((rv = 0 ∨ rv = 1) ∧ (rv = 1 → 0 ≤ n ∧ n ≤ 15) ∧ (rv = 0 → n < 0 ∨ 15 < n))) := by
  refine J.run0 1 rfl ?_
  try dsimp only
  refine J.ifc rfl rfl rfl (show -2147483648 ≤ n ∧ n ≤ 2147483647 from ⟨by omega, by omega⟩) (fun hc => ?_) (fun hc => ?_)
  · have c1 : n < (0 : Int) := hc
    clear hc
    refine J.run0 1 rfl ?_
    try dsimp only
    exact J.retb rfl rfl rfl (show (0 : Int) = 0 ∨ (0 : Int) = 1 by omega) ⟨_, rfl, rfl, rfl, _, rfl, (show (((0 : Int)) = 0 ∨ ((0 : Int)) = 1) ∧ (((0 : Int)) = 1 → 0 ≤ n ∧ n ≤ 15) ∧ (((0 : Int)) = 0 → n < 0 ∨ 15 < n) from ⟨by omega, by omega, by omega⟩)⟩
  · have c2 : ¬ (n < (0 : Int)) := hc
    clear hc
    refine J.run0 2 rfl ?_
    try dsimp only
    refine J.icmp rfl rfl rfl ⟨(show -2147483648 ≤ n ∧ n ≤ 2147483647 from ⟨by omega, by omega⟩), (show -2147483648 ≤ (16 : Int) ∧ (16 : Int) ≤ 2147483647 from ⟨by omega, by omega⟩)⟩ (fun hc => ?_) (fun hc => ?_)
    · have c3 : (16 : Int) ≤ n := hc
      clear hc
      refine J.run0 1 rfl ?_
      try dsimp only
      exact J.retb rfl rfl rfl (show (0 : Int) = 0 ∨ (0 : Int) = 1 by omega) ⟨_, rfl, rfl, rfl, _, rfl, (show (((0 : Int)) = 0 ∨ ((0 : Int)) = 1) ∧ (((0 : Int)) = 1 → 0 ≤ n ∧ n ≤ 15) ∧ (((0 : Int)) = 0 → n < 0 ∨ 15 < n) from ⟨by omega, by omega, by omega⟩)⟩
    · have c4 : ¬ ((16 : Int) ≤ n) := hc
      clear hc
      refine J.run0 2 rfl ?_
      try dsimp only
      exact J.retb rfl rfl rfl (show (1 : Int) = 0 ∨ (1 : Int) = 1 by omega) ⟨_, rfl, rfl, rfl, _, rfl, (show (((1 : Int)) = 0 ∨ ((1 : Int)) = 1) ∧ (((1 : Int)) = 1 → 0 ≤ n ∧ n ≤ 15) ∧ (((1 : Int)) = 0 → n < 0 ∨ 15 < n) from ⟨by omega, by omega, by omega⟩)⟩
end
-- M: X8_isMost
section
variable {d : Nat} {F : cG} {T : cP} {w : jW} {H : jH}
set_option maxRecDepth 20000 in
set_option maxHeartbeats 8000000 in
theorem c_X8_isMost {a0 : Nat} {bits : Int} (hI : cJ F T w H) (ta0 : T 8 a0)  : J false (d + 1) 63 w (0, jargs 0 [.inr (some (8, a0)), .inl bits], [], H) (jN fun v w' H' => w' = w ∧ H' = H ∧ ∃ rv, v = some (.inl rv) ∧ (rv = 0 ∨ rv = 1)) := by
  refine J.run 4 rfl ⟨(hI.is ta0), (hI.o 8 12 43 a0 rfl ta0).1⟩ ?_
  try dsimp only
  refine J.ins4 rfl rfl rfl (by decide) rfl rfl rfl rfl rfl (jstP.of rfl) (c_X10_weigh (row := (H.2.2.2.2 8 12 a0)) (bits := bits) hI (hI.o 8 12 43 a0 rfl ta0).2 ) ?_
  rintro v w H ⟨rfl, rfl, hv⟩
  obtain ⟨x1, rfl, r2⟩ := hv
  try dsimp only [Option.toList, List.append, List.cons_append, List.nil_append]
  refine J.run 5 rfl (hI.is ta0) ?_
  try dsimp only
  refine J.icmpN rfl rfl rfl (fun hc => ?_) (fun hc => ?_)
  · have c3 : jn ((3 : Int) * x1) ≤ jn ((2 : Int) * (H.1 8 13 a0)) := hc
    clear hc
    refine J.run0 1 rfl ?_
    try dsimp only
    exact J.retb rfl rfl rfl (show (0 : Int) = 0 ∨ (0 : Int) = 1 by omega) ⟨_, rfl, rfl, rfl, _, rfl, (show ((0 : Int)) = 0 ∨ ((0 : Int)) = 1 from by omega)⟩
  · have c4 : ¬ (jn ((3 : Int) * x1) ≤ jn ((2 : Int) * (H.1 8 13 a0))) := hc
    clear hc
    refine J.run0 2 rfl ?_
    try dsimp only
    exact J.retb rfl rfl rfl (show (1 : Int) = 0 ∨ (1 : Int) = 1 by omega) ⟨_, rfl, rfl, rfl, _, rfl, (show ((1 : Int)) = 0 ∨ ((1 : Int)) = 1 from by omega)⟩
end
-- M: X8_isSome
section
variable {d : Nat} {F : cG} {T : cP} {w : jW} {H : jH}
set_option maxRecDepth 20000 in
set_option maxHeartbeats 8000000 in
theorem c_X8_isSome {a0 : Nat} {bits : Int} (hI : cJ F T w H) (ta0 : T 8 a0)  : J false (d + 1) 64 w (0, jargs 0 [.inr (some (8, a0)), .inl bits], [], H) (jN fun v w' H' => w' = w ∧ H' = H ∧ ∃ rv, v = some (.inl rv) ∧ (rv = 0 ∨ rv = 1)) := by
  refine J.run 4 rfl ⟨(hI.is ta0), (hI.o 8 12 43 a0 rfl ta0).1⟩ ?_
  try dsimp only
  refine J.ins4 rfl rfl rfl (by decide) rfl rfl rfl rfl rfl (jstP.of rfl) (c_X10_weigh (row := (H.2.2.2.2 8 12 a0)) (bits := bits) hI (hI.o 8 12 43 a0 rfl ta0).2 ) ?_
  rintro v w H ⟨rfl, rfl, hv⟩
  obtain ⟨x1, rfl, r2⟩ := hv
  try dsimp only [Option.toList, List.append, List.cons_append, List.nil_append]
  refine J.run 3 rfl (hI.is ta0) ?_
  try dsimp only
  refine J.icmpN rfl rfl rfl (fun hc => ?_) (fun hc => ?_)
  · have c3 : jn ((3 : Int) * x1) ≤ jn (H.1 8 13 a0) := hc
    clear hc
    refine J.run0 1 rfl ?_
    try dsimp only
    exact J.retb rfl rfl rfl (show (0 : Int) = 0 ∨ (0 : Int) = 1 by omega) ⟨_, rfl, rfl, rfl, _, rfl, (show ((0 : Int)) = 0 ∨ ((0 : Int)) = 1 from by omega)⟩
  · have c4 : ¬ (jn ((3 : Int) * x1) ≤ jn (H.1 8 13 a0)) := hc
    clear hc
    refine J.run0 2 rfl ?_
    try dsimp only
    exact J.retb rfl rfl rfl (show (1 : Int) = 0 ∨ (1 : Int) = 1 by omega) ⟨_, rfl, rfl, rfl, _, rfl, (show ((1 : Int)) = 0 ∨ ((1 : Int)) = 1 from by omega)⟩
end
-- M: X8_placeOf
section
variable {d : Nat} {F : cG} {T : cP} {w : jW} {H : jH}
set_option maxRecDepth 20000 in
set_option maxHeartbeats 8000000 in
theorem c_X8_placeOf_l0 {a0 : Nat} {account : Int} {node : Int} (hI : cJ F T w H) (ta0 : T 8 a0)  : ∀ (m : Nat), (∀ (k : Int) (lv : jL), 96 - k < (m : Int) → (0 ≤ k ∧ k ≤ 96) → ((lv = [(3, .inl k), (0, .inr (some (8, a0))), (1, .inl account), (2, .inl node)])) → J false d 61 w (2, lv, [], H) (jN fun v w' H' => w' = w ∧ H' = H ∧ ∃ rv, v = some (.inl rv) ∧ (-1 ≤ rv ∧ rv < H.1 8 4 a0 ∧ rv ≤ 95))) := by
  intro m
  induction m with
  | zero =>
    skip
    · intro k lv hm hi0 hlv
      exfalso
      omega
  | succ m ih =>
    skip
    · intro k lv hm hi0 hlv
      rcases hlv with rfl
      have f1 : 0 ≤ H.1 8 4 a0 ∧ H.1 8 4 a0 ≤ 96 := hI.v 8 4 a0 ta0
      refine J.run 3 rfl (hI.is ta0) ?_
      try dsimp only
      refine J.icmp rfl rfl rfl ⟨(show -2147483648 ≤ k ∧ k ≤ 2147483647 from ⟨by omega, by omega⟩), (show -2147483648 ≤ H.1 8 4 a0 ∧ H.1 8 4 a0 ≤ 2147483647 from ⟨by omega, by omega⟩)⟩ (fun hc => ?_) (fun hc => ?_)
      · have c2 : H.1 8 4 a0 ≤ k := hc
        clear hc
        refine J.run0 1 rfl ?_
        try dsimp only
        exact J.reti rfl rfl rfl ⟨_, rfl, rfl, rfl, _, rfl, (show -1 ≤ ((-1 : Int)) ∧ ((-1 : Int)) < H.1 8 4 a0 ∧ ((-1 : Int)) ≤ 95 from ⟨by omega, by omega, by omega⟩)⟩
      · have c3 : ¬ (H.1 8 4 a0 ≤ k) := hc
        clear hc
        refine J.run 5 rfl ⟨⟨(hI.is ta0), hI.is (hI.r 8 1 33 a0 rfl ta0)⟩, (show w.1 33 a0 ∧ 0 ≤ k ∧ k < 96 from ⟨hI.is (hI.r 8 1 33 a0 rfl ta0), by omega, by omega⟩)⟩ ?_
        try dsimp only
        refine J.icmpN rfl rfl rfl (fun hc => ?_) (fun hc => ?_)
        · have c4 : ¬ (jn (H.2.2.1 33 a0 (k)) = jn (account)) := hc
          clear hc
          refine J.run0 2 rfl ?_
          try dsimp only
          exact ih (k + 1) _ (show 96 - (k + 1) < _ by omega) (show 0 ≤ (k + 1) ∧ (k + 1) ≤ 96 from ⟨by omega, by omega⟩)  rfl
        · have c5 : ¬ (¬ (jn (H.2.2.1 33 a0 (k)) = jn (account))) := hc
          clear hc
          have f6 : 0 ≤ H.2.2.1 34 a0 (k) ∧ H.2.2.1 34 a0 (k) ≤ 15 := hI.i 34 a0 (k) (hI.r 8 2 34 a0 rfl ta0)
          refine J.run 5 rfl ⟨⟨(hI.is ta0), hI.is (hI.r 8 2 34 a0 rfl ta0)⟩, (show w.1 34 a0 ∧ 0 ≤ k ∧ k < 96 from ⟨hI.is (hI.r 8 2 34 a0 rfl ta0), by omega, by omega⟩)⟩ ?_
          try dsimp only
          refine J.icmpN rfl rfl rfl (fun hc => ?_) (fun hc => ?_)
          · have c7 : ¬ (jn (H.2.2.1 34 a0 (k)) = jn (node)) := hc
            clear hc
            refine J.run0 2 rfl ?_
            try dsimp only
            exact ih (k + 1) _ (show 96 - (k + 1) < _ by omega) (show 0 ≤ (k + 1) ∧ (k + 1) ≤ 96 from ⟨by omega, by omega⟩)  rfl
          · have c8 : ¬ (¬ (jn (H.2.2.1 34 a0 (k)) = jn (node))) := hc
            clear hc
            refine J.run0 1 rfl ?_
            try dsimp only
            exact J.reti rfl rfl rfl ⟨_, rfl, rfl, rfl, _, rfl, (show -1 ≤ (k) ∧ (k) < H.1 8 4 a0 ∧ (k) ≤ 95 from ⟨by omega, by omega, by omega⟩)⟩
set_option maxRecDepth 20000 in
set_option maxHeartbeats 8000000 in
theorem c_X8_placeOf {a0 : Nat} {account : Int} {node : Int} (hI : cJ F T w H) (ta0 : T 8 a0)  : J false d 61 w (0, jargs 0 [.inr (some (8, a0)), .inl account, .inl node], [], H) (jN fun v w' H' => w' = w ∧ H' = H ∧ ∃ rv, v = some (.inl rv) ∧ (-1 ≤ rv ∧ rv < H.1 8 4 a0 ∧ rv ≤ 95)) := by
  have q0 : 0 ≤ H.1 8 4 a0 ∧ H.1 8 4 a0 ≤ 96 := hI.v 8 4 a0 ta0
  refine J.run0 2 rfl ?_
  try dsimp only
  exact (c_X8_placeOf_l0 (a0 := a0) (account := account) (node := node) hI ta0  ((96 - ((0 : Int)) : Int).toNat + 1)) ((0 : Int)) _ (show 96 - ((0 : Int)) < _ by omega) (show 0 ≤ ((0 : Int)) ∧ ((0 : Int)) ≤ 96 from ⟨by omega, by omega⟩)  rfl
end
