-- M: X6_isGood
section
variable {d : Nat} {F : cG} {T : cP} {w : jW} {H : jH}
set_option maxRecDepth 20000 in
set_option maxHeartbeats 8000000 in
theorem c_X6_isGood {a0 : Nat} {b : Option Nat} (hI : cJ F T w H) (ta0 : T 6 a0) (ta1 : ∀ q, b = some q → T 0 q)  : J false d 36 w (0, jargs 0 [.inr (some (6, a0)), .inr ((b).map fun q => (0, q))], [], H) (jN fun v w' H' => w' = w ∧ H' = H ∧ ∃ rv, v = some (.inl rv) ∧ ((rv = 0 ∨ rv = 1) ∧ (rv = 1 → b ≠ none))) := by
  rcases b with _ | b
  · skip
    refine J.run0 3 rfl ?_
    try dsimp only
    exact J.retb rfl rfl rfl (show (0 : Int) = 0 ∨ (0 : Int) = 1 by omega) ⟨_, rfl, rfl, rfl, _, rfl, (show (((0 : Int)) = 0 ∨ ((0 : Int)) = 1) ∧ (((0 : Int)) = 1 → none ≠ none) from ⟨by omega, by first | (intro z; omega) | (intro z; exact (nomatch ·))⟩)⟩
  · have t1 : T 0 b := ta1 _ rfl
    refine J.run 4 rfl (hI.is t1) ?_
    try dsimp only
    try dsimp only
    rcases hn2 : H.2.1 0 6 b with _ | q3
    · skip
      refine J.run0 2 rfl ?_
      try dsimp only
      exact J.retb rfl rfl rfl (show (0 : Int) = 0 ∨ (0 : Int) = 1 by omega) ⟨_, rfl, rfl, rfl, _, rfl, (show (((0 : Int)) = 0 ∨ ((0 : Int)) = 1) ∧ (((0 : Int)) = 1 → (some b) ≠ none) from ⟨by omega, by first | (intro z; omega) | (intro z; exact (nomatch ·))⟩)⟩
    · have t4 : T 8 q3 := hI.n 0 6 8 b rfl t1 hn2
      refine J.run 3 rfl (hI.is t1) ?_
      try dsimp only
      try dsimp only
      rcases hn5 : H.2.1 0 2 b with _ | q6
      · skip
        refine J.run0 2 rfl ?_
        try dsimp only
        exact J.retb rfl rfl rfl (show (0 : Int) = 0 ∨ (0 : Int) = 1 by omega) ⟨_, rfl, rfl, rfl, _, rfl, (show (((0 : Int)) = 0 ∨ ((0 : Int)) = 1) ∧ (((0 : Int)) = 1 → (some b) ≠ none) from ⟨by omega, by first | (intro z; omega) | (intro z; exact (nomatch ·))⟩)⟩
      · have t7 : T 0 q6 := hI.n 0 2 0 b rfl t1 hn5
        have f8 : 0 ≤ H.1 0 1 q6 ∧ H.1 0 1 q6 ≤ 299 := hI.v 0 1 q6 t7
        have f9 := hI.up t1 hn5
        refine J.run 3 rfl (hI.is t1) ?_
        try dsimp only
        try dsimp only
        rw [hn5]
        have f10 : 0 ≤ H.1 0 0 q6 ∧ H.1 0 0 q6 ≤ 299 := hI.v 0 0 q6 t7
        have f11 : 0 ≤ H.1 0 0 (H.2.2.2.2 6 1 a0) ∧ H.1 0 0 (H.2.2.2.2 6 1 a0) ≤ 299 := hI.v 0 0 (H.2.2.2.2 6 1 a0) (hI.o 6 1 0 a0 rfl ta0).2
        refine J.run 4 rfl ⟨(hI.is t7), ⟨(hI.is ta0), (hI.o 6 1 0 a0 rfl ta0).1⟩, (hI.is (hI.o 6 1 0 a0 rfl ta0).2)⟩ ?_
        try dsimp only
        refine J.icmp rfl rfl rfl ⟨(show -2147483648 ≤ H.1 0 0 q6 ∧ H.1 0 0 q6 ≤ 2147483647 from ⟨by omega, by omega⟩), (show -2147483648 ≤ H.1 0 0 (H.2.2.2.2 6 1 a0) ∧ H.1 0 0 (H.2.2.2.2 6 1 a0) ≤ 2147483647 from ⟨by omega, by omega⟩)⟩ (fun hc => ?_) (fun hc => ?_)
        · have c12 : ¬ (H.1 0 0 q6 = H.1 0 0 (H.2.2.2.2 6 1 a0)) := hc
          clear hc
          refine J.run0 1 rfl ?_
          try dsimp only
          exact J.retb rfl rfl rfl (show (0 : Int) = 0 ∨ (0 : Int) = 1 by omega) ⟨_, rfl, rfl, rfl, _, rfl, (show (((0 : Int)) = 0 ∨ ((0 : Int)) = 1) ∧ (((0 : Int)) = 1 → (some b) ≠ none) from ⟨by omega, by first | (intro z; omega) | (intro z; exact (nomatch ·))⟩)⟩
        · have c13 : ¬ (¬ (H.1 0 0 q6 = H.1 0 0 (H.2.2.2.2 6 1 a0))) := hc
          clear hc
          refine J.run0 2 rfl ?_
          try dsimp only
          exact J.retb rfl rfl rfl (show (1 : Int) = 0 ∨ (1 : Int) = 1 by omega) ⟨_, rfl, rfl, rfl, _, rfl, (show (((1 : Int)) = 0 ∨ ((1 : Int)) = 1) ∧ (((1 : Int)) = 1 → (some b) ≠ none) from ⟨by omega, by first | (intro z; omega) | (intro z; exact (nomatch ·))⟩)⟩
end
-- M: X6_hasHeard
section
variable {d : Nat} {F : cG} {T : cP} {w : jW} {H : jH}
set_option maxRecDepth 20000 in
set_option maxHeartbeats 8000000 in
theorem c_X6_hasHeard {a0 : Nat} {m0 : Nat} (hI : cJ F T w H) (ta0 : T 6 a0) (ta1 : T 5 m0)  : J false d 40 w (0, jargs 0 [.inr (some (6, a0)), .inr (some (5, m0))], [], H) (jN fun v w' H' => w' = w ∧ H' = H ∧ ∃ rv, v = some (.inl rv) ∧ (rv = 0 ∨ rv = 1)) := by
  have f1 : 0 ≤ H.1 5 0 m0 ∧ H.1 5 0 m0 ≤ 5999 := hI.v 5 0 m0 ta1
  have f2 : -2147483648 ≤ jushr (H.1 5 0 m0) ((5 : Int)) ∧ jushr (H.1 5 0 m0) ((5 : Int)) ≤ 2147483647 := jI32 _
  have f3 : 0 ≤ H.1 5 0 m0 ∧ H.1 5 0 m0 < 6000 → 0 ≤ jushr (H.1 5 0 m0) ((5 : Int)) ∧ jushr (H.1 5 0 m0) ((5 : Int)) < 188 := jix5 _
  have f4 : -2147483648 ≤ jand (H.1 5 0 m0) ((31 : Int)) ∧ jand (H.1 5 0 m0) ((31 : Int)) ≤ 2147483647 := jI32 _
  have f5 : -2147483648 ≤ jushr (H.2.2.1 26 a0 (jushr (H.1 5 0 m0) ((5 : Int)))) (jand (H.1 5 0 m0) ((31 : Int))) ∧ jushr (H.2.2.1 26 a0 (jushr (H.1 5 0 m0) ((5 : Int)))) (jand (H.1 5 0 m0) ((31 : Int))) ≤ 2147483647 := jI32 _
  have f6 : -2147483648 ≤ jand (jushr (H.2.2.1 26 a0 (jushr (H.1 5 0 m0) ((5 : Int)))) (jand (H.1 5 0 m0) ((31 : Int)))) ((1 : Int)) ∧ jand (jushr (H.2.2.1 26 a0 (jushr (H.1 5 0 m0) ((5 : Int)))) (jand (H.1 5 0 m0) ((31 : Int)))) ((1 : Int)) ≤ 2147483647 := jI32 _
  refine J.run 15 rfl ⟨⟨(hI.is ta0), hI.is (hI.r 6 14 26 a0 rfl ta0)⟩, (hI.is ta1), (show w.1 26 a0 ∧ 0 ≤ jushr (H.1 5 0 m0) ((5 : Int)) ∧ jushr (H.1 5 0 m0) ((5 : Int)) < 188 from ⟨hI.is (hI.r 6 14 26 a0 rfl ta0), by omega, by omega⟩), (hI.is ta1)⟩ ?_
  try dsimp only
  refine J.icmp rfl rfl rfl ⟨(show -2147483648 ≤ jand (jushr (H.2.2.1 26 a0 (jushr (H.1 5 0 m0) ((5 : Int)))) (jand (H.1 5 0 m0) ((31 : Int)))) ((1 : Int)) ∧ jand (jushr (H.2.2.1 26 a0 (jushr (H.1 5 0 m0) ((5 : Int)))) (jand (H.1 5 0 m0) ((31 : Int)))) ((1 : Int)) ≤ 2147483647 from ⟨by omega, by omega⟩), (show -2147483648 ≤ (1 : Int) ∧ (1 : Int) ≤ 2147483647 from ⟨by omega, by omega⟩)⟩ (fun hc => ?_) (fun hc => ?_)
  · have c7 : ¬ (jand (jushr (H.2.2.1 26 a0 (jushr (H.1 5 0 m0) ((5 : Int)))) (jand (H.1 5 0 m0) ((31 : Int)))) ((1 : Int)) = (1 : Int)) := hc
    clear hc
    refine J.run0 1 rfl ?_
    try dsimp only
    exact J.retb rfl rfl rfl (show (0 : Int) = 0 ∨ (0 : Int) = 1 by omega) ⟨_, rfl, rfl, rfl, _, rfl, (show ((0 : Int)) = 0 ∨ ((0 : Int)) = 1 from by omega)⟩
  · have c8 : ¬ (¬ (jand (jushr (H.2.2.1 26 a0 (jushr (H.1 5 0 m0) ((5 : Int)))) (jand (H.1 5 0 m0) ((31 : Int)))) ((1 : Int)) = (1 : Int))) := hc
    clear hc
    refine J.run0 2 rfl ?_
    try dsimp only
    exact J.retb rfl rfl rfl (show (1 : Int) = 0 ∨ (1 : Int) = 1 by omega) ⟨_, rfl, rfl, rfl, _, rfl, (show ((1 : Int)) = 0 ∨ ((1 : Int)) = 1 from by omega)⟩
end
-- M: X6_heardAsFirst
section
variable {d : Nat} {F : cG} {T : cP} {w : jW} {H : jH}
set_option maxRecDepth 20000 in
set_option maxHeartbeats 8000000 in
theorem c_X6_heardAsFirst {a0 : Nat} {m0 : Nat} (hI : cJ F T w H) (ta0 : T 6 a0) (ta1 : T 5 m0)  : J false d 41 w (0, jargs 0 [.inr (some (6, a0)), .inr (some (5, m0))], [], H) (jN fun v w' H' => w' = w ∧ H' = H ∧ ∃ rv, v = some (.inl rv) ∧ (rv = 0 ∨ rv = 1)) := by
  have f1 : 0 ≤ H.1 5 0 m0 ∧ H.1 5 0 m0 ≤ 5999 := hI.v 5 0 m0 ta1
  have f2 : -2147483648 ≤ jushr (H.1 5 0 m0) ((5 : Int)) ∧ jushr (H.1 5 0 m0) ((5 : Int)) ≤ 2147483647 := jI32 _
  have f3 : 0 ≤ H.1 5 0 m0 ∧ H.1 5 0 m0 < 6000 → 0 ≤ jushr (H.1 5 0 m0) ((5 : Int)) ∧ jushr (H.1 5 0 m0) ((5 : Int)) < 188 := jix5 _
  have f4 : -2147483648 ≤ jand (H.1 5 0 m0) ((31 : Int)) ∧ jand (H.1 5 0 m0) ((31 : Int)) ≤ 2147483647 := jI32 _
  have f5 : -2147483648 ≤ jushr (H.2.2.1 27 a0 (jushr (H.1 5 0 m0) ((5 : Int)))) (jand (H.1 5 0 m0) ((31 : Int))) ∧ jushr (H.2.2.1 27 a0 (jushr (H.1 5 0 m0) ((5 : Int)))) (jand (H.1 5 0 m0) ((31 : Int))) ≤ 2147483647 := jI32 _
  have f6 : -2147483648 ≤ jand (jushr (H.2.2.1 27 a0 (jushr (H.1 5 0 m0) ((5 : Int)))) (jand (H.1 5 0 m0) ((31 : Int)))) ((1 : Int)) ∧ jand (jushr (H.2.2.1 27 a0 (jushr (H.1 5 0 m0) ((5 : Int)))) (jand (H.1 5 0 m0) ((31 : Int)))) ((1 : Int)) ≤ 2147483647 := jI32 _
  refine J.run 15 rfl ⟨⟨(hI.is ta0), hI.is (hI.r 6 15 27 a0 rfl ta0)⟩, (hI.is ta1), (show w.1 27 a0 ∧ 0 ≤ jushr (H.1 5 0 m0) ((5 : Int)) ∧ jushr (H.1 5 0 m0) ((5 : Int)) < 188 from ⟨hI.is (hI.r 6 15 27 a0 rfl ta0), by omega, by omega⟩), (hI.is ta1)⟩ ?_
  try dsimp only
  refine J.icmp rfl rfl rfl ⟨(show -2147483648 ≤ jand (jushr (H.2.2.1 27 a0 (jushr (H.1 5 0 m0) ((5 : Int)))) (jand (H.1 5 0 m0) ((31 : Int)))) ((1 : Int)) ∧ jand (jushr (H.2.2.1 27 a0 (jushr (H.1 5 0 m0) ((5 : Int)))) (jand (H.1 5 0 m0) ((31 : Int)))) ((1 : Int)) ≤ 2147483647 from ⟨by omega, by omega⟩), (show -2147483648 ≤ (1 : Int) ∧ (1 : Int) ≤ 2147483647 from ⟨by omega, by omega⟩)⟩ (fun hc => ?_) (fun hc => ?_)
  · have c7 : ¬ (jand (jushr (H.2.2.1 27 a0 (jushr (H.1 5 0 m0) ((5 : Int)))) (jand (H.1 5 0 m0) ((31 : Int)))) ((1 : Int)) = (1 : Int)) := hc
    clear hc
    refine J.run0 1 rfl ?_
    try dsimp only
    exact J.retb rfl rfl rfl (show (0 : Int) = 0 ∨ (0 : Int) = 1 by omega) ⟨_, rfl, rfl, rfl, _, rfl, (show ((0 : Int)) = 0 ∨ ((0 : Int)) = 1 from by omega)⟩
  · have c8 : ¬ (¬ (jand (jushr (H.2.2.1 27 a0 (jushr (H.1 5 0 m0) ((5 : Int)))) (jand (H.1 5 0 m0) ((31 : Int)))) ((1 : Int)) = (1 : Int))) := hc
    clear hc
    refine J.run0 2 rfl ?_
    try dsimp only
    exact J.retb rfl rfl rfl (show (1 : Int) = 0 ∨ (1 : Int) = 1 by omega) ⟨_, rfl, rfl, rfl, _, rfl, (show ((1 : Int)) = 0 ∨ ((1 : Int)) = 1 from by omega)⟩
end
-- M: X10_proposalOf
section
variable {d : Nat} {F : cG} {T : cP} {w : jW} {H : jH}
set_option maxRecDepth 20000 in
set_option maxHeartbeats 8000000 in
theorem c_X10_proposalOf_l0 {x : Nat} {round : Int} (hI : cJ F T w H) (ta0 : T 6 x) (hp0 : -2147483648 ≤ round ∧ round ≤ 2147483647) : ∀ (m : Nat), (∀ (z : Nat) (lv : jL), 6000 - H.1 5 0 z < (m : Int) → (0 ≤ H.1 5 0 z ∧ H.1 5 0 z ≤ 5999) → T 5 z → ((∃ j3 : Int, lv = [(4, .inr (some (5, z))), (3, .inl j3), (0, .inr (some (10, F.1))), (1, .inr (some (6, x))), (2, .inl round)])) → J false (d + 2) 100 w (20, lv, [], H) (jN fun v w' H' => w' = w ∧ H' = H ∧ ((v = some (.inr none) ∧ True) ∨ ∃ rq, v = some (.inr (some (5, rq))) ∧ T 5 rq ∧ True))) := by
  intro m
  induction m with
  | zero =>
    skip
    · intro z lv hm hi0 tv4 hlv
      exfalso
      omega
  | succ m ih =>
    skip
    · intro z lv hm hi0 tv4 hlv
      rcases hlv with ⟨j3, rfl⟩
      have f1 : 0 ≤ H.1 5 2 z ∧ H.1 5 2 z ≤ 15 := hI.v 5 2 z tv4
      refine J.run 5 rfl (hI.is tv4) ?_
      try dsimp only
      refine J.icmpN rfl rfl rfl (fun hc => ?_) (fun hc => ?_)
      · have c2 : ¬ (jn (H.1 5 2 z) = jn (j3)) := hc
        clear hc
        refine J.run 2 rfl (hI.is tv4) ?_
        try dsimp only
        try dsimp only
        rcases hn3 : H.2.1 5 7 z with _ | q4
        · skip
          refine J.run0 5 rfl ?_
          try dsimp only
          exact J.reta rfl rfl rfl ⟨_, rfl, rfl, rfl, Or.inl ⟨rfl, trivial⟩⟩
        · have t5 : T 5 q4 := hI.n 5 7 5 z rfl tv4 hn3
          have f6 : 0 ≤ H.1 5 0 q4 ∧ H.1 5 0 q4 ≤ 5999 := hI.v 5 0 q4 t5
          have f7 := hI.nx tv4 hn3
          refine J.run0 2 rfl ?_
          try dsimp only
          exact ih (q4) _ (show 6000 - H.1 5 0 (q4) < _ by omega) (show 0 ≤ H.1 5 0 (q4) ∧ H.1 5 0 (q4) ≤ 5999 from ⟨by omega, by omega⟩) t5 ⟨_, rfl⟩
      · have c8 : ¬ (¬ (jn (H.1 5 2 z) = jn (j3))) := hc
        clear hc
        refine J.run0 2 rfl ?_
        try dsimp only
        refine J.inv rfl rfl rfl rfl rfl rfl ((jD_w rfl).mpr (hI.is ta0)) rfl rfl rfl rfl rfl (c_X6_heardAsFirst (a0 := x) (m0 := z) hI ta0 tv4 ) ?_
        rintro v w H ⟨rfl, rfl, hv⟩
        obtain ⟨x9, rfl, r10⟩ := hv
        have r10' : x9 = 0 ∨ x9 = 1 := r10
        try dsimp only [Option.toList, List.append, List.cons_append, List.nil_append]
        refine J.ifc rfl rfl rfl (show -2147483648 ≤ x9 ∧ x9 ≤ 2147483647 from ⟨by omega, by omega⟩) (fun hc => ?_) (fun hc => ?_)
        · have c11 : x9 = (0 : Int) := hc
          clear hc
          refine J.run 2 rfl (hI.is tv4) ?_
          try dsimp only
          try dsimp only
          rcases hn12 : H.2.1 5 7 z with _ | q13
          · skip
            refine J.run0 5 rfl ?_
            try dsimp only
            exact J.reta rfl rfl rfl ⟨_, rfl, rfl, rfl, Or.inl ⟨rfl, trivial⟩⟩
          · have t14 : T 5 q13 := hI.n 5 7 5 z rfl tv4 hn12
            have f15 : 0 ≤ H.1 5 0 q13 ∧ H.1 5 0 q13 ≤ 5999 := hI.v 5 0 q13 t14
            have f16 := hI.nx tv4 hn12
            refine J.run0 2 rfl ?_
            try dsimp only
            exact ih (q13) _ (show 6000 - H.1 5 0 (q13) < _ by omega) (show 0 ≤ H.1 5 0 (q13) ∧ H.1 5 0 (q13) ≤ 5999 from ⟨by omega, by omega⟩) t14 ⟨_, rfl⟩
        · have c17 : ¬ (x9 = (0 : Int)) := hc
          clear hc
          refine J.run0 1 rfl ?_
          try dsimp only
          exact J.reta rfl rfl rfl ⟨_, rfl, rfl, rfl, Or.inr ⟨_, rfl, tv4, trivial⟩⟩
set_option maxRecDepth 20000 in
set_option maxHeartbeats 8000000 in
theorem c_X10_proposalOf {x : Nat} {round : Int} (hI : cJ F T w H) (ta0 : T 6 x) (hp0 : -2147483648 ≤ round ∧ round ≤ 2147483647) : J false (d + 2) 100 w (0, jargs 0 [.inr (some (10, F.1)), .inr (some (6, x)), .inl round], [], H) (jN fun v w' H' => w' = w ∧ H' = H ∧ ((v = some (.inr none) ∧ True) ∨ ∃ rq, v = some (.inr (some (5, rq))) ∧ T 5 rq ∧ True)) := by
  refine J.run0 2 rfl ?_
  try dsimp only
  refine J.inv rfl rfl rfl rfl rfl rfl ((jD_w rfl).mpr (hI.is ta0)) rfl rfl rfl rfl rfl (c_X6_proposerOf (a0 := x) (r := round) hI ta0 ) ?_
  rintro v w H ⟨rfl, rfl, hv⟩
  obtain ⟨x18, rfl, r19⟩ := hv
  have r19' : -1 ≤ x18 ∧ x18 ≤ 15 := r19
  try dsimp only [Option.toList, List.append, List.cons_append, List.nil_append]
  refine J.run 3 rfl ⟨(hI.is hI.top.1), (hI.o 10 1 7 F.1 rfl hI.top.1).1⟩ ?_
  try dsimp only
  try dsimp only
  rw [show (H.2.2.2.2 10 1 F.1) = F.2.2.1 from hI.one.2.2.1 _ (hI.o 10 1 7 F.1 rfl hI.top.1).2]
  refine J.run0 1 rfl ?_
  try dsimp only
  refine J.inv rfl rfl rfl rfl rfl rfl ((jD_w rfl).mpr (hI.is ta0)) rfl rfl rfl rfl rfl (c_X6_height (a0 := x) hI ta0 ) ?_
  rintro v w H ⟨rfl, rfl, hv⟩
  obtain ⟨x20, rfl, r21⟩ := hv
  have r21' : x20 = H.1 0 1 (H.2.2.2.2 6 1 x) + 1 ∧ 1 ≤ x20 ∧ x20 ≤ 300 := r21
  try dsimp only [Option.toList, List.append, List.cons_append, List.nil_append]
  refine J.run0 1 rfl ?_
  try dsimp only
  refine J.inv rfl rfl rfl rfl rfl rfl ((jD_w rfl).mpr (hI.is hI.top.2.2.1)) rfl rfl rfl rfl rfl (c_X7_firstOf (height := x20) (round := round) hI  (show -2147483648 ≤ x20 ∧ x20 ≤ 2147483647 from ⟨by omega, by omega⟩) (show -2147483648 ≤ round ∧ round ≤ 2147483647 from ⟨by omega, by omega⟩)) ?_
  rintro v w H ⟨rfl, rfl, hv⟩
  rcases hv with ⟨rfl, r24⟩ | ⟨q22, rfl, t23, r24⟩
  · skip
    try dsimp only [Option.toList, List.append, List.cons_append, List.nil_append]
    refine J.run0 4 rfl ?_
    try dsimp only
    exact J.reta rfl rfl rfl ⟨_, rfl, rfl, rfl, Or.inl ⟨rfl, trivial⟩⟩
  · skip
    try dsimp only [Option.toList, List.append, List.cons_append, List.nil_append]
    have f25 : 0 ≤ H.1 5 0 q22 ∧ H.1 5 0 q22 ≤ 5999 := hI.v 5 0 q22 t23
    refine J.run0 1 rfl ?_
    try dsimp only
    exact (c_X10_proposalOf_l0 (x := x) (round := round) hI ta0 hp0 ((6000 - H.1 5 0 (q22) : Int).toNat + 1)) (q22) _ (show 6000 - H.1 5 0 (q22) < _ by omega) (show 0 ≤ H.1 5 0 (q22) ∧ H.1 5 0 (q22) ≤ 5999 from ⟨by omega, by omega⟩) t23 ⟨_, rfl⟩
end
-- M: X10_heardFrom
section
variable {d : Nat} {F : cG} {T : cP} {w : jW} {H : jH}
set_option maxRecDepth 20000 in
set_option maxHeartbeats 8000000 in
theorem c_X10_heardFrom_l0 {x : Nat} {kind : Int} {round : Int} {block : Int} (hI : cJ F T w H) (ta0 : T 6 x) (hp0 : -2147483648 ≤ kind ∧ kind ≤ 2147483647) (hp1 : -2147483648 ≤ round ∧ round ≤ 2147483647) : ∀ (m : Nat), (∀ (z : Nat) (lv : jL), 6000 - H.1 5 0 z < (m : Int) → (0 ≤ H.1 5 0 z ∧ H.1 5 0 z ≤ 5999) → T 5 z → ((∃ j5 : Int, lv = [(6, .inr (some (5, z))), (5, .inl j5), (0, .inr (some (10, F.1))), (1, .inr (some (6, x))), (2, .inl kind), (3, .inl round), (4, .inl block)])) → J false (d + 1) 101 w (17, lv, [], H) (jN fun v w' H' => w' = w ∧ H' = H ∧ ∃ rv, v = some (.inl rv) ∧ (True))) := by
  intro m
  induction m with
  | zero =>
    skip
    · intro z lv hm hi0 tv6 hlv
      exfalso
      omega
  | succ m ih =>
    skip
    · intro z lv hm hi0 tv6 hlv
      rcases hlv with ⟨j5, rfl⟩
      refine J.run0 4 rfl ?_
      try dsimp only
      refine J.icmp rfl rfl rfl ⟨(show -2147483648 ≤ kind ∧ kind ≤ 2147483647 from ⟨by omega, by omega⟩), (show -2147483648 ≤ (-2 : Int) ∧ (-2 : Int) ≤ 2147483647 from ⟨by omega, by omega⟩)⟩ (fun hc => ?_) (fun hc => ?_)
      · have c1 : kind = (-2 : Int) := hc
        clear hc
        refine J.run0 2 rfl ?_
        try dsimp only
        refine J.icmpN rfl rfl rfl (fun hc => ?_) (fun hc => ?_)
        · have c2 : jn (block) = jn ((-2 : Int)) := hc
          clear hc
          refine J.run0 2 rfl ?_
          try dsimp only
          refine J.inv rfl rfl rfl rfl rfl rfl ((jD_w rfl).mpr (hI.is ta0)) rfl rfl rfl rfl rfl (c_X6_hasHeard (a0 := x) (m0 := z) hI ta0 tv6 ) ?_
          rintro v w H ⟨rfl, rfl, hv⟩
          obtain ⟨x3, rfl, r4⟩ := hv
          have r4' : x3 = 0 ∨ x3 = 1 := r4
          try dsimp only [Option.toList, List.append, List.cons_append, List.nil_append]
          refine J.ifc rfl rfl rfl (show -2147483648 ≤ x3 ∧ x3 ≤ 2147483647 from ⟨by omega, by omega⟩) (fun hc => ?_) (fun hc => ?_)
          · have c5 : x3 = (0 : Int) := hc
            clear hc
            refine J.run 2 rfl (hI.is tv6) ?_
            try dsimp only
            try dsimp only
            rcases hn6 : H.2.1 5 7 z with _ | q7
            · skip
              refine J.run0 5 rfl ?_
              try dsimp only
              exact J.reti rfl rfl rfl ⟨_, rfl, rfl, rfl, _, rfl, trivial⟩
            · have t8 : T 5 q7 := hI.n 5 7 5 z rfl tv6 hn6
              have f9 : 0 ≤ H.1 5 0 q7 ∧ H.1 5 0 q7 ≤ 5999 := hI.v 5 0 q7 t8
              have f10 := hI.nx tv6 hn6
              refine J.run0 2 rfl ?_
              try dsimp only
              exact ih (q7) _ (show 6000 - H.1 5 0 (q7) < _ by omega) (show 0 ≤ H.1 5 0 (q7) ∧ H.1 5 0 (q7) ≤ 5999 from ⟨by omega, by omega⟩) t8 ⟨_, rfl⟩
          · have c11 : ¬ (x3 = (0 : Int)) := hc
            clear hc
            have f12 : 0 ≤ H.1 5 2 z ∧ H.1 5 2 z ≤ 15 := hI.v 5 2 z tv6
            have f13 : -2147483648 ≤ jshl ((1 : Int)) (H.1 5 2 z) ∧ jshl ((1 : Int)) (H.1 5 2 z) ≤ 2147483647 := jI32 _
            have f14 : -2147483648 ≤ jor (j5) (jshl ((1 : Int)) (H.1 5 2 z)) ∧ jor (j5) (jshl ((1 : Int)) (H.1 5 2 z)) ≤ 2147483647 := jI32 _
            refine J.run 9 rfl ⟨(hI.is tv6), (hI.is tv6)⟩ ?_
            try dsimp only
            try dsimp only
            rcases hn15 : H.2.1 5 7 z with _ | q16
            · skip
              refine J.run0 5 rfl ?_
              try dsimp only
              exact J.reti rfl rfl rfl ⟨_, rfl, rfl, rfl, _, rfl, trivial⟩
            · have t17 : T 5 q16 := hI.n 5 7 5 z rfl tv6 hn15
              have f18 : 0 ≤ H.1 5 0 q16 ∧ H.1 5 0 q16 ≤ 5999 := hI.v 5 0 q16 t17
              have f19 := hI.nx tv6 hn15
              refine J.run0 2 rfl ?_
              try dsimp only
              exact ih (q16) _ (show 6000 - H.1 5 0 (q16) < _ by omega) (show 0 ≤ H.1 5 0 (q16) ∧ H.1 5 0 (q16) ≤ 5999 from ⟨by omega, by omega⟩) t17 ⟨_, rfl⟩
        · have c20 : ¬ (jn (block) = jn ((-2 : Int))) := hc
          clear hc
          have f21 : (-2147483648) ≤ H.1 5 5 z ∧ H.1 5 5 z ≤ 2147483647 := hI.v 5 5 z tv6
          refine J.run 3 rfl (hI.is tv6) ?_
          try dsimp only
          refine J.icmpN rfl rfl rfl (fun hc => ?_) (fun hc => ?_)
          · have c22 : ¬ (jn (H.1 5 5 z) = jn (block)) := hc
            clear hc
            refine J.run 2 rfl (hI.is tv6) ?_
            try dsimp only
            try dsimp only
            rcases hn23 : H.2.1 5 7 z with _ | q24
            · skip
              refine J.run0 5 rfl ?_
              try dsimp only
              exact J.reti rfl rfl rfl ⟨_, rfl, rfl, rfl, _, rfl, trivial⟩
            · have t25 : T 5 q24 := hI.n 5 7 5 z rfl tv6 hn23
              have f26 : 0 ≤ H.1 5 0 q24 ∧ H.1 5 0 q24 ≤ 5999 := hI.v 5 0 q24 t25
              have f27 := hI.nx tv6 hn23
              refine J.run0 2 rfl ?_
              try dsimp only
              exact ih (q24) _ (show 6000 - H.1 5 0 (q24) < _ by omega) (show 0 ≤ H.1 5 0 (q24) ∧ H.1 5 0 (q24) ≤ 5999 from ⟨by omega, by omega⟩) t25 ⟨_, rfl⟩
          · have c28 : ¬ (¬ (jn (H.1 5 5 z) = jn (block))) := hc
            clear hc
            refine J.run0 2 rfl ?_
            try dsimp only
            refine J.inv rfl rfl rfl rfl rfl rfl ((jD_w rfl).mpr (hI.is ta0)) rfl rfl rfl rfl rfl (c_X6_hasHeard (a0 := x) (m0 := z) hI ta0 tv6 ) ?_
            rintro v w H ⟨rfl, rfl, hv⟩
            obtain ⟨x29, rfl, r30⟩ := hv
            have r30' : x29 = 0 ∨ x29 = 1 := r30
            try dsimp only [Option.toList, List.append, List.cons_append, List.nil_append]
            refine J.ifc rfl rfl rfl (show -2147483648 ≤ x29 ∧ x29 ≤ 2147483647 from ⟨by omega, by omega⟩) (fun hc => ?_) (fun hc => ?_)
            · have c31 : x29 = (0 : Int) := hc
              clear hc
              refine J.run 2 rfl (hI.is tv6) ?_
              try dsimp only
              try dsimp only
              rcases hn32 : H.2.1 5 7 z with _ | q33
              · skip
                refine J.run0 5 rfl ?_
                try dsimp only
                exact J.reti rfl rfl rfl ⟨_, rfl, rfl, rfl, _, rfl, trivial⟩
              · have t34 : T 5 q33 := hI.n 5 7 5 z rfl tv6 hn32
                have f35 : 0 ≤ H.1 5 0 q33 ∧ H.1 5 0 q33 ≤ 5999 := hI.v 5 0 q33 t34
                have f36 := hI.nx tv6 hn32
                refine J.run0 2 rfl ?_
                try dsimp only
                exact ih (q33) _ (show 6000 - H.1 5 0 (q33) < _ by omega) (show 0 ≤ H.1 5 0 (q33) ∧ H.1 5 0 (q33) ≤ 5999 from ⟨by omega, by omega⟩) t34 ⟨_, rfl⟩
            · have c37 : ¬ (x29 = (0 : Int)) := hc
              clear hc
              have f38 : 0 ≤ H.1 5 2 z ∧ H.1 5 2 z ≤ 15 := hI.v 5 2 z tv6
              have f39 : -2147483648 ≤ jshl ((1 : Int)) (H.1 5 2 z) ∧ jshl ((1 : Int)) (H.1 5 2 z) ≤ 2147483647 := jI32 _
              have f40 : -2147483648 ≤ jor (j5) (jshl ((1 : Int)) (H.1 5 2 z)) ∧ jor (j5) (jshl ((1 : Int)) (H.1 5 2 z)) ≤ 2147483647 := jI32 _
              refine J.run 9 rfl ⟨(hI.is tv6), (hI.is tv6)⟩ ?_
              try dsimp only
              try dsimp only
              rcases hn41 : H.2.1 5 7 z with _ | q42
              · skip
                refine J.run0 5 rfl ?_
                try dsimp only
                exact J.reti rfl rfl rfl ⟨_, rfl, rfl, rfl, _, rfl, trivial⟩
              · have t43 : T 5 q42 := hI.n 5 7 5 z rfl tv6 hn41
                have f44 : 0 ≤ H.1 5 0 q42 ∧ H.1 5 0 q42 ≤ 5999 := hI.v 5 0 q42 t43
                have f45 := hI.nx tv6 hn41
                refine J.run0 2 rfl ?_
                try dsimp only
                exact ih (q42) _ (show 6000 - H.1 5 0 (q42) < _ by omega) (show 0 ≤ H.1 5 0 (q42) ∧ H.1 5 0 (q42) ≤ 5999 from ⟨by omega, by omega⟩) t43 ⟨_, rfl⟩
      · have c46 : ¬ (kind = (-2 : Int)) := hc
        clear hc
        refine J.run 3 rfl (hI.is tv6) ?_
        try dsimp only
        refine J.icmpN rfl rfl rfl (fun hc => ?_) (fun hc => ?_)
        · have c47 : ¬ (jn (H.1 5 1 z) = jn (kind)) := hc
          clear hc
          refine J.run 2 rfl (hI.is tv6) ?_
          try dsimp only
          try dsimp only
          rcases hn48 : H.2.1 5 7 z with _ | q49
          · skip
            refine J.run0 5 rfl ?_
            try dsimp only
            exact J.reti rfl rfl rfl ⟨_, rfl, rfl, rfl, _, rfl, trivial⟩
          · have t50 : T 5 q49 := hI.n 5 7 5 z rfl tv6 hn48
            have f51 : 0 ≤ H.1 5 0 q49 ∧ H.1 5 0 q49 ≤ 5999 := hI.v 5 0 q49 t50
            have f52 := hI.nx tv6 hn48
            refine J.run0 2 rfl ?_
            try dsimp only
            exact ih (q49) _ (show 6000 - H.1 5 0 (q49) < _ by omega) (show 0 ≤ H.1 5 0 (q49) ∧ H.1 5 0 (q49) ≤ 5999 from ⟨by omega, by omega⟩) t50 ⟨_, rfl⟩
        · have c53 : ¬ (¬ (jn (H.1 5 1 z) = jn (kind))) := hc
          clear hc
          refine J.run0 2 rfl ?_
          try dsimp only
          refine J.icmpN rfl rfl rfl (fun hc => ?_) (fun hc => ?_)
          · have c54 : jn (block) = jn ((-2 : Int)) := hc
            clear hc
            refine J.run0 2 rfl ?_
            try dsimp only
            refine J.inv rfl rfl rfl rfl rfl rfl ((jD_w rfl).mpr (hI.is ta0)) rfl rfl rfl rfl rfl (c_X6_hasHeard (a0 := x) (m0 := z) hI ta0 tv6 ) ?_
            rintro v w H ⟨rfl, rfl, hv⟩
            obtain ⟨x55, rfl, r56⟩ := hv
            have r56' : x55 = 0 ∨ x55 = 1 := r56
            try dsimp only [Option.toList, List.append, List.cons_append, List.nil_append]
            refine J.ifc rfl rfl rfl (show -2147483648 ≤ x55 ∧ x55 ≤ 2147483647 from ⟨by omega, by omega⟩) (fun hc => ?_) (fun hc => ?_)
            · have c57 : x55 = (0 : Int) := hc
              clear hc
              refine J.run 2 rfl (hI.is tv6) ?_
              try dsimp only
              try dsimp only
              rcases hn58 : H.2.1 5 7 z with _ | q59
              · skip
                refine J.run0 5 rfl ?_
                try dsimp only
                exact J.reti rfl rfl rfl ⟨_, rfl, rfl, rfl, _, rfl, trivial⟩
              · have t60 : T 5 q59 := hI.n 5 7 5 z rfl tv6 hn58
                have f61 : 0 ≤ H.1 5 0 q59 ∧ H.1 5 0 q59 ≤ 5999 := hI.v 5 0 q59 t60
                have f62 := hI.nx tv6 hn58
                refine J.run0 2 rfl ?_
                try dsimp only
                exact ih (q59) _ (show 6000 - H.1 5 0 (q59) < _ by omega) (show 0 ≤ H.1 5 0 (q59) ∧ H.1 5 0 (q59) ≤ 5999 from ⟨by omega, by omega⟩) t60 ⟨_, rfl⟩
            · have c63 : ¬ (x55 = (0 : Int)) := hc
              clear hc
              have f64 : 0 ≤ H.1 5 2 z ∧ H.1 5 2 z ≤ 15 := hI.v 5 2 z tv6
              have f65 : -2147483648 ≤ jshl ((1 : Int)) (H.1 5 2 z) ∧ jshl ((1 : Int)) (H.1 5 2 z) ≤ 2147483647 := jI32 _
              have f66 : -2147483648 ≤ jor (j5) (jshl ((1 : Int)) (H.1 5 2 z)) ∧ jor (j5) (jshl ((1 : Int)) (H.1 5 2 z)) ≤ 2147483647 := jI32 _
              refine J.run 9 rfl ⟨(hI.is tv6), (hI.is tv6)⟩ ?_
              try dsimp only
              try dsimp only
              rcases hn67 : H.2.1 5 7 z with _ | q68
              · skip
                refine J.run0 5 rfl ?_
                try dsimp only
                exact J.reti rfl rfl rfl ⟨_, rfl, rfl, rfl, _, rfl, trivial⟩
              · have t69 : T 5 q68 := hI.n 5 7 5 z rfl tv6 hn67
                have f70 : 0 ≤ H.1 5 0 q68 ∧ H.1 5 0 q68 ≤ 5999 := hI.v 5 0 q68 t69
                have f71 := hI.nx tv6 hn67
                refine J.run0 2 rfl ?_
                try dsimp only
                exact ih (q68) _ (show 6000 - H.1 5 0 (q68) < _ by omega) (show 0 ≤ H.1 5 0 (q68) ∧ H.1 5 0 (q68) ≤ 5999 from ⟨by omega, by omega⟩) t69 ⟨_, rfl⟩
          · have c72 : ¬ (jn (block) = jn ((-2 : Int))) := hc
            clear hc
            have f73 : (-2147483648) ≤ H.1 5 5 z ∧ H.1 5 5 z ≤ 2147483647 := hI.v 5 5 z tv6
            refine J.run 3 rfl (hI.is tv6) ?_
            try dsimp only
            refine J.icmpN rfl rfl rfl (fun hc => ?_) (fun hc => ?_)
            · have c74 : ¬ (jn (H.1 5 5 z) = jn (block)) := hc
              clear hc
              refine J.run 2 rfl (hI.is tv6) ?_
              try dsimp only
              try dsimp only
              rcases hn75 : H.2.1 5 7 z with _ | q76
              · skip
                refine J.run0 5 rfl ?_
                try dsimp only
                exact J.reti rfl rfl rfl ⟨_, rfl, rfl, rfl, _, rfl, trivial⟩
              · have t77 : T 5 q76 := hI.n 5 7 5 z rfl tv6 hn75
                have f78 : 0 ≤ H.1 5 0 q76 ∧ H.1 5 0 q76 ≤ 5999 := hI.v 5 0 q76 t77
                have f79 := hI.nx tv6 hn75
                refine J.run0 2 rfl ?_
                try dsimp only
                exact ih (q76) _ (show 6000 - H.1 5 0 (q76) < _ by omega) (show 0 ≤ H.1 5 0 (q76) ∧ H.1 5 0 (q76) ≤ 5999 from ⟨by omega, by omega⟩) t77 ⟨_, rfl⟩
            · have c80 : ¬ (¬ (jn (H.1 5 5 z) = jn (block))) := hc
              clear hc
              refine J.run0 2 rfl ?_
              try dsimp only
              refine J.inv rfl rfl rfl rfl rfl rfl ((jD_w rfl).mpr (hI.is ta0)) rfl rfl rfl rfl rfl (c_X6_hasHeard (a0 := x) (m0 := z) hI ta0 tv6 ) ?_
              rintro v w H ⟨rfl, rfl, hv⟩
              obtain ⟨x81, rfl, r82⟩ := hv
              have r82' : x81 = 0 ∨ x81 = 1 := r82
              try dsimp only [Option.toList, List.append, List.cons_append, List.nil_append]
              refine J.ifc rfl rfl rfl (show -2147483648 ≤ x81 ∧ x81 ≤ 2147483647 from ⟨by omega, by omega⟩) (fun hc => ?_) (fun hc => ?_)
              · have c83 : x81 = (0 : Int) := hc
                clear hc
                refine J.run 2 rfl (hI.is tv6) ?_
                try dsimp only
                try dsimp only
                rcases hn84 : H.2.1 5 7 z with _ | q85
                · skip
                  refine J.run0 5 rfl ?_
                  try dsimp only
                  exact J.reti rfl rfl rfl ⟨_, rfl, rfl, rfl, _, rfl, trivial⟩
                · have t86 : T 5 q85 := hI.n 5 7 5 z rfl tv6 hn84
                  have f87 : 0 ≤ H.1 5 0 q85 ∧ H.1 5 0 q85 ≤ 5999 := hI.v 5 0 q85 t86
                  have f88 := hI.nx tv6 hn84
                  refine J.run0 2 rfl ?_
                  try dsimp only
                  exact ih (q85) _ (show 6000 - H.1 5 0 (q85) < _ by omega) (show 0 ≤ H.1 5 0 (q85) ∧ H.1 5 0 (q85) ≤ 5999 from ⟨by omega, by omega⟩) t86 ⟨_, rfl⟩
              · have c89 : ¬ (x81 = (0 : Int)) := hc
                clear hc
                have f90 : 0 ≤ H.1 5 2 z ∧ H.1 5 2 z ≤ 15 := hI.v 5 2 z tv6
                have f91 : -2147483648 ≤ jshl ((1 : Int)) (H.1 5 2 z) ∧ jshl ((1 : Int)) (H.1 5 2 z) ≤ 2147483647 := jI32 _
                have f92 : -2147483648 ≤ jor (j5) (jshl ((1 : Int)) (H.1 5 2 z)) ∧ jor (j5) (jshl ((1 : Int)) (H.1 5 2 z)) ≤ 2147483647 := jI32 _
                refine J.run 9 rfl ⟨(hI.is tv6), (hI.is tv6)⟩ ?_
                try dsimp only
                try dsimp only
                rcases hn93 : H.2.1 5 7 z with _ | q94
                · skip
                  refine J.run0 5 rfl ?_
                  try dsimp only
                  exact J.reti rfl rfl rfl ⟨_, rfl, rfl, rfl, _, rfl, trivial⟩
                · have t95 : T 5 q94 := hI.n 5 7 5 z rfl tv6 hn93
                  have f96 : 0 ≤ H.1 5 0 q94 ∧ H.1 5 0 q94 ≤ 5999 := hI.v 5 0 q94 t95
                  have f97 := hI.nx tv6 hn93
                  refine J.run0 2 rfl ?_
                  try dsimp only
                  exact ih (q94) _ (show 6000 - H.1 5 0 (q94) < _ by omega) (show 0 ≤ H.1 5 0 (q94) ∧ H.1 5 0 (q94) ≤ 5999 from ⟨by omega, by omega⟩) t95 ⟨_, rfl⟩
set_option maxRecDepth 20000 in
set_option maxHeartbeats 8000000 in
theorem c_X10_heardFrom {x : Nat} {kind : Int} {round : Int} {block : Int} (hI : cJ F T w H) (ta0 : T 6 x) (hp0 : -2147483648 ≤ kind ∧ kind ≤ 2147483647) (hp1 : -2147483648 ≤ round ∧ round ≤ 2147483647) : J false (d + 1) 101 w (0, jargs 0 [.inr (some (10, F.1)), .inr (some (6, x)), .inl kind, .inl round, .inl block], [], H) (jN fun v w' H' => w' = w ∧ H' = H ∧ ∃ rv, v = some (.inl rv) ∧ (True)) := by
  refine J.run 4 rfl ⟨(hI.is hI.top.1), (hI.o 10 1 7 F.1 rfl hI.top.1).1⟩ ?_
  try dsimp only
  try dsimp only
  rw [show (H.2.2.2.2 10 1 F.1) = F.2.2.1 from hI.one.2.2.1 _ (hI.o 10 1 7 F.1 rfl hI.top.1).2]
  refine J.run0 1 rfl ?_
  try dsimp only
  refine J.inv rfl rfl rfl rfl rfl rfl ((jD_w rfl).mpr (hI.is ta0)) rfl rfl rfl rfl rfl (c_X6_height (a0 := x) hI ta0 ) ?_
  rintro v w H ⟨rfl, rfl, hv⟩
  obtain ⟨x98, rfl, r99⟩ := hv
  have r99' : x98 = H.1 0 1 (H.2.2.2.2 6 1 x) + 1 ∧ 1 ≤ x98 ∧ x98 ≤ 300 := r99
  try dsimp only [Option.toList, List.append, List.cons_append, List.nil_append]
  refine J.run0 1 rfl ?_
  try dsimp only
  refine J.inv rfl rfl rfl rfl rfl rfl ((jD_w rfl).mpr (hI.is hI.top.2.2.1)) rfl rfl rfl rfl rfl (c_X7_firstOf (height := x98) (round := round) hI  (show -2147483648 ≤ x98 ∧ x98 ≤ 2147483647 from ⟨by omega, by omega⟩) (show -2147483648 ≤ round ∧ round ≤ 2147483647 from ⟨by omega, by omega⟩)) ?_
  rintro v w H ⟨rfl, rfl, hv⟩
  rcases hv with ⟨rfl, r102⟩ | ⟨q100, rfl, t101, r102⟩
  · skip
    try dsimp only [Option.toList, List.append, List.cons_append, List.nil_append]
    refine J.run0 4 rfl ?_
    try dsimp only
    exact J.reti rfl rfl rfl ⟨_, rfl, rfl, rfl, _, rfl, trivial⟩
  · skip
    try dsimp only [Option.toList, List.append, List.cons_append, List.nil_append]
    have f103 : 0 ≤ H.1 5 0 q100 ∧ H.1 5 0 q100 ≤ 5999 := hI.v 5 0 q100 t101
    refine J.run0 1 rfl ?_
    try dsimp only
    exact (c_X10_heardFrom_l0 (x := x) (kind := kind) (round := round) (block := block) hI ta0 hp0 hp1 ((6000 - H.1 5 0 (q100) : Int).toNat + 1)) (q100) _ (show 6000 - H.1 5 0 (q100) < _ by omega) (show 0 ≤ H.1 5 0 (q100) ∧ H.1 5 0 (q100) ≤ 5999 from ⟨by omega, by omega⟩) t101 ⟨_, rfl⟩
end
-- M: X10_isCertified
section
variable {d : Nat} {F : cG} {T : cP} {w : jW} {H : jH}
set_option maxRecDepth 20000 in
set_option maxHeartbeats 8000000 in
theorem c_X10_isCertified_l0 {b : Nat} {x : Nat} (hI : cJ F T w H) (ta0 : T 0 b) (ta1 : T 6 x)  : ∀ (m : Nat), (∀ (k : Int) (lv : jL), 32 - k < (m : Int) → (0 ≤ k ∧ k ≤ 32) → ((lv = [(3, .inl k), (0, .inr (some (10, F.1))), (1, .inr (some (0, b))), (2, .inr (some (6, x)))])) → J false (d + 3) 102 w (2, lv, [], H) (jN fun v w' H' => w' = w ∧ H' = H ∧ ∃ rv, v = some (.inl rv) ∧ (rv = 0 ∨ rv = 1))) := by
  intro m
  induction m with
  | zero =>
    skip
    · intro k lv hm hi0 hlv
      exfalso
      omega
  | succ m ih =>
    skip
    · intro k lv hm hi0 hlv
      rcases hlv with rfl
      refine J.run0 2 rfl ?_
      try dsimp only
      refine J.icmp rfl rfl rfl ⟨(show -2147483648 ≤ k ∧ k ≤ 2147483647 from ⟨by omega, by omega⟩), (show -2147483648 ≤ (32 : Int) ∧ (32 : Int) ≤ 2147483647 from ⟨by omega, by omega⟩)⟩ (fun hc => ?_) (fun hc => ?_)
      · have c1 : (32 : Int) ≤ k := hc
        clear hc
        refine J.run0 1 rfl ?_
        try dsimp only
        exact J.retb rfl rfl rfl (show (0 : Int) = 0 ∨ (0 : Int) = 1 by omega) ⟨_, rfl, rfl, rfl, _, rfl, (show ((0 : Int)) = 0 ∨ ((0 : Int)) = 1 from by omega)⟩
      · have c2 : ¬ ((32 : Int) ≤ k) := hc
        clear hc
        refine J.run 3 rfl ⟨(hI.is hI.top.1), (hI.o 10 1 7 F.1 rfl hI.top.1).1⟩ ?_
        try dsimp only
        try dsimp only
        rw [show (H.2.2.2.2 10 1 F.1) = F.2.2.1 from hI.one.2.2.1 _ (hI.o 10 1 7 F.1 rfl hI.top.1).2]
        refine J.run0 2 rfl ?_
        try dsimp only
        refine J.inv rfl rfl rfl rfl rfl rfl ((jD_w rfl).mpr (hI.is hI.top.2.2.1)) rfl rfl rfl rfl rfl (c_X7_precommittersOf (b := b) (round := k) hI ta0 (show -2147483648 ≤ k ∧ k ≤ 2147483647 from ⟨by omega, by omega⟩)) ?_
        rintro v w H ⟨rfl, rfl, hv⟩
        obtain ⟨x3, rfl, r4⟩ := hv
        try dsimp only [Option.toList, List.append, List.cons_append, List.nil_append]
        refine J.inv rfl rfl rfl rfl rfl rfl ((jD_w rfl).mpr (hI.is ta1)) rfl rfl rfl rfl rfl (c_X6_isMost (a0 := x) (bits := x3) hI ta1 ) ?_
        rintro v w H ⟨rfl, rfl, hv⟩
        obtain ⟨x5, rfl, r6⟩ := hv
        have r6' : x5 = 0 ∨ x5 = 1 := r6
        try dsimp only [Option.toList, List.append, List.cons_append, List.nil_append]
        refine J.ifc rfl rfl rfl (show -2147483648 ≤ x5 ∧ x5 ≤ 2147483647 from ⟨by omega, by omega⟩) (fun hc => ?_) (fun hc => ?_)
        · have c7 : x5 = (0 : Int) := hc
          clear hc
          refine J.run0 2 rfl ?_
          try dsimp only
          exact ih (k + 1) _ (show 32 - (k + 1) < _ by omega) (show 0 ≤ (k + 1) ∧ (k + 1) ≤ 32 from ⟨by omega, by omega⟩)  rfl
        · have c8 : ¬ (x5 = (0 : Int)) := hc
          clear hc
          refine J.run0 1 rfl ?_
          try dsimp only
          exact J.retb rfl rfl rfl (show (1 : Int) = 0 ∨ (1 : Int) = 1 by omega) ⟨_, rfl, rfl, rfl, _, rfl, (show ((1 : Int)) = 0 ∨ ((1 : Int)) = 1 from by omega)⟩
set_option maxRecDepth 20000 in
set_option maxHeartbeats 8000000 in
theorem c_X10_isCertified {b : Nat} {x : Nat} (hI : cJ F T w H) (ta0 : T 0 b) (ta1 : T 6 x)  : J false (d + 3) 102 w (0, jargs 0 [.inr (some (10, F.1)), .inr (some (0, b)), .inr (some (6, x))], [], H) (jN fun v w' H' => w' = w ∧ H' = H ∧ ∃ rv, v = some (.inl rv) ∧ (rv = 0 ∨ rv = 1)) := by
  refine J.run0 2 rfl ?_
  try dsimp only
  exact (c_X10_isCertified_l0 (b := b) (x := x) hI ta0 ta1  ((32 - ((0 : Int)) : Int).toNat + 1)) ((0 : Int)) _ (show 32 - ((0 : Int)) < _ by omega) (show 0 ≤ ((0 : Int)) ∧ ((0 : Int)) ≤ 32 from ⟨by omega, by omega⟩)  rfl
end
