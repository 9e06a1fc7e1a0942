-- M: X3_get
section
variable {d : Nat} {F : cG} {T : cP} {w : jW} {H : jH}
set_option maxRecDepth 20000 in
set_option maxHeartbeats 8000000 in
theorem c_X3_get {b : Int} (hI : cJ F T w H)  (hp0 : -2147483648 ≤ b ∧ b ≤ 2147483647) : J false d 13 w (0, jargs 0 [.inr (some (3, F.2.1)), .inl b], [], H) (jN fun v w' H' => w' = w ∧ H' = H ∧ ((v = some (.inr none) ∧ True) ∨ ∃ rq, v = some (.inr (some (0, rq))) ∧ T 0 rq ∧ True)) := by
  refine J.run0 1 rfl ?_
  try dsimp only
  refine J.ifc rfl rfl rfl (show -2147483648 ≤ b ∧ b ≤ 2147483647 from ⟨by omega, by omega⟩) (fun hc => ?_) (fun hc => ?_)
  · have c1 : b < (0 : Int) := hc
    clear hc
    refine J.run0 2 rfl ?_
    try dsimp only
    exact J.reta rfl rfl rfl ⟨_, rfl, rfl, rfl, Or.inl ⟨rfl, trivial⟩⟩
  · have c2 : ¬ (b < (0 : Int)) := hc
    clear hc
    have f3 : 1 ≤ H.1 3 1 F.2.1 ∧ H.1 3 1 F.2.1 ≤ 300 := hI.v 3 1 F.2.1 hI.top.2.1
    refine J.run 3 rfl (hI.is hI.top.2.1) ?_
    try dsimp only
    refine J.icmp rfl rfl rfl ⟨(show -2147483648 ≤ b ∧ b ≤ 2147483647 from ⟨by omega, by omega⟩), (show -2147483648 ≤ H.1 3 1 F.2.1 ∧ H.1 3 1 F.2.1 ≤ 2147483647 from ⟨by omega, by omega⟩)⟩ (fun hc => ?_) (fun hc => ?_)
    · have c4 : b < H.1 3 1 F.2.1 := hc
      clear hc
      refine J.run 4 rfl ⟨⟨(hI.is hI.top.2.1), hI.is (hI.r 3 0 21 F.2.1 rfl hI.top.2.1)⟩, (show w.1 21 F.2.1 ∧ 0 ≤ b ∧ b < 300 from ⟨hI.is (hI.r 3 0 21 F.2.1 rfl hI.top.2.1), by omega, by omega⟩)⟩ ?_
      try dsimp only
      try dsimp only
      rcases hn5 : H.2.2.2.1 21 F.2.1 (b) with _ | q6
      · skip
        exact J.reta rfl rfl rfl ⟨_, rfl, rfl, rfl, Or.inl ⟨rfl, trivial⟩⟩
      · have t7 : T 0 q6 := hI.a 21 F.2.1 rfl (hI.r 3 0 21 F.2.1 rfl hI.top.2.1) hn5
        have f8 : 0 ≤ H.1 0 1 q6 ∧ H.1 0 1 q6 ≤ 299 := hI.v 0 1 q6 t7
        exact J.reta rfl rfl rfl ⟨_, rfl, rfl, rfl, Or.inr ⟨_, rfl, t7, trivial⟩⟩
    · have c9 : ¬ (b < H.1 3 1 F.2.1) := hc
      clear hc
      refine J.run0 2 rfl ?_
      try dsimp only
      exact J.reta rfl rfl rfl ⟨_, rfl, rfl, rfl, Or.inl ⟨rfl, trivial⟩⟩
end
-- M: X3_isTransactionOrNone
section
variable {d : Nat} {F : cG} {T : cP} {w : jW} {H : jH}
set_option maxRecDepth 20000 in
set_option maxHeartbeats 8000000 in
theorem c_X3_isTransactionOrNone {t : Int} (hI : cJ F T w H)  (hp0 : -2147483648 ≤ t ∧ t ≤ 2147483647) : J false d 14 w (0, jargs 0 [.inr (some (3, F.2.1)), .inl t], [], H) (jN fun v w' H' => w' = w ∧ H' = H ∧ ∃ rv, v = some (.inl rv) ∧ ((rv = 0 ∨ rv = 1) ∧ (rv = 1 → -1 ≤ t ∧ t < H.1 3 3 F.2.1 ∧ t ≤ 1499))) := by
  refine J.run0 2 rfl ?_
  try dsimp only
  refine J.icmp rfl rfl rfl ⟨(show -2147483648 ≤ t ∧ t ≤ 2147483647 from ⟨by omega, by omega⟩), (show -2147483648 ≤ (-1 : Int) ∧ (-1 : Int) ≤ 2147483647 from ⟨by omega, by omega⟩)⟩ (fun hc => ?_) (fun hc => ?_)
  · have c1 : t < (-1 : Int) := hc
    clear hc
    refine J.run0 1 rfl ?_
    try dsimp only
    exact J.retb rfl rfl rfl (show (0 : Int) = 0 ∨ (0 : Int) = 1 by omega) ⟨_, rfl, rfl, rfl, _, rfl, (show (((0 : Int)) = 0 ∨ ((0 : Int)) = 1) ∧ (((0 : Int)) = 1 → -1 ≤ t ∧ t < H.1 3 3 F.2.1 ∧ t ≤ 1499) from ⟨by omega, by omega⟩)⟩
  · have c2 : ¬ (t < (-1 : Int)) := hc
    clear hc
    have f3 : 0 ≤ H.1 3 3 F.2.1 ∧ H.1 3 3 F.2.1 ≤ 1500 := hI.v 3 3 F.2.1 hI.top.2.1
    refine J.run 3 rfl (hI.is hI.top.2.1) ?_
    try dsimp only
    refine J.icmp rfl rfl rfl ⟨(show -2147483648 ≤ t ∧ t ≤ 2147483647 from ⟨by omega, by omega⟩), (show -2147483648 ≤ H.1 3 3 F.2.1 ∧ H.1 3 3 F.2.1 ≤ 2147483647 from ⟨by omega, by omega⟩)⟩ (fun hc => ?_) (fun hc => ?_)
    · have c4 : H.1 3 3 F.2.1 ≤ t := hc
      clear hc
      refine J.run0 1 rfl ?_
      try dsimp only
      exact J.retb rfl rfl rfl (show (0 : Int) = 0 ∨ (0 : Int) = 1 by omega) ⟨_, rfl, rfl, rfl, _, rfl, (show (((0 : Int)) = 0 ∨ ((0 : Int)) = 1) ∧ (((0 : Int)) = 1 → -1 ≤ t ∧ t < H.1 3 3 F.2.1 ∧ t ≤ 1499) from ⟨by omega, by omega⟩)⟩
    · have c5 : ¬ (H.1 3 3 F.2.1 ≤ t) := hc
      clear hc
      refine J.run0 2 rfl ?_
      try dsimp only
      exact J.retb rfl rfl rfl (show (1 : Int) = 0 ∨ (1 : Int) = 1 by omega) ⟨_, rfl, rfl, rfl, _, rfl, (show (((1 : Int)) = 0 ∨ ((1 : Int)) = 1) ∧ (((1 : Int)) = 1 → -1 ≤ t ∧ t < H.1 3 3 F.2.1 ∧ t ≤ 1499) from ⟨by omega, by omega⟩)⟩
end
-- M: X7_isFull
section
variable {d : Nat} {F : cG} {T : cP} {w : jW} {H : jH}
set_option maxRecDepth 20000 in
set_option maxHeartbeats 8000000 in
theorem c_X7_isFull  (hI : cJ F T w H)   : J false d 46 w (0, jargs 0 [.inr (some (7, F.2.2.1))], [], H) (jN fun v w' H' => w' = w ∧ H' = H ∧ ∃ rv, v = some (.inl rv) ∧ ((rv = 0 ∨ rv = 1) ∧ (rv = 0 → H.1 7 4 F.2.2.1 < 6000))) := by
  have f1 : 0 ≤ H.1 7 4 F.2.2.1 ∧ H.1 7 4 F.2.2.1 ≤ 6000 := hI.v 7 4 F.2.2.1 hI.top.2.2.1
  refine J.run 3 rfl (hI.is hI.top.2.2.1) ?_
  try dsimp only
  refine J.icmp rfl rfl rfl ⟨(show -2147483648 ≤ H.1 7 4 F.2.2.1 ∧ H.1 7 4 F.2.2.1 ≤ 2147483647 from ⟨by omega, by omega⟩), (show -2147483648 ≤ (6000 : Int) ∧ (6000 : Int) ≤ 2147483647 from ⟨by omega, by omega⟩)⟩ (fun hc => ?_) (fun hc => ?_)
  · have c2 : H.1 7 4 F.2.2.1 < (6000 : Int) := hc
    clear hc
    refine J.run0 1 rfl ?_
    try dsimp only
    exact J.retb rfl rfl rfl (show (0 : Int) = 0 ∨ (0 : Int) = 1 by omega) ⟨_, rfl, rfl, rfl, _, rfl, (show (((0 : Int)) = 0 ∨ ((0 : Int)) = 1) ∧ (((0 : Int)) = 0 → H.1 7 4 F.2.2.1 < 6000) from ⟨by omega, by omega⟩)⟩
  · have c3 : ¬ (H.1 7 4 F.2.2.1 < (6000 : Int)) := hc
    clear hc
    refine J.run0 2 rfl ?_
    try dsimp only
    exact J.retb rfl rfl rfl (show (1 : Int) = 0 ∨ (1 : Int) = 1 by omega) ⟨_, rfl, rfl, rfl, _, rfl, (show (((1 : Int)) = 0 ∨ ((1 : Int)) = 1) ∧ (((1 : Int)) = 0 → H.1 7 4 F.2.2.1 < 6000) from ⟨by omega, by omega⟩)⟩
end
-- M: X7_get
section
variable {d : Nat} {F : cG} {T : cP} {w : jW} {H : jH}
set_option maxRecDepth 20000 in
set_option maxHeartbeats 8000000 in
theorem c_X7_get {m0 : Int} (hI : cJ F T w H)  (hp0 : -2147483648 ≤ m0 ∧ m0 ≤ 2147483647) : J false d 47 w (0, jargs 0 [.inr (some (7, F.2.2.1)), .inl m0], [], H) (jN fun v w' H' => w' = w ∧ H' = H ∧ ((v = some (.inr none) ∧ (0 ≤ m0 → m0 < H.1 7 4 F.2.2.1 → H.2.2.2.1 28 F.2.2.1 (m0) = none)) ∨ ∃ rq, v = some (.inr (some (5, rq))) ∧ T 5 rq ∧ (0 ≤ m0 ∧ m0 < H.1 7 4 F.2.2.1 ∧ H.2.2.2.1 28 F.2.2.1 (m0) = some rq))) := by
  refine J.run0 1 rfl ?_
  try dsimp only
  refine J.ifc rfl rfl rfl (show -2147483648 ≤ m0 ∧ m0 ≤ 2147483647 from ⟨by omega, by omega⟩) (fun hc => ?_) (fun hc => ?_)
  · have c1 : m0 < (0 : Int) := hc
    clear hc
    refine J.run0 2 rfl ?_
    try dsimp only
    exact J.reta rfl rfl rfl ⟨_, rfl, rfl, rfl, Or.inl ⟨rfl, (by first | assumption | (intro a b; first | rfl | assumption | (exfalso; omega)))⟩⟩
  · have c2 : ¬ (m0 < (0 : Int)) := hc
    clear hc
    have f3 : 0 ≤ H.1 7 4 F.2.2.1 ∧ H.1 7 4 F.2.2.1 ≤ 6000 := hI.v 7 4 F.2.2.1 hI.top.2.2.1
    refine J.run 3 rfl (hI.is hI.top.2.2.1) ?_
    try dsimp only
    refine J.icmp rfl rfl rfl ⟨(show -2147483648 ≤ m0 ∧ m0 ≤ 2147483647 from ⟨by omega, by omega⟩), (show -2147483648 ≤ H.1 7 4 F.2.2.1 ∧ H.1 7 4 F.2.2.1 ≤ 2147483647 from ⟨by omega, by omega⟩)⟩ (fun hc => ?_) (fun hc => ?_)
    · have c4 : m0 < H.1 7 4 F.2.2.1 := hc
      clear hc
      refine J.run 4 rfl ⟨⟨(hI.is hI.top.2.2.1), hI.is (hI.r 7 0 28 F.2.2.1 rfl hI.top.2.2.1)⟩, (show w.1 28 F.2.2.1 ∧ 0 ≤ m0 ∧ m0 < 6000 from ⟨hI.is (hI.r 7 0 28 F.2.2.1 rfl hI.top.2.2.1), by omega, by omega⟩)⟩ ?_
      try dsimp only
      try dsimp only
      rcases hn5 : H.2.2.2.1 28 F.2.2.1 (m0) with _ | q6
      · skip
        exact J.reta rfl rfl rfl ⟨_, rfl, rfl, rfl, Or.inl ⟨rfl, (by first | assumption | (intro a b; first | rfl | assumption | (exfalso; omega)))⟩⟩
      · have t7 : T 5 q6 := hI.a 28 F.2.2.1 rfl (hI.r 7 0 28 F.2.2.1 rfl hI.top.2.2.1) hn5
        have f8 : 0 ≤ H.1 5 0 q6 ∧ H.1 5 0 q6 ≤ 5999 := hI.v 5 0 q6 t7
        exact J.reta rfl rfl rfl ⟨_, rfl, rfl, rfl, Or.inr ⟨_, rfl, t7, ⟨by omega, by omega, by first | rfl | assumption⟩⟩⟩
    · have c9 : ¬ (m0 < H.1 7 4 F.2.2.1) := hc
      clear hc
      refine J.run0 2 rfl ?_
      try dsimp only
      exact J.reta rfl rfl rfl ⟨_, rfl, rfl, rfl, Or.inl ⟨rfl, (by first | assumption | (intro a b; first | rfl | assumption | (exfalso; omega)))⟩⟩
end
-- M: X7_firstOf
section
variable {d : Nat} {F : cG} {T : cP} {w : jW} {H : jH}
set_option maxRecDepth 20000 in
set_option maxHeartbeats 8000000 in
theorem c_X7_firstOf {height : Int} {round : Int} (hI : cJ F T w H)  (hp0 : -2147483648 ≤ height ∧ height ≤ 2147483647) (hp1 : -2147483648 ≤ round ∧ round ≤ 2147483647) : J false d 48 w (0, jargs 0 [.inr (some (7, F.2.2.1)), .inl height, .inl round], [], H) (jN fun v w' H' => w' = w ∧ H' = H ∧ ((v = some (.inr none) ∧ True) ∨ ∃ rq, v = some (.inr (some (5, rq))) ∧ T 5 rq ∧ True)) := by
  refine J.run0 1 rfl ?_
  try dsimp only
  refine J.ifc rfl rfl rfl (show -2147483648 ≤ height ∧ height ≤ 2147483647 from ⟨by omega, by omega⟩) (fun hc => ?_) (fun hc => ?_)
  · have c1 : height < (0 : Int) := hc
    clear hc
    refine J.run0 1 rfl ?_
    try dsimp only
    exact J.reta rfl rfl rfl ⟨_, rfl, rfl, rfl, Or.inl ⟨rfl, trivial⟩⟩
  · have c2 : ¬ (height < (0 : Int)) := hc
    clear hc
    refine J.run0 2 rfl ?_
    try dsimp only
    refine J.icmp rfl rfl rfl ⟨(show -2147483648 ≤ height ∧ height ≤ 2147483647 from ⟨by omega, by omega⟩), (show -2147483648 ≤ (120 : Int) ∧ (120 : Int) ≤ 2147483647 from ⟨by omega, by omega⟩)⟩ (fun hc => ?_) (fun hc => ?_)
    · have c3 : (120 : Int) < height := hc
      clear hc
      refine J.run0 1 rfl ?_
      try dsimp only
      exact J.reta rfl rfl rfl ⟨_, rfl, rfl, rfl, Or.inl ⟨rfl, trivial⟩⟩
    · have c4 : ¬ ((120 : Int) < height) := hc
      clear hc
      refine J.run0 1 rfl ?_
      try dsimp only
      refine J.ifc rfl rfl rfl (show -2147483648 ≤ round ∧ round ≤ 2147483647 from ⟨by omega, by omega⟩) (fun hc => ?_) (fun hc => ?_)
      · have c5 : round < (0 : Int) := hc
        clear hc
        refine J.run0 1 rfl ?_
        try dsimp only
        exact J.reta rfl rfl rfl ⟨_, rfl, rfl, rfl, Or.inl ⟨rfl, trivial⟩⟩
      · have c6 : ¬ (round < (0 : Int)) := hc
        clear hc
        refine J.run0 2 rfl ?_
        try dsimp only
        refine J.icmp rfl rfl rfl ⟨(show -2147483648 ≤ round ∧ round ≤ 2147483647 from ⟨by omega, by omega⟩), (show -2147483648 ≤ (32 : Int) ∧ (32 : Int) ≤ 2147483647 from ⟨by omega, by omega⟩)⟩ (fun hc => ?_) (fun hc => ?_)
        · have c7 : round < (32 : Int) := hc
          clear hc
          refine J.run 8 rfl ⟨⟨(hI.is hI.top.2.2.1), hI.is (hI.r 7 1 29 F.2.2.1 rfl hI.top.2.2.1)⟩, (show w.1 29 F.2.2.1 ∧ 0 ≤ (height * (32 : Int)) + round ∧ (height * (32 : Int)) + round < 3872 from ⟨hI.is (hI.r 7 1 29 F.2.2.1 rfl hI.top.2.2.1), by omega, by omega⟩)⟩ ?_
          try dsimp only
          try dsimp only
          rcases hn8 : H.2.2.2.1 29 F.2.2.1 ((height * (32 : Int)) + round) with _ | q9
          · skip
            exact J.reta rfl rfl rfl ⟨_, rfl, rfl, rfl, Or.inl ⟨rfl, trivial⟩⟩
          · have t10 : T 5 q9 := hI.a 29 F.2.2.1 rfl (hI.r 7 1 29 F.2.2.1 rfl hI.top.2.2.1) hn8
            have f11 : 0 ≤ H.1 5 0 q9 ∧ H.1 5 0 q9 ≤ 5999 := hI.v 5 0 q9 t10
            exact J.reta rfl rfl rfl ⟨_, rfl, rfl, rfl, Or.inr ⟨_, rfl, t10, trivial⟩⟩
        · have c12 : ¬ (round < (32 : Int)) := hc
          clear hc
          refine J.run0 1 rfl ?_
          try dsimp only
          exact J.reta rfl rfl rfl ⟨_, rfl, rfl, rfl, Or.inl ⟨rfl, trivial⟩⟩
end
-- M: X7_roundsOf
section
variable {d : Nat} {F : cG} {T : cP} {w : jW} {H : jH}
set_option maxRecDepth 20000 in
set_option maxHeartbeats 8000000 in
theorem c_X7_roundsOf {height : Int} (hI : cJ F T w H)  (hp0 : -2147483648 ≤ height ∧ height ≤ 2147483647) : J false d 49 w (0, jargs 0 [.inr (some (7, F.2.2.1)), .inl height], [], H) (jN fun v w' H' => w' = w ∧ H' = H ∧ ∃ rv, v = some (.inl rv) ∧ (True)) := by
  refine J.run0 1 rfl ?_
  try dsimp only
  refine J.ifc rfl rfl rfl (show -2147483648 ≤ height ∧ height ≤ 2147483647 from ⟨by omega, by omega⟩) (fun hc => ?_) (fun hc => ?_)
  · have c1 : height < (0 : Int) := hc
    clear hc
    refine J.run0 2 rfl ?_
    try dsimp only
    exact J.reti rfl rfl rfl ⟨_, rfl, rfl, rfl, _, rfl, trivial⟩
  · have c2 : ¬ (height < (0 : Int)) := hc
    clear hc
    refine J.run0 2 rfl ?_
    try dsimp only
    refine J.icmp rfl rfl rfl ⟨(show -2147483648 ≤ height ∧ height ≤ 2147483647 from ⟨by omega, by omega⟩), (show -2147483648 ≤ (120 : Int) ∧ (120 : Int) ≤ 2147483647 from ⟨by omega, by omega⟩)⟩ (fun hc => ?_) (fun hc => ?_)
    · have c3 : height ≤ (120 : Int) := hc
      clear hc
      refine J.run 4 rfl ⟨⟨(hI.is hI.top.2.2.1), hI.is (hI.r 7 3 31 F.2.2.1 rfl hI.top.2.2.1)⟩, (show w.1 31 F.2.2.1 ∧ 0 ≤ height ∧ height < 121 from ⟨hI.is (hI.r 7 3 31 F.2.2.1 rfl hI.top.2.2.1), by omega, by omega⟩)⟩ ?_
      try dsimp only
      exact J.reti rfl rfl rfl ⟨_, rfl, rfl, rfl, _, rfl, trivial⟩
    · have c4 : ¬ (height ≤ (120 : Int)) := hc
      clear hc
      refine J.run0 2 rfl ?_
      try dsimp only
      exact J.reti rfl rfl rfl ⟨_, rfl, rfl, rfl, _, rfl, trivial⟩
end
