-- M: X0_inChainAt
section
variable {d : Nat} {F : cG} {T : cP} {w : jW} {H : jH}
set_option maxRecDepth 20000 in
set_option maxHeartbeats 8000000 in
theorem c_X0_inChainAt_l0 {a0 : Nat} {wanted : Int} (hI : cJ F T w H) (ta0 : T 0 a0) (hp0 : -2147483648 ≤ wanted ∧ wanted ≤ 2147483647) : ∀ (m : Nat), (∀ (b : Nat) (lv : jL), H.1 0 1 b < (m : Int) → (0 ≤ H.1 0 1 b) → T 0 b → ((lv = [(2, .inr (some (0, b))), (0, .inr (some (0, a0))), (1, .inl wanted)])) → J false d 1 w (2, lv, [], H) (jN fun v w' H' => w' = w ∧ H' = H ∧ ((v = some (.inr none) ∧ True) ∨ ∃ rq, v = some (.inr (some (0, rq))) ∧ T 0 rq ∧ True))) := by
  intro m
  induction m with
  | zero =>
    skip
    · intro b lv hm hi0 tv2 hlv
      exfalso
      omega
  | succ m ih =>
    skip
    · intro b lv hm hi0 tv2 hlv
      rcases hlv with rfl
      have f1 : 0 ≤ H.1 0 1 b ∧ H.1 0 1 b ≤ 299 := hI.v 0 1 b tv2
      refine J.run 5 rfl (hI.is tv2) ?_
      try dsimp only
      refine J.icmp rfl rfl rfl ⟨(show -2147483648 ≤ H.1 0 1 b ∧ H.1 0 1 b ≤ 2147483647 from ⟨by omega, by omega⟩), (show -2147483648 ≤ wanted ∧ wanted ≤ 2147483647 from ⟨by omega, by omega⟩)⟩ (fun hc => ?_) (fun hc => ?_)
      · have c2 : ¬ (H.1 0 1 b = wanted) := hc
        clear hc
        refine J.run 2 rfl (hI.is tv2) ?_
        try dsimp only
        try dsimp only
        rcases hn3 : H.2.1 0 2 b with _ | q4
        · skip
          refine J.run0 5 rfl ?_
          try dsimp only
          exact J.reta rfl rfl rfl ⟨_, rfl, rfl, rfl, Or.inl ⟨rfl, trivial⟩⟩
        · have t5 : T 0 q4 := hI.n 0 2 0 b rfl tv2 hn3
          have f6 : 0 ≤ H.1 0 1 q4 ∧ H.1 0 1 q4 ≤ 299 := hI.v 0 1 q4 t5
          have f7 := hI.up tv2 hn3
          refine J.run0 2 rfl ?_
          try dsimp only
          exact ih (q4) _ (show H.1 0 1 (q4) < _ by omega) (show 0 ≤ H.1 0 1 (q4) from by omega) t5 rfl
      · have c8 : ¬ (¬ (H.1 0 1 b = wanted)) := hc
        clear hc
        refine J.run0 1 rfl ?_
        try dsimp only
        exact J.reta rfl rfl rfl ⟨_, rfl, rfl, rfl, Or.inr ⟨_, rfl, tv2, trivial⟩⟩
set_option maxRecDepth 20000 in
set_option maxHeartbeats 8000000 in
theorem c_X0_inChainAt {a0 : Nat} {wanted : Int} (hI : cJ F T w H) (ta0 : T 0 a0) (hp0 : -2147483648 ≤ wanted ∧ wanted ≤ 2147483647) : J false d 1 w (0, jargs 0 [.inr (some (0, a0)), .inl wanted], [], H) (jN fun v w' H' => w' = w ∧ H' = H ∧ ((v = some (.inr none) ∧ True) ∨ ∃ rq, v = some (.inr (some (0, rq))) ∧ T 0 rq ∧ True)) := by
  have q0 : 0 ≤ H.1 0 1 a0 ∧ H.1 0 1 a0 ≤ 299 := hI.v 0 1 a0 ta0
  refine J.run0 2 rfl ?_
  try dsimp only
  have f9 : 0 ≤ H.1 0 1 a0 ∧ H.1 0 1 a0 ≤ 299 := hI.v 0 1 a0 ta0
  exact (c_X0_inChainAt_l0 (a0 := a0) (wanted := wanted) hI ta0 hp0 ((H.1 0 1 (a0) : Int).toNat + 1)) (a0) _ (show H.1 0 1 (a0) < _ by omega) (show 0 ≤ H.1 0 1 (a0) from by omega) ta0 rfl
end
-- M: X0_isInLineWith
section
variable {d : Nat} {F : cG} {T : cP} {w : jW} {H : jH}
set_option maxRecDepth 20000 in
set_option maxHeartbeats 8000000 in
theorem c_X0_isInLineWith {a0 : Nat} {o : Nat} (hI : cJ F T w H) (ta0 : T 0 a0) (ta1 : T 0 o)  : J false (d + 1) 2 w (0, jargs 0 [.inr (some (0, a0)), .inr (some (0, o))], [], H) (jN fun v w' H' => w' = w ∧ H' = H ∧ ∃ rv, v = some (.inl rv) ∧ (rv = 0 ∨ rv = 1)) := by
  have f1 : 0 ≤ H.1 0 1 a0 ∧ H.1 0 1 a0 ≤ 299 := hI.v 0 1 a0 ta0
  have f2 : 0 ≤ H.1 0 1 o ∧ H.1 0 1 o ≤ 299 := hI.v 0 1 o ta1
  refine J.run 4 rfl ⟨(hI.is ta0), (hI.is ta1)⟩ ?_
  try dsimp only
  refine J.icmp rfl rfl rfl ⟨(show -2147483648 ≤ H.1 0 1 a0 ∧ H.1 0 1 a0 ≤ 2147483647 from ⟨by omega, by omega⟩), (show -2147483648 ≤ H.1 0 1 o ∧ H.1 0 1 o ≤ 2147483647 from ⟨by omega, by omega⟩)⟩ (fun hc => ?_) (fun hc => ?_)
  · have c3 : H.1 0 1 o < H.1 0 1 a0 := hc
    clear hc
    refine J.run 6 rfl ⟨(hI.is ta0), (hI.is ta1)⟩ ?_
    try dsimp only
    refine J.icmp rfl rfl rfl ⟨(show -2147483648 ≤ H.1 0 1 a0 ∧ H.1 0 1 a0 ≤ 2147483647 from ⟨by omega, by omega⟩), (show -2147483648 ≤ H.1 0 1 o ∧ H.1 0 1 o ≤ 2147483647 from ⟨by omega, by omega⟩)⟩ (fun hc => ?_) (fun hc => ?_)
    · have c4 : H.1 0 1 o < H.1 0 1 a0 := hc
      clear hc
      refine J.run 5 rfl (hI.is ta1) ?_
      try dsimp only
      refine J.inv rfl rfl rfl rfl rfl rfl ((jD_w rfl).mpr (hI.is ta0)) rfl rfl rfl rfl rfl (c_X0_inChainAt (a0 := a0) (wanted := H.1 0 1 o) hI ta0 (show -2147483648 ≤ (H.1 0 1 o) ∧ (H.1 0 1 o) ≤ 2147483647 from ⟨by omega, by omega⟩)) ?_
      rintro v w H ⟨rfl, rfl, hv⟩
      rcases hv with ⟨rfl, r7⟩ | ⟨q5, rfl, t6, r7⟩
      · skip
        try dsimp only [Option.toList, List.append, List.cons_append, List.nil_append]
        refine J.run0 4 rfl ?_
        try dsimp only
        exact J.retb rfl rfl rfl (show (0 : Int) = 0 ∨ (0 : Int) = 1 by omega) ⟨_, rfl, rfl, rfl, _, rfl, (show ((0 : Int)) = 0 ∨ ((0 : Int)) = 1 from by omega)⟩
      · skip
        try dsimp only [Option.toList, List.append, List.cons_append, List.nil_append]
        have f8 : 0 ≤ H.1 0 1 q5 ∧ H.1 0 1 q5 ≤ 299 := hI.v 0 1 q5 t6
        have f9 : 0 ≤ H.1 0 0 q5 ∧ H.1 0 0 q5 ≤ 299 := hI.v 0 0 q5 t6
        have f10 : 0 ≤ H.1 0 0 o ∧ H.1 0 0 o ≤ 299 := hI.v 0 0 o ta1
        refine J.run 7 rfl ⟨(hI.is t6), (hI.is ta1)⟩ ?_
        try dsimp only
        refine J.icmp rfl rfl rfl ⟨(show -2147483648 ≤ H.1 0 0 q5 ∧ H.1 0 0 q5 ≤ 2147483647 from ⟨by omega, by omega⟩), (show -2147483648 ≤ H.1 0 0 o ∧ H.1 0 0 o ≤ 2147483647 from ⟨by omega, by omega⟩)⟩ (fun hc => ?_) (fun hc => ?_)
        · have c11 : ¬ (H.1 0 0 q5 = H.1 0 0 o) := hc
          clear hc
          refine J.run0 1 rfl ?_
          try dsimp only
          exact J.retb rfl rfl rfl (show (0 : Int) = 0 ∨ (0 : Int) = 1 by omega) ⟨_, rfl, rfl, rfl, _, rfl, (show ((0 : Int)) = 0 ∨ ((0 : Int)) = 1 from by omega)⟩
        · have c12 : ¬ (¬ (H.1 0 0 q5 = H.1 0 0 o)) := hc
          clear hc
          refine J.run0 2 rfl ?_
          try dsimp only
          exact J.retb rfl rfl rfl (show (1 : Int) = 0 ∨ (1 : Int) = 1 by omega) ⟨_, rfl, rfl, rfl, _, rfl, (show ((1 : Int)) = 0 ∨ ((1 : Int)) = 1 from by omega)⟩
    · have c13 : ¬ (H.1 0 1 o < H.1 0 1 a0) := hc
      clear hc
      refine J.run 6 rfl (hI.is ta1) ?_
      try dsimp only
      refine J.inv rfl rfl rfl rfl rfl rfl ((jD_w rfl).mpr (hI.is ta1)) rfl rfl rfl rfl rfl (c_X0_inChainAt (a0 := o) (wanted := H.1 0 1 o) hI ta1 (show -2147483648 ≤ (H.1 0 1 o) ∧ (H.1 0 1 o) ≤ 2147483647 from ⟨by omega, by omega⟩)) ?_
      rintro v w H ⟨rfl, rfl, hv⟩
      rcases hv with ⟨rfl, r16⟩ | ⟨q14, rfl, t15, r16⟩
      · skip
        try dsimp only [Option.toList, List.append, List.cons_append, List.nil_append]
        refine J.run0 4 rfl ?_
        try dsimp only
        exact J.retb rfl rfl rfl (show (0 : Int) = 0 ∨ (0 : Int) = 1 by omega) ⟨_, rfl, rfl, rfl, _, rfl, (show ((0 : Int)) = 0 ∨ ((0 : Int)) = 1 from by omega)⟩
      · skip
        try dsimp only [Option.toList, List.append, List.cons_append, List.nil_append]
        have f17 : 0 ≤ H.1 0 1 q14 ∧ H.1 0 1 q14 ≤ 299 := hI.v 0 1 q14 t15
        have f18 : 0 ≤ H.1 0 0 q14 ∧ H.1 0 0 q14 ≤ 299 := hI.v 0 0 q14 t15
        have f19 : 0 ≤ H.1 0 0 o ∧ H.1 0 0 o ≤ 299 := hI.v 0 0 o ta1
        refine J.run 7 rfl ⟨(hI.is t15), (hI.is ta1)⟩ ?_
        try dsimp only
        refine J.icmp rfl rfl rfl ⟨(show -2147483648 ≤ H.1 0 0 q14 ∧ H.1 0 0 q14 ≤ 2147483647 from ⟨by omega, by omega⟩), (show -2147483648 ≤ H.1 0 0 o ∧ H.1 0 0 o ≤ 2147483647 from ⟨by omega, by omega⟩)⟩ (fun hc => ?_) (fun hc => ?_)
        · have c20 : ¬ (H.1 0 0 q14 = H.1 0 0 o) := hc
          clear hc
          refine J.run0 1 rfl ?_
          try dsimp only
          exact J.retb rfl rfl rfl (show (0 : Int) = 0 ∨ (0 : Int) = 1 by omega) ⟨_, rfl, rfl, rfl, _, rfl, (show ((0 : Int)) = 0 ∨ ((0 : Int)) = 1 from by omega)⟩
        · have c21 : ¬ (¬ (H.1 0 0 q14 = H.1 0 0 o)) := hc
          clear hc
          refine J.run0 2 rfl ?_
          try dsimp only
          exact J.retb rfl rfl rfl (show (1 : Int) = 0 ∨ (1 : Int) = 1 by omega) ⟨_, rfl, rfl, rfl, _, rfl, (show ((1 : Int)) = 0 ∨ ((1 : Int)) = 1 from by omega)⟩
  · have c22 : ¬ (H.1 0 1 o < H.1 0 1 a0) := hc
    clear hc
    refine J.run 7 rfl ⟨(hI.is ta0), (hI.is ta1)⟩ ?_
    try dsimp only
    refine J.icmp rfl rfl rfl ⟨(show -2147483648 ≤ H.1 0 1 a0 ∧ H.1 0 1 a0 ≤ 2147483647 from ⟨by omega, by omega⟩), (show -2147483648 ≤ H.1 0 1 o ∧ H.1 0 1 o ≤ 2147483647 from ⟨by omega, by omega⟩)⟩ (fun hc => ?_) (fun hc => ?_)
    · have c23 : H.1 0 1 o < H.1 0 1 a0 := hc
      clear hc
      refine J.run 5 rfl (hI.is ta0) ?_
      try dsimp only
      refine J.inv rfl rfl rfl rfl rfl rfl ((jD_w rfl).mpr (hI.is ta0)) rfl rfl rfl rfl rfl (c_X0_inChainAt (a0 := a0) (wanted := H.1 0 1 a0) hI ta0 (show -2147483648 ≤ (H.1 0 1 a0) ∧ (H.1 0 1 a0) ≤ 2147483647 from ⟨by omega, by omega⟩)) ?_
      rintro v w H ⟨rfl, rfl, hv⟩
      rcases hv with ⟨rfl, r26⟩ | ⟨q24, rfl, t25, r26⟩
      · skip
        try dsimp only [Option.toList, List.append, List.cons_append, List.nil_append]
        refine J.run0 4 rfl ?_
        try dsimp only
        exact J.retb rfl rfl rfl (show (0 : Int) = 0 ∨ (0 : Int) = 1 by omega) ⟨_, rfl, rfl, rfl, _, rfl, (show ((0 : Int)) = 0 ∨ ((0 : Int)) = 1 from by omega)⟩
      · skip
        try dsimp only [Option.toList, List.append, List.cons_append, List.nil_append]
        have f27 : 0 ≤ H.1 0 1 q24 ∧ H.1 0 1 q24 ≤ 299 := hI.v 0 1 q24 t25
        have f28 : 0 ≤ H.1 0 0 q24 ∧ H.1 0 0 q24 ≤ 299 := hI.v 0 0 q24 t25
        have f29 : 0 ≤ H.1 0 0 a0 ∧ H.1 0 0 a0 ≤ 299 := hI.v 0 0 a0 ta0
        refine J.run 7 rfl ⟨(hI.is t25), (hI.is ta0)⟩ ?_
        try dsimp only
        refine J.icmp rfl rfl rfl ⟨(show -2147483648 ≤ H.1 0 0 q24 ∧ H.1 0 0 q24 ≤ 2147483647 from ⟨by omega, by omega⟩), (show -2147483648 ≤ H.1 0 0 a0 ∧ H.1 0 0 a0 ≤ 2147483647 from ⟨by omega, by omega⟩)⟩ (fun hc => ?_) (fun hc => ?_)
        · have c30 : ¬ (H.1 0 0 q24 = H.1 0 0 a0) := hc
          clear hc
          refine J.run0 1 rfl ?_
          try dsimp only
          exact J.retb rfl rfl rfl (show (0 : Int) = 0 ∨ (0 : Int) = 1 by omega) ⟨_, rfl, rfl, rfl, _, rfl, (show ((0 : Int)) = 0 ∨ ((0 : Int)) = 1 from by omega)⟩
        · have c31 : ¬ (¬ (H.1 0 0 q24 = H.1 0 0 a0)) := hc
          clear hc
          refine J.run0 2 rfl ?_
          try dsimp only
          exact J.retb rfl rfl rfl (show (1 : Int) = 0 ∨ (1 : Int) = 1 by omega) ⟨_, rfl, rfl, rfl, _, rfl, (show ((1 : Int)) = 0 ∨ ((1 : Int)) = 1 from by omega)⟩
    · have c32 : ¬ (H.1 0 1 o < H.1 0 1 a0) := hc
      clear hc
      refine J.run 6 rfl (hI.is ta0) ?_
      try dsimp only
      refine J.inv rfl rfl rfl rfl rfl rfl ((jD_w rfl).mpr (hI.is ta1)) rfl rfl rfl rfl rfl (c_X0_inChainAt (a0 := o) (wanted := H.1 0 1 a0) hI ta1 (show -2147483648 ≤ (H.1 0 1 a0) ∧ (H.1 0 1 a0) ≤ 2147483647 from ⟨by omega, by omega⟩)) ?_
      rintro v w H ⟨rfl, rfl, hv⟩
      rcases hv with ⟨rfl, r35⟩ | ⟨q33, rfl, t34, r35⟩
      · skip
        try dsimp only [Option.toList, List.append, List.cons_append, List.nil_append]
        refine J.run0 4 rfl ?_
        try dsimp only
        exact J.retb rfl rfl rfl (show (0 : Int) = 0 ∨ (0 : Int) = 1 by omega) ⟨_, rfl, rfl, rfl, _, rfl, (show ((0 : Int)) = 0 ∨ ((0 : Int)) = 1 from by omega)⟩
      · skip
        try dsimp only [Option.toList, List.append, List.cons_append, List.nil_append]
        have f36 : 0 ≤ H.1 0 1 q33 ∧ H.1 0 1 q33 ≤ 299 := hI.v 0 1 q33 t34
        have f37 : 0 ≤ H.1 0 0 q33 ∧ H.1 0 0 q33 ≤ 299 := hI.v 0 0 q33 t34
        have f38 : 0 ≤ H.1 0 0 a0 ∧ H.1 0 0 a0 ≤ 299 := hI.v 0 0 a0 ta0
        refine J.run 7 rfl ⟨(hI.is t34), (hI.is ta0)⟩ ?_
        try dsimp only
        refine J.icmp rfl rfl rfl ⟨(show -2147483648 ≤ H.1 0 0 q33 ∧ H.1 0 0 q33 ≤ 2147483647 from ⟨by omega, by omega⟩), (show -2147483648 ≤ H.1 0 0 a0 ∧ H.1 0 0 a0 ≤ 2147483647 from ⟨by omega, by omega⟩)⟩ (fun hc => ?_) (fun hc => ?_)
        · have c39 : ¬ (H.1 0 0 q33 = H.1 0 0 a0) := hc
          clear hc
          refine J.run0 1 rfl ?_
          try dsimp only
          exact J.retb rfl rfl rfl (show (0 : Int) = 0 ∨ (0 : Int) = 1 by omega) ⟨_, rfl, rfl, rfl, _, rfl, (show ((0 : Int)) = 0 ∨ ((0 : Int)) = 1 from by omega)⟩
        · have c40 : ¬ (¬ (H.1 0 0 q33 = H.1 0 0 a0)) := hc
          clear hc
          refine J.run0 2 rfl ?_
          try dsimp only
          exact J.retb rfl rfl rfl (show (1 : Int) = 0 ∨ (1 : Int) = 1 by omega) ⟨_, rfl, rfl, rfl, _, rfl, (show ((1 : Int)) = 0 ∨ ((1 : Int)) = 1 from by omega)⟩
end
-- M: X4_end
section
variable {d : Nat} {F : cG} {T : cP} {w : jW} {H : jH}
set_option maxRecDepth 20000 in
set_option maxHeartbeats 8000000 in
theorem c_X4_end {a0 : Nat} (hI : cJ F T w H) (ta0 : T 4 a0)  : J false d 25 w (0, jargs 0 [.inr (some (4, a0))], [], H) (jN fun v w' H' => w' = w ∧ H' = H ∧ ((v = some (.inr none) ∧ True) ∨ ∃ rq, v = some (.inr (some (2, rq))) ∧ T 2 rq ∧ True)) := by
  have f1 : 0 ≤ H.1 4 1 a0 ∧ H.1 4 1 a0 ≤ 96 := hI.v 4 1 a0 ta0
  refine J.run 3 rfl (hI.is ta0) ?_
  try dsimp only
  refine J.icmp rfl rfl rfl ⟨(show -2147483648 ≤ H.1 4 1 a0 ∧ H.1 4 1 a0 ≤ 2147483647 from ⟨by omega, by omega⟩), (show -2147483648 ≤ (1 : Int) ∧ (1 : Int) ≤ 2147483647 from ⟨by omega, by omega⟩)⟩ (fun hc => ?_) (fun hc => ?_)
  · have c2 : H.1 4 1 a0 < (1 : Int) := hc
    clear hc
    refine J.run0 2 rfl ?_
    try dsimp only
    exact J.reta rfl rfl rfl ⟨_, rfl, rfl, rfl, Or.inl ⟨rfl, trivial⟩⟩
  · have c3 : ¬ (H.1 4 1 a0 < (1 : Int)) := hc
    clear hc
    refine J.run 3 rfl (hI.is ta0) ?_
    try dsimp only
    refine J.icmp rfl rfl rfl ⟨(show -2147483648 ≤ H.1 4 1 a0 ∧ H.1 4 1 a0 ≤ 2147483647 from ⟨by omega, by omega⟩), (show -2147483648 ≤ (96 : Int) ∧ (96 : Int) ≤ 2147483647 from ⟨by omega, by omega⟩)⟩ (fun hc => ?_) (fun hc => ?_)
    · have c4 : H.1 4 1 a0 ≤ (96 : Int) := hc
      clear hc
      refine J.run 7 rfl ⟨⟨(hI.is ta0), hI.is (hI.r 4 0 25 a0 rfl ta0)⟩, (hI.is ta0), (show w.1 25 a0 ∧ 0 ≤ (H.1 4 1 a0) - (1 : Int) ∧ (H.1 4 1 a0) - (1 : Int) < 96 from ⟨hI.is (hI.r 4 0 25 a0 rfl ta0), by omega, by omega⟩)⟩ ?_
      try dsimp only
      try dsimp only
      rcases hn5 : H.2.2.2.1 25 a0 ((H.1 4 1 a0) - (1 : Int)) with _ | q6
      · skip
        exact J.reta rfl rfl rfl ⟨_, rfl, rfl, rfl, Or.inl ⟨rfl, trivial⟩⟩
      · have t7 : T 2 q6 := hI.a 25 a0 rfl (hI.r 4 0 25 a0 rfl ta0) hn5
        exact J.reta rfl rfl rfl ⟨_, rfl, rfl, rfl, Or.inr ⟨_, rfl, t7, trivial⟩⟩
    · have c8 : ¬ (H.1 4 1 a0 ≤ (96 : Int)) := hc
      clear hc
      refine J.run0 2 rfl ?_
      try dsimp only
      exact J.reta rfl rfl rfl ⟨_, rfl, rfl, rfl, Or.inl ⟨rfl, trivial⟩⟩
end
-- M: X4_sentAt
section
variable {d : Nat} {F : cG} {T : cP} {w : jW} {H : jH}
set_option maxRecDepth 20000 in
set_option maxHeartbeats 8000000 in
theorem c_X4_sentAt {a0 : Nat} {i : Int} (hI : cJ F T w H) (ta0 : T 4 a0) (hp0 : -2147483648 ≤ i ∧ i ≤ 2147483647) : J false d 26 w (0, jargs 0 [.inr (some (4, a0)), .inl i], [], H) (jN fun v w' H' => w' = w ∧ H' = H ∧ ((v = some (.inr none) ∧ True) ∨ ∃ rq, v = some (.inr (some (5, rq))) ∧ T 5 rq ∧ True)) := by
  refine J.run0 1 rfl ?_
  try dsimp only
  refine J.ifc rfl rfl rfl (show -2147483648 ≤ i ∧ i ≤ 2147483647 from ⟨by omega, by omega⟩) (fun hc => ?_) (fun hc => ?_)
  · have c1 : i < (0 : Int) := hc
    clear hc
    refine J.run0 7 rfl ?_
    try dsimp only
    exact J.reta rfl rfl rfl ⟨_, rfl, rfl, rfl, Or.inl ⟨rfl, trivial⟩⟩
  · have c2 : ¬ (i < (0 : Int)) := hc
    clear hc
    have f3 : 0 ≤ H.1 4 1 a0 ∧ H.1 4 1 a0 ≤ 96 := hI.v 4 1 a0 ta0
    refine J.run 3 rfl (hI.is ta0) ?_
    try dsimp only
    refine J.icmp rfl rfl rfl ⟨(show -2147483648 ≤ i ∧ i ≤ 2147483647 from ⟨by omega, by omega⟩), (show -2147483648 ≤ H.1 4 1 a0 ∧ H.1 4 1 a0 ≤ 2147483647 from ⟨by omega, by omega⟩)⟩ (fun hc => ?_) (fun hc => ?_)
    · have c4 : H.1 4 1 a0 ≤ i := hc
      clear hc
      refine J.run0 7 rfl ?_
      try dsimp only
      exact J.reta rfl rfl rfl ⟨_, rfl, rfl, rfl, Or.inl ⟨rfl, trivial⟩⟩
    · have c5 : ¬ (H.1 4 1 a0 ≤ i) := hc
      clear hc
      refine J.run0 2 rfl ?_
      try dsimp only
      refine J.icmp rfl rfl rfl ⟨(show -2147483648 ≤ i ∧ i ≤ 2147483647 from ⟨by omega, by omega⟩), (show -2147483648 ≤ (96 : Int) ∧ (96 : Int) ≤ 2147483647 from ⟨by omega, by omega⟩)⟩ (fun hc => ?_) (fun hc => ?_)
      · have c6 : i < (96 : Int) := hc
        clear hc
        refine J.run 4 rfl ⟨⟨(hI.is ta0), hI.is (hI.r 4 0 25 a0 rfl ta0)⟩, (show w.1 25 a0 ∧ 0 ≤ i ∧ i < 96 from ⟨hI.is (hI.r 4 0 25 a0 rfl ta0), by omega, by omega⟩)⟩ ?_
        try dsimp only
        try dsimp only
        rcases hn7 : H.2.2.2.1 25 a0 (i) with _ | q8
        · skip
          refine J.run0 5 rfl ?_
          try dsimp only
          exact J.reta rfl rfl rfl ⟨_, rfl, rfl, rfl, Or.inl ⟨rfl, trivial⟩⟩
        · have t9 : T 2 q8 := hI.a 25 a0 rfl (hI.r 4 0 25 a0 rfl ta0) hn7
          refine J.run 5 rfl (hI.is t9) ?_
          try dsimp only
          try dsimp only
          rcases hn10 : H.2.1 2 9 q8 with _ | q11
          · skip
            exact J.reta rfl rfl rfl ⟨_, rfl, rfl, rfl, Or.inl ⟨rfl, trivial⟩⟩
          · have t12 : T 5 q11 := hI.n 2 9 5 q8 rfl t9 hn10
            have f13 : 0 ≤ H.1 5 0 q11 ∧ H.1 5 0 q11 ≤ 5999 := hI.v 5 0 q11 t12
            exact J.reta rfl rfl rfl ⟨_, rfl, rfl, rfl, Or.inr ⟨_, rfl, t12, trivial⟩⟩
      · have c14 : ¬ (i < (96 : Int)) := hc
        clear hc
        refine J.run0 7 rfl ?_
        try dsimp only
        exact J.reta rfl rfl rfl ⟨_, rfl, rfl, rfl, Or.inl ⟨rfl, trivial⟩⟩
end
-- M: X3_genesis
section
variable {d : Nat} {F : cG} {T : cP} {w : jW} {H : jH}
set_option maxRecDepth 20000 in
set_option maxHeartbeats 8000000 in
theorem c_X3_genesis  (hI : cJ F T w H)   : J false d 11 w (0, jargs 0 [.inr (some (3, F.2.1))], [], H) (jN fun v w' H' => w' = w ∧ H' = H ∧ ((v = some (.inr none) ∧ True) ∨ ∃ rq, v = some (.inr (some (0, rq))) ∧ T 0 rq ∧ True)) := by
  refine J.run 4 rfl ⟨⟨(hI.is hI.top.2.1), hI.is (hI.r 3 0 21 F.2.1 rfl hI.top.2.1)⟩, (show w.1 21 F.2.1 ∧ 0 ≤ (0 : Int) ∧ (0 : Int) < 300 from ⟨hI.is (hI.r 3 0 21 F.2.1 rfl hI.top.2.1), by omega, by omega⟩)⟩ ?_
  try dsimp only
  try dsimp only
  rcases hn1 : H.2.2.2.1 21 F.2.1 ((0 : Int)) with _ | q2
  · skip
    exact J.reta rfl rfl rfl ⟨_, rfl, rfl, rfl, Or.inl ⟨rfl, trivial⟩⟩
  · have t3 : T 0 q2 := hI.a 21 F.2.1 rfl (hI.r 3 0 21 F.2.1 rfl hI.top.2.1) hn1
    have f4 : 0 ≤ H.1 0 1 q2 ∧ H.1 0 1 q2 ≤ 299 := hI.v 0 1 q2 t3
    exact J.reta rfl rfl rfl ⟨_, rfl, rfl, rfl, Or.inr ⟨_, rfl, t3, trivial⟩⟩
end
-- M: X3_isFull
section
variable {d : Nat} {F : cG} {T : cP} {w : jW} {H : jH}
set_option maxRecDepth 20000 in
set_option maxHeartbeats 8000000 in
theorem c_X3_isFull  (hI : cJ F T w H)   : J false d 12 w (0, jargs 0 [.inr (some (3, F.2.1))], [], H) (jN fun v w' H' => w' = w ∧ H' = H ∧ ∃ rv, v = some (.inl rv) ∧ ((rv = 0 ∨ rv = 1) ∧ (rv = 0 → H.1 3 1 F.2.1 < 300))) := by
  have f1 : 1 ≤ H.1 3 1 F.2.1 ∧ H.1 3 1 F.2.1 ≤ 300 := hI.v 3 1 F.2.1 hI.top.2.1
  refine J.run 3 rfl (hI.is hI.top.2.1) ?_
  try dsimp only
  refine J.icmp rfl rfl rfl ⟨(show -2147483648 ≤ H.1 3 1 F.2.1 ∧ H.1 3 1 F.2.1 ≤ 2147483647 from ⟨by omega, by omega⟩), (show -2147483648 ≤ (300 : Int) ∧ (300 : Int) ≤ 2147483647 from ⟨by omega, by omega⟩)⟩ (fun hc => ?_) (fun hc => ?_)
  · have c2 : H.1 3 1 F.2.1 < (300 : Int) := hc
    clear hc
    refine J.run0 1 rfl ?_
    try dsimp only
    exact J.retb rfl rfl rfl (show (0 : Int) = 0 ∨ (0 : Int) = 1 by omega) ⟨_, rfl, rfl, rfl, _, rfl, (show (((0 : Int)) = 0 ∨ ((0 : Int)) = 1) ∧ (((0 : Int)) = 0 → H.1 3 1 F.2.1 < 300) from ⟨by omega, by omega⟩)⟩
  · have c3 : ¬ (H.1 3 1 F.2.1 < (300 : Int)) := hc
    clear hc
    refine J.run0 2 rfl ?_
    try dsimp only
    exact J.retb rfl rfl rfl (show (1 : Int) = 0 ∨ (1 : Int) = 1 by omega) ⟨_, rfl, rfl, rfl, _, rfl, (show (((1 : Int)) = 0 ∨ ((1 : Int)) = 1) ∧ (((1 : Int)) = 0 → H.1 3 1 F.2.1 < 300) from ⟨by omega, by omega⟩)⟩
end
