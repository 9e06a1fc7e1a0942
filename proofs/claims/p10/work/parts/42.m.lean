section JM3
variable {d : Nat} {w : jW} {H : jH}
theorem j_proposer_loop {n t at0 r : Int} (hn : 0 ≤ n ∧ n < 16) (hP : mPow H n) (ha : 0 ≤ at0 ∧ at0 < 1600) : ∀ (m : Nat) (k : Int) (lv : jL), k + m = at0 / 100 → 0 ≤ k → (lv = [(6, .inl k), (5, .inl at0), (4, .inl (100 * k)), (3, .inl t), (0, jT), (1, .inl n), (2, .inl r)] ∨ lv = [(6, .inl k), (4, .inl (100 * k)), (5, .inl at0), (3, .inl t), (0, jT), (1, .inl n), (2, .inl r)]) →
    J true d 129 w (38, lv, [], H) (jN fun v w' H' => v = some (.inl (at0 / 100)) ∧ w' = w ∧ H' = H) := by
  intro m
  induction m with
  | zero =>
    intro k lv hk h0 hlv
    have e : H.2.2.1 110 0 (16 * n + k) = 100 := hP.2 k h0 (by omega)
    rcases hlv with rfl | rfl
    all_goals
      refine J.run 13 rfl ⟨show 0 ≤ 16 * n + k by omega, show 16 * n + k < 256 by omega⟩ ?_
      try dsimp only
      refine J.icmp rfl rfl rfl ⟨⟨show -2147483648 ≤ 100 * k + H.2.2.1 110 0 (16 * n + k) by omega, show 100 * k + H.2.2.1 110 0 (16 * n + k) ≤ 2147483647 by omega⟩, by omega, by omega⟩ (fun hc => absurd (show 100 * k + H.2.2.1 110 0 (16 * n + k) ≤ at0 from hc) (by omega)) (fun _ => ?_)
      refine J.run0 1 rfl ?_
      try dsimp only
      exact J.reti rfl rfl rfl ⟨_, rfl, by rw [show at0 / 100 = k by omega], rfl, rfl⟩
  | succ m ih =>
    intro k lv hk h0 hlv
    have e : H.2.2.1 110 0 (16 * n + k) = 100 := hP.2 k h0 (by omega)
    rcases hlv with rfl | rfl
    all_goals
      refine J.run 13 rfl ⟨show 0 ≤ 16 * n + k by omega, show 16 * n + k < 256 by omega⟩ ?_
      try dsimp only
      refine J.icmp rfl rfl rfl ⟨⟨show -2147483648 ≤ 100 * k + H.2.2.1 110 0 (16 * n + k) by omega, show 100 * k + H.2.2.1 110 0 (16 * n + k) ≤ 2147483647 by omega⟩, by omega, by omega⟩ (fun _ => ?_) (fun hc => absurd (show 100 * k + H.2.2.1 110 0 (16 * n + k) ≤ at0 by omega) hc)
      refine J.run0 2 rfl ?_
      try dsimp only
      refine ih (k + 1) _ (by omega) (by omega) (Or.inr ?_)
      rw [show 100 * (k + 1) = 100 * k + H.2.2.1 110 0 (16 * n + k) by omega]
      rfl
/-- the PROPOSER's number where all POWERS are 100 -/
def mProp (h r : Int) : Int := (131 * h + 307 * r) % 1600 / 100
theorem j_proposer {n r : Int} (hn : 0 ≤ n ∧ n < 16) (hP : mPow H n) (hr : 0 ≤ r ∧ r < 32) (hl : 0 ≤ H.2.2.1 72 0 n ∧ H.2.2.1 72 0 n < 300) (hh : 0 ≤ H.2.2.1 56 0 (H.2.2.1 72 0 n) ∧ H.2.2.1 56 0 (H.2.2.1 72 0 n) ≤ 1000) :
    J true (d + 1) 129 w (0, jargs 0 [jT, .inl n, .inl r], [], H) (jN fun v w' H' => v = some (.inl (mProp (H.2.2.1 56 0 (H.2.2.1 72 0 n) + 1) r)) ∧ w' = w ∧ H' = H) := by
  have ht := hP.1
  refine J.run 8 rfl hn ?_
  try dsimp only
  refine J.ifc rfl rfl rfl ⟨show -2147483648 ≤ H.2.2.1 111 0 n by omega, show H.2.2.1 111 0 n ≤ 2147483647 by omega⟩ (fun _ => ?_) (fun hc => absurd (show H.2.2.1 111 0 n = 0 from Classical.not_not.mp hc) (by omega))
  refine J.run0 3 rfl ?_
  try dsimp only
  refine J.inv rfl rfl rfl rfl rfl rfl jDr rfl rfl rfl rfl rfl (j_height hn hl) ?_
  rintro v w H ⟨rfl, rfl, rfl⟩
  have b1 : 0 ≤ 131 * (H.2.2.1 56 0 (H.2.2.1 72 0 n) + 1) + 307 * r ∧ 131 * (H.2.2.1 56 0 (H.2.2.1 72 0 n) + 1) + 307 * r ≤ 2147483647 := by omega
  refine J.run 10 rfl ⟨b1.1, b1.2, show 0 < H.2.2.1 111 0 n by omega, show H.2.2.1 111 0 n ≤ 2147483647 by omega⟩ ?_
  try dsimp only
  have e : (131 * (H.2.2.1 56 0 (H.2.2.1 72 0 n) + 1) + 307 * r) % H.2.2.1 111 0 n = (131 * (H.2.2.1 56 0 (H.2.2.1 72 0 n) + 1) + 307 * r) % 1600 := by rw [ht]
  have h9 := j_proposer_loop (d := d + 1) (w := w) (H := H) (t := H.2.2.1 111 0 n) (r := r) (at0 := (131 * (H.2.2.1 56 0 (H.2.2.1 72 0 n) + 1) + 307 * r) % H.2.2.1 111 0 n) hn hP (by omega) (((131 * (H.2.2.1 56 0 (H.2.2.1 72 0 n) + 1) + 307 * r) % H.2.2.1 111 0 n) / 100).toNat 0 _ (by omega) (by omega) (Or.inl rfl)
  refine J.post h9 ?_
  rintro o w' H' ⟨v, rfl, e1, e2, e3⟩
  refine ⟨_, rfl, ?_, e2, e3⟩
  rw [e1]
  unfold mProp
  rw [e]
def mP (H : jH) (r p x : Int) : Prop := H.2.2.1 63 0 x = 0 ∧ H.2.2.1 66 0 x = r ∧ 0 ≤ H.2.2.1 67 0 x ∧ H.2.2.1 64 0 x = p
theorem j_proposal_loop {n r p : Int} (hN : mNow H n) (hr : 0 ≤ r ∧ r < 32) (hp : 0 ≤ p ∧ p < 16) : ∀ (m : Nat) (i : Int) (lv : jL), i + m = H.2.2.1 113 0 n → 0 ≤ i → (∀ j, 0 ≤ j → j < i → ¬ mP H r p (H.2.2.1 112 0 (6000 * n + j))) → (lv = [(4, .inl i), (3, .inl p), (0, jT), (1, .inl n), (2, .inl r)] ∨ ∃ x, lv = [(4, .inl i), (5, .inl x), (3, .inl p), (0, jT), (1, .inl n), (2, .inl r)]) →
    J true d 134 w (10, lv, [], H) (jN fun v w' H' => w' = w ∧ H' = H ∧ ((v = some (.inl (-1)) ∧ ∀ j, 0 ≤ j → j < H.2.2.1 113 0 n → ¬ mP H r p (H.2.2.1 112 0 (6000 * n + j))) ∨ ∃ j, 0 ≤ j ∧ j < H.2.2.1 113 0 n ∧ mP H r p (H.2.2.1 112 0 (6000 * n + j)) ∧ v = some (.inl (H.2.2.1 112 0 (6000 * n + j))))) := by
  intro m
  induction m with
  | zero =>
    intro i lv hi h0 hno hlv
    have hn := hN.1
    have hM := hN.2.1
    rcases hlv with rfl | ⟨x, rfl⟩
    all_goals
      refine J.run 5 rfl hn ?_
      try dsimp only
      refine J.icmp rfl rfl rfl ⟨⟨by omega, by omega⟩, show -2147483648 ≤ H.2.2.1 113 0 n by omega, show H.2.2.1 113 0 n ≤ 2147483647 by omega⟩ (fun _ => ?_) (fun hc => absurd (show H.2.2.1 113 0 n ≤ i by omega) hc)
      refine J.run0 1 rfl ?_
      try dsimp only
      exact J.reti rfl rfl rfl ⟨_, rfl, rfl, rfl, Or.inl ⟨rfl, fun j h1 h2 => hno j h1 (by omega)⟩⟩
  | succ m ih =>
    intro i lv hi h0 hno hlv
    have hn := hN.1
    have hM := hN.2.1
    have hlt : i < H.2.2.1 113 0 n := by omega
    obtain ⟨x0, x1, x2, x3, x4, x5, x6⟩ := hN.2.2 i h0 hlt
    have b1 : 0 ≤ 6000 * n + i ∧ 6000 * n + i < 96000 := by omega
    rcases hlv with rfl | ⟨x, rfl⟩
    all_goals
      refine J.run 5 rfl hn ?_
      try dsimp only
      refine J.icmp rfl rfl rfl ⟨⟨by omega, by omega⟩, show -2147483648 ≤ H.2.2.1 113 0 n by omega, show H.2.2.1 113 0 n ≤ 2147483647 by omega⟩ (fun hc => absurd (show H.2.2.1 113 0 n ≤ i from hc) (by omega)) (fun _ => ?_)
      refine J.run 13 rfl ⟨b1, x0⟩ ?_
      try dsimp only
      have skip : ¬ mP H r p (H.2.2.1 112 0 (6000 * n + i)) → J true d 134 w (81, [(5, .inl (H.2.2.1 112 0 (6000 * n + i))), (4, .inl i), (3, .inl p), (0, jT), (1, .inl n), (2, .inl r)], [], H) (jN fun v w' H' => w' = w ∧ H' = H ∧ ((v = some (.inl (-1)) ∧ ∀ j, 0 ≤ j → j < H.2.2.1 113 0 n → ¬ mP H r p (H.2.2.1 112 0 (6000 * n + j))) ∨ ∃ j, 0 ≤ j ∧ j < H.2.2.1 113 0 n ∧ mP H r p (H.2.2.1 112 0 (6000 * n + j)) ∧ v = some (.inl (H.2.2.1 112 0 (6000 * n + j))))) := by
        intro hz
        refine J.run0 2 rfl ?_
        try dsimp only
        refine ih (i + 1) _ (by omega) (by omega) (fun j h1 h2 => ?_) (Or.inr ⟨_, rfl⟩)
        by_cases hj : j = i
        · rw [hj]; exact hz
        · exact hno j h1 (by omega)
      refine J.ifc rfl rfl rfl ⟨show -2147483648 ≤ H.2.2.1 63 0 (H.2.2.1 112 0 (6000 * n + i)) by omega, show H.2.2.1 63 0 (H.2.2.1 112 0 (6000 * n + i)) ≤ 2147483647 by omega⟩ (fun hc => skip fun z => hc z.1) (fun hc1 => ?_)
      refine J.run 5 rfl x0 ?_
      try dsimp only
      refine J.icmp rfl rfl rfl ⟨⟨show -2147483648 ≤ H.2.2.1 66 0 (H.2.2.1 112 0 (6000 * n + i)) by omega, show H.2.2.1 66 0 (H.2.2.1 112 0 (6000 * n + i)) ≤ 2147483647 by omega⟩, by omega, by omega⟩ (fun hc => skip fun z => hc z.2.1) (fun hc2 => ?_)
      refine J.run 4 rfl x0 ?_
      try dsimp only
      refine J.ifc rfl rfl rfl ⟨show -2147483648 ≤ H.2.2.1 67 0 (H.2.2.1 112 0 (6000 * n + i)) by omega, show H.2.2.1 67 0 (H.2.2.1 112 0 (6000 * n + i)) ≤ 2147483647 by omega⟩ (fun hc => skip fun z => absurd (show H.2.2.1 67 0 (H.2.2.1 112 0 (6000 * n + i)) < 0 from hc) (Int.not_lt.mpr z.2.2.1)) (fun hc3 => ?_)
      refine J.run 5 rfl x0 ?_
      try dsimp only
      refine J.icmp rfl rfl rfl ⟨⟨show -2147483648 ≤ H.2.2.1 64 0 (H.2.2.1 112 0 (6000 * n + i)) by omega, show H.2.2.1 64 0 (H.2.2.1 112 0 (6000 * n + i)) ≤ 2147483647 by omega⟩, by omega, by omega⟩ (fun hc => skip fun z => hc z.2.2.2) (fun hc4 => ?_)
      refine J.run0 1 rfl ?_
      try dsimp only
      exact J.reti rfl rfl rfl ⟨_, rfl, rfl, rfl, Or.inr ⟨i, h0, hlt, ⟨Classical.not_not.mp hc1, Classical.not_not.mp hc2, Int.not_lt.mp hc3, Classical.not_not.mp hc4⟩, rfl⟩⟩
theorem j_proposal {n r : Int} (hN : mNow H n) (hP : mPow H n) (hr : 0 ≤ r ∧ r < 32) (hl : 0 ≤ H.2.2.1 72 0 n ∧ H.2.2.1 72 0 n < 300) (hh : 0 ≤ H.2.2.1 56 0 (H.2.2.1 72 0 n) ∧ H.2.2.1 56 0 (H.2.2.1 72 0 n) ≤ 1000) :
    J true (d + 2) 134 w (0, jargs 0 [jT, .inl n, .inl r], [], H) (jN fun v w' H' => w' = w ∧ H' = H ∧ ((v = some (.inl (-1)) ∧ ∀ j, 0 ≤ j → j < H.2.2.1 113 0 n → ¬ mP H r (mProp (H.2.2.1 56 0 (H.2.2.1 72 0 n) + 1) r) (H.2.2.1 112 0 (6000 * n + j))) ∨ ∃ j, 0 ≤ j ∧ j < H.2.2.1 113 0 n ∧ mP H r (mProp (H.2.2.1 56 0 (H.2.2.1 72 0 n) + 1) r) (H.2.2.1 112 0 (6000 * n + j)) ∧ v = some (.inl (H.2.2.1 112 0 (6000 * n + j))))) := by
  refine J.run0 3 rfl ?_
  try dsimp only
  refine J.inv rfl rfl rfl rfl rfl rfl jDr rfl rfl rfl rfl rfl (j_proposer hN.1 hP hr hl hh) ?_
  rintro v w H ⟨rfl, rfl, rfl⟩
  refine J.run0 3 rfl ?_
  try dsimp only
  have hM := hN.2.1
  exact j_proposal_loop hN hr (by unfold mProp; omega) (H.2.2.1 113 0 n).toNat 0 _ (by omega) (by omega) (fun j h1 h2 => by omega) (Or.inl rfl)
end JM3
