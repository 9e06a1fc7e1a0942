section JM5
variable {d : Nat} {w : jW} {H : jH}
def rB (H : jH) (B : Int) : Prop := (1 ≤ B ∧ B ≤ 300) ∧ ∀ b, 0 ≤ b → b < B → H.2.2.1 56 0 b = b ∧ H.2.2.1 55 0 b = b - 1 ∧ H.2.2.1 58 0 b = 0 ∧ ∀ k, 0 ≤ k → k < 16 → H.2.2.1 60 0 (16 * b + k) = 100
theorem rB.ex {fs ks : List Nat} {H1 : jH} {B : Int} (h : rB H B) (hE : jEx fs ks H1 H) (hk : 56 ∉ ks ∧ 55 ∉ ks ∧ 58 ∉ ks ∧ 60 ∉ ks) : rB H1 B := by
  unfold rB
  rw [hE.r _ hk.1, hE.r _ hk.2.1, hE.r _ hk.2.2.1, hE.r _ hk.2.2.2]
  exact h
abbrev sF : List Nat := [48, 56, 57]
abbrev sK : List Nat := [108, 99, 100, 101, 105]
theorem j_state_l2 {B b : Int} (H0 : jH) (hb : 0 ≤ b ∧ b < B) : ∀ (m : Nat) (k : Int) (lv : jL) (H : jH), k + 1 = m → k < b → rLed H → rB H B → (∀ j, 0 ≤ j → j < b → H.2.2.1 108 0 j = b - j) → jEx sF sK H H0 → (lv = [(3, .inl k), (2, .inl b), (0, jT), (1, .inl b)] ∨ ∃ x, lv = [(3, .inl k), (4, .inl x), (2, .inl b), (0, jT), (1, .inl b)]) →
    J true (d + 1) 116 w (45, lv, [], H) (jN fun v w' H' => v = none ∧ w' = w ∧ rLed H' ∧ jEx sF sK H' H0 ∧ H'.1 11 48 0 = b) := by
  intro m
  induction m with
  | zero =>
    intro k lv H hk hkb hL hB hp hE hlv
    have hB1 := hB.1
    rcases hlv with rfl | ⟨x, rfl⟩
    all_goals
      refine J.run0 1 rfl ?_
      try dsimp only
      refine J.ifc rfl rfl rfl ⟨by omega, by omega⟩ (fun _ => ?_) (fun hc => absurd (show k < 0 by omega) hc)
      refine J.run0 3 rfl ?_
      try dsimp only
      exact J.retv rfl rfl rfl ⟨_, rfl, rfl, rfl, hL, hE.num (by decide), rfl⟩
  | succ m ih =>
    intro k lv H hk hkb hL hB hp hE hlv
    have hB1 := hB.1
    have h0 : 0 ≤ k := by omega
    have ep := hp k h0 hkb
    have hbk := hB.2 (b - k) (by omega) (by omega)
    have b1 : 0 ≤ k ∧ k < 300 := by omega
    have b2 : 0 ≤ H.2.2.1 108 0 k ∧ H.2.2.1 108 0 k < 300 := by omega
    rcases hlv with rfl | ⟨x, rfl⟩
    all_goals
      refine J.run0 1 rfl ?_
      try dsimp only
      refine J.ifc rfl rfl rfl ⟨by omega, by omega⟩ (fun hc => absurd (show k < 0 from hc) (by omega)) (fun _ => ?_)
      refine J.run 8 rfl ⟨b1, b2⟩ ?_
      try dsimp only
      refine J.inv rfl rfl rfl rfl rfl rfl jDr rfl rfl rfl rfl rfl (j_due hL.2.2.2.1) ?_
      rintro v w H ⟨rfl, rfl, rfl⟩
      refine J.run0 2 rfl ?_
      try dsimp only
      refine J.run 8 rfl ⟨b1, b2⟩ ?_
      try dsimp only
      have em : H.2.2.1 58 0 (H.2.2.1 108 0 k) = 0 := by rw [ep]; exact hbk.2.2.1
      refine J.icmp rfl rfl rfl ⟨⟨by decide, by decide⟩, show -2147483648 ≤ H.2.2.1 58 0 (H.2.2.1 108 0 k) by omega, show H.2.2.1 58 0 (H.2.2.1 108 0 k) ≤ 2147483647 by omega⟩ (fun _ => ?_) (fun hc => absurd (show H.2.2.1 58 0 (H.2.2.1 108 0 k) ≤ 0 by omega) hc)
      refine J.run0 2 rfl ?_
      try dsimp only
      exact ih (k + -1) _ H (by omega) (by omega) hL hB hp hE (Or.inr ⟨_, rfl⟩)
theorem j_state_l1 {B b : Int} (H0 : jH) (hb : 0 ≤ b ∧ b < B) : ∀ (m : Nat) (k n : Int) (H : jH), k = m → n + k = b → 0 ≤ n → rB H B → (∀ j, 0 ≤ j → j < n → H.2.2.1 108 0 j = b - j) → jEx sF sK H H0 →
    J true (d + 1) 116 w (13, [(3, .inl k), (2, .inl n), (0, jT), (1, .inl b)], [], H) (jN fun v w' H' => v = none ∧ w' = w ∧ rLed H' ∧ jEx sF sK H' H0 ∧ H'.1 11 48 0 = b) := by
  intro m
  induction m with
  | zero =>
    intro k n H hk hn h0 hB hp hE
    have hB1 := hB.1
    refine J.run0 1 rfl ?_
    try dsimp only
    refine J.ifc rfl rfl rfl ⟨by omega, by omega⟩ (fun _ => ?_) (fun hc => absurd (show k ≤ 0 by omega) hc)
    refine J.run0 1 rfl ?_
    try dsimp only
    refine J.inv rfl rfl rfl rfl rfl rfl jDr rfl rfl rfl rfl rfl j_first ?_
    rintro v w' H' ⟨rfl, rfl, hL, hE1⟩
    refine J.run0 4 rfl ?_
    try dsimp only
    obtain rfl : n = b := by omega
    refine j_state_l2 H0 hb n.toNat (n - 1) _ H' (by omega) (by omega) hL (hB.ex hE1 (by decide)) ?_ (hE1.trans hE (by decide) (by decide)) (Or.inl rfl)
    rw [hE1.r 108 (by decide)]
    exact hp
  | succ m ih =>
    intro k n H hk hn h0 hB hp hE
    have hB1 := hB.1
    have hpk := (hB.2 k (by omega) (by omega)).2.1
    refine J.run0 1 rfl ?_
    try dsimp only
    refine J.ifc rfl rfl rfl ⟨by omega, by omega⟩ (fun hc => absurd (show k ≤ 0 from hc) (by omega)) (fun _ => ?_)
    refine J.run 12 rfl ⟨⟨h0, show n < 300 by omega⟩, show 0 ≤ k by omega, show k < 300 by omega⟩ ?_
    try dsimp only
    have h9 := ih (k - 1) (n + 1) (H.1, H.2.1, jsetR H.2.2.1 108 0 (jup (H.2.2.1 108 0) n k), H.2.2.2) (by omega) (by omega) (by omega) (hB.ex ((jEx.refl [] [108] H).row (by decide)) (by decide)) (fun j a b' => ?_) (hE.row (by decide))
    · rw [← hpk] at h9
      exact h9
    · show jup (H.2.2.1 108 0) n k j = _
      unfold jup
      by_cases hj : j = n
      · rw [if_pos hj]; omega
      · rw [if_neg hj]
        exact hp j a (by omega)
theorem j_state {B b : Int} (hL : rLed H) (hB : rB H B) (hb : 0 ≤ b ∧ b < B) (hd : -1 ≤ H.1 11 48 0 ∧ H.1 11 48 0 < 300) :
    J true (d + 1) 116 w (0, jargs 0 [jT, .inl b], [], H) (jN fun v w' H' => v = none ∧ w' = w ∧ rLed H' ∧ jEx sF sK H' H ∧ H'.1 11 48 0 = b) := by
  have hB1 := hB.1
  refine J.run0 3 rfl ?_
  try dsimp only
  refine J.icmp rfl rfl rfl ⟨⟨show -2147483648 ≤ H.1 11 48 0 by omega, show H.1 11 48 0 ≤ 2147483647 by omega⟩, by omega, by omega⟩ (fun _ => ?_) (fun hc => ?_)
  · refine J.run0 4 rfl ?_
    try dsimp only
    exact j_state_l1 H hb b.toNat b 0 H (by omega) (by omega) (by omega) hB (fun j a c => by omega) (jEx.refl _ _ _)
  · exact J.retv rfl rfl rfl ⟨_, rfl, rfl, rfl, hL, jEx.refl _ _ _, Classical.not_not.mp hc⟩
end JM5
