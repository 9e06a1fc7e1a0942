/-! the reference's constructor: STATE 0, BLOCK 0's POWERS -/
section RZ
variable {d : Nat} {w : jW} {H : jH}
theorem j_state0 (hd : H.1 11 48 0 = -1) : J true (d + 1) 116 w (0, jargs 0 [jT, .inl 0], [], H) (jN fun v w' H' => v = none ∧ w' = w ∧ rLed H' ∧ jEx sF sK H' H ∧ H'.1 11 48 0 = 0) := by
  refine J.run0 3 rfl ?_
  try dsimp only
  refine J.icmp rfl rfl rfl ⟨⟨show -2147483648 ≤ H.1 11 48 0 by omega, show H.1 11 48 0 ≤ 2147483647 by omega⟩, by omega, by omega⟩ (fun _ => ?_) (fun hc => absurd (show ¬ H.1 11 48 0 = 0 by omega) hc)
  refine J.run0 4 rfl ?_
  try dsimp only
  refine J.run0 1 rfl ?_
  try dsimp only
  refine J.ifc rfl rfl rfl ⟨by decide, by decide⟩ (fun _ => ?_) (fun hc => absurd (show (0 : Int) ≤ 0 by decide) hc)
  refine J.run0 1 rfl ?_
  try dsimp only
  refine J.inv rfl rfl rfl rfl rfl rfl jDr rfl rfl rfl rfl rfl j_first ?_
  rintro v w' H' ⟨rfl, rfl, hL, hE1⟩
  refine J.run0 4 rfl ?_
  try dsimp only
  refine J.run0 1 rfl ?_
  try dsimp only
  refine J.ifc rfl rfl rfl ⟨by decide, by decide⟩ (fun _ => ?_) (fun hc => absurd (show (0 : Int) - 1 < 0 by decide) hc)
  refine J.run0 3 rfl ?_
  try dsimp only
  exact J.retv rfl rfl rfl ⟨_, rfl, rfl, rfl, hL, (hE1.mono (by decide) (by decide)).num (by decide), rfl⟩
/-- what the rows hold when BLOCK 0 is made -/
def rNew (H : jH) (i : Int) : Prop := rLed H ∧ H.1 11 48 0 = 0 ∧ (∀ f, f ∉ [48, 56, 57, 12] → H.1 11 f 0 = 0) ∧ H.1 11 12 0 = 1 ∧ (∀ k, jcn k = true → k ∉ [99, 100, 101, 105, 108, 55, 57, 61, 60] → ∀ j, H.2.2.1 k 0 j = 0) ∧ H.2.2.1 55 0 0 = -1 ∧ H.2.2.1 57 0 0 = -1 ∧ H.2.2.1 61 0 0 = 1 ∧ (∀ j, j ≠ 0 → H.2.2.1 61 0 j = 0) ∧ ∀ j, 0 ≤ j → j < i → H.2.2.1 60 0 j = 100
set_option maxRecDepth 20000 in
theorem r_claims {Post : jO → jW → jH → Prop} {H0 : jH} (hnext : ∀ H', rNew H' 16 → jEx [] [60] H' H0 → J true (d + 2) 113 w (553, [(1, .inl 16), (0, jT)], [], H') Post) : ∀ (m i : Nat) (H : jH), i + m = 16 → rNew H i → jEx [] [60] H H0 → J true (d + 2) 113 w (530, [(1, .inl (i : Int)), (0, jT)], [], H) Post := by
  intro m
  induction m with
  | zero =>
    intro i H hi hN hE
    obtain rfl : i = 16 := by omega
    refine J.run0 2 rfl ?_
    try dsimp only
    exact J.icmp rfl rfl rfl ⟨⟨by decide, by decide⟩, by decide, by decide⟩ (fun _ => hnext H hN hE) (fun hc => absurd (show (16 : Int) ≤ (16 : Nat) by decide) hc)
  | succ m ih =>
    intro i H hi hN hE
    have i16 : (0 : Int) ≤ i ∧ (i : Int) < 16 := by omega
    obtain ⟨n1, n2, n3, n4, n5, n6, n7, n8, n9, n10⟩ := hN
    refine J.run0 2 rfl ?_
    try dsimp only
    refine J.icmp rfl rfl rfl ⟨⟨by omega, by omega⟩, by decide, by decide⟩ (fun hc => absurd (show (16 : Int) ≤ (i : Int) from hc) (by omega)) (fun _ => ?_)
    refine J.run0 5 rfl ?_
    try dsimp only
    refine J.inv rfl rfl rfl rfl rfl rfl jDr rfl rfl rfl rfl rfl (j_powerOf i16 (n1.2.2.1 i i16.1 i16.2).2) ?_
    rintro v w H ⟨rfl, rfl, rfl⟩
    have ej : jsum (H.2.2.1 100 0) (i : Int) 200 = 100 := by
      rw [jsum_100 n1.2.1 i16 200 (Nat.le_refl _), if_pos (by omega)]
    rw [ej]
    refine J.run 3 rfl ⟨i16.1, show (i : Int) < 4800 by omega⟩ ?_
    try dsimp only
    refine J.gn fun H1 hH1 => ?_
    have e1 : jEx [] [60] H1 H := by
      rw [hH1]
      refine jEx.row ?_ (by decide)
      exact jEx.refl _ _ _
    have v1 : H1.2.2.1 60 0 = jup (H.2.2.1 60 0) (i : Int) 100 := by
      rw [hH1]
      show jsetR H.2.2.1 60 0 (jup (H.2.2.1 60 0) (i : Int) 100) 60 0 = _
      rw [jsetR_eq]
    clear hH1
    have er : ∀ k, k ≠ 60 → H1.2.2.1 k 0 = H.2.2.1 k 0 := fun k hk => e1.r k fun z => hk (List.mem_singleton.mp z)
    have ev : ∀ f, H1.1 11 f 0 = H.1 11 f 0 := fun f => e1.v f fun z => (nomatch z)
    refine ih (i + 1) H1 (by omega) ⟨?_, ?_, fun f hf => ?_, ?_, fun k h50 hk j => ?_, ?_, ?_, ?_, fun j hj => ?_, fun j x y => ?_⟩ (e1.trans hE (fun _ h => h) (fun _ h => h))
    · unfold rLed
      rw [er _ (by decide), er _ (by decide), er _ (by decide), er _ (by decide), ev, ev]
      exact n1
    · rw [ev]; exact n2
    · rw [ev]; exact n3 f hf
    · rw [ev]; exact n4
    · rw [er k fun z => hk (by rw [z]; decide)]; exact n5 k h50 hk j
    · rw [er _ (by decide)]; exact n6
    · rw [er _ (by decide)]; exact n7
    · rw [er _ (by decide)]; exact n8
    · rw [er _ (by decide)]; exact n9 j hj
    · rw [v1]
      unfold jup
      by_cases hj : j = i
      · rw [if_pos hj]
      · rw [if_neg hj]
        exact n10 j x (by omega)
end RZ
