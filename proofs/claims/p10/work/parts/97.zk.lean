/-! all is forgotten -/
section GF
theorem gfg1 {g g' kn : Int → Int} {n k K x : Int} (h : ∀ z, 0 ≤ z → z < 6000 → g (6000 * n + z) = 1 → ∃ j, k ≤ j ∧ j < K ∧ kn (6000 * n + j) = z) (hx : x = 6000 * n + kn (6000 * n + k)) (e : g' = jup g x 0) : ∀ z, 0 ≤ z → z < 6000 → g' (6000 * n + z) = 1 → ∃ j, k + 1 ≤ j ∧ j < K ∧ kn (6000 * n + j) = z := by
  intro z h0 h1 hf
  rw [e] at hf
  unfold jup at hf
  by_cases hz : 6000 * n + z = x
  · rw [if_pos hz] at hf
    omega
  · rw [if_neg hz] at hf
    obtain ⟨j, a, b, c⟩ := h z h0 h1 hf
    refine ⟨j, ?_, b, c⟩
    by_cases hj : j = k
    · rw [hj] at c
      omega
    · omega
theorem gfg2 {g g' g0 : Int → Int} {n x : Int} (h : ∀ i, i < 6000 * n ∨ 6000 * n + 6000 ≤ i → g i = g0 i) (hx : 6000 * n ≤ x ∧ x < 6000 * n + 6000) (e : g' = jup g x 0) : ∀ i, i < 6000 * n ∨ 6000 * n + 6000 ≤ i → g' i = g0 i := by
  intro i hi
  rw [e]
  unfold jup
  rw [if_neg (by omega)]
  exact h i hi
theorem gfg3 {g g' g0 : Int → Int} {x : Int} (h : ∀ i, g0 i = 0 → g i = 0) (e : g' = jup g x 0) : ∀ i, g0 i = 0 → g' i = 0 := by
  intro i hi
  rw [e]
  unfold jup
  by_cases hz : i = x
  · rw [if_pos hz]
  · rw [if_neg hz]; exact h i hi
theorem jcnt_zero {g : Int → Int} : ∀ (m : Nat), (∀ j : Nat, j < m → g j = 0) → jcnt g m = 0
  | 0, _ => rfl
  | m + 1, h => by
    simp only [jcnt]
    rw [jcnt_zero m fun j hj => h j (by omega), h m (by omega)]
    rfl
theorem gK.forget {H H' : jH} (h : gK H) (hT : gT H') {n : Int} (hn : 0 ≤ n ∧ n < 16) (e1 : H'.2.2.1 70 0 = H.2.2.1 70 0) (e2 : H'.2.2.1 71 0 = jup (H.2.2.1 71 0) n 0) (e4 : H'.2.2.1 113 0 = jup (H.2.2.1 113 0) n 0) (f1 : ∀ z, 0 ≤ z → z < 6000 → ¬ H'.2.2.1 114 0 (6000 * n + z) = 1) (f2 : ∀ i, i < 6000 * n ∨ 6000 * n + 6000 ≤ i → H'.2.2.1 114 0 i = H.2.2.1 114 0 i) : gK H' := by
  intro n' h0 h1
  obtain ⟨k1, k2, k3⟩ := h n' h0 h1
  by_cases hn' : n' = n
  · subst hn'
    have q2 : H'.2.2.1 71 0 n' = 0 := by rw [e2]; exact if_pos rfl
    have q4 : H'.2.2.1 113 0 n' = 0 := by rw [e4]; exact if_pos rfl
    refine ⟨by omega, ?_, fun m' hm0 hm1 hf => absurd hf (f1 m' hm0 hm1)⟩
    rw [q2]
    refine (jcnt_zero 6000 fun j hj => ?_).symm
    have hr : 0 ≤ H'.2.2.1 114 0 (6000 * n' + j) ∧ H'.2.2.1 114 0 (6000 * n' + j) ≤ 1 := hT.1 114 _
    have := f1 j (by omega) (by omega)
    show H'.2.2.1 114 0 (6000 * n' + j) = 0
    omega
  · have q2 : H'.2.2.1 71 0 n' = H.2.2.1 71 0 n' := by rw [e2]; exact if_neg hn'
    have q4 : H'.2.2.1 113 0 n' = H.2.2.1 113 0 n' := by rw [e4]; exact if_neg hn'
    refine ⟨by omega, ?_, fun m' hm0 hm1 hf => ?_⟩
    · rw [q2, k2]
      refine jcnt_ext 6000 fun j hj => ?_
      exact (f2 (6000 * n' + j) (by omega)).symm
    · rw [f2 (6000 * n' + m') (by omega)] at hf
      rw [q2, e1]
      exact k3 m' hm0 hm1 hf
theorem gN.forget {H H' : jH} (h : gN H) (f3 : ∀ i, H.2.2.1 114 0 i = 0 → H'.2.2.1 114 0 i = 0) (e5 : H'.1 11 19 0 = H.1 11 19 0) : gN H' := by
  intro n m a b c d'
  rw [e5] at c
  exact f3 _ (h n m a b c d')
end GF
