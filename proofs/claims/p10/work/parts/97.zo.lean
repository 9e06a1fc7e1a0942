/-! what a NODE sees of POWERS -/
section GSet
theorem gq1 {g g' : Int → Int} {n k s x : Int} (h0 : 0 ≤ k) (h : s = jcnt (fun z => g (16 * n + z)) k.toNat) (e : g' = jup g (16 * n + k) x) : s + x = jcnt (fun z => g' (16 * n + z)) (k + 1).toNat := by
  have h1 : s = jcnt (fun z => g' (16 * n + z)) k.toNat := by
    rw [h]
    refine jcnt_ext _ fun j hj => ?_
    show g (16 * n + j) = g' (16 * n + j)
    rw [e]
    exact (if_neg (by omega)).symm
  have h2 := jcnt_succ (f := fun z => g' (16 * n + z)) h0 h1
  have h3 : g' (16 * n + k) = x := by rw [e]; exact if_pos rfl
  rw [← h2]
  show s + x = s + g' (16 * n + k)
  rw [h3]
theorem gq2 {g g' g0 : Int → Int} {n k x : Int} (hk : 0 ≤ k ∧ k < 16) (h : ∀ i, i < 16 * n ∨ 16 * n + 16 ≤ i → g i = g0 i) (e : g' = jup g (16 * n + k) x) : ∀ i, i < 16 * n ∨ 16 * n + 16 ≤ i → g' i = g0 i := by
  intro i hi
  rw [e]
  exact (if_neg (by omega)).trans (h i hi)
theorem gq3 {g g' g0 : Int → Int} {n x : Int} (h : ∀ i, i ≠ n → g i = g0 i) (e : g' = jup g n x) : ∀ i, i ≠ n → g' i = g0 i := by
  intro i hi
  rw [e]
  exact (if_neg hi).trans (h i hi)
theorem gQ.set {H H' : jH} {n : Int} (h : gQ H) (h1 : H'.2.2.1 111 0 n = jcnt (fun z => H'.2.2.1 110 0 (16 * n + z)) 16) (h2 : ∀ i, i < 16 * n ∨ 16 * n + 16 ≤ i → H'.2.2.1 110 0 i = H.2.2.1 110 0 i) (h3 : ∀ i, i ≠ n → H'.2.2.1 111 0 i = H.2.2.1 111 0 i) : gQ H' := by
  intro n' a b
  by_cases hn : n' = n
  · rw [hn]; exact h1
  · rw [h3 n' hn, h n' a b]
    refine jcnt_ext 16 fun j hj => ?_
    exact (h2 (16 * n' + j) (by omega)).symm
theorem gK.set {H H' : jH} {n : Int} (h : gK H) (e1 : H'.2.2.1 71 0 = H.2.2.1 71 0) (e2 : H'.2.2.1 114 0 = H.2.2.1 114 0) (e3 : H'.2.2.1 70 0 = H.2.2.1 70 0) (h1 : H'.2.2.1 113 0 n ≤ H.2.2.1 71 0 n) (h3 : ∀ i, i ≠ n → H'.2.2.1 113 0 i = H.2.2.1 113 0 i) : gK H' := by
  intro n' a b
  obtain ⟨k1, k2, k3⟩ := h n' a b
  rw [e1, e2, e3]
  refine ⟨?_, k2, k3⟩
  by_cases hn : n' = n
  · rw [hn]; exact h1
  · rw [h3 n' hn]; exact k1
end GSet
