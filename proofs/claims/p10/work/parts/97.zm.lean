/-! RECORDS: of each ROUND and STEP one at most -/
section GW
def gW (H : jH) (M : Int) : Prop := ∀ n, 0 ≤ n → n < 16 → H.2.2.1 83 0 n ≤ 3 * H.2.2.1 73 0 n + H.2.2.1 74 0 n + 1 ∧ (∀ i, 0 ≤ i → i < H.2.2.1 83 0 n → i ≤ 3 * H.2.2.1 87 0 (128 * n + i) + H.2.2.1 90 0 (128 * n + i) ∧ H.2.2.1 85 0 (128 * n + i) < M) ∧ ∀ i j, 0 ≤ i → i < j → j < H.2.2.1 83 0 n → H.2.2.1 85 0 (128 * n + i) = H.2.2.1 85 0 (128 * n + j) → H.2.2.1 85 0 (128 * n + i) = -1
theorem gW.ex {fs ks : List Nat} {H H1 : jH} {M : Int} (h : gW H M) (hE : jEx fs ks H1 H) (hk : 83 ∉ ks ∧ 73 ∉ ks ∧ 74 ∉ ks ∧ 87 ∉ ks ∧ 90 ∉ ks ∧ 85 ∉ ks) : gW H1 M := by
  unfold gW at h ⊢
  rw [hE.r 83 hk.1, hE.r 73 hk.2.1, hE.r 74 hk.2.2.1, hE.r 87 hk.2.2.2.1, hE.r 90 hk.2.2.2.2.1, hE.r 85 hk.2.2.2.2.2]
  exact h
theorem gW.mono {H : jH} {M M' : Int} (h : gW H M) (hM : M ≤ M') : gW H M' := by
  intro n a b
  obtain ⟨q1, q2, q3⟩ := h n a b
  exact ⟨q1, fun i c d => ⟨(q2 i c d).1, by have := (q2 i c d).2; omega⟩, q3⟩
/-- behind the RECORDS anything may be written -/
theorem gW.out {H H' : jH} {M n c a1 a2 a3 : Int} (h : gW H M) (hT : gT H) (hn : 0 ≤ n ∧ n < 16) (hc : H.2.2.1 83 0 n ≤ c ∧ c < 128) (e0 : H'.2.2.1 83 0 = H.2.2.1 83 0 ∧ H'.2.2.1 73 0 = H.2.2.1 73 0 ∧ H'.2.2.1 74 0 = H.2.2.1 74 0)
    (e1 : H'.2.2.1 87 0 = H.2.2.1 87 0 ∨ H'.2.2.1 87 0 = jup (H.2.2.1 87 0) (128 * n + c) a1) (e2 : H'.2.2.1 90 0 = H.2.2.1 90 0 ∨ H'.2.2.1 90 0 = jup (H.2.2.1 90 0) (128 * n + c) a2) (e3 : H'.2.2.1 85 0 = H.2.2.1 85 0 ∨ H'.2.2.1 85 0 = jup (H.2.2.1 85 0) (128 * n + c) a3) : gW H' M := by
  have hr : ∀ k, 0 ≤ H.2.2.1 83 0 k ∧ H.2.2.1 83 0 k ≤ 96 := fun k => hT.1 83 k
  have key : ∀ {g g' : Int → Int} {a n' i : Int}, (g' = g ∨ g' = jup g (128 * n + c) a) → 0 ≤ n' → n' < 16 → 0 ≤ i → i < H.2.2.1 83 0 n' → g' (128 * n' + i) = g (128 * n' + i) := by
    intro g g' a n' i e h0 h1 h2 h3
    have := hr n'
    have := hr n
    rcases e with e | e
    · rw [e]
    · rw [e]
      refine if_neg fun z => ?_
      have hnn : n' = n := by omega
      rw [hnn] at h3
      omega
  intro n' h0 h1
  obtain ⟨q1, q2, q3⟩ := h n' h0 h1
  rw [e0.1, e0.2.1, e0.2.2]
  refine ⟨q1, fun i h2 h3 => ?_, fun i j h2 h3 h4 => ?_⟩
  · rw [key e1 h0 h1 h2 h3, key e2 h0 h1 h2 h3, key e3 h0 h1 h2 h3]
    exact q2 i h2 h3
  · rw [key e3 h0 h1 h2 (by omega), key e3 h0 h1 (by omega) h4]
    exact q3 i j h2 h3 h4
/-- one RECORD more -/
theorem gW.inc {H H' : jH} {M M' n : Int} (h : gW H M) (hM : M ≤ M') (e0 : H'.2.2.1 83 0 = jup (H.2.2.1 83 0) n (H.2.2.1 83 0 n + 1) ∧ H'.2.2.1 73 0 = H.2.2.1 73 0 ∧ H'.2.2.1 74 0 = H.2.2.1 74 0 ∧ H'.2.2.1 87 0 = H.2.2.1 87 0 ∧ H'.2.2.1 90 0 = H.2.2.1 90 0 ∧ H'.2.2.1 85 0 = H.2.2.1 85 0)
    (h1 : H.2.2.1 83 0 n ≤ 3 * H.2.2.1 73 0 n + H.2.2.1 74 0 n) (h2 : H.2.2.1 83 0 n ≤ 3 * H.2.2.1 87 0 (128 * n + H.2.2.1 83 0 n) + H.2.2.1 90 0 (128 * n + H.2.2.1 83 0 n)) (h3 : H.2.2.1 85 0 (128 * n + H.2.2.1 83 0 n) = -1 ∨ H.2.2.1 85 0 (128 * n + H.2.2.1 83 0 n) = M ∧ M < M') (hM0 : 0 ≤ M') : gW H' M' := by
  obtain ⟨e1, e2, e3, e4, e5, e6⟩ := e0
  intro n' a b
  obtain ⟨q1, q2, q3⟩ := h n' a b
  rw [e1, e2, e3, e4, e5, e6]
  unfold jup
  by_cases hn : n' = n
  · subst hn
    rw [if_pos rfl]
    refine ⟨by omega, fun i c d => ?_, fun i j c d e => ?_⟩
    · by_cases hi : i = H.2.2.1 83 0 n'
      · rw [hi]
        exact ⟨h2, by omega⟩
      · have := q2 i c (by omega)
        exact ⟨this.1, by omega⟩
    · by_cases hj : j = H.2.2.1 83 0 n'
      · rw [hj]
        intro z
        have := (q2 i c (by omega)).2
        omega
      · exact q3 i j c d (by omega)
  · rw [if_neg hn]
    exact ⟨q1, fun i c d => ⟨(q2 i c d).1, by have := (q2 i c d).2; omega⟩, q3⟩
theorem gW.rec {H H' : jH} {M M' n r s y : Int} (hy : y = H.2.2.1 83 0 n + 1) (h : gW H M) (hT : gT H) (hn : 0 ≤ n ∧ n < 16) (h1 : H.2.2.1 83 0 n ≤ 3 * H.2.2.1 73 0 n + H.2.2.1 74 0 n) (hr : H.2.2.1 83 0 n ≤ 3 * r + s) (e0 : H'.2.2.1 83 0 = jup (H.2.2.1 83 0) n y) (e1 : H'.2.2.1 73 0 = H.2.2.1 73 0) (e2 : H'.2.2.1 74 0 = H.2.2.1 74 0) (e3 : H'.2.2.1 87 0 = jup (H.2.2.1 87 0) (128 * n + H.2.2.1 83 0 n) r) (e4 : H'.2.2.1 90 0 = jup (H.2.2.1 90 0) (128 * n + H.2.2.1 83 0 n) s) (e5 : ∀ z, z ≠ 128 * n + H.2.2.1 83 0 n → H'.2.2.1 85 0 z = H.2.2.1 85 0 z) (h3 : H'.2.2.1 85 0 (128 * n + H.2.2.1 83 0 n) = -1 ∨ H'.2.2.1 85 0 (128 * n + H.2.2.1 83 0 n) = M ∧ M < M') (hM : M ≤ M') (hM0 : 0 ≤ M') : gW H' M' := by
  subst hy
  have hk := (show 0 ≤ H.2.2.1 83 0 n ∧ H.2.2.1 83 0 n ≤ 96 from hT.1 83 n)
  have e6 : H'.2.2.1 85 0 = jup (H.2.2.1 85 0) (128 * n + H.2.2.1 83 0 n) (H'.2.2.1 85 0 (128 * n + H.2.2.1 83 0 n)) := by
    funext z
    unfold jup
    by_cases hz : z = 128 * n + H.2.2.1 83 0 n
    · rw [if_pos hz, hz]
    · rw [if_neg hz]; exact e5 z hz
  have hm : gW (H.1, H.2.1, jsetR (jsetR (jsetR H.2.2.1 87 0 (H'.2.2.1 87 0)) 90 0 (H'.2.2.1 90 0)) 85 0 (H'.2.2.1 85 0), H.2.2.2) M :=
    gW.out (n := n) (c := H.2.2.1 83 0 n) h hT hn ⟨Int.le_refl _, by omega⟩ ⟨rfl, rfl, rfl⟩ (Or.inr e3) (Or.inr e4) (Or.inr e6)
  refine gW.inc (n := n) hm hM ⟨e0, e1, e2, rfl, rfl, rfl⟩ h1 ?_ h3 hM0
  show H.2.2.1 83 0 n ≤ 3 * H'.2.2.1 87 0 (128 * n + H.2.2.1 83 0 n) + H'.2.2.1 90 0 (128 * n + H.2.2.1 83 0 n)
  rw [e3, e4]
  show _ ≤ 3 * (if _ = _ then _ else _) + (if _ = _ then _ else _)
  rw [if_pos rfl, if_pos rfl]
  exact hr
theorem gW.not {H H' : jH} {M n r s : Int} (h : gW H M) (hT : gT H) (hn : 0 ≤ n ∧ n < 16) (e0 : H'.2.2.1 83 0 = H.2.2.1 83 0) (e1 : H'.2.2.1 73 0 = H.2.2.1 73 0) (e2 : H'.2.2.1 74 0 = H.2.2.1 74 0) (e3 : H'.2.2.1 87 0 = jup (H.2.2.1 87 0) (128 * n + H.2.2.1 83 0 n) r) (e4 : H'.2.2.1 90 0 = jup (H.2.2.1 90 0) (128 * n + H.2.2.1 83 0 n) s) (e5 : ∀ z, z ≠ 128 * n + H.2.2.1 83 0 n → H'.2.2.1 85 0 z = H.2.2.1 85 0 z) : gW H' M := by
  have hk := (show 0 ≤ H.2.2.1 83 0 n ∧ H.2.2.1 83 0 n ≤ 96 from hT.1 83 n)
  have e6 : H'.2.2.1 85 0 = jup (H.2.2.1 85 0) (128 * n + H.2.2.1 83 0 n) (H'.2.2.1 85 0 (128 * n + H.2.2.1 83 0 n)) := by
    funext z
    unfold jup
    by_cases hz : z = 128 * n + H.2.2.1 83 0 n
    · rw [if_pos hz, hz]
    · rw [if_neg hz]; exact e5 z hz
  exact gW.out (n := n) (c := H.2.2.1 83 0 n) h hT hn ⟨Int.le_refl _, by omega⟩ ⟨e0, e1, e2⟩ (Or.inr e3) (Or.inr e4) (Or.inr e6)
end GW
