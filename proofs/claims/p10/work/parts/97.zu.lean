/-! RECORDS and MESSAGES, carried along -/
section GWm
theorem gWm.ex {fs ks : List Nat} {H H1 : jH} (h : gW H (H.1 11 19 0)) (hE : jEx fs ks H1 H) (hk : (83 ∉ ks ∧ 73 ∉ ks ∧ 74 ∉ ks ∧ 87 ∉ ks ∧ 90 ∉ ks ∧ 85 ∉ ks) ∧ 19 ∉ fs) : gW H1 (H1.1 11 19 0) := by
  rw [hE.v 19 hk.2]
  exact gW.ex h hE hk.1
theorem gWm.round {H : jH} {M x y : Int} (h : gW H M) (hx : H.2.2.1 83 0 x ≤ 3 * y + H.2.2.1 74 0 x + 1) : gW (H.1, H.2.1, jsetR H.2.2.1 73 0 (jup (H.2.2.1 73 0) x y), H.2.2.2) M := by
  intro n a b
  obtain ⟨q1, q2, q3⟩ := h n a b
  refine ⟨?_, q2, q3⟩
  show H.2.2.1 83 0 n ≤ 3 * jup (H.2.2.1 73 0) x y n + H.2.2.1 74 0 n + 1
  unfold jup
  by_cases hn : n = x
  · rw [if_pos hn, hn]; exact hx
  · rw [if_neg hn]; exact q1
theorem gWm.step {H : jH} {M x y : Int} (h : gW H M) (hx : H.2.2.1 83 0 x ≤ 3 * H.2.2.1 73 0 x + y + 1) : gW (H.1, H.2.1, jsetR H.2.2.1 74 0 (jup (H.2.2.1 74 0) x y), H.2.2.2) M := by
  intro n a b
  obtain ⟨q1, q2, q3⟩ := h n a b
  refine ⟨?_, q2, q3⟩
  show H.2.2.1 83 0 n ≤ 3 * H.2.2.1 73 0 n + jup (H.2.2.1 74 0) x y n + 1
  unfold jup
  by_cases hn : n = x
  · rw [if_pos hn, hn]; exact hx
  · rw [if_neg hn]; exact q1
/-- none is left -/
theorem gWm.zero {H : jH} {M x : Int} (h : gW H M) (hT : gT H) : gW (H.1, H.2.1, jsetR H.2.2.1 83 0 (jup (H.2.2.1 83 0) x 0), H.2.2.2) M := by
  intro n a b
  obtain ⟨q1, q2, q3⟩ := h n a b
  have r1 : 0 ≤ H.2.2.1 73 0 n ∧ H.2.2.1 73 0 n ≤ 31 := hT.1 73 n
  have r2 : 0 ≤ H.2.2.1 74 0 n ∧ H.2.2.1 74 0 n ≤ 2 := hT.1 74 n
  show jup (H.2.2.1 83 0) x 0 n ≤ 3 * H.2.2.1 73 0 n + H.2.2.1 74 0 n + 1 ∧ (∀ i, 0 ≤ i → i < jup (H.2.2.1 83 0) x 0 n → _) ∧ ∀ i j, 0 ≤ i → i < j → j < jup (H.2.2.1 83 0) x 0 n → _
  unfold jup
  by_cases hn : n = x
  · rw [if_pos hn]
    exact ⟨by omega, fun i c d => by omega, fun i j c d e => by omega⟩
  · rw [if_neg hn]; exact ⟨q1, q2, q3⟩
end GWm
section GX2
theorem gX.submit {H H' : jH} {x x2 x3 kd b v : Int} (h : gX H) (e1 : H'.2.2.1 50 0 = jup (H.2.2.1 50 0) x kd) (e2 : H'.2.2.1 52 0 = jup (H.2.2.1 52 0) x2 b) (e3 : H'.2.2.1 53 0 = jup (H.2.2.1 53 0) x3 v) (q2 : x2 = x) (q3 : x3 = x) (h1 : kd = 0 → b ≤ 199) (h2 : 1 ≤ kd → kd ≤ 3 → b ≤ 15) (h3 : kd ≠ 3 → 0 ≤ v ∧ v ≤ 1000000) (h4 : kd = 4 → v ≤ 5999) : gX H' := by
  subst q2 q3
  intro t
  rw [e1, e2, e3]
  unfold jup
  by_cases ht : t = x3
  · rw [if_pos ht, if_pos ht, if_pos ht]; exact ⟨h1, h2, h3, h4⟩
  · rw [if_neg ht, if_neg ht, if_neg ht]; exact h t
end GX2
section GV
/-- of one NODE the ROUND and STEP are just written anew -/
def gV (H : jH) (M m : Int) : Prop := ∀ n, 0 ≤ n → n < 16 → (n ≠ m → H.2.2.1 83 0 n ≤ 3 * H.2.2.1 73 0 n + H.2.2.1 74 0 n + 1) ∧ (∀ i, 0 ≤ i → i < H.2.2.1 83 0 n → i ≤ 3 * H.2.2.1 87 0 (128 * n + i) + H.2.2.1 90 0 (128 * n + i) ∧ H.2.2.1 85 0 (128 * n + i) < M) ∧ ∀ i j, 0 ≤ i → i < j → j < H.2.2.1 83 0 n → H.2.2.1 85 0 (128 * n + i) = H.2.2.1 85 0 (128 * n + j) → H.2.2.1 85 0 (128 * n + i) = -1
variable {H H' : jH} {M m y : Int}
theorem gV.of (h : gW H M) : gV H M m := fun n a b => ⟨fun _ => (h n a b).1, (h n a b).2⟩
theorem gV.back (h : gV H M m) (hr : H.2.2.1 83 0 m ≤ 3 * H.2.2.1 73 0 m + H.2.2.1 74 0 m + 1) : gW H M := fun n a b => ⟨by
  by_cases hn : n = m
  · rw [hn]; exact hr
  · exact (h n a b).1 hn, (h n a b).2⟩
theorem gV.round (h : gV H M m) : gV (H.1, H.2.1, jsetR H.2.2.1 73 0 (jup (H.2.2.1 73 0) m y), H.2.2.2) M m := fun n a b => ⟨fun hn => by
  show H.2.2.1 83 0 n ≤ 3 * jup (H.2.2.1 73 0) m y n + H.2.2.1 74 0 n + 1
  unfold jup
  rw [if_neg hn]
  exact (h n a b).1 hn, (h n a b).2⟩
theorem gV.step (h : gV H M m) : gV (H.1, H.2.1, jsetR H.2.2.1 74 0 (jup (H.2.2.1 74 0) m y), H.2.2.2) M m := fun n a b => ⟨fun hn => by
  show H.2.2.1 83 0 n ≤ 3 * H.2.2.1 73 0 n + jup (H.2.2.1 74 0) m y n + 1
  unfold jup
  rw [if_neg hn]
  exact (h n a b).1 hn, (h n a b).2⟩
/-- a RECORD's MESSAGE is sent after all -/
theorem gWm.msg {H : jH} {M M' x y : Int} (h : gW H M) (hy : y = M) (hM : M' = M + 1) : gW (H.1, H.2.1, jsetR H.2.2.1 85 0 (jup (H.2.2.1 85 0) x y), H.2.2.2) M' := by
  subst hy hM
  intro n a b
  obtain ⟨q1, q2, q3⟩ := h n a b
  refine ⟨q1, fun i c e => ⟨(q2 i c e).1, ?_⟩, fun i j c e f => ?_⟩
  · show jup (H.2.2.1 85 0) x y (128 * n + i) < y + 1
    have := (q2 i c e).2
    unfold jup
    by_cases hx : 128 * n + i = x
    · rw [if_pos hx]; omega
    · rw [if_neg hx]; omega
  · show jup (H.2.2.1 85 0) x y (128 * n + i) = jup (H.2.2.1 85 0) x y (128 * n + j) → jup (H.2.2.1 85 0) x y (128 * n + i) = -1
    have h1 := (q2 i c (by have f' : j < H.2.2.1 83 0 n := f; omega)).2
    have h2 := (q2 j (by omega) f).2
    unfold jup
    by_cases hx : 128 * n + i = x
    · rw [if_pos hx, if_neg (by omega)]; intro z; omega
    · rw [if_neg hx]
      by_cases hx2 : 128 * n + j = x
      · rw [if_pos hx2]; intro z; omega
      · rw [if_neg hx2]; exact q3 i j c e f
theorem gK.none {n : Int} (h : gK H) (hT : gT H) (hn : 0 ≤ n ∧ n < 16) (h0 : H.2.2.1 71 0 n = 0) : ∀ z, 0 ≤ z → z < 6000 → H.2.2.1 114 0 (6000 * n + z) = 0 := by
  intro z a b
  have hr : 0 ≤ H.2.2.1 114 0 (6000 * n + z) ∧ H.2.2.1 114 0 (6000 * n + z) ≤ 1 := hT.1 114 _
  by_cases h1 : H.2.2.1 114 0 (6000 * n + z) = 1
  · obtain ⟨k, c, e, _⟩ := (h n hn.1 hn.2).2.2 z a b h1
    omega
  · omega
theorem gst1 {n i k : Int} (hW : gW H M) (hn : 0 ≤ n ∧ n < 16) (hk : k < 128 * n + H.2.2.1 83 0 n) (hi : 128 * n ≤ i) (h : ∀ j, i ≤ j → j ≤ k → 0 ≤ H.2.2.1 85 0 j → H.2.2.1 114 0 (6000 * n + H.2.2.1 85 0 j) = 0) (h0 : 0 ≤ H.2.2.1 85 0 i) (e1 : H'.2.2.1 85 0 = H.2.2.1 85 0) (e2 : ∀ z, z ≠ 6000 * n + H.2.2.1 85 0 i → H'.2.2.1 114 0 z = H.2.2.1 114 0 z) : ∀ j, i + 1 ≤ j → j ≤ k → 0 ≤ H'.2.2.1 85 0 j → H'.2.2.1 114 0 (6000 * n + H'.2.2.1 85 0 j) = 0 := by
  intro j a b
  rw [e1]
  intro c
  have q := (hW n hn.1 hn.2).2.2 (i - 128 * n) (j - 128 * n) (by omega) (by omega) (by omega)
  rw [show 128 * n + (i - 128 * n) = i by omega, show 128 * n + (j - 128 * n) = j by omega] at q
  rw [e2 _ (fun z => by have := q (by omega); omega)]
  exact h j (by omega) b c
theorem gst2 {n i k y : Int} (hW : gW H M) (hn : 0 ≤ n ∧ n < 16) (hk : k < 128 * n + H.2.2.1 83 0 n) (hi : 128 * n ≤ i) (h : ∀ j, i ≤ j → j ≤ k → 0 ≤ H.2.2.1 85 0 j → H.2.2.1 114 0 (6000 * n + H.2.2.1 85 0 j) = 0) (e1 : H'.2.2.1 85 0 = jup (H.2.2.1 85 0) i y) (e2 : ∀ z, z ≠ 6000 * n + M → H'.2.2.1 114 0 z = H.2.2.1 114 0 z) : ∀ j, i + 1 ≤ j → j ≤ k → 0 ≤ H'.2.2.1 85 0 j → H'.2.2.1 114 0 (6000 * n + H'.2.2.1 85 0 j) = 0 := by
  intro j a b
  rw [e1]
  unfold jup
  rw [if_neg (by omega)]
  intro c
  have q := ((hW n hn.1 hn.2).2.1 (j - 128 * n) (by omega) (by omega)).2
  rw [show 128 * n + (j - 128 * n) = j by omega] at q
  rw [e2 _ (by omega)]
  exact h j (by omega) b c
end GV
