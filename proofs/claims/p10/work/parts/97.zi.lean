/-! a new BLOCK -/
section GI
theorem gT.blk {H : jH} {y : Int} (h : gT H) (h1 : H.1 11 12 0 ≤ y) (h2 : y ≤ 300) : gT (jupF H.1 11 12 0 y, H.2) := by
  have hb : 1 ≤ H.1 11 12 0 ∧ H.1 11 12 0 ≤ 300 := h.2.1 12
  refine ⟨h.1, fun f' => ?_, fun k i hk => ?_, fun f' hf => ?_⟩
  · show gvi f' (jupF H.1 11 12 0 y 11 f' 0)
    by_cases hk : f' = 12
    · subst hk
      rw [jupF_eq]
      exact (show 1 ≤ y ∧ y ≤ 300 from ⟨by omega, h2⟩)
    · rw [jupF_ne fun z => hk z.2.1]
      exact h.2.1 _
  · show H.2.2.1 k 0 i < jupF H.1 11 12 0 y 11 12 0
    rw [jupF_eq]
    have := h.2.2.1 k i hk
    omega
  · show jupF H.1 11 12 0 y 11 f' 0 < jupF H.1 11 12 0 y 11 12 0
    have hne : f' ≠ 12 := fun z => by rw [z] at hf; exact absurd hf (by decide)
    rw [jupF_eq, jupF_ne fun z => hne z.2.1]
    have := h.2.2.2 f' hf
    omega
theorem gP.made {H H' : jH} (h : gP H) {p q : Int} (hB : 1 ≤ H.1 11 12 0 ∧ H.1 11 12 0 < 300) (hp : 0 ≤ p ∧ p < H.1 11 12 0) (hq : 0 ≤ q) (e1 : H'.2.2.1 55 0 = jup (H.2.2.1 55 0) (H.1 11 12 0) p) (e2 : H'.2.2.1 56 0 = jup (H.2.2.1 56 0) (H.1 11 12 0) (H.2.2.1 56 0 p + 1)) (e3 : H'.2.2.1 57 0 = jup (H.2.2.1 57 0) (H.1 11 12 0) q) (e4 : H'.1 11 12 0 = H.1 11 12 0 + 1) : gP H' := by
  obtain ⟨a1, a2, a3, a4, a5, a6⟩ := h
  have ne : ∀ {g : Int → Int} {x b : Int}, b ≠ H.1 11 12 0 → jup g (H.1 11 12 0) x b = g b := fun hb => if_neg hb
  have eq : ∀ {g : Int → Int} {x : Int}, jup g (H.1 11 12 0) x (H.1 11 12 0) = x := if_pos rfl
  refine ⟨?_, fun b h1 h2 => ?_, ?_, fun b h1 h2 => ?_, fun b h1 h2 => ?_, fun b h1 => ?_⟩
  · rw [e1, ne (by omega)]; exact a1
  · rw [e1]
    by_cases hb : b = H.1 11 12 0
    · rw [hb, eq]; exact hp
    · rw [ne hb]; exact a2 b h1 h2
  · rw [e2, ne (by omega)]; exact a3
  · rw [e4] at h2
    rw [e1, e2]
    by_cases hb : b = H.1 11 12 0
    · rw [hb, eq, eq, ne (by omega)]
    · have := a2 b h1 (by omega)
      rw [ne hb, ne hb, ne (by omega)]
      exact a4 b h1 (by omega)
  · rw [e2]
    by_cases hb : b = H.1 11 12 0
    · have := a5 p hp.1 (by omega)
      rw [hb, eq]
      omega
    · rw [ne hb]; exact a5 b h1 h2
  · rw [e3]
    by_cases hb : b = H.1 11 12 0
    · rw [hb, eq]; exact hq
    · rw [ne hb]; exact a6 b h1
end GI
