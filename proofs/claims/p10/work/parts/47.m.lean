section JM7
variable {d : Nat} {w : jW} {H : jH}
abbrev kK : List Nat := [70, 71, 114, 112, 113]
theorem vNow_app (v : zV) (ht : Nat → Nat) (m : Nat) : vNow (v.1, v.2.1, v.2.2.1, v.2.2.2.1, v.2.2.2.2 ++ [m]) ht = vNow v ht ++ (if ht m = v.1 then [m] else []) := by
  unfold vNow
  rw [List.filter_append]
  congr 1
  by_cases h : ht m = v.1
  · rw [if_pos h]
    simp [h]
  · rw [if_neg h]
    simp [h]
theorem get_app {l : List Nat} {m j x : Nat} (h : (l ++ [m])[j]? = some x) : (j < l.length ∧ l[j]? = some x) ∨ (j = l.length ∧ x = m) := by
  by_cases hj : j < l.length
  · rw [List.getElem?_append_left hj] at h
    exact Or.inl ⟨hj, h⟩
  · have h1 := (List.getElem?_eq_some_iff.mp h).1
    rw [List.length_append, List.length_singleton] at h1
    obtain rfl : j = l.length := by omega
    rw [List.getElem?_append_right (Nat.le_refl _), Nat.sub_self] at h
    exact Or.inr ⟨rfl, (Option.some.inj h).symm⟩
theorem j_know {v : zV} {ht : Nat → Nat} {n m : Nat} (hn : n < 16) (hm : m < 6000) (hk : m ∉ v.2.2.2.2) (hl : v.2.2.2.2.length < 6000) (hN : rNd v ht H n) (hmh : H.2.2.1 65 0 m = ht m) (hh1 : ht m ≤ 1000) (hh2 : 1 ≤ v.1 ∧ v.1 ≤ 300) (hbh : H.2.2.1 56 0 (H.2.2.1 72 0 n) + 1 = v.1) :
    J true (d + 1) 130 w (0, jargs 0 [jT, .inl n, .inl m], [], H) (jN fun r w' H' => r = none ∧ w' = w ∧ jEx [] kK H' H ∧ rNd (v.1, v.2.1, v.2.2.1, v.2.2.2.1, v.2.2.2.2 ++ [m]) ht H' n ∧ ∀ n', n' ≠ n → n' < 16 → rOth H' H n') := by
  obtain ⟨⟨a1, a2, a3, a4, a5, a6, a7⟩, ⟨b1, b2, b3, b4, b5⟩, ⟨c1, c2, c3⟩, ⟨d1, d2⟩, e1, e2⟩ := hN
  have hn' : (0 : Int) ≤ n ∧ (n : Int) < 16 := by omega
  have hm' : (0 : Int) ≤ m ∧ (m : Int) < 6000 := by omega
  have i1 : 0 ≤ 6000 * (n : Int) + H.2.2.1 71 0 n ∧ 6000 * (n : Int) + H.2.2.1 71 0 n < 96000 := by omega
  have i2 : 0 ≤ 6000 * (n : Int) + (m : Int) ∧ 6000 * (n : Int) + (m : Int) < 96000 := by omega
  have hlast : 0 ≤ H.2.2.1 72 0 n ∧ H.2.2.1 72 0 n < 300 := by omega
  refine J.run 35 rfl ⟨hn', i1, hn', hn', ⟨Or.inr rfl, i2⟩, hm'⟩ ?_
  try dsimp only
  refine J.inv rfl rfl rfl rfl rfl rfl jDr rfl rfl rfl rfl rfl (j_height hn' hlast) ?_
  rintro r w' H' ⟨rfl, rfl, rfl⟩
  have hnl : (vNow v ht).length ≤ v.2.2.2.2.length := List.length_filter_le _ _
  have hoth : ∀ n', n' ≠ n → n' < 16 → rOth (((H.1, H.2.1, jsetR H.2.2.1 70 0 (jup (H.2.2.1 70 0) (6000 * (n : Int) + H.2.2.1 71 0 n) m), H.2.2.2) : jH).1, H.2.1, jsetR (jsetR (jsetR H.2.2.1 70 0 (jup (H.2.2.1 70 0) (6000 * (n : Int) + H.2.2.1 71 0 n) m)) 71 0 (jup (H.2.2.1 71 0) n (H.2.2.1 71 0 n + 1))) 114 0 (jup (H.2.2.1 114 0) (6000 * (n : Int) + m) 1), H.2.2.2) H n' := by
    intro n' h1 h2
    exact (((rOth.refl H n').up (k := 70) (i := 6000 * (n : Int) + H.2.2.1 71 0 n) (x := m) (Or.inr (by decide)) (Or.inl (by omega)) (Or.inr (by decide))).up (k := 71) (i := n) (x := H.2.2.1 71 0 n + 1) (Or.inl (by omega)) (Or.inr (by decide)) (Or.inr (by decide))).up (k := 114) (i := 6000 * (n : Int) + m) (x := 1) (Or.inr (by decide)) (Or.inl (by omega)) (Or.inr (by decide))
  have hEx : jEx [] kK ((H.1, H.2.1, jsetR (jsetR (jsetR H.2.2.1 70 0 (jup (H.2.2.1 70 0) (6000 * (n : Int) + H.2.2.1 71 0 n) m)) 71 0 (jup (H.2.2.1 71 0) n (H.2.2.1 71 0 n + 1))) 114 0 (jup (H.2.2.1 114 0) (6000 * (n : Int) + m) 1), H.2.2.2)) H := (((jEx.refl [] kK H).row (k := 70) (by decide)).row (k := 71) (by decide)).row (k := 114) (by decide)
  have ck : jup (H.2.2.1 71 0) n (H.2.2.1 71 0 n + 1) n = ((v.2.2.2.2 ++ [m]).length : Nat) := by
    unfold jup
    rw [if_pos rfl, c1, List.length_append, List.length_singleton]
    omega
  have cs : ∀ (j x : Nat), (v.2.2.2.2 ++ [m])[j]? = some x → jup (H.2.2.1 70 0) (6000 * (n : Int) + H.2.2.1 71 0 n) m (6000 * (n : Int) + j) = x := by
    intro j x hx
    unfold jup
    rcases get_app hx with ⟨h1, h2⟩ | ⟨h1, h2⟩
    · rw [if_neg (by omega)]
      exact c2 j x h2
    · rw [if_pos (by omega), h2]
  have ci : ∀ i : Nat, i < 6000 → jup (H.2.2.1 114 0) (6000 * (n : Int) + m) 1 (6000 * (n : Int) + i) = if i ∈ v.2.2.2.2 ++ [m] then 1 else 0 := by
    intro i hi
    unfold jup
    by_cases him : i = m
    · rw [if_pos (by omega), if_pos (by rw [him]; simp)]
    · rw [if_neg (by omega), c3 i hi]
      by_cases hiv : i ∈ v.2.2.2.2
      · rw [if_pos hiv, if_pos (List.mem_append_left _ hiv)]
      · rw [if_neg hiv, if_neg (fun z => ?_)]
        rcases List.mem_append.mp z with z | z
        · exact hiv z
        · exact him (List.mem_singleton.mp z)
  refine J.icmp rfl rfl rfl ⟨⟨show -2147483648 ≤ H.2.2.1 65 0 m by omega, show H.2.2.1 65 0 m ≤ 2147483647 by omega⟩, show -2147483648 ≤ H.2.2.1 56 0 (H.2.2.1 72 0 n) + 1 by omega, show H.2.2.1 56 0 (H.2.2.1 72 0 n) + 1 ≤ 2147483647 by omega⟩ (fun hc => ?_) (fun hc => ?_)
  · have hc' : ¬ ht m = v.1 := fun z => absurd (show H.2.2.1 65 0 m = H.2.2.1 56 0 (H.2.2.1 72 0 n) + 1 by omega) hc
    refine J.retv rfl rfl rfl ⟨_, rfl, rfl, rfl, hEx, ⟨⟨a1, a2, a3, a4, a5, a6, a7⟩, ⟨b1, b2, b3, b4, b5⟩, ⟨ck, cs, ci⟩, ⟨d1, d2⟩, ?_, ?_⟩, hoth⟩
    · rw [vNow_app, if_neg hc', List.append_nil]
      exact e1
    · rw [vNow_app, if_neg hc', List.append_nil]
      exact e2
  · have hc' : ht m = v.1 := by
      have : H.2.2.1 65 0 m = H.2.2.1 56 0 (H.2.2.1 72 0 n) + 1 := Classical.not_not.mp hc
      omega
    have i3 : 0 ≤ 6000 * (n : Int) + H.2.2.1 113 0 n ∧ 6000 * (n : Int) + H.2.2.1 113 0 n < 96000 := by omega
    refine J.run 17 rfl ⟨hn', hn', i3⟩ ?_
    try dsimp only
    refine J.retv rfl rfl rfl ⟨_, rfl, rfl, rfl, (hEx.row (k := 113) (by decide)).row (k := 112) (by decide), ⟨⟨a1, a2, a3, a4, a5, a6, a7⟩, ⟨b1, b2, b3, b4, b5⟩, ⟨ck, cs, ci⟩, ⟨d1, d2⟩, ?_, ?_⟩, fun n' h1 h2 => ?_⟩
    · rw [vNow_app, if_pos hc', List.length_append, List.length_singleton]
      show jup (H.2.2.1 113 0) n (H.2.2.1 113 0 n + 1) n = _
      unfold jup
      rw [if_pos rfl, e1]
      omega
    · rw [vNow_app, if_pos hc']
      intro j x hx
      show jup (H.2.2.1 112 0) (6000 * (n : Int) + H.2.2.1 113 0 n) m (6000 * (n : Int) + j) = x
      unfold jup
      rcases get_app hx with ⟨h1, h2⟩ | ⟨h1, h2⟩
      · rw [if_neg (by omega)]
        exact e2 j x h2
      · rw [if_pos (by omega), h2]
    · exact ((hoth n' h1 h2).up (k := 113) (i := n) (x := H.2.2.1 113 0 n + 1) (Or.inl (by omega)) (Or.inr (by decide)) (Or.inr (by decide))).up (k := 112) (i := 6000 * (n : Int) + H.2.2.1 113 0 n) (x := m) (Or.inr (by decide)) (Or.inl (by omega)) (Or.inr (by decide))
end JM7
