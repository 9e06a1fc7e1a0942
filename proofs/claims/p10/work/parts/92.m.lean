/-! the reference's constructor: its NODES -/
section SA
variable {d : Nat} {w : jW} {H : jH}
abbrev zK : List Nat := [72, 73, 74, 79, 80, 83, 115, 71, 114, 84]
abbrev zF : List Nat := [19, 47, 4, 45]
/-- what holds while the NODES are made -/
def rMk (H : jH) (i : Nat) : Prop := (rLed H ∧ -1 ≤ H.1 11 48 0 ∧ H.1 11 48 0 < 300) ∧ H.1 11 12 0 = 1 ∧ (∀ f ∈ zF, H.1 11 f 0 = 0) ∧ rB H 1 ∧ (H.2.2.1 61 0 0 = 1 ∧ ∀ j, j ≠ 0 → H.2.2.1 61 0 j = 0) ∧ H.2.2.1 57 0 0 = -1 ∧ (∀ k ∈ zK, ∀ j, H.2.2.1 k 0 j = 0) ∧ ∀ n, n < i → rNd (1, 0, 0, 0, []) (zh zfresh) H n
theorem rNew.mk (h : rNew H 16) : rMk H 0 := by
  obtain ⟨n1, n2, n3, n4, n5, n6, n7, n8, n9, n10⟩ := h
  have g : ∀ k ∈ 56 :: 58 :: zK, ∀ j, H.2.2.1 k 0 j = 0 := by
    intro k hk
    have h9 : ∀ k ∈ 56 :: 58 :: zK, jcn k = true ∧ k ∉ [99, 100, 101, 105, 108, 55, 57, 61, 60] := by decide
    exact n5 k (h9 k hk).1 (h9 k hk).2
  refine ⟨⟨n1, by omega, by omega⟩, n4, fun f hf => n3 f ?_, ⟨⟨by decide, by decide⟩, fun b h0 h1 => ?_⟩, ⟨n8, n9⟩, n7, fun k hk => g k (List.mem_cons_of_mem _ (List.mem_cons_of_mem _ hk)), fun n hn => absurd hn (Nat.not_lt_zero _)⟩
  · have h9 : ∀ f ∈ zF, f ∉ [48, 56, 57, 12] := by decide
    exact h9 f hf
  · obtain rfl : b = 0 := by omega
    refine ⟨g _ (by decide) 0, n6, g _ (by decide) 0, fun k x y => n10 _ (by omega) (by omega)⟩
set_option maxRecDepth 20000 in
theorem r_nodes {Post : jO → jW → jH → Prop} (hnext : ∀ H', rMk H' 16 → J true (d + 3) 113 w (608, [(1, .inl 16), (0, jT)], [], H') Post) : ∀ (m i : Nat) (H : jH), i + m = 16 → rMk H i → J true (d + 3) 113 w (555, [(1, .inl (i : Int)), (0, jT)], [], H) Post := by
  intro m
  induction m with
  | zero =>
    intro i H hi hN
    obtain rfl : i = 16 := by omega
    refine J.run0 2 rfl ?_
    try dsimp only
    exact J.icmp rfl rfl rfl ⟨⟨by decide, by decide⟩, by decide, by decide⟩ (fun _ => hnext H hN) (fun hc => absurd (show (16 : Int) ≤ (16 : Nat) by decide) hc)
  | succ m ih =>
    intro i H hi hN
    have i16 : (0 : Int) ≤ i ∧ (i : Int) < 16 := by omega
    obtain ⟨⟨n1, n2, n3⟩, n4, n5, n6, n7, np, n8, n9⟩ := hN
    refine J.run0 2 rfl ?_
    try dsimp only
    refine J.icmp rfl rfl rfl ⟨⟨by omega, by omega⟩, by decide, by decide⟩ (fun hc => absurd (show (16 : Int) ≤ (i : Int) from hc) (by omega)) (fun _ => ?_)
    refine J.run 27 rfl ⟨i16, i16, i16, i16, i16⟩ ?_
    try dsimp only
    refine J.gn fun H1 hH1 => ?_
    have e1 : jEx [] [75, 76, 77, 78, 82] H1 H := by
      rw [hH1]
      refine jEx.row ?_ (by decide)
      refine jEx.row ?_ (by decide)
      refine jEx.row ?_ (by decide)
      refine jEx.row ?_ (by decide)
      refine jEx.row ?_ (by decide)
      exact jEx.refl _ _ _
    have v1 : H1.2.2.1 75 0 = jup (H.2.2.1 75 0) (i : Int) (-1) ∧ H1.2.2.1 76 0 = jup (H.2.2.1 76 0) (i : Int) (-1) ∧ H1.2.2.1 77 0 = jup (H.2.2.1 77 0) (i : Int) (-1) ∧ H1.2.2.1 78 0 = jup (H.2.2.1 78 0) (i : Int) (-1) ∧ H1.2.2.1 82 0 = jup (H.2.2.1 82 0) (i : Int) 13 := by
      rw [hH1]
      exact ⟨rfl, rfl, rfl, rfl, rfl⟩
    clear hH1
    have er : ∀ k, k ∉ [75, 76, 77, 78, 82] → H1.2.2.1 k 0 = H.2.2.1 k 0 := fun k hk => e1.r k hk
    have ev : ∀ f, H1.1 11 f 0 = H.1 11 f 0 := fun f => e1.v f fun z => (nomatch z)
    have L1 : rLed H1 := by
      unfold rLed
      rw [er _ (by decide), er _ (by decide), er _ (by decide), er _ (by decide), ev, ev]
      exact n1
    have B1 : rB H1 1 := n6.ex e1 (by decide)
    have hzk : ∀ k ∈ zK, k ∉ [75, 76, 77, 78, 82] ∧ k ∉ kS := by decide
    have z1 : ∀ k ∈ zK, ∀ j, H1.2.2.1 k 0 j = 0 := fun k hk j => by rw [er k (hzk k hk).1]; exact n8 k hk j
    refine J.inv rfl rfl rfl rfl rfl rfl jDr rfl rfl rfl rfl rfl (j_set (v := (1, 0, 0, 0, [])) (ht := zh zfresh) (B := 1) (by omega) L1 B1 ⟨by rw [ev]; exact n2, by rw [ev]; exact n3⟩ (z1 _ (by decide) _) (Nat.zero_le _) (fun j x h => (nomatch h)) (fun x h => (nomatch h)) (z1 _ (by decide) _) ⟨Nat.le_refl _, Int.le_refl _⟩) ?_
    rintro r w' H2 ⟨rfl, rfl, s1, s2, s3, s4, s5, s6, s7⟩
    refine J.run0 2 rfl ?_
    try dsimp only
    have fr : ∀ k, k ∉ kS → H2.2.2.1 k 0 = H1.2.2.1 k 0 := fun k hk => s1.r k hk
    have z2 : ∀ k ∈ zK, ∀ j, H2.2.2.1 k 0 j = 0 := fun k hk j => by rw [fr k (hzk k hk).2]; exact z1 k hk j
    have hzf : ∀ f ∈ 12 :: zF, f ∉ sF := by decide
    refine ih (i + 1) H2 (by omega) ⟨⟨s2, s3.1, s3.2⟩, ?_, fun f hf => ?_, B1.ex s1 (by decide), ⟨?_, fun j hj => ?_⟩, ?_, z2, fun n hn => ?_⟩
    · rw [s1.v _ (hzf _ (by decide)), ev]; exact n4
    · rw [s1.v _ (hzf _ (List.mem_cons_of_mem _ hf)), ev]; exact n5 f hf
    · rw [fr _ (by decide), er _ (by decide)]; exact n7.1
    · rw [fr _ (by decide), er _ (by decide)]; exact n7.2 j hj
    · rw [fr _ (by decide), er _ (by decide)]; exact np
    · by_cases hni : n = i
      · subst hni
        have q : ∀ k x, H1.2.2.1 k 0 (n : Int) = x → k ∉ kS → H2.2.2.1 k 0 (n : Int) = x := fun k x h hk => by rw [fr k hk]; exact h
        have u : ∀ (g : Int → Int) (x : Int), jup g (n : Int) x (n : Int) = x := fun g x => if_pos rfl
        have c1 : H2.2.2.1 75 0 (n : Int) = -1 := q _ _ (by rw [v1.1]; exact u _ _) (by decide)
        have c2 : H2.2.2.1 76 0 (n : Int) = -1 := q _ _ (by rw [v1.2.1]; exact u _ _) (by decide)
        have c3 : H2.2.2.1 77 0 (n : Int) = -1 := q _ _ (by rw [v1.2.2.1]; exact u _ _) (by decide)
        have c4 : H2.2.2.1 78 0 (n : Int) = -1 := q _ _ (by rw [v1.2.2.2.1]; exact u _ _) (by decide)
        have c5 : H2.2.2.1 82 0 (n : Int) = 13 := q _ _ (by rw [v1.2.2.2.2]; exact u _ _) (by decide)
        refine ⟨⟨z2 _ (by decide) _, z2 _ (by decide) _, z2 _ (by decide) _, Or.inl c1, by rw [c2]; decide, by rw [c3]; decide, by rw [c4]; decide, fun _ => ⟨c1, c2, c3, c4⟩, z2 _ (by decide) _⟩, ⟨z2 _ (by decide) _, z2 _ (by decide) _, c5, z2 _ (by decide) _, z2 _ (by decide) _⟩, ⟨z2 _ (by decide) _, fun j x h => (nomatch h), fun j hj => ?_⟩, s4, s5, s6⟩
        rw [z2 _ (by decide)]
        rfl
      · have old := n9 n (by omega)
        have ne : (n : Int) ≠ i := by omega
        have u : ∀ (g : Int → Int) (x : Int), jup g (i : Int) x (n : Int) = g n := fun g x => if_neg ne
        have o2 := s7 n hni (by omega)
        have o1 : rOth H1 H n := by
          refine ⟨fun k hk => ?_, fun k hk j _ _ => ?_, fun j _ _ => ?_⟩
          · by_cases h5 : k ∈ [75, 76, 77, 78, 82]
            · simp only [List.mem_cons, List.not_mem_nil, or_false] at h5
              rcases h5 with rfl | rfl | rfl | rfl | rfl
              · rw [v1.1, u]
              · rw [v1.2.1, u]
              · rw [v1.2.2.1, u]
              · rw [v1.2.2.2.1, u]
              · rw [v1.2.2.2.2, u]
            · rw [er k h5]
          · have h9 : ∀ k ∈ [70, 114, 112], k ∉ [75, 76, 77, 78, 82] := by decide
            rw [er k (h9 k hk)]
          · rw [er _ (by decide)]
        have o := o2.trans o1
        exact old.oth o (fun _ h => (nomatch h)) (Nat.zero_le _)
theorem rMk.inv (h : rMk H 16) : rInv zfresh H := by
  obtain ⟨⟨n1, n2, n3⟩, n4, n5, n6, n7, np, n8, n9⟩ := h
  refine ⟨⟨⟨n5 _ (by decide), n5 _ (by decide)⟩, fun i hi => absurd hi (Nat.not_lt_zero _)⟩, ⟨n4, n6, fun b h0 h1 => ?_, fun b h0 h1 => ?_, n7.1, fun b h1 _ => n7.2 b ?_, n1, ⟨n5 _ (by decide), n5 _ (by decide), fun b hb => ?_⟩, n2, n3⟩, fun n hn => n9 n hn⟩
  · by_cases hb : b = 0
    · rw [hb]; exact Or.inr n7.1
    · exact Or.inl (n7.2 b hb)
  · have : b + 1 < ((1 : Nat) : Int) := h1
    omega
  · have : ((1 : Nat) : Int) ≤ b := h1
    omega
  · have hb1 : b < 1 := hb
    obtain rfl : b = 0 := by omega
    exact np
end SA
