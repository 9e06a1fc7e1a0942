/-! the class's constructor -/
section CZ
variable {b : Bool} {d : Nat} {w : jW} {H : jH}
theorem c_genesis {l g : Nat} (h3 : w.1 3 l) (h21 : w.1 21 l) (hb : H.2.2.2.1 21 l 0 = some g) : J b d 11 w (0, jargs 0 [.inr (some (3, l))], [], H) (jN fun r w' H' => r = some (.inr (some (0, g))) ∧ w' = w ∧ H' = H) := by
  refine J.run 4 rfl ⟨⟨h3, h21⟩, h21, show (0 : Int) ≤ 0 by decide, show (0 : Int) < 300 by decide⟩ ?_
  try dsimp only
  try dsimp only
  rw [hb]
  exact J.reta rfl rfl rfl ⟨_, rfl, rfl, rfl, rfl⟩
/-- the NODES made so far -/
def cNs (w : jW) (H : jH) (x g i : Nat) (P L : Nat → Nat) : Prop :=
  (∀ m : Nat, m < i → H.2.2.2.1 40 x (m : Int) = some (P m) ∧ (∀ kd, cNd w (1, 0, 0, 0, []) kd H m (P m) (L m) g 0) ∧ H.1 6 6 (P m) = -1 ∧ H.1 6 7 (P m) = -1) ∧ ∀ m m', m < i → m' < i → (P m = P m' → m = m') ∧ (L m = L m' → m = m')
theorem c_nodes_l {x l g : Nat} {H0 : jH} {w0 : jW} {Post : jO → jW → jH → Prop} (h10 : w0.1 10 x) (hnd : w0.1 40 x) (hl : H0.2.2.2.2 10 0 x = l ∧ 0 < l) (hled : w0.1 3 l ∧ w0.1 21 l ∧ H0.2.2.2.1 21 l 0 = some g) (hg : 0 < g)
    (hnext : ∀ w' H' P L, jwM w0 w' → w'.2.1 ≤ w0.2.1 + 80 → w'.2.2 ≤ w0.2.2 + 8320 → jK [4, 6] (40 :: nR) H' H0 → cNs w' H' x g 16 P L → J b (d + 2) 70 w' (88, [(1, .inl 16), (0, .inr (some (10, x)))], [], H') Post) :
    ∀ (m i : Nat) (w : jW) (H : jH) (P L : Nat → Nat), i + m = 16 → jwM w0 w → w.2.1 ≤ w0.2.1 + 5 * i → w.2.2 ≤ w0.2.2 + 520 * i → jK [4, 6] (40 :: nR) H H0 → cNs w H x g i P L → J b (d + 2) 70 w (55, [(1, .inl (i : Int)), (0, .inr (some (10, x)))], [], H) Post := by
  intro m
  induction m with
  | zero =>
    intro i w H P L hi hM r1 r2 hK hN
    obtain rfl : i = 16 := by omega
    refine J.run0 2 rfl ?_
    try dsimp only
    exact J.icmp rfl rfl rfl ⟨⟨by decide, by decide⟩, by decide, by decide⟩ (fun _ => hnext w H P L hM r1 r2 hK hN) (fun hc => absurd (show (16 : Int) ≤ (16 : Nat) by decide) hc)
  | succ m ih =>
    intro i w H P L hi hM r1 r2 hK hN
    refine J.run0 2 rfl ?_
    try dsimp only
    refine J.icmp rfl rfl rfl ⟨⟨by omega, by omega⟩, by decide, by decide⟩ (fun hc => absurd (show (16 : Int) ≤ (i : Int) from hc) (by omega)) (fun _ => ?_)
    have a10 := hM _ _ h10
    have an := hM _ _ hnd
    refine J.run 3 rfl ⟨a10, an⟩ ?_
    try dsimp only
    refine J.nw rfl rfl rfl rfl rfl rfl rfl (jstP.push trivial (jstP.push (Or.inr ((jD_w rfl).mpr an)) (jstP.of rfl))) fun H1 hN1 hwc1 => ?_
    have hf1 : ∀ k, ¬ w.1 k w.2.1 := fun k h => by have := (hwc1.2 k _ h).1; omega
    have el : H1.2.2.2.2 10 0 x = l := by rw [(hN1.1 10 0 x fun z => absurd z.1 (by decide)).2.2, (hK.1 10 (by decide)).2.2]; exact hl.1
    have eb : H1.2.2.2.1 21 l 0 = some g := by rw [hN1.2.2.2, (hK.2 21 (by decide)).2]; exact hled.2.2
    refine J.run 4 rfl ⟨Or.inl a10, by rw [el]; exact hl.2⟩ ?_
    try dsimp only
    try dsimp only
    rw [el]
    refine J.invP rfl rfl rfl rfl rfl rfl ((jD_w rfl).mpr (Or.inl (hM _ _ hled.1))) rfl rfl rfl rfl (jstP.push trivial (jstP.push (Or.inl rfl) (jstP.push (Or.inl rfl) (jstP.push trivial (jstP.push (Or.inr ((jD_w rfl).mpr (Or.inl an))) (jstP.of rfl)))))) (c_genesis (Or.inl (hM _ _ hled.1)) (Or.inl (hM _ _ hled.2.1)) eb) ?_
    rintro r w1 H1' ⟨rfl, rfl, rfl⟩
    refine J.ini rfl rfl rfl (Or.inl rfl) rfl rfl rfl rfl rfl (jstP.push (Or.inl rfl) (jstP.push trivial (jstP.push (Or.inr ((jD_w rfl).mpr (Or.inl an))) (jstP.of rfl)))) (c_nodeInit (Or.inr ⟨rfl, rfl⟩) hwc1.1 (fun k h => by
      rcases h with h | h
      · exact absurd h (hf1 k)
      · exact h.1) hg (fun j => (hN1.2.1 j).1)) ?_
    rintro r w2 H2 ⟨rfl, hM2, c2, s2, k2, same2, nd2, cand2, -⟩
    have hMw : jwM w w2 := fun k p h => hM2 k p (Or.inl h)
    refine J.run 3 rfl ⟨hMw _ _ an, hM2 _ _ (Or.inr ⟨rfl, rfl⟩), show (0 : Int) ≤ (i : Int) by omega, show (i : Int) < 16 by omega⟩ ?_
    try dsimp only
    refine J.gn fun H3 hH3 => ?_
    have k3 : jK [] [40] H3 H2 := by
      rw [hH3]
      refine jK.rows ?_ (by decide)
      exact jK.refl _ _ _
    have v3 : H3.2.2.2.1 40 x = jup (H2.2.2.2.1 40 x) (i : Int) (some w.2.1) := by rw [hH3]; exact if_pos rfl
    clear hH3
    have e3 : ∀ c, H3.1 c = H2.1 c := fun c => (k3.1 c (fun h => (nomatch h))).1
    refine ih (i + 1) w2 H3 (va_up P i w.2.1) (va_up L i (w.2.1 + 1)) (by omega) (fun k p h => hMw k p (hM k p h)) ?_ ?_ ?_ ⟨fun m hm => ?_, fun m m' hm hm' => ?_⟩
    · exact Nat.le_trans (show w2.2.1 ≤ w.2.1 + 1 + 4 from Nat.le_of_eq c2) (by clear s2 c2; omega)
    · exact Nat.le_trans (show w2.2.2 ≤ w.2.2 + 17 + 500 from s2) (by clear s2 c2; omega)
    · exact k3.trans (k2.trans ((hN_k hN1).trans hK (by decide) (fun _ h => (nomatch h))) (by decide) (by decide)) (fun _ h => (nomatch h)) (by decide)
    · have eB : H3.2.2.2.1 40 x (m : Int) = if m = i then some w.2.1 else H.2.2.2.1 40 x (m : Int) := by
        rw [v3, (k2.2 40 (by decide)).2, hN1.2.2.2]
        unfold jup
        by_cases h : m = i
        · rw [if_pos (by omega), if_pos h]
        · rw [if_neg (by omega), if_neg h]
      by_cases hmi : m = i
      · subst hmi
        have eP : va_up P m w.2.1 m = w.2.1 := if_pos rfl
        have eL : va_up L m (w.2.1 + 1) m = w.2.1 + 1 := if_pos rfl
        rw [eP, eL, eB, if_pos rfl, e3]
        exact ⟨rfl, fun kd => (nd2 kd).mv (fun _ _ h => h) (nSame.of k3 (by decide) (by decide)) (fun _ _ => rfl), cand2⟩
      · have eP : va_up P i w.2.1 m = P m := if_neg hmi
        have eL : va_up L i (w.2.1 + 1) m = L m := if_neg hmi
        have old := hN.1 m (by omega)
        have d6 := (old.2.1 fun _ => 0).1
        have n1 : P m ≠ w.2.1 := fun z => hf1 6 (z ▸ d6.1)
        have n2 : L m ≠ w.2.1 + 1 := fun z => by
          have := (hwc1.2 4 (L m) d6.2.2.2.2.1).1
          omega
        have sm : nSame H3 H (P m) (L m) := by
          refine (nSame.of k3 (by decide) (by decide)).trans ((same2 _ _ n1 n2).trans ⟨fun j => ?_, fun j => ?_, ?_, ?_⟩)
          · have a := hN1.1 6 j (P m) fun z => n1 z.2
            exact ⟨a.1, a.2.2⟩
          · exact (hN1.1 4 j (L m) fun z => absurd z.1 (by decide)).1
          · rw [hN1.2.2.1]
          · rw [hN1.2.2.1]
        rw [eP, eL, eB, if_neg hmi, (sm.1 6).1, (sm.1 7).1]
        exact ⟨old.1, fun kd => (old.2.1 kd).mv hMw sm (fun _ _ => rfl), old.2.2⟩
    · have lt : ∀ q, q < i → P q < w.2.1 ∧ L q < w.2.1 := fun q hq => by
        have d6 := ((hN.1 q hq).2.1 fun _ => 0).1
        exact ⟨(hwc1.2 6 _ d6.1).1, (hwc1.2 4 _ d6.2.2.2.2.1).1⟩
      unfold va_up
      by_cases h1 : m = i
      · by_cases h2 : m' = i
        · exact ⟨fun _ => by omega, fun _ => by omega⟩
        · rw [if_pos h1, if_neg h2, if_pos h1, if_neg h2]
          have := lt m' (by omega)
          exact ⟨fun _ => by omega, fun _ => by omega⟩
      · by_cases h2 : m' = i
        · rw [if_neg h1, if_pos h2, if_neg h1, if_pos h2]
          have := lt m (by omega)
          exact ⟨fun _ => by omega, fun _ => by omega⟩
        · rw [if_neg h1, if_neg h2, if_neg h1, if_neg h2]
          exact hN.2 m m' (by omega) (by omega)
end CZ
