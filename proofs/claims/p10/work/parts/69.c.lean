/-! the class: STATES -/
section CE
variable {b : Bool} {d : Nat} {w : jW} {H : jH}
abbrev sR : List Nat := [32, 33, 34, 35, 36, 37, 38, 39]
/-- only a STATE's numbers and rows are changed -/
def sFr (H' H : jH) (s : Nat) : Prop := H'.2.1 = H.2.1 ∧ H'.2.2.2 = H.2.2.2 ∧ (∀ c j p, ¬ (c = 8 ∧ p = s ∧ j ∈ [4, 8, 9, 11]) → H'.1 c j p = H.1 c j p) ∧ ∀ k p, ¬ (p = s ∧ k ∈ sR) → H'.2.2.1 k p = H.2.2.1 k p
theorem sFr.refl (H : jH) (s : Nat) : sFr H H s := ⟨rfl, rfl, fun _ _ _ _ => rfl, fun _ _ _ => rfl⟩
theorem sFr.trans {H1 H2 H3 : jH} {s : Nat} (h : sFr H1 H2 s) (h' : sFr H2 H3 s) : sFr H1 H3 s := ⟨h.1.trans h'.1, h.2.1.trans h'.2.1, fun c j p hn => (h.2.2.1 c j p hn).trans (h'.2.2.1 c j p hn), fun k p hn => (h.2.2.2 k p hn).trans (h'.2.2.2 k p hn)⟩
theorem sFr.int {F : Nat → Nat → Nat → Int} {O : Nat → Nat → Nat → Option Nat} {R : Nat → Nat → Int → Int} {B : Nat → Nat → Int → Option Nat} {W : Nat → Nat → Nat → Nat} {s j : Nat} {x : Int} (h : sFr (F, O, R, B, W) H s) (hj : j ∈ [4, 8, 9, 11]) : sFr (jupF F 8 j s x, O, R, B, W) H s := by
  refine ⟨h.1, h.2.1, fun c j' p hn => ?_, h.2.2.2⟩
  exact (jupF_ne fun z => hn ⟨z.1, z.2.2, by rw [z.2.1]; exact hj⟩).trans (h.2.2.1 c j' p hn)
theorem sFr.row {F : Nat → Nat → Nat → Int} {O : Nat → Nat → Nat → Option Nat} {R : Nat → Nat → Int → Int} {B : Nat → Nat → Int → Option Nat} {W : Nat → Nat → Nat → Nat} {s k : Nat} {g : Int → Int} (h : sFr (F, O, R, B, W) H s) (hk : k ∈ sR) : sFr (F, O, jsetR R k s g, B, W) H s := by
  refine ⟨h.1, h.2.1, h.2.2.1, fun k' p hn => ?_⟩
  exact (jsetR_ne fun z => hn ⟨z.2, by rw [z.1]; exact hk⟩).trans (h.2.2.2 k' p hn)
theorem sFr.k {H' : jH} {s : Nat} (h : sFr H' H s) : jK [8] sR H' H := by
  refine ⟨fun c hn => ⟨funext fun j => funext fun p => h.2.2.1 c j p fun z => hn (by rw [z.1]; decide), by rw [h.1], by rw [h.2.1]⟩, fun k hn => ⟨funext fun p => h.2.2.2 k p fun z => hn z.2, by rw [h.2.1]⟩⟩
theorem c_cp {H0 : jH} {k pc ix s s' kr tk : Nat} {n : Int} {q : xMt} {lv : jL} {Post : jO → jW → jH → Prop} (hq : xmts[k]? = some q) (hi : xat k pc = some (.invokestatic ix, 3)) (hl : xlk xivs q.1 ix = some (7, 0)) (h1 : jrk kr = some (0, n, tk)) (hne : s ≠ s') (h42 : Nat.beq kr 42 = false) (hcn : jcn kr = false) (hk : kr ∈ sR) (hD1 : w.1 kr s') (hD2 : w.1 kr s) (h0 : 0 ≤ n) (hF : sFr H H0 s)
    (hx : ∀ H', sFr H' H0 s → H'.1 = H.1 → (∀ k', k' ≠ kr → H'.2.2.1 k' s = H.2.2.1 k' s) → (∀ i, 0 ≤ i → i < n → H'.2.2.1 kr s i = H0.2.2.1 kr s' i) → J b d k w (pc + 3, lv, [], H') Post) : J b d k w (pc, lv, [.inl n, .inl 0, .inr (some (kr, s)), .inl 0, .inr (some (kr, s'))], H) Post := by
  have ej : ∀ p, jlen H kr p n = n := fun p => by unfold jlen; rw [h42]
  refine J.cpy hq hi hl h1 h1 (fun z => hne z.2.symm) rfl ((jD_w hcn).mpr hD1) ((jD_w hcn).mpr hD2) ⟨Int.le_refl _, Int.le_refl _, h0⟩ (by rw [ej]; omega) (by rw [ej]; omega) ?_
  refine J.gn fun H' hH' => ?_
  refine hx H' ?_ ?_ ?_ ?_
  · rw [hH']
    refine sFr.row ?_ hk
    exact hF
  · rw [hH']
  · intro k' hk'
    rw [hH']
    show jsetR H.2.2.1 kr s _ k' s = _
    rw [jsetR_ne fun z => hk' z.1]
  · intro i a c
    rw [hH']
    show jsetR H.2.2.1 kr s (jcpy (H.2.2.1 kr s') (H.2.2.1 kr s) 0 0 n) kr s i = _
    rw [jsetR_eq, hF.2.2.2 kr s' fun z => hne z.1.symm]
    unfold jcpy
    rw [if_pos ⟨a, by omega⟩, show (0 + (i - 0) : Int) = i by omega]
theorem c_beLike {s s' : Nat} (h : cSt0 w H s) (h' : cSt0 w H s') (hne : s ≠ s') (h1 : cSt1 H s') : J b d 54 w (0, jargs 0 [.inr (some (8, s)), .inr (some (8, s'))], [], H) (jN fun r w' H' => r = none ∧ w' = w ∧ cSt1 H' s ∧ sFr H' H s) := by
  obtain ⟨a1, a2, a3, a4, a5, a6, a7, a8, a9, a10⟩ := h
  obtain ⟨b1, b2, b3, b4, b5, b6, b7, b8, b9, b10⟩ := h'
  obtain ⟨⟨c1, c2, c3, c4⟩, e1, e2, e3⟩ := h1
  have src : ∀ {H1 : jH}, sFr H1 H s → ∀ j, H1.1 8 j s' = H.1 8 j s' := fun h j => h.2.2.1 8 j s' fun z => hne z.2.1.symm
  refine J.run 7 rfl ⟨⟨b1, b3⟩, a1, a3⟩ ?_
  try dsimp only
  refine c_cp rfl rfl rfl rfl hne rfl rfl (by decide) b3 a3 (by decide) (sFr.refl H s) fun H1 f1 g1 o1 v1 => ?_
  refine J.run 7 rfl ⟨⟨b1, b4⟩, a1, a4⟩ ?_
  try dsimp only
  refine c_cp rfl rfl rfl rfl hne rfl rfl (by decide) b4 a4 (by decide) f1 fun H2 f2 g2 o2 v2 => ?_
  refine J.run 7 rfl ⟨⟨b1, b5⟩, a1, a5⟩ ?_
  try dsimp only
  refine c_cp rfl rfl rfl rfl hne rfl rfl (by decide) b5 a5 (by decide) f2 fun H3 f3 g3 o3 v3 => ?_
  refine J.run 7 rfl ⟨⟨b1, b6⟩, a1, a6⟩ ?_
  try dsimp only
  refine c_cp rfl rfl rfl rfl hne rfl rfl (by decide) b6 a6 (by decide) f3 fun H4 f4 g4 o4 v4 => ?_
  refine J.run 4 rfl ⟨b1, a1⟩ ?_
  try dsimp only
  refine J.gn fun H5 hH5 => ?_
  have f5 : sFr H5 H s := by
    rw [hH5]
    refine sFr.int ?_ (by decide)
    exact f4
  have p5 : H5.1 8 4 s = 16 := by
    rw [hH5]
    have e : H4.1 8 4 s' = 16 := by rw [src f4]; exact c1
    rw [← e]
    exact if_pos rfl
  have o5 : H5.2.2.1 = H4.2.2.1 := by rw [hH5]
  clear hH5
  refine J.run 7 rfl ⟨⟨b1, b7⟩, a1, a7⟩ ?_
  try dsimp only
  refine c_cp rfl rfl rfl rfl hne rfl rfl (by decide) b7 a7 (by decide) f5 fun H6 f6 g6 o6 _ => ?_
  refine J.run 7 rfl ⟨⟨b1, b8⟩, a1, a8⟩ ?_
  try dsimp only
  refine c_cp rfl rfl rfl rfl hne rfl rfl (by decide) b8 a8 (by decide) f6 fun H7 f7 g7 o7 _ => ?_
  refine J.run 7 rfl ⟨⟨b1, b9⟩, a1, a9⟩ ?_
  try dsimp only
  refine c_cp rfl rfl rfl rfl hne rfl rfl (by decide) b9 a9 (by decide) f7 fun H8 f8 g8 o8 _ => ?_
  refine J.run 8 rfl ⟨b1, a1, b1, a1⟩ ?_
  try dsimp only
  refine J.gn fun H9 hH9 => ?_
  have f9 : sFr H9 H s := by
    rw [hH9]
    iterate 2 refine sFr.int ?_ (by decide)
    exact f8
  have e82 : H8.1 8 8 s' = 0 := by rw [src f8]; exact c2
  have e83 : H8.1 8 9 s' = 0 := by rw [src f8]; exact c3
  have q9 : H9.1 8 8 s = 0 := by rw [hH9, ← e82]; exact if_pos rfl
  have r9 : H9.1 8 9 s = 0 := by
    rw [hH9]
    show jupF (jupF H8.1 8 8 s (H8.1 8 8 s')) 8 9 s (jupF H8.1 8 8 s (H8.1 8 8 s') 8 9 s') 8 9 s = 0
    rw [jupF_eq]
    exact e83
  have p9 : H9.1 8 4 s = 16 := by
    rw [hH9]
    show H8.1 8 4 s = 16
    rw [g8, g7, g6]
    exact p5
  have o9 : H9.2.2.1 = H8.2.2.1 := by rw [hH9]
  clear hH9
  refine J.run 7 rfl ⟨⟨b1, b10⟩, a1, a10⟩ ?_
  try dsimp only
  refine c_cp rfl rfl rfl rfl hne rfl rfl (by decide) b10 a10 (by decide) f9 fun H10 f10 g10 o10 v10 => ?_
  refine J.run 4 rfl ⟨b1, a1⟩ ?_
  try dsimp only
  refine J.gn fun H11 hH11 => ?_
  have f11 : sFr H11 H s := by
    rw [hH11]
    refine sFr.int ?_ (by decide)
    exact f10
  have e114 : H10.1 8 11 s' = 0 := by rw [src f10]; exact c4
  have u11 : H11.1 8 11 s = 0 := by rw [hH11, ← e114]; exact if_pos rfl
  have n11 : ∀ j, j ≠ 11 → H11.1 8 j s = H9.1 8 j s := fun j hj => by
    rw [hH11]
    show jupF H10.1 8 11 s _ 8 j s = _
    rw [jupF_ne fun z => hj z.2.1, g10]
  have o11 : H11.2.2.1 = H10.2.2.1 := by rw [hH11]
  clear hH11
  have keep : ∀ k, k ∈ [32, 33, 34, 35] → H11.2.2.1 k s = H4.2.2.1 k s := fun k hk => by
    have hne : ∀ k', k' ∈ [36, 37, 38, 39] → k ≠ k' := fun k' hk' e => by
      revert hk hk'
      rw [e]
      simp only [List.mem_cons, List.not_mem_nil, or_false]
      omega
    rw [o11, o10 k (hne _ (by decide)), o9, o8 k (hne _ (by decide)), o7 k (hne _ (by decide)), o6 k (hne _ (by decide)), o5]
  refine J.retv rfl rfl rfl ⟨_, rfl, rfl, rfl, ⟨⟨?_, ?_, ?_, u11⟩, fun a x y => ?_, fun i x y => ⟨?_, ?_, ?_⟩, fun n x y => ?_⟩, f11⟩
  · rw [n11 4 (by decide)]; exact p9
  · rw [n11 8 (by decide)]; exact q9
  · rw [n11 9 (by decide)]; exact r9
  · rw [keep _ (by decide), o4 _ (by decide), o3 _ (by decide), o2 _ (by decide), v1 a x y]; exact e1 a x y
  · rw [keep _ (by decide), o4 _ (by decide), o3 _ (by decide), v2 i x (by omega)]; exact (e2 i x y).1
  · rw [keep _ (by decide), o4 _ (by decide), v3 i x (by omega)]; exact (e2 i x y).2.1
  · rw [keep _ (by decide), v4 i x (by omega)]; exact (e2 i x y).2.2
  · rw [o11, v10 n x y]; exact e3 n x y
theorem c_giveBack {s : Nat} {h : Int} (h8 : w.1 8 s) (hr : H.1 8 8 s = 0) : J b d 55 w (0, jargs 0 [.inr (some (8, s)), .inl h], [], H) (jN fun r w' H' => r = none ∧ w' = w ∧ H' = H) := by
  refine J.run0 4 rfl ?_
  try dsimp only
  refine J.run 3 rfl h8 ?_
  try dsimp only
  try dsimp only
  rw [hr]
  refine J.icmp rfl rfl rfl ⟨⟨by decide, by decide⟩, by decide, by decide⟩ (fun _ => ?_) (fun hc => absurd (show (0 : Int) ≤ 0 by decide) hc)
  refine J.run 3 rfl h8 ?_
  try dsimp only
  refine J.gn fun H1 hH1 => ?_
  have e : H1 = H := by
    rw [hH1, jupF_same hr]
  refine J.retv rfl rfl rfl ⟨_, rfl, rfl, rfl, e⟩
theorem c_settle_l {s pw : Nat} (H0 : jH) (h8 : w.1 8 s) (hst : cSt0 w H0 s) (h1 : cSt1 H0 s) (hpw : H0.2.2.2.2 8 12 s = pw ∧ 0 < pw ∧ w.1 43 pw) : ∀ (m i : Nat) (H : jH) (lv : jL), i + m = 16 → H.2.1 = H0.2.1 → H.2.2.2 = H0.2.2.2 → (∀ c j p, ¬ (c = 8 ∧ p = s ∧ j = 13) → H.1 c j p = H0.1 c j p) → (∀ k p, ¬ (k = 43 ∧ p = pw) → H.2.2.1 k p = H0.2.2.1 k p) → H.1 8 13 s = 100 * (i : Int) → (∀ j, 0 ≤ j → j < 16 → H.2.2.1 43 pw j = if j < (i : Int) then 100 else 0) → (lv = [(1, .inl (i : Int)), (0, .inr (some (8, s)))] ∨ ∃ x, lv = [(1, .inl (i : Int)), (2, .inl x), (0, .inr (some (8, s)))]) →
    J b d 62 w (2, lv, [], H) (jN fun r w' H' => r = none ∧ w' = w ∧ H'.2.1 = H0.2.1 ∧ H'.2.2.2 = H0.2.2.2 ∧ (∀ c j p, ¬ (c = 8 ∧ p = s ∧ j = 13) → H'.1 c j p = H0.1 c j p) ∧ (∀ k p, ¬ (k = 43 ∧ p = pw) → H'.2.2.1 k p = H0.2.2.1 k p) ∧ cSt2 w H' s) := by
  intro m
  obtain ⟨a1, a2, a3, a4, a5, a6, a7, a8, a9, a10⟩ := hst
  obtain ⟨⟨c1, c2, c3, c4⟩, e1, e2, e3⟩ := h1
  induction m with
  | zero =>
    intro i H lv hi q1 q2 q3 q4 ht hp hlv
    obtain rfl : i = 16 := by omega
    have eb : H.1 8 4 s = 16 := by rw [q3 _ _ _ fun z => absurd z.2.2 (by decide)]; exact c1
    have fin : cSt2 w H s := by
      refine ⟨by rw [ht]; rfl, ?_⟩
      have e : H.2.2.2.2 8 12 s = pw := by rw [q2]; exact hpw.1
      rw [e]
      exact ⟨hpw.2.1, hpw.2.2, fun n x y => by rw [hp n x y, if_pos (by omega)]⟩
    rcases hlv with rfl | ⟨x, rfl⟩
    all_goals
      refine J.run 3 rfl h8 ?_
      try dsimp only
      refine J.icmp rfl rfl rfl ⟨⟨by omega, by omega⟩, show -2147483648 ≤ H.1 8 4 s by omega, show H.1 8 4 s ≤ 2147483647 by omega⟩ (fun _ => ?_) (fun hc => absurd (show H.1 8 4 s ≤ (16 : Nat) by omega) hc)
      exact J.retv rfl rfl rfl ⟨_, rfl, rfl, rfl, q1, q2, q3, q4, fin⟩
  | succ m ih =>
    intro i H lv hi q1 q2 q3 q4 ht hp hlv
    have eb : H.1 8 4 s = 16 := by rw [q3 _ _ _ fun z => absurd z.2.2 (by decide)]; exact c1
    have ej : H.1 8 9 s = 0 := by rw [q3 _ _ _ fun z => absurd z.2.2 (by decide)]; exact c3
    have i16 : (0 : Int) ≤ i ∧ (i : Int) < 16 := by omega
    have en : H.2.2.1 34 s (i : Int) = i := by rw [q4 _ _ fun z => absurd z.1 (by decide)]; exact (e2 i i16.1 i16.2).2.1
    have ea : H.2.2.1 35 s (i : Int) = 100 := by rw [q4 _ _ fun z => absurd z.1 (by decide)]; exact (e2 i i16.1 i16.2).2.2
    have ew : H.2.2.2.2 8 12 s = pw := by rw [q2]; exact hpw.1
    have hz : mb 0 i = false := by
      unfold mb
      show (0#32).getLsbD i = false
      simp
    have body : ∀ lv', (lv' = [(2, .inl (i : Int)), (1, .inl (i : Int)), (0, .inr (some (8, s)))]) → J b d 62 w (28, lv', [], H) (jN fun r w' H' => r = none ∧ w' = w ∧ H'.2.1 = H0.2.1 ∧ H'.2.2.2 = H0.2.2.2 ∧ (∀ c j p, ¬ (c = 8 ∧ p = s ∧ j = 13) → H'.1 c j p = H0.1 c j p) ∧ (∀ k p, ¬ (k = 43 ∧ p = pw) → H'.2.2.1 k p = H0.2.2.1 k p) ∧ cSt2 w H' s) := by
      rintro lv' rfl
      have g43 : w.1 43 (H.2.2.2.2 8 12 s) := by rw [ew]; exact hpw.2.2
      refine J.run 20 rfl ⟨⟨h8, by rw [ew]; exact hpw.2.1⟩, ⟨g43, i16.1, i16.2⟩, ⟨h8, a6⟩, ⟨a6, i16.1, show (i : Int) < 96 by omega⟩, ⟨g43, i16.1, i16.2⟩, h8, ⟨h8, a6⟩, ⟨a6, i16.1, show (i : Int) < 96 by omega⟩, h8⟩ ?_
      try dsimp only
      refine J.run0 2 rfl ?_
      try dsimp only
      refine J.gn fun H1 hH1 => ?_
      have z1 : H1.2.1 = H0.2.1 := by rw [hH1]; exact q1
      have z2 : H1.2.2.2 = H0.2.2.2 := by rw [hH1]; exact q2
      have z3 : ∀ c j p, ¬ (c = 8 ∧ p = s ∧ j = 13) → H1.1 c j p = H0.1 c j p := fun c j p hn => by
        rw [hH1]
        show jupF H.1 8 13 s _ c j p = _
        rw [jupF_ne fun z => hn ⟨z.1, z.2.2, z.2.1⟩]
        exact q3 c j p hn
      have z4 : ∀ k p, ¬ (k = 43 ∧ p = pw) → H1.2.2.1 k p = H0.2.2.1 k p := fun k p hn => by
        rw [hH1]
        show jsetR H.2.2.1 43 (H.2.2.2.2 8 12 s) _ k p = _
        rw [ew, jsetR_ne hn]
        exact q4 k p hn
      have z5 : H1.1 8 13 s = 100 * ((i + 1 : Nat) : Int) := by
        rw [hH1]
        have e : jupF H.1 8 13 s (H.1 8 13 s + jsetR H.2.2.1 43 (H.2.2.2.2 8 12 s) (jup (H.2.2.1 43 (H.2.2.2.2 8 12 s)) (i : Int) (H.2.2.1 43 (H.2.2.2.2 8 12 s) (i : Int) + H.2.2.1 35 s (i : Int))) 35 s (i : Int)) 8 13 s = 100 * ((i + 1 : Nat) : Int) := by
          rw [jupF_eq, jsetR_ne fun z => absurd z.1 (by decide), ea, ht]
          omega
        exact e
      have z6 : ∀ j, 0 ≤ j → j < 16 → H1.2.2.1 43 pw j = if j < ((i + 1 : Nat) : Int) then 100 else 0 := fun j x y => by
        rw [hH1]
        show jsetR H.2.2.1 43 (H.2.2.2.2 8 12 s) (jup (H.2.2.1 43 (H.2.2.2.2 8 12 s)) (i : Int) (H.2.2.1 43 (H.2.2.2.2 8 12 s) (i : Int) + H.2.2.1 35 s (i : Int))) 43 pw j = _
        rw [ew, jsetR_eq, ea]
        unfold jup
        by_cases hj : j = i
        · rw [if_pos hj, hp i i16.1 i16.2, if_neg (by omega), if_pos (by omega)]
          rfl
        · rw [if_neg hj, hp j x y]
          by_cases hji : j < (i : Int)
          · rw [if_pos hji, if_pos (by omega)]
          · rw [if_neg hji, if_neg (by omega)]
      clear hH1
      exact ih (i + 1) H1 _ (by omega) z1 z2 z3 z4 z5 z6 (Or.inr ⟨_, rfl⟩)
    rcases hlv with rfl | ⟨x, rfl⟩
    all_goals
      refine J.run 3 rfl h8 ?_
      try dsimp only
      refine J.icmp rfl rfl rfl ⟨⟨by omega, by omega⟩, show -2147483648 ≤ H.1 8 4 s by omega, show H.1 8 4 s ≤ 2147483647 by omega⟩ (fun hc => absurd (show H.1 8 4 s ≤ (i : Int) from hc) (by omega)) (fun _ => ?_)
      refine J.run 11 rfl ⟨⟨h8, a5⟩, ⟨a5, i16.1, show (i : Int) < 96 by omega⟩, h8⟩ ?_
      try dsimp only
      try dsimp only
      rw [en, ej, mb_ushr 0 (show i < 32 by omega), if_neg (by rw [hz]; decide)]
      refine J.ifc rfl rfl rfl ⟨by decide, by decide⟩ (fun hc => absurd rfl hc) (fun _ => ?_)
      exact body _ rfl
theorem c_settle {s pw : Nat} (hst : cSt0 w H s) (h1 : cSt1 H s) (hpw : H.2.2.2.2 8 12 s = pw ∧ 0 < pw ∧ w.1 43 pw) (h0 : ∀ j, 0 ≤ j → j < 16 → H.2.2.1 43 pw j = 0) (ht : H.1 8 13 s = 0) : J b d 62 w (0, jargs 0 [.inr (some (8, s))], [], H) (jN fun r w' H' => r = none ∧ w' = w ∧ H'.2.1 = H.2.1 ∧ H'.2.2.2 = H.2.2.2 ∧ (∀ c j p, ¬ (c = 8 ∧ p = s ∧ j = 13) → H'.1 c j p = H.1 c j p) ∧ (∀ k p, ¬ (k = 43 ∧ p = pw) → H'.2.2.1 k p = H.2.2.1 k p) ∧ cSt2 w H' s) := by
  refine J.run0 2 rfl ?_
  try dsimp only
  exact c_settle_l H hst.1 hst h1 hpw 16 0 H _ rfl rfl rfl (fun _ _ _ _ => rfl) (fun _ _ _ => rfl) (by rw [ht]; rfl) (fun j x y => by rw [h0 j x y, if_neg (by omega)]) (Or.inl rfl)
end CE
