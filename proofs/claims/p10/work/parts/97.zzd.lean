/-! the reference's constructor: what holds behind it -/
section GI
variable {d : Nat} {w : jW} {H : jH}
def gAll (H : jH) : Prop := gT H ∧ gP H ∧ gX H ∧ gL H ∧ gZ H ∧ gQ H ∧ gB H ∧ gK H ∧ gN H ∧ gW H (H.1 11 19 0)
theorem gck1 : (gtb.all fun o => match o with | some (lo, hi) => decide (lo ≤ 0 ∧ 0 ≤ hi) | none => true) = true := by decide
theorem gck2 : ((List.range 70).all fun j => match gtb[j]? with | some (some _) => jcn (50 + j) | _ => true) = true := by decide +kernel
theorem gck3 : ((List.range 70).all fun j => Nat.beq j 12 || match gvt[j]? with | some (some (lo, hi)) => decide (lo ≤ 0 ∧ 0 ≤ hi) | _ => true) = true := by decide +kernel
theorem gck4 : gtb.length ≤ 70 ∧ gvt.length ≤ 70 := by decide
theorem gri_zero (k : Nat) : gri k 0 := by
  unfold gri
  cases Nat.ble 50 k with
  | false => trivial
  | true =>
    try dsimp only
    cases hg : gtb[k - 50]? with
    | none => trivial
    | some o =>
      cases o with
      | none => trivial
      | some q =>
        have h := List.all_eq_true.mp gck1 _ (List.mem_of_getElem? hg)
        exact of_decide_eq_true h
theorem gri_cn {k : Nat} (h : jcn k = false) (x : Int) : gri k x := by
  unfold gri
  cases hb : Nat.ble 50 k with
  | false => trivial
  | true =>
    try dsimp only
    cases hg : gtb[k - 50]? with
    | none => trivial
    | some o =>
      cases o with
      | none => trivial
      | some q =>
        have h50 := Nat.le_of_ble_eq_true hb
        have hl : k - 50 < gtb.length := (List.getElem?_eq_some_iff.mp hg).1
        have h1 := List.all_eq_true.mp gck2 (k - 50) (List.mem_range.mpr (Nat.lt_of_lt_of_le hl gck4.1))
        rw [hg] at h1
        have h2 : jcn (50 + (k - 50)) = true := h1
        rw [show 50 + (k - 50) = k by omega, h] at h2
        cases h2
theorem gvi_zero {f : Nat} (hf : f ≠ 12) : gvi f 0 := by
  unfold gvi
  cases hg : gvt[f]? with
  | none => trivial
  | some o =>
    cases o with
    | none => trivial
    | some q =>
      have hl : f < gvt.length := (List.getElem?_eq_some_iff.mp hg).1
      have h1 := List.all_eq_true.mp gck3 f (List.mem_range.mpr (Nat.lt_of_lt_of_le hl gck4.2))
      rw [hg] at h1
      have hb : Nat.beq f 12 = false := by
        cases hc : Nat.beq f 12 with
        | false => rfl
        | true => exact absurd (Nat.eq_of_beq_eq_true hc) hf
      rw [hb] at h1
      exact of_decide_eq_true h1
theorem gbk_cn {k : Nat} (h : gbk k = true) : jcn k = true := by
  have h9 : ∀ k ∈ ([55, 67, 72, 77, 88, 93] : List Nat), jcn k = true := by decide
  exact h9 k (by simpa [gbk] using h)
set_option maxRecDepth 20000 in
theorem g_tail : J true (d + 306) 113 w (497, [(0, jT)], [], rH H) (jN fun r w' H' => r = none ∧ w' = w ∧ gAll H' ∧ ∀ i, H'.2.2.1 79 0 i = 0) := by
  refine J.run 18 rfl ⟨⟨show (0 : Int) ≤ 0 by decide, show (0 : Int) < 300 by decide⟩, ⟨show (0 : Int) ≤ 0 by decide, show (0 : Int) < 300 by decide⟩, show (0 : Int) ≤ 0 by decide, show (0 : Int) < 300 by decide⟩ ?_
  try dsimp only
  refine J.gn fun H1 hH1 => ?_
  have e1 : jEx [12] [55, 57, 61] H1 (rH H) := by
    rw [hH1]
    refine jEx.num ?_ (by decide)
    refine jEx.row ?_ (by decide)
    refine jEx.row ?_ (by decide)
    refine jEx.row ?_ (by decide)
    exact jEx.refl _ _ _
  have v1 : H1.1 11 12 0 = 1 ∧ H1.2.2.1 55 0 = jup ((rH H).2.2.1 55 0) 0 (-1) ∧ H1.2.2.1 57 0 = jup ((rH H).2.2.1 57 0) 0 (-1) ∧ H1.2.2.1 61 0 = jup ((rH H).2.2.1 61 0) 0 1 := by
    rw [hH1]
    exact ⟨rfl, rfl, rfl, rfl⟩
  clear hH1
  have r0 : ∀ k, jcn k = true → k ≠ 55 → k ≠ 57 → k ≠ 61 → ∀ j, H1.2.2.1 k 0 j = 0 := fun k hc h1 h2 h3 j => by
    rw [e1.r k (by simp only [List.mem_cons, List.not_mem_nil, or_false]; omega)]
    exact rH_row hc j
  have n0 : ∀ f, f ≠ 12 → f ≠ 48 → H1.1 11 f 0 = 0 := fun f h1 h2 => by
    rw [e1.v f (by simp only [List.mem_cons, List.not_mem_nil, or_false]; omega)]
    exact rH_num h2
  have n48 : H1.1 11 48 0 = -1 := (e1.v 48 (by decide)).trans rfl
  have p55 : ∀ i, H1.2.2.1 55 0 i = if i = 0 then -1 else 0 := fun i => by
    rw [v1.2.1]
    show (if i = 0 then (-1 : Int) else (rH H).2.2.1 55 0 i) = _
    rw [rH_row (by decide)]
  have p57 : ∀ i, H1.2.2.1 57 0 i = if i = 0 then -1 else 0 := fun i => by
    rw [v1.2.2.1]
    show (if i = 0 then (-1 : Int) else (rH H).2.2.1 57 0 i) = _
    rw [rH_row (by decide)]
  have p61 : ∀ i, H1.2.2.1 61 0 i = if i = 0 then 1 else 0 := fun i => by
    rw [v1.2.2.2]
    show (if i = 0 then (1 : Int) else (rH H).2.2.1 61 0 i) = _
    rw [rH_row (by decide)]
  have z : ∀ k, jcn k = true → k ≠ 55 → k ≠ 57 → k ≠ 61 → ∀ j, H1.2.2.1 k 0 j = 0 := r0
  have hT : gT H1 := by
    refine ⟨fun k i => ?_, fun f => ?_, fun k i hk => ?_, fun f hf => ?_⟩
    · cases hc : jcn k with
      | false => exact gri_cn hc _
      | true =>
        by_cases h1 : k = 55
        · subst h1
          show (-1 : Int) ≤ H1.2.2.1 55 0 i ∧ H1.2.2.1 55 0 i ≤ 299
          rw [p55 i]; split <;> omega
        by_cases h2 : k = 57
        · subst h2
          show (-1 : Int) ≤ H1.2.2.1 57 0 i ∧ H1.2.2.1 57 0 i ≤ 15
          rw [p57 i]; split <;> omega
        by_cases h3 : k = 61
        · subst h3
          show (0 : Int) ≤ H1.2.2.1 61 0 i ∧ H1.2.2.1 61 0 i ≤ 2
          rw [p61 i]; split <;> omega
        rw [z k hc h1 h2 h3 i]
        exact gri_zero k
    · by_cases h1 : f = 12
      · subst h1
        show (1 : Int) ≤ H1.1 11 12 0 ∧ H1.1 11 12 0 ≤ 300
        rw [v1.1]; omega
      by_cases h2 : f = 48
      · subst h2
        show (-1 : Int) ≤ H1.1 11 48 0 ∧ H1.1 11 48 0 ≤ 299
        rw [n48]; omega
      rw [n0 f h1 h2]
      exact gvi_zero h1
    · rw [show H1.1 11 12 0 = 1 from v1.1]
      have hc := gbk_cn hk
      by_cases h1 : k = 55
      · subst h1
        rw [p55 i]; split <;> omega
      have h2 : k ≠ 57 := fun h => by subst h; exact absurd hk (by decide)
      have h3 : k ≠ 61 := fun h => by subst h; exact absurd hk (by decide)
      rw [z k hc h1 h2 h3 i]
      omega
    · rw [show H1.1 11 12 0 = 1 from v1.1]
      by_cases h2 : f = 48
      · subst h2
        rw [n48]; omega
      have h1 : f ≠ 12 := fun h => by subst h; exact absurd hf (by decide)
      rw [n0 f h1 h2]
      omega
  have zr := fun (k : Nat) (hc : jcn k = true) (h1 : (Nat.beq k 55 || Nat.beq k 57 || Nat.beq k 61) = false) (j : Int) => z k hc (fun h => by subst h; cases h1) (fun h => by subst h; cases h1) (fun h => by subst h; cases h1) j
  have hP : gP H1 := by
    refine ⟨?_, fun b h1 _ => ?_, zr 56 rfl rfl 0, fun b h1 h2 => ?_, fun b h1 _ => ?_, fun b h1 => ?_⟩
    · rw [p55 0]; rfl
    · rw [p55 b, if_neg (by omega)]; omega
    · rw [show H1.1 11 12 0 = 1 from v1.1] at h2
      exact absurd h2 (by omega)
    · rw [zr 56 rfl rfl b]; exact h1
    · rw [p57 b, if_neg (by omega)]; omega
  have hX : gX H1 := by
    intro t
    rw [zr 50 rfl rfl t, zr 52 rfl rfl t, zr 53 rfl rfl t]
    omega
  have hZ : gZ H1 := by
    show H1.2.2.1 61 0 0 = 1
    rw [p61 0]; rfl
  have hQ : gQ H1 := by
    intro n _ _
    rw [zr 111 rfl rfl n]
    exact (jcnt_zero (g := fun z => H1.2.2.1 110 0 (16 * n + z)) 16 fun j _ => zr 110 rfl rfl _).symm
  have hB : gB H1 := by
    intro n _ _ h
    rw [zr 80 rfl rfl n] at h
    cases h
  have hK : gK H1 := by
    intro n _ _
    rw [zr 113 rfl rfl n, zr 71 rfl rfl n]
    refine ⟨Int.le_refl _, (jcnt_zero (g := fun z => H1.2.2.1 114 0 (6000 * n + z)) 6000 fun j _ => zr 114 rfl rfl _).symm, fun m _ _ h => ?_⟩
    rw [zr 114 rfl rfl _] at h
    cases h
  have hN : gN H1 := fun n m _ _ _ _ => zr 114 rfl rfl _
  have hW : gW H1 (H1.1 11 19 0) := by
    intro n _ _
    rw [zr 83 rfl rfl n, zr 73 rfl rfl n, zr 74 rfl rfl n]
    exact ⟨by omega, fun i a b => absurd a (by omega), fun i j a b c => absurd a (by omega)⟩
  have hU : gU H1 0 := fun i _ _ _ => ⟨zr 83 rfl rfl i, zr 80 rfl rfl i⟩
  refine J.post (g_init1 (d := d) hT hP hX hZ hQ hB hK hN hW hU n48) ?_
  rintro o w' H' ⟨v, rfl, rfl, a1, a2, a3, a4, a5, a6, a7, a8, a9, a10, a11, rfl⟩
  exact ⟨_, rfl, rfl, rfl, ⟨a1, a3, a4, a5, a6, a7, a8, a9, a10, a11⟩, fun i => (congrFun (a2.r 79 (by decide)) i).trans (zr 79 rfl rfl i)⟩
end GI
