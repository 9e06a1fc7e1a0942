/-! runs, without counting: from some number of instructions on the small machine gives r -/
section XU
def X (d k : Nat) (g : xG) (r : xO × List xC × Nat) : Prop := ∃ n, ∀ m, n ≤ m → xrun m d k g = some r
/-- one instruction that calls no method of ours -/
def xst (k : Nat) (g : xG) : Option xG := match xmts[k]? with
  | none => none
  | some q => match xat k g.1 with
    | none => none
    | some (i, len) => match xs q.1 q.2.2.2.1 (decide (q.2.1.name = "<init>")) i len g with
      | some g' => some g'
      | none => match xs9 q.1 i len g.2.2.1 g.2.2.2.1 with
        | some (st, hp) => some (g.1 + 3, g.2.1, st, hp, g.2.2.2.2)
        | none => none
def xstn : Nat → Nat → xG → Option xG
  | 0, _, g => some g
  | n + 1, k, g => match xst k g with
    | some g' => xstn n k g'
    | none => none
theorem X.one {d k : Nat} {g g' : xG} {r : xO × List xC × Nat} (h : xst k g = some g') (hx : X d k g' r) : X d k g r := by
  obtain ⟨n, hn⟩ := hx
  refine ⟨n + 1, fun m hm => ?_⟩
  obtain ⟨m, rfl⟩ : ∃ j, m = j + 1 := ⟨m - 1, by omega⟩
  have h9 := hn m (by omega)
  unfold xst at h
  unfold xrun
  cases hq : xmts[k]? with
  | none => rw [hq] at h; cases h
  | some q =>
    rw [hq] at h
    dsimp only at h ⊢
    cases ha : xat k g.1 with
    | none => rw [ha] at h; cases h
    | some il =>
      obtain ⟨i, len⟩ := il
      rw [ha] at h
      dsimp only at h ⊢
      cases hs : xs q.1 q.2.2.2.1 (decide (q.2.1.name = "<init>")) i len g with
      | some g1 =>
        rw [hs] at h
        cases h
        exact h9
      | none =>
        rw [hs] at h
        dsimp only at h ⊢
        cases h2 : xs9 q.1 i len g.2.2.1 g.2.2.2.1 with
        | some z =>
          obtain ⟨st, hp⟩ := z
          rw [h2] at h
          cases h
          exact h9
        | none => rw [h2] at h; cases h
theorem X.run {d k : Nat} {r : xO × List xC × Nat} : ∀ (n : Nat) {g g' : xG}, xstn n k g = some g' → X d k g' r → X d k g r
  | 0, g, g', h, hx => by cases h; exact hx
  | n + 1, g, g', h, hx => by
    simp only [xstn] at h
    split at h
    · rename_i g1 h1
      exact X.one h1 (X.run n h hx)
    · cases h
/-- what stands at this place is no instruction of the first kind: the method's row, the instruction -/
def xno (k : Nat) (g : xG) (q : xMt) (i : Instr) (len : Nat) : Prop := xmts[k]? = some q ∧ xat k g.1 = some (i, len) ∧ xs q.1 q.2.2.2.1 (decide (q.2.1.name = "<init>")) i len g = none ∧ xs9 q.1 i len g.2.2.1 g.2.2.2.1 = none
theorem X.ret {d k : Nat} {g : xG} {q : xMt} {i : Instr} {len : Nat} {v : Option Value} (h : xno k g q i len) (hr : xret q.2.2.2.2.1 i len g.2.2.1 = some v) : X d k g (.inl v, g.2.2.2) := by
  refine ⟨1, fun m hm => ?_⟩
  obtain ⟨m, rfl⟩ : ∃ j, m = j + 1 := ⟨m - 1, by omega⟩
  obtain ⟨h1, h2, h3, h4⟩ := h
  unfold xrun
  rw [h1]
  try dsimp only
  rw [h2]
  try dsimp only
  rw [h3]
  try dsimp only
  rw [h4]
  try dsimp only
  rw [hr]
theorem X.call {d k k' : Nat} {g : xG} {q q' : xMt} {i : Instr} {len : Nat} {as rest : List Value} {v : Option Value} {hp : List xC} {ks : Nat} {r : xO × List xC × Nat} (h : xno k g q i len) (hr : xret q.2.2.2.2.1 i len g.2.2.1 = none) (hc : xcall q.1 i len g.2.2.1 g.2.2.2.1 = some (k', as, rest)) (hq' : xmts[k']? = some q') (hw : xcat as ≤ q'.2.2.2.1)
    (h1 : X d k' (0, lv_args 0 as, [], g.2.2.2) (.inl v, hp, ks)) (h2 : X (d + 1) k (g.1 + 3, g.2.1, v.toList ++ rest, hp, ks) r) : X (d + 1) k g r := by
  obtain ⟨n1, h1⟩ := h1
  obtain ⟨n2, h2⟩ := h2
  refine ⟨n1 + n2 + 1, fun m hm => ?_⟩
  obtain ⟨m, rfl⟩ : ∃ j, m = j + 1 := ⟨m - 1, by omega⟩
  obtain ⟨e1, e2, e3, e4⟩ := h
  unfold xrun
  rw [e1]
  try dsimp only
  rw [e2]
  try dsimp only
  rw [e3]
  try dsimp only
  rw [e4]
  try dsimp only
  rw [hr]
  try dsimp only
  rw [hc]
  try dsimp only
  rw [hq']
  try dsimp only
  rw [if_pos hw, h1 m (by omega)]
  try dsimp only
  exact h2 m (by omega)
theorem X.callX {d k k' : Nat} {g : xG} {q q' : xMt} {i : Instr} {len : Nat} {as rest : List Value} {ci : Nat} {hp : List xC} {ks : Nat} {x : Int32} (h : xno k g q i len) (hr : xret q.2.2.2.2.1 i len g.2.2.1 = none) (hc : xcall q.1 i len g.2.2.1 g.2.2.2.1 = some (k', as, rest)) (hq' : xmts[k']? = some q') (hw : xcat as ≤ q'.2.2.2.1)
    (h1 : X d k' (0, lv_args 0 as, [], g.2.2.2) (.inr ci, hp, ks)) (h2 : xhnd k g.1 ci = some x) : X (d + 1) k g (.inl (some (.int x)), hp, ks) := by
  obtain ⟨n1, h1⟩ := h1
  refine ⟨n1 + 1, fun m hm => ?_⟩
  obtain ⟨m, rfl⟩ : ∃ j, m = j + 1 := ⟨m - 1, by omega⟩
  obtain ⟨e1, e2, e3, e4⟩ := h
  unfold xrun
  rw [e1]
  try dsimp only
  rw [e2]
  try dsimp only
  rw [e3]
  try dsimp only
  rw [e4]
  try dsimp only
  rw [hr]
  try dsimp only
  rw [hc]
  try dsimp only
  rw [hq']
  try dsimp only
  rw [if_pos hw, h1 m (by omega)]
  try dsimp only
  rw [h2]
  rfl
theorem X.thr {d k : Nat} {g : xG} {q : xMt} {i : Instr} {len ci : Nat} (h : xno k g q i len) (hr : xret q.2.2.2.2.1 i len g.2.2.1 = none) (hc : xcall q.1 i len g.2.2.1 g.2.2.2.1 = none) (hw : xcat g.2.2.1 ≤ 8) (ht : xthr k g.1 = some ci) : X d k g (.inr ci, g.2.2.2.1 ++ [.inr (ci, [])], g.2.2.2.2 + 6) := by
  refine ⟨1, fun m hm => ?_⟩
  obtain ⟨m, rfl⟩ : ∃ j, m = j + 1 := ⟨m - 1, by omega⟩
  obtain ⟨e1, e2, e3, e4⟩ := h
  unfold xrun
  rw [e1]
  try dsimp only
  rw [e2]
  try dsimp only
  rw [e3]
  try dsimp only
  rw [e4]
  try dsimp only
  rw [hr]
  try dsimp only
  rw [hc]
  try dsimp only
  rw [ht]
  try dsimp only
  rw [if_pos hw]
theorem X.cln {d k : Nat} {g : xG} {q : xMt} {i : Instr} {len n1 : Nat} {st' : List Value} {rows : List xC} {r : xO × List xC × Nat} (h : xno k g q i len) (hr : xret q.2.2.2.2.1 i len g.2.2.1 = none) (hc : xcall q.1 i len g.2.2.1 g.2.2.2.1 = none) (ht : xthr k g.1 = none) (ha : xsA q.1 i len g.2.2.1 g.2.2.2.1 = some (st', rows, n1)) (hx : X d k (g.1 + 3, g.2.1, st', g.2.2.2.1 ++ rows, g.2.2.2.2 + n1) r) : X d k g r := by
  obtain ⟨n, hn⟩ := hx
  refine ⟨n + 1, fun m hm => ?_⟩
  obtain ⟨m, rfl⟩ : ∃ j, m = j + 1 := ⟨m - 1, by omega⟩
  obtain ⟨e1, e2, e3, e4⟩ := h
  unfold xrun
  rw [e1]
  try dsimp only
  rw [e2]
  try dsimp only
  rw [e3]
  try dsimp only
  rw [e4]
  try dsimp only
  rw [hr]
  try dsimp only
  rw [hc]
  try dsimp only
  rw [ht]
  try dsimp only
  rw [ha]
  try dsimp only
  exact hn m (by omega)
end XU
