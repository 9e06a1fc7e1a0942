/-- StakeChainModel.height -/
theorem X_height {d : Nat} {a : Nat} {Q : Nat → Nat} {hp : List xC} {m : Nat → Nat → Int32} {v : Nat → Int32} {ks n l : Nat} (h : MR a Q hp m v) (hn : n < 16) (hl : m 22 n = nI l) (hl2 : l < 300) :
    X d 126 (0, lv_args 0 [.ref (a + 1), .int (nI n)], [], hp, ks) (.inl (some (.int (m 6 l + 1))), hp, ks) := by
  refine X.run 1 rfl ?_
  refine X.gf rfl rfl rfl h.1 rfl ?_
  refine X.run 1 rfl ?_
  refine X.gf rfl rfl rfl h.1 rfl ?_
  refine X.run 1 rfl ?_
  refine X.ial rfl rfl (h.row 22 0 16 (by decide)) (xin_nI hn (by decide)) ?_
  rw [nI_clamp (by omega), hl]
  refine X.ial rfl rfl (h.row 6 0 300 (by decide)) (xin_nI hl2 (by decide)) ?_
  rw [nI_clamp (by omega)]
  refine X.run 2 rfl ?_
  exact X.ret (q := (xmts[126]?).get rfl) ⟨rfl, rfl, rfl, rfl⟩ rfl
