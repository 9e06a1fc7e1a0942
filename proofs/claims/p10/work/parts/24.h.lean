/-- StakeChain$Message: a new one -/
theorem X_Message {d : Nat} {hp : List xC} {ks a : Nat} {n0 n1 n2 n3 n4 n5 n6 : Int32} (ha : hp[a + 1]? = some (.inr (5, [.int 0, .int 0, .int 0, .int 0, .int 0, .int 0, .int 0, .null]))) :
    X d 28 (0, lv_args 0 [.ref (a + 1), .int n0, .int n1, .int n2, .int n3, .int n4, .int n5, .int n6], [], hp, ks) (.inl none, hp.set (a + 1) (.inr (5, [.int n0, .int n1, .int n2, .int n3, .int n4, .int n5, .int n6, .null])), ks) := by
  have hlt : a + 1 < hp.length := (List.getElem?_eq_some_iff.mp ha).1
  refine X.run 4 rfl ?_
  refine X.pf rfl rfl rfl rfl rfl (Or.inr ⟨rfl, rfl⟩) ha (by decide) rfl ?_
  refine X.run 2 rfl ?_
  refine X.pfs rfl rfl rfl rfl rfl (Or.inr ⟨rfl, rfl⟩) hlt (Nat.le_of_ble_eq_true rfl) rfl ?_
  refine X.run 2 rfl ?_
  refine X.pfs rfl rfl rfl rfl rfl (Or.inr ⟨rfl, rfl⟩) hlt (Nat.le_of_ble_eq_true rfl) rfl ?_
  refine X.run 2 rfl ?_
  refine X.pfs rfl rfl rfl rfl rfl (Or.inr ⟨rfl, rfl⟩) hlt (Nat.le_of_ble_eq_true rfl) rfl ?_
  refine X.run 2 rfl ?_
  refine X.pfs rfl rfl rfl rfl rfl (Or.inr ⟨rfl, rfl⟩) hlt (Nat.le_of_ble_eq_true rfl) rfl ?_
  refine X.run 2 rfl ?_
  refine X.pfs rfl rfl rfl rfl rfl (Or.inr ⟨rfl, rfl⟩) hlt (Nat.le_of_ble_eq_true rfl) rfl ?_
  refine X.run 2 rfl ?_
  refine X.pfs rfl rfl rfl rfl rfl (Or.inr ⟨rfl, rfl⟩) hlt (Nat.le_of_ble_eq_true rfl) rfl ?_
  exact X.ret (q := (xmts[28]?).get rfl) ⟨rfl, rfl, rfl, rfl⟩ rfl
