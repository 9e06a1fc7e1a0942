/-! deliver of the reference -/
section SI
variable {d : Nat} {w : jW} {H : jH}
theorem j_deliver {z : zT} {m n : Int} (hz : zInv z) (hI : rInv z H) (bm : jR m) (bn : jR n) : J true (d + 10) 149 w (0, jargs 0 [jT, .inl m, .inl n], [], H)
    (jN (rEnd w (if (0 ≤ m ∧ m ≤ (zM z : Int) - 1) ∧ 0 ≤ n ∧ n ≤ 15 then some ((zM (zcame z m.toNat n.toNat) : Int) - zM z) else none) (if (0 ≤ m ∧ m ≤ (zM z : Int) - 1) ∧ 0 ≤ n ∧ n ≤ 15 then 0 else 1))) := by
  have hM6 := hz.1.1
  have esz : H.1 11 19 0 = (zM z : Int) := hI.1.1.1
  have eth : H.1 11 47 0 = 0 := hI.1.1.2
  have thr : ¬ ((0 ≤ m ∧ m ≤ (zM z : Int) - 1) ∧ 0 ≤ n ∧ n ≤ 15) → J true (d + 10) 149 w (29, jargs 0 [jT, .inl m, .inl n], [jT], H)
    (jN (rEnd w (if (0 ≤ m ∧ m ≤ (zM z : Int) - 1) ∧ 0 ≤ n ∧ n ≤ 15 then some ((zM (zcame z m.toNat n.toNat) : Int) - zM z) else none) (if (0 ≤ m ∧ m ≤ (zM z : Int) - 1) ∧ 0 ≤ n ∧ n ≤ 15 then 0 else 1))) := by
    intro hno
    refine J.run0 1 rfl ?_
    try dsimp only
    refine J.run0 3 rfl ?_
    try dsimp only
    refine J.ifc rfl rfl rfl ⟨show -2147483648 ≤ (1 : Int) by decide, show (1 : Int) ≤ 2147483647 by decide⟩ (fun hc => absurd (show (1 : Int) ≤ 0 from hc) (by decide)) (fun _ => ?_)
    refine J.run0 2 rfl ?_
    try dsimp only
    refine J.reti rfl rfl rfl ⟨_, rfl, rfl, ?_, _, rfl, fun y hy => ?_⟩
    · rw [if_neg hno]; rfl
    · rw [if_neg hno] at hy; cases hy
  refine J.run0 7 rfl ?_
  try dsimp only
  try dsimp only
  rw [esz]
  refine J.ins rfl rfl rfl rfl rfl rfl rfl rfl rfl (j_in bm ⟨by decide, by decide⟩ ⟨by omega, by omega⟩) ?_
  rintro r w H ⟨rfl, rfl, rfl⟩
  by_cases h1 : 0 ≤ m ∧ m ≤ (zM z : Int) - 1
  rotate_left
  · rw [if_neg h1]
    refine J.ifc rfl rfl rfl ⟨by decide, by decide⟩ (fun _ => ?_) (fun hc => absurd rfl hc)
    exact thr fun h => h1 h.1
  rw [if_pos h1]
  refine J.ifc rfl rfl rfl ⟨by decide, by decide⟩ (fun hc => absurd hc (show ¬ (1 : Int) = 0 by decide)) (fun _ => ?_)
  refine J.run0 3 rfl ?_
  try dsimp only
  refine J.ins rfl rfl rfl rfl rfl rfl rfl rfl rfl (j_in bn ⟨by decide, by decide⟩ ⟨by decide, by decide⟩) ?_
  rintro r w H ⟨rfl, rfl, rfl⟩
  by_cases h2 : 0 ≤ n ∧ n ≤ 15
  rotate_left
  · rw [if_neg h2]
    refine J.ifc rfl rfl rfl ⟨by decide, by decide⟩ (fun _ => ?_) (fun hc => absurd rfl hc)
    exact thr fun h => h2 h.2
  rw [if_pos h2]
  refine J.ifc rfl rfl rfl ⟨by decide, by decide⟩ (fun hc => absurd hc (show ¬ (1 : Int) = 0 by decide)) (fun _ => ?_)
  refine J.run0 2 rfl ?_
  try dsimp only
  refine J.run0 3 rfl ?_
  try dsimp only
  refine J.ifc rfl rfl rfl ⟨show -2147483648 ≤ (0 : Int) by decide, show (0 : Int) ≤ 2147483647 by decide⟩ (fun _ => ?_) (fun hc => absurd (show (0 : Int) ≤ 0 by decide) hc)
  refine J.heq (show _ = hV H 47 0 from rfl) ?_
  rw [hV_same H 47 eth]
  obtain ⟨mm, rfl⟩ : ∃ mm : Nat, m = (mm : Int) := ⟨m.toNat, by omega⟩
  obtain ⟨nn, rfl⟩ : ∃ nn : Nat, n = (nn : Int) := ⟨n.toNat, by omega⟩
  refine J.run0 3 rfl ?_
  try dsimp only
  refine J.inv rfl rfl rfl rfl rfl rfl jDr rfl rfl rfl rfl rfl (j_came hz hI (by omega) (by omega)) ?_
  rintro r w H' ⟨rfl, rfl, hI'⟩
  refine J.reti rfl rfl rfl ⟨_, rfl, rfl, ?_, _, rfl, fun y hy => ?_⟩
  · rw [if_pos ⟨h1, h2⟩]; exact hI'.1.1.2
  · rw [if_pos ⟨h1, h2⟩] at hy
    cases hy
    rfl
end SI
