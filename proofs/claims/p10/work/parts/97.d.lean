/-! the class: what its calls ask first -/
section SJ
variable {b : Bool} {d : Nat} {w : jW} {H : jH}
theorem c_isNode {n : Int} (bn : jR n) : J b d 103 w (0, jargs 0 [.inl n], [], H) (jN fun r w' H' => r = some (.inl (if 0 ≤ n ∧ n ≤ 15 then 1 else 0)) ∧ w' = w ∧ H' = H) := by
  refine J.run0 1 rfl ?_
  try dsimp only
  refine J.ifc rfl rfl rfl bn (fun hc => ?_) (fun hc => ?_)
  · have hc' : n < 0 := hc
    refine J.run0 1 rfl ?_
    try dsimp only
    refine J.retb rfl rfl rfl (by decide) ⟨_, rfl, ?_, rfl, rfl⟩
    rw [if_neg (by omega)]
  have hc' : ¬ n < 0 := hc
  refine J.run0 2 rfl ?_
  try dsimp only
  refine J.icmp rfl rfl rfl ⟨bn, by decide, by decide⟩ (fun hc2 => ?_) (fun hc2 => ?_)
  · have hc2' : (16 : Int) ≤ n := hc2
    refine J.run0 1 rfl ?_
    try dsimp only
    refine J.retb rfl rfl rfl (by decide) ⟨_, rfl, ?_, rfl, rfl⟩
    rw [if_neg (by omega)]
  have hc2' : ¬ (16 : Int) ≤ n := hc2
  refine J.run0 2 rfl ?_
  try dsimp only
  refine J.retb rfl rfl rfl (by decide) ⟨_, rfl, ?_, rfl, rfl⟩
  rw [if_pos (by omega)]
theorem c_postGet0 {p M : Nat} {i : Int} (h7 : w.1 7 p) (hs : H.1 7 4 p = (M : Int)) (hM : M ≤ 6000) (bi : jR i) (hi : ¬ (0 ≤ i ∧ i ≤ (M : Int) - 1)) : J b d 47 w (0, jargs 0 [.inr (some (7, p)), .inl i], [], H) (jN fun r w' H' => r = some (.inr none) ∧ w' = w ∧ H' = H) := by
  refine J.run0 1 rfl ?_
  try dsimp only
  refine J.ifc rfl rfl rfl bi (fun hc => ?_) (fun hc => ?_)
  · refine J.run0 2 rfl ?_
    try dsimp only
    exact J.reta rfl rfl rfl ⟨_, rfl, rfl, rfl, rfl⟩
  have hc' : ¬ i < 0 := hc
  refine J.run 3 rfl h7 ?_
  try dsimp only
  try dsimp only
  rw [hs]
  refine J.icmp rfl rfl rfl ⟨bi, by omega, by omega⟩ (fun hc2 => absurd (show i < (M : Int) from hc2) (by omega)) (fun _ => ?_)
  refine J.run0 2 rfl ?_
  try dsimp only
  exact J.reta rfl rfl rfl ⟨_, rfl, rfl, rfl, rfl⟩
end SJ
