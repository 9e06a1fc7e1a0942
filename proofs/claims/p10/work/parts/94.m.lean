/-! the reference's constructor behind its rows -/
section SC
variable {d : Nat} {w : jW} {H : jH}
theorem rH_row {k : Nat} (hk : jcn k = true) (j : Int) : (rH H).2.2.1 k 0 j = 0 := by
  show (match jcn k with
    | true => 0
    | false => H.2.2.1 k 0 j) = 0
  rw [hk]
theorem rH_num {f : Nat} (hf : f ≠ 48) : (rH H).1 11 f 0 = 0 := by
  show (match Nat.beq f 48 with
    | true => (-1 : Int)
    | false => 0) = 0
  cases hb : Nat.beq f 48 with
  | false => rfl
  | true => exact absurd (Nat.eq_of_beq_eq_true hb) hf
set_option maxRecDepth 20000 in
theorem r_tail : J true (d + 9) 113 w (497, [(0, jT)], [], rH H) (jN fun r w' H' => r = none ∧ w' = w ∧ rInv (zc 16) H') := by
  refine J.run 20 rfl ⟨⟨show (0 : Int) ≤ 0 by decide, show (0 : Int) < 300 by decide⟩, ⟨show (0 : Int) ≤ 0 by decide, show (0 : Int) < 300 by decide⟩, show (0 : Int) ≤ 0 by decide, show (0 : Int) < 300 by decide⟩ ?_
  try dsimp only
  refine J.gn fun H1 hH1 => ?_
  have e1 : jEx [12] [55, 57, 61] H1 (rH H) := by
    rw [hH1]
    refine jEx.num ?_ (by decide)
    refine jEx.row ?_ (by decide)
    refine jEx.row ?_ (by decide)
    refine jEx.row ?_ (by decide)
    exact jEx.refl _ _ _
  have v1 : H1.1 11 12 0 = 1 ∧ H1.2.2.1 55 0 0 = -1 ∧ H1.2.2.1 57 0 0 = -1 ∧ H1.2.2.1 61 0 = jup ((rH H).2.2.1 61 0) 0 1 := by
    rw [hH1]
    exact ⟨rfl, rfl, rfl, rfl⟩
  clear hH1
  have ev : ∀ f, f ≠ 12 → H1.1 11 f 0 = (rH H).1 11 f 0 := fun f hf => e1.v f fun z => hf (List.mem_singleton.mp z)
  refine J.inv rfl rfl rfl rfl rfl rfl jDr rfl rfl rfl rfl rfl (j_state0 (d := d + 7) (by rw [ev _ (by decide)]; rfl)) ?_
  rintro r w H2 ⟨rfl, rfl, hL, hE, hd⟩
  refine J.run0 2 rfl ?_
  try dsimp only
  have hs : ∀ f, f ∉ [48, 56, 57, 12] → f ∉ sF ∧ f ≠ 12 ∧ f ≠ 48 := fun f hf => ⟨fun z => hf (by
    have h9 : ∀ f ∈ sF, f ∈ [48, 56, 57, 12] := by decide
    exact h9 f z), fun z => hf (by rw [z]; decide), fun z => hf (by rw [z]; decide)⟩
  have hN : rNew H2 ((0 : Nat) : Int) := by
    refine ⟨hL, hd, fun f hf => ?_, ?_, fun k h50 hk j => ?_, ?_, ?_, ?_, fun j hj => ?_, fun j x y => ?_⟩
    · rw [hE.v f (hs f hf).1, ev f (hs f hf).2.1]
      exact rH_num (hs f hf).2.2
    · rw [hE.v _ (by decide)]; exact v1.1
    · have h8 : ∀ k ∈ sK, k ∈ [99, 100, 101, 105, 108, 55, 57, 61, 60] := by decide
      have h9 : ∀ k ∈ [55, 57, 61], k ∈ [99, 100, 101, 105, 108, 55, 57, 61, 60] := by decide
      rw [hE.r k fun z => hk (h8 k z), e1.r k fun z => hk (h9 k z)]
      exact rH_row h50 j
    · rw [hE.r _ (by decide)]; exact v1.2.1
    · rw [hE.r _ (by decide)]; exact v1.2.2.1
    · rw [hE.r _ (by decide), v1.2.2.2]; rfl
    · rw [hE.r _ (by decide), v1.2.2.2]
      exact (if_neg hj).trans (rH_row (by decide) j)
    · omega
  refine r_claims (d := d + 7) (H0 := H2) (fun H3 hN3 _ => ?_) 16 0 H2 rfl hN (jEx.refl _ _ _)
  refine J.run0 2 rfl ?_
  try dsimp only
  refine r_nodes (d := d + 6) (fun H4 hM4 => ?_) 16 0 H3 rfl hN3.mk
  refine J.run0 2 rfl ?_
  try dsimp only
  exact r_begin 16 0 H4 rfl hM4.inv
end SC
