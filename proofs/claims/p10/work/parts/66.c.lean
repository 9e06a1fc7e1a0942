/-! the class: what is written in a NODE; MESSAGES are sent -/
section CS
variable {b : Bool} {d : Nat} {w : jW} {H : jH}
/-- only these numbers of the NODE at P are changed -/
def nFld (H' H : jH) (P : Nat) (fs : List Nat) : Prop := H'.2 = H.2 ∧ ∀ c j p, ¬ (c = 6 ∧ p = P ∧ j ∈ fs) → H'.1 c j p = H.1 c j p
theorem nFld.refl (H : jH) (P : Nat) (fs : List Nat) : nFld H H P fs := ⟨rfl, fun _ _ _ _ => rfl⟩
theorem nFld.int {F : Nat → Nat → Nat → Int} {O : Nat → Nat → Nat → Option Nat} {R : Nat → Nat → Int → Int} {B : Nat → Nat → Int → Option Nat} {W : Nat → Nat → Nat → Nat} {H : jH} {P j : Nat} {fs : List Nat} {x : Int} (h : nFld (F, O, R, B, W) H P fs) (hj : j ∈ fs) : nFld (jupF F 6 j P x, O, R, B, W) H P fs := by
  refine ⟨h.1, fun c j' p hn => ?_⟩
  refine (jupF_ne fun z => hn ⟨z.1, z.2.2, by rw [z.2.1]; exact hj⟩).trans (h.2 c j' p hn)
theorem nFld.trans {H1 H2 H3 : jH} {P : Nat} {fs : List Nat} (h : nFld H1 H2 P fs) (h' : nFld H2 H3 P fs) : nFld H1 H3 P fs := ⟨h.1.trans h'.1, fun c j p hn => (h.2 c j p hn).trans (h'.2 c j p hn)⟩
theorem nFld.mono {H1 H2 : jH} {P : Nat} {fs fs' : List Nat} (h : nFld H1 H2 P fs) (hs : ∀ j ∈ fs, j ∈ fs') : nFld H1 H2 P fs' := ⟨h.1, fun c j p hn => h.2 c j p fun z => hn ⟨z.1, z.2.1, hs j z.2.2⟩⟩
theorem nFld.at {H1 H : jH} {P : Nat} {fs : List Nat} (h : nFld H1 H P fs) (j : Nat) (hj : j ∉ fs) : H1.1 6 j P = H.1 6 j P := h.2 6 j P fun z => hj z.2.2
theorem nFld.k {H1 H : jH} {P : Nat} {fs : List Nat} (h : nFld H1 H P fs) : jK [6] [] H1 H := by
  refine ⟨fun c hn => ?_, fun k _ => ?_⟩
  · have hc : c ≠ 6 := fun z => hn (by rw [z]; exact List.mem_singleton.mpr rfl)
    exact ⟨funext fun j => funext fun p => h.2 c j p fun z => hc z.1, by rw [h.1], by rw [h.1]⟩
  · rw [h.1]; exact ⟨rfl, rfl⟩
theorem nFld.same {H1 H : jH} {P P' L' : Nat} {fs : List Nat} (h : nFld H1 H P fs) (hp : P' ≠ P) : nSame H1 H P' L' := ⟨fun j => ⟨h.2 6 j P' fun z => hp z.2.1, by rw [h.1]⟩, fun j => h.2 4 j L' fun z => absurd z.1 (by decide), by rw [h.1], by rw [h.1]⟩
theorem c_enter {P : Nat} (h6 : w.1 6 P) : J b d 37 w (0, jargs 0 [.inr (some (6, P)), .inl 0], [], H) (jN fun r w' H' => r = none ∧ w' = w ∧ nFld H' H P [2, 3, 8, 9] ∧ H'.1 6 2 P = 0 ∧ H'.1 6 3 P = 0 ∧ H'.1 6 8 P = 0 ∧ H'.1 6 9 P = 1) := by
  refine J.run 12 rfl ⟨h6, h6, ⟨h6, Or.inl rfl⟩, h6, Or.inr rfl⟩ ?_
  try dsimp only
  refine J.gn fun H1 hH1 => ?_
  have q0 : nFld H1 H P [2, 3, 8, 9] := by
    rw [hH1]
    iterate 4 refine nFld.int ?_ (by decide)
    exact nFld.refl _ _ _
  have q1 : H1.1 6 2 P = 0 := by rw [hH1]; exact if_pos rfl
  have q2 : H1.1 6 3 P = 0 := by rw [hH1]; exact if_pos rfl
  have q3 : H1.1 6 8 P = 0 := by rw [hH1]; exact if_pos rfl
  have q4 : H1.1 6 9 P = 1 := by rw [hH1]; exact if_pos rfl
  exact J.retv rfl rfl rfl ⟨_, rfl, rfl, rfl, q0, q1, q2, q3, q4⟩
theorem c_unlock {P : Nat} (h6 : w.1 6 P) : J b d 38 w (0, jargs 0 [.inr (some (6, P))], [], H) (jN fun r w' H' => r = none ∧ w' = w ∧ nFld H' H P [4, 5, 6, 7] ∧ H'.1 6 4 P = -1 ∧ H'.1 6 5 P = -1 ∧ H'.1 6 6 P = -1 ∧ H'.1 6 7 P = -1) := by
  refine J.run 12 rfl ⟨h6, h6, h6, h6⟩ ?_
  try dsimp only
  refine J.gn fun H1 hH1 => ?_
  have q0 : nFld H1 H P [4, 5, 6, 7] := by
    rw [hH1]
    iterate 4 refine nFld.int ?_ (by decide)
    exact nFld.refl _ _ _
  have q1 : H1.1 6 4 P = -1 := by rw [hH1]; exact if_pos rfl
  have q2 : H1.1 6 5 P = -1 := by rw [hH1]; exact if_pos rfl
  have q3 : H1.1 6 6 P = -1 := by rw [hH1]; exact if_pos rfl
  have q4 : H1.1 6 7 P = -1 := by rw [hH1]; exact if_pos rfl
  exact J.retv rfl rfl rfl ⟨_, rfl, rfl, rfl, q0, q1, q2, q3, q4⟩
theorem c_clear {L : Nat} (h4 : w.1 4 L) : J b d 24 w (0, jargs 0 [.inr (some (4, L))], [], H) (jN fun r w' H' => r = none ∧ w' = w ∧ jK [4] [] H' H ∧ (∀ j p, p ≠ L → H'.1 4 j p = H.1 4 j p) ∧ H'.1 4 1 L = 0 ∧ H'.1 4 2 L = 0) := by
  refine J.run 6 rfl ⟨h4, h4⟩ ?_
  try dsimp only
  refine J.gn fun H1 hH1 => ?_
  have q0 : jK [4] [] H1 H := by
    rw [hH1]
    iterate 2 refine jK.int ?_ (by decide)
    exact jK.refl _ _ _
  have q1 : H1.1 4 1 L = 0 := by rw [hH1]; exact if_pos rfl
  have q2 : H1.1 4 2 L = 0 := by rw [hH1]; exact if_pos rfl
  have q3 : ∀ j p, p ≠ L → H1.1 4 j p = H.1 4 j p := fun j p h => by
    rw [hH1]
    show jupF (jupF H.1 4 1 L 0) 4 2 L 0 4 j p = _
    rw [jupF_ne fun z => h z.2.2, jupF_ne fun z => h z.2.2]
  exact J.retv rfl rfl rfl ⟨_, rfl, rfl, rfl, q0, q3, q1, q2⟩
theorem c_entry {p P : Nat} {kd bl bf : Int} (h2 : w.1 2 p) (h6 : w.1 6 P) : J b d 9 w (0, jargs 0 [.inr (some (2, p)), .inr (some (6, P)), .inl kd, .inl bl, .inl bf], [], H) (jN fun r w' H' => r = none ∧ w' = w ∧ jK [2] [] H' H ∧ H'.1 2 0 p = kd ∧ H'.1 2 1 p = bl ∧ H'.1 2 2 p = bf ∧ H'.1 2 3 p = H.1 6 2 P) := by
  refine J.run0 1 rfl ?_
  try dsimp only
  refine J.obj rfl rfl rfl rfl ?_
  refine J.run 33 rfl ⟨h2, h2, h2, h6, h2, h6, h2, h6, h2, h6, h2, h6, h2, h6, h2⟩ ?_
  try dsimp only
  refine J.gn fun H1 hH1 => ?_
  have q0 : jK [2] [] H1 H := by
    rw [hH1]
    iterate 9 refine jK.int ?_ (by decide)
    exact jK.refl _ _ _
  have q1 : H1.1 2 0 p = kd := by rw [hH1]; exact if_pos rfl
  have q2 : H1.1 2 1 p = bl := by rw [hH1]; exact if_pos rfl
  have q3 : H1.1 2 2 p = bf := by rw [hH1]; exact if_pos rfl
  have q4 : H1.1 2 3 p = H.1 6 2 P := by rw [hH1]; exact if_pos rfl
  exact J.retv rfl rfl rfl ⟨_, rfl, rfl, rfl, q0, q1, q2, q3, q4⟩
theorem c_write {L e : Nat} {s : Nat} (h4 : w.1 4 L) (hr : w.1 25 L) (h2 : w.1 2 e) (hs : H.1 4 1 L = (s : Int)) (hs2 : s < 96) : J b d 27 w (0, jargs 0 [.inr (some (4, L)), .inr (some (2, e)), .inl 12], [], H) (jN fun r w' H' => r = none ∧ w' = w ∧ jK [4] [25] H' H ∧ (∀ j p, p ≠ L → H'.1 4 j p = H.1 4 j p) ∧ H'.1 4 1 L = (s : Int) + 1 ∧ H'.1 4 2 L = H.1 4 2 L) := by
  refine J.run0 2 rfl ?_
  try dsimp only
  refine J.icmp rfl rfl rfl ⟨⟨by decide, by decide⟩, by decide, by decide⟩ (fun _ => ?_) (fun hc => absurd (show (12 : Int) ≤ 12 by decide) hc)
  refine J.run 3 rfl h4 ?_
  try dsimp only
  refine J.icmp rfl rfl rfl ⟨⟨show -2147483648 ≤ H.1 4 1 L by omega, show H.1 4 1 L ≤ 2147483647 by omega⟩, by decide, by decide⟩ (fun hc => absurd (show 96 ≤ H.1 4 1 L from hc) (by omega)) (fun _ => ?_)
  refine J.run 12 rfl ⟨⟨h4, hr⟩, h4, ⟨hr, h2, show 0 ≤ H.1 4 1 L by omega, show H.1 4 1 L < 96 by omega⟩, h4, h4⟩ ?_
  try dsimp only
  refine J.gn fun H1 hH1 => ?_
  have q0 : jK [4] [25] H1 H := by
    rw [hH1]
    refine jK.int ?_ (by decide)
    refine jK.rows ?_ (by decide)
    exact jK.refl _ _ _
  have q1 : H1.1 4 1 L = (s : Int) + 1 := by rw [hH1, ← hs]; exact if_pos rfl
  have q2 : H1.1 4 2 L = H.1 4 2 L := by rw [hH1]; rfl
  have q3 : ∀ j p, p ≠ L → H1.1 4 j p = H.1 4 j p := fun j p h => by
    rw [hH1]
    show jupF H.1 4 1 L _ 4 j p = _
    exact jupF_ne fun z => h z.2.2
  exact J.retv rfl rfl rfl ⟨_, rfl, rfl, rfl, q0, q3, q1, q2⟩
theorem c_message {p : Nat} {x0 x1 x2 x3 x4 x5 x6 : Int} (h5 : w.1 5 p) : J b d 28 w (0, jargs 0 [.inr (some (5, p)), .inl x0, .inl x1, .inl x2, .inl x3, .inl x4, .inl x5, .inl x6], [], H) (jN fun r w' H' => r = none ∧ w' = w ∧ jK [5] [] H' H ∧ H'.2 = H.2 ∧ (∀ j p', p' ≠ p → H'.1 5 j p' = H.1 5 j p') ∧ H'.1 5 0 p = x0 ∧ H'.1 5 1 p = x1 ∧ H'.1 5 2 p = x2 ∧ H'.1 5 3 p = x3 ∧ H'.1 5 4 p = x4 ∧ H'.1 5 5 p = x5 ∧ H'.1 5 6 p = x6) := by
  refine J.run0 1 rfl ?_
  try dsimp only
  refine J.obj rfl rfl rfl rfl ?_
  refine J.run 21 rfl ⟨h5, h5, h5, h5, h5, h5, h5⟩ ?_
  try dsimp only
  refine J.gn fun H1 hH1 => ?_
  have q0 : jK [5] [] H1 H := by
    rw [hH1]
    iterate 7 refine jK.int ?_ (by decide)
    exact jK.refl _ _ _
  have q8 : H1.2 = H.2 := by rw [hH1]
  have q9 : ∀ j p', p' ≠ p → H1.1 5 j p' = H.1 5 j p' := fun j p' h => by
    rw [hH1]
    try dsimp only
    iterate 7 rw [jupF_ne fun z => h z.2.2]
  have q1 : H1.1 5 0 p = x0 := by rw [hH1]; exact if_pos rfl
  have q2 : H1.1 5 1 p = x1 := by rw [hH1]; exact if_pos rfl
  have q3 : H1.1 5 2 p = x2 := by rw [hH1]; exact if_pos rfl
  have q4 : H1.1 5 3 p = x3 := by rw [hH1]; exact if_pos rfl
  have q5 : H1.1 5 4 p = x4 := by rw [hH1]; exact if_pos rfl
  have q6 : H1.1 5 5 p = x5 := by rw [hH1]; exact if_pos rfl
  have q7 : H1.1 5 6 p = x6 := by rw [hH1]; exact if_pos rfl
  exact J.retv rfl rfl rfl ⟨_, rfl, rfl, rfl, q0, q8, q9, q1, q2, q3, q4, q5, q6, q7⟩
end CS
