/-! Arrays.copyOf -/
section CP
variable {F : cG} {T : cP} {d : Nat} {w : jW} {H : jH}
theorem c_J7_copyOf_59c91_23 {row : Nat} {n : Int} {T : cP} {w : jW} {H : jH} (hI : cJ F T w H) (ta0 : T 23 row) (hp0 : 0 ≤ n ∧ n ≤ 12) : J false d 173 w (0, jargs 0 [.inr (some (23, row)), .inl n], [], H) (jN fun v w' H' => ∃ T', cJ F T' w' H' ∧ (∀ k p, T k p → T' k p) ∧ cEx T [] H' H ∧ ((w'.2.1 : Nat) : Int) - 2 * H'.1 7 4 F.2.2.1 - 13 * H'.1 3 1 F.2.1 - H'.1 3 3 F.2.1 ≤ ((w.2.1 : Nat) : Int) - 2 * H.1 7 4 F.2.2.1 - 13 * H.1 3 1 F.2.1 - H.1 3 3 F.2.1 + (2) ∧ ((w'.2.2 : Nat) : Int) - 18 * H'.1 7 4 F.2.2.1 - 700 * H'.1 3 1 F.2.1 - 6 * H'.1 3 3 F.2.1 ≤ ((w.2.2 : Nat) : Int) - 18 * H.1 7 4 F.2.2.1 - 700 * H.1 3 1 F.2.1 - 6 * H.1 3 3 F.2.1 + 10 * (2) ∧ ∃ q, v = some (.inr (some (42, q))) ∧ T' 42 q ∧ True) := by
  have w23 := hI.is ta0
  refine J.run 3 rfl ⟨w23, show (0 : Int) ≤ 12 by decide, show (12 : Int) ≤ 2147483647 by decide⟩ ?_
  try dsimp only
  refine J.icmp rfl rfl rfl ⟨⟨by omega, by omega⟩, show (-2147483648 : Int) ≤ 12 by decide, show (12 : Int) ≤ 2147483647 by decide⟩ (fun hc => ?_) (fun hc => ?_)
  · refine J.run0 1 rfl ?_
    try dsimp only
    refine J.nd (kd := 42) rfl rfl (Or.inl rfl) ⟨hp0.1, by omega⟩ (jstP.cons (Or.inr ((jD_w rfl).mpr w23)) (jstP.cons trivial jstP.nil)) fun H1 hN1 hwc => ?_
    have lt : ∀ k q, T k q → q ≠ w.2.1 := fun k q z => Nat.ne_of_lt (hwc.2 _ _ (hI.is z)).1
    have e1 := cEx.nd (T := T) hN1 lt
    have e42 : H1.1 42 0 w.2.1 = n := hN1.2.1 rfl
    refine J.run 8 rfl ⟨Or.inl w23, show (0 : Int) ≤ 12 by decide, show (12 : Int) ≤ 2147483647 by decide⟩ ?_
    try dsimp only
    refine J.min rfl rfl rfl ⟨show (-2147483648 : Int) ≤ 12 by decide, show (12 : Int) ≤ 2147483647 by decide⟩ ⟨by omega, by omega⟩ rfl ?_
    have hm : (if n < 12 then n else 12) = n := by split <;> omega
    refine J.cpy (n1 := 12) (n2 := -1) rfl rfl rfl rfl rfl (fun z => absurd z.1 (by decide)) rfl ((jD_w rfl).mpr (Or.inl w23)) ((jD_w rfl).mpr (Or.inr ⟨rfl, rfl⟩)) ⟨by omega, by omega, by show (0 : Int) ≤ (if n < 12 then n else 12); rw [hm]; exact hp0.1⟩ (by show (0 : Int) + (if n < 12 then n else 12) ≤ 12; omega) ?_ ?_
    · show (0 : Int) + (if n < 12 then n else 12) ≤ H1.1 42 0 w.2.1
      rw [e42]
      omega
    refine J.run0 1 rfl ?_
    try dsimp only
    refine J.gn fun H2 hH2 => ?_
    have hn42 : ¬ T 42 w.2.1 := fun z => lt _ _ z rfl
    have e2 : cEx T [] H2 H1 := by rw [hH2]; exact cEx.oR cEx.refl hn42
    have e : cEx T [] H2 H := cEx.trans e2 e1 (fun _ _ z => z) rfl
    have i0 : cJ F T (jwA w 42 w.2.1 n.toNat) H2 := cJ.same hI e (fun _ _ z => Or.inl z)
    have l2 : H2.1 42 0 w.2.1 = n := by rw [hH2]; exact e42
    have r2 : ∀ i, 0 ≤ H2.2.2.1 42 w.2.1 i ∧ H2.2.2.1 42 w.2.1 i ≤ 1499 := by
      intro i
      have q : H2.2.2.1 42 w.2.1 = jcpy (H1.2.2.1 23 row) (H1.2.2.1 42 w.2.1) 0 0 (if n < 12 then n else 12) := by rw [hH2]; exact if_pos rfl
      rw [q, hm]
      unfold jcpy
      split
      · rw [(e1.2 23 row ta0).1 (nn _)]
        exact hI.i 23 row _ ta0
      · rw [hN1.2.2.2.2.2.2 i]
        omega
    have i1 : cJ F (tA T 42 w.2.1) (jwA w 42 w.2.1 n.toNat) H2 := cI.row42 i0 (Or.inr ⟨rfl, rfl⟩) hwc.1 (by rw [l2]; exact hp0) r2
    have g1 : H2.1 7 4 F.2.2.1 = H.1 7 4 F.2.2.1 := (e.1 7 4 _ hI.top.2.2.1).1 (nn _)
    have g2 : H2.1 3 1 F.2.1 = H.1 3 1 F.2.1 := (e.1 3 1 _ hI.top.2.1).1 (nn _)
    have g3 : H2.1 3 3 F.2.1 = H.1 3 3 F.2.1 := (e.1 3 3 _ hI.top.2.1).1 (nn _)
    refine J.retar rfl rfl rfl ⟨_, rfl, tA T 42 w.2.1, i1, tA.sub, e, ?_, ?_, _, rfl, tA.new, trivial⟩
    · show ((w.2.1 + 1 : Nat) : Int) - _ - _ - _ ≤ _
      omega
    · show ((w.2.2 + n.toNat : Nat) : Int) - _ - _ - _ ≤ _
      omega
  · have h12 : n = 12 := by
      have hc' : ¬ ¬ (n = 12) := hc
      omega
    refine J.run0 1 rfl ?_
    try dsimp only
    refine J.cln (k1 := 23) (p1 := row) (n := 12) rfl rfl rfl rfl rfl rfl rfl rfl ((jD_w rfl).mpr w23) rfl ⟨by decide, by decide⟩ rfl (jstP.cons (Or.inr ((jD_w rfl).mpr w23)) (jstP.cons trivial jstP.nil)) fun H1 hN1 hwc => ?_
    have lt : ∀ k q, T k q → q ≠ w.2.1 := fun k q z => Nat.ne_of_lt (hwc.2 _ _ (hI.is z)).1
    have e : cEx T [] H1 H := ⟨fun c j q ht => ⟨fun _ => hN1.1 c j q fun z => lt _ _ ht z.2, fun _ => by rw [hN1.2.2.1], fun _ => by rw [hN1.2.2.2.1]⟩, fun k q ht => ⟨fun _ => hN1.2.2.2.2.2.1 k q fun z => lt _ _ ht z.2, fun _ => by rw [hN1.2.2.2.2.1]⟩⟩
    have i0 : cJ F T (jwA w 42 w.2.1 (12 : Int).toNat) H1 := cJ.same hI e (fun _ _ z => Or.inl z)
    have i1 : cJ F (tA T 42 w.2.1) (jwA w 42 w.2.1 (12 : Int).toNat) H1 := cI.row42 i0 (Or.inr ⟨rfl, rfl⟩) hwc.1 (by rw [hN1.2.1]; decide) (fun i => by rw [hN1.2.2.2.2.2.2]; exact hI.i 23 row i ta0)
    have g1 : H1.1 7 4 F.2.2.1 = H.1 7 4 F.2.2.1 := (e.1 7 4 _ hI.top.2.2.1).1 (nn _)
    have g2 : H1.1 3 1 F.2.1 = H.1 3 1 F.2.1 := (e.1 3 1 _ hI.top.2.1).1 (nn _)
    have g3 : H1.1 3 3 F.2.1 = H.1 3 3 F.2.1 := (e.1 3 3 _ hI.top.2.1).1 (nn _)
    refine J.retar rfl rfl rfl ⟨_, rfl, tA T 42 w.2.1, i1, tA.sub, e, ?_, ?_, _, rfl, tA.new, trivial⟩
    · show ((w.2.1 + 1 : Nat) : Int) - _ - _ - _ ≤ _
      omega
    · show ((w.2.2 + 12 : Nat) : Int) - _ - _ - _ ≤ _
      omega
end CP
