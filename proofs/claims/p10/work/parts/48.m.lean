section JM8
variable {d : Nat} {w : jW} {H : jH}
abbrev kW : List Nat := [82, 83, 85, 86, 87, 88, 89, 90, 91, 92, 93, 94]
theorem j_isRecorded {v : zV} {ht : Nat → Nat} {n : Nat} {kd r b bf : Int} (hn : n < 16) (hr : v.2.2.2.1 ≤ 100) (hN : rNd v ht H n) :
    J true d 138 w (0, jargs 0 [jT, .inl n, .inl kd, .inl r, .inl b, .inl bf], [], H) (jN fun x w' H' => x = some (.inl 1) ∧ w' = w ∧ jEx [] kW H' H ∧ rNd (v.1, v.2.1, v.2.2.1, v.2.2.2.1 + 1, v.2.2.2.2) ht H' n ∧ ∀ n', n' ≠ n → n' < 16 → rOth H' H n') := by
  obtain ⟨⟨a1, a2, a3, a4, a5, a6, a7⟩, ⟨b1, b2, b3, b4, b5⟩, ⟨c1, c2, c3⟩, ⟨d1, d2⟩, e1, e2⟩ := hN
  have hn' : (0 : Int) ≤ n ∧ (n : Int) < 16 := by omega
  have i1 : 0 ≤ 128 * (n : Int) + H.2.2.1 83 0 n ∧ 128 * (n : Int) + H.2.2.1 83 0 n < 2048 := by omega
  refine J.run 86 rfl ⟨hn', hn', hn', i1, i1, i1, i1, i1, hn', i1, hn', i1, hn', i1, hn', i1, hn', i1⟩ ?_
  try dsimp only
  refine J.icmp rfl rfl rfl ⟨⟨show -2147483648 ≤ H.2.2.1 82 0 n by omega, show H.2.2.1 82 0 n ≤ 2147483647 by omega⟩, by decide, by decide⟩ (fun hc => absurd (show H.2.2.1 82 0 n < 12 from hc) (by omega)) (fun _ => ?_)
  refine J.run 8 rfl ⟨hn', hn'⟩ ?_
  try dsimp only
  refine J.run0 2 rfl ?_
  try dsimp only
  refine J.icmp rfl rfl rfl ⟨⟨show -2147483648 ≤ H.2.2.1 82 0 n by omega, show H.2.2.1 82 0 n ≤ 2147483647 by omega⟩, by decide, by decide⟩ (fun hc => absurd (show H.2.2.1 82 0 n ≤ 12 from hc) (by omega)) (fun _ => ?_)
  refine J.run 7 rfl i1 ?_
  try dsimp only
  refine J.retb rfl rfl rfl (by decide) ⟨_, rfl, rfl, rfl, ?_, ⟨⟨a1, a2, a3, a4, a5, a6, a7⟩, ⟨b1, b2, ?_, ?_, b5⟩, ⟨c1, c2, c3⟩, ⟨d1, d2⟩, e1, e2⟩, fun n' h1 h2 => ?_⟩
  · iterate 13 refine jEx.row ?_ (by decide)
    exact jEx.refl _ _ _
  · show jup (H.2.2.1 82 0) n 13 n = 13
    unfold jup
    rw [if_pos rfl]
  · show jup (H.2.2.1 83 0) n (H.2.2.1 83 0 n + 1) n = ((v.2.2.2.1 + 1 : Nat) : Int)
    unfold jup
    rw [if_pos rfl]
    omega
  · iterate 13 refine rOth.up ?_ (by first | exact Or.inr (by decide) | exact Or.inl (by omega)) (Or.inr (by decide)) (Or.inr (by decide))
    exact rOth.refl _ _
abbrev kMs : List Nat := [63, 64, 65, 66, 67, 68]
theorem j_spoken {v : zV} {ht : Nat → Nat} {n M kd h : Nat} {bl : Int} (hn : n < 16) (hM : H.1 11 19 0 = (M : Int)) (hM2 : M < 6000) (hK : ∀ i ∈ v.2.2.2.2, i < M) (hl : v.2.2.2.2.length < 6000) (hN : rNd v ht H n) (hh : h ≤ 1000) (hh2 : 1 ≤ v.1 ∧ v.1 ≤ 300) (hbh : H.2.2.1 56 0 (H.2.2.1 72 0 n) + 1 = v.1) :
    J true (d + 2) 139 w (0, jargs 0 [jT, .inl n, .inl kd, .inl h, .inl 0, .inl bl, .inl (-1)], [], H) (jN fun x w' H' => x = some (.inl M) ∧ w' = w ∧ jEx [19] (kMs ++ kK) H' H ∧ H'.1 11 19 0 = ((M + 1 : Nat) : Int) ∧ rNd (v.1, v.2.1, v.2.2.1, v.2.2.2.1, v.2.2.2.2 ++ [M]) (va_up ht M h) H' n ∧ (∀ n', n' ≠ n → n' < 16 → rOth H' H n') ∧
      (H'.2.2.1 63 0 = jup (H.2.2.1 63 0) M kd ∧ H'.2.2.1 64 0 = jup (H.2.2.1 64 0) M n ∧ H'.2.2.1 65 0 = jup (H.2.2.1 65 0) M h ∧ H'.2.2.1 66 0 = jup (H.2.2.1 66 0) M 0 ∧ H'.2.2.1 67 0 = jup (H.2.2.1 67 0) M bl ∧ H'.2.2.1 68 0 = jup (H.2.2.1 68 0) M (-1))) := by
  have hm' : 0 ≤ H.1 11 19 0 ∧ H.1 11 19 0 < 6000 := by omega
  refine J.run 42 rfl ⟨hm', hm', hm', hm', hm', hm'⟩ ?_
  try dsimp only
  try dsimp only
  rw [hM]
  refine J.gen fun H1 hH1 => ?_
  have hE1 : jEx [19] kMs H1 H := by
    rw [hH1]
    refine jEx.num ?_ (by decide)
    iterate 6 refine jEx.row ?_ (by decide)
    exact jEx.refl _ _ _
  have m1 : H1.2.2.1 63 0 = jup (H.2.2.1 63 0) M kd := by rw [hH1]; rfl
  have m2 : H1.2.2.1 64 0 = jup (H.2.2.1 64 0) M n := by rw [hH1]; rfl
  have m3 : H1.2.2.1 65 0 = jup (H.2.2.1 65 0) M h := by rw [hH1]; rfl
  have m4 : H1.2.2.1 66 0 = jup (H.2.2.1 66 0) M 0 := by rw [hH1]; rfl
  have m5 : H1.2.2.1 67 0 = jup (H.2.2.1 67 0) M bl := by rw [hH1]; rfl
  have m6 : H1.2.2.1 68 0 = jup (H.2.2.1 68 0) M (-1) := by rw [hH1]; rfl
  have m7 : H1.1 11 19 0 = ((M + 1 : Nat) : Int) := by rw [hH1]; show (M : Int) + 1 = _; omega
  clear hH1
  have hN1 : rNd v (va_up ht M h) H1 n := hN.oth (rOth.ex hE1 (by decide)) (fun i hi => if_neg (by have := hK i hi; omega)) (by omega)
  refine J.inv rfl rfl rfl rfl rfl rfl jDr rfl rfl rfl rfl rfl (j_know (v := v) (ht := va_up ht M h) hn hM2 (fun z => by have := hK M z; omega) hl hN1 ?_ ?_ hh2 ?_) ?_
  · rw [m3]
    unfold jup va_up
    rw [if_pos rfl, if_pos rfl]
  · unfold va_up
    rw [if_pos rfl]
    exact hh
  · rw [hE1.r 56 (by decide), hE1.r 72 (by decide)]
    exact hbh
  rintro r w' H' ⟨rfl, rfl, hE2, hN2, hO2⟩
  refine J.run0 1 rfl ?_
  try dsimp only
  refine J.reti rfl rfl rfl ⟨_, rfl, rfl, rfl, hE2.trans (hE1.mono (fs' := [19]) (ks' := kMs ++ kK) (by decide) (by decide)) (by decide) (by decide), ?_, hN2, fun n' h1 h2 => (hO2 n' h1 h2).trans (rOth.ex hE1 (by decide)), ?_⟩
  · rw [hE2.v 19 (by decide)]
    exact m7
  · rw [hE2.r 63 (by decide), hE2.r 64 (by decide), hE2.r 65 (by decide), hE2.r 66 (by decide), hE2.r 67 (by decide), hE2.r 68 (by decide)]
    exact ⟨m1, m2, m3, m4, m5, m6⟩
end JM8
