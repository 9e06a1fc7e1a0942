/-! the class: what a NODE does (1) -/
section CK
variable {b : Bool} {d : Nat} {w : jW} {H : jH}
theorem va_up2 {α : Type} (f : Nat → α) (n : Nat) (a c : α) : va_up (va_up f n a) n c = va_up f n c := by
  funext i
  unfold va_up
  by_cases h : i = n
  · rw [if_pos h, if_pos h]
  · rw [if_neg h, if_neg h, if_neg h]
theorem zN2 (z : zT) (n : Nat) (v v' : zV) : zN (zN z n v) n v' = zN z n v' := by
  unfold zN
  try dsimp only
  rw [va_up2]
theorem zbegin_zN (z : zT) (n h s e s' e' r : Nat) (K : List Nat) : zbegin (zN z n (h, s, e, r, K)) n = zbegin (zN z n (h, s', e', r, K)) n := by
  have a1 := zN_at z n (h, s, e, r, K)
  have a2 := zN_at z n (h, s', e', r, K)
  unfold zbegin zst nh nr nK
  rw [a1, a2, zN2, zN2]
  unfold zN
  try dsimp only
  rw [va_up2, va_up2]
theorem cPic.node {F : cF} {z : zT} {je mp bp sp : Nat → Nat} {n : Nat} (hz : zInv z) (hP : cPic F w z H je mp bp sp) (hn : n < 16) : (0 < bp (nh z n - 1) ∧ w.1 0 (bp (nh z n - 1)) ∧ H.1 0 1 (bp (nh z n - 1)) + 1 = (nh z n : Int)) ∧ H.2.1 0 6 (bp (nh z n - 1)) = some (sp (nh z n - 1)) ∧ w.1 8 (sp (nh z n - 1)) ∧ cSt2 w H (sp (nh z n - 1)) ∧ H.1 0 0 (bp (nh z n - 1)) = (nh z n : Int) - 1 := by
  have h4 := (hz.2.2.2.1 n hn).1
  have hb1 : nh z n - 1 < zB z := by omega
  have hblk := (hP.2.2.1.2.2.2.1 (nh z n - 1) hb1).2.2
  refine ⟨⟨hblk.1.2.1, hblk.1.1, ?_⟩, hblk.2.2.2.1, hblk.2.2.2.2.1.1, hblk.2.2.2.2.2.2, ?_⟩
  · rw [hblk.1.2.2.2.1]; omega
  · rw [hblk.1.2.2.1]; omega
theorem c_propose0 {F : cF} {z : zT} {n : Nat} {je mp bp sp : Nat → Nat} (hP : cPic F w z H je mp bp sp) (hn : n < 16) (hje : je n = 0) : J b d 90 w (0, jargs 0 [.inr (some (10, fX F)), .inr (some (6, fN F n))], [], H) (jN fun r w' H' => r = some (.inl 0) ∧ w' = w ∧ H' = H) := by
  have hN := hP.2.2.2.1 n hn
  refine J.run 2 rfl hN.1.1 ?_
  try dsimp only
  try dsimp only
  rw [hN.2.1.2.2.2.2.2.1, hje]
  refine J.ifc rfl rfl rfl ⟨by decide, by decide⟩ (fun hc => absurd rfl hc) (fun _ => ?_)
  refine J.run0 1 rfl ?_
  try dsimp only
  exact J.retb rfl rfl rfl (by decide) ⟨_, rfl, rfl, rfl, rfl⟩
theorem c_adopt {F : cF} {z : zT} {n : Nat} {je mp bp sp : Nat → Nat} (hz : zInv z) (hP : cPic F w z H je mp bp sp) (hn : n < 16) (hB : nh z n < zB z) : J b (d + 1) 39 w (0, jargs 0 [.inr (some (6, fN F n)), .inr (some (0, bp (nh z n)))], [], H) (jN fun r w' H' => r = none ∧ w' = w ∧ cPic F w (zN z n (nh z n + 1, 0, 0, 0, nK z n)) H' (va_up je n 1) mp bp sp ∧ H'.1 6 6 (fN F n) = -1 ∧ H'.1 6 7 (fN F n) = -1 ∧ jCl H' H) := by
  have hN := hP.2.2.2.1 n hn
  have hblk := (hP.2.2.1.2.2.2.1 (nh z n) hB).2.2
  have hN0 := hN
  obtain ⟨⟨a1, a2, a3, a4, a5, a6, a7⟩, ⟨b0, b1, b2, b3, b8, b9, b10, b11, b12⟩, -, ⟨d1, d2, d3⟩, e1, e2, e3⟩ := hN0
  refine J.run 3 rfl ⟨a1, hblk.1.2.1⟩ ?_
  try dsimp only
  refine J.gn fun H1 hH1 => ?_
  have q0 : jK [6] [] H1 H := by
    rw [hH1]
    refine jK.own ?_ (by decide)
    exact jK.refl _ _ _
  have q1 : H1.2.2.2.2 6 1 (fN F n) = bp (nh z n) := by rw [hH1]; exact if_pos rfl
  have q2 : ∀ j p, ¬ (j = 1 ∧ p = fN F n) → H1.2.2.2.2 6 j p = H.2.2.2.2 6 j p := fun j p h => by
    rw [hH1]
    show jupF H.2.2.2.2 6 1 (fN F n) _ 6 j p = _
    exact jupF_ne fun z => h z.2
  have q3 : H1.1 = H.1 ∧ H1.2.2.1 = H.2.2.1 := by rw [hH1]; exact ⟨rfl, rfl⟩
  clear hH1
  have q4 : H1.2.2.2.2 6 13 (fN F n) = fO F n := by rw [q2 13 _ fun z => absurd z.1 (by decide)]; exact d1
  refine J.run 2 rfl ⟨a1, by rw [q4]; exact a6⟩ ?_
  try dsimp only
  try dsimp only
  rw [q4]
  refine J.inv rfl rfl rfl rfl rfl rfl ((jD_w rfl).mpr a5) rfl rfl rfl rfl rfl (c_clear a5) ?_
  rintro r w2 H2 ⟨rfl, rfl, k2, o2, s2, s3⟩
  refine J.run0 1 rfl ?_
  try dsimp only
  refine J.inv rfl rfl rfl rfl rfl rfl ((jD_w rfl).mpr a1) rfl rfl rfl rfl rfl (c_unlock a1) ?_
  rintro r w3 H3 ⟨rfl, rfl, f3, u1, u2, u3, u4⟩
  refine J.run0 2 rfl ?_
  try dsimp only
  refine J.inv rfl rfl rfl rfl rfl rfl ((jD_w rfl).mpr a1) rfl rfl rfl rfl rfl (c_enter a1) ?_
  rintro r w4 H4 ⟨rfl, rfl, f4, v1, v2, v3, v4⟩
  have i2 : ∀ j, H2.1 6 j (fN F n) = H.1 6 j (fN F n) := fun j => by rw [(k2.1 6 (by decide)).1, q3.1]
  have i4 : ∀ j, j ∉ [2, 3, 8, 9] → j ∉ [4, 5, 6, 7] → H4.1 6 j (fN F n) = H.1 6 j (fN F n) := fun j h1 h2 => by rw [f4.at j h1, f3.at j h2, i2]
  have w4' : ∀ j p, H4.2.2.2.2 6 j p = H1.2.2.2.2 6 j p := fun j p => by rw [f4.1, f3.1, (k2.1 6 (by decide)).2.2]
  have l4 : ∀ j p, H4.1 4 j p = H2.1 4 j p := fun j p => by rw [f4.2 4 j p fun z => absurd z.1 (by decide), f3.2 4 j p fun z => absurd z.1 (by decide)]
  have r4 : H4.2.2.1 = H.2.2.1 := by
    rw [f4.1, f3.1]
    funext k
    rw [(k2.2 k fun h => by cases h).1, q3.2]
  have kk : jK [6, 4] [] H4 H := f4.k.trans (f3.k.trans (k2.trans (q0.mono (cs' := [6, 4]) (ks' := []) (by decide) (fun _ h => h)) (by decide) (fun _ h => h)) (by decide) (fun _ h => h)) (by decide) (fun _ h => h)
  have hNew : cNd w4 (nh z n + 1, 0, 0, 0, nK z n) (zk z) H4 n (fN F n) (fO F n) (bp (nh z n + 1 - 1)) 1 := by
    unfold cNd
    rw [i4 0 (by decide) (by decide), w4' 1, q1, v1, v2, v3, v4, i4 10 (by decide) (by decide), i4 11 (by decide) (by decide), i4 12 (by decide) (by decide), w4' 13, q4, l4 1, l4 2, s2, s3, i4 16 (by decide) (by decide), r4, f4.at 4 (by decide), u1, f4.at 5 (by decide), u2, f4.at 6 (by decide), u3, f4.at 7 (by decide), u4]
    exact ⟨⟨a1, a2, a3, a4, a5, a6, a7⟩, ⟨b0, rfl, rfl, rfl, rfl, rfl, b10, b11, b12⟩, ⟨Or.inl rfl, by decide, by decide, by decide, fun _ => ⟨rfl, rfl, rfl, rfl⟩⟩, ⟨rfl, rfl, rfl⟩, e1, e2, e3⟩
  refine J.retv rfl rfl rfl ⟨_, rfl, rfl, rfl, hP.up hn kk (fun P' L' h1 h2 => ⟨fun j => ⟨?_, ?_⟩, fun j => ?_, ?_, ?_⟩) hNew, ?_, ?_, kk.cl rfl rfl⟩
  · rw [f4.2 6 j P' fun z => h1 z.2.1, f3.2 6 j P' fun z => h1 z.2.1, (k2.1 6 (by decide)).1, q3.1]
  · rw [w4', q2 j P' fun z => h1 z.2]
  · rw [l4, o2 j L' h2, q3.1]
  · rw [r4]
  · rw [r4]
  · rw [f4.at 6 (by decide)]; exact u3
  · rw [f4.at 7 (by decide)]; exact u4
theorem c_passOn_l {F : cF} {z : zT} {n : Nat} {je mp bp sp : Nat → Nat} {rd : Int} (hP : cPic F w z H je mp bp sp) (hn : n < 16) (hrd : rd = 0 ∨ rd = 1) : ∀ (m : Nat), m ≤ 31 → J b d 92 w (15, [(3, .inl (m : Int)), (2, .inl rd), (0, .inr (some (10, fX F))), (1, .inr (some (6, fN F n)))], [], H) (jN fun r w' H' => r = some (.inl 0) ∧ w' = w ∧ H' = H) := by
  have hN := hP.2.2.2.1 n hn
  have er : H.1 6 2 (fN F n) = 0 := hN.2.1.2.2.1
  intro m
  induction m with
  | zero =>
    intro _
    refine J.run 3 rfl hN.1.1 ?_
    try dsimp only
    try dsimp only
    rw [er]
    refine J.icmp rfl rfl rfl ⟨⟨by decide, by decide⟩, by decide, by decide⟩ (fun _ => ?_) (fun hc => absurd (show ((0 : Nat) : Int) ≤ 0 by decide) hc)
    refine J.run0 1 rfl ?_
    try dsimp only
    exact J.retb rfl rfl rfl (by decide) ⟨_, rfl, rfl, rfl, rfl⟩
  | succ m ih =>
    intro hm
    refine J.run 3 rfl hN.1.1 ?_
    try dsimp only
    try dsimp only
    rw [er]
    refine J.icmp rfl rfl rfl ⟨⟨by omega, by omega⟩, by decide, by decide⟩ (fun hc => absurd (show ((m + 1 : Nat) : Int) ≤ 0 from hc) (by omega)) (fun _ => ?_)
    refine J.run0 6 rfl ?_
    try dsimp only
    have hbit : mb rd (m + 1) = false := by
      rcases hrd with rfl | rfl
      · unfold mb
        show (0#32).getLsbD (m + 1) = false
        simp
      · unfold mb
        show (1#32).getLsbD (m + 1) = false
        rw [BitVec.getLsbD_one]
        simp
    try dsimp only
    rw [mb_ushr rd (show m + 1 < 32 by omega), if_neg (by rw [hbit]; decide)]
    refine J.icmp rfl rfl rfl ⟨⟨by decide, by decide⟩, by decide, by decide⟩ (fun _ => ?_) (fun hc => absurd (show ¬ (0 : Int) = 1 by decide) hc)
    refine J.run0 2 rfl ?_
    try dsimp only
    have h9 := ih (by omega)
    rw [show (m : Int) = ((m + 1 : Nat) : Int) + -1 by omega] at h9
    exact h9
theorem c_passOn {F : cF} {z : zT} {n : Nat} {je mp bp sp : Nat → Nat} (hz : zInv z) (hP : cPic F w z H je mp bp sp) (hn : n < 16) (hh : nh z n ≤ 120) : J b (d + 1) 92 w (0, jargs 0 [.inr (some (10, fX F)), .inr (some (6, fN F n))], [], H) (jN fun r w' H' => r = some (.inl 0) ∧ w' = w ∧ H' = H) := by
  have hN := hP.2.2.2.1 n hn
  have hnd := hP.node hz hn
  obtain ⟨⟨t1, t2, t3, t4, t5, t6, t7, t8⟩, -⟩ := hP.1
  refine J.run 3 rfl ⟨t1, by rw [t4]; exact t7⟩ ?_
  try dsimp only
  try dsimp only
  rw [t4]
  refine J.inv rfl rfl rfl rfl rfl rfl ((jD_w rfl).mpr hN.1.1) rfl rfl rfl rfl rfl (c_height hN.1.1 hN.2.1.2.1 hnd.1.1 hnd.1.2.1) ?_
  rintro r w' H' ⟨rfl, rfl, rfl⟩
  rw [hnd.1.2.2]
  have hM := hP.2.1
  refine J.inv rfl rfl rfl rfl rfl rfl ((jD_w rfl).mpr hM.1.1) rfl rfl rfl rfl rfl (c_roundsOf hM.1.1 hM.1.2.2.2.2 hh) ?_
  rintro r w' H' ⟨rfl, rfl, rfl⟩
  rw [(hM.2.2.2.2 (nh z n) hh).2.2]
  refine J.run0 3 rfl ?_
  try dsimp only
  refine c_passOn_l hP hn ?_ 31 (by omega)
  split
  · exact Or.inr rfl
  · exact Or.inl rfl
end CK
