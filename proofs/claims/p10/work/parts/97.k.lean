/-! the class's calls on a new object: deliver, spread, submit -/
section ST
variable {b : Bool} {d : Nat} {w : jW} {H : jH} {F : cF} {je mp bp sp : Nat → Nat}
abbrev isV (m n : Int) : Prop := (0 ≤ m ∧ m ≤ 1) ∧ 0 ≤ n ∧ n ≤ 15
theorem c_deliver {m n : Int} (hF : fRm F) (hR : cRest F w (zc 16) H) (bm : jR m) (bn : jR n) : J b (d + 6) 73 w (0, jargs 0 [.inr (some (10, fX F)), .inl m, .inl n], [], H) (cOut H (if isV m n then 0 else 1) 14 ((zM (zcame (zc 16) m.toNat n.toNat) : Int) - zM (zc 16))) := by
  have hR0 := hR
  obtain ⟨je, ⟨mp, bp, sp, hP⟩, hje⟩ := hR
  have hw := hP.sm hF
  have hz := zc_inv 16 (Nat.le_refl _)
  obtain ⟨⟨t1, t2, t3, t4, t5, t6, t7, t8⟩, tn, -⟩ := hP.1
  have hM := hP.2.1
  refine J.run 3 rfl ⟨t1, by rw [t4]; exact t7⟩ ?_
  try dsimp only
  try dsimp only
  rw [t4]
  refine J.inv rfl rfl rfl rfl rfl rfl ((jD_w rfl).mpr hM.1.1) rfl rfl rfl rfl rfl (c_pg hP bm) ?_
  rintro r w H ⟨rfl, rfl, rfl⟩
  by_cases h1 : 0 ≤ m ∧ m ≤ 1
  rotate_left
  · rw [if_neg h1, if_neg (fun z => h1 z.1)]
    refine J.run0 3 rfl ?_
    try dsimp only
    exact c_thr hw (by decide) rfl rfl rfl rfl
  rw [if_pos h1]
  refine J.run0 4 rfl ?_
  try dsimp only
  refine J.ins rfl rfl rfl rfl rfl rfl rfl rfl rfl (c_isNode bn) ?_
  rintro r w H ⟨rfl, rfl, rfl⟩
  by_cases h2 : 0 ≤ n ∧ n ≤ 15
  rotate_left
  · rw [if_neg h2, if_neg (fun z => h2 z.2)]
    refine J.ifc rfl rfl rfl ⟨by decide, by decide⟩ (fun hc => absurd rfl hc) (fun _ => ?_)
    exact c_thr hw (by decide) rfl rfl rfl rfl
  rw [if_pos h2, if_pos ⟨h1, h2⟩]
  refine J.ifc rfl rfl rfl ⟨by decide, by decide⟩ (fun _ => ?_) (fun hc => absurd (show ¬ (1 : Int) = 0 by decide) hc)
  obtain ⟨i, rfl⟩ : ∃ i : Nat, m = (i : Int) := ⟨m.toNat, by omega⟩
  obtain ⟨n, rfl⟩ : ∃ j : Nat, n = (j : Int) := ⟨n.toNat, by omega⟩
  rw [Int.toNat_natCast, Int.toNat_natCast]
  have hi : i < zM (zc 16) := by rw [zM16]; omega
  have hn16 : n < 16 := by omega
  refine J.run 2 rfl ⟨t1, by rw [t4]; exact t7⟩ ?_
  try dsimp only
  try dsimp only
  rw [t4]
  refine J.run 1 rfl hM.1.1 ?_
  try dsimp only
  try dsimp only
  rw [hM.2.1]
  refine J.run 7 rfl ⟨⟨t1, t2⟩, t2, show (0 : Int) ≤ n by omega, show (n : Int) < 16 by omega⟩ ?_
  try dsimp only
  try dsimp only
  rw [tn n hn16]
  have fin : ∀ w' H', cRest F w' (zcame (zc 16) i n) H' → jCl H' H → J b (d + 6) 73 w' (63, [(4, .inl (zM (zc 16) : Int)), (3, .inr (some (5, mp i))), (0, .inr (some (10, fX F))), (1, .inl (i : Int)), (2, .inl (n : Int))], [], H') (cOut H 0 14 ((zM (zcame (zc 16) i n) : Int) - zM (zc 16))) := by
    intro w' H' hR' hC'
    obtain ⟨je', ⟨mp', bp', sp', hP'⟩, -⟩ := hR'
    have hw' := cRoom.small hF (hz.came hn16 hi) hP'.2.2.2.2
    obtain ⟨⟨s1, s2, s3, s4, s5, s6, s7, s8⟩, -⟩ := hP'.1
    refine J.run 2 rfl ⟨s1, by rw [s4]; exact s7⟩ ?_
    try dsimp only
    try dsimp only
    rw [s4]
    refine J.run 1 rfl hP'.2.1.1.1 ?_
    try dsimp only
    try dsimp only
    rw [hP'.2.1.2.1]
    refine J.run0 2 rfl ?_
    try dsimp only
    exact J.reti rfl rfl rfl (cOut.ok hw' hC')
  refine J.inv rfl rfl rfl rfl rfl rfl ((jD_w rfl).mpr t1) rfl rfl rfl rfl rfl (c_comesAnew (b := b) (d := d + 3) hz hP hn16 hi) ?_
  rintro r w1 H1 ⟨rfl, ⟨hk, rfl, rfl⟩ | ⟨hk, rfl, hP1, hC1⟩⟩
  · refine J.ifc rfl rfl rfl ⟨by decide, by decide⟩ (fun _ => ?_) (fun hc => absurd rfl hc)
    refine fin w1 H1 ?_ (jCl.refl _)
    unfold zcame
    rw [if_pos hk]
    exact hR0
  have hR1 : cRest F w1 (zknow (zc 16) n i) H1 := ⟨je, ⟨mp, bp, sp, hP1⟩, fun q hq => by
    have e : nh (zknow (zc 16) n i) q = nh (zc 16) q := by
      by_cases hqn : q = n
      · subst hqn
        unfold zknow nh
        rw [zN_at]
      · unfold zknow nh
        rw [zN_ne _ _ hqn]
    rw [e]
    exact hje q hq⟩
  have hh : zh (zc 16) i = nh (zc 16) n := by rw [zh16, zh16_m (by rw [zM16] at hi; exact hi)]
  rw [if_pos hh]
  refine J.ifc rfl rfl rfl ⟨by decide, by decide⟩ (fun hc => absurd hc (show ¬ (1 : Int) = 0 by decide)) (fun _ => ?_)
  obtain ⟨-, tn1, -⟩ := hP1.1
  refine J.run 5 rfl ⟨⟨t1, t2⟩, t2, show (0 : Int) ≤ n by omega, show (n : Int) < 16 by omega⟩ ?_
  try dsimp only
  try dsimp only
  rw [tn1 n hn16]
  refine J.inv rfl rfl rfl rfl rfl rfl ((jD_w rfl).mpr t1) rfl rfl rfl rfl rfl (c_doAll (d := d) (hz.know hn16 hi hk) hR1 hn16) ?_
  rintro r w2 H2 ⟨rfl, hR2, hC2⟩
  refine fin w2 H2 ?_ (hC2.trans hC1)
  unfold zcame
  rw [if_neg hk]
  exact hR2
abbrev isS1 (many : Int) : Prop := 1 ≤ many ∧ many ≤ 100
abbrev isS2 (m : Int) : Prop := 0 ≤ m ∧ m ≤ (zM (zc 16) : Int)
def sprK (m many : Int) : Int := if isS1 many then (if isS2 m then 0 else 2) else 1
theorem c_spread_ {m many mask : Int} (hF : fRm F) (hR : cRest F w (zc 16) H) (bm : jR m) (bn : jR many) : J b (d + 6) 74 w (0, jargs 0 [.inr (some (10, fX F)), .inl m, .inl many, .inl mask], [], H) (cOut H (sprK m many) (if isS1 many then 14 else 12) ((zspr mask m.toNat many.toNat 0 (zc 16)).1 : Int)) := by
  refine J.post (c_spread hF (zc_inv 16 (Nat.le_refl _)) zc_rest hR bm bn) ?_
  rintro o w' H' ⟨⟨x, h1, rfl, hC⟩ | ⟨c, rfl, h1, rfl⟩, hw⟩
  · have hok : isS1 many ∧ isS2 m := by
      by_cases h : isS1 many ∧ isS2 m
      · exact h
      · rw [if_neg (fun z => h ⟨z.1, z.2⟩)] at h1
        cases h1
    rw [if_pos ⟨hok.1, hok.2⟩] at h1
    cases h1
    exact ⟨hC, Or.inl ⟨by unfold sprK; rw [if_pos hok.1, if_pos hok.2], rfl⟩, hw⟩
  · rcases h1 with ⟨h1, rfl⟩ | ⟨h1, h2, rfl⟩
    · exact ⟨jCl.refl _, Or.inr ⟨by unfold sprK; rw [if_neg h1]; decide, by rw [if_neg h1]⟩, hw⟩
    · exact ⟨jCl.refl _, Or.inr ⟨by unfold sprK; rw [if_pos h1, if_neg h2]; decide, by rw [if_pos h1]⟩, hw⟩
theorem c_trans {p : Nat} {x1 x2 x3 x4 x5 x6 : Int} (h9 : w.1 9 p) : J b d 69 w (0, jargs 0 [.inr (some (9, p)), .inl x1, .inl x2, .inl x3, .inl x4, .inl x5, .inl x6], [], H) (jN fun r w' H' => r = none ∧ w' = w ∧ jK [9] [] H' H) := by
  refine J.run0 1 rfl ?_
  try dsimp only
  refine J.obj rfl rfl rfl rfl ?_
  refine J.run 18 rfl ⟨h9, h9, h9, h9, h9, h9⟩ ?_
  try dsimp only
  refine J.retv rfl rfl rfl ⟨_, rfl, rfl, rfl, ?_⟩
  iterate 6 refine jK.int ?_ (by decide)
  exact jK.refl _ _ _
theorem c_addTx {p q : Nat} (h3 : w.1 3 p) (ht : w.1 22 p) (h9 : w.1 9 q) (hc : H.1 3 3 p = 0) : J b d 15 w (0, jargs 0 [.inr (some (3, p)), .inr (some (9, q))], [], H) (jN fun r w' H' => r = some (.inl 0) ∧ w' = w ∧ jK [3] [22] H' H) := by
  refine J.run 3 rfl h3 ?_
  try dsimp only
  try dsimp only
  rw [hc]
  refine J.icmp rfl rfl rfl ⟨⟨by decide, by decide⟩, by decide, by decide⟩ (fun _ => ?_) (fun h => absurd (show (0 : Int) < 1500 by decide) h)
  refine J.run 4 rfl ⟨⟨h3, ht⟩, h3⟩ ?_
  try dsimp only
  try dsimp only
  rw [hc]
  refine J.run 2 rfl ⟨ht, h9, show (0 : Int) ≤ 0 by decide, show (0 : Int) < 1500 by decide⟩ ?_
  try dsimp only
  refine J.run 3 rfl h3 ?_
  try dsimp only
  try dsimp only
  rw [hc]
  refine J.run 3 rfl h3 ?_
  try dsimp only
  refine J.gn fun H1 hH1 => ?_
  have k1 : jK [3] [22] H1 H := by
    rw [hH1]
    refine jK.int ?_ (by decide)
    refine jK.rows ?_ (by decide)
    exact jK.refl _ _ _
  have e1 : H1.1 3 3 p = 0 + 1 := by rw [hH1]; exact if_pos rfl
  clear hH1
  refine J.run 2 rfl h3 ?_
  try dsimp only
  try dsimp only
  rw [e1]
  refine J.run0 2 rfl ?_
  try dsimp only
  exact J.reti rfl rfl rfl ⟨_, rfl, rfl, rfl, k1⟩
theorem c_against {i j : Nat} (hP : cPic F w (zc 16) H je mp bp sp) (hi : i < 2) (hj : j < 2) : J b d 29 w (0, jargs 0 [.inr (some (5, mp i)), .inr (some (5, mp j))], [], H) (jN fun r w' H' => r = some (.inl 0) ∧ w' = w ∧ H' = H) := by
  obtain ⟨a5, a1, a2, a3, a4, a7, a6, -⟩ := hP.m16 hi
  obtain ⟨b5, b1, b2, b3, b4, b7, b6, -⟩ := hP.m16 hj
  have fin : J b d 29 w (66, jargs 0 [.inr (some (5, mp i)), .inr (some (5, mp j))], [], H) (jN fun r w' H' => r = some (.inl 0) ∧ w' = w ∧ H' = H) := by
    refine J.run0 1 rfl ?_
    try dsimp only
    exact J.retb rfl rfl rfl (by decide) ⟨_, rfl, rfl, rfl, rfl⟩
  refine J.run 2 rfl a5 ?_
  try dsimp only
  try dsimp only
  rw [a2]
  refine J.ifc rfl rfl rfl ⟨by omega, by omega⟩ (fun _ => fin) (fun _ => ?_)
  refine J.run 4 rfl ⟨a5, b5⟩ ?_
  try dsimp only
  try dsimp only
  rw [a2, b2]
  refine J.icmp rfl rfl rfl ⟨⟨by omega, by omega⟩, by omega, by omega⟩ (fun _ => fin) (fun _ => ?_)
  refine J.run 4 rfl ⟨a5, b5⟩ ?_
  try dsimp only
  try dsimp only
  rw [a3, b3]
  refine J.icmp rfl rfl rfl ⟨⟨by decide, by decide⟩, by decide, by decide⟩ (fun _ => fin) (fun _ => ?_)
  refine J.run 4 rfl ⟨a5, b5⟩ ?_
  try dsimp only
  try dsimp only
  rw [a4, b4]
  refine J.icmp rfl rfl rfl ⟨⟨by decide, by decide⟩, by decide, by decide⟩ (fun _ => fin) (fun _ => ?_)
  refine J.run 4 rfl ⟨a5, b5⟩ ?_
  try dsimp only
  try dsimp only
  rw [a7, b7]
  refine J.icmp rfl rfl rfl ⟨⟨by decide, by decide⟩, by decide, by decide⟩ (fun _ => fin) (fun _ => ?_)
  refine J.run 4 rfl ⟨a5, b5⟩ ?_
  try dsimp only
  try dsimp only
  rw [a6, b6]
  exact J.icmp rfl rfl rfl ⟨⟨by decide, by decide⟩, by decide, by decide⟩ (fun _ => fin) (fun hc => absurd rfl hc)
theorem c_addProof {i j : Nat} {a : Int} (hP : cPic F w (zc 16) H je mp bp sp) (hi : i < 2) (hj : j < 2) : J b (d + 1) 16 w (0, jargs 0 [.inr (some (3, fL F)), .inl a, .inr (some (5, mp i)), .inr (some (5, mp j))], [], H) (jN fun r w' H' => r = some (.inl 0) ∧ w'.2.1 = w.2.1 + 1 ∧ w'.2.2 = w.2.2 + 6 ∧ jK [3, 9] [22] H' H) := by
  have hB := hP.2.2.1
  have a5 := (hP.m16 hi).1
  refine J.run0 2 rfl ?_
  try dsimp only
  refine J.inv rfl rfl rfl rfl rfl rfl ((jD_w rfl).mpr a5) rfl rfl rfl rfl rfl (c_against hP hi hj) ?_
  rintro r w H ⟨rfl, rfl, rfl⟩
  refine J.ifc rfl rfl rfl ⟨by decide, by decide⟩ (fun _ => ?_) (fun hc => absurd rfl hc)
  refine J.run0 1 rfl ?_
  try dsimp only
  refine J.run0 2 rfl ?_
  try dsimp only
  refine J.nw rfl rfl rfl rfl rfl rfl rfl (jstP.of rfl) fun H1 hN1 _ => ?_
  refine J.run 8 rfl (Or.inl a5) ?_
  try dsimp only
  refine J.ini rfl rfl rfl (Or.inl rfl) rfl rfl rfl rfl rfl (jstP.of rfl) (c_trans (Or.inr ⟨rfl, rfl⟩)) ?_
  rintro r w' H2 ⟨rfl, rfl, k2⟩
  have kk : jK [3, 9] [22] H2 H := (k2.mono (cs' := [3, 9]) (ks' := [22]) (by decide) (fun _ h => (nomatch h))).trans ((jK.refl _ _ _).new hN1 (by decide)) (fun _ h => h) (fun _ h => h)
  refine J.inv rfl rfl rfl rfl rfl rfl ((jD_w rfl).mpr (Or.inl hB.1.1)) rfl rfl rfl rfl rfl (c_addTx (Or.inl hB.1.1) (Or.inl hB.1.2.2.1) (Or.inr ⟨rfl, rfl⟩) ?_) ?_
  · rw [(k2.1 3 (by decide)).1, (hN1.1 3 3 (fL F) fun z => absurd z.1 (by decide)).1]
    exact hB.2.1.2.1
  rintro r w' H3 ⟨rfl, rfl, k3⟩
  exact J.reti rfl rfl rfl ⟨_, rfl, rfl, rfl, rfl, k3.trans kk (by decide) (fun _ h => h)⟩
abbrev isT (kind a x v : Int) : Prop := (0 ≤ kind ∧ kind ≤ 4) ∧ (0 ≤ a ∧ a ≤ 199) ∧ (kind = 4 → (0 ≤ x ∧ x ≤ 1) ∧ 0 ≤ v ∧ v ≤ 1) ∧ (kind = 0 → 0 ≤ x ∧ x ≤ 199) ∧ (kind ≠ 0 → kind ≠ 4 → 0 ≤ x ∧ x ≤ 15) ∧ (kind < 3 → 1 ≤ v ∧ v ≤ 1000000)
set_option maxRecDepth 8000 in
theorem c_submit {kind a x v : Int} (hF : fRm F) (hP : cPic F w (zc 16) H je mp bp sp) (b1 : jR kind) (b2 : jR a) (b3 : jR x) (b4 : jR v) : J b (d + 6) 71 w (0, jargs 0 [.inr (some (10, fX F)), .inl kind, .inl a, .inl x, .inl v], [], H) (cOut H (if isT kind a x v then 0 else 1) 12 0) := by
  have hw := hP.sm hF
  have hB := hP.2.2.1
  have hM := hP.2.1
  obtain ⟨⟨t1, t2, t3, t4, t5, t6, t7, t8⟩, -⟩ := hP.1
  have thr : ∀ {pc : Nat} {lv : jL} {ix : Nat} {q : xMt}, xmts[71]? = some q → xat 71 pc = some (.new ix, 3) → xlk xnws q.1 ix = none → xthr 71 pc = some 12 → ¬ isT kind a x v → J b (d + 6) 71 w (pc, lv, [], H) (cOut H (if isT kind a x v then 0 else 1) 12 0) := fun {pc lv ix q} e1 e2 e3 e4 hno => by
    rw [if_neg hno]
    exact c_thr hw (by decide) e1 e2 e3 e4
  refine J.run0 1 rfl ?_
  try dsimp only
  refine J.ifc rfl rfl rfl b1 (fun hc => thr rfl rfl rfl rfl fun z => ?_) (fun hc => ?_)
  · have : kind < 0 := hc
    omega
  have k0 : ¬ kind < 0 := hc
  refine J.run0 2 rfl ?_
  try dsimp only
  refine J.icmp rfl rfl rfl ⟨b1, by decide, by decide⟩ (fun hc => thr rfl rfl rfl rfl fun z => ?_) (fun hc => ?_)
  · have : 4 < kind := hc
    omega
  have k1 : ¬ 4 < kind := hc
  refine J.run0 1 rfl ?_
  try dsimp only
  refine J.ifc rfl rfl rfl b2 (fun hc => thr rfl rfl rfl rfl fun z => ?_) (fun hc => ?_)
  · have : a < 0 := hc
    omega
  have k2 : ¬ a < 0 := hc
  refine J.run0 2 rfl ?_
  try dsimp only
  refine J.icmp rfl rfl rfl ⟨b2, by decide, by decide⟩ (fun hc => ?_) (fun hc => thr rfl rfl rfl rfl fun z => ?_)
  rotate_left
  · have : ¬ a < 200 := hc
    omega
  have k3 : a < 200 := hc
  have ha : 0 ≤ a ∧ a ≤ 199 := by omega
  have hk : 0 ≤ kind ∧ kind ≤ 4 := by omega
  -- behind the tests
  have go : isT kind a x v → J b (d + 6) 71 w (126, jargs 0 [.inr (some (10, fX F)), .inl kind, .inl a, .inl x, .inl v], [], H) (cOut H (if isT kind a x v then 0 else 1) 12 0) := by
    intro hyes
    rw [if_pos hyes]
    refine J.run 2 rfl ⟨t1, by rw [t3]; exact t6⟩ ?_
    try dsimp only
    try dsimp only
    rw [t3]
    refine J.run 2 rfl hB.1.1 ?_
    try dsimp only
    try dsimp only
    rw [hB.2.1.2.1]
    refine J.icmp rfl rfl rfl ⟨⟨by decide, by decide⟩, by decide, by decide⟩ (fun _ => ?_) (fun hc => absurd (show (0 : Int) < 1500 by decide) hc)
    refine J.run0 2 rfl ?_
    try dsimp only
    refine J.icmp rfl rfl rfl ⟨b1, by decide, by decide⟩ (fun hc => ?_) (fun hc => ?_)
    · refine J.run 2 rfl ⟨t1, by rw [t3]; exact t6⟩ ?_
      try dsimp only
      try dsimp only
      rw [t3]
      refine J.nw rfl rfl rfl rfl rfl rfl rfl (jstP.of rfl) fun H1 hN1 _ => ?_
      refine J.run0 7 rfl ?_
      try dsimp only
      refine J.ini rfl rfl rfl (Or.inl rfl) rfl rfl rfl rfl rfl (jstP.of rfl) (c_trans (Or.inr ⟨rfl, rfl⟩)) ?_
      rintro r w' H2 ⟨rfl, rfl, k2⟩
      have kk : jK [3, 9] [22] H2 H := (k2.mono (cs' := [3, 9]) (ks' := [22]) (by decide) (fun _ h => (nomatch h))).trans ((jK.refl _ _ _).new hN1 (by decide)) (fun _ h => h) (fun _ h => h)
      refine J.inv rfl rfl rfl rfl rfl rfl ((jD_w rfl).mpr (Or.inl hB.1.1)) rfl rfl rfl rfl rfl (c_addTx (Or.inl hB.1.1) (Or.inl hB.1.2.2.1) (Or.inr ⟨rfl, rfl⟩) ?_) ?_
      · rw [(k2.1 3 (by decide)).1, (hN1.1 3 3 (fL F) fun z => absurd z.1 (by decide)).1]
        exact hB.2.1.2.1
      rintro r w' H3 ⟨rfl, rfl, k3⟩
      refine J.reti rfl rfl rfl ⟨(k3.trans kk (by decide) (fun _ h => h)).cl rfl rfl, Or.inl ⟨rfl, rfl⟩, ?_, ?_⟩
      · show w.2.1 + 1 ≤ 30000
        have := hw.1
        omega
      · show w.2.2 + jfn 9 ≤ 1000000
        have := hw.2
        have e : jfn 9 = 6 := rfl
        omega
    · have hc' : kind = 4 := Classical.not_not.mp hc
      obtain ⟨h1, h2⟩ := hyes.2.2.1 hc'
      obtain ⟨i, rfl⟩ : ∃ i : Nat, x = (i : Int) := ⟨x.toNat, by omega⟩
      obtain ⟨j, rfl⟩ : ∃ j : Nat, v = (j : Int) := ⟨v.toNat, by omega⟩
      refine J.run 2 rfl ⟨t1, by rw [t3]; exact t6⟩ ?_
      try dsimp only
      try dsimp only
      rw [t3]
      refine J.run 4 rfl ⟨t1, by rw [t4]; exact t7⟩ ?_
      try dsimp only
      try dsimp only
      rw [t4]
      refine J.inv rfl rfl rfl rfl rfl rfl ((jD_w rfl).mpr hM.1.1) rfl rfl rfl rfl rfl (c_pg hP b3) ?_
      rintro r w H ⟨rfl, rfl, rfl⟩
      rw [if_pos h1, Int.toNat_natCast]
      refine J.run 3 rfl ⟨t1, by rw [t4]; exact t7⟩ ?_
      try dsimp only
      try dsimp only
      rw [t4]
      refine J.inv rfl rfl rfl rfl rfl rfl ((jD_w rfl).mpr hM.1.1) rfl rfl rfl rfl rfl (c_pg hP b4) ?_
      rintro r w H ⟨rfl, rfl, rfl⟩
      rw [if_pos h2, Int.toNat_natCast]
      refine J.inv rfl rfl rfl rfl rfl rfl ((jD_w rfl).mpr hB.1.1) rfl rfl rfl rfl rfl (c_addProof (d := d + 4) hP (show i < 2 by omega) (show j < 2 by omega)) ?_
      rintro r w' H' ⟨rfl, e1, e2, k3⟩
      refine J.reti rfl rfl rfl ⟨k3.cl rfl rfl, Or.inl ⟨rfl, rfl⟩, ?_, ?_⟩
      · have := hw.1
        omega
      · have := hw.2
        omega
  refine J.run0 2 rfl ?_
  try dsimp only
  refine J.icmp rfl rfl rfl ⟨b1, by decide, by decide⟩ (fun hc => ?_) (fun hc => ?_)
  · -- not PROVE
    have k4 : ¬ kind = 4 := hc
    have amt : (kind = 0 → 0 ≤ x ∧ x ≤ 199) → (kind ≠ 0 → kind ≠ 4 → 0 ≤ x ∧ x ≤ 15) → J b (d + 6) 71 w (98, jargs 0 [.inr (some (10, fX F)), .inl kind, .inl a, .inl x, .inl v], [], H) (cOut H (if isT kind a x v then 0 else 1) 12 0) := by
      intro q1 q2
      refine J.run0 2 rfl ?_
      try dsimp only
      refine J.icmp rfl rfl rfl ⟨b1, by decide, by decide⟩ (fun hc => go ?_) (fun hc => ?_)
      · have hc' : kind = 3 := hc
        exact ⟨hk, ha, fun z => absurd z k4, q1, q2, fun z => by omega⟩
      have hc' : ¬ kind = 3 := hc
      refine J.run0 2 rfl ?_
      try dsimp only
      refine J.icmp rfl rfl rfl ⟨b4, by decide, by decide⟩ (fun hc2 => thr rfl rfl rfl rfl fun z => ?_) (fun hc2 => ?_)
      · have h1 : v < 1 := hc2
        have h2 := z.2.2.2.2.2 (by omega)
        omega
      have hc2' : ¬ v < 1 := hc2
      refine J.run0 2 rfl ?_
      try dsimp only
      refine J.icmp rfl rfl rfl ⟨b4, by decide, by decide⟩ (fun hc3 => go ?_) (fun hc3 => thr rfl rfl rfl rfl fun z => ?_)
      · have hc3' : v ≤ 1000000 := hc3
        exact ⟨hk, ha, fun z => absurd z k4, q1, q2, fun z => by omega⟩
      · have h1 : ¬ v ≤ 1000000 := hc3
        have h2 := z.2.2.2.2.2 (by omega)
        omega
    refine J.run0 1 rfl ?_
    try dsimp only
    refine J.ifc rfl rfl rfl b3 (fun hc2 => thr rfl rfl rfl rfl fun z => ?_) (fun hc2 => ?_)
    · have h1 : x < 0 := hc2
      by_cases hk0 : kind = 0
      · have := z.2.2.2.1 hk0
        omega
      · have := z.2.2.2.2.1 hk0 k4
        omega
    have hc2' : ¬ x < 0 := hc2
    refine J.run0 2 rfl ?_
    try dsimp only
    refine J.ifc rfl rfl rfl b1 (fun hc3 => ?_) (fun hc3 => ?_)
    · have hc3' : ¬ kind = 0 := hc3
      refine J.run0 1 rfl ?_
      try dsimp only
      refine J.icmp rfl rfl rfl ⟨b3, by decide, by decide⟩ (fun hc4 => amt (fun z => absurd z hc3') fun _ _ => ?_) (fun hc4 => thr rfl rfl rfl rfl fun z => ?_)
      · have : x < 16 := hc4
        omega
      · have h1 : ¬ x < 16 := hc4
        have := z.2.2.2.2.1 hc3' k4
        omega
    · have hc3' : kind = 0 := Classical.not_not.mp hc3
      refine J.run0 2 rfl ?_
      try dsimp only
      refine J.icmp rfl rfl rfl ⟨b3, by decide, by decide⟩ (fun hc4 => amt (fun _ => ?_) fun z _ => absurd hc3' z) (fun hc4 => thr rfl rfl rfl rfl fun z => ?_)
      · have : x < 200 := hc4
        omega
      · have h1 : ¬ x < 200 := hc4
        have := z.2.2.2.1 hc3'
        omega
  · -- PROVE
    have k4 : kind = 4 := Classical.not_not.mp hc
    refine J.run 3 rfl ⟨t1, by rw [t4]; exact t7⟩ ?_
    try dsimp only
    try dsimp only
    rw [t4]
    refine J.inv rfl rfl rfl rfl rfl rfl ((jD_w rfl).mpr hM.1.1) rfl rfl rfl rfl rfl (c_pg hP b3) ?_
    rintro r w H ⟨rfl, rfl, rfl⟩
    by_cases h1 : 0 ≤ x ∧ x ≤ 1
    rotate_left
    · rw [if_neg h1]
      refine J.run0 1 rfl ?_
      try dsimp only
      exact thr rfl rfl rfl rfl fun z => h1 (z.2.2.1 k4).1
    rw [if_pos h1]
    refine J.run 4 rfl ⟨t1, by rw [t4]; exact t7⟩ ?_
    try dsimp only
    try dsimp only
    rw [t4]
    refine J.inv rfl rfl rfl rfl rfl rfl ((jD_w rfl).mpr hM.1.1) rfl rfl rfl rfl rfl (c_pg hP b4) ?_
    rintro r w H ⟨rfl, rfl, rfl⟩
    by_cases h2 : 0 ≤ v ∧ v ≤ 1
    rotate_left
    · rw [if_neg h2]
      refine J.run0 1 rfl ?_
      try dsimp only
      exact thr rfl rfl rfl rfl fun z => h2 (z.2.2.1 k4).2
    rw [if_pos h2]
    refine J.run0 1 rfl ?_
    try dsimp only
    exact go ⟨hk, ha, fun _ => ⟨h1, h2⟩, fun z => by omega, fun z z2 => absurd k4 z2, fun z => by omega⟩
end ST
