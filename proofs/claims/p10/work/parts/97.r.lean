/-! the reference's calls on a new object: expire -/
section TA
variable {d : Nat} {w : jW} {H : jH}
/-- a NODE that has voted for none -/
def eX (H : jH) (n : Nat) : Prop := (n < 16 ∧ mPow H n ∧ H.2.2.1 72 0 n = 0 ∧ H.2.2.1 56 0 0 = 0) ∧ (H.2.2.1 73 0 n = 0 ∧ H.2.2.1 74 0 n = 1 ∧ H.2.2.1 115 0 n = 0 ∧ H.2.2.1 79 0 n = 0 ∧ H.2.2.1 80 0 n = 0) ∧ (H.2.2.1 113 0 n = 1 ∧ H.2.2.1 112 0 (6000 * (n : Int) + 0) = 2 ∧ mOK H 2) ∧ H.2.2.1 63 0 2 = 1 ∧ H.2.2.1 66 0 2 = 0 ∧ H.2.2.1 64 0 2 = n ∧ H.2.2.1 67 0 2 = -1
set_option maxRecDepth 8000 in
theorem j_movedX {n : Nat} (hX : eX H n) : J true (d + 7) 143 w (0, jargs 0 [jT, .inl (n : Int)], [], H) (jN fun r w' H' => r = some (.inl 0) ∧ w' = w ∧ H'.1 11 19 0 = H.1 11 19 0 ∧ H'.1 11 47 0 = H.1 11 47 0) := by
  obtain ⟨⟨hn, hPw, a1, a2⟩, ⟨b1, b2, b3, b4, b5⟩, ⟨c1, c2, c3⟩, e1, e2, e3, e4⟩ := hX
  have n0 : (0 : Int) ≤ n ∧ (n : Int) < 16 := by omega
  have i0 : 0 ≤ 6000 * (n : Int) + 0 ∧ 6000 * (n : Int) + 0 < 96000 := by omega
  have h2 : (0 : Int) ≤ 2 ∧ (2 : Int) < 6000 := by decide
  have hNow : mNow H (n : Int) := ⟨n0, by omega, fun j x y => by
    obtain rfl : j = 0 := by omega
    rw [c2]
    exact c3⟩
  have hpr : ∀ {w : jW}, J true (d + 6) 134 w (0, jargs 0 [jT, .inl (n : Int), .inl 0], [], H) (jN fun r w' H' => r = some (.inl (-1)) ∧ w' = w ∧ H' = H) := fun {w} => by
    refine J.post (j_proposal (d := d + 4) hNow hPw (by decide) (by rw [a1]; decide) (by rw [a1, a2]; decide)) ?_
    rintro o w' H' ⟨r, rfl, rfl, rfl, ⟨rfl, -⟩ | ⟨j, j1, j2, j3, -⟩⟩
    · exact ⟨_, rfl, rfl, rfl, rfl⟩
    · obtain rfl : j = 0 := by omega
      rw [c2] at j3
      have := j3.1
      rw [e1] at this
      cases this
  refine J.run0 4 rfl ?_
  try dsimp only
  refine J.run 5 rfl n0 ?_
  try dsimp only
  try dsimp only
  rw [c1]
  refine J.icmp rfl rfl rfl ⟨⟨by decide, by decide⟩, by decide, by decide⟩ (fun hc => absurd (show (1 : Int) ≤ 0 from hc) (by decide)) (fun _ => ?_)
  refine J.run 11 rfl i0 ?_
  try dsimp only
  try dsimp only
  rw [c2]
  refine J.run 1 rfl h2 ?_
  try dsimp only
  try dsimp only
  rw [e2]
  refine J.max rfl rfl rfl ⟨by decide, by decide⟩ ⟨by decide, by decide⟩ ?_
  rw [if_neg (by decide)]
  refine J.run0 3 rfl ?_
  try dsimp only
  refine J.run 5 rfl n0 ?_
  try dsimp only
  try dsimp only
  rw [c1]
  refine J.icmp rfl rfl rfl ⟨⟨by decide, by decide⟩, by decide, by decide⟩ (fun _ => ?_) (fun hc => absurd (show (1 : Int) ≤ 0 + 1 by decide) hc)
  refine J.run0 2 rfl ?_
  try dsimp only
  refine J.run0 2 rfl ?_
  try dsimp only
  refine J.icmp rfl rfl rfl ⟨⟨by decide, by decide⟩, by decide, by decide⟩ (fun hc => absurd (show (0 : Int) < 0 from hc) (by decide)) (fun _ => ?_)
  refine J.run0 3 rfl ?_
  try dsimp only
  refine J.inv rfl rfl rfl rfl rfl rfl jDr rfl rfl rfl rfl rfl hpr ?_
  rintro r w H ⟨rfl, rfl, rfl⟩
  refine J.run0 2 rfl ?_
  try dsimp only
  refine J.ifc rfl rfl rfl ⟨by decide, by decide⟩ (fun _ => ?_) (fun hc => absurd (show (-1 : Int) < 0 by decide) hc)
  refine J.run0 2 rfl ?_
  try dsimp only
  refine J.run0 2 rfl ?_
  try dsimp only
  refine J.icmp rfl rfl rfl ⟨⟨by decide, by decide⟩, by decide, by decide⟩ (fun _ => ?_) (fun hc => absurd (show (0 : Int) < 0 + 1 by decide) hc)
  refine J.run0 2 rfl ?_
  try dsimp only
  refine J.run 5 rfl n0 ?_
  try dsimp only
  try dsimp only
  rw [b1]
  refine J.icmp rfl rfl rfl ⟨⟨by decide, by decide⟩, by decide, by decide⟩ (fun _ => ?_) (fun hc => absurd (show (0 : Int) ≤ 0 by decide) hc)
  refine J.run 8 rfl n0 ?_
  try dsimp only
  try dsimp only
  rw [b1]
  refine J.inv rfl rfl rfl rfl rfl rfl jDr rfl rfl rfl rfl rfl hpr ?_
  rintro r w H ⟨rfl, rfl, rfl⟩
  refine J.run 5 rfl n0 ?_
  try dsimp only
  try dsimp only
  rw [b2]
  refine J.ifc rfl rfl rfl ⟨by decide, by decide⟩ (fun _ => ?_) (fun hc => absurd (show ¬ (1 : Int) = 0 by decide) hc)
  refine J.run 4 rfl n0 ?_
  try dsimp only
  try dsimp only
  rw [b2]
  refine J.ifc rfl rfl rfl ⟨by decide, by decide⟩ (fun hc => absurd (show (1 : Int) ≤ 0 from hc) (by decide)) (fun _ => ?_)
  refine J.run 4 rfl n0 ?_
  try dsimp only
  try dsimp only
  rw [b3]
  refine J.ifc rfl rfl rfl ⟨by decide, by decide⟩ (fun hc => absurd rfl hc) (fun _ => ?_)
  refine J.run0 1 rfl ?_
  try dsimp only
  refine J.ifc rfl rfl rfl ⟨by decide, by decide⟩ (fun _ => ?_) (fun hc => absurd (show (-1 : Int) < 0 by decide) hc)
  refine J.run 5 rfl n0 ?_
  try dsimp only
  try dsimp only
  rw [b2]
  refine J.icmp rfl rfl rfl ⟨⟨by decide, by decide⟩, by decide, by decide⟩ (fun hc => absurd rfl hc) (fun _ => ?_)
  refine J.run0 5 rfl ?_
  try dsimp only
  refine J.inv rfl rfl rfl rfl rfl rfl jDr rfl rfl rfl rfl rfl (j_isMost (d := d + 5) (kind := 1) (r := 0) (b := -1) hNow hPw (by decide) (by decide) (by decide)) ?_
  rintro r w' H' ⟨rfl, g, rfl, hg, rfl⟩
  have hc : jcnt g 16 = (((List.range 16).countP (fun j => decide (j = n)) : Nat) : Int) := by
    refine jcnt_count 16 fun k hk => ?_
    obtain ⟨g1, g2⟩ := hg k (by omega) (by omega)
    rcases g1 with g1 | g1
    · rw [g1]
      by_cases hkn : k = n
      · have h9 : g k = 1 := g2.mpr ⟨0, by decide, by omega, by
          rw [c2]
          exact ⟨e1, e2, Or.inr e4⟩, by rw [c2, e3, hkn]⟩
        rw [g1] at h9
        cases h9
      · rw [if_neg (by simp [hkn])]
    · rw [g1]
      obtain ⟨j, j1, j2, -, j3⟩ := g2.mp g1
      obtain rfl : j = 0 := by omega
      rw [c2, e3] at j3
      have hkn : k = n := by omega
      rw [if_pos (by simp [hkn])]
  rw [hc, one_of_16 n hn, if_neg (by decide)]
  refine J.ifc rfl rfl rfl ⟨by decide, by decide⟩ (fun _ => ?_) (fun hc => absurd rfl hc)
  refine J.run0 1 rfl ?_
  try dsimp only
  exact J.retb rfl rfl rfl (by decide) ⟨_, rfl, rfl, rfl, rfl, rfl⟩
theorem j_actX {n : Nat} (hX : eX H n) : J true (d + 8) 141 w (0, jargs 0 [jT, .inl (n : Int)], [], H) (jN fun r w' H' => r = none ∧ w' = w ∧ H'.1 11 19 0 = H.1 11 19 0 ∧ H'.1 11 47 0 = H.1 11 47 0) := by
  have hX0 := hX
  obtain ⟨⟨hn, hPw, a1, a2⟩, ⟨b1, b2, b3, b4, b5⟩, -⟩ := hX
  have n0 : (0 : Int) ≤ n ∧ (n : Int) < 16 := by omega
  refine J.run 4 rfl n0 ?_
  try dsimp only
  try dsimp only
  rw [b4]
  refine J.ifc rfl rfl rfl ⟨by decide, by decide⟩ (fun hc => absurd rfl hc) (fun _ => ?_)
  refine J.run 4 rfl n0 ?_
  try dsimp only
  try dsimp only
  rw [b5]
  refine J.ifc rfl rfl rfl ⟨by decide, by decide⟩ (fun hc => absurd rfl hc) (fun _ => ?_)
  refine J.run0 2 rfl ?_
  try dsimp only
  refine J.inv rfl rfl rfl rfl rfl rfl jDr rfl rfl rfl rfl rfl (j_height n0 (by rw [a1]; decide)) ?_
  rintro r w H ⟨rfl, rfl, rfl⟩
  rw [a1, a2]
  refine J.run0 1 rfl ?_
  try dsimp only
  refine J.icmp rfl rfl rfl ⟨⟨by decide, by decide⟩, by decide, by decide⟩ (fun hc => absurd (show (120 : Int) < 0 + 1 from hc) (by decide)) (fun _ => ?_)
  refine J.run0 2 rfl ?_
  try dsimp only
  refine J.inv rfl rfl rfl rfl rfl rfl jDr rfl rfl rfl rfl rfl (j_movedX (d := d) hX0) ?_
  rintro r w H' ⟨rfl, rfl, m1, m2⟩
  refine J.ifc rfl rfl rfl ⟨by decide, by decide⟩ (fun _ => ?_) (fun hc => absurd rfl hc)
  exact J.retv rfl rfl rfl ⟨_, rfl, rfl, rfl, m1, m2⟩
/-- NODE n votes for none -/
theorem j_sentX {n : Nat} {ht : Nat → Nat} (hn : n < 16) (hN : rNd (1, 1, 0, 0, []) ht H n) (hM : H.1 11 19 0 = 2) (hb : H.2.2.1 56 0 0 = 0) : J true (d + 4) 136 w (0, jargs 0 [jT, .inl (n : Int), .inl 1, .inl 0, .inl (-1), .inl (-1)], [], H) (jN fun r w' H' => (∃ y, r = some (.inl y)) ∧ w' = w ∧ H'.1 11 19 0 = 3 ∧ H'.1 11 47 0 = H.1 11 47 0 ∧ eX H' n) := by
  have n0 : (0 : Int) ≤ n ∧ (n : Int) < 16 := by omega
  have hl : H.2.2.1 72 0 n = 0 := hN.1.1
  refine J.run0 5 rfl ?_
  try dsimp only
  refine J.inv rfl rfl rfl rfl rfl rfl jDr rfl rfl rfl rfl rfl (j_height n0 (by rw [hl]; decide)) ?_
  rintro r w H ⟨rfl, rfl, rfl⟩
  rw [hl, hb]
  refine J.run0 3 rfl ?_
  try dsimp only
  have h9 : J true (d + 3) 137 w (0, jargs 0 [jT, .inl (n : Int), .inl 1, .inl (0 + 1), .inl 0, .inl (-1), .inl (-1)], [], H) (jN fun r w' H' => (∃ y, r = some (.inl y)) ∧ w' = w ∧ H'.1 11 19 0 = 3 ∧ H'.1 11 47 0 = H.1 11 47 0 ∧ eX H' n) := by
    refine J.run0 3 rfl ?_
    try dsimp only
    try dsimp only
    rw [hM]
    refine J.icmp rfl rfl rfl ⟨⟨by decide, by decide⟩, by decide, by decide⟩ (fun _ => ?_) (fun hc => absurd (show ¬ (2 : Int) = 6000 by decide) hc)
    refine J.run 4 rfl n0 ?_
    try dsimp only
    try dsimp only
    rw [show H.2.2.1 79 0 n = 0 from hN.2.1.1]
    refine J.ifc rfl rfl rfl ⟨by decide, by decide⟩ (fun hc => absurd rfl hc) (fun _ => ?_)
    refine J.run0 6 rfl ?_
    try dsimp only
    refine J.inv rfl rfl rfl rfl rfl rfl jDr rfl rfl rfl rfl rfl (j_isRecorded (v := (1, 1, 0, 0, [])) hn (by decide) hN) ?_
    rintro x w' H1 ⟨rfl, rfl, hE1, hN1, hO1⟩
    refine J.ifc rfl rfl rfl ⟨by decide, by decide⟩ (fun _ => ?_) (fun hc => absurd (show ¬ (1 : Int) = 0 by decide) hc)
    refine J.run0 7 rfl ?_
    try dsimp only
    have e1 : H1.2.2.1 56 0 (H1.2.2.1 72 0 n) + 1 = ((1 : Nat) : Int) := by
      rw [hE1.r 56 (by decide), hE1.r 72 (by decide), hl, hb]
      rfl
    refine J.inv rfl rfl rfl rfl rfl rfl jDr rfl rfl rfl rfl rfl (j_spoken (v := (1, 1, 0, 1, [])) (ht := ht) (M := 2) (kd := 1) (h := 1) (bl := -1) hn (by rw [hE1.v 19 (by decide)]; exact hM) (by decide) (fun i h => (nomatch h)) (by decide) hN1 (by decide) ⟨by decide, by decide⟩ e1) ?_
    rintro x w' H2 ⟨rfl, rfl, hE2, hV2, hN2, hO2, m1, m2, m3, m4, m5, m6⟩
    have u : ∀ (g : Int → Int) (y : Int), jup g ((2 : Nat) : Int) y 2 = y := fun g y => if_pos rfl
    refine J.reti rfl rfl rfl ⟨_, rfl, ⟨_, rfl⟩, rfl, hV2, ?_, ?_⟩
    · rw [hE2.v 47 (by decide), hE1.v 47 (by decide)]
    have k1 : H2.2.2.1 63 0 2 = 1 := by rw [m1]; exact u _ _
    have k2 : H2.2.2.1 64 0 2 = n := by rw [m2]; exact u _ _
    have k3 : H2.2.2.1 65 0 2 = 1 := by rw [m3]; exact u _ _
    have k4 : H2.2.2.1 66 0 2 = 0 := by rw [m4]; exact u _ _
    have k5 : H2.2.2.1 67 0 2 = -1 := by rw [m5]; exact u _ _
    have k6 : H2.2.2.1 68 0 2 = -1 := by rw [m6]; exact u _ _
    have hv : vNow (1, 1, 0, 1, [] ++ [2]) (va_up ht 2 1) = [2] := by
      unfold vNow va_up
      simp
    obtain ⟨⟨q1, q2, q3, q4⟩, ⟨r1, r2, r3, r4, r5⟩, -, hPw, s1, s2⟩ := hN2
    have s1' : H2.2.2.1 113 0 n = ((vNow (1, 1, 0, 1, [] ++ [2]) (va_up ht 2 1)).length : Nat) := s1
    have s2' : ∀ (j x : Nat), (vNow (1, 1, 0, 1, [] ++ [2]) (va_up ht 2 1))[j]? = some x → H2.2.2.1 112 0 (6000 * (n : Int) + j) = x := s2
    rw [hv] at s1' s2'
    refine ⟨⟨hn, hPw, q1, ?_⟩, ⟨q2, q3, r5, r1, r2⟩, ⟨s1', s2' 0 2 rfl, ⟨by decide, by decide⟩, by rw [k1]; decide, by rw [k2]; exact n0, by rw [k3]; decide, by rw [k4]; decide, by rw [k5]; decide, by rw [k6]; decide⟩, k1, k4, k2, k5⟩
    rw [hE2.r 56 (by decide), hE1.r 56 (by decide)]
    exact hb
  refine J.inv rfl rfl rfl rfl rfl rfl jDr rfl rfl rfl rfl rfl h9 ?_
  rintro r w' H' ⟨⟨y, rfl⟩, rfl, h1, h2, h3⟩
  exact J.reti rfl rfl rfl ⟨_, rfl, ⟨_, rfl⟩, rfl, h1, h2, h3⟩
def expA (n : Int) : Int := if n = 1 then 0 else 1
set_option maxRecDepth 8000 in
theorem j_expire {n : Int} (hI : rInv (zc 16) H) (bn : jR n) : J true (d + 10) 151 w (0, jargs 0 [jT, .inl n], [], H) (jN (rOut w (if 0 ≤ n ∧ n ≤ 15 then 0 else 1) (expA n))) := by
  have hz := zc_inv 16 (Nat.le_refl _)
  have eth : H.1 11 47 0 = 0 := hI.1.1.2
  have em : H.1 11 19 0 = 2 := by rw [hI.1.1.1, zM16]; rfl
  refine J.run0 4 rfl ?_
  try dsimp only
  refine J.ins rfl rfl rfl rfl rfl rfl rfl rfl rfl (j_in bn ⟨by decide, by decide⟩ ⟨by decide, by decide⟩) ?_
  rintro r w H ⟨rfl, rfl, rfl⟩
  by_cases h : 0 ≤ n ∧ n ≤ 15
  rotate_left
  · rw [if_neg h, if_neg h]
    refine J.ifc rfl rfl rfl ⟨by decide, by decide⟩ (fun _ => ?_) (fun hc => absurd rfl hc)
    refine J.run0 1 rfl ?_
    try dsimp only
    refine J.run0 3 rfl ?_
    try dsimp only
    refine J.ifc rfl rfl rfl ⟨show -2147483648 ≤ (1 : Int) by decide, show (1 : Int) ≤ 2147483647 by decide⟩ (fun _ => ?_) (fun hc => absurd (show (0 : Int) < 1 by decide) hc)
    refine J.run0 1 rfl ?_
    try dsimp only
    exact J.reti rfl rfl rfl ⟨_, rfl, rfl, rfl, _, rfl, fun hk => absurd hk (by decide)⟩
  rw [if_pos h, if_pos h]
  refine J.ifc rfl rfl rfl ⟨by decide, by decide⟩ (fun hc => absurd hc (show ¬ (1 : Int) = 0 by decide)) (fun _ => ?_)
  refine J.run0 2 rfl ?_
  try dsimp only
  refine J.run0 3 rfl ?_
  try dsimp only
  refine J.ifc rfl rfl rfl ⟨show -2147483648 ≤ (0 : Int) by decide, show (0 : Int) ≤ 2147483647 by decide⟩ (fun hc => absurd (show (0 : Int) < 0 from hc) (by decide)) (fun _ => ?_)
  refine J.heq (show _ = hV H 47 0 from rfl) ?_
  rw [hV_same H 47 eth]
  obtain ⟨m, rfl⟩ : ∃ m : Nat, n = (m : Int) := ⟨n.toNat, by omega⟩
  have hm : m < 16 := by omega
  have n0 : (0 : Int) ≤ m ∧ (m : Int) < 16 := by omega
  have hN := hI.n16 hm
  have hh := hI.height hz hm
  rw [zh16] at hh
  have er : H.2.2.1 73 0 m = 0 := hN.1.2.1
  have hbh : H.2.2.1 56 0 0 = 0 := by
    have h9 := hI.2.1.2.1.2 0 (by decide) (by rw [zB16]; decide)
    exact h9.1
  refine J.run 4 rfl n0 ?_
  try dsimp only
  try dsimp only
  rw [show H.2.2.1 79 0 m = 0 from hN.2.1.1]
  refine J.ifc rfl rfl rfl ⟨by decide, by decide⟩ (fun hc => absurd rfl hc) (fun _ => ?_)
  refine J.run 4 rfl n0 ?_
  try dsimp only
  try dsimp only
  rw [show H.2.2.1 80 0 m = 0 from hN.2.1.2.1]
  refine J.ifc rfl rfl rfl ⟨by decide, by decide⟩ (fun hc => absurd rfl hc) (fun _ => ?_)
  refine J.run0 2 rfl ?_
  try dsimp only
  refine J.inv rfl rfl rfl rfl rfl rfl jDr rfl rfl rfl rfl rfl (j_height n0 hh.1) ?_
  rintro r w H ⟨rfl, rfl, rfl⟩
  rw [hh.2.1]
  refine J.run0 1 rfl ?_
  try dsimp only
  refine J.icmp rfl rfl rfl ⟨⟨by decide, by decide⟩, by decide, by decide⟩ (fun _ => ?_) (fun hc => absurd (show ((1 : Nat) : Int) - 1 + 1 ≤ 120 by decide) hc)
  refine J.run 12 rfl ⟨n0, n0⟩ ?_
  try dsimp only
  try dsimp only
  rw [em, er]
  by_cases h1 : m = 1
  rotate_left
  · have ev : v16 m = (1, 0, 0, 0, []) := if_neg h1
    rw [ev] at hN
    rw [show expA (m : Int) = 1 from if_neg (by omega)]
    rw [show H.2.2.1 74 0 m = ((0 : Nat) : Int) from hN.1.2.2.1]
    refine J.ifc rfl rfl rfl ⟨by decide, by decide⟩ (fun hc => absurd rfl hc) (fun _ => ?_)
    refine J.run 11 rfl n0 ?_
    try dsimp only
    refine J.gn fun H1 hH1 => ?_
    have hE1 : jEx [] [73, 74, 115] H1 H := by
      rw [hH1]
      refine jEx.row ?_ (by decide)
      exact jEx.refl _ _ _
    have q2 : H1.2.2.1 74 0 m = ((1 : Nat) : Int) := by
      rw [hH1]
      show jup (H.2.2.1 74 0) m 1 m = 1
      exact if_pos rfl
    have q3 : H1.2.2.1 115 0 m = ((0 : Nat) : Int) := by rw [hH1]; exact hN.2.1.2.2.2.2
    have q1 : H1.2.2.1 73 0 m = 0 := by rw [hH1]; exact er
    clear hH1
    have hN1 := hN.st hE1 q1 q2 q3 (fun _ => hN.1.2.2.2.2.2.2.2.1 rfl)
    refine J.inv rfl rfl rfl rfl rfl rfl jDr rfl rfl rfl rfl rfl (j_sentX (d := d + 5) hm hN1 (by rw [hE1.v 19 (by decide)]; exact em) (by rw [hE1.r 56 (by decide)]; exact hbh)) ?_
    rintro r w' H2 ⟨⟨y, rfl⟩, rfl, m2, t2, hX2⟩
    refine J.run0 2 rfl ?_
    try dsimp only
    refine J.run0 2 rfl ?_
    try dsimp only
    refine J.inv rfl rfl rfl rfl rfl rfl jDr rfl rfl rfl rfl rfl (j_actX (d := d + 1) hX2) ?_
    rintro r w' H3 ⟨rfl, rfl, m3, t3⟩
    refine J.run0 2 rfl ?_
    try dsimp only
    try dsimp only
    rw [m3, m2]
    refine J.run0 2 rfl ?_
    try dsimp only
    refine J.reti rfl rfl rfl ⟨_, rfl, rfl, ?_, _, rfl, fun _ => rfl⟩
    rw [t3, t2, hE1.v 47 (by decide)]
    exact eth
  · subst h1
    rw [show expA ((1 : Nat) : Int) = 0 from if_pos rfl]
    have es : H.2.2.1 74 0 ((1 : Nat) : Int) = 1 := hN.1.2.2.1
    rw [es]
    refine J.ifc rfl rfl rfl ⟨by decide, by decide⟩ (fun _ => ?_) (fun hc => absurd (show ¬ (1 : Int) = 0 by decide) hc)
    refine J.run 5 rfl n0 ?_
    try dsimp only
    try dsimp only
    rw [es]
    refine J.icmp rfl rfl rfl ⟨⟨by decide, by decide⟩, by decide, by decide⟩ (fun hc => absurd rfl hc) (fun _ => ?_)
    refine J.run0 5 rfl ?_
    try dsimp only
    refine J.inv rfl rfl rfl rfl rfl rfl jDr rfl rfl rfl rfl rfl (j_isMost (d := d + 8) (kind := 1) (r := 0) (b := -2) (hI.nowm hz hm) (hI.pow hm) (by decide) (by decide) (by decide)) ?_
    rintro r w' H' ⟨rfl, g, rfl, hg, rfl⟩
    have gk : ∀ k : Nat, k < 16 → k ≠ 1 → g k = 0 := fun k hk hk1 => by
      obtain ⟨g1, g2⟩ := hg k (by omega) (by omega)
      rcases g1 with g1 | g1
      · exact g1
      · obtain ⟨x, hx, hx2⟩ := (now_iff (hI.2.2 1 hm) fun x => mS H 1 0 (-2) x ∧ H.2.2.1 64 0 x = (k : Int)).mp (g2.mp g1)
        have hxm := (mem_vNow.mp hx).1
        rw [zN16] at hxm
        have hx3 : x = 0 ∨ x = 1 := by
          have h9 : x ∈ [0, 1] := hxm
          simpa using h9
        have h8 : H.2.2.1 64 0 (x : Int) = 1 := (hI.m16 (i := x) (by omega)).2.1
        rw [h8] at hx2
        have h7 : ((1 : Nat) : Int) = ((k : Nat) : Int) := hx2.2
        exact absurd (Int.ofNat.inj h7).symm hk1
    have hc : jcnt g 16 ≤ 1 := by
      have g1 := (hg 1 (by decide) (by decide)).1
      rcases g1 with g1 | g1
      · have h9 := jcnt_count (g := g) (p := fun _ => false) 16 fun k hk => by
          by_cases hk1 : k = 1
          · rw [hk1]; exact g1
          · exact gk k hk hk1
        rw [h9]
        decide
      · have h9 := jcnt_count (g := g) (p := fun k => decide (k = 1)) 16 fun k hk => by
          by_cases hk1 : k = 1
          · rw [hk1]; exact g1
          · rw [if_neg (by simp [hk1])]; exact gk k hk hk1
        rw [h9, one_of_16 1 (by decide)]
        decide
    rw [if_neg (by omega)]
    refine J.ifc rfl rfl rfl ⟨by decide, by decide⟩ (fun _ => ?_) (fun hc => absurd rfl hc)
    have hI1 := hI.seen hz g
    refine J.run0 2 rfl ?_
    try dsimp only
    have hmv : zmove (zc 16) 1 = none := by
      rcases zc_rest 1 (by decide) with h9 | h9
      · rw [zh16] at h9; omega
      · exact h9
    have hact := j_act (d := d + 1) (w := w') (n := 1) (by decide) 500 (zc 16) (hR H 81 g) hz hI1 (by have := zmu_le (z := zc 16) 1; omega)
    rw [zact_none hmv] at hact
    refine J.inv rfl rfl rfl rfl rfl rfl jDr rfl rfl rfl rfl rfl hact ?_
    rintro r w' H3 ⟨rfl, rfl, hI3⟩
    have em3 : H3.1 11 19 0 = 2 := by rw [hI3.1.1.1, zM16]; rfl
    refine J.run0 2 rfl ?_
    try dsimp only
    try dsimp only
    rw [em3]
    refine J.run0 2 rfl ?_
    try dsimp only
    exact J.reti rfl rfl rfl ⟨_, rfl, rfl, hI3.1.1.2, _, rfl, fun _ => rfl⟩
end TA
