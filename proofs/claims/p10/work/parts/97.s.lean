/-! the class's calls on a new object: expire -/
section TB
variable {b : Bool} {d : Nat} {w : jW} {H : jH} {F : cF}
/-- NODE n has voted for none: its MESSAGE lies at m2, behind those at m0, m1 -/
def kX (F : cF) (w : jW) (H : jH) (n q s m0 m1 m2 : Nat) : Prop :=
  (cTop F w H ∧ w.1 7 (fP F) ∧ w.1 29 (fP F) ∧ w.1 31 (fP F) ∧ H.2.2.2.1 29 (fP F) (((1 : Nat) : Int) * 32 + 0) = some m0 ∧ H.2.2.1 31 (fP F) ((1 : Nat) : Int) = 1) ∧
  (w.1 5 m0 ∧ H.1 5 0 m0 = ((0 : Nat) : Int) ∧ H.1 5 1 m0 = 0 ∧ H.1 5 2 m0 = 1 ∧ H.2.1 5 7 m0 = some m1) ∧
  (w.1 5 m1 ∧ H.1 5 0 m1 = ((1 : Nat) : Int) ∧ H.1 5 1 m1 = 1 ∧ H.1 5 2 m1 = 1 ∧ H.1 5 5 m1 = 1 ∧ H.2.1 5 7 m1 = some m2) ∧
  (w.1 5 m2 ∧ H.1 5 0 m2 = ((2 : Nat) : Int) ∧ H.1 5 1 m2 = 1 ∧ H.1 5 2 m2 = (n : Int) ∧ H.1 5 5 m2 = -1 ∧ H.2.1 5 7 m2 = none) ∧
  (n < 16 ∧ n ≠ 1 ∧ w.1 6 (fN F n) ∧ w.1 26 (fN F n) ∧ w.1 27 (fN F n) ∧ H.2.2.2.2 6 1 (fN F n) = q ∧ H.1 6 2 (fN F n) = 0 ∧ H.1 6 3 (fN F n) = 1 ∧ H.1 6 8 (fN F n) = 0 ∧ H.1 6 9 (fN F n) = 0 ∧ H.1 6 10 (fN F n) = 0 ∧ H.1 6 11 (fN F n) = 0) ∧
  (mb (H.2.2.1 26 (fN F n) ((2 / 32 : Nat) : Int)) (2 % 32) = true ∧ ∀ i : Nat, i < 6000 → mb (H.2.2.1 27 (fN F n) ((i / 32 : Nat) : Int)) (i % 32) = false) ∧
  (0 < q ∧ w.1 0 q ∧ H.1 0 1 q = 0 ∧ H.2.1 0 6 q = some s ∧ w.1 8 s ∧ cSt2 w H s)
theorem k_propOf {n q s m0 m1 m2 : Nat} (hX : kX F w H n q s m0 m1 m2) : J b (d + 2) 100 w (0, jargs 0 [.inr (some (10, fX F)), .inr (some (6, fN F n)), .inl 0], [], H) (jN fun r w' H' => r = some (.inr none) ∧ w' = w ∧ H' = H) := by
  obtain ⟨⟨hT, p1, p2, p3, p4, p5⟩, ⟨a1, a2, a3, a4, a5⟩, ⟨b1, b2, b3, b4, b5, b6⟩, ⟨c1, c2, c3, c4, c5, c6⟩, ⟨hn, hn1, n1, n2, n3, n4, n5, n6, n7, n8, n9, n10⟩, ⟨e1, e2⟩, q1, q2, q3, q4, q5, q6⟩ := hX
  obtain ⟨⟨t1, t2, t3, t4, t5, t6, t7, t8⟩, -⟩ := hT
  refine J.run0 2 rfl ?_
  try dsimp only
  refine J.inv rfl rfl rfl rfl rfl rfl ((jD_w rfl).mpr n1) rfl rfl rfl rfl rfl (c_prop (h := 1) n1 n4 q1 q2 q4 q5 q6 (by rw [q3]; rfl) (by decide)) ?_
  rintro r w H ⟨rfl, rfl, rfl⟩
  rw [show ((zP 1 : Nat) : Int) = 1 by decide]
  refine J.run 4 rfl ⟨t1, by rw [t4]; exact t7⟩ ?_
  try dsimp only
  try dsimp only
  rw [t4]
  refine J.inv rfl rfl rfl rfl rfl rfl ((jD_w rfl).mpr n1) rfl rfl rfl rfl rfl (c_height n1 n4 q1 q2) ?_
  rintro r w H ⟨rfl, rfl, rfl⟩
  rw [q3]
  refine J.run0 1 rfl ?_
  try dsimp only
  refine J.inv rfl rfl rfl rfl rfl rfl ((jD_w rfl).mpr p1) rfl rfl rfl rfl rfl (c_firstOf (h := 1) p1 p2 (by decide)) ?_
  rintro r w H ⟨rfl, rfl, rfl⟩
  rw [p4]
  refine J.run0 1 rfl ?_
  try dsimp only
  refine J.run 5 rfl a1 ?_
  try dsimp only
  try dsimp only
  rw [a4]
  refine J.icmp rfl rfl rfl ⟨⟨by decide, by decide⟩, by decide, by decide⟩ (fun hc => absurd rfl hc) (fun _ => ?_)
  refine J.run0 2 rfl ?_
  try dsimp only
  refine J.inv rfl rfl rfl rfl rfl rfl ((jD_w rfl).mpr n1) rfl rfl rfl rfl rfl (c_heardAsFirst (i := 0) n1 n3 a1 a2 (by decide)) ?_
  rintro r w H ⟨rfl, rfl, rfl⟩
  rw [e2 0 (by decide), if_neg (by decide)]
  refine J.ifc rfl rfl rfl ⟨by decide, by decide⟩ (fun _ => ?_) (fun hc => absurd rfl hc)
  refine J.run 2 rfl a1 ?_
  try dsimp only
  try dsimp only
  rw [a5]
  refine J.run0 2 rfl ?_
  try dsimp only
  refine J.run 5 rfl b1 ?_
  try dsimp only
  try dsimp only
  rw [b4]
  refine J.icmp rfl rfl rfl ⟨⟨by decide, by decide⟩, by decide, by decide⟩ (fun hc => absurd rfl hc) (fun _ => ?_)
  refine J.run0 2 rfl ?_
  try dsimp only
  refine J.inv rfl rfl rfl rfl rfl rfl ((jD_w rfl).mpr n1) rfl rfl rfl rfl rfl (c_heardAsFirst (i := 1) n1 n3 b1 b2 (by decide)) ?_
  rintro r w H ⟨rfl, rfl, rfl⟩
  rw [e2 1 (by decide), if_neg (by decide)]
  refine J.ifc rfl rfl rfl ⟨by decide, by decide⟩ (fun _ => ?_) (fun hc => absurd rfl hc)
  refine J.run 2 rfl b1 ?_
  try dsimp only
  try dsimp only
  rw [b6]
  refine J.run0 2 rfl ?_
  try dsimp only
  refine J.run 5 rfl c1 ?_
  try dsimp only
  try dsimp only
  rw [c4]
  refine J.icmp rfl rfl rfl ⟨⟨by omega, by omega⟩, by decide, by decide⟩ (fun _ => ?_) (fun hc => absurd (show ¬ (n : Int) = 1 by omega) hc)
  refine J.run 2 rfl c1 ?_
  try dsimp only
  try dsimp only
  rw [c6]
  refine J.run0 2 rfl ?_
  try dsimp only
  refine J.run0 2 rfl ?_
  try dsimp only
  refine J.run0 1 rfl ?_
  try dsimp only
  exact J.reta rfl rfl rfl ⟨_, rfl, rfl, rfl, rfl⟩
theorem mcnt_1 : ∀ n, n < 16 → mcnt (jor 0 (jshl 1 ((n : Nat) : Int))) 16 = 1 := by decide +kernel
theorem k_heard {n q s m0 m1 m2 : Nat} (hX : kX F w H n q s m0 m1 m2) : J b (d + 1) 101 w (0, jargs 0 [.inr (some (10, fX F)), .inr (some (6, fN F n)), .inl 1, .inl 0, .inl (-1)], [], H) (jN fun r w' H' => r = some (.inl (jor 0 (jshl 1 (n : Int)))) ∧ w' = w ∧ H' = H) := by
  obtain ⟨⟨hT, p1, p2, p3, p4, p5⟩, ⟨a1, a2, a3, a4, a5⟩, ⟨b1, b2, b3, b4, b5, b6⟩, ⟨c1, c2, c3, c4, c5, c6⟩, ⟨hn, hn1, n1, n2, n3, n4, n5, n6, n7, n8, n9, n10⟩, ⟨e1, e2⟩, q1, q2, q3, q4, q5, q6⟩ := hX
  obtain ⟨⟨t1, t2, t3, t4, t5, t6, t7, t8⟩, -⟩ := hT
  refine J.run 4 rfl ⟨t1, by rw [t4]; exact t7⟩ ?_
  try dsimp only
  try dsimp only
  rw [t4]
  refine J.run0 1 rfl ?_
  try dsimp only
  refine J.inv rfl rfl rfl rfl rfl rfl ((jD_w rfl).mpr n1) rfl rfl rfl rfl rfl (c_height n1 n4 q1 q2) ?_
  rintro r w H ⟨rfl, rfl, rfl⟩
  rw [q3]
  refine J.run0 1 rfl ?_
  try dsimp only
  refine J.inv rfl rfl rfl rfl rfl rfl ((jD_w rfl).mpr p1) rfl rfl rfl rfl rfl (c_firstOf (h := 1) p1 p2 (by decide)) ?_
  rintro r w H ⟨rfl, rfl, rfl⟩
  rw [p4]
  refine J.run0 1 rfl ?_
  try dsimp only
  refine J.run0 4 rfl ?_
  try dsimp only
  refine J.icmp rfl rfl rfl ⟨⟨by decide, by decide⟩, by decide, by decide⟩ (fun hc => absurd hc (show ¬ (1 : Int) = -2 by decide)) (fun _ => ?_)
  refine J.run 3 rfl a1 ?_
  try dsimp only
  try dsimp only
  rw [a3]
  refine J.icmp rfl rfl rfl ⟨⟨by decide, by decide⟩, by decide, by decide⟩ (fun _ => ?_) (fun hc => absurd (show ¬ (0 : Int) = 1 by decide) hc)
  refine J.run 2 rfl a1 ?_
  try dsimp only
  try dsimp only
  rw [a5]
  refine J.run0 2 rfl ?_
  try dsimp only
  refine J.run0 4 rfl ?_
  try dsimp only
  refine J.icmp rfl rfl rfl ⟨⟨by decide, by decide⟩, by decide, by decide⟩ (fun hc => absurd hc (show ¬ (1 : Int) = -2 by decide)) (fun _ => ?_)
  refine J.run 3 rfl b1 ?_
  try dsimp only
  try dsimp only
  rw [b3]
  refine J.icmp rfl rfl rfl ⟨⟨by decide, by decide⟩, by decide, by decide⟩ (fun hc => absurd rfl hc) (fun _ => ?_)
  refine J.run0 2 rfl ?_
  try dsimp only
  refine J.icmp rfl rfl rfl ⟨⟨by decide, by decide⟩, by decide, by decide⟩ (fun hc => absurd hc (show ¬ (-1 : Int) = -2 by decide)) (fun _ => ?_)
  refine J.run 3 rfl b1 ?_
  try dsimp only
  try dsimp only
  rw [b5]
  refine J.icmp rfl rfl rfl ⟨⟨by decide, by decide⟩, by decide, by decide⟩ (fun _ => ?_) (fun hc => absurd (show ¬ (1 : Int) = -1 by decide) hc)
  refine J.run 2 rfl b1 ?_
  try dsimp only
  try dsimp only
  rw [b6]
  refine J.run0 2 rfl ?_
  try dsimp only
  refine J.run0 4 rfl ?_
  try dsimp only
  refine J.icmp rfl rfl rfl ⟨⟨by decide, by decide⟩, by decide, by decide⟩ (fun hc => absurd hc (show ¬ (1 : Int) = -2 by decide)) (fun _ => ?_)
  refine J.run 3 rfl c1 ?_
  try dsimp only
  try dsimp only
  rw [c3]
  refine J.icmp rfl rfl rfl ⟨⟨by decide, by decide⟩, by decide, by decide⟩ (fun hc => absurd rfl hc) (fun _ => ?_)
  refine J.run0 2 rfl ?_
  try dsimp only
  refine J.icmp rfl rfl rfl ⟨⟨by decide, by decide⟩, by decide, by decide⟩ (fun hc => absurd hc (show ¬ (-1 : Int) = -2 by decide)) (fun _ => ?_)
  refine J.run 3 rfl c1 ?_
  try dsimp only
  try dsimp only
  rw [c5]
  refine J.icmp rfl rfl rfl ⟨⟨by decide, by decide⟩, by decide, by decide⟩ (fun hc => absurd rfl hc) (fun _ => ?_)
  refine J.run0 2 rfl ?_
  try dsimp only
  refine J.inv rfl rfl rfl rfl rfl rfl ((jD_w rfl).mpr n1) rfl rfl rfl rfl rfl (c_hasHeard (i := 2) n1 n2 c1 c2 (by decide)) ?_
  rintro r w H ⟨rfl, rfl, rfl⟩
  rw [e1, if_pos rfl]
  refine J.ifc rfl rfl rfl ⟨by decide, by decide⟩ (fun hc => absurd hc (show ¬ (1 : Int) = 0 by decide)) (fun _ => ?_)
  refine J.run 7 rfl c1 ?_
  try dsimp only
  try dsimp only
  rw [c4]
  refine J.run 2 rfl c1 ?_
  try dsimp only
  try dsimp only
  rw [c6]
  refine J.run0 2 rfl ?_
  try dsimp only
  refine J.run0 2 rfl ?_
  try dsimp only
  refine J.run0 1 rfl ?_
  try dsimp only
  exact J.reti rfl rfl rfl ⟨_, rfl, rfl, rfl, rfl⟩
theorem k_passOn_l {P : Nat} (h6 : w.1 6 P) (er : H.1 6 2 P = 0) : ∀ (m : Nat), m ≤ 31 → J b d 92 w (15, [(3, .inl (m : Int)), (2, .inl 1), (0, .inr (some (10, fX F))), (1, .inr (some (6, P)))], [], H) (jN fun r w' H' => r = some (.inl 0) ∧ w' = w ∧ H' = H) := by
  intro m
  induction m with
  | zero =>
    intro _
    refine J.run 3 rfl h6 ?_
    try dsimp only
    try dsimp only
    rw [er]
    refine J.icmp rfl rfl rfl ⟨⟨by decide, by decide⟩, by decide, by decide⟩ (fun _ => ?_) (fun hc => absurd (show ((0 : Nat) : Int) ≤ 0 by decide) hc)
    refine J.run0 1 rfl ?_
    try dsimp only
    exact J.retb rfl rfl rfl (by decide) ⟨_, rfl, rfl, rfl, rfl⟩
  | succ m ih =>
    intro hm
    refine J.run 3 rfl h6 ?_
    try dsimp only
    try dsimp only
    rw [er]
    refine J.icmp rfl rfl rfl ⟨⟨by omega, by omega⟩, by decide, by decide⟩ (fun hc => absurd (show ((m + 1 : Nat) : Int) ≤ 0 from hc) (by omega)) (fun _ => ?_)
    refine J.run0 6 rfl ?_
    try dsimp only
    have hbit : mb 1 (m + 1) = false := by
      unfold mb
      show (1#32).getLsbD (m + 1) = false
      rw [BitVec.getLsbD_one]
      simp
    try dsimp only
    rw [mb_ushr 1 (show m + 1 < 32 by omega), if_neg (by rw [hbit]; decide)]
    refine J.icmp rfl rfl rfl ⟨⟨by decide, by decide⟩, by decide, by decide⟩ (fun _ => ?_) (fun hc => absurd (show ¬ (0 : Int) = 1 by decide) hc)
    refine J.run0 2 rfl ?_
    try dsimp only
    have h9 := ih (by omega)
    rw [show (m : Int) = ((m + 1 : Nat) : Int) + -1 by omega] at h9
    exact h9
set_option maxRecDepth 8000 in
theorem k_doAll {n q s m0 m1 m2 : Nat} (hX : kX F w H n q s m0 m1 m2) : J b (d + 5) 89 w (0, jargs 0 [.inr (some (10, fX F)), .inr (some (6, fN F n))], [], H) (jN fun r w' H' => r = none ∧ w' = w ∧ H' = H) := by
  have hX0 := hX
  obtain ⟨⟨hT, p1, p2, p3, p4, p5⟩, -, -, -, ⟨hn, hn1, n1, n2, n3, n4, n5, n6, n7, n8, n9, n10⟩, -, q1, q2, q3, q4, q5, q6⟩ := hX
  obtain ⟨⟨t1, t2, t3, t4, t5, t6, t7, t8⟩, -⟩ := hT
  -- propose
  have r1 : J b (d + 4) 90 w (0, jargs 0 [.inr (some (10, fX F)), .inr (some (6, fN F n))], [], H) (jN fun r w' H' => r = some (.inl 0) ∧ w' = w ∧ H' = H) := by
    refine J.run 2 rfl n1 ?_
    try dsimp only
    try dsimp only
    rw [n8]
    refine J.ifc rfl rfl rfl ⟨by decide, by decide⟩ (fun hc => absurd rfl hc) (fun _ => ?_)
    refine J.run0 1 rfl ?_
    try dsimp only
    exact J.retb rfl rfl rfl (by decide) ⟨_, rfl, rfl, rfl, rfl⟩
  -- decide
  have r2 : J b (d + 4) 91 w (0, jargs 0 [.inr (some (10, fX F)), .inr (some (6, fN F n))], [], H) (jN fun r w' H' => r = some (.inl 0) ∧ w' = w ∧ H' = H) := by
    refine J.run 3 rfl ⟨t1, by rw [t4]; exact t7⟩ ?_
    try dsimp only
    try dsimp only
    rw [t4]
    refine J.inv rfl rfl rfl rfl rfl rfl ((jD_w rfl).mpr n1) rfl rfl rfl rfl rfl (c_height n1 n4 q1 q2) ?_
    rintro r w H ⟨rfl, rfl, rfl⟩
    rw [q3]
    refine J.inv rfl rfl rfl rfl rfl rfl ((jD_w rfl).mpr p1) rfl rfl rfl rfl rfl (c_roundsOf (h := 1) p1 p3 (by decide)) ?_
    rintro r w H ⟨rfl, rfl, rfl⟩
    rw [p5]
    refine J.run0 3 rfl ?_
    try dsimp only
    refine J.run0 2 rfl ?_
    try dsimp only
    refine J.icmp rfl rfl rfl ⟨⟨by decide, by decide⟩, by decide, by decide⟩ (fun hc => absurd (show (32 : Int) ≤ 0 from hc) (by decide)) (fun _ => ?_)
    refine J.run0 6 rfl ?_
    try dsimp only
    try dsimp only
    rw [show jand (jushr 1 0) 1 = 1 by decide]
    refine J.icmp rfl rfl rfl ⟨⟨by decide, by decide⟩, by decide, by decide⟩ (fun hc => absurd rfl hc) (fun _ => ?_)
    refine J.run0 3 rfl ?_
    try dsimp only
    refine J.inv rfl rfl rfl rfl rfl rfl ((jD_w rfl).mpr t1) rfl rfl rfl rfl rfl (k_propOf (d := d + 1) hX0) ?_
    rintro r w H ⟨rfl, rfl, rfl⟩
    refine J.run0 1 rfl ?_
    try dsimp only
    refine J.run0 3 rfl ?_
    try dsimp only
    refine J.run0 2 rfl ?_
    try dsimp only
    exact c_decide_l (rd := 1) (Or.inr rfl) 31 1 _ (by omega) (by omega) (Or.inl ⟨none, rfl⟩)
  -- passOn
  have r3 : J b (d + 4) 92 w (0, jargs 0 [.inr (some (10, fX F)), .inr (some (6, fN F n))], [], H) (jN fun r w' H' => r = some (.inl 0) ∧ w' = w ∧ H' = H) := by
    refine J.run 3 rfl ⟨t1, by rw [t4]; exact t7⟩ ?_
    try dsimp only
    try dsimp only
    rw [t4]
    refine J.inv rfl rfl rfl rfl rfl rfl ((jD_w rfl).mpr n1) rfl rfl rfl rfl rfl (c_height n1 n4 q1 q2) ?_
    rintro r w H ⟨rfl, rfl, rfl⟩
    rw [q3]
    refine J.inv rfl rfl rfl rfl rfl rfl ((jD_w rfl).mpr p1) rfl rfl rfl rfl rfl (c_roundsOf (h := 1) p1 p3 (by decide)) ?_
    rintro r w H ⟨rfl, rfl, rfl⟩
    rw [p5]
    refine J.run0 3 rfl ?_
    try dsimp only
    exact k_passOn_l n1 n5 31 (by omega)
  -- prevote
  have r4 : J b (d + 4) 93 w (0, jargs 0 [.inr (some (10, fX F)), .inr (some (6, fN F n))], [], H) (jN fun r w' H' => r = some (.inl 0) ∧ w' = w ∧ H' = H) := by
    refine J.run 2 rfl n1 ?_
    try dsimp only
    try dsimp only
    rw [n6]
    refine J.ifc rfl rfl rfl ⟨by decide, by decide⟩ (fun _ => ?_) (fun hc => absurd (show ¬ (1 : Int) = 0 by decide) hc)
    refine J.run0 1 rfl ?_
    try dsimp only
    refine J.run0 4 rfl ?_
    try dsimp only
    exact J.retb rfl rfl rfl (by decide) ⟨_, rfl, rfl, rfl, rfl⟩
  -- renewCandidate
  have r5 : J b (d + 4) 94 w (0, jargs 0 [.inr (some (10, fX F)), .inr (some (6, fN F n))], [], H) (jN fun r w' H' => r = some (.inl 0) ∧ w' = w ∧ H' = H) := by
    refine J.run 2 rfl n1 ?_
    try dsimp only
    try dsimp only
    rw [n6]
    refine J.ifc rfl rfl rfl ⟨by decide, by decide⟩ (fun hc => absurd hc (show ¬ (1 : Int) = 0 by decide)) (fun _ => ?_)
    refine J.run 2 rfl n1 ?_
    try dsimp only
    try dsimp only
    rw [n7]
    refine J.ifc rfl rfl rfl ⟨by decide, by decide⟩ (fun _ => ?_) (fun hc => absurd rfl hc)
    refine J.run 4 rfl n1 ?_
    try dsimp only
    try dsimp only
    rw [n5]
    refine J.inv rfl rfl rfl rfl rfl rfl ((jD_w rfl).mpr t1) rfl rfl rfl rfl rfl (k_propOf (d := d + 1) hX0) ?_
    rintro r w H ⟨rfl, rfl, rfl⟩
    refine J.run0 3 rfl ?_
    try dsimp only
    refine J.run0 1 rfl ?_
    try dsimp only
    exact J.retb rfl rfl rfl (by decide) ⟨_, rfl, rfl, rfl, rfl⟩
  -- precommitForNone
  have r6 : J b (d + 4) 95 w (0, jargs 0 [.inr (some (10, fX F)), .inr (some (6, fN F n))], [], H) (jN fun r w' H' => r = some (.inl 0) ∧ w' = w ∧ H' = H) := by
    refine J.run 3 rfl n1 ?_
    try dsimp only
    try dsimp only
    rw [n6]
    refine J.icmp rfl rfl rfl ⟨⟨by decide, by decide⟩, by decide, by decide⟩ (fun hc => absurd rfl hc) (fun _ => ?_)
    refine J.run 7 rfl n1 ?_
    try dsimp only
    try dsimp only
    rw [n5]
    refine J.inv rfl rfl rfl rfl rfl rfl ((jD_w rfl).mpr t1) rfl rfl rfl rfl rfl (k_heard (d := d + 2) hX0) ?_
    rintro r w H ⟨rfl, rfl, rfl⟩
    refine J.inv rfl rfl rfl rfl rfl rfl ((jD_w rfl).mpr n1) rfl rfl rfl rfl rfl (c_isMost (d := d + 1) n1 n4 q1 q2 q4 q5 q6) ?_
    rintro r w H ⟨rfl, rfl, rfl⟩
    rw [mcnt_1 n hn, if_neg (by decide)]
    refine J.ifc rfl rfl rfl ⟨by decide, by decide⟩ (fun hc => absurd rfl hc) (fun _ => ?_)
    refine J.run0 1 rfl ?_
    try dsimp only
    exact J.retb rfl rfl rfl (by decide) ⟨_, rfl, rfl, rfl, rfl⟩
  refine J.run0 4 rfl ?_
  try dsimp only
  refine J.run0 1 rfl ?_
  try dsimp only
  refine J.ifc rfl rfl rfl ⟨by decide, by decide⟩ (fun hc => absurd hc (show ¬ (1 : Int) = 0 by decide)) (fun _ => ?_)
  refine J.run0 2 rfl ?_
  try dsimp only
  refine J.icmp rfl rfl rfl ⟨⟨by decide, by decide⟩, by decide, by decide⟩ (fun hc => absurd (show (100000 : Int) ≤ 0 from hc) (by decide)) (fun _ => ?_)
  refine J.run0 1 rfl ?_
  try dsimp only
  refine J.inv rfl rfl rfl rfl rfl rfl ((jD_w rfl).mpr n1) rfl rfl rfl rfl rfl (c_acts (hh := 0) n1 n4 q1 q2 n9 n10 q3 (by decide)) ?_
  rintro r w H ⟨rfl, rfl, rfl⟩
  rw [if_pos (by decide)]
  refine J.ifc rfl rfl rfl ⟨by decide, by decide⟩ (fun hc => absurd hc (show ¬ (1 : Int) = 0 by decide)) (fun _ => ?_)
  refine J.run0 2 rfl ?_
  try dsimp only
  refine J.inv rfl rfl rfl rfl rfl rfl ((jD_w rfl).mpr t1) rfl rfl rfl rfl rfl r1 ?_
  rintro r w H ⟨rfl, rfl, rfl⟩
  refine J.ifc rfl rfl rfl ⟨by decide, by decide⟩ (fun hc => absurd rfl hc) (fun _ => ?_)
  refine J.run0 2 rfl ?_
  try dsimp only
  refine J.inv rfl rfl rfl rfl rfl rfl ((jD_w rfl).mpr t1) rfl rfl rfl rfl rfl r2 ?_
  rintro r w H ⟨rfl, rfl, rfl⟩
  refine J.ifc rfl rfl rfl ⟨by decide, by decide⟩ (fun hc => absurd rfl hc) (fun _ => ?_)
  refine J.run0 2 rfl ?_
  try dsimp only
  refine J.inv rfl rfl rfl rfl rfl rfl ((jD_w rfl).mpr t1) rfl rfl rfl rfl rfl r3 ?_
  rintro r w H ⟨rfl, rfl, rfl⟩
  refine J.ifc rfl rfl rfl ⟨by decide, by decide⟩ (fun hc => absurd rfl hc) (fun _ => ?_)
  refine J.run0 2 rfl ?_
  try dsimp only
  refine J.inv rfl rfl rfl rfl rfl rfl ((jD_w rfl).mpr t1) rfl rfl rfl rfl rfl r4 ?_
  rintro r w H ⟨rfl, rfl, rfl⟩
  refine J.ifc rfl rfl rfl ⟨by decide, by decide⟩ (fun hc => absurd rfl hc) (fun _ => ?_)
  refine J.run0 2 rfl ?_
  try dsimp only
  refine J.inv rfl rfl rfl rfl rfl rfl ((jD_w rfl).mpr t1) rfl rfl rfl rfl rfl r5 ?_
  rintro r w H ⟨rfl, rfl, rfl⟩
  refine J.ifc rfl rfl rfl ⟨by decide, by decide⟩ (fun hc => absurd rfl hc) (fun _ => ?_)
  refine J.run0 2 rfl ?_
  try dsimp only
  refine J.inv rfl rfl rfl rfl rfl rfl ((jD_w rfl).mpr t1) rfl rfl rfl rfl rfl r6 ?_
  rintro r w H ⟨rfl, rfl, rfl⟩
  refine J.ifc rfl rfl rfl ⟨by decide, by decide⟩ (fun _ => ?_) (fun hc => absurd rfl hc)
  refine J.run0 1 rfl ?_
  try dsimp only
  refine J.run0 3 rfl ?_
  try dsimp only
  refine J.run0 1 rfl ?_
  try dsimp only
  refine J.ifc rfl rfl rfl ⟨by decide, by decide⟩ (fun _ => ?_) (fun hc => absurd rfl hc)
  exact J.retv rfl rfl rfl ⟨_, rfl, rfl, rfl, rfl⟩
end TB
