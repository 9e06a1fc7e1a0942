section JM6
variable {d : Nat} {w : jW} {H : jH}
theorem j_isSound1 {b : Int} (hb : 0 ≤ b ∧ b < 300) (hs : H.2.2.1 61 0 b = 1) : J true d 125 w (0, jargs 0 [jT, .inl b], [], H) (jN fun v w' H' => v = some (.inl 1) ∧ w' = w ∧ H' = H) := by
  refine J.run 4 rfl hb ?_
  try dsimp only
  refine J.ifc rfl rfl rfl ⟨show -2147483648 ≤ H.2.2.1 61 0 b by omega, show H.2.2.1 61 0 b ≤ 2147483647 by omega⟩ (fun hc => absurd (show H.2.2.1 61 0 b ≤ 0 from hc) (by omega)) (fun _ => ?_)
  refine J.run 5 rfl hb ?_
  try dsimp only
  refine J.icmp rfl rfl rfl ⟨⟨show -2147483648 ≤ H.2.2.1 61 0 b by omega, show H.2.2.1 61 0 b ≤ 2147483647 by omega⟩, by decide, by decide⟩ (fun hc => absurd hs hc) (fun _ => ?_)
  refine J.run0 2 rfl ?_
  try dsimp only
  exact J.retb rfl rfl rfl (by decide) ⟨_, rfl, rfl, rfl, rfl⟩
abbrev sS : List Nat := [61, 108, 99, 100, 101, 105]
/-- what a look at SOUND leaves behind -/
def rSnd (H' H : jH) (b : Int) : Prop := rLed H' ∧ jEx sF sS H' H ∧ (-1 ≤ H'.1 11 48 0 ∧ H'.1 11 48 0 < 300) ∧ H'.2.2.1 61 0 b = 1 ∧ ∀ x, x ≠ b → H'.2.2.1 61 0 x = H.2.2.1 61 0 x
theorem j_isSound_l {B b : Int} (hL : rLed H) (hB : rB H B) (hb : 0 ≤ b ∧ b < B) (Post : jO → jW → jH → Prop) (hP : J true (d + 1) 125 w (100, [(3, .inl 16), (2, .inl 1), (0, jT), (1, .inl b)], [], H) Post) : ∀ (m : Nat) (i x : Int), i + m = 16 → 0 ≤ i → x = 1 →
    J true (d + 1) 125 w (61, [(3, .inl i), (2, .inl x), (0, jT), (1, .inl b)], [], H) Post := by
  intro m
  induction m with
  | zero =>
    intro i x hi h0 hx
    obtain rfl : i = 16 := by omega
    subst hx
    refine J.run0 2 rfl ?_
    try dsimp only
    exact J.icmp rfl rfl rfl ⟨⟨by decide, by decide⟩, by decide, by decide⟩ (fun _ => hP) (fun hc => absurd (show (16 : Int) ≤ 16 by decide) hc)
  | succ m ih =>
    intro i x hi h0 hx
    have hB1 := hB.1
    have hcl := (hB.2 b hb.1 hb.2).2.2.2 i h0 (by omega)
    refine J.run0 2 rfl ?_
    try dsimp only
    refine J.icmp rfl rfl rfl ⟨⟨by omega, by omega⟩, by decide, by decide⟩ (fun hc => absurd (show (16 : Int) ≤ i from hc) (by omega)) (fun _ => ?_)
    refine J.run 11 rfl ⟨show 0 ≤ 16 * b + i by omega, show 16 * b + i < 4800 by omega⟩ ?_
    try dsimp only
    refine J.inv rfl rfl rfl rfl rfl rfl jDr rfl rfl rfl rfl rfl (j_power hL ⟨h0, by omega⟩) ?_
    rintro v w H ⟨rfl, rfl, rfl⟩
    refine J.icmp rfl rfl rfl ⟨⟨show -2147483648 ≤ H.2.2.1 60 0 (16 * b + i) by omega, show H.2.2.1 60 0 (16 * b + i) ≤ 2147483647 by omega⟩, by decide, by decide⟩ (fun hc => absurd hcl hc) (fun _ => ?_)
    refine J.run0 2 rfl ?_
    try dsimp only
    refine J.run0 4 rfl ?_
    try dsimp only
    exact ih (i + 1) (jand x 1) (by omega) (by omega) (by rw [hx]; decide)
theorem j_isSound {B b : Int} (hL : rLed H) (hB : rB H B) (hb : 0 ≤ b ∧ b < B) (hd : -1 ≤ H.1 11 48 0 ∧ H.1 11 48 0 < 300) (hs : H.2.2.1 61 0 b = 1 ∨ H.2.2.1 61 0 b = 0 ∧ 1 ≤ b ∧ H.2.2.1 61 0 (b - 1) = 1) :
    J true (d + 2) 125 w (0, jargs 0 [jT, .inl b], [], H) (jN fun v w' H' => v = some (.inl 1) ∧ w' = w ∧ rSnd H' H b) := by
  have hB1 := hB.1
  have b0 : 0 ≤ b ∧ b < 300 := by omega
  rcases hs with hs | ⟨hs, h1, hs1⟩
  · refine J.post (j_isSound1 b0 hs) ?_
    rintro o w' H' ⟨v, rfl, rfl, rfl, rfl⟩
    exact ⟨_, rfl, rfl, rfl, hL, jEx.refl _ _ _, hd, hs, fun _ _ => rfl⟩
  · have hpb := (hB.2 b hb.1 hb.2).2.1
    refine J.run 4 rfl b0 ?_
    try dsimp only
    refine J.ifc rfl rfl rfl ⟨show -2147483648 ≤ H.2.2.1 61 0 b by omega, show H.2.2.1 61 0 b ≤ 2147483647 by omega⟩ (fun _ => ?_) (fun hc => absurd (show H.2.2.1 61 0 b ≤ 0 by omega) hc)
    refine J.run 10 rfl ⟨b0, b0⟩ ?_
    try dsimp only
    have b2 : 0 ≤ H.2.2.1 55 0 b ∧ H.2.2.1 55 0 b < 300 := by omega
    refine J.inv rfl rfl rfl rfl rfl rfl jDr rfl rfl rfl rfl rfl (j_isSound1 (H := (H.1, H.2.1, jsetR H.2.2.1 61 0 (jup (H.2.2.1 61 0) b 2), H.2.2.2)) b2 ?_) ?_
    · show jup (H.2.2.1 61 0) b 2 (H.2.2.1 55 0 b) = 1
      unfold jup
      rw [if_neg (by omega), hpb, hs1]
    rintro v w' H' ⟨rfl, rfl, rfl⟩
    refine J.ifc rfl rfl rfl ⟨by decide, by decide⟩ (fun _ => ?_) (fun hc => absurd (show ¬ (1 : Int) = 0 by decide) hc)
    refine J.run 5 rfl b0 ?_
    try dsimp only
    have hE0 : jEx [] [61] (H.1, H.2.1, jsetR H.2.2.1 61 0 (jup (H.2.2.1 61 0) b 2), H.2.2.2) H := (jEx.refl _ _ _).row (by decide)
    have hBp : rB (H.1, H.2.1, jsetR H.2.2.1 61 0 (jup (H.2.2.1 61 0) b 2), H.2.2.2) B := hB.ex hE0 (by decide)
    refine J.inv rfl rfl rfl rfl rfl rfl jDr rfl rfl rfl rfl rfl (j_state (H := (H.1, H.2.1, jsetR H.2.2.1 61 0 (jup (H.2.2.1 61 0) b 2), H.2.2.2)) hL hBp (show 0 ≤ H.2.2.1 55 0 b ∧ H.2.2.1 55 0 b < B by omega) hd) ?_
    rintro v w' H2 ⟨rfl, rfl, hL2, hE2, hd2⟩
    have hB2 : rB H2 B := hBp.ex hE2 (by decide)
    refine J.run0 4 rfl ?_
    try dsimp only
    refine j_isSound_l hL2 hB2 hb _ ?_ 16 0 1 (by omega) (by omega) rfl
    refine J.run 8 rfl b0 ?_
    try dsimp only
    refine J.inv rfl rfl rfl rfl rfl rfl jDr rfl rfl rfl rfl rfl (j_due (H := hV H2 48 (-1)) hL2.2.2.2.1) ?_
    rintro v w' H' ⟨rfl, rfl, rfl⟩
    refine J.run0 2 rfl ?_
    try dsimp only
    refine J.run 5 rfl b0 ?_
    try dsimp only
    have em := (hB2.2 b hb.1 hb.2).2.2.1
    refine J.icmp rfl rfl rfl ⟨⟨by decide, by decide⟩, show -2147483648 ≤ H2.2.2.1 58 0 b by omega, show H2.2.2.1 58 0 b ≤ 2147483647 by omega⟩ (fun _ => ?_) (fun hc => absurd (show H2.2.2.1 58 0 b ≤ 0 by omega) hc)
    refine J.run0 1 rfl ?_
    try dsimp only
    refine J.ifc rfl rfl rfl ⟨by decide, by decide⟩ (fun hc => absurd hc (show ¬ (1 : Int) = 0 by decide)) (fun _ => ?_)
    refine J.run 5 rfl b0 ?_
    try dsimp only
    refine J.run0 1 rfl ?_
    try dsimp only
    have es := hE2.r 61 (by decide)
    refine J.retb rfl rfl rfl (by decide) ⟨_, rfl, rfl, rfl, hL2, ?_, ⟨show (-1 : Int) ≤ -1 by decide, show (-1 : Int) < 300 by decide⟩, ?_, fun x hx => ?_⟩
    · exact (((hE2.trans (hE0.mono (fs' := sF) (ks' := sS) (by decide) (by decide)) (by decide) (by decide)).num (by decide))).row (by decide)
    · show jup (H2.2.2.1 61 0) b 1 b = 1
      unfold jup
      rw [if_pos rfl]
    · show jup (H2.2.2.1 61 0) b 1 x = _
      rw [es]
      show jup (jup (H.2.2.1 61 0) b 2) b 1 x = _
      unfold jup
      rw [if_neg hx, if_neg hx]
theorem j_isGood {B n b : Int} (hL : rLed H) (hB : rB H B) (hn : 0 ≤ n ∧ n < 16) (hb : 1 ≤ b ∧ b < B) (hd : -1 ≤ H.1 11 48 0 ∧ H.1 11 48 0 < 300) (hs : H.2.2.1 61 0 b = 1 ∨ H.2.2.1 61 0 b = 0 ∧ 1 ≤ b ∧ H.2.2.1 61 0 (b - 1) = 1) (hl : H.2.2.1 72 0 n = b - 1) :
    J true (d + 3) 135 w (0, jargs 0 [jT, .inl n, .inl b], [], H) (jN fun v w' H' => v = some (.inl 1) ∧ w' = w ∧ rSnd H' H b) := by
  have hB1 := hB.1
  have b0 : 0 ≤ b ∧ b < 300 := by omega
  have hpb := (hB.2 b b0.1 hb.2).2.1
  refine J.run 8 rfl ⟨b0, hn⟩ ?_
  try dsimp only
  refine J.icmp rfl rfl rfl ⟨⟨show -2147483648 ≤ H.2.2.1 55 0 b by omega, show H.2.2.1 55 0 b ≤ 2147483647 by omega⟩, show -2147483648 ≤ H.2.2.1 72 0 n by omega, show H.2.2.1 72 0 n ≤ 2147483647 by omega⟩ (fun hc => absurd (show H.2.2.1 55 0 b = H.2.2.1 72 0 n by omega) hc) (fun _ => ?_)
  refine J.run0 2 rfl ?_
  try dsimp only
  refine J.inv rfl rfl rfl rfl rfl rfl jDr rfl rfl rfl rfl rfl (j_isSound hL hB ⟨b0.1, hb.2⟩ hd hs) ?_
  rintro v w' H' ⟨rfl, rfl, hS⟩
  refine J.ifc rfl rfl rfl ⟨by decide, by decide⟩ (fun hc => absurd hc (show ¬ (1 : Int) = 0 by decide)) (fun _ => ?_)
  refine J.run0 2 rfl ?_
  try dsimp only
  exact J.retb rfl rfl rfl (by decide) ⟨_, rfl, rfl, rfl, hS⟩
end JM6
