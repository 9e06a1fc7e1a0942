section JMB
variable {d : Nat} {w : jW} {H : jH}
theorem mProp_zP (h : Nat) : mProp (h : Int) 0 = (zP h : Int) := by
  unfold mProp zP
  omega
abbrev kMd : List Nat := [55, 56, 57, 58]
theorem j_made {B p n : Int} (hB : H.1 11 12 0 = B) (hB1 : 0 ≤ B ∧ B < 300) (hp : 0 ≤ p ∧ p < 300) :
    J true d 124 w (0, jargs 0 [jT, .inl p, .inl n], [], H) (jN fun r w' H' => r = some (.inl B) ∧ w' = w ∧ jEx [12] kMd H' H ∧ H'.1 11 12 0 = B + 1 ∧ H'.2.2.1 55 0 = jup (H.2.2.1 55 0) B p ∧ H'.2.2.1 56 0 = jup (H.2.2.1 56 0) B (H.2.2.1 56 0 p + 1) ∧ H'.2.2.1 58 0 = jup (H.2.2.1 58 0) B 0 ∧ H'.2.2.1 57 0 = jup (H.2.2.1 57 0) B n) := by
  have hb : 0 ≤ H.1 11 12 0 ∧ H.1 11 12 0 < 300 := by omega
  refine J.run 35 rfl ⟨hb, hp, hb, hb, hb⟩ ?_
  try dsimp only
  refine J.gen fun H1 hH1 => ?_
  have hE1 : jEx [12] kMd H1 H := by
    rw [hH1]
    refine jEx.num ?_ (by decide)
    iterate 4 refine jEx.row ?_ (by decide)
    exact jEx.refl _ _ _
  have m1 : H1.1 11 12 0 = B + 1 := by rw [hH1, ← hB]; rfl
  have m2 : H1.2.2.1 55 0 = jup (H.2.2.1 55 0) B p := by rw [hH1, ← hB]; rfl
  have m3 : H1.2.2.1 56 0 = jup (H.2.2.1 56 0) B (H.2.2.1 56 0 p + 1) := by rw [hH1, ← hB]; rfl
  have m4 : H1.2.2.1 58 0 = jup (H.2.2.1 58 0) B 0 := by rw [hH1, ← hB]; rfl
  have m5 : H1.2.2.1 57 0 = jup (H.2.2.1 57 0) B n := by rw [hH1, ← hB]; rfl
  clear hH1
  refine J.reti rfl rfl rfl ⟨_, rfl, ?_, rfl, hE1, m1, m2, m3, m4, m5⟩
  show some (Sum.inl (H.1 11 12 0)) = _
  rw [hB]
/-- the claims of a new BLOCK -/
theorem j_begins_l {B n : Int} (hB : 0 ≤ B ∧ B < 300) (H0 : jH) (Post : jO → jW → jH → Prop) (hnext : ∀ (H : jH) (lv : jL), jEx [] [60] H H0 → rLed H → (∀ k, 0 ≤ k → k < 16 → H.2.2.1 60 0 (16 * B + k) = 100) → (∀ j, j < 16 * B → H.2.2.1 60 0 j = H0.2.2.1 60 0 j) → J true (d + 1) 140 w (149, [(4, .inl 16), (3, .inl B), (0, jT), (1, .inl n), (2, .inl 0)], [], H) Post) :
    ∀ (m i : Nat) (H : jH), i + m = 16 → jEx [] [60] H H0 → rLed H → (∀ k, 0 ≤ k → k < (i : Int) → H.2.2.1 60 0 (16 * B + k) = 100) → (∀ j, j < 16 * B → H.2.2.1 60 0 j = H0.2.2.1 60 0 j) →
    J true (d + 1) 140 w (118, [(4, .inl (i : Int)), (3, .inl B), (0, jT), (1, .inl n), (2, .inl 0)], [], H) Post := by
  intro m
  induction m with
  | zero =>
    intro i H hi hE hL h1 h2
    obtain rfl : i = 16 := by omega
    refine J.run0 2 rfl ?_
    try dsimp only
    exact J.icmp rfl rfl rfl ⟨⟨by omega, by omega⟩, by decide, by decide⟩ (fun _ => hnext H [] hE hL (fun k a b => h1 k a (by omega)) h2) (fun hc => absurd (show (16 : Int) ≤ (16 : Nat) by omega) hc)
  | succ m ih =>
    intro i H hi hE hL h1 h2
    have hi' : (0 : Int) ≤ i ∧ (i : Int) < 16 := by omega
    refine J.run0 2 rfl ?_
    try dsimp only
    refine J.icmp rfl rfl rfl ⟨⟨by omega, by omega⟩, by decide, by decide⟩ (fun hc => absurd (show (16 : Int) ≤ (i : Int) from hc) (by omega)) (fun _ => ?_)
    refine J.run0 9 rfl ?_
    try dsimp only
    refine J.inv rfl rfl rfl rfl rfl rfl jDr rfl rfl rfl rfl rfl (j_power hL hi') ?_
    rintro r w H ⟨rfl, rfl, rfl⟩
    refine J.run 3 rfl ⟨show 0 ≤ 16 * B + (i : Int) by omega, show 16 * B + (i : Int) < 4800 by omega⟩ ?_
    try dsimp only
    refine J.gen fun H1 hH1 => ?_
    have hE1 : jEx [] [60] H1 H0 := by
      rw [hH1]
      refine jEx.row ?_ (by decide)
      exact hE
    have q : ∀ j, H1.2.2.1 60 0 j = jup (H.2.2.1 60 0) (16 * B + i) 100 j := by intro j; rw [hH1]; rfl
    have q3 : rLed H1 := by rw [hH1]; exact hL
    clear hH1
    refine ih (i + 1) H1 (by omega) hE1 q3 (fun k a b => ?_) (fun j a => ?_)
    · rw [q]
      unfold jup
      by_cases hk : k = i
      · rw [if_pos (by omega)]
      · rw [if_neg (by omega)]
        exact h1 k a (by omega)
    · rw [q]
      unfold jup
      rw [if_neg (by omega)]
      exact h2 j a
theorem rNd.st {v : zV} {ht : Nat → Nat} {n : Nat} {H1 : jH} {s e : Nat} (h : rNd v ht H n) (hE : jEx [] [73, 74, 115] H1 H) (q1 : H1.2.2.1 73 0 n = 0) (q2 : H1.2.2.1 74 0 n = s) (q3 : H1.2.2.1 115 0 n = e) (q4 : e = 0 → H.2.2.1 75 0 n = -1 ∧ H.2.2.1 76 0 n = -1 ∧ H.2.2.1 77 0 n = -1 ∧ H.2.2.1 78 0 n = -1) : rNd (v.1, s, e, v.2.2.2.1, v.2.2.2.2) ht H1 n := by
  obtain ⟨⟨a1, a2, a3, a4, a5, a6, a7⟩, ⟨b1, b2, b3, b4, b5⟩, ⟨c1, c2, c3⟩, ⟨d1, d2⟩, e1, e2⟩ := h
  refine ⟨⟨?_, q1, q2, ?_, ?_, ?_, ?_⟩, ⟨?_, ?_, ?_, ?_, q3⟩, ⟨?_, ?_, ?_⟩, ⟨?_, ?_⟩, ?_, ?_⟩
  · rw [hE.r 72 (by decide)]; exact a1
  · rw [hE.r 75 (by decide)]; exact a4
  · rw [hE.r 76 (by decide)]; exact a5
  · rw [hE.r 77 (by decide)]; exact a6
  · rw [hE.r 75 (by decide), hE.r 76 (by decide), hE.r 77 (by decide), hE.r 78 (by decide), hE.r 84 (by decide)]; exact ⟨a7.1, q4, a7.2.2⟩
  · rw [hE.r 79 (by decide)]; exact b1
  · rw [hE.r 80 (by decide)]; exact b2
  · rw [hE.r 82 (by decide)]; exact b3
  · rw [hE.r 83 (by decide)]; exact b4
  · rw [hE.r 71 (by decide)]; exact c1
  · rw [hE.r 70 (by decide)]; exact c2
  · rw [hE.r 114 (by decide)]; exact c3
  · rw [hE.r 111 (by decide)]; exact d1
  · rw [hE.r 110 (by decide)]; exact d2
  · rw [hE.r 113 (by decide)]; exact e1
  · rw [hE.r 112 (by decide)]; exact e2
theorem j_begins {z : zT} {n : Nat} (hz : zInv z) (hI : rInv z H) (hn : n < 16) (hr : nr z n = 0) (hb : nh z n ≤ 120 → zP (nh z n) = n → zB z = nh z n) (hc : H.2.2.1 75 0 n = -1 ∧ H.2.2.1 76 0 n = -1 ∧ H.2.2.1 77 0 n = -1 ∧ H.2.2.1 78 0 n = -1) (hs : H.2.2.1 61 0 (H.2.2.1 72 0 n) = 1) :
    J true (d + 5) 140 w (0, jargs 0 [jT, .inl n, .inl 0], [], H) (jN fun r w' H' => r = none ∧ w' = w ∧ rInv (zbegin z n) H') := by
  have hn' : (0 : Int) ≤ n ∧ (n : Int) < 16 := by omega
  have hh := hI.height hz hn
  have hM := hI.1.1.1
  have hM1 : zM z ≤ 6000 := hz.1.1
  have hBb := hI.2.1.1
  have hB1 := hz.1.2
  have h4 := hz.2.2.2.1 n hn
  refine J.run 17 rfl ⟨hn', hn', Or.inl rfl, hn'⟩ ?_
  try dsimp only
  refine J.gen fun H1 hH1 => ?_
  have hE1 : jEx [] [73, 74, 115] H1 H := by
    rw [hH1]
    iterate 3 refine jEx.row ?_ (by decide)
    exact jEx.refl _ _ _
  have hO1 : ∀ n', n' ≠ n → n' < 16 → rOth H1 H n' := by
    intro n' a b
    rw [hH1]
    iterate 3 refine rOth.up ?_ (Or.inl (by omega)) (Or.inr (by decide)) (Or.inr (by decide))
    exact rOth.refl _ _
  have q1 : H1.2.2.1 73 0 n = 0 := by rw [hH1]; show jup (H.2.2.1 73 0) n 0 n = 0; exact if_pos rfl
  have q2 : H1.2.2.1 74 0 n = ((0 : Nat) : Int) := by rw [hH1]; show jup (H.2.2.1 74 0) n 0 n = 0; exact if_pos rfl
  have q3 : H1.2.2.1 115 0 n = ((0 : Nat) : Int) := by rw [hH1]; show jup (H.2.2.1 115 0) n 0 n = 0; exact if_pos rfl
  clear hH1
  have hN1 := (hI.2.2 n hn).st hE1 q1 q2 q3 fun _ => hc
  have el : H1.2.2.1 72 0 = H.2.2.1 72 0 := hE1.r 72 (by decide)
  have ebh : H1.2.2.1 56 0 = H.2.2.1 56 0 := hE1.r 56 (by decide)
  have hP1 : mPow H1 n := hN1.2.2.2.1
  -- the plain end
  have hend : rInv (zst z n 0 0) H1 := by
    refine ⟨hI.1.ex hE1 ⟨rfl, rfl⟩ (by decide) (by decide), hI.2.1.ex hE1 rfl (by decide) (by decide), fun m hm => ?_⟩
    by_cases hmn : m = n
    · subst hmn
      show rNd ((zN z m (nh z m, 0, 0, nr z m, nK z m)).2.2.2 m) (zh z) H1 m
      rw [zN_at]
      exact hN1
    · show rNd ((zN z n (nh z n, 0, 0, nr z n, nK z n)).2.2.2 m) (zh z) H1 m
      rw [zN_ne z _ hmn]
      have h6 := nK_len hz hm
      exact (hI.2.2 m hm).oth (hO1 m hmn hm) (fun _ _ => rfl) (by show (nK z m).length ≤ 6000; omega)
  have eh : H1.2.2.1 56 0 (H1.2.2.1 72 0 n) + 1 = (nh z n : Int) := by rw [el, ebh, hh.2.1]; omega
  refine J.inv rfl rfl rfl rfl rfl rfl jDr rfl rfl rfl rfl rfl (j_height (H := H1) hn' (by rw [el]; exact hh.1)) ?_
  rintro r w' H' ⟨rfl, rfl, rfl⟩
  rw [eh]
  refine J.run0 1 rfl ?_
  try dsimp only
  refine J.icmp rfl rfl rfl ⟨⟨by omega, by omega⟩, by decide, by decide⟩ (fun hc1 => ?_) (fun hc1 => ?_)
  · have hc1' : (120 : Int) < nh z n := hc1
    refine J.retv rfl rfl rfl ⟨_, rfl, rfl, rfl, ?_⟩
    unfold zbegin
    rw [if_neg (by omega)]
    exact hend
  have hc1' : ¬ (120 : Int) < nh z n := hc1
  refine J.run0 3 rfl ?_
  try dsimp only
  refine J.inv rfl rfl rfl rfl rfl rfl jDr rfl rfl rfl rfl rfl (j_proposer (H := H') hn' hP1 (by omega) (by rw [el]; exact hh.1) (by omega)) ?_
  rintro r w' H2 ⟨rfl, rfl, rfl⟩
  rw [eh, mProp_zP]
  have hzp := zP_lt (nh z n)
  refine J.run0 1 rfl ?_
  try dsimp only
  refine J.icmp rfl rfl rfl ⟨⟨by omega, by omega⟩, by omega, by omega⟩ (fun hc2 => ?_) (fun hc2 => ?_)
  rotate_left
  · have hc2' : ¬ (zP (nh z n) : Int) = n := hc2
    refine J.retv rfl rfl rfl ⟨_, rfl, rfl, rfl, ?_⟩
    unfold zbegin
    rw [if_neg (by omega)]
    exact hend
  have hc2' : (zP (nh z n) : Int) = n := hc2
  have hBh : zB z = nh z n := hb (by omega) (by omega)
  have ec : H2.2.2.1 77 0 n = -1 := by rw [hE1.r 77 (by decide)]; exact hc.2.2.1
  refine J.run 4 rfl hn' ?_
  try dsimp only
  refine J.ifc rfl rfl rfl ⟨show -2147483648 ≤ H2.2.2.1 77 0 n by omega, show H2.2.2.1 77 0 n ≤ 2147483647 by omega⟩ (fun _ => ?_) (fun hc3 => absurd (show H2.2.2.1 77 0 n < 0 by omega) hc3)
  have em : H2.1 11 19 0 = (zM z : Int) := by rw [hE1.v 19 (by decide)]; exact hM
  have eb : H2.1 11 12 0 = (zB z : Int) := by rw [hE1.v 12 (by decide)]; exact hBb
  refine J.run0 3 rfl ?_
  try dsimp only
  refine J.icmp rfl rfl rfl ⟨⟨show -2147483648 ≤ H2.1 11 19 0 by omega, show H2.1 11 19 0 ≤ 2147483647 by omega⟩, by decide, by decide⟩ (fun hc4 => ?_) (fun hc4 => ?_)
  · have hc4' : H2.1 11 19 0 = 6000 := hc4
    refine J.retv rfl rfl rfl ⟨_, rfl, rfl, rfl, ?_⟩
    unfold zbegin
    rw [if_neg (by have : zM z = z.1 := rfl; omega)]
    exact hend
  have hc4' : ¬ H2.1 11 19 0 = 6000 := hc4
  refine J.run0 3 rfl ?_
  try dsimp only
  refine J.icmp rfl rfl rfl ⟨⟨show -2147483648 ≤ H2.1 11 12 0 by omega, show H2.1 11 12 0 ≤ 2147483647 by omega⟩, by decide, by decide⟩ (fun hc5 => ?_) (fun hc5 => ?_)
  rotate_left
  · have hc5' : H2.1 11 12 0 = 300 := Classical.not_not.mp hc5
    refine J.retv rfl rfl rfl ⟨_, rfl, rfl, rfl, ?_⟩
    unfold zbegin
    rw [if_neg (by have : zB z = z.2.2.1 := rfl; omega)]
    exact hend
  have hc5' : ¬ H2.1 11 12 0 = 300 := hc5
  have hl2 : 0 ≤ H2.2.2.1 72 0 n ∧ H2.2.2.1 72 0 n < 300 := by rw [el]; exact hh.1
  have elast : H2.2.2.1 72 0 n = (nh z n : Int) - 1 := by rw [el]; exact (hI.2.2 n hn).1.1
  refine J.run 6 rfl hn' ?_
  try dsimp only
  refine J.inv rfl rfl rfl rfl rfl rfl jDr rfl rfl rfl rfl rfl (j_made (H := H2) (B := zB z) eb (by omega) hl2) ?_
  rintro r w' H3 ⟨rfl, rfl, hE3, v3, p3, h3, m3, pr3⟩
  have hBk1 : rBlk z H2 := hI.2.1.ex hE1 rfl (by decide) (by decide)
  have hL3 : rLed H3 := by
    unfold rLed
    rw [hE3.r 99 (by decide), hE3.r 100 (by decide), hE3.r 101 (by decide), hE3.r 105 (by decide), hE3.v 56 (by decide), hE3.v 57 (by decide)]
    exact hBk1.2.2.2.2.2.2.1
  have hB3 : rB H3 (zB z) := by
    refine ⟨hBk1.2.1.1, fun b a c => ?_⟩
    have := hBk1.2.1.2 b a c
    rw [p3, h3, m3, hE3.r 60 (by decide)]
    unfold jup
    rw [if_neg (by omega), if_neg (by omega), if_neg (by omega)]
    exact this
  have hd3 : -1 ≤ H3.1 11 48 0 ∧ H3.1 11 48 0 < 300 := by
    rw [hE3.v 48 (by decide)]
    exact hBk1.2.2.2.2.2.2.2.2
  have el3 : H3.2.2.1 72 0 = H2.2.2.1 72 0 := hE3.r 72 (by decide)
  refine J.run 6 rfl hn' ?_
  try dsimp only
  refine J.inv rfl rfl rfl rfl rfl rfl jDr rfl rfl rfl rfl rfl (j_state (H := H3) (B := zB z) hL3 hB3 (by rw [el3, elast]; omega) hd3) ?_
  rintro r w' H4 ⟨rfl, rfl, hL4, hE4, hd4⟩
  refine J.run0 2 rfl ?_
  try dsimp only
  refine j_begins_l (B := zB z) (n := n) (by omega) H4 _ (fun H5 _ hE5 hL5 hcl5 hcl5' => ?_) 16 0 H4 rfl (jEx.refl _ _ _) hL4 (fun k a b => by omega) (fun _ _ => rfl)
  have hb0 : (0 : Int) ≤ zB z ∧ (zB z : Int) < 300 := by omega
  refine J.run 8 rfl hb0 ?_
  try dsimp only
  refine J.inv rfl rfl rfl rfl rfl rfl jDr rfl rfl rfl rfl rfl (j_due (H := hV H5 48 (-1)) hL5.2.2.2.1) ?_
  rintro r w' H6 ⟨rfl, rfl, rfl⟩
  refine J.run0 2 rfl ?_
  try dsimp only
  have hE53 : jEx sF (sK ++ [60]) H5 H3 := hE5.trans (hE4.mono (fs' := sF) (ks' := sK ++ [60]) (by decide) (by decide)) (by decide) (by decide)
  have et : H5.1 11 4 0 = 0 := by
    rw [hE53.v 4 (by decide), hE3.v 4 (by decide)]
    exact hBk1.2.2.2.2.2.2.2.1.1
  refine J.run0 3 rfl ?_
  try dsimp only
  refine J.icmp rfl rfl rfl ⟨⟨by decide, by decide⟩, show -2147483648 ≤ H5.1 11 4 0 by omega, show H5.1 11 4 0 ≤ 2147483647 by omega⟩ (fun _ => ?_) (fun hc6 => absurd (show H5.1 11 4 0 ≤ 0 by omega) hc6)
  refine J.run0 6 rfl ?_
  try dsimp only
  -- the state before the proposal is sent
  have hat : va_up z.2.2.2 n (nh z n, 0, 0, nr z n, nK z n) n = (nh z n, 0, 0, nr z n, nK z n) := if_pos rfl
  have hEall : jEx [12, 48, 56, 57] (kMd ++ sK ++ [60]) (hV H5 48 (-1)) H2 := by
    refine jEx.num ?_ (by decide)
    exact hE53.trans (hE3.mono (fs' := [12, 48, 56, 57]) (ks' := kMd ++ sK ++ [60]) (by decide) (by decide)) (by decide) (by decide)
  have hI2 : rInv (z.1, z.2.1, z.2.2.1 + 1, va_up z.2.2.2 n (nh z n, 0, 0, nr z n, nK z n)) (hV H5 48 (-1)) := by
    refine ⟨hend.1.ex hEall ⟨rfl, rfl⟩ (by decide) (by decide), ?_, fun m hm => ?_⟩
    · have r5 : ∀ k, k ∉ (sK ++ [60]) → H5.2.2.1 k 0 = H3.2.2.1 k 0 := fun k hk => hE53.r k hk
      have ebs : H5.2.2.1 61 0 = H2.2.2.1 61 0 := (r5 61 (by decide)).trans (hE3.r 61 (by decide))
      obtain ⟨x1, x2, x3, x4, x5, x6, x7, x8, x9⟩ := hBk1
      have zb : ((z.2.2.1 + 1 : Nat) : Int) = (zB z : Int) + 1 := by
        have : zB z = z.2.2.1 := rfl
        omega
      show H5.1 11 12 0 = ((z.2.2.1 + 1 : Nat) : Int) ∧ rB H5 ((z.2.2.1 + 1 : Nat) : Int) ∧ (∀ b, 0 ≤ b → b < ((z.2.2.1 + 1 : Nat) : Int) → H5.2.2.1 61 0 b = 0 ∨ H5.2.2.1 61 0 b = 1) ∧ (∀ b, 0 ≤ b → b + 1 < ((z.2.2.1 + 1 : Nat) : Int) → H5.2.2.1 61 0 b = 1) ∧ H5.2.2.1 61 0 0 = 1 ∧ (∀ b, ((z.2.2.1 + 1 : Nat) : Int) ≤ b → b < 300 → H5.2.2.1 61 0 b = 0) ∧ rLed H5 ∧ (H5.1 11 4 0 = 0 ∧ H5.1 11 45 0 = 0 ∧ ∀ b : Nat, b < z.2.2.1 + 1 → H5.2.2.1 57 0 (b : Int) = if b = 0 then -1 else (zP b : Int)) ∧ -1 ≤ (-1 : Int) ∧ (-1 : Int) < 300
      rw [zb, ebs]
      refine ⟨?_, ⟨by omega, fun b a c => ?_⟩, fun b a c => ?_, fun b a c => ?_, x5, fun b a c => x6 b (by omega) c, hL5, ⟨et, ?_, fun b hb => ?_⟩, by decide, by decide⟩
      · rw [hE53.v 12 (by decide)]
        exact v3
      · rw [r5 56 (by decide), r5 55 (by decide), r5 58 (by decide), p3, h3, m3]
        unfold jup
        by_cases hbB : b = zB z
        · rw [if_pos hbB, if_pos hbB, if_pos hbB]
          refine ⟨?_, ?_, rfl, fun k p q => ?_⟩
          · rw [elast]
            have := (x2.2 ((nh z n : Int) - 1) (by omega) (by omega)).1
            omega
          · rw [elast]; omega
          · rw [hbB]; exact hcl5 k p q
        · rw [if_neg hbB, if_neg hbB, if_neg hbB]
          have := x2.2 b a (by omega)
          refine ⟨this.1, this.2.1, this.2.2.1, fun k p q => ?_⟩
          rw [hcl5' _ (by omega), hE4.r 60 (by decide), hE3.r 60 (by decide)]
          exact this.2.2.2 k p q
      · by_cases hbB : b = zB z
        · exact Or.inl (x6 b (by omega) (by omega))
        · exact x3 b a (by omega)
      · by_cases hbB : b + 1 = zB z
        · have : b = H2.2.2.1 72 0 n := by omega
          rw [this, el, hE1.r 61 (by decide)]
          exact hs
        · exact x4 b a (by omega)
      · rw [hE53.v 45 (by decide), hE3.v 45 (by decide)]
        exact x8.2.1
      · rw [r5 57 (by decide), pr3]
        unfold jup
        by_cases hbB : b = zB z
        · rw [if_pos (by omega), if_neg (by omega), hbB, hBh]
          exact hc2'.symm
        · rw [if_neg (by omega)]
          exact x8.2.2 b (by have : zB z = z.2.2.1 := rfl; omega)
    · have ho := rOth.ex (n := m) hEall (by decide)
      have h6 := nK_len hz hm
      by_cases hmn : m = n
      · subst hmn
        show rNd (va_up z.2.2.2 m (nh z m, 0, 0, nr z m, nK z m) m) (zh z) _ m
        rw [hat]
        exact hN1.oth ho (fun _ _ => rfl) (by show (nK z m).length ≤ 6000; omega)
      · have hne : va_up z.2.2.2 n (nh z n, 0, 0, nr z n, nK z n) m = z.2.2.2 m := if_neg hmn
        show rNd (va_up z.2.2.2 n (nh z n, 0, 0, nr z n, nK z n) m) (zh z) _ m
        rw [hne]
        exact (hI.2.2 m hm).oth (ho.trans (hO1 m hmn hm)) (fun _ _ => rfl) (by show (nK z m).length ≤ 6000; omega)
  have hz2 := zInv.begin1 hz hn hr (by omega) (by omega) (by have : zB z = z.2.2.1 := rfl; omega) hBh
  have enh : nh (z.1, z.2.1, z.2.2.1 + 1, va_up z.2.2.2 n (nh z n, 0, 0, nr z n, nK z n)) n = nh z n := by
    show (va_up z.2.2.2 n (nh z n, 0, 0, nr z n, nK z n) n).1 = _
    rw [hat]
  have h9 := j_sent (d := d) (w := w') (kd := 0) hz2 hI2 hn
  rw [enh] at h9
  rw [hBh]
  refine J.inv rfl rfl rfl rfl rfl rfl jDr rfl rfl rfl rfl rfl h9 ?_
  rintro r w' H7 ⟨⟨y, rfl⟩, rfl, hI7⟩
  refine J.run0 1 rfl ?_
  try dsimp only
  refine J.retv rfl rfl rfl ⟨_, rfl, rfl, rfl, ?_⟩
  unfold zbegin
  rw [if_pos ⟨by omega, by omega, by have : zM z = z.1 := rfl; omega, by have : zB z = z.2.2.1 := rfl; omega⟩]
  exact hI7
end JMB
