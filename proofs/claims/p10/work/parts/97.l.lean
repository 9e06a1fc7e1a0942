/-! the reference's calls on a new object: submit, fault, power, start, told, message, forge, block -/
section SU
variable {d : Nat} {w : jW} {H : jH}
theorem rInv.n16 (hI : rInv (zc 16) H) {n : Nat} (hn : n < 16) : rNd (v16 n) (zh (zc 16)) H n := by
  have h : rNd ((zc 16).2.2.2 n) (zh (zc 16)) H n := hI.2.2 n hn
  rw [zN16] at h
  exact h
theorem rInv.m16 (hI : rInv (zc 16) H) {i : Nat} (hi : i < 2) : H.2.2.1 63 0 i = (i : Int) ∧ H.2.2.1 64 0 i = 1 ∧ H.2.2.1 65 0 i = 1 ∧ H.2.2.1 66 0 i = 0 ∧ H.2.2.1 67 0 i = 1 ∧ H.2.2.1 68 0 i = -1 := by
  obtain ⟨f1, f2, f3, f4, f5, f6⟩ := hI.1.2 i (by rw [zM16]; exact hi)
  have e : (zc 16).2.1 i = (i, 1, 1) := by
    have h9 : i = 0 ∨ i = 1 := by omega
    rcases h9 with rfl | rfl
    · exact zE_16.2.1
    · exact zE_16.2.2.1
  unfold zk at f1
  unfold zn at f2
  unfold zh at f3 f5
  rw [e] at f1 f2 f3 f5
  exact ⟨f1, f2, f3, f4, f5, f6⟩
theorem j_faulty {g : Nat → Bool} (hg : ∀ n : Nat, n < 16 → H.2.2.1 79 0 n = if g n = true then 1 else 0) : J true d 146 w (0, jargs 0 [jT], [], H) (jN fun r w' H' => r = some (.inl (((List.range 16).countP g : Nat) : Int)) ∧ w' = w ∧ H' = H) := by
  have loop : ∀ (m i : Nat), i + m = 16 → J true d 146 w (4, [(2, .inl (i : Int)), (1, .inl (((List.range i).countP g : Nat) : Int)), (0, jT)], [], H) (jN fun r w' H' => r = some (.inl (((List.range 16).countP g : Nat) : Int)) ∧ w' = w ∧ H' = H) := by
    intro m
    induction m with
    | zero =>
      intro i hi
      obtain rfl : i = 16 := by omega
      refine J.run0 2 rfl ?_
      try dsimp only
      refine J.icmp rfl rfl rfl ⟨⟨by decide, by decide⟩, by decide, by decide⟩ (fun _ => ?_) (fun hc => absurd (show (16 : Int) ≤ (16 : Nat) by decide) hc)
      refine J.run0 1 rfl ?_
      try dsimp only
      exact J.reti rfl rfl rfl ⟨_, rfl, rfl, rfl, rfl⟩
    | succ m ih =>
      intro i hi
      have hi16 : i < 16 := by omega
      refine J.run0 2 rfl ?_
      try dsimp only
      refine J.icmp rfl rfl rfl ⟨⟨by omega, by omega⟩, by decide, by decide⟩ (fun hc => absurd (show (16 : Int) ≤ (i : Int) from hc) (by omega)) (fun _ => ?_)
      refine J.run 4 rfl ⟨show (0 : Int) ≤ i by omega, show (i : Int) < 16 by omega⟩ ?_
      try dsimp only
      try dsimp only
      rw [hg i hi16]
      have e := range_succ_c g i
      by_cases hgi : g i = true
      · rw [if_pos hgi] at e ⊢
        refine J.ifc rfl rfl rfl ⟨by decide, by decide⟩ (fun hc => absurd hc (show ¬ (1 : Int) = 0 by decide)) (fun _ => ?_)
        refine J.run0 1 rfl ?_
        try dsimp only
        refine J.run0 2 rfl ?_
        try dsimp only
        have h9 := ih (i + 1) (by omega)
        rw [e] at h9
        exact h9
      · rw [if_neg hgi] at e ⊢
        refine J.ifc rfl rfl rfl ⟨by decide, by decide⟩ (fun _ => ?_) (fun hc => absurd rfl hc)
        refine J.run0 2 rfl ?_
        try dsimp only
        have h9 := ih (i + 1) (by omega)
        rw [e] at h9
        exact h9
  refine J.run0 4 rfl ?_
  try dsimp only
  exact loop 16 0 rfl
theorem j_fault {n : Int} (hI : rInv (zc 16) H) (bn : jR n) : J true (d + 10) 147 w (0, jargs 0 [jT, .inl n], [], H) (jN (rOut w (if 0 ≤ n ∧ n ≤ 15 then 0 else 1) 1)) := by
  have eth : H.1 11 47 0 = 0 := hI.1.1.2
  by_cases h : 0 ≤ n ∧ n ≤ 15
  rotate_left
  · rw [if_neg h]
    refine J.run0 4 rfl ?_
    try dsimp only
    refine J.ins rfl rfl rfl rfl rfl rfl rfl rfl rfl (j_in bn ⟨by decide, by decide⟩ ⟨by decide, by decide⟩) ?_
    rintro r w H ⟨rfl, rfl, rfl⟩
    rw [if_neg h]
    refine J.ifc rfl rfl rfl ⟨by decide, by decide⟩ (fun _ => ?_) (fun hc => absurd rfl hc)
    refine J.run0 1 rfl ?_
    try dsimp only
    refine J.run0 3 rfl ?_
    try dsimp only
    refine J.ifc rfl rfl rfl ⟨show -2147483648 ≤ (1 : Int) by decide, show (1 : Int) ≤ 2147483647 by decide⟩ (fun hc => absurd (show (1 : Int) ≤ 0 from hc) (by decide)) (fun _ => ?_)
    refine J.run0 1 rfl ?_
    try dsimp only
    exact J.reti rfl rfl rfl ⟨_, rfl, rfl, rfl, _, rfl, fun hk => absurd hk (by decide)⟩
  rw [if_pos h]
  refine J.run0 4 rfl ?_
  try dsimp only
  refine J.ins rfl rfl rfl rfl rfl rfl rfl rfl rfl (j_in bn ⟨by decide, by decide⟩ ⟨by decide, by decide⟩) ?_
  rintro r w H ⟨rfl, rfl, rfl⟩
  rw [if_pos h]
  refine J.ifc rfl rfl rfl ⟨by decide, by decide⟩ (fun hc => absurd hc (show ¬ (1 : Int) = 0 by decide)) (fun _ => ?_)
  refine J.run0 2 rfl ?_
  try dsimp only
  refine J.run0 3 rfl ?_
  try dsimp only
  refine J.ifc rfl rfl rfl ⟨show -2147483648 ≤ (0 : Int) by decide, show (0 : Int) ≤ 2147483647 by decide⟩ (fun _ => ?_) (fun hc => absurd (show (0 : Int) ≤ 0 by decide) hc)
  refine J.heq (show _ = hV H 47 0 from rfl) ?_
  rw [hV_same H 47 eth]
  obtain ⟨m, rfl⟩ : ∃ m : Nat, n = (m : Int) := ⟨n.toNat, by omega⟩
  have hm : m < 16 := by omega
  have i0 : (0 : Int) ≤ m ∧ (m : Int) < 16 := by omega
  refine J.run 11 rfl ⟨⟨Or.inr rfl, i0⟩, Or.inl rfl, i0⟩ ?_
  try dsimp only
  refine J.gn fun H1 hH1 => ?_
  have g1 : ∀ j : Nat, j < 16 → H1.2.2.1 79 0 j = if decide (j = m) = true then 1 else 0 := fun j hj => by
    rw [hH1]
    show jup (H.2.2.1 79 0) (m : Int) 1 (j : Int) = _
    unfold jup
    by_cases hjm : j = m
    · rw [if_pos (by omega), if_pos (by simp [hjm])]
    · rw [if_neg (by omega), if_neg (by simp [hjm])]
      exact (hI.n16 hj).2.1.1
  have e1 : H1.1 11 47 0 = 0 := by rw [hH1]; exact eth
  clear hH1
  refine J.inv rfl rfl rfl rfl rfl rfl jDr rfl rfl rfl rfl rfl (j_faulty (g := fun j => decide (j = m)) g1) ?_
  rintro r w H1 ⟨rfl, rfl, rfl⟩
  refine J.reti rfl rfl rfl ⟨_, rfl, rfl, e1, _, rfl, fun _ => ?_⟩
  rw [one_of_16 m hm]
  rfl
def powK (n x : Int) : Int := if isN n then (if 0 ≤ x ∧ x ≤ 13 then 0 else 2) else 1
theorem j_power_ {n x : Int} (hI : rInv (zc 16) H) (bn : jR n) (bx : jR x) : J true (d + 10) 156 w (0, jargs 0 [jT, .inl n, .inl x], [], H) (jN fun r w' H' => r = none ∧ w' = w ∧ H'.1 11 47 0 = powK n x) := by
  have eth : H.1 11 47 0 = 0 := hI.1.1.2
  unfold powK
  refine J.run0 4 rfl ?_
  try dsimp only
  refine J.ins rfl rfl rfl rfl rfl rfl rfl rfl rfl (j_in bn ⟨by decide, by decide⟩ ⟨by decide, by decide⟩) ?_
  rintro r w H ⟨rfl, rfl, rfl⟩
  by_cases h : isN n
  rotate_left
  · rw [if_neg h, if_neg h]
    refine J.ifc rfl rfl rfl ⟨by decide, by decide⟩ (fun hc => absurd rfl hc) (fun _ => ?_)
    refine J.run0 2 rfl ?_
    try dsimp only
    refine J.run0 3 rfl ?_
    try dsimp only
    refine J.ifc rfl rfl rfl ⟨show -2147483648 ≤ (1 : Int) by decide, show (1 : Int) ≤ 2147483647 by decide⟩ (fun _ => ?_) (fun hc => absurd (show ¬ (1 : Int) = 0 by decide) hc)
    exact J.retv rfl rfl rfl ⟨_, rfl, rfl, rfl, rfl⟩
  rw [if_pos h, if_pos h]
  refine J.ifc rfl rfl rfl ⟨by decide, by decide⟩ (fun _ => ?_) (fun hc => absurd (show ¬ (1 : Int) = 0 by decide) hc)
  refine J.run0 3 rfl ?_
  try dsimp only
  refine J.ins rfl rfl rfl rfl rfl rfl rfl rfl rfl (j_in bx ⟨by decide, by decide⟩ ⟨by decide, by decide⟩) ?_
  rintro r w H ⟨rfl, rfl, rfl⟩
  by_cases hx : 0 ≤ x ∧ x ≤ 13
  rotate_left
  · rw [if_neg hx, if_neg hx]
    refine J.ifc rfl rfl rfl ⟨by decide, by decide⟩ (fun hc => absurd rfl hc) (fun _ => ?_)
    refine J.run0 2 rfl ?_
    try dsimp only
    refine J.run0 3 rfl ?_
    try dsimp only
    refine J.ifc rfl rfl rfl ⟨show -2147483648 ≤ (2 : Int) by decide, show (2 : Int) ≤ 2147483647 by decide⟩ (fun _ => ?_) (fun hc => absurd (show ¬ (2 : Int) = 0 by decide) hc)
    exact J.retv rfl rfl rfl ⟨_, rfl, rfl, rfl, rfl⟩
  rw [if_pos hx, if_pos hx]
  refine J.ifc rfl rfl rfl ⟨by decide, by decide⟩ (fun _ => ?_) (fun hc => absurd (show ¬ (1 : Int) = 0 by decide) hc)
  refine J.run0 1 rfl ?_
  try dsimp only
  refine J.run0 3 rfl ?_
  try dsimp only
  refine J.ifc rfl rfl rfl ⟨show -2147483648 ≤ (0 : Int) by decide, show (0 : Int) ≤ 2147483647 by decide⟩ (fun hc => absurd rfl hc) (fun _ => ?_)
  refine J.run 5 rfl ⟨h.1, show n < 16 by omega⟩ ?_
  try dsimp only
  exact J.retv rfl rfl rfl ⟨_, rfl, rfl, rfl, rfl⟩
theorem j_start {n : Int} (hI : rInv (zc 16) H) (bn : jR n) : J true (d + 10) 157 w (0, jargs 0 [jT, .inl n], [], H) (jN (rOut w (if 0 ≤ n ∧ n ≤ 15 then 2 else 1) 0)) := by
  refine J.run0 4 rfl ?_
  try dsimp only
  refine J.ins rfl rfl rfl rfl rfl rfl rfl rfl rfl (j_in bn ⟨by decide, by decide⟩ ⟨by decide, by decide⟩) ?_
  rintro r w H ⟨rfl, rfl, rfl⟩
  by_cases h : 0 ≤ n ∧ n ≤ 15
  rotate_left
  · rw [if_neg h, if_neg h]
    refine J.ifc rfl rfl rfl ⟨by decide, by decide⟩ (fun hc => absurd rfl hc) (fun _ => ?_)
    refine J.run0 2 rfl ?_
    try dsimp only
    refine J.run0 3 rfl ?_
    try dsimp only
    refine J.ifc rfl rfl rfl ⟨show -2147483648 ≤ (1 : Int) by decide, show (1 : Int) ≤ 2147483647 by decide⟩ (fun hc => absurd (show (1 : Int) ≤ 0 from hc) (by decide)) (fun _ => ?_)
    refine J.run0 1 rfl ?_
    try dsimp only
    exact J.reti rfl rfl rfl ⟨_, rfl, rfl, rfl, _, rfl, fun hk => absurd hk (by decide)⟩
  rw [if_pos h, if_pos h]
  refine J.ifc rfl rfl rfl ⟨by decide, by decide⟩ (fun _ => ?_) (fun hc => absurd (show ¬ (1 : Int) = 0 by decide) hc)
  obtain ⟨m, rfl⟩ : ∃ m : Nat, n = (m : Int) := ⟨n.toNat, by omega⟩
  have hN := hI.n16 (n := m) (by omega)
  refine J.run 4 rfl ⟨h.1, show (m : Int) < 16 by omega⟩ ?_
  try dsimp only
  try dsimp only
  rw [show H.2.2.1 80 0 m = 0 from hN.2.1.2.1]
  refine J.ifc rfl rfl rfl ⟨by decide, by decide⟩ (fun hc => absurd rfl hc) (fun _ => ?_)
  refine J.run0 2 rfl ?_
  try dsimp only
  refine J.run0 3 rfl ?_
  try dsimp only
  refine J.ifc rfl rfl rfl ⟨show -2147483648 ≤ (2 : Int) by decide, show (2 : Int) ≤ 2147483647 by decide⟩ (fun hc => absurd (show (2 : Int) ≤ 0 from hc) (by decide)) (fun _ => ?_)
  refine J.run0 1 rfl ?_
  try dsimp only
  exact J.reti rfl rfl rfl ⟨_, rfl, rfl, rfl, _, rfl, fun hk => absurd hk (by decide)⟩
set_option maxRecDepth 8000 in
theorem j_told {n what : Int} (hI : rInv (zc 16) H) (bn : jR n) (bx : jR what) : J true (d + 10) 159 w (0, jargs 0 [jT, .inl n, .inl what], [], H) (jN (rOut w (tolK n what) (tolA n what))) := by
  have eth : H.1 11 47 0 = 0 := hI.1.1.2
  have hz := zc_inv 16 (Nat.le_refl _)
  unfold tolK
  refine J.run0 4 rfl ?_
  try dsimp only
  refine J.ins rfl rfl rfl rfl rfl rfl rfl rfl rfl (j_in bn ⟨by decide, by decide⟩ ⟨by decide, by decide⟩) ?_
  rintro r w H ⟨rfl, rfl, rfl⟩
  by_cases h : isN n
  rotate_left
  · rw [if_neg h, if_neg h]
    refine J.ifc rfl rfl rfl ⟨by decide, by decide⟩ (fun hc => absurd rfl hc) (fun _ => ?_)
    refine J.run0 2 rfl ?_
    try dsimp only
    refine J.run0 3 rfl ?_
    try dsimp only
    refine J.ifc rfl rfl rfl ⟨show -2147483648 ≤ (1 : Int) by decide, show (1 : Int) ≤ 2147483647 by decide⟩ (fun hc => absurd (show (1 : Int) ≤ 0 from hc) (by decide)) (fun _ => ?_)
    refine J.run0 1 rfl ?_
    try dsimp only
    exact J.reti rfl rfl rfl ⟨_, rfl, rfl, rfl, _, rfl, fun hk => absurd hk (by decide)⟩
  rw [if_pos h, if_pos h]
  refine J.ifc rfl rfl rfl ⟨by decide, by decide⟩ (fun _ => ?_) (fun hc => absurd (show ¬ (1 : Int) = 0 by decide) hc)
  refine J.run0 3 rfl ?_
  try dsimp only
  refine J.ins rfl rfl rfl rfl rfl rfl rfl rfl rfl (j_in bx ⟨by decide, by decide⟩ ⟨by decide, by decide⟩) ?_
  rintro r w H ⟨rfl, rfl, rfl⟩
  by_cases hx : 0 ≤ what ∧ what ≤ 11
  rotate_left
  · rw [if_neg hx, if_neg hx]
    refine J.ifc rfl rfl rfl ⟨by decide, by decide⟩ (fun hc => absurd rfl hc) (fun _ => ?_)
    refine J.run0 2 rfl ?_
    try dsimp only
    refine J.run0 3 rfl ?_
    try dsimp only
    refine J.ifc rfl rfl rfl ⟨show -2147483648 ≤ (2 : Int) by decide, show (2 : Int) ≤ 2147483647 by decide⟩ (fun hc => absurd (show (2 : Int) ≤ 0 from hc) (by decide)) (fun _ => ?_)
    refine J.run0 1 rfl ?_
    try dsimp only
    exact J.reti rfl rfl rfl ⟨_, rfl, rfl, rfl, _, rfl, fun hk => absurd hk (by decide)⟩
  rw [if_pos hx, if_pos hx]
  refine J.ifc rfl rfl rfl ⟨by decide, by decide⟩ (fun _ => ?_) (fun hc => absurd (show ¬ (1 : Int) = 0 by decide) hc)
  refine J.run0 1 rfl ?_
  try dsimp only
  refine J.run0 3 rfl ?_
  try dsimp only
  refine J.ifc rfl rfl rfl ⟨show -2147483648 ≤ (0 : Int) by decide, show (0 : Int) ≤ 2147483647 by decide⟩ (fun _ => ?_) (fun hc => absurd (show (0 : Int) ≤ 0 by decide) hc)
  refine J.heq (show _ = hV H 47 0 from rfl) ?_
  rw [hV_same H 47 eth]
  obtain ⟨m, rfl⟩ : ∃ m : Nat, n = (m : Int) := ⟨n.toNat, by omega⟩
  have hm : m < 16 := by omega
  have i0 : (0 : Int) ≤ m ∧ (m : Int) < 16 := by omega
  obtain ⟨⟨a1, a2, a3, a4, a5, a6, a7, a8, a9⟩, ⟨b1, b2, b3, b4, b5⟩, ⟨c1, c2, c3⟩, hPw, e1, e2⟩ := hI.n16 hm
  obtain ⟨f1, f2, f3, f4⟩ := a8 (v16_e m)
  have hh := hI.height hz hm
  rw [zh16] at hh
  refine J.run 4 rfl i0 ?_
  try dsimp only
  try dsimp only
  rw [b2]
  refine J.ifc rfl rfl rfl ⟨by decide, by decide⟩ (fun _ => ?_) (fun hc => absurd rfl hc)
  refine J.run0 1 rfl ?_
  try dsimp only
  have hwh : what = 0 ∨ what = 1 ∨ what = 2 ∨ what = 3 ∨ what = 4 ∨ what = 5 ∨ what = 6 ∨ what = 7 ∨ what = 8 ∨ what = 9 ∨ what = 10 ∨ what = 11 := by omega
  rcases hwh with rfl | rfl | rfl | rfl | rfl | rfl | rfl | rfl | rfl | rfl | rfl | rfl
  · refine J.tsw rfl rfl rfl bx rfl ?_
    refine J.run0 2 rfl ?_
    try dsimp only
    refine J.inv rfl rfl rfl rfl rfl rfl jDr rfl rfl rfl rfl rfl (j_height i0 hh.1) ?_
    rintro r w H ⟨rfl, rfl, rfl⟩
    refine J.reti rfl rfl rfl ⟨_, rfl, rfl, eth, _, rfl, fun _ => ?_⟩
    rw [hh.2.1]
    rfl
  · refine J.tsw rfl rfl rfl bx rfl ?_
    refine J.run 4 rfl i0 ?_
    try dsimp only
    exact J.reti rfl rfl rfl ⟨_, rfl, rfl, eth, _, rfl, fun _ => a2⟩
  · refine J.tsw rfl rfl rfl bx rfl ?_
    refine J.run 4 rfl i0 ?_
    try dsimp only
    refine J.reti rfl rfl rfl ⟨_, rfl, rfl, eth, _, rfl, fun _ => ?_⟩
    show H.2.2.1 74 0 m = if (m : Int) = 1 then 1 else 0
    rw [a3]
    unfold v16
    by_cases h1 : m = 1
    · rw [if_pos h1, if_pos (show (m : Int) = 1 by omega)]; rfl
    · rw [if_neg h1, if_neg (show ¬ (m : Int) = 1 by omega)]; rfl
  · refine J.tsw rfl rfl rfl bx rfl ?_
    refine J.run 4 rfl i0 ?_
    try dsimp only
    refine J.reti rfl rfl rfl ⟨_, rfl, rfl, eth, _, rfl, fun _ => ?_⟩
    show H.2.2.1 72 0 m = 0
    rw [a1, v16_h]
    rfl
  · refine J.tsw rfl rfl rfl bx rfl ?_
    refine J.run 4 rfl i0 ?_
    try dsimp only
    exact J.reti rfl rfl rfl ⟨_, rfl, rfl, eth, _, rfl, fun _ => f1⟩
  · refine J.tsw rfl rfl rfl bx rfl ?_
    refine J.run 4 rfl i0 ?_
    try dsimp only
    exact J.reti rfl rfl rfl ⟨_, rfl, rfl, eth, _, rfl, fun _ => f2⟩
  · refine J.tsw rfl rfl rfl bx rfl ?_
    refine J.run 4 rfl i0 ?_
    try dsimp only
    exact J.reti rfl rfl rfl ⟨_, rfl, rfl, eth, _, rfl, fun _ => f3⟩
  · refine J.tsw rfl rfl rfl bx rfl ?_
    refine J.run 4 rfl i0 ?_
    try dsimp only
    exact J.reti rfl rfl rfl ⟨_, rfl, rfl, eth, _, rfl, fun _ => f4⟩
  · refine J.tsw rfl rfl rfl bx rfl ?_
    refine J.run 4 rfl i0 ?_
    try dsimp only
    refine J.reti rfl rfl rfl ⟨_, rfl, rfl, eth, _, rfl, fun _ => ?_⟩
    show H.2.2.1 71 0 m = if (m : Int) = 1 then 2 else 0
    rw [c1]
    unfold v16
    by_cases h1 : m = 1
    · rw [if_pos h1, if_pos (show (m : Int) = 1 by omega)]; rfl
    · rw [if_neg h1, if_neg (show ¬ (m : Int) = 1 by omega)]; rfl
  · refine J.tsw rfl rfl rfl bx rfl ?_
    refine J.run 4 rfl i0 ?_
    try dsimp only
    try dsimp only
    rw [b1]
    refine J.ifc rfl rfl rfl ⟨by decide, by decide⟩ (fun _ => ?_) (fun hc => absurd rfl hc)
    refine J.run 4 rfl i0 ?_
    try dsimp only
    try dsimp only
    rw [b2]
    refine J.ifc rfl rfl rfl ⟨by decide, by decide⟩ (fun _ => ?_) (fun hc => absurd rfl hc)
    refine J.run0 1 rfl ?_
    try dsimp only
    exact J.reti rfl rfl rfl ⟨_, rfl, rfl, eth, _, rfl, fun _ => rfl⟩
  · refine J.tsw rfl rfl rfl bx rfl ?_
    refine J.run 6 rfl i0 ?_
    try dsimp only
    try dsimp only
    rw [a2]
    refine J.inv rfl rfl rfl rfl rfl rfl jDr rfl rfl rfl rfl rfl (j_proposer (d := d + 8) i0 hPw (by decide) hh.1 (by rw [hh.2.1]; decide)) ?_
    rintro r w H ⟨rfl, rfl, rfl⟩
    refine J.reti rfl rfl rfl ⟨_, rfl, rfl, eth, _, rfl, fun _ => ?_⟩
    rw [hh.2.1]
    rfl
  · refine J.tsw rfl rfl rfl bx rfl ?_
    refine J.run 11 rfl ⟨i0, i0⟩ ?_
    try dsimp only
    refine J.reti rfl rfl rfl ⟨_, rfl, rfl, eth, _, rfl, fun _ => ?_⟩
    show 12 * H.2.2.1 83 0 m + H.2.2.1 84 0 m = if (m : Int) = 1 then 24 else 0
    rw [b4, a9]
    unfold v16
    by_cases h1 : m = 1
    · rw [if_pos h1, if_pos (show (m : Int) = 1 by omega)]; rfl
    · rw [if_neg h1, if_neg (show ¬ (m : Int) = 1 by omega)]; rfl
set_option maxRecDepth 8000 in
theorem j_message {m what : Int} (hI : rInv (zc 16) H) (bm : jR m) (bx : jR what) : J true (d + 10) 160 w (0, jargs 0 [jT, .inl m, .inl what], [], H) (jN (rOut w (msgK m what) (msgA m what))) := by
  have eth : H.1 11 47 0 = 0 := hI.1.1.2
  have esz : H.1 11 19 0 = 2 := by rw [hI.1.1.1, zM16]; rfl
  unfold msgK
  refine J.run0 5 rfl ?_
  try dsimp only
  try dsimp only
  rw [esz]
  refine J.run0 2 rfl ?_
  try dsimp only
  refine J.ins rfl rfl rfl rfl rfl rfl rfl rfl rfl (j_in bm ⟨by decide, by decide⟩ ⟨by decide, by decide⟩) ?_
  rintro r w H ⟨rfl, rfl, rfl⟩
  by_cases h : 0 ≤ m ∧ m ≤ 1
  rotate_left
  · rw [if_neg (show ¬ (0 ≤ m ∧ m ≤ 2 - 1) by omega), if_neg h]
    refine J.ifc rfl rfl rfl ⟨by decide, by decide⟩ (fun hc => absurd rfl hc) (fun _ => ?_)
    refine J.run0 2 rfl ?_
    try dsimp only
    refine J.run0 3 rfl ?_
    try dsimp only
    refine J.ifc rfl rfl rfl ⟨show -2147483648 ≤ (1 : Int) by decide, show (1 : Int) ≤ 2147483647 by decide⟩ (fun hc => absurd (show (1 : Int) ≤ 0 from hc) (by decide)) (fun _ => ?_)
    refine J.run0 1 rfl ?_
    try dsimp only
    exact J.reti rfl rfl rfl ⟨_, rfl, rfl, rfl, _, rfl, fun hk => absurd hk (by decide)⟩
  rw [if_pos (show 0 ≤ m ∧ m ≤ 2 - 1 by omega), if_pos h]
  refine J.ifc rfl rfl rfl ⟨by decide, by decide⟩ (fun _ => ?_) (fun hc => absurd (show ¬ (1 : Int) = 0 by decide) hc)
  refine J.run0 3 rfl ?_
  try dsimp only
  refine J.ins rfl rfl rfl rfl rfl rfl rfl rfl rfl (j_in bx ⟨by decide, by decide⟩ ⟨by decide, by decide⟩) ?_
  rintro r w H ⟨rfl, rfl, rfl⟩
  by_cases hx : 0 ≤ what ∧ what ≤ 5
  rotate_left
  · rw [if_neg hx, if_neg hx]
    refine J.ifc rfl rfl rfl ⟨by decide, by decide⟩ (fun hc => absurd rfl hc) (fun _ => ?_)
    refine J.run0 2 rfl ?_
    try dsimp only
    refine J.run0 3 rfl ?_
    try dsimp only
    refine J.ifc rfl rfl rfl ⟨show -2147483648 ≤ (2 : Int) by decide, show (2 : Int) ≤ 2147483647 by decide⟩ (fun hc => absurd (show (2 : Int) ≤ 0 from hc) (by decide)) (fun _ => ?_)
    refine J.run0 1 rfl ?_
    try dsimp only
    exact J.reti rfl rfl rfl ⟨_, rfl, rfl, rfl, _, rfl, fun hk => absurd hk (by decide)⟩
  rw [if_pos hx, if_pos hx]
  refine J.ifc rfl rfl rfl ⟨by decide, by decide⟩ (fun _ => ?_) (fun hc => absurd (show ¬ (1 : Int) = 0 by decide) hc)
  refine J.run0 1 rfl ?_
  try dsimp only
  refine J.run0 3 rfl ?_
  try dsimp only
  refine J.ifc rfl rfl rfl ⟨show -2147483648 ≤ (0 : Int) by decide, show (0 : Int) ≤ 2147483647 by decide⟩ (fun _ => ?_) (fun hc => absurd (show (0 : Int) ≤ 0 by decide) hc)
  refine J.heq (show _ = hV H 47 0 from rfl) ?_
  rw [hV_same H 47 eth]
  obtain ⟨i, rfl⟩ : ∃ i : Nat, m = (i : Int) := ⟨m.toNat, by omega⟩
  have i0 : (0 : Int) ≤ i ∧ (i : Int) < 6000 := by omega
  obtain ⟨f1, f2, f3, f4, f5, f6⟩ := hI.m16 (i := i) (by omega)
  refine J.run0 1 rfl ?_
  try dsimp only
  refine J.ifc rfl rfl rfl bx (fun hc => ?_) (fun hc => ?_)
  rotate_left
  · have hc' : what = 0 := Classical.not_not.mp hc
    refine J.run 5 rfl i0 ?_
    try dsimp only
    refine J.reti rfl rfl rfl ⟨_, rfl, rfl, eth, _, rfl, fun _ => ?_⟩
    rw [hc']
    exact f1
  have c0 : ¬ what = 0 := hc
  refine J.run0 2 rfl ?_
  try dsimp only
  refine J.icmp rfl rfl rfl ⟨bx, by decide, by decide⟩ (fun hc => ?_) (fun hc => ?_)
  rotate_left
  · have hc' : what = 1 := Classical.not_not.mp hc
    refine J.run 5 rfl i0 ?_
    try dsimp only
    refine J.reti rfl rfl rfl ⟨_, rfl, rfl, eth, _, rfl, fun _ => ?_⟩
    rw [hc']
    exact f2
  have c1 : ¬ what = 1 := hc
  refine J.run0 2 rfl ?_
  try dsimp only
  refine J.icmp rfl rfl rfl ⟨bx, by decide, by decide⟩ (fun hc => ?_) (fun hc => ?_)
  rotate_left
  · have hc' : what = 2 := Classical.not_not.mp hc
    refine J.run 5 rfl i0 ?_
    try dsimp only
    refine J.reti rfl rfl rfl ⟨_, rfl, rfl, eth, _, rfl, fun _ => ?_⟩
    rw [hc']
    exact f3
  have c2 : ¬ what = 2 := hc
  refine J.run0 2 rfl ?_
  try dsimp only
  refine J.icmp rfl rfl rfl ⟨bx, by decide, by decide⟩ (fun hc => ?_) (fun hc => ?_)
  rotate_left
  · have hc' : what = 3 := Classical.not_not.mp hc
    refine J.run 5 rfl i0 ?_
    try dsimp only
    refine J.reti rfl rfl rfl ⟨_, rfl, rfl, eth, _, rfl, fun _ => ?_⟩
    rw [hc']
    exact f4
  have c3 : ¬ what = 3 := hc
  refine J.run0 2 rfl ?_
  try dsimp only
  refine J.icmp rfl rfl rfl ⟨bx, by decide, by decide⟩ (fun hc => ?_) (fun hc => ?_)
  rotate_left
  · have hc' : what = 4 := Classical.not_not.mp hc
    refine J.run 5 rfl i0 ?_
    try dsimp only
    refine J.reti rfl rfl rfl ⟨_, rfl, rfl, eth, _, rfl, fun _ => ?_⟩
    rw [hc']
    exact f5
  have c4 : ¬ what = 4 := hc
  have hc' : what = 5 := by omega
  refine J.run 4 rfl i0 ?_
  try dsimp only
  refine J.reti rfl rfl rfl ⟨_, rfl, rfl, eth, _, rfl, fun _ => ?_⟩
  rw [hc']
  exact f6
end SU
