/-! the reference over numbers: small methods -/
section JM
abbrev jT : jV := .inr (some (11, 0))
theorem jDr {w : jW} : jD true w 11 0 := And.intro rfl rfl
abbrev hR (H : jH) (k : Nat) (g : Int → Int) : jH := (H.1, H.2.1, jsetR H.2.2.1 k 0 g, H.2.2.2)
abbrev hV (H : jH) (f : Nat) (x : Int) : jH := (jupF H.1 11 f 0 x, H.2)
variable {d : Nat} {w : jW} {H : jH}
theorem J.heq {d k : Nat} {w : jW} {pc : Nat} {lv : jL} {st : List jV} {H1 H2 : jH} {Post : jO → jW → jH → Prop} (e : H1 = H2) (h : J true d k w (pc, lv, st, H2) Post) : J true d k w (pc, lv, st, H1) Post := e ▸ h
theorem J.gen {d k : Nat} {w : jW} {pc : Nat} {lv : jL} {st : List jV} {H1 : jH} {Post : jO → jW → jH → Prop} (h : ∀ H2, H2 = H1 → J true d k w (pc, lv, st, H2) Post) : J true d k w (pc, lv, st, H1) Post := h _ rfl
theorem hR_up (H : jH) (k : Nat) (g : Int → Int) (x y : Int) : ((hR H k g).1, (hR H k g).2.1, jsetR (hR H k g).2.2.1 k 0 (jup ((hR H k g).2.2.1 k 0) x y), (hR H k g).2.2.2) = hR H k (jup g x y) := by
  simp only [hR, jsetR_set, jsetR_eq]
theorem hR_self (H : jH) (k : Nat) : hR H k (H.2.2.1 k 0) = H := by
  simp only [hR, jsetR_self]
theorem j_height {n : Int} (hn : 0 ≤ n ∧ n < 16) (hl : 0 ≤ H.2.2.1 72 0 n ∧ H.2.2.1 72 0 n < 300) : J true d 126 w (0, jargs 0 [jT, .inl n], [], H) (jN fun v w' H' => v = some (.inl (H.2.2.1 56 0 (H.2.2.1 72 0 n) + 1)) ∧ w' = w ∧ H' = H) := by
  refine J.run 9 rfl ⟨hn, hl⟩ ?_
  try dsimp only
  exact J.reti rfl rfl rfl ⟨_, rfl, rfl, rfl, rfl⟩
theorem j_clear_loop : ∀ (m : Nat) (i : Int) (g : Int → Int), i + m = 16 → 0 ≤ i → (∀ j, 0 ≤ j → j < i → g j = 0) →
    J true d 131 w (2, [(1, .inl i), (0, jT)], [], hR H 81 g) (jN fun v w' H' => v = none ∧ w' = w ∧ ∃ g', H' = hR H 81 g' ∧ ∀ j, 0 ≤ j → j < 16 → g' j = 0) := by
  intro m
  induction m with
  | zero =>
    intro i g hi h0 hg
    refine J.run0 2 rfl ?_
    try dsimp only
    refine J.icmp rfl rfl rfl ⟨⟨by omega, by omega⟩, by omega, by omega⟩ (fun hc => ?_) (fun hc => ?_)
    · exact J.retv rfl rfl rfl ⟨_, rfl, rfl, rfl, g, rfl, fun j h1 h2 => hg j h1 (by omega)⟩
    · exact absurd (show 16 ≤ i by omega) hc
  | succ m ih =>
    intro i g hi h0 hg
    refine J.run0 2 rfl ?_
    try dsimp only
    refine J.icmp rfl rfl rfl ⟨⟨by omega, by omega⟩, by omega, by omega⟩ (fun hc => ?_) (fun hc => ?_)
    · exact absurd (show 16 ≤ i from hc) (by omega)
    · refine J.run 7 rfl ⟨Or.inl rfl, h0, show i < 16 by omega⟩ ?_
      try dsimp only
      refine J.heq (hR_up H _ g i 0) ?_
      refine ih (i + 1) _ (by omega) (by omega) fun j h1 h2 => ?_
      unfold jup
      by_cases hj : j = i
      · rw [if_pos hj]
      · rw [if_neg hj]
        exact hg j h1 (by omega)
theorem j_clear : J true d 131 w (0, jargs 0 [jT], [], H) (jN fun v w' H' => v = none ∧ w' = w ∧ ∃ g', H' = hR H 81 g' ∧ ∀ j, 0 ≤ j → j < 16 → g' j = 0) := by
  refine J.run0 2 rfl ?_
  try dsimp only
  refine J.heq (hR_self H 81).symm ?_
  exact j_clear_loop 16 0 _ (by omega) (by omega) fun j h1 h2 => by omega
/-- the sum of a row's first places -/
def jcnt (g : Int → Int) : Nat → Int
  | 0 => 0
  | n + 1 => jcnt g n + g n
theorem jcnt_le {g : Int → Int} : ∀ (m : Nat), (∀ j, 0 ≤ j → j < (m : Int) → g j = 0 ∨ g j = 1) → 0 ≤ jcnt g m ∧ jcnt g m ≤ m
  | 0, _ => ⟨Int.le_refl _, Int.le_refl _⟩
  | m + 1, h => by
    have h1 := jcnt_le m fun j h1 h2 => h j h1 (by omega)
    have h2 := h m (by omega) (by omega)
    simp only [jcnt]
    omega
theorem j_share_loop {n : Int} (hn : 0 ≤ n ∧ n < 16) (hp : ∀ j, 0 ≤ j → j < 16 → H.2.2.1 110 0 (16 * n + j) = 100) (hs : ∀ j, 0 ≤ j → j < 16 → H.2.2.1 81 0 j = 0 ∨ H.2.2.1 81 0 j = 1) : ∀ (m i : Nat), i + m = 16 →
    J true d 132 w (12, [(4, .inl (i : Int)), (3, .inl (100 * jcnt (H.2.2.1 81 0) i)), (2, .inl 1600), (0, jT), (1, .inl n)], [], H) (jN fun v w' H' => v = some (.inl (if 11 ≤ jcnt (H.2.2.1 81 0) 16 then 2 else if 6 ≤ jcnt (H.2.2.1 81 0) 16 then 1 else 0)) ∧ w' = w ∧ H' = H) := by
  intro m
  induction m with
  | zero =>
    intro i hi
    obtain rfl : i = 16 := by omega
    have hc := jcnt_le (g := H.2.2.1 81 0) 16 fun j h1 h2 => hs j h1 h2
    refine J.run0 2 rfl ?_
    try dsimp only
    refine J.icmp rfl rfl rfl ⟨⟨by omega, by omega⟩, by omega, by omega⟩ (fun _ => ?_) (fun hc => absurd (show (16 : Int) ≤ (16 : Nat) by omega) hc)
    refine J.run0 6 rfl ?_
    try dsimp only
    refine J.icmp rfl rfl rfl ⟨⟨by omega, by omega⟩, by omega, by omega⟩ (fun h1 => ?_) (fun h1 => ?_)
    · have h1' : 3 * (100 * jcnt (H.2.2.1 81 0) 16) ≤ 2 * 1600 := h1
      rw [if_neg (by omega)]
      refine J.run0 4 rfl ?_
      try dsimp only
      refine J.icmp rfl rfl rfl ⟨⟨by omega, by omega⟩, by omega, by omega⟩ (fun h2 => ?_) (fun h2 => ?_)
      · have h2' : 3 * (100 * jcnt (H.2.2.1 81 0) 16) ≤ 1600 := h2
        rw [if_neg (by omega)]
        refine J.run0 1 rfl ?_
        try dsimp only
        exact J.reti rfl rfl rfl ⟨_, rfl, rfl, rfl, rfl⟩
      · have h2' : ¬ 3 * (100 * jcnt (H.2.2.1 81 0) 16) ≤ 1600 := h2
        rw [if_pos (by omega)]
        refine J.run0 2 rfl ?_
        try dsimp only
        exact J.reti rfl rfl rfl ⟨_, rfl, rfl, rfl, rfl⟩
    · have h1' : ¬ 3 * (100 * jcnt (H.2.2.1 81 0) 16) ≤ 2 * 1600 := h1
      rw [if_pos (by omega)]
      refine J.run0 2 rfl ?_
      try dsimp only
      exact J.reti rfl rfl rfl ⟨_, rfl, rfl, rfl, rfl⟩
  | succ m ih =>
    intro i hi
    have h16 : (i : Int) < 16 := by omega
    have hsi := hs i (by omega) h16
    refine J.run0 2 rfl ?_
    try dsimp only
    refine J.icmp rfl rfl rfl ⟨⟨by omega, by omega⟩, by omega, by omega⟩ (fun hc => absurd (show (16 : Int) ≤ i from hc) (by omega)) (fun _ => ?_)
    refine J.run 4 rfl ⟨by omega, h16⟩ ?_
    try dsimp only
    refine J.ifc rfl rfl rfl ⟨by rcases hsi with z | z <;> (rw [z]; decide), by rcases hsi with z | z <;> (rw [z]; decide)⟩ (fun hc => ?_) (fun hc => ?_)
    · have hz : H.2.2.1 81 0 i = 0 := hc
      refine J.run0 2 rfl ?_
      try dsimp only
      have h9 := ih (i + 1) (by omega)
      simp only [jcnt, hz] at h9
      rw [show (100 : Int) * (jcnt (H.2.2.1 81 0) i + 0) = 100 * jcnt (H.2.2.1 81 0) i by omega] at h9
      exact h9
    · have hz : H.2.2.1 81 0 i = 1 := by
        rcases hsi with z | z
        · exact absurd z hc
        · exact z
      have hpi := hp i (by omega) h16
      refine J.run 11 rfl ⟨show 0 ≤ 16 * n + (i : Int) by omega, show 16 * n + (i : Int) < 256 by omega⟩ ?_
      try dsimp only
      refine J.run0 2 rfl ?_
      try dsimp only
      have h9 := ih (i + 1) (by omega)
      simp only [jcnt, hz] at h9
      rw [show (100 : Int) * (jcnt (H.2.2.1 81 0) i + 1) = 100 * jcnt (H.2.2.1 81 0) i + H.2.2.1 110 0 (16 * n + i) by omega] at h9
      exact h9
theorem j_share {n : Int} (hn : 0 ≤ n ∧ n < 16) (ht : H.2.2.1 111 0 n = 1600) (hp : ∀ j, 0 ≤ j → j < 16 → H.2.2.1 110 0 (16 * n + j) = 100) (hs : ∀ j, 0 ≤ j → j < 16 → H.2.2.1 81 0 j = 0 ∨ H.2.2.1 81 0 j = 1) :
    J true d 132 w (0, jargs 0 [jT, .inl n], [], H) (jN fun v w' H' => v = some (.inl (if 11 ≤ jcnt (H.2.2.1 81 0) 16 then 2 else if 6 ≤ jcnt (H.2.2.1 81 0) 16 then 1 else 0)) ∧ w' = w ∧ H' = H) := by
  refine J.run 9 rfl hn ?_
  try dsimp only
  have h9 := j_share_loop (d := d) (w := w) (H := H) hn hp hs 16 0 rfl
  rw [← ht] at h9
  exact h9
end JM
