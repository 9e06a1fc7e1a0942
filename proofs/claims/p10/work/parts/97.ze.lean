section GE
theorem gfill {g : Int → Int} {i c : Int} (h : ∀ j, 0 ≤ j → j < i → g j = c) : ∀ j, 0 ≤ j → j < i + 1 → jup g i c j = c := by
  intro j h1 h2
  unfold jup
  by_cases hj : j = i
  · rw [if_pos hj]
  · rw [if_neg hj]
    exact h j h1 (by omega)
def gdg (i j : Int) : Int := if j / 16 = j % 16 ∧ j / 16 < i then 100 else 0
theorem gdiag {g : Int → Int} {i : Int} (hi : 0 ≤ i ∧ i < 16) (h : ∀ j, 0 ≤ j → j < 3200 → g j = gdg i j) : ∀ j, 0 ≤ j → j < 3200 → jup g (16 * i + i) 100 j = gdg (i + 1) j := by
  intro j h1 h2
  unfold jup
  by_cases hj : j = 16 * i + i
  · rw [if_pos hj]
    unfold gdg
    rw [if_pos (by omega)]
  · rw [if_neg hj, h j h1 h2]
    unfold gdg
    by_cases hd : j / 16 = j % 16 ∧ j / 16 < i
    · rw [if_pos hd, if_pos (by omega)]
    · rw [if_neg hd, if_neg (by omega)]
theorem gFirst {H : jH} (hb : ∀ j, 0 ≤ j → j < 200 → H.2.2.1 99 0 j = 1000) (ho : ∀ j, 0 ≤ j → j < 3200 → H.2.2.1 100 0 j = gdg 16 j) (hr : H.1 11 56 0 = 0) : gL (jupF H.1 11 57 0 0, H.2) := by
  have e1 : jcnt (H.2.2.1 99 0) 200 = jcnt (fun _ => 1000) 200 := jcnt_ext 200 fun j hj => hb j (by omega) (by omega)
  have e2 : jcnt (H.2.2.1 100 0) 3200 = jcnt (gdg 16) 3200 := jcnt_ext 3200 fun j hj => ho j (by omega) (by omega)
  have e3 : jcnt (fun _ => 1000) 200 = 200000 := by decide +kernel
  have e4 : jcnt (gdg 16) 3200 = 1600 := by decide +kernel
  show jcnt (H.2.2.1 99 0) 200 + jcnt (H.2.2.1 100 0) 3200 + jcnt (H.2.2.1 103 0) (H.1 11 56 0).toNat + 0 = 201600
  rw [hr, e1, e2, e3, e4]
  rfl
theorem gpth {g : Int → Int} {n y : Int} (h : ∀ j, 0 ≤ j → j < n → 1 ≤ g j) (hy : 1 ≤ y) : ∀ j, 0 ≤ j → j < n + 1 → 1 ≤ jup g n y j := by
  intro j h1 h2
  unfold jup
  by_cases hj : j = n
  · rw [if_pos hj]; exact hy
  · rw [if_neg hj]
    exact h j h1 (by omega)
/-- a NODE's POWER in the STATE that is looked at -/
def gpow (H : jH) (n : Int) : Int := if H.2.2.1 105 0 n = 0 then jcnt (fun a => H.2.2.1 100 0 (16 * a + n)) 200 else 0
end GE
-- M: X11_faulty
section
variable {d : Nat} {w : jW} {H : jH}
-- 
theorem g_faulty_l0 (hT : gT H)   : ∀ (m : Nat), (∀ (i s : Int) (lv : jL), 16 - i < (m : Int) → (0 ≤ i ∧ i ≤ 16) → (0 ≤ s ∧ s ≤ i) → (s = jcnt (H.2.2.1 79 0) i.toNat) → (lv = [(2, .inl i), (1, .inl s), (0, jT)]) → J true d 146 w (4, lv, [], H) (jN fun v w' H' => w' = w ∧ H' = H ∧ ∃ x, v = some (.inl x) ∧ x = jcnt (H.2.2.1 79 0) 16 ∧ 0 ≤ x ∧ x ≤ 16)) := by
  intro m
  induction m with
  | zero =>
    skip
    · intro i s lv hm hi0 hi1 hi2 hlv
      exfalso
      omega
  | succ m ih =>
    skip
    · intro i s lv hm hi0 hi1 hi2 hlv
      rcases hlv with rfl
      refine J.run0 2 rfl ?_
      try dsimp only
      refine J.icmp rfl rfl rfl ⟨(show -2147483648 ≤ i ∧ i ≤ 2147483647 from ⟨by omega, by omega⟩), (show -2147483648 ≤ (16 : Int) ∧ (16 : Int) ≤ 2147483647 from ⟨by omega, by omega⟩)⟩ (fun hc => ?_) (fun hc => ?_)
      · have c1 : (16 : Int) ≤ i := hc
        clear hc
        refine J.run0 1 rfl ?_
        try dsimp only
        exact J.reti rfl rfl rfl ⟨_, rfl, rfl, rfl, _, rfl, (show (s) = jcnt (H.2.2.1 79 0) 16 ∧ 0 ≤ (s) ∧ (s) ≤ 16 from ⟨by rw [← show i.toNat = 16 by omega]; assumption, by omega, by omega⟩)⟩
      · have c2 : ¬ ((16 : Int) ≤ i) := hc
        clear hc
        have f3 : 0 ≤ H.2.2.1 79 0 (i) ∧ H.2.2.1 79 0 (i) ≤ 1 := hT.1 79 (i)
        refine J.run 4 rfl (show 0 ≤ i ∧ i < 16 from ⟨by omega, by omega⟩) ?_
        try dsimp only
        refine J.ifc rfl rfl rfl (show -2147483648 ≤ H.2.2.1 79 0 (i) ∧ H.2.2.1 79 0 (i) ≤ 2147483647 from ⟨by omega, by omega⟩) (fun hc => ?_) (fun hc => ?_)
        · have c4 : H.2.2.1 79 0 (i) = (0 : Int) := hc
          clear hc
          refine J.run0 2 rfl ?_
          try dsimp only
          exact ih (i + 1) (s) _ (show 16 - (i + 1) < _ by omega) (show 0 ≤ (i + 1) ∧ (i + 1) ≤ 16 from ⟨by omega, by omega⟩) (show 0 ≤ (s) ∧ (s) ≤ (i + 1) from ⟨by omega, by omega⟩) (show (s) = jcnt (H.2.2.1 79 0) (i + 1).toNat from (by first | exact rfl | (have e := jcnt_succ (f := H.2.2.1 79 0) (s := s) (i := i) (by omega) (by assumption); omega))) rfl
        · have c5 : ¬ (H.2.2.1 79 0 (i) = (0 : Int)) := hc
          clear hc
          refine J.run0 3 rfl ?_
          try dsimp only
          exact ih (i + 1) (s + 1) _ (show 16 - (i + 1) < _ by omega) (show 0 ≤ (i + 1) ∧ (i + 1) ≤ 16 from ⟨by omega, by omega⟩) (show 0 ≤ (s + 1) ∧ (s + 1) ≤ (i + 1) from ⟨by omega, by omega⟩) (show (s + 1) = jcnt (H.2.2.1 79 0) (i + 1).toNat from (by first | exact rfl | (have e := jcnt_succ (f := H.2.2.1 79 0) (s := s) (i := i) (by omega) (by assumption); omega))) rfl
-- 
theorem g_faulty (hT : gT H)   : J true d 146 w (0, jargs 0 [jT], [], H) (jN fun v w' H' => w' = w ∧ H' = H ∧ ∃ x, v = some (.inl x) ∧ x = jcnt (H.2.2.1 79 0) 16 ∧ 0 ≤ x ∧ x ≤ 16) := by
  refine J.run0 4 rfl ?_
  try dsimp only
  exact (g_faulty_l0 (H := H)  hT   ((16 - ((0 : Int)) : Int).toNat + 1)) ((0 : Int)) ((0 : Int)) _ (show 16 - ((0 : Int)) < _ by omega) (show 0 ≤ ((0 : Int)) ∧ ((0 : Int)) ≤ 16 from ⟨by omega, by omega⟩) (show 0 ≤ ((0 : Int)) ∧ ((0 : Int)) ≤ ((0 : Int)) from ⟨by omega, by omega⟩) (show ((0 : Int)) = jcnt (H.2.2.1 79 0) ((0 : Int)).toNat from (by first | exact rfl | (have e := jcnt_succ (f := H.2.2.1 79 0) (s := s) (i := i) (by omega) (by assumption); omega))) rfl
end
-- M: X11_powerOf
section
variable {d : Nat} {w : jW} {H : jH}
-- 
theorem g_powerOf_l0 {n : Int} (hT : gT H)  (hp0 : 0 ≤ n ∧ n < 16) : ∀ (m : Nat), (∀ (i s : Int) (lv : jL), 200 - i < (m : Int) → (0 ≤ i ∧ i ≤ 200) → (0 ≤ s ∧ s ≤ 201600 * i) → (s = jcnt (fun a => H.2.2.1 100 0 (16 * a + n)) i.toNat) → (H.2.2.1 105 0 (n) = 0) → (lv = [(3, .inl i), (2, .inl s), (0, jT), (1, .inl n)]) → J true d 117 w (15, lv, [], H) (jN fun v w' H' => w' = w ∧ H' = H ∧ ∃ x, v = some (.inl x) ∧ x = gpow H (n) ∧ 0 ≤ x ∧ x ≤ 40320000)) := by
  intro m
  induction m with
  | zero =>
    skip
    · intro i s lv hm hi0 hi1 hi2 hi3 hlv
      exfalso
      omega
  | succ m ih =>
    skip
    · intro i s lv hm hi0 hi1 hi2 hi3 hlv
      rcases hlv with rfl
      refine J.run0 2 rfl ?_
      try dsimp only
      refine J.icmp rfl rfl rfl ⟨(show -2147483648 ≤ i ∧ i ≤ 2147483647 from ⟨by omega, by omega⟩), (show -2147483648 ≤ (200 : Int) ∧ (200 : Int) ≤ 2147483647 from ⟨by omega, by omega⟩)⟩ (fun hc => ?_) (fun hc => ?_)
      · have c1 : (200 : Int) ≤ i := hc
        clear hc
        refine J.run0 1 rfl ?_
        try dsimp only
        exact J.reti rfl rfl rfl ⟨_, rfl, rfl, rfl, _, rfl, (show (s) = gpow H (n) ∧ 0 ≤ (s) ∧ (s) ≤ 40320000 from ⟨by first | (unfold gpow; rw [if_neg (by omega)]) | (unfold gpow; rw [if_pos (by omega)]; rw [← show i.toNat = 200 by omega]; assumption), by omega, by omega⟩)⟩
      · have c2 : ¬ ((200 : Int) ≤ i) := hc
        clear hc
        have f3 : 0 ≤ H.2.2.1 100 0 (((16 : Int) * i) + n) ∧ H.2.2.1 100 0 (((16 : Int) * i) + n) ≤ 201600 := hT.1 100 (((16 : Int) * i) + n)
        refine J.run 13 rfl (show 0 ≤ ((16 : Int) * i) + n ∧ ((16 : Int) * i) + n < 3200 from ⟨by omega, by omega⟩) ?_
        try dsimp only
        exact ih (i + 1) (s + (H.2.2.1 100 0 (((16 : Int) * i) + n))) _ (show 200 - (i + 1) < _ by omega) (show 0 ≤ (i + 1) ∧ (i + 1) ≤ 200 from ⟨by omega, by omega⟩) (show 0 ≤ (s + (H.2.2.1 100 0 (((16 : Int) * i) + n))) ∧ (s + (H.2.2.1 100 0 (((16 : Int) * i) + n))) ≤ 201600 * (i + 1) from ⟨by omega, by omega⟩) (show (s + (H.2.2.1 100 0 (((16 : Int) * i) + n))) = jcnt (fun a => H.2.2.1 100 0 (16 * a + n)) (i + 1).toNat from (by first | exact rfl | exact jcnt_succ (f := fun a => H.2.2.1 100 0 (16 * a + n)) (by omega) (by assumption))) (show H.2.2.1 105 0 (n) = 0 from by omega) rfl
-- 
theorem g_powerOf {n : Int} (hT : gT H)  (hp0 : 0 ≤ n ∧ n < 16) : J true d 117 w (0, jargs 0 [jT, .inl n], [], H) (jN fun v w' H' => w' = w ∧ H' = H ∧ ∃ x, v = some (.inl x) ∧ x = gpow H (n) ∧ 0 ≤ x ∧ x ≤ 40320000) := by
  have f4 : 0 ≤ H.2.2.1 105 0 (n) ∧ H.2.2.1 105 0 (n) ≤ 1 := hT.1 105 (n)
  refine J.run 6 rfl (show 0 ≤ n ∧ n < 16 from ⟨by omega, by omega⟩) ?_
  try dsimp only
  refine J.ifc rfl rfl rfl (show -2147483648 ≤ H.2.2.1 105 0 (n) ∧ H.2.2.1 105 0 (n) ≤ 2147483647 from ⟨by omega, by omega⟩) (fun hc => ?_) (fun hc => ?_)
  · have c5 : H.2.2.1 105 0 (n) = (0 : Int) := hc
    clear hc
    refine J.run0 2 rfl ?_
    try dsimp only
    exact (g_powerOf_l0 (H := H) (n := n) hT  hp0 ((200 - ((0 : Int)) : Int).toNat + 1)) ((0 : Int)) ((0 : Int)) _ (show 200 - ((0 : Int)) < _ by omega) (show 0 ≤ ((0 : Int)) ∧ ((0 : Int)) ≤ 200 from ⟨by omega, by omega⟩) (show 0 ≤ ((0 : Int)) ∧ ((0 : Int)) ≤ 201600 * ((0 : Int)) from ⟨by omega, by omega⟩) (show ((0 : Int)) = jcnt (fun a => H.2.2.1 100 0 (16 * a + n)) ((0 : Int)).toNat from (by first | exact rfl | exact jcnt_succ (f := fun a => H.2.2.1 100 0 (16 * a + n)) (by omega) (by assumption))) (show H.2.2.1 105 0 (n) = 0 from by omega) rfl
  · have c6 : ¬ (H.2.2.1 105 0 (n) = (0 : Int)) := hc
    clear hc
    refine J.run0 1 rfl ?_
    try dsimp only
    exact J.reti rfl rfl rfl ⟨_, rfl, rfl, rfl, _, rfl, (show ((0 : Int)) = gpow H (n) ∧ 0 ≤ ((0 : Int)) ∧ ((0 : Int)) ≤ 40320000 from ⟨by first | (unfold gpow; rw [if_neg (by omega)]) | (unfold gpow; rw [if_pos (by omega)]; rw [← show i.toNat = 200 by omega]; assumption), by omega, by omega⟩)⟩
end
-- M: X11_due
section
variable {d : Nat} {w : jW} 
-- 
theorem g_due_l0 {h : Int} {H0 : jH} (hp0 : -2147483648 ≤ h ∧ h ≤ 2147483647) : ∀ (m : Nat), (∀ (to k : Int) (H : jH) (lv : jL), 32 - k < (m : Int) → (0 ≤ to ∧ to ≤ k) → (k ≤ H.1 11 56 0) → (H.1 11 56 0 = H0.1 11 56 0) → (H.1 11 56 0 ≤ 32) → (gD H (to) (k) = 201600) → gT H → jEx [56] [99, 102, 103, 104] H H0 → (lv = [(3, .inl k), (2, .inl to), (0, jT), (1, .inl h)]) → J true d 118 w (4, lv, [], H) (jN fun v w' H' => w' = w ∧ gT H' ∧ jEx [56] [99, 102, 103, 104] H' H0 ∧ gL H' ∧ v = none)) := by
  intro m
  induction m with
  | zero =>
    skip
    · intro to k H lv hm hi0 hi1 hi2 hi3 hi4 hT hE hlv
      exfalso
      omega
  | succ m ih =>
    skip
    · intro to k H lv hm hi0 hi1 hi2 hi3 hi4 hT hE hlv
      rcases hlv with rfl
      have f1 : 0 ≤ H.1 11 56 0 ∧ H.1 11 56 0 ≤ 32 := hT.2.1 56
      refine J.run0 3 rfl ?_
      try dsimp only
      refine J.icmp rfl rfl rfl ⟨(show -2147483648 ≤ k ∧ k ≤ 2147483647 from ⟨by omega, by omega⟩), (show -2147483648 ≤ H.1 11 56 0 ∧ H.1 11 56 0 ≤ 2147483647 from ⟨by omega, by omega⟩)⟩ (fun hc => ?_) (fun hc => ?_)
      · have c2 : H.1 11 56 0 ≤ k := hc
        clear hc
        refine J.run0 3 rfl ?_
        try dsimp only
        refine J.gn fun H3 hH3 => ?_
        have hT4 : gT H3 := by rw [hH3]; exact gT.num (f := 56) hT (show 0 ≤ to ∧ to ≤ 32 from ⟨by omega, by omega⟩) (by decide) (fun z => absurd z (by decide))
        have hE5 : jEx [56] [99, 102, 103, 104] H3 H0 := by rw [hH3]; exact jEx.num hE (by decide)
        have qL : gL H3 := by subst hH3; exact gD.fin (k := k) (by omega) (by omega)
        have g6 : H3.1 11 56 0 = to := by subst hH3; rfl
        have g7 : H3.1 11 12 0 = H.1 11 12 0 := by subst hH3; rfl
        clear hH3
        exact J.retv rfl rfl rfl ⟨_, rfl, rfl, hT4, hE5, (show gL H3 by exact qL), rfl⟩
      · have c8 : ¬ (H.1 11 56 0 ≤ k) := hc
        clear hc
        have f9 : 0 ≤ H.2.2.1 104 0 (k) ∧ H.2.2.1 104 0 (k) ≤ 304 := hT.1 104 (k)
        refine J.run 5 rfl (show 0 ≤ k ∧ k < 33 from ⟨by omega, by omega⟩) ?_
        try dsimp only
        refine J.icmp rfl rfl rfl ⟨(show -2147483648 ≤ H.2.2.1 104 0 (k) ∧ H.2.2.1 104 0 (k) ≤ 2147483647 from ⟨by omega, by omega⟩), (show -2147483648 ≤ h ∧ h ≤ 2147483647 from ⟨by omega, by omega⟩)⟩ (fun hc => ?_) (fun hc => ?_)
        · have c10 : h < H.2.2.1 104 0 (k) := hc
          clear hc
          have f11 : 0 ≤ H.2.2.1 102 0 (k) ∧ H.2.2.1 102 0 (k) ≤ 199 := hT.1 102 (k)
          refine J.run 8 rfl ⟨(show 0 ≤ k ∧ k < 33 from ⟨by omega, by omega⟩), (show 0 ≤ to ∧ to < 33 from ⟨by omega, by omega⟩)⟩ ?_
          try dsimp only
          refine J.gn fun H12 hH12 => ?_
          have hT13 : gT H12 := by rw [hH12]; exact gT.upd hT (show 0 ≤ H.2.2.1 102 0 (k) ∧ H.2.2.1 102 0 (k) ≤ 199 from ⟨by omega, by omega⟩) (fun z => absurd z (by decide))
          have hE14 : jEx [56] [99, 102, 103, 104] H12 H0 := by rw [hH12]; exact jEx.row hE (by decide)
          have qD1 : gD H12 (to) (k) = gD H (to) (k) := by subst hH12; rfl
          have g15 : H12.2.2.1 102 0 (to) = H.2.2.1 102 0 (k) := by subst hH12; exact if_pos rfl
          have g16 : H12.1 11 12 0 = H.1 11 12 0 := by subst hH12; rfl
          have g17 : H12.1 11 56 0 = H.1 11 56 0 := by subst hH12; rfl
          have g18 : H12.2.2.1 104 0 (k) = H.2.2.1 104 0 (k) := by subst hH12; rfl
          have g19 : (k = to → H12.2.2.1 102 0 (k) = H.2.2.1 102 0 (k)) ∧ (¬ k = to → H12.2.2.1 102 0 (k) = H.2.2.1 102 0 (k)) := by subst hH12; exact ⟨fun z => if_pos z, fun z => if_neg z⟩
          clear hH12
          have f20 : 0 ≤ H12.2.2.1 103 0 (k) ∧ H12.2.2.1 103 0 (k) ≤ 201600 := hT13.1 103 (k)
          refine J.run 8 rfl ⟨(show 0 ≤ k ∧ k < 33 from ⟨by omega, by omega⟩), (show 0 ≤ to ∧ to < 33 from ⟨by omega, by omega⟩)⟩ ?_
          try dsimp only
          refine J.gn fun H21 hH21 => ?_
          have hT22 : gT H21 := by rw [hH21]; exact gT.upd hT13 (show 0 ≤ H12.2.2.1 103 0 (k) ∧ H12.2.2.1 103 0 (k) ≤ 201600 from ⟨by omega, by omega⟩) (fun z => absurd z (by decide))
          have hE23 : jEx [56] [99, 102, 103, 104] H21 H0 := by rw [hH21]; exact jEx.row hE14 (by decide)
          have qD2 : gD H21 (to + 1) (k + 1) = gD H12 (to) (k) := by subst hH21; exact gD.b ⟨by omega, by omega⟩ (by omega) rfl
          have g24 : H21.2.2.1 103 0 (to) = H12.2.2.1 103 0 (k) := by subst hH21; exact if_pos rfl
          have g25 : H21.1 11 12 0 = H12.1 11 12 0 := by subst hH21; rfl
          have g26 : H21.1 11 56 0 = H12.1 11 56 0 := by subst hH21; rfl
          have g27 : H21.2.2.1 102 0 (to) = H12.2.2.1 102 0 (to) := by subst hH21; rfl
          have g28 : H21.2.2.1 104 0 (k) = H12.2.2.1 104 0 (k) := by subst hH21; rfl
          have g29 : H21.2.2.1 102 0 (k) = H12.2.2.1 102 0 (k) := by subst hH21; rfl
          have g30 : (k = to → H21.2.2.1 103 0 (k) = H12.2.2.1 103 0 (k)) ∧ (¬ k = to → H21.2.2.1 103 0 (k) = H12.2.2.1 103 0 (k)) := by subst hH21; exact ⟨fun z => if_pos z, fun z => if_neg z⟩
          clear hH21
          refine J.run 8 rfl ⟨(show 0 ≤ k ∧ k < 33 from ⟨by omega, by omega⟩), (show 0 ≤ to ∧ to < 33 from ⟨by omega, by omega⟩)⟩ ?_
          try dsimp only
          refine J.gn fun H31 hH31 => ?_
          have hT32 : gT H31 := by rw [hH31]; exact gT.upd hT22 (show 0 ≤ H21.2.2.1 104 0 (k) ∧ H21.2.2.1 104 0 (k) ≤ 304 from ⟨by omega, by omega⟩) (fun z => absurd z (by decide))
          have hE33 : jEx [56] [99, 102, 103, 104] H31 H0 := by rw [hH31]; exact jEx.row hE23 (by decide)
          have qD3 : gD H31 (to + 1) (k + 1) = gD H21 (to + 1) (k + 1) := by subst hH31; rfl
          have g34 : H31.2.2.1 104 0 (to) = H21.2.2.1 104 0 (k) := by subst hH31; exact if_pos rfl
          have g35 : H31.1 11 12 0 = H21.1 11 12 0 := by subst hH31; rfl
          have g36 : H31.1 11 56 0 = H21.1 11 56 0 := by subst hH31; rfl
          have g37 : H31.2.2.1 103 0 (to) = H21.2.2.1 103 0 (to) := by subst hH31; rfl
          have g38 : H31.2.2.1 102 0 (to) = H21.2.2.1 102 0 (to) := by subst hH31; rfl
          have g39 : (k = to → H31.2.2.1 104 0 (k) = H21.2.2.1 104 0 (k)) ∧ (¬ k = to → H31.2.2.1 104 0 (k) = H21.2.2.1 104 0 (k)) := by subst hH31; exact ⟨fun z => if_pos z, fun z => if_neg z⟩
          have g40 : H31.2.2.1 102 0 (k) = H21.2.2.1 102 0 (k) := by subst hH31; rfl
          have g41 : H31.2.2.1 103 0 (k) = H21.2.2.1 103 0 (k) := by subst hH31; rfl
          clear hH31
          refine J.run0 3 rfl ?_
          try dsimp only
          exact ih (to + 1) (k + 1) H31 _ (show 32 - (k + 1) < _ by omega) (show 0 ≤ (to + 1) ∧ (to + 1) ≤ (k + 1) from ⟨by omega, by omega⟩) (show (k + 1) ≤ H31.1 11 56 0 from by omega) (show H31.1 11 56 0 = H0.1 11 56 0 from by omega) (show H31.1 11 56 0 ≤ 32 from by omega) (show gD H31 ((to + 1)) ((k + 1)) = 201600 from by omega) hT32 hE33  rfl
        · have c42 : ¬ (h < H.2.2.1 104 0 (k)) := hc
          clear hc
          have f43 : 0 ≤ H.2.2.1 102 0 (k) ∧ H.2.2.1 102 0 (k) ≤ 199 := hT.1 102 (k)
          have f44 : 0 ≤ H.2.2.1 99 0 (H.2.2.1 102 0 (k)) ∧ H.2.2.1 99 0 (H.2.2.1 102 0 (k)) ≤ 201600 := hT.1 99 (H.2.2.1 102 0 (k))
          have f45 : 0 ≤ H.2.2.1 103 0 (k) ∧ H.2.2.1 103 0 (k) ≤ 201600 := hT.1 103 (k)
          refine J.run 13 rfl ⟨(show 0 ≤ k ∧ k < 33 from ⟨by omega, by omega⟩), (show 0 ≤ H.2.2.1 102 0 (k) ∧ H.2.2.1 102 0 (k) < 200 from ⟨by omega, by omega⟩), (show 0 ≤ k ∧ k < 33 from ⟨by omega, by omega⟩)⟩ ?_
          try dsimp only
          have hq : (H.2.2.1 99 0 (H.2.2.1 102 0 (k))) + (H.2.2.1 103 0 (k)) ≤ gD H (to) (k) := gD.le hT ⟨by omega, by omega⟩ ⟨by omega, by omega⟩
          refine J.run 1 rfl (show 0 ≤ H.2.2.1 102 0 (k) ∧ H.2.2.1 102 0 (k) < 200 from ⟨by omega, by omega⟩) ?_
          try dsimp only
          refine J.gn fun H46 hH46 => ?_
          have hT47 : gT H46 := by rw [hH46]; exact gT.upd hT (show 0 ≤ (H.2.2.1 99 0 (H.2.2.1 102 0 (k))) + (H.2.2.1 103 0 (k)) ∧ (H.2.2.1 99 0 (H.2.2.1 102 0 (k))) + (H.2.2.1 103 0 (k)) ≤ 201600 from ⟨by omega, by omega⟩) (fun z => absurd z (by decide))
          have hE48 : jEx [56] [99, 102, 103, 104] H46 H0 := by rw [hH46]; exact jEx.row hE (by decide)
          have qD : gD H46 (to) (k + 1) = gD H (to) (k) + ((H.2.2.1 99 0 (H.2.2.1 102 0 (k))) + (H.2.2.1 103 0 (k))) - H.2.2.1 99 0 (H.2.2.1 102 0 (k)) - H.2.2.1 103 0 (k) := by subst hH46; exact gD.a ⟨by omega, by omega⟩ (by omega)
          have g49 : H46.2.2.1 99 0 (H.2.2.1 102 0 (k)) = (H.2.2.1 99 0 (H.2.2.1 102 0 (k))) + (H.2.2.1 103 0 (k)) := by subst hH46; exact if_pos rfl
          have g50 : H46.1 11 12 0 = H.1 11 12 0 := by subst hH46; rfl
          have g51 : H46.1 11 56 0 = H.1 11 56 0 := by subst hH46; rfl
          have g52 : H46.2.2.1 104 0 (k) = H.2.2.1 104 0 (k) := by subst hH46; rfl
          have g53 : H46.2.2.1 102 0 (k) = H.2.2.1 102 0 (k) := by subst hH46; rfl
          have g55 : H46.2.2.1 103 0 (k) = H.2.2.1 103 0 (k) := by subst hH46; rfl
          clear hH46
          refine J.run0 3 rfl ?_
          try dsimp only
          exact ih (to) (k + 1) H46 _ (show 32 - (k + 1) < _ by omega) (show 0 ≤ (to) ∧ (to) ≤ (k + 1) from ⟨by omega, by omega⟩) (show (k + 1) ≤ H46.1 11 56 0 from by omega) (show H46.1 11 56 0 = H0.1 11 56 0 from by omega) (show H46.1 11 56 0 ≤ 32 from by omega) (show gD H46 ((to)) ((k + 1)) = 201600 from by omega) hT47 hE48  rfl
-- 
theorem g_due {h : Int} {H : jH} (hT : gT H) (k0gL : gL H) (hp0 : -2147483648 ≤ h ∧ h ≤ 2147483647) : J true d 118 w (0, jargs 0 [jT, .inl h], [], H) (jN fun v w' H' => w' = w ∧ gT H' ∧ jEx [56] [99, 102, 103, 104] H' H ∧ gL H' ∧ v = none) := by
  have q0 := gD.zero k0gL
  have q1 : 0 ≤ H.1 11 56 0 ∧ H.1 11 56 0 ≤ 32 := hT.2.1 56
  have hE : jEx [56] [99, 102, 103, 104] H H := jEx.refl _ _ _
  refine J.run0 4 rfl ?_
  try dsimp only
  exact (g_due_l0 (H0 := H) (h := h)  hp0 ((32 - ((0 : Int)) : Int).toNat + 1)) ((0 : Int)) ((0 : Int)) H _ (show 32 - ((0 : Int)) < _ by omega) (show 0 ≤ ((0 : Int)) ∧ ((0 : Int)) ≤ ((0 : Int)) from ⟨by omega, by omega⟩) (show ((0 : Int)) ≤ H.1 11 56 0 from by omega) (show H.1 11 56 0 = H.1 11 56 0 from by omega) (show H.1 11 56 0 ≤ 32 from by omega) (show gD H (((0 : Int))) (((0 : Int))) = 201600 from by omega) hT hE  rfl
end
-- M: X11_first
section
variable {d : Nat} {w : jW} 
-- 
theorem g_first_l0 {H0 : jH}  : ∀ (m : Nat), (∀ (i : Int) (H : jH) (lv : jL), 10000 - i < (m : Int) → (0 ≤ i ∧ i ≤ 200) → (∀ j, 0 ≤ j → j < i → H.2.2.1 99 0 j = 1000) → gT H → jEx [56, 57] [99, 100, 101, 105] H H0 → (lv = [(1, .inl i), (0, jT)]) → J true d 115 w (2, lv, [], H) (jN fun v w' H' => w' = w ∧ gT H' ∧ jEx [56, 57] [99, 100, 101, 105] H' H0 ∧ gL H' ∧ v = none)) ∧ (∀ (i : Int) (H : jH) (lv : jL), 5000 - i < (m : Int) → (0 ≤ i ∧ i ≤ 3200) → (∀ j, 0 ≤ j → j < 200 → H.2.2.1 99 0 j = 1000) → (∀ j, 0 ≤ j → j < i → H.2.2.1 100 0 j = 0) → gT H → jEx [56, 57] [99, 100, 101, 105] H H0 → (lv = [(1, .inl i), (0, jT)]) → J true d 115 w (26, lv, [], H) (jN fun v w' H' => w' = w ∧ gT H' ∧ jEx [56, 57] [99, 100, 101, 105] H' H0 ∧ gL H' ∧ v = none)) ∧ (∀ (i : Int) (H : jH) (lv : jL), 16 - i < (m : Int) → (0 ≤ i ∧ i ≤ 16) → (∀ j, 0 ≤ j → j < 200 → H.2.2.1 99 0 j = 1000) → (∀ j, 0 ≤ j → j < 3200 → H.2.2.1 100 0 j = gdg i j) → gT H → jEx [56, 57] [99, 100, 101, 105] H H0 → (lv = [(1, .inl i), (0, jT)]) → J true d 115 w (48, lv, [], H) (jN fun v w' H' => w' = w ∧ gT H' ∧ jEx [56, 57] [99, 100, 101, 105] H' H0 ∧ gL H' ∧ v = none)) := by
  intro m
  induction m with
  | zero =>
    refine ⟨?_, ?_, ?_⟩
    · intro i H lv hm hi0 hi1 hT hE hlv
      exfalso
      omega
    · intro i H lv hm hi0 hi1 hi2 hT hE hlv
      exfalso
      omega
    · intro i H lv hm hi0 hi1 hi2 hT hE hlv
      exfalso
      omega
  | succ m ih =>
    refine ⟨?_, ?_, ?_⟩
    · intro i H lv hm hi0 hi1 hT hE hlv
      rcases hlv with rfl
      refine J.run0 2 rfl ?_
      try dsimp only
      refine J.icmp rfl rfl rfl ⟨(show -2147483648 ≤ i ∧ i ≤ 2147483647 from ⟨by omega, by omega⟩), (show -2147483648 ≤ (200 : Int) ∧ (200 : Int) ≤ 2147483647 from ⟨by omega, by omega⟩)⟩ (fun hc => ?_) (fun hc => ?_)
      · have c1 : (200 : Int) ≤ i := hc
        clear hc
        refine J.run0 2 rfl ?_
        try dsimp only
        exact ih.2.1 ((0 : Int)) H _ (show 5000 - ((0 : Int)) < _ by omega) (show 0 ≤ ((0 : Int)) ∧ ((0 : Int)) ≤ 3200 from ⟨by omega, by omega⟩) (show ∀ j, 0 ≤ j → j < 200 → H.2.2.1 99 0 j = 1000 from (by first | (rw [rC]; exact hi1) | exact (fun j h1 h2 => hi1 j h1 (by omega)))) (show ∀ j, 0 ≤ j → j < ((0 : Int)) → H.2.2.1 100 0 j = 0 from (by first | exact (fun j h1 h2 => absurd h2 (by omega)) | (rw [rO]; exact gfill hi2))) hT hE  rfl
      · have c2 : ¬ ((200 : Int) ≤ i) := hc
        clear hc
        refine J.run 5 rfl (show 0 ≤ i ∧ i < 200 from ⟨by omega, by omega⟩) ?_
        try dsimp only
        refine J.gn fun H3 hH3 => ?_
        have hT4 : gT H3 := by rw [hH3]; exact gT.upd hT (show 0 ≤ (1000 : Int) ∧ (1000 : Int) ≤ 201600 from ⟨by omega, by omega⟩) (fun z => absurd z (by decide))
        have hE5 : jEx [56, 57] [99, 100, 101, 105] H3 H0 := by rw [hH3]; exact jEx.row hE (by decide)
        have rB : H3.2.2.1 99 0 = jup (H.2.2.1 99 0) (i) ((1000 : Int)) := by subst hH3; first | rfl | (dsimp only; exact jsetR_eq)
        have g6 : H3.2.2.1 99 0 (i) = (1000 : Int) := by subst hH3; exact if_pos rfl
        have g7 : H3.1 11 12 0 = H.1 11 12 0 := by subst hH3; rfl
        clear hH3
        refine J.run0 2 rfl ?_
        try dsimp only
        exact ih.1 (i + 1) H3 _ (show 10000 - (i + 1) < _ by omega) (show 0 ≤ (i + 1) ∧ (i + 1) ≤ 200 from ⟨by omega, by omega⟩) (show ∀ j, 0 ≤ j → j < (i + 1) → H3.2.2.1 99 0 j = 1000 from (by first | exact (fun j h1 h2 => absurd h2 (by omega)) | (rw [rB]; exact gfill hi1))) hT4 hE5  rfl
    · intro i H lv hm hi0 hi1 hi2 hT hE hlv
      rcases hlv with rfl
      refine J.run0 2 rfl ?_
      try dsimp only
      refine J.icmp rfl rfl rfl ⟨(show -2147483648 ≤ i ∧ i ≤ 2147483647 from ⟨by omega, by omega⟩), (show -2147483648 ≤ (3200 : Int) ∧ (3200 : Int) ≤ 2147483647 from ⟨by omega, by omega⟩)⟩ (fun hc => ?_) (fun hc => ?_)
      · have c8 : (3200 : Int) ≤ i := hc
        clear hc
        refine J.run0 2 rfl ?_
        try dsimp only
        exact ih.2.2 ((0 : Int)) H _ (show 16 - ((0 : Int)) < _ by omega) (show 0 ≤ ((0 : Int)) ∧ ((0 : Int)) ≤ 16 from ⟨by omega, by omega⟩) (show ∀ j, 0 ≤ j → j < 200 → H.2.2.1 99 0 j = 1000 from (by first | (rw [rJ.1, rP.1, rC]; exact hi1) | exact hi1)) (show ∀ j, 0 ≤ j → j < 3200 → H.2.2.1 100 0 j = gdg ((0 : Int)) j from (by first | (rw [rJ.2, rP.2, rO]; exact gdiag ⟨by omega, by omega⟩ hi2) | exact (fun j h1 h2 => (hi2 j h1 (by omega)).trans (by unfold gdg; rw [if_neg (by omega)])))) hT hE  rfl
      · have c9 : ¬ ((3200 : Int) ≤ i) := hc
        clear hc
        refine J.run 5 rfl (show 0 ≤ i ∧ i < 3200 from ⟨by omega, by omega⟩) ?_
        try dsimp only
        refine J.gn fun H10 hH10 => ?_
        have hT11 : gT H10 := by rw [hH10]; exact gT.upd hT (show 0 ≤ (0 : Int) ∧ (0 : Int) ≤ 201600 from ⟨by omega, by omega⟩) (fun z => absurd z (by decide))
        have hE12 : jEx [56, 57] [99, 100, 101, 105] H10 H0 := by rw [hH10]; exact jEx.row hE (by decide)
        have rO : H10.2.2.1 100 0 = jup (H.2.2.1 100 0) (i) ((0 : Int)) := by subst hH10; first | rfl | (dsimp only; exact jsetR_eq)
        have rC : H10.2.2.1 99 0 = H.2.2.1 99 0 := by subst hH10; rfl
        have g13 : H10.2.2.1 100 0 (i) = (0 : Int) := by subst hH10; exact if_pos rfl
        have g14 : H10.1 11 12 0 = H.1 11 12 0 := by subst hH10; rfl
        clear hH10
        refine J.run0 2 rfl ?_
        try dsimp only
        exact ih.2.1 (i + 1) H10 _ (show 5000 - (i + 1) < _ by omega) (show 0 ≤ (i + 1) ∧ (i + 1) ≤ 3200 from ⟨by omega, by omega⟩) (show ∀ j, 0 ≤ j → j < 200 → H10.2.2.1 99 0 j = 1000 from (by first | (rw [rC]; exact hi1) | exact (fun j h1 h2 => hi1 j h1 (by omega)))) (show ∀ j, 0 ≤ j → j < (i + 1) → H10.2.2.1 100 0 j = 0 from (by first | exact (fun j h1 h2 => absurd h2 (by omega)) | (rw [rO]; exact gfill hi2))) hT11 hE12  rfl
    · intro i H lv hm hi0 hi1 hi2 hT hE hlv
      rcases hlv with rfl
      refine J.run0 2 rfl ?_
      try dsimp only
      refine J.icmp rfl rfl rfl ⟨(show -2147483648 ≤ i ∧ i ≤ 2147483647 from ⟨by omega, by omega⟩), (show -2147483648 ≤ (16 : Int) ∧ (16 : Int) ≤ 2147483647 from ⟨by omega, by omega⟩)⟩ (fun hc => ?_) (fun hc => ?_)
      · have c15 : (16 : Int) ≤ i := hc
        clear hc
        refine J.run0 3 rfl ?_
        try dsimp only
        refine J.gn fun H16 hH16 => ?_
        have hT17 : gT H16 := by rw [hH16]; exact gT.num (f := 56) hT (show 0 ≤ (0 : Int) ∧ (0 : Int) ≤ 32 from ⟨by omega, by omega⟩) (by decide) (fun z => absurd z (by decide))
        have hE18 : jEx [56, 57] [99, 100, 101, 105] H16 H0 := by rw [hH16]; exact jEx.num hE (by decide)
        have rR : H16.2.2.1 99 0 = H.2.2.1 99 0 ∧ H16.2.2.1 100 0 = H.2.2.1 100 0 := by subst hH16; exact ⟨rfl, rfl⟩
        have g19 : H16.1 11 56 0 = (0 : Int) := by subst hH16; rfl
        have g20 : H16.1 11 12 0 = H.1 11 12 0 := by subst hH16; rfl
        clear hH16
        refine J.run0 3 rfl ?_
        try dsimp only
        refine J.gn fun H21 hH21 => ?_
        have hT22 : gT H21 := by rw [hH21]; exact gT.num (f := 57) hT17 (show 0 ≤ (0 : Int) ∧ (0 : Int) ≤ 201600 from ⟨by omega, by omega⟩) (by decide) (fun z => absurd z (by decide))
        have hE23 : jEx [56, 57] [99, 100, 101, 105] H21 H0 := by rw [hH21]; exact jEx.num hE18 (by decide)
        have qL : gL H21 := by subst hH21; exact gFirst (by rw [rR.1]; exact hi1) (by rw [rR.2]; exact (fun j h1 h2 => (hi2 j h1 h2).trans (by rw [show i = 16 by omega]))) (by omega)
        have g24 : H21.1 11 57 0 = (0 : Int) := by subst hH21; rfl
        have g25 : H21.1 11 12 0 = H16.1 11 12 0 := by subst hH21; rfl
        clear hH21
        exact J.retv rfl rfl rfl ⟨_, rfl, rfl, hT22, hE23, (show gL H21 by exact qL), rfl⟩
      · have c26 : ¬ ((16 : Int) ≤ i) := hc
        clear hc
        refine J.run 9 rfl (show 0 ≤ ((16 : Int) * i) + i ∧ ((16 : Int) * i) + i < 3200 from ⟨by omega, by omega⟩) ?_
        try dsimp only
        refine J.gn fun H27 hH27 => ?_
        have hT28 : gT H27 := by rw [hH27]; exact gT.upd hT (show 0 ≤ (100 : Int) ∧ (100 : Int) ≤ 201600 from ⟨by omega, by omega⟩) (fun z => absurd z (by decide))
        have hE29 : jEx [56, 57] [99, 100, 101, 105] H27 H0 := by rw [hH27]; exact jEx.row hE (by decide)
        have rO : H27.2.2.1 100 0 = jup (H.2.2.1 100 0) (((16 : Int) * i) + i) ((100 : Int)) := by subst hH27; first | rfl | (dsimp only; exact jsetR_eq)
        have rC : H27.2.2.1 99 0 = H.2.2.1 99 0 := by subst hH27; rfl
        have g30 : H27.2.2.1 100 0 (((16 : Int) * i) + i) = (100 : Int) := by subst hH27; exact if_pos rfl
        have g31 : H27.1 11 12 0 = H.1 11 12 0 := by subst hH27; rfl
        clear hH27
        refine J.run 5 rfl (show 0 ≤ i ∧ i < 16 from ⟨by omega, by omega⟩) ?_
        try dsimp only
        refine J.gn fun H32 hH32 => ?_
        have hT33 : gT H32 := by rw [hH32]; exact gT.upd hT28 (show 0 ≤ (0 : Int) ∧ (0 : Int) ≤ 301 from ⟨by omega, by omega⟩) (fun z => absurd z (by decide))
        have hE34 : jEx [56, 57] [99, 100, 101, 105] H32 H0 := by rw [hH32]; exact jEx.row hE29 (by decide)
        have rP : H32.2.2.1 99 0 = H27.2.2.1 99 0 ∧ H32.2.2.1 100 0 = H27.2.2.1 100 0 := by subst hH32; exact ⟨rfl, rfl⟩
        have g35 : H32.2.2.1 101 0 (i) = (0 : Int) := by subst hH32; exact if_pos rfl
        have g36 : H32.1 11 12 0 = H27.1 11 12 0 := by subst hH32; rfl
        have g37 : H32.2.2.1 100 0 (((16 : Int) * i) + i) = H27.2.2.1 100 0 (((16 : Int) * i) + i) := by subst hH32; rfl
        clear hH32
        refine J.run 5 rfl (show ((0 : Int) = 0 ∨ (0 : Int) = 1) ∧ 0 ≤ i ∧ i < 16 from ⟨by omega, by omega, by omega⟩) ?_
        try dsimp only
        refine J.gn fun H38 hH38 => ?_
        have hT39 : gT H38 := by rw [hH38]; exact gT.upd hT33 (show 0 ≤ (0 : Int) ∧ (0 : Int) ≤ 1 from ⟨by omega, by omega⟩) (fun z => absurd z (by decide))
        have hE40 : jEx [56, 57] [99, 100, 101, 105] H38 H0 := by rw [hH38]; exact jEx.row hE34 (by decide)
        have rJ : H38.2.2.1 99 0 = H32.2.2.1 99 0 ∧ H38.2.2.1 100 0 = H32.2.2.1 100 0 := by subst hH38; exact ⟨rfl, rfl⟩
        have g41 : H38.2.2.1 105 0 (i) = (0 : Int) := by subst hH38; exact if_pos rfl
        have g42 : H38.1 11 12 0 = H32.1 11 12 0 := by subst hH38; rfl
        have g43 : H38.2.2.1 101 0 (i) = H32.2.2.1 101 0 (i) := by subst hH38; rfl
        have g44 : H38.2.2.1 100 0 (((16 : Int) * i) + i) = H32.2.2.1 100 0 (((16 : Int) * i) + i) := by subst hH38; rfl
        clear hH38
        refine J.run0 2 rfl ?_
        try dsimp only
        exact ih.2.2 (i + 1) H38 _ (show 16 - (i + 1) < _ by omega) (show 0 ≤ (i + 1) ∧ (i + 1) ≤ 16 from ⟨by omega, by omega⟩) (show ∀ j, 0 ≤ j → j < 200 → H38.2.2.1 99 0 j = 1000 from (by first | (rw [rJ.1, rP.1, rC]; exact hi1) | exact hi1)) (show ∀ j, 0 ≤ j → j < 3200 → H38.2.2.1 100 0 j = gdg (i + 1) j from (by first | (rw [rJ.2, rP.2, rO]; exact gdiag ⟨by omega, by omega⟩ hi2) | exact (fun j h1 h2 => (hi2 j h1 (by omega)).trans (by unfold gdg; rw [if_neg (by omega)])))) hT39 hE40  rfl
-- 
theorem g_first {H : jH} (hT : gT H) (k0gL : gL H)  : J true d 115 w (0, jargs 0 [jT], [], H) (jN fun v w' H' => w' = w ∧ gT H' ∧ jEx [56, 57] [99, 100, 101, 105] H' H ∧ gL H' ∧ v = none) := by
  have hE : jEx [56, 57] [99, 100, 101, 105] H H := jEx.refl _ _ _
  refine J.run0 2 rfl ?_
  try dsimp only
  exact (g_first_l0 (H0 := H)    ((10000 - ((0 : Int)) : Int).toNat + 1)).1 ((0 : Int)) H _ (show 10000 - ((0 : Int)) < _ by omega) (show 0 ≤ ((0 : Int)) ∧ ((0 : Int)) ≤ 200 from ⟨by omega, by omega⟩) (show ∀ j, 0 ≤ j → j < ((0 : Int)) → H.2.2.1 99 0 j = 1000 from (by first | exact (fun j h1 h2 => absurd h2 (by omega)) | (rw [rB]; exact gfill hi1))) hT hE  rfl
end
-- M: X11_state
section
variable {d : Nat} {w : jW} 
-- 
theorem g_state_l0 {b : Int} {H0 : jH} (hp0 : 0 ≤ b ∧ b < 300) (hp1 : b < H0.1 11 12 0) : ∀ (m : Nat), (∀ (n k : Int) (H : jH) (lv : jL), 100 * (k + 1) < (m : Int) → (-1 ≤ k ∧ k < n ∧ n ≤ 299) → (∀ j, 0 ≤ j → j < n → 1 ≤ H.2.2.1 108 0 j) → (b < H.1 11 12 0) → gT H → jEx [48, 56, 57] [108, 99, 100, 101, 105, 102, 103, 104] H H0 → gP H → gX H → gL H → (lv = [(3, .inl k), (2, .inl n), (0, jT), (1, .inl b)] ∨ (∃ j4 : Int, lv = [(3, .inl k), (4, .inl j4), (2, .inl n), (0, jT), (1, .inl b)])) → J true (d + 2) 116 w (45, lv, [], H) (jN fun v w' H' => w' = w ∧ gT H' ∧ jEx [48, 56, 57] [108, 99, 100, 101, 105, 102, 103, 104] H' H0 ∧ gP H' ∧ gX H' ∧ gL H' ∧ v = none)) ∧ (∀ (n k i : Int) (H : jH) (lv : jL), 100 * (k + 1) - 1 - i < (m : Int) → (0 ≤ k ∧ k < n ∧ n ≤ 299) → (∀ j, 0 ≤ j → j < n → 1 ≤ H.2.2.1 108 0 j) → (0 ≤ i ∧ i ≤ 12) → (b < H.1 11 12 0) → gT H → jEx [48, 56, 57] [108, 99, 100, 101, 105, 102, 103, 104] H H0 → gP H → gX H → gL H → (lv = [(4, .inl i), (3, .inl k), (2, .inl n), (0, jT), (1, .inl b)]) → J true (d + 2) 116 w (67, lv, [], H) (jN fun v w' H' => w' = w ∧ gT H' ∧ jEx [48, 56, 57] [108, 99, 100, 101, 105, 102, 103, 104] H' H0 ∧ gP H' ∧ gX H' ∧ gL H' ∧ v = none)) := by
  intro m
  induction m with
  | zero =>
    refine ⟨?_, ?_⟩
    · intro n k H lv hm hi0 hi1 hi2 hT hE k0gP k0gX k0gL hlv
      exfalso
      omega
    · intro n k i H lv hm hi0 hi1 hi2 hi3 hT hE k0gP k0gX k0gL hlv
      exfalso
      omega
  | succ m ih =>
    refine ⟨?_, ?_⟩
    · intro n k H lv hm hi0 hi1 hi2 hT hE k0gP k0gX k0gL hlv
      rcases hlv with rfl | ⟨j4, rfl⟩
      · skip
        refine J.run0 1 rfl ?_
        try dsimp only
        refine J.ifc rfl rfl rfl (show -2147483648 ≤ k ∧ k ≤ 2147483647 from ⟨by omega, by omega⟩) (fun hc => ?_) (fun hc => ?_)
        · have c1 : k < (0 : Int) := hc
          clear hc
          refine J.run0 3 rfl ?_
          try dsimp only
          refine J.gn fun H2 hH2 => ?_
          have hT3 : gT H2 := by rw [hH2]; exact gT.num (f := 48) hT (show -1 ≤ b ∧ b ≤ 299 from ⟨by omega, by omega⟩) (by decide) (fun _ => show b < H.1 11 12 0 by omega)
          have hE4 : jEx [48, 56, 57] [108, 99, 100, 101, 105, 102, 103, 104] H2 H0 := by rw [hH2]; exact jEx.num hE (by decide)
          have k5 : gP H2 := by rw [hH2]; exact k0gP
          have k6 : gX H2 := by rw [hH2]; exact k0gX
          have k7 : gL H2 := by rw [hH2]; exact k0gL
          have g8 : H2.1 11 48 0 = b := by subst hH2; rfl
          have g9 : H2.1 11 12 0 = H.1 11 12 0 := by subst hH2; rfl
          clear hH2
          exact J.retv rfl rfl rfl ⟨_, rfl, rfl, hT3, hE4, k5, k6, k7, rfl⟩
        · have c10 : ¬ (k < (0 : Int)) := hc
          clear hc
          have hpk : 1 ≤ H.2.2.1 108 0 (k) := hi1 _ (by omega) (by omega)
          have f11 : 0 ≤ H.2.2.1 108 0 (k) ∧ H.2.2.1 108 0 (k) ≤ 299 := hT.1 108 (k)
          have f12 : 0 ≤ H.2.2.1 56 0 (H.2.2.1 108 0 (k)) ∧ H.2.2.1 56 0 (H.2.2.1 108 0 (k)) ≤ 300 := hT.1 56 (H.2.2.1 108 0 (k))
          have f12gP : 0 ≤ H.2.2.1 108 0 (k) → H.2.2.1 108 0 (k) < 300 → H.2.2.1 56 0 (H.2.2.1 108 0 (k)) ≤ H.2.2.1 108 0 (k) := k0gP.2.2.2.2.1 (H.2.2.1 108 0 (k))
          refine J.run 8 rfl ⟨(show 0 ≤ k ∧ k < 300 from ⟨by omega, by omega⟩), (show 0 ≤ H.2.2.1 108 0 (k) ∧ H.2.2.1 108 0 (k) < 300 from ⟨by omega, by omega⟩)⟩ ?_
          try dsimp only
          refine J.inv rfl rfl rfl rfl rfl rfl jDr rfl rfl rfl rfl rfl (g_due (h := H.2.2.1 56 0 (H.2.2.1 108 0 (k))) hT k0gL (show -2147483648 ≤ (H.2.2.1 56 0 (H.2.2.1 108 0 (k))) ∧ (H.2.2.1 56 0 (H.2.2.1 108 0 (k))) ≤ 2147483647 from ⟨by omega, by omega⟩)) ?_
          rintro v w H15 ⟨rfl, hT16, ehE17, k18, rfl⟩
          have hE17 := jEx.trans ehE17 hE (by decide) (by decide)
          have k19 : gP H15 := gP.ex k0gP ehE17 (by decide)
          have k20 : gX H15 := gX.ex k0gX ehE17 (by decide)
          have g21 : H15.1 11 12 0 = H.1 11 12 0 := ehE17.v 12 (by decide)
          have rF : H15.2.2.1 108 0 = H.2.2.1 108 0 := ehE17.r 108 (by decide)
          have g22 : H15.2.2.1 108 0 (k) = H.2.2.1 108 0 (k) := congrFun (ehE17.r 108 (by decide)) _
          have g23 : H15.2.2.1 56 0 (H.2.2.1 108 0 (k)) = H.2.2.1 56 0 (H.2.2.1 108 0 (k)) := congrFun (ehE17.r 56 (by decide)) _
          try dsimp only [Option.toList, List.append, List.cons_append, List.nil_append]
          refine J.run0 2 rfl ?_
          try dsimp only
          exact ih.2 (n) (k) ((0 : Int)) H15 _ (show 100 * ((k) + 1) - 1 - ((0 : Int)) < _ by omega) (show 0 ≤ (k) ∧ (k) < (n) ∧ (n) ≤ 299 from ⟨by omega, by omega, by omega⟩) (show ∀ j, 0 ≤ j → j < (n) → 1 ≤ H15.2.2.1 108 0 j from (by first | exact (fun j h1 h2 => absurd h2 (by omega)) | (rw [rA]; exact gpth hi1 (by omega)) | (rw [rF]; exact hi1) | exact hi1)) (show 0 ≤ ((0 : Int)) ∧ ((0 : Int)) ≤ 12 from ⟨by omega, by omega⟩) (show b < H15.1 11 12 0 from by omega) hT16 hE17 k19 k20 k18 rfl
      · skip
        refine J.run0 1 rfl ?_
        try dsimp only
        refine J.ifc rfl rfl rfl (show -2147483648 ≤ k ∧ k ≤ 2147483647 from ⟨by omega, by omega⟩) (fun hc => ?_) (fun hc => ?_)
        · have c24 : k < (0 : Int) := hc
          clear hc
          refine J.run0 3 rfl ?_
          try dsimp only
          refine J.gn fun H25 hH25 => ?_
          have hT26 : gT H25 := by rw [hH25]; exact gT.num (f := 48) hT (show -1 ≤ b ∧ b ≤ 299 from ⟨by omega, by omega⟩) (by decide) (fun _ => show b < H.1 11 12 0 by omega)
          have hE27 : jEx [48, 56, 57] [108, 99, 100, 101, 105, 102, 103, 104] H25 H0 := by rw [hH25]; exact jEx.num hE (by decide)
          have k28 : gP H25 := by rw [hH25]; exact k0gP
          have k29 : gX H25 := by rw [hH25]; exact k0gX
          have k30 : gL H25 := by rw [hH25]; exact k0gL
          have g31 : H25.1 11 48 0 = b := by subst hH25; rfl
          have g32 : H25.1 11 12 0 = H.1 11 12 0 := by subst hH25; rfl
          clear hH25
          exact J.retv rfl rfl rfl ⟨_, rfl, rfl, hT26, hE27, k28, k29, k30, rfl⟩
        · have c33 : ¬ (k < (0 : Int)) := hc
          clear hc
          have hpk : 1 ≤ H.2.2.1 108 0 (k) := hi1 _ (by omega) (by omega)
          have f34 : 0 ≤ H.2.2.1 108 0 (k) ∧ H.2.2.1 108 0 (k) ≤ 299 := hT.1 108 (k)
          have f35 : 0 ≤ H.2.2.1 56 0 (H.2.2.1 108 0 (k)) ∧ H.2.2.1 56 0 (H.2.2.1 108 0 (k)) ≤ 300 := hT.1 56 (H.2.2.1 108 0 (k))
          have f35gP : 0 ≤ H.2.2.1 108 0 (k) → H.2.2.1 108 0 (k) < 300 → H.2.2.1 56 0 (H.2.2.1 108 0 (k)) ≤ H.2.2.1 108 0 (k) := k0gP.2.2.2.2.1 (H.2.2.1 108 0 (k))
          refine J.run 8 rfl ⟨(show 0 ≤ k ∧ k < 300 from ⟨by omega, by omega⟩), (show 0 ≤ H.2.2.1 108 0 (k) ∧ H.2.2.1 108 0 (k) < 300 from ⟨by omega, by omega⟩)⟩ ?_
          try dsimp only
          refine J.inv rfl rfl rfl rfl rfl rfl jDr rfl rfl rfl rfl rfl (g_due (h := H.2.2.1 56 0 (H.2.2.1 108 0 (k))) hT k0gL (show -2147483648 ≤ (H.2.2.1 56 0 (H.2.2.1 108 0 (k))) ∧ (H.2.2.1 56 0 (H.2.2.1 108 0 (k))) ≤ 2147483647 from ⟨by omega, by omega⟩)) ?_
          rintro v w H38 ⟨rfl, hT39, ehE40, k41, rfl⟩
          have hE40 := jEx.trans ehE40 hE (by decide) (by decide)
          have k42 : gP H38 := gP.ex k0gP ehE40 (by decide)
          have k43 : gX H38 := gX.ex k0gX ehE40 (by decide)
          have g44 : H38.1 11 12 0 = H.1 11 12 0 := ehE40.v 12 (by decide)
          have rF : H38.2.2.1 108 0 = H.2.2.1 108 0 := ehE40.r 108 (by decide)
          have g45 : H38.2.2.1 108 0 (k) = H.2.2.1 108 0 (k) := congrFun (ehE40.r 108 (by decide)) _
          have g46 : H38.2.2.1 56 0 (H.2.2.1 108 0 (k)) = H.2.2.1 56 0 (H.2.2.1 108 0 (k)) := congrFun (ehE40.r 56 (by decide)) _
          try dsimp only [Option.toList, List.append, List.cons_append, List.nil_append]
          refine J.run0 2 rfl ?_
          try dsimp only
          exact ih.2 (n) (k) ((0 : Int)) H38 _ (show 100 * ((k) + 1) - 1 - ((0 : Int)) < _ by omega) (show 0 ≤ (k) ∧ (k) < (n) ∧ (n) ≤ 299 from ⟨by omega, by omega, by omega⟩) (show ∀ j, 0 ≤ j → j < (n) → 1 ≤ H38.2.2.1 108 0 j from (by first | exact (fun j h1 h2 => absurd h2 (by omega)) | (rw [rA]; exact gpth hi1 (by omega)) | (rw [rF]; exact hi1) | exact hi1)) (show 0 ≤ ((0 : Int)) ∧ ((0 : Int)) ≤ 12 from ⟨by omega, by omega⟩) (show b < H38.1 11 12 0 from by omega) hT39 hE40 k42 k43 k41 rfl
    · intro n k i H lv hm hi0 hi1 hi2 hi3 hT hE k0gP k0gX k0gL hlv
      rcases hlv with rfl
      have hpk : 1 ≤ H.2.2.1 108 0 (k) := hi1 _ (by omega) (by omega)
      have f47 : 0 ≤ H.2.2.1 108 0 (k) ∧ H.2.2.1 108 0 (k) ≤ 299 := hT.1 108 (k)
      have f48 : 0 ≤ H.2.2.1 58 0 (H.2.2.1 108 0 (k)) ∧ H.2.2.1 58 0 (H.2.2.1 108 0 (k)) ≤ 12 := hT.1 58 (H.2.2.1 108 0 (k))
      refine J.run 8 rfl ⟨(show 0 ≤ k ∧ k < 300 from ⟨by omega, by omega⟩), (show 0 ≤ H.2.2.1 108 0 (k) ∧ H.2.2.1 108 0 (k) < 300 from ⟨by omega, by omega⟩)⟩ ?_
      try dsimp only
      refine J.icmp rfl rfl rfl ⟨(show -2147483648 ≤ i ∧ i ≤ 2147483647 from ⟨by omega, by omega⟩), (show -2147483648 ≤ H.2.2.1 58 0 (H.2.2.1 108 0 (k)) ∧ H.2.2.1 58 0 (H.2.2.1 108 0 (k)) ≤ 2147483647 from ⟨by omega, by omega⟩)⟩ (fun hc => ?_) (fun hc => ?_)
      · have c49 : H.2.2.1 58 0 (H.2.2.1 108 0 (k)) ≤ i := hc
        clear hc
        refine J.run0 2 rfl ?_
        try dsimp only
        exact ih.1 (n) (k + (-1)) H _ (show 100 * ((k + (-1)) + 1) < _ by omega) (show -1 ≤ (k + (-1)) ∧ (k + (-1)) < (n) ∧ (n) ≤ 299 from ⟨by omega, by omega, by omega⟩) (show ∀ j, 0 ≤ j → j < (n) → 1 ≤ H.2.2.1 108 0 j from (by first | exact (fun j h1 h2 => absurd h2 (by omega)) | (rw [rA]; exact gpth hi1 (by omega)) | (rw [rF]; exact hi1) | exact hi1)) (show b < H.1 11 12 0 from by omega) hT hE k0gP k0gX k0gL (Or.inr (⟨_, rfl⟩))
      · have c50 : ¬ (H.2.2.1 58 0 (H.2.2.1 108 0 (k)) ≤ i) := hc
        clear hc
        have f51 : 0 ≤ H.2.2.1 59 0 (((12 : Int) * (H.2.2.1 108 0 (k))) + i) ∧ H.2.2.1 59 0 (((12 : Int) * (H.2.2.1 108 0 (k))) + i) ≤ 1499 := hT.1 59 (((12 : Int) * (H.2.2.1 108 0 (k))) + i)
        have f52 : -1 ≤ H.2.2.1 57 0 (H.2.2.1 108 0 (k)) ∧ H.2.2.1 57 0 (H.2.2.1 108 0 (k)) ≤ 15 := hT.1 57 (H.2.2.1 108 0 (k))
        have f52gP : 1 ≤ H.2.2.1 108 0 (k) → 0 ≤ H.2.2.1 57 0 (H.2.2.1 108 0 (k)) := k0gP.2.2.2.2.2 (H.2.2.1 108 0 (k))
        have f53 : 0 ≤ H.2.2.1 56 0 (H.2.2.1 108 0 (k)) ∧ H.2.2.1 56 0 (H.2.2.1 108 0 (k)) ≤ 300 := hT.1 56 (H.2.2.1 108 0 (k))
        have f53gP : 0 ≤ H.2.2.1 108 0 (k) → H.2.2.1 108 0 (k) < 300 → H.2.2.1 56 0 (H.2.2.1 108 0 (k)) ≤ H.2.2.1 108 0 (k) := k0gP.2.2.2.2.1 (H.2.2.1 108 0 (k))
        refine J.run 26 rfl ⟨(show 0 ≤ k ∧ k < 300 from ⟨by omega, by omega⟩), (show 0 ≤ ((12 : Int) * (H.2.2.1 108 0 (k))) + i ∧ ((12 : Int) * (H.2.2.1 108 0 (k))) + i < 3600 from ⟨by omega, by omega⟩), (show 0 ≤ k ∧ k < 300 from ⟨by omega, by omega⟩), (show 0 ≤ H.2.2.1 108 0 (k) ∧ H.2.2.1 108 0 (k) < 300 from ⟨by omega, by omega⟩), (show 0 ≤ k ∧ k < 300 from ⟨by omega, by omega⟩), (show 0 ≤ H.2.2.1 108 0 (k) ∧ H.2.2.1 108 0 (k) < 300 from ⟨by omega, by omega⟩)⟩ ?_
        try dsimp only
        refine J.inv rfl rfl rfl rfl rfl rfl jDr rfl rfl rfl rfl rfl (g_isDone (t := H.2.2.1 59 0 (((12 : Int) * (H.2.2.1 108 0 (k))) + i)) (p := H.2.2.1 57 0 (H.2.2.1 108 0 (k))) (h := H.2.2.1 56 0 (H.2.2.1 108 0 (k))) hT k0gX k0gL (show 0 ≤ (H.2.2.1 59 0 (((12 : Int) * (H.2.2.1 108 0 (k))) + i)) ∧ (H.2.2.1 59 0 (((12 : Int) * (H.2.2.1 108 0 (k))) + i)) < 1500 from ⟨by omega, by omega⟩) (show 0 ≤ (H.2.2.1 57 0 (H.2.2.1 108 0 (k))) ∧ (H.2.2.1 57 0 (H.2.2.1 108 0 (k))) < 16 from ⟨by omega, by omega⟩) (show 0 ≤ (H.2.2.1 56 0 (H.2.2.1 108 0 (k))) ∧ (H.2.2.1 56 0 (H.2.2.1 108 0 (k))) ≤ 300 from ⟨by omega, by omega⟩)) ?_
        rintro v w H56 ⟨rfl, hT57, ehE58, k59, k60, x54, rfl, r55⟩
        have hE58 := jEx.trans ehE58 hE (by decide) (by decide)
        have r55' : 0 ≤ x54 ∧ x54 ≤ 1 := r55
        have k61 : gP H56 := gP.ex k0gP ehE58 (by decide)
        have g62 : H56.1 11 12 0 = H.1 11 12 0 := ehE58.v 12 (by decide)
        have rF : H56.2.2.1 108 0 = H.2.2.1 108 0 := ehE58.r 108 (by decide)
        have g63 : H56.2.2.1 108 0 (k) = H.2.2.1 108 0 (k) := congrFun (ehE58.r 108 (by decide)) _
        have g64 : H56.2.2.1 58 0 (H.2.2.1 108 0 (k)) = H.2.2.1 58 0 (H.2.2.1 108 0 (k)) := congrFun (ehE58.r 58 (by decide)) _
        have g65 : H56.2.2.1 59 0 (((12 : Int) * (H.2.2.1 108 0 (k))) + i) = H.2.2.1 59 0 (((12 : Int) * (H.2.2.1 108 0 (k))) + i) := congrFun (ehE58.r 59 (by decide)) _
        have g66 : H56.2.2.1 57 0 (H.2.2.1 108 0 (k)) = H.2.2.1 57 0 (H.2.2.1 108 0 (k)) := congrFun (ehE58.r 57 (by decide)) _
        have g67 : H56.2.2.1 56 0 (H.2.2.1 108 0 (k)) = H.2.2.1 56 0 (H.2.2.1 108 0 (k)) := congrFun (ehE58.r 56 (by decide)) _
        try dsimp only [Option.toList, List.append, List.cons_append, List.nil_append]
        refine J.run0 3 rfl ?_
        try dsimp only
        exact ih.2 (n) (k) (i + 1) H56 _ (show 100 * ((k) + 1) - 1 - (i + 1) < _ by omega) (show 0 ≤ (k) ∧ (k) < (n) ∧ (n) ≤ 299 from ⟨by omega, by omega, by omega⟩) (show ∀ j, 0 ≤ j → j < (n) → 1 ≤ H56.2.2.1 108 0 j from (by first | exact (fun j h1 h2 => absurd h2 (by omega)) | (rw [rA]; exact gpth hi1 (by omega)) | (rw [rF]; exact hi1) | exact hi1)) (show 0 ≤ (i + 1) ∧ (i + 1) ≤ 12 from ⟨by omega, by omega⟩) (show b < H56.1 11 12 0 from by omega) hT57 hE58 k61 k59 k60 rfl
-- 
theorem g_state_l1 {b : Int} {H0 : jH} (hp0 : 0 ≤ b ∧ b < 300) (hp1 : b < H0.1 11 12 0) : ∀ (m : Nat), (∀ (n k : Int) (H : jH) (lv : jL), k < (m : Int) → (0 ≤ n ∧ 0 ≤ k ∧ n + k ≤ 299) → (∀ j, 0 ≤ j → j < n → 1 ≤ H.2.2.1 108 0 j) → (b < H.1 11 12 0) → gT H → jEx [48, 56, 57] [108, 99, 100, 101, 105, 102, 103, 104] H H0 → gP H → gX H → gL H → (lv = [(3, .inl k), (2, .inl n), (0, jT), (1, .inl b)]) → J true (d + 2) 116 w (13, lv, [], H) (jN fun v w' H' => w' = w ∧ gT H' ∧ jEx [48, 56, 57] [108, 99, 100, 101, 105, 102, 103, 104] H' H0 ∧ gP H' ∧ gX H' ∧ gL H' ∧ v = none)) := by
  intro m
  induction m with
  | zero =>
    skip
    · intro n k H lv hm hi0 hi1 hi2 hT hE k0gP k0gX k0gL hlv
      exfalso
      omega
  | succ m ih =>
    skip
    · intro n k H lv hm hi0 hi1 hi2 hT hE k0gP k0gX k0gL hlv
      rcases hlv with rfl
      refine J.run0 1 rfl ?_
      try dsimp only
      refine J.ifc rfl rfl rfl (show -2147483648 ≤ k ∧ k ≤ 2147483647 from ⟨by omega, by omega⟩) (fun hc => ?_) (fun hc => ?_)
      · have c68 : k ≤ (0 : Int) := hc
        clear hc
        refine J.run0 1 rfl ?_
        try dsimp only
        refine J.inv rfl rfl rfl rfl rfl rfl jDr rfl rfl rfl rfl rfl (g_first  hT k0gL ) ?_
        rintro v w H71 ⟨rfl, hT72, ehE73, k74, rfl⟩
        have hE73 := jEx.trans ehE73 hE (by decide) (by decide)
        have k75 : gP H71 := gP.ex k0gP ehE73 (by decide)
        have k76 : gX H71 := gX.ex k0gX ehE73 (by decide)
        have g77 : H71.1 11 12 0 = H.1 11 12 0 := ehE73.v 12 (by decide)
        have rF : H71.2.2.1 108 0 = H.2.2.1 108 0 := ehE73.r 108 (by decide)
        try dsimp only [Option.toList, List.append, List.cons_append, List.nil_append]
        refine J.run0 4 rfl ?_
        try dsimp only
        exact (g_state_l0 (H0 := H0) (b := b)  hp0 hp1 ((100 * ((n - (1 : Int)) + 1) : Int).toNat + 1)).1 (n) (n - (1 : Int)) H71 _ (show 100 * ((n - (1 : Int)) + 1) < _ by omega) (show -1 ≤ (n - (1 : Int)) ∧ (n - (1 : Int)) < (n) ∧ (n) ≤ 299 from ⟨by omega, by omega, by omega⟩) (show ∀ j, 0 ≤ j → j < (n) → 1 ≤ H71.2.2.1 108 0 j from (by first | exact (fun j h1 h2 => absurd h2 (by omega)) | (rw [rA]; exact gpth hi1 (by omega)) | (rw [rF]; exact hi1) | exact hi1)) (show b < H71.1 11 12 0 from by omega) hT72 hE73 k75 k76 k74 (Or.inl rfl)
      · have c78 : ¬ (k ≤ (0 : Int)) := hc
        clear hc
        refine J.run 5 rfl (show 0 ≤ n ∧ n < 300 from ⟨by omega, by omega⟩) ?_
        try dsimp only
        refine J.gn fun H79 hH79 => ?_
        have hT80 : gT H79 := by rw [hH79]; exact gT.upd hT (show 0 ≤ k ∧ k ≤ 299 from ⟨by omega, by omega⟩) (fun z => absurd z (by decide))
        have hE81 : jEx [48, 56, 57] [108, 99, 100, 101, 105, 102, 103, 104] H79 H0 := by rw [hH79]; exact jEx.row hE (by decide)
        have k82 : gP H79 := by rw [hH79]; exact k0gP
        have k83 : gX H79 := by rw [hH79]; exact k0gX
        have k84 : gL H79 := by rw [hH79]; exact k0gL
        have rA : H79.2.2.1 108 0 = jup (H.2.2.1 108 0) (n) (k) := by subst hH79; first | rfl | (dsimp only; exact jsetR_eq)
        have g85 : H79.2.2.1 108 0 (n) = k := by subst hH79; exact if_pos rfl
        have g86 : H79.1 11 12 0 = H.1 11 12 0 := by subst hH79; rfl
        clear hH79
        have f87 : -1 ≤ H79.2.2.1 55 0 (k) ∧ H79.2.2.1 55 0 (k) ≤ 299 := hT80.1 55 (k)
        have f88 : 1 ≤ H79.1 11 12 0 ∧ H79.1 11 12 0 ≤ 300 := hT80.2.1 12
        have f87b : H79.2.2.1 55 0 (k) < H79.1 11 12 0 := hT80.2.2.1 55 (k) rfl
        have f87gP : (k = 0 → H79.2.2.1 55 0 (k) = -1) ∧ (1 ≤ k → k < 300 → 0 ≤ H79.2.2.1 55 0 (k) ∧ H79.2.2.1 55 0 (k) < k) := ⟨fun z => by rw [z]; exact k82.1, fun z z' => k82.2.1 _ z z'⟩
        refine J.run 7 rfl (show 0 ≤ k ∧ k < 300 from ⟨by omega, by omega⟩) ?_
        try dsimp only
        exact ih (n + 1) (H79.2.2.1 55 0 (k)) H79 _ (show (H79.2.2.1 55 0 (k)) < _ by omega) (show 0 ≤ (n + 1) ∧ 0 ≤ (H79.2.2.1 55 0 (k)) ∧ (n + 1) + (H79.2.2.1 55 0 (k)) ≤ 299 from ⟨by omega, by omega, by omega⟩) (show ∀ j, 0 ≤ j → j < (n + 1) → 1 ≤ H79.2.2.1 108 0 j from (by first | exact (fun j h1 h2 => absurd h2 (by omega)) | (rw [rA]; exact gpth hi1 (by omega)) | (rw [rF]; exact hi1) | exact hi1)) (show b < H79.1 11 12 0 from by omega) hT80 hE81 k82 k83 k84 rfl
-- 
theorem g_state {b : Int} {H : jH} (hT : gT H) (k0gP : gP H) (k0gX : gX H) (k0gL : gL H) (hp0 : 0 ≤ b ∧ b < 300) (hp1 : b < H.1 11 12 0) : J true (d + 2) 116 w (0, jargs 0 [jT, .inl b], [], H) (jN fun v w' H' => w' = w ∧ gT H' ∧ jEx [48, 56, 57] [108, 99, 100, 101, 105, 102, 103, 104] H' H ∧ gP H' ∧ gX H' ∧ gL H' ∧ v = none) := by
  have hE : jEx [48, 56, 57] [108, 99, 100, 101, 105, 102, 103, 104] H H := jEx.refl _ _ _
  have f89 : -1 ≤ H.1 11 48 0 ∧ H.1 11 48 0 ≤ 299 := hT.2.1 48
  have f90 : 1 ≤ H.1 11 12 0 ∧ H.1 11 12 0 ≤ 300 := hT.2.1 12
  have f89b : H.1 11 48 0 < H.1 11 12 0 := hT.2.2.2 48 rfl
  refine J.run0 3 rfl ?_
  try dsimp only
  refine J.icmp rfl rfl rfl ⟨(show -2147483648 ≤ H.1 11 48 0 ∧ H.1 11 48 0 ≤ 2147483647 from ⟨by omega, by omega⟩), (show -2147483648 ≤ b ∧ b ≤ 2147483647 from ⟨by omega, by omega⟩)⟩ (fun hc => ?_) (fun hc => ?_)
  · have c91 : ¬ (H.1 11 48 0 = b) := hc
    clear hc
    refine J.run0 4 rfl ?_
    try dsimp only
    exact (g_state_l1 (H0 := H) (b := b)  hp0 hp1 (((b) : Int).toNat + 1)) ((0 : Int)) (b) H _ (show (b) < _ by omega) (show 0 ≤ ((0 : Int)) ∧ 0 ≤ (b) ∧ ((0 : Int)) + (b) ≤ 299 from ⟨by omega, by omega, by omega⟩) (show ∀ j, 0 ≤ j → j < ((0 : Int)) → 1 ≤ H.2.2.1 108 0 j from (by first | exact (fun j h1 h2 => absurd h2 (by omega)) | (rw [rA]; exact gpth hi1 (by omega)) | (rw [rF]; exact hi1) | exact hi1)) (show b < H.1 11 12 0 from by omega) hT hE k0gP k0gX k0gL rfl
  · have c92 : ¬ (¬ (H.1 11 48 0 = b)) := hc
    clear hc
    exact J.retv rfl rfl rfl ⟨_, rfl, rfl, hT, hE, k0gP, k0gX, k0gL, rfl⟩
end
