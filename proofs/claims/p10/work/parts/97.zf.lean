section GQ
/-- each NODE's total is the sum of the POWERS that it sees -/
def gQ (H : jH) : Prop := ∀ n, 0 ≤ n → n < 16 → H.2.2.1 111 0 n = jcnt (fun z => H.2.2.1 110 0 (16 * n + z)) 16
theorem gQ.ex {fs ks : List Nat} {H H1 : jH} (h : gQ H) (hE : jEx fs ks H1 H) (hk : 111 ∉ ks ∧ 110 ∉ ks) : gQ H1 := by
  unfold gQ at h ⊢
  rw [hE.r 111 hk.1, hE.r 110 hk.2]
  exact h
end GQ
-- M: X11_proposer
section
variable {d : Nat} {w : jW} {H : jH}
-- 
theorem g_proposer_l0 {n r : Int} (hT : gT H) (k0gQ : gQ H) (hp0 : 0 ≤ n ∧ n < 16) (hp1 : 0 ≤ r ∧ r < 32) : ∀ (m : Nat), (∀ (k q s t : Int) (lv : jL), 15 - k < (m : Int) → (0 ≤ k ∧ k ≤ 15) → (0 ≤ q ∧ q < t) → (s ≤ q) → (0 ≤ s ∧ s ≤ 40320000 * k) → (t = H.2.2.1 111 0 (n)) → (s = jcnt (fun z => H.2.2.1 110 0 (16 * n + z)) k.toNat) → (t ≤ 645120000) → (lv = [(6, .inl k), (5, .inl q), (4, .inl s), (3, .inl t), (0, jT), (1, .inl n), (2, .inl r)] ∨ lv = [(6, .inl k), (4, .inl s), (5, .inl q), (3, .inl t), (0, jT), (1, .inl n), (2, .inl r)]) → J true (d + 1) 129 w (38, lv, [], H) (jN fun v w' H' => w' = w ∧ H' = H ∧ ∃ x, v = some (.inl x) ∧ (-1) ≤ x ∧ x ≤ 15)) := by
  intro m
  induction m with
  | zero =>
    skip
    · intro k q s t lv hm hi0 hi1 hi2 hi3 hi4 hi5 hi6 hlv
      exfalso
      omega
  | succ m ih =>
    skip
    · intro k q s t lv hm hi0 hi1 hi2 hi3 hi4 hi5 hi6 hlv
      rcases hlv with rfl | rfl
      · skip
        have f1 : 0 ≤ H.2.2.1 110 0 (((16 : Int) * n) + k) ∧ H.2.2.1 110 0 (((16 : Int) * n) + k) ≤ 40320000 := hT.1 110 (((16 : Int) * n) + k)
        refine J.run 13 rfl (show 0 ≤ ((16 : Int) * n) + k ∧ ((16 : Int) * n) + k < 256 from ⟨by omega, by omega⟩) ?_
        try dsimp only
        refine J.icmp rfl rfl rfl ⟨(show -2147483648 ≤ s + (H.2.2.1 110 0 (((16 : Int) * n) + k)) ∧ s + (H.2.2.1 110 0 (((16 : Int) * n) + k)) ≤ 2147483647 from ⟨by omega, by omega⟩), (show -2147483648 ≤ q ∧ q ≤ 2147483647 from ⟨by omega, by omega⟩)⟩ (fun hc => ?_) (fun hc => ?_)
        · have c2 : s + (H.2.2.1 110 0 (((16 : Int) * n) + k)) ≤ q := hc
          clear hc
          have hs1 : s + (H.2.2.1 110 0 (((16 : Int) * n) + k)) = jcnt (fun z => H.2.2.1 110 0 (16 * n + z)) (k + 1).toNat := jcnt_succ (by omega) hi5
          have hs2 : k = 15 → jcnt (fun z => H.2.2.1 110 0 (16 * n + z)) (k + 1).toNat = H.2.2.1 111 0 (n) := fun e => by rw [e]; exact (k0gQ n (by omega) (by omega)).symm
          refine J.run0 2 rfl ?_
          try dsimp only
          exact ih (k + 1) (q) (s + (H.2.2.1 110 0 (((16 : Int) * n) + k))) (t) _ (show 15 - (k + 1) < _ by omega) (show 0 ≤ (k + 1) ∧ (k + 1) ≤ 15 from ⟨by omega, by omega⟩) (show 0 ≤ (q) ∧ (q) < (t) from ⟨by omega, by omega⟩) (show (s + (H.2.2.1 110 0 (((16 : Int) * n) + k))) ≤ (q) from by omega) (show 0 ≤ (s + (H.2.2.1 110 0 (((16 : Int) * n) + k))) ∧ (s + (H.2.2.1 110 0 (((16 : Int) * n) + k))) ≤ 40320000 * (k + 1) from ⟨by omega, by omega⟩) (show (t) = H.2.2.1 111 0 (n) from by omega) (show (s + (H.2.2.1 110 0 (((16 : Int) * n) + k))) = jcnt (fun z => H.2.2.1 110 0 (16 * n + z)) (k + 1).toNat from (by first | exact rfl | exact hs1)) (show (t) ≤ 645120000 from by omega) (Or.inr (rfl))
        · have c3 : ¬ (s + (H.2.2.1 110 0 (((16 : Int) * n) + k)) ≤ q) := hc
          clear hc
          refine J.run0 1 rfl ?_
          try dsimp only
          exact J.reti rfl rfl rfl ⟨_, rfl, rfl, rfl, _, rfl, (show (-1) ≤ (k) ∧ (k) ≤ 15 from ⟨by omega, by omega⟩)⟩
      · skip
        have f4 : 0 ≤ H.2.2.1 110 0 (((16 : Int) * n) + k) ∧ H.2.2.1 110 0 (((16 : Int) * n) + k) ≤ 40320000 := hT.1 110 (((16 : Int) * n) + k)
        refine J.run 13 rfl (show 0 ≤ ((16 : Int) * n) + k ∧ ((16 : Int) * n) + k < 256 from ⟨by omega, by omega⟩) ?_
        try dsimp only
        refine J.icmp rfl rfl rfl ⟨(show -2147483648 ≤ s + (H.2.2.1 110 0 (((16 : Int) * n) + k)) ∧ s + (H.2.2.1 110 0 (((16 : Int) * n) + k)) ≤ 2147483647 from ⟨by omega, by omega⟩), (show -2147483648 ≤ q ∧ q ≤ 2147483647 from ⟨by omega, by omega⟩)⟩ (fun hc => ?_) (fun hc => ?_)
        · have c5 : s + (H.2.2.1 110 0 (((16 : Int) * n) + k)) ≤ q := hc
          clear hc
          have hs1 : s + (H.2.2.1 110 0 (((16 : Int) * n) + k)) = jcnt (fun z => H.2.2.1 110 0 (16 * n + z)) (k + 1).toNat := jcnt_succ (by omega) hi5
          have hs2 : k = 15 → jcnt (fun z => H.2.2.1 110 0 (16 * n + z)) (k + 1).toNat = H.2.2.1 111 0 (n) := fun e => by rw [e]; exact (k0gQ n (by omega) (by omega)).symm
          refine J.run0 2 rfl ?_
          try dsimp only
          exact ih (k + 1) (q) (s + (H.2.2.1 110 0 (((16 : Int) * n) + k))) (t) _ (show 15 - (k + 1) < _ by omega) (show 0 ≤ (k + 1) ∧ (k + 1) ≤ 15 from ⟨by omega, by omega⟩) (show 0 ≤ (q) ∧ (q) < (t) from ⟨by omega, by omega⟩) (show (s + (H.2.2.1 110 0 (((16 : Int) * n) + k))) ≤ (q) from by omega) (show 0 ≤ (s + (H.2.2.1 110 0 (((16 : Int) * n) + k))) ∧ (s + (H.2.2.1 110 0 (((16 : Int) * n) + k))) ≤ 40320000 * (k + 1) from ⟨by omega, by omega⟩) (show (t) = H.2.2.1 111 0 (n) from by omega) (show (s + (H.2.2.1 110 0 (((16 : Int) * n) + k))) = jcnt (fun z => H.2.2.1 110 0 (16 * n + z)) (k + 1).toNat from (by first | exact rfl | exact hs1)) (show (t) ≤ 645120000 from by omega) (Or.inr (rfl))
        · have c6 : ¬ (s + (H.2.2.1 110 0 (((16 : Int) * n) + k)) ≤ q) := hc
          clear hc
          refine J.run0 1 rfl ?_
          try dsimp only
          exact J.reti rfl rfl rfl ⟨_, rfl, rfl, rfl, _, rfl, (show (-1) ≤ (k) ∧ (k) ≤ 15 from ⟨by omega, by omega⟩)⟩
-- 
theorem g_proposer {n r : Int} (hT : gT H) (k0gQ : gQ H) (hp0 : 0 ≤ n ∧ n < 16) (hp1 : 0 ≤ r ∧ r < 32) : J true (d + 1) 129 w (0, jargs 0 [jT, .inl n, .inl r], [], H) (jN fun v w' H' => w' = w ∧ H' = H ∧ ∃ x, v = some (.inl x) ∧ (-1) ≤ x ∧ x ≤ 15) := by
  have f7 : 0 ≤ H.2.2.1 111 0 (n) ∧ H.2.2.1 111 0 (n) ≤ 645120000 := hT.1 111 (n)
  refine J.run 8 rfl (show 0 ≤ n ∧ n < 16 from ⟨by omega, by omega⟩) ?_
  try dsimp only
  refine J.ifc rfl rfl rfl (show -2147483648 ≤ H.2.2.1 111 0 (n) ∧ H.2.2.1 111 0 (n) ≤ 2147483647 from ⟨by omega, by omega⟩) (fun hc => ?_) (fun hc => ?_)
  · have c8 : ¬ (H.2.2.1 111 0 (n) = (0 : Int)) := hc
    clear hc
    refine J.run0 3 rfl ?_
    try dsimp only
    refine J.inv rfl rfl rfl rfl rfl rfl jDr rfl rfl rfl rfl rfl (g_height (n := n) hT  (show 0 ≤ (n) ∧ (n) < 16 from ⟨by omega, by omega⟩)) ?_
    rintro v w H ⟨rfl, rfl, x9, rfl, r10⟩
    have r10' : 1 ≤ x9 ∧ x9 ≤ 301 := r10
    try dsimp only [Option.toList, List.append, List.cons_append, List.nil_append]
    refine J.run 7 rfl (show 0 ≤ ((131 : Int) * x9) + ((307 : Int) * r) ∧ ((131 : Int) * x9) + ((307 : Int) * r) ≤ 2147483647 ∧ 0 < H.2.2.1 111 0 (n) ∧ H.2.2.1 111 0 (n) ≤ 2147483647 from ⟨by omega, by omega, by omega, by omega⟩) ?_
    try dsimp only
    have f11 : 0 ≤ (((131 : Int) * x9) + ((307 : Int) * r)) % (H.2.2.1 111 0 (n)) ∧ (((131 : Int) * x9) + ((307 : Int) * r)) % (H.2.2.1 111 0 (n)) < H.2.2.1 111 0 (n) := ⟨Int.emod_nonneg _ (by omega), Int.emod_lt_of_pos _ (by omega)⟩
    refine J.run0 3 rfl ?_
    try dsimp only
    exact (g_proposer_l0 (H := H) (n := n) (r := r) hT k0gQ hp0 hp1 ((15 - ((0 : Int)) : Int).toNat + 1)) ((0 : Int)) ((((131 : Int) * x9) + ((307 : Int) * r)) % (H.2.2.1 111 0 (n))) ((0 : Int)) (H.2.2.1 111 0 (n)) _ (show 15 - ((0 : Int)) < _ by omega) (show 0 ≤ ((0 : Int)) ∧ ((0 : Int)) ≤ 15 from ⟨by omega, by omega⟩) (show 0 ≤ ((((131 : Int) * x9) + ((307 : Int) * r)) % (H.2.2.1 111 0 (n))) ∧ ((((131 : Int) * x9) + ((307 : Int) * r)) % (H.2.2.1 111 0 (n))) < (H.2.2.1 111 0 (n)) from ⟨by omega, by omega⟩) (show ((0 : Int)) ≤ ((((131 : Int) * x9) + ((307 : Int) * r)) % (H.2.2.1 111 0 (n))) from by omega) (show 0 ≤ ((0 : Int)) ∧ ((0 : Int)) ≤ 40320000 * ((0 : Int)) from ⟨by omega, by omega⟩) (show (H.2.2.1 111 0 (n)) = H.2.2.1 111 0 (n) from by omega) (show ((0 : Int)) = jcnt (fun z => H.2.2.1 110 0 (16 * n + z)) ((0 : Int)).toNat from (by first | exact rfl | exact hs1)) (show (H.2.2.1 111 0 (n)) ≤ 645120000 from by omega) (Or.inl rfl)
  · have c12 : ¬ (¬ (H.2.2.1 111 0 (n) = (0 : Int))) := hc
    clear hc
    refine J.run0 1 rfl ?_
    try dsimp only
    exact J.reti rfl rfl rfl ⟨_, rfl, rfl, rfl, _, rfl, (show (-1) ≤ ((-1 : Int)) ∧ ((-1 : Int)) ≤ 15 from ⟨by omega, by omega⟩)⟩
end
-- M: X11_proposal
section
variable {d : Nat} {w : jW} {H : jH}
-- 
theorem g_proposal_l0 {n r : Int} (hT : gT H) (k0gQ : gQ H) (hp0 : 0 ≤ n ∧ n < 16) (hp1 : 0 ≤ r ∧ r < 32) : ∀ (m : Nat), (∀ (i p : Int) (lv : jL), 6000 - i < (m : Int) → (0 ≤ i ∧ i ≤ 6000) → (-1 ≤ p ∧ p ≤ 15) → (lv = [(4, .inl i), (3, .inl p), (0, jT), (1, .inl n), (2, .inl r)] ∨ (∃ j5 : Int, lv = [(4, .inl i), (5, .inl j5), (3, .inl p), (0, jT), (1, .inl n), (2, .inl r)])) → J true (d + 2) 134 w (10, lv, [], H) (jN fun v w' H' => w' = w ∧ H' = H ∧ ∃ x, v = some (.inl x) ∧ -1 ≤ x ∧ x ≤ 5999 ∧ (0 ≤ x → 0 ≤ H.2.2.1 67 0 (x)))) := by
  intro m
  induction m with
  | zero =>
    skip
    · intro i p lv hm hi0 hi1 hlv
      exfalso
      omega
  | succ m ih =>
    skip
    · intro i p lv hm hi0 hi1 hlv
      rcases hlv with rfl | ⟨j5, rfl⟩
      · skip
        have f1 : 0 ≤ H.2.2.1 113 0 (n) ∧ H.2.2.1 113 0 (n) ≤ 6000 := hT.1 113 (n)
        refine J.run 5 rfl (show 0 ≤ n ∧ n < 16 from ⟨by omega, by omega⟩) ?_
        try dsimp only
        refine J.icmp rfl rfl rfl ⟨(show -2147483648 ≤ i ∧ i ≤ 2147483647 from ⟨by omega, by omega⟩), (show -2147483648 ≤ H.2.2.1 113 0 (n) ∧ H.2.2.1 113 0 (n) ≤ 2147483647 from ⟨by omega, by omega⟩)⟩ (fun hc => ?_) (fun hc => ?_)
        · have c2 : H.2.2.1 113 0 (n) ≤ i := hc
          clear hc
          refine J.run0 1 rfl ?_
          try dsimp only
          exact J.reti rfl rfl rfl ⟨_, rfl, rfl, rfl, _, rfl, (show -1 ≤ ((-1 : Int)) ∧ ((-1 : Int)) ≤ 5999 ∧ (0 ≤ ((-1 : Int)) → 0 ≤ H.2.2.1 67 0 (((-1 : Int)))) from ⟨by omega, by omega, by omega⟩)⟩
        · have c3 : ¬ (H.2.2.1 113 0 (n) ≤ i) := hc
          clear hc
          have f4 : 0 ≤ H.2.2.1 112 0 (((6000 : Int) * n) + i) ∧ H.2.2.1 112 0 (((6000 : Int) * n) + i) ≤ 5999 := hT.1 112 (((6000 : Int) * n) + i)
          have f5 : 0 ≤ H.2.2.1 63 0 (H.2.2.1 112 0 (((6000 : Int) * n) + i)) ∧ H.2.2.1 63 0 (H.2.2.1 112 0 (((6000 : Int) * n) + i)) ≤ 2 := hT.1 63 (H.2.2.1 112 0 (((6000 : Int) * n) + i))
          refine J.run 13 rfl ⟨(show 0 ≤ ((6000 : Int) * n) + i ∧ ((6000 : Int) * n) + i < 96000 from ⟨by omega, by omega⟩), (show 0 ≤ H.2.2.1 112 0 (((6000 : Int) * n) + i) ∧ H.2.2.1 112 0 (((6000 : Int) * n) + i) < 6000 from ⟨by omega, by omega⟩)⟩ ?_
          try dsimp only
          refine J.ifc rfl rfl rfl (show -2147483648 ≤ H.2.2.1 63 0 (H.2.2.1 112 0 (((6000 : Int) * n) + i)) ∧ H.2.2.1 63 0 (H.2.2.1 112 0 (((6000 : Int) * n) + i)) ≤ 2147483647 from ⟨by omega, by omega⟩) (fun hc => ?_) (fun hc => ?_)
          · have c6 : ¬ (H.2.2.1 63 0 (H.2.2.1 112 0 (((6000 : Int) * n) + i)) = (0 : Int)) := hc
            clear hc
            refine J.run0 2 rfl ?_
            try dsimp only
            exact ih (i + 1) (p) _ (show 6000 - (i + 1) < _ by omega) (show 0 ≤ (i + 1) ∧ (i + 1) ≤ 6000 from ⟨by omega, by omega⟩) (show -1 ≤ (p) ∧ (p) ≤ 15 from ⟨by omega, by omega⟩) (Or.inr (⟨_, rfl⟩))
          · have c7 : ¬ (¬ (H.2.2.1 63 0 (H.2.2.1 112 0 (((6000 : Int) * n) + i)) = (0 : Int))) := hc
            clear hc
            have f8 : 0 ≤ H.2.2.1 66 0 (H.2.2.1 112 0 (((6000 : Int) * n) + i)) ∧ H.2.2.1 66 0 (H.2.2.1 112 0 (((6000 : Int) * n) + i)) ≤ 31 := hT.1 66 (H.2.2.1 112 0 (((6000 : Int) * n) + i))
            refine J.run 5 rfl (show 0 ≤ H.2.2.1 112 0 (((6000 : Int) * n) + i) ∧ H.2.2.1 112 0 (((6000 : Int) * n) + i) < 6000 from ⟨by omega, by omega⟩) ?_
            try dsimp only
            refine J.icmp rfl rfl rfl ⟨(show -2147483648 ≤ H.2.2.1 66 0 (H.2.2.1 112 0 (((6000 : Int) * n) + i)) ∧ H.2.2.1 66 0 (H.2.2.1 112 0 (((6000 : Int) * n) + i)) ≤ 2147483647 from ⟨by omega, by omega⟩), (show -2147483648 ≤ r ∧ r ≤ 2147483647 from ⟨by omega, by omega⟩)⟩ (fun hc => ?_) (fun hc => ?_)
            · have c9 : ¬ (H.2.2.1 66 0 (H.2.2.1 112 0 (((6000 : Int) * n) + i)) = r) := hc
              clear hc
              refine J.run0 2 rfl ?_
              try dsimp only
              exact ih (i + 1) (p) _ (show 6000 - (i + 1) < _ by omega) (show 0 ≤ (i + 1) ∧ (i + 1) ≤ 6000 from ⟨by omega, by omega⟩) (show -1 ≤ (p) ∧ (p) ≤ 15 from ⟨by omega, by omega⟩) (Or.inr (⟨_, rfl⟩))
            · have c10 : ¬ (¬ (H.2.2.1 66 0 (H.2.2.1 112 0 (((6000 : Int) * n) + i)) = r)) := hc
              clear hc
              have f11 : -1 ≤ H.2.2.1 67 0 (H.2.2.1 112 0 (((6000 : Int) * n) + i)) ∧ H.2.2.1 67 0 (H.2.2.1 112 0 (((6000 : Int) * n) + i)) ≤ 299 := hT.1 67 (H.2.2.1 112 0 (((6000 : Int) * n) + i))
              have f12 : 1 ≤ H.1 11 12 0 ∧ H.1 11 12 0 ≤ 300 := hT.2.1 12
              have f11b : H.2.2.1 67 0 (H.2.2.1 112 0 (((6000 : Int) * n) + i)) < H.1 11 12 0 := hT.2.2.1 67 (H.2.2.1 112 0 (((6000 : Int) * n) + i)) rfl
              refine J.run 4 rfl (show 0 ≤ H.2.2.1 112 0 (((6000 : Int) * n) + i) ∧ H.2.2.1 112 0 (((6000 : Int) * n) + i) < 6000 from ⟨by omega, by omega⟩) ?_
              try dsimp only
              refine J.ifc rfl rfl rfl (show -2147483648 ≤ H.2.2.1 67 0 (H.2.2.1 112 0 (((6000 : Int) * n) + i)) ∧ H.2.2.1 67 0 (H.2.2.1 112 0 (((6000 : Int) * n) + i)) ≤ 2147483647 from ⟨by omega, by omega⟩) (fun hc => ?_) (fun hc => ?_)
              · have c13 : H.2.2.1 67 0 (H.2.2.1 112 0 (((6000 : Int) * n) + i)) < (0 : Int) := hc
                clear hc
                refine J.run0 2 rfl ?_
                try dsimp only
                exact ih (i + 1) (p) _ (show 6000 - (i + 1) < _ by omega) (show 0 ≤ (i + 1) ∧ (i + 1) ≤ 6000 from ⟨by omega, by omega⟩) (show -1 ≤ (p) ∧ (p) ≤ 15 from ⟨by omega, by omega⟩) (Or.inr (⟨_, rfl⟩))
              · have c14 : ¬ (H.2.2.1 67 0 (H.2.2.1 112 0 (((6000 : Int) * n) + i)) < (0 : Int)) := hc
                clear hc
                have f15 : 0 ≤ H.2.2.1 64 0 (H.2.2.1 112 0 (((6000 : Int) * n) + i)) ∧ H.2.2.1 64 0 (H.2.2.1 112 0 (((6000 : Int) * n) + i)) ≤ 15 := hT.1 64 (H.2.2.1 112 0 (((6000 : Int) * n) + i))
                refine J.run 5 rfl (show 0 ≤ H.2.2.1 112 0 (((6000 : Int) * n) + i) ∧ H.2.2.1 112 0 (((6000 : Int) * n) + i) < 6000 from ⟨by omega, by omega⟩) ?_
                try dsimp only
                refine J.icmp rfl rfl rfl ⟨(show -2147483648 ≤ H.2.2.1 64 0 (H.2.2.1 112 0 (((6000 : Int) * n) + i)) ∧ H.2.2.1 64 0 (H.2.2.1 112 0 (((6000 : Int) * n) + i)) ≤ 2147483647 from ⟨by omega, by omega⟩), (show -2147483648 ≤ p ∧ p ≤ 2147483647 from ⟨by omega, by omega⟩)⟩ (fun hc => ?_) (fun hc => ?_)
                · have c16 : ¬ (H.2.2.1 64 0 (H.2.2.1 112 0 (((6000 : Int) * n) + i)) = p) := hc
                  clear hc
                  refine J.run0 2 rfl ?_
                  try dsimp only
                  exact ih (i + 1) (p) _ (show 6000 - (i + 1) < _ by omega) (show 0 ≤ (i + 1) ∧ (i + 1) ≤ 6000 from ⟨by omega, by omega⟩) (show -1 ≤ (p) ∧ (p) ≤ 15 from ⟨by omega, by omega⟩) (Or.inr (⟨_, rfl⟩))
                · have c17 : ¬ (¬ (H.2.2.1 64 0 (H.2.2.1 112 0 (((6000 : Int) * n) + i)) = p)) := hc
                  clear hc
                  refine J.run0 1 rfl ?_
                  try dsimp only
                  exact J.reti rfl rfl rfl ⟨_, rfl, rfl, rfl, _, rfl, (show -1 ≤ (H.2.2.1 112 0 (((6000 : Int) * n) + i)) ∧ (H.2.2.1 112 0 (((6000 : Int) * n) + i)) ≤ 5999 ∧ (0 ≤ (H.2.2.1 112 0 (((6000 : Int) * n) + i)) → 0 ≤ H.2.2.1 67 0 ((H.2.2.1 112 0 (((6000 : Int) * n) + i)))) from ⟨by omega, by omega, by omega⟩)⟩
      · skip
        have f18 : 0 ≤ H.2.2.1 113 0 (n) ∧ H.2.2.1 113 0 (n) ≤ 6000 := hT.1 113 (n)
        refine J.run 5 rfl (show 0 ≤ n ∧ n < 16 from ⟨by omega, by omega⟩) ?_
        try dsimp only
        refine J.icmp rfl rfl rfl ⟨(show -2147483648 ≤ i ∧ i ≤ 2147483647 from ⟨by omega, by omega⟩), (show -2147483648 ≤ H.2.2.1 113 0 (n) ∧ H.2.2.1 113 0 (n) ≤ 2147483647 from ⟨by omega, by omega⟩)⟩ (fun hc => ?_) (fun hc => ?_)
        · have c19 : H.2.2.1 113 0 (n) ≤ i := hc
          clear hc
          refine J.run0 1 rfl ?_
          try dsimp only
          exact J.reti rfl rfl rfl ⟨_, rfl, rfl, rfl, _, rfl, (show -1 ≤ ((-1 : Int)) ∧ ((-1 : Int)) ≤ 5999 ∧ (0 ≤ ((-1 : Int)) → 0 ≤ H.2.2.1 67 0 (((-1 : Int)))) from ⟨by omega, by omega, by omega⟩)⟩
        · have c20 : ¬ (H.2.2.1 113 0 (n) ≤ i) := hc
          clear hc
          have f21 : 0 ≤ H.2.2.1 112 0 (((6000 : Int) * n) + i) ∧ H.2.2.1 112 0 (((6000 : Int) * n) + i) ≤ 5999 := hT.1 112 (((6000 : Int) * n) + i)
          have f22 : 0 ≤ H.2.2.1 63 0 (H.2.2.1 112 0 (((6000 : Int) * n) + i)) ∧ H.2.2.1 63 0 (H.2.2.1 112 0 (((6000 : Int) * n) + i)) ≤ 2 := hT.1 63 (H.2.2.1 112 0 (((6000 : Int) * n) + i))
          refine J.run 13 rfl ⟨(show 0 ≤ ((6000 : Int) * n) + i ∧ ((6000 : Int) * n) + i < 96000 from ⟨by omega, by omega⟩), (show 0 ≤ H.2.2.1 112 0 (((6000 : Int) * n) + i) ∧ H.2.2.1 112 0 (((6000 : Int) * n) + i) < 6000 from ⟨by omega, by omega⟩)⟩ ?_
          try dsimp only
          refine J.ifc rfl rfl rfl (show -2147483648 ≤ H.2.2.1 63 0 (H.2.2.1 112 0 (((6000 : Int) * n) + i)) ∧ H.2.2.1 63 0 (H.2.2.1 112 0 (((6000 : Int) * n) + i)) ≤ 2147483647 from ⟨by omega, by omega⟩) (fun hc => ?_) (fun hc => ?_)
          · have c23 : ¬ (H.2.2.1 63 0 (H.2.2.1 112 0 (((6000 : Int) * n) + i)) = (0 : Int)) := hc
            clear hc
            refine J.run0 2 rfl ?_
            try dsimp only
            exact ih (i + 1) (p) _ (show 6000 - (i + 1) < _ by omega) (show 0 ≤ (i + 1) ∧ (i + 1) ≤ 6000 from ⟨by omega, by omega⟩) (show -1 ≤ (p) ∧ (p) ≤ 15 from ⟨by omega, by omega⟩) (Or.inr (⟨_, rfl⟩))
          · have c24 : ¬ (¬ (H.2.2.1 63 0 (H.2.2.1 112 0 (((6000 : Int) * n) + i)) = (0 : Int))) := hc
            clear hc
            have f25 : 0 ≤ H.2.2.1 66 0 (H.2.2.1 112 0 (((6000 : Int) * n) + i)) ∧ H.2.2.1 66 0 (H.2.2.1 112 0 (((6000 : Int) * n) + i)) ≤ 31 := hT.1 66 (H.2.2.1 112 0 (((6000 : Int) * n) + i))
            refine J.run 5 rfl (show 0 ≤ H.2.2.1 112 0 (((6000 : Int) * n) + i) ∧ H.2.2.1 112 0 (((6000 : Int) * n) + i) < 6000 from ⟨by omega, by omega⟩) ?_
            try dsimp only
            refine J.icmp rfl rfl rfl ⟨(show -2147483648 ≤ H.2.2.1 66 0 (H.2.2.1 112 0 (((6000 : Int) * n) + i)) ∧ H.2.2.1 66 0 (H.2.2.1 112 0 (((6000 : Int) * n) + i)) ≤ 2147483647 from ⟨by omega, by omega⟩), (show -2147483648 ≤ r ∧ r ≤ 2147483647 from ⟨by omega, by omega⟩)⟩ (fun hc => ?_) (fun hc => ?_)
            · have c26 : ¬ (H.2.2.1 66 0 (H.2.2.1 112 0 (((6000 : Int) * n) + i)) = r) := hc
              clear hc
              refine J.run0 2 rfl ?_
              try dsimp only
              exact ih (i + 1) (p) _ (show 6000 - (i + 1) < _ by omega) (show 0 ≤ (i + 1) ∧ (i + 1) ≤ 6000 from ⟨by omega, by omega⟩) (show -1 ≤ (p) ∧ (p) ≤ 15 from ⟨by omega, by omega⟩) (Or.inr (⟨_, rfl⟩))
            · have c27 : ¬ (¬ (H.2.2.1 66 0 (H.2.2.1 112 0 (((6000 : Int) * n) + i)) = r)) := hc
              clear hc
              have f28 : -1 ≤ H.2.2.1 67 0 (H.2.2.1 112 0 (((6000 : Int) * n) + i)) ∧ H.2.2.1 67 0 (H.2.2.1 112 0 (((6000 : Int) * n) + i)) ≤ 299 := hT.1 67 (H.2.2.1 112 0 (((6000 : Int) * n) + i))
              have f29 : 1 ≤ H.1 11 12 0 ∧ H.1 11 12 0 ≤ 300 := hT.2.1 12
              have f28b : H.2.2.1 67 0 (H.2.2.1 112 0 (((6000 : Int) * n) + i)) < H.1 11 12 0 := hT.2.2.1 67 (H.2.2.1 112 0 (((6000 : Int) * n) + i)) rfl
              refine J.run 4 rfl (show 0 ≤ H.2.2.1 112 0 (((6000 : Int) * n) + i) ∧ H.2.2.1 112 0 (((6000 : Int) * n) + i) < 6000 from ⟨by omega, by omega⟩) ?_
              try dsimp only
              refine J.ifc rfl rfl rfl (show -2147483648 ≤ H.2.2.1 67 0 (H.2.2.1 112 0 (((6000 : Int) * n) + i)) ∧ H.2.2.1 67 0 (H.2.2.1 112 0 (((6000 : Int) * n) + i)) ≤ 2147483647 from ⟨by omega, by omega⟩) (fun hc => ?_) (fun hc => ?_)
              · have c30 : H.2.2.1 67 0 (H.2.2.1 112 0 (((6000 : Int) * n) + i)) < (0 : Int) := hc
                clear hc
                refine J.run0 2 rfl ?_
                try dsimp only
                exact ih (i + 1) (p) _ (show 6000 - (i + 1) < _ by omega) (show 0 ≤ (i + 1) ∧ (i + 1) ≤ 6000 from ⟨by omega, by omega⟩) (show -1 ≤ (p) ∧ (p) ≤ 15 from ⟨by omega, by omega⟩) (Or.inr (⟨_, rfl⟩))
              · have c31 : ¬ (H.2.2.1 67 0 (H.2.2.1 112 0 (((6000 : Int) * n) + i)) < (0 : Int)) := hc
                clear hc
                have f32 : 0 ≤ H.2.2.1 64 0 (H.2.2.1 112 0 (((6000 : Int) * n) + i)) ∧ H.2.2.1 64 0 (H.2.2.1 112 0 (((6000 : Int) * n) + i)) ≤ 15 := hT.1 64 (H.2.2.1 112 0 (((6000 : Int) * n) + i))
                refine J.run 5 rfl (show 0 ≤ H.2.2.1 112 0 (((6000 : Int) * n) + i) ∧ H.2.2.1 112 0 (((6000 : Int) * n) + i) < 6000 from ⟨by omega, by omega⟩) ?_
                try dsimp only
                refine J.icmp rfl rfl rfl ⟨(show -2147483648 ≤ H.2.2.1 64 0 (H.2.2.1 112 0 (((6000 : Int) * n) + i)) ∧ H.2.2.1 64 0 (H.2.2.1 112 0 (((6000 : Int) * n) + i)) ≤ 2147483647 from ⟨by omega, by omega⟩), (show -2147483648 ≤ p ∧ p ≤ 2147483647 from ⟨by omega, by omega⟩)⟩ (fun hc => ?_) (fun hc => ?_)
                · have c33 : ¬ (H.2.2.1 64 0 (H.2.2.1 112 0 (((6000 : Int) * n) + i)) = p) := hc
                  clear hc
                  refine J.run0 2 rfl ?_
                  try dsimp only
                  exact ih (i + 1) (p) _ (show 6000 - (i + 1) < _ by omega) (show 0 ≤ (i + 1) ∧ (i + 1) ≤ 6000 from ⟨by omega, by omega⟩) (show -1 ≤ (p) ∧ (p) ≤ 15 from ⟨by omega, by omega⟩) (Or.inr (⟨_, rfl⟩))
                · have c34 : ¬ (¬ (H.2.2.1 64 0 (H.2.2.1 112 0 (((6000 : Int) * n) + i)) = p)) := hc
                  clear hc
                  refine J.run0 1 rfl ?_
                  try dsimp only
                  exact J.reti rfl rfl rfl ⟨_, rfl, rfl, rfl, _, rfl, (show -1 ≤ (H.2.2.1 112 0 (((6000 : Int) * n) + i)) ∧ (H.2.2.1 112 0 (((6000 : Int) * n) + i)) ≤ 5999 ∧ (0 ≤ (H.2.2.1 112 0 (((6000 : Int) * n) + i)) → 0 ≤ H.2.2.1 67 0 ((H.2.2.1 112 0 (((6000 : Int) * n) + i)))) from ⟨by omega, by omega, by omega⟩)⟩
-- 
theorem g_proposal {n r : Int} (hT : gT H) (k0gQ : gQ H) (hp0 : 0 ≤ n ∧ n < 16) (hp1 : 0 ≤ r ∧ r < 32) : J true (d + 2) 134 w (0, jargs 0 [jT, .inl n, .inl r], [], H) (jN fun v w' H' => w' = w ∧ H' = H ∧ ∃ x, v = some (.inl x) ∧ -1 ≤ x ∧ x ≤ 5999 ∧ (0 ≤ x → 0 ≤ H.2.2.1 67 0 (x))) := by
  refine J.run0 3 rfl ?_
  try dsimp only
  refine J.inv rfl rfl rfl rfl rfl rfl jDr rfl rfl rfl rfl rfl (g_proposer (n := n) (r := r) hT k0gQ (show 0 ≤ (n) ∧ (n) < 16 from ⟨by omega, by omega⟩) (show 0 ≤ (r) ∧ (r) < 32 from ⟨by omega, by omega⟩)) ?_
  rintro v w H ⟨rfl, rfl, x35, rfl, r36⟩
  have r36' : (-1) ≤ x35 ∧ x35 ≤ 15 := r36
  try dsimp only [Option.toList, List.append, List.cons_append, List.nil_append]
  refine J.run0 3 rfl ?_
  try dsimp only
  exact (g_proposal_l0 (H := H) (n := n) (r := r) hT k0gQ hp0 hp1 ((6000 - ((0 : Int)) : Int).toNat + 1)) ((0 : Int)) (x35) _ (show 6000 - ((0 : Int)) < _ by omega) (show 0 ≤ ((0 : Int)) ∧ ((0 : Int)) ≤ 6000 from ⟨by omega, by omega⟩) (show -1 ≤ (x35) ∧ (x35) ≤ 15 from ⟨by omega, by omega⟩) (Or.inl rfl)
end
