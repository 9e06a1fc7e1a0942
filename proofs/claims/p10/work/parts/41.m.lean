section JM2
variable {d : Nat} {w : jW} {H : jH}
def mOK (H : jH) (x : Int) : Prop := (0 ≤ x ∧ x < 6000) ∧ (0 ≤ H.2.2.1 63 0 x ∧ H.2.2.1 63 0 x ≤ 2) ∧ (0 ≤ H.2.2.1 64 0 x ∧ H.2.2.1 64 0 x < 16) ∧ (0 ≤ H.2.2.1 65 0 x ∧ H.2.2.1 65 0 x ≤ 1000) ∧ (0 ≤ H.2.2.1 66 0 x ∧ H.2.2.1 66 0 x < 32) ∧ (-1 ≤ H.2.2.1 67 0 x ∧ H.2.2.1 67 0 x < 300) ∧ -1 ≤ H.2.2.1 68 0 x ∧ H.2.2.1 68 0 x < 32
def mS (H : jH) (kind r b x : Int) : Prop := H.2.2.1 63 0 x = kind ∧ H.2.2.1 66 0 x = r ∧ (b = -2 ∨ H.2.2.1 67 0 x = b)
def mSeen (H : jH) (n kind r b top : Int) (g : Int → Int) : Prop := ∀ k, 0 ≤ k → k < 16 → (g k = 0 ∨ g k = 1) ∧ (g k = 1 ↔ ∃ j, 0 ≤ j ∧ j < top ∧ mS H kind r b (H.2.2.1 112 0 (6000 * n + j)) ∧ H.2.2.1 64 0 (H.2.2.1 112 0 (6000 * n + j)) = k)
def mNow (H : jH) (n : Int) : Prop := (0 ≤ n ∧ n < 16) ∧ (0 ≤ H.2.2.1 113 0 n ∧ H.2.2.1 113 0 n ≤ 6000) ∧ ∀ j, 0 ≤ j → j < H.2.2.1 113 0 n → mOK H (H.2.2.1 112 0 (6000 * n + j))
def mPow (H : jH) (n : Int) : Prop := H.2.2.1 111 0 n = 1600 ∧ ∀ j, 0 ≤ j → j < 16 → H.2.2.1 110 0 (16 * n + j) = 100
theorem mSeen.skip {n kind r b i : Int} {g : Int → Int} (h : mSeen H n kind r b i g) (hi : 0 ≤ i) (hn : ¬ mS H kind r b (H.2.2.1 112 0 (6000 * n + i))) : mSeen H n kind r b (i + 1) g := by
  intro k h1 h2
  refine ⟨(h k h1 h2).1, (h k h1 h2).2.trans ⟨fun ⟨j, a, b', c⟩ => ⟨j, a, by omega, c⟩, fun ⟨j, a, b', c⟩ => ⟨j, a, ?_, c⟩⟩⟩
  refine Int.lt_of_not_ge fun hge => hn ?_
  obtain rfl : j = i := by omega
  exact c.1
theorem mSeen.take {n kind r b i : Int} {g : Int → Int} (h : mSeen H n kind r b i g) (hi : 0 ≤ i) (hm : mS H kind r b (H.2.2.1 112 0 (6000 * n + i))) : mSeen H n kind r b (i + 1) (jup g (H.2.2.1 64 0 (H.2.2.1 112 0 (6000 * n + i))) 1) := by
  intro k h1 h2
  unfold jup
  by_cases hk : k = H.2.2.1 64 0 (H.2.2.1 112 0 (6000 * n + i))
  · rw [if_pos hk]
    exact ⟨Or.inr rfl, fun _ => ⟨i, hi, by omega, hm, hk.symm⟩, fun _ => rfl⟩
  · rw [if_neg hk]
    refine ⟨(h k h1 h2).1, (h k h1 h2).2.trans ⟨fun ⟨j, a, b', c⟩ => ⟨j, a, by omega, c⟩, fun ⟨j, a, b', c⟩ => ⟨j, a, ?_, c⟩⟩⟩
    refine Int.lt_of_not_ge fun hge => hk ?_
    obtain rfl : j = i := by omega
    exact c.2.symm
theorem j_isMost_loop {n kind r b : Int} (hN : mNow H n) (hP : mPow H n) (hk : 0 ≤ kind ∧ kind ≤ 2) (hr : 0 ≤ r ∧ r < 32) (hb : -2 ≤ b ∧ b < 300) : ∀ (m : Nat) (i : Int) (g : Int → Int) (lv : jL), i + m = H.2.2.1 113 0 n → 0 ≤ i → mSeen H n kind r b i g → (lv = [(5, .inl i), (0, jT), (1, .inl n), (2, .inl kind), (3, .inl r), (4, .inl b)] ∨ ∃ x, lv = [(5, .inl i), (6, .inl x), (0, jT), (1, .inl n), (2, .inl kind), (3, .inl r), (4, .inl b)]) →
    J true (d + 1) 133 w (7, lv, [], hR H 81 g) (jN fun v w' H' => w' = w ∧ ∃ g', H' = hR H 81 g' ∧ mSeen H n kind r b (H.2.2.1 113 0 n) g' ∧ v = some (.inl (if 11 ≤ jcnt g' 16 then 1 else 0))) := by
  intro m
  induction m with
  | zero =>
    intro i g lv hi h0 hg hlv
    have hn := hN.1
    have hM := hN.2.1
    have hge : H.2.2.1 113 0 n ≤ i := by omega
    have hg' : mSeen H n kind r b (H.2.2.1 113 0 n) g := by
      rw [show H.2.2.1 113 0 n = i by omega]
      exact hg
    rcases hlv with rfl | ⟨x, rfl⟩
    all_goals
      refine J.run 5 rfl hn ?_
      try dsimp only
      refine J.icmp rfl rfl rfl ⟨⟨by omega, by omega⟩, show -2147483648 ≤ H.2.2.1 113 0 n by omega, show H.2.2.1 113 0 n ≤ 2147483647 by omega⟩ (fun _ => ?_) (fun hc => absurd hge hc)
      refine J.run0 2 rfl ?_
      try dsimp only
      refine J.inv rfl rfl rfl rfl rfl rfl jDr rfl rfl rfl rfl rfl (j_share (H := hR H 81 g) hn hP.1 hP.2 fun j h1 h2 => (hg j h1 h2).1) ?_
      rintro v w' H' ⟨rfl, rfl, rfl⟩
      refine J.run0 1 rfl ?_
      try dsimp only
      by_cases hc : 11 ≤ jcnt g 16
      · have e : (if 11 ≤ jcnt ((hR H 81 g).2.2.1 81 0) 16 then (2 : Int) else if 6 ≤ jcnt ((hR H 81 g).2.2.1 81 0) 16 then 1 else 0) = 2 := if_pos hc
        rw [e]
        refine J.icmp rfl rfl rfl ⟨⟨by decide, by decide⟩, by decide, by decide⟩ (fun hz => absurd rfl hz) (fun _ => ?_)
        refine J.run0 2 rfl ?_
        try dsimp only
        exact J.retb rfl rfl rfl (by decide) ⟨_, rfl, rfl, g, rfl, hg', by rw [if_pos hc]⟩
      · have e : ¬ (if 11 ≤ jcnt ((hR H 81 g).2.2.1 81 0) 16 then (2 : Int) else if 6 ≤ jcnt ((hR H 81 g).2.2.1 81 0) 16 then 1 else 0) = 2 := by
          rw [if_neg (show ¬ 11 ≤ jcnt ((hR H 81 g).2.2.1 81 0) 16 from hc)]
          split <;> decide
        refine J.icmp rfl rfl rfl ⟨⟨by split <;> (try split) <;> decide, by split <;> (try split) <;> decide⟩, by decide, by decide⟩ (fun _ => ?_) (fun hz => absurd e hz)
        refine J.run0 1 rfl ?_
        try dsimp only
        exact J.retb rfl rfl rfl (by decide) ⟨_, rfl, rfl, g, rfl, hg', by rw [if_neg hc]⟩
  | succ m ih =>
    intro i g lv hi h0 hg hlv
    have hn := hN.1
    have hM := hN.2.1
    have hlt : i < H.2.2.1 113 0 n := by omega
    have hx := hN.2.2 i h0 hlt
    obtain ⟨x0, x1, x2, x3, x4, x5, x6⟩ := hx
    have b1 : 0 ≤ 6000 * n + i ∧ 6000 * n + i < 96000 := by omega
    rcases hlv with rfl | ⟨x, rfl⟩
    all_goals
      refine J.run 5 rfl hn ?_
      try dsimp only
      refine J.icmp rfl rfl rfl ⟨⟨by omega, by omega⟩, show -2147483648 ≤ H.2.2.1 113 0 n by omega, show H.2.2.1 113 0 n ≤ 2147483647 by omega⟩ (fun hc => absurd (show H.2.2.1 113 0 n ≤ i from hc) (by omega)) (fun _ => ?_)
      refine J.run 14 rfl ⟨b1, x0⟩ ?_
      try dsimp only
      have skip : ¬ mS H kind r b (H.2.2.1 112 0 (6000 * n + i)) → J true (d + 1) 133 w (87, [(6, .inl (H.2.2.1 112 0 (6000 * n + i))), (5, .inl i), (0, jT), (1, .inl n), (2, .inl kind), (3, .inl r), (4, .inl b)], [], hR H 81 g) (jN fun v w' H' => w' = w ∧ ∃ g', H' = hR H 81 g' ∧ mSeen H n kind r b (H.2.2.1 113 0 n) g' ∧ v = some (.inl (if 11 ≤ jcnt g' 16 then 1 else 0))) := by
        intro hno
        refine J.run0 2 rfl ?_
        try dsimp only
        exact ih (i + 1) g _ (by omega) (by omega) (hg.skip h0 hno) (Or.inr ⟨_, rfl⟩)
      refine J.icmp rfl rfl rfl ⟨⟨show -2147483648 ≤ H.2.2.1 63 0 (H.2.2.1 112 0 (6000 * n + i)) by omega, show H.2.2.1 63 0 (H.2.2.1 112 0 (6000 * n + i)) ≤ 2147483647 by omega⟩, by omega, by omega⟩ (fun hc => skip fun z => hc z.1) (fun hc1 => ?_)
      have e1 : H.2.2.1 63 0 (H.2.2.1 112 0 (6000 * n + i)) = kind := Classical.not_not.mp hc1
      refine J.run 5 rfl x0 ?_
      try dsimp only
      refine J.icmp rfl rfl rfl ⟨⟨show -2147483648 ≤ H.2.2.1 66 0 (H.2.2.1 112 0 (6000 * n + i)) by omega, show H.2.2.1 66 0 (H.2.2.1 112 0 (6000 * n + i)) ≤ 2147483647 by omega⟩, by omega, by omega⟩ (fun hc => skip fun z => hc z.2.1) (fun hc2 => ?_)
      have e2 : H.2.2.1 66 0 (H.2.2.1 112 0 (6000 * n + i)) = r := Classical.not_not.mp hc2
      have go : mS H kind r b (H.2.2.1 112 0 (6000 * n + i)) → J true (d + 1) 133 w (74, [(6, .inl (H.2.2.1 112 0 (6000 * n + i))), (5, .inl i), (0, jT), (1, .inl n), (2, .inl kind), (3, .inl r), (4, .inl b)], [], hR H 81 g) (jN fun v w' H' => w' = w ∧ ∃ g', H' = hR H 81 g' ∧ mSeen H n kind r b (H.2.2.1 113 0 n) g' ∧ v = some (.inl (if 11 ≤ jcnt g' 16 then 1 else 0))) := by
        intro hyes
        refine J.run 8 rfl ⟨x0, Or.inr rfl, x2⟩ ?_
        try dsimp only
        refine J.heq (hR_up H _ g (H.2.2.1 64 0 (H.2.2.1 112 0 (6000 * n + i))) 1) ?_
        refine J.run0 2 rfl ?_
        try dsimp only
        exact ih (i + 1) _ _ (by omega) (by omega) (hg.take h0 hyes) (Or.inr ⟨_, rfl⟩)
      refine J.run0 2 rfl ?_
      try dsimp only
      refine J.icmp rfl rfl rfl ⟨⟨by omega, by omega⟩, by omega, by omega⟩ (fun hc => go ⟨e1, e2, Or.inl hc⟩) (fun hc3 => ?_)
      refine J.run 5 rfl x0 ?_
      try dsimp only
      refine J.icmp rfl rfl rfl ⟨⟨show -2147483648 ≤ H.2.2.1 67 0 (H.2.2.1 112 0 (6000 * n + i)) by omega, show H.2.2.1 67 0 (H.2.2.1 112 0 (6000 * n + i)) ≤ 2147483647 by omega⟩, by omega, by omega⟩ (fun hc => skip fun z => z.2.2.elim hc3 hc) (fun hc4 => go ⟨e1, e2, Or.inr (Classical.not_not.mp hc4)⟩)
theorem j_isMost {n kind r b : Int} (hN : mNow H n) (hP : mPow H n) (hk : 0 ≤ kind ∧ kind ≤ 2) (hr : 0 ≤ r ∧ r < 32) (hb : -2 ≤ b ∧ b < 300) : J true (d + 1) 133 w (0, jargs 0 [jT, .inl n, .inl kind, .inl r, .inl b], [], H) (jN fun v w' H' => w' = w ∧ ∃ g', H' = hR H 81 g' ∧ mSeen H n kind r b (H.2.2.1 113 0 n) g' ∧ v = some (.inl (if 11 ≤ jcnt g' 16 then 1 else 0))) := by
  refine J.run0 1 rfl ?_
  try dsimp only
  refine J.inv rfl rfl rfl rfl rfl rfl jDr rfl rfl rfl rfl rfl j_clear ?_
  rintro v w' H' ⟨rfl, rfl, g, rfl, hg⟩
  refine J.run0 2 rfl ?_
  try dsimp only
  have hM := hN.2.1
  refine j_isMost_loop hN hP hk hr hb (H.2.2.1 113 0 n).toNat 0 g _ (by omega) (by omega) (fun k h1 h2 => ?_) (Or.inl rfl)
  refine ⟨Or.inl (hg k h1 h2), fun z => ?_, fun ⟨j, a, b', _⟩ => by omega⟩
  have := hg k h1 h2
  omega
end JM2
